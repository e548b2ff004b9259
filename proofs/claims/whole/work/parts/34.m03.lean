theorem dX12_pointer_0 : decode cX12_pointer 0 = .ok (.aload_n 0, 1) := by decide +kernel
theorem dX12_pointer_1 : decode cX12_pointer 1 = .ok (.iconst 0, 1) := by decide +kernel
theorem dX12_pointer_2 : decode cX12_pointer 2 = .ok (.putfield 122, 3) := by decide +kernel
theorem dX12_pointer_5 : decode cX12_pointer 5 = .ok (.aload_n 0, 1) := by decide +kernel
theorem dX12_pointer_6 : decode cX12_pointer 6 = .ok (.iconst 0, 1) := by decide +kernel
theorem dX12_pointer_7 : decode cX12_pointer 7 = .ok (.putfield 125, 3) := by decide +kernel
theorem dX12_pointer_10 : decode cX12_pointer 10 = .ok (.iload_n 1, 1) := by decide +kernel
theorem dX12_pointer_11 : decode cX12_pointer 11 = .ok (.invokestatic 280, 3) := by decide +kernel
theorem dX12_pointer_14 : decode cX12_pointer 14 = .ok (.ifCond .ne 9, 3) := by decide +kernel
theorem dX12_pointer_17 : decode cX12_pointer 17 = .ok (.aload_n 0, 1) := by decide +kernel
theorem dX12_pointer_18 : decode cX12_pointer 18 = .ok (.iconst 2, 1) := by decide +kernel
theorem dX12_pointer_19 : decode cX12_pointer 19 = .ok (.invokevirtual 283, 3) := by decide +kernel
theorem dX12_pointer_22 : decode cX12_pointer 22 = .ok (.ireturn, 1) := by decide +kernel
theorem dX12_pointer_23 : decode cX12_pointer 23 = .ok (.iload_n 2, 1) := by decide +kernel
theorem dX12_pointer_24 : decode cX12_pointer 24 = .ok (.invokestatic 331, 3) := by decide +kernel
theorem dX12_pointer_27 : decode cX12_pointer 27 = .ok (.ifCond .eq 24, 3) := by decide +kernel
theorem dX12_pointer_30 : decode cX12_pointer 30 = .ok (.iload_n 3, 1) := by decide +kernel
theorem dX12_pointer_31 : decode cX12_pointer 31 = .ok (.invokestatic 331, 3) := by decide +kernel
theorem dX12_pointer_34 : decode cX12_pointer 34 = .ok (.ifCond .eq 17, 3) := by decide +kernel
theorem dX12_pointer_37 : decode cX12_pointer 37 = .ok (.iload_n 3, 1) := by decide +kernel
theorem dX12_pointer_38 : decode cX12_pointer 38 = .ok (.iload_n 2, 1) := by decide +kernel
theorem dX12_pointer_39 : decode cX12_pointer 39 = .ok (.isub, 1) := by decide +kernel
theorem dX12_pointer_40 : decode cX12_pointer 40 = .ok (.i2l, 1) := by decide +kernel
theorem dX12_pointer_41 : decode cX12_pointer 41 = .ok (.lconst 0, 1) := by decide +kernel
theorem dX12_pointer_42 : decode cX12_pointer 42 = .ok (.ldc2_w 338, 3) := by decide +kernel
theorem dX12_pointer_45 : decode cX12_pointer 45 = .ok (.invokestatic 239, 3) := by decide +kernel
theorem dX12_pointer_48 : decode cX12_pointer 48 = .ok (.ifCond .ne 9, 3) := by decide +kernel
theorem dX12_pointer_51 : decode cX12_pointer 51 = .ok (.aload_n 0, 1) := by decide +kernel
theorem dX12_pointer_52 : decode cX12_pointer 52 = .ok (.iconst 5, 1) := by decide +kernel
theorem dX12_pointer_53 : decode cX12_pointer 53 = .ok (.invokevirtual 283, 3) := by decide +kernel
theorem dX12_pointer_56 : decode cX12_pointer 56 = .ok (.ireturn, 1) := by decide +kernel
theorem dX12_pointer_57 : decode cX12_pointer 57 = .ok (.aload_n 0, 1) := by decide +kernel
theorem dX12_pointer_58 : decode cX12_pointer 58 = .ok (.iload_n 1, 1) := by decide +kernel
theorem dX12_pointer_59 : decode cX12_pointer 59 = .ok (.iload_n 2, 1) := by decide +kernel
theorem dX12_pointer_60 : decode cX12_pointer 60 = .ok (.iconst 1, 1) := by decide +kernel
theorem dX12_pointer_61 : decode cX12_pointer 61 = .ok (.invokevirtual 334, 3) := by decide +kernel
theorem dX12_pointer_64 : decode cX12_pointer 64 = .ok (.istore 4, 2) := by decide +kernel
theorem dX12_pointer_66 : decode cX12_pointer 66 = .ok (.iload_n 2, 1) := by decide +kernel
theorem dX12_pointer_67 : decode cX12_pointer 67 = .ok (.iconst 1, 1) := by decide +kernel
theorem dX12_pointer_68 : decode cX12_pointer 68 = .ok (.iadd, 1) := by decide +kernel
theorem dX12_pointer_69 : decode cX12_pointer 69 = .ok (.istore 5, 2) := by decide +kernel
theorem dX12_pointer_71 : decode cX12_pointer 71 = .ok (.iload 5, 2) := by decide +kernel
theorem dX12_pointer_73 : decode cX12_pointer 73 = .ok (.iload_n 3, 1) := by decide +kernel
theorem dX12_pointer_74 : decode cX12_pointer 74 = .ok (.if_icmp .gt 75, 3) := by decide +kernel
theorem dX12_pointer_77 : decode cX12_pointer 77 = .ok (.aload_n 0, 1) := by decide +kernel
theorem dX12_pointer_78 : decode cX12_pointer 78 = .ok (.iload_n 1, 1) := by decide +kernel
theorem dX12_pointer_79 : decode cX12_pointer 79 = .ok (.iload 5, 2) := by decide +kernel
theorem dX12_pointer_81 : decode cX12_pointer 81 = .ok (.iconst 1, 1) := by decide +kernel
theorem dX12_pointer_82 : decode cX12_pointer 82 = .ok (.invokevirtual 334, 3) := by decide +kernel
theorem dX12_pointer_85 : decode cX12_pointer 85 = .ok (.istore 6, 2) := by decide +kernel
theorem dX12_pointer_87 : decode cX12_pointer 87 = .ok (.iload 6, 2) := by decide +kernel
theorem dX12_pointer_89 : decode cX12_pointer 89 = .ok (.iload 4, 2) := by decide +kernel
theorem dX12_pointer_91 : decode cX12_pointer 91 = .ok (.aload_n 0, 1) := by decide +kernel
theorem dX12_pointer_92 : decode cX12_pointer 92 = .ok (.getfield 41, 3) := by decide +kernel
theorem dX12_pointer_95 : decode cX12_pointer 95 = .ok (.iload_n 1, 1) := by decide +kernel
theorem dX12_pointer_96 : decode cX12_pointer 96 = .ok (.iaload, 1) := by decide +kernel
theorem dX12_pointer_97 : decode cX12_pointer 97 = .ok (.iadd, 1) := by decide +kernel
theorem dX12_pointer_98 : decode cX12_pointer 98 = .ok (.if_icmp .le 15, 3) := by decide +kernel
theorem dX12_pointer_101 : decode cX12_pointer 101 = .ok (.iload 6, 2) := by decide +kernel
theorem dX12_pointer_103 : decode cX12_pointer 103 = .ok (.aload_n 0, 1) := by decide +kernel
theorem dX12_pointer_104 : decode cX12_pointer 104 = .ok (.getfield 41, 3) := by decide +kernel
theorem dX12_pointer_107 : decode cX12_pointer 107 = .ok (.iload_n 1, 1) := by decide +kernel
theorem dX12_pointer_108 : decode cX12_pointer 108 = .ok (.iaload, 1) := by decide +kernel
theorem dX12_pointer_109 : decode cX12_pointer 109 = .ok (.isub, 1) := by decide +kernel
theorem dX12_pointer_110 : decode cX12_pointer 110 = .ok (.goto 31, 3) := by decide +kernel
theorem dX12_pointer_113 : decode cX12_pointer 113 = .ok (.iload 6, 2) := by decide +kernel
theorem dX12_pointer_115 : decode cX12_pointer 115 = .ok (.iload 4, 2) := by decide +kernel
theorem dX12_pointer_117 : decode cX12_pointer 117 = .ok (.aload_n 0, 1) := by decide +kernel
theorem dX12_pointer_118 : decode cX12_pointer 118 = .ok (.getfield 41, 3) := by decide +kernel
theorem dX12_pointer_121 : decode cX12_pointer 121 = .ok (.iload_n 1, 1) := by decide +kernel
theorem dX12_pointer_122 : decode cX12_pointer 122 = .ok (.iaload, 1) := by decide +kernel
theorem dX12_pointer_123 : decode cX12_pointer 123 = .ok (.isub, 1) := by decide +kernel
theorem dX12_pointer_124 : decode cX12_pointer 124 = .ok (.if_icmp .ge 15, 3) := by decide +kernel
theorem dX12_pointer_127 : decode cX12_pointer 127 = .ok (.iload 6, 2) := by decide +kernel
theorem dX12_pointer_129 : decode cX12_pointer 129 = .ok (.aload_n 0, 1) := by decide +kernel
theorem dX12_pointer_130 : decode cX12_pointer 130 = .ok (.getfield 41, 3) := by decide +kernel
theorem dX12_pointer_133 : decode cX12_pointer 133 = .ok (.iload_n 1, 1) := by decide +kernel
theorem dX12_pointer_134 : decode cX12_pointer 134 = .ok (.iaload, 1) := by decide +kernel
theorem dX12_pointer_135 : decode cX12_pointer 135 = .ok (.iadd, 1) := by decide +kernel
theorem dX12_pointer_136 : decode cX12_pointer 136 = .ok (.goto 5, 3) := by decide +kernel
theorem dX12_pointer_139 : decode cX12_pointer 139 = .ok (.iload 4, 2) := by decide +kernel
theorem dX12_pointer_141 : decode cX12_pointer 141 = .ok (.istore 4, 2) := by decide +kernel
theorem dX12_pointer_143 : decode cX12_pointer 143 = .ok (.iinc 5 1, 3) := by decide +kernel
theorem dX12_pointer_146 : decode cX12_pointer 146 = .ok (.goto (-75), 3) := by decide +kernel
theorem dX12_pointer_149 : decode cX12_pointer 149 = .ok (.iload 4, 2) := by decide +kernel
theorem dX12_pointer_151 : decode cX12_pointer 151 = .ok (.ireturn, 1) := by decide +kernel
noncomputable def f_X12_pointer_71 (v1 : Int32) (v3 : Int32) (v4 : Int32) (v5 : Int32) (σ : am_H) : Option ((Int32 × Int32) ⊕ (Int32)) :=
  if v3 < v5 then
   (some (.inr v4))
  else
  (f_X12_heightOf v1 v5 true σ).bind fun p2 =>
  (am_ix 3 v1).bind fun j3 =>
  if (v4 + (σ.1 1322 0 j3)) < p2 then
   ((am_ix 3 v1).bind fun j5 =>
   some (.inl ((p2 - (σ.1 1322 0 j5)), (v5 + 1))))
  else
  (am_ix 3 v1).bind fun j6 =>
  if p2 < (v4 - (σ.1 1322 0 j6)) then
   ((am_ix 3 v1).bind fun j8 =>
   some (.inl ((p2 + (σ.1 1322 0 j8)), (v5 + 1))))
  else
  some (.inl (v4, (v5 + 1)))
set_option maxRecDepth 100000 in
set_option maxHeartbeats 4000000 in
theorem q_X12_pointer_71 {X : am_X} (hX : am_ks X = am_ksM) {Q : Option Value → am_H → Prop} (v1 : Int32) (v3 : Int32) (v4 : Int32) (v5 : Int32) (σ : am_H) {o : (Int32 × Int32) ⊕ (Int32)} (hf : f_X12_pointer_71 v1 v3 v4 v5 σ = some o) (hk0 : ∀ s, o = .inl s → am_G X gm_X12_pointer Q 71 [(0, .ref (am_ad X 12 0)), (1, .int v1), (3, .int v3), (4, .int s.1), (5, .int s.2)] [] σ) (hk1 : ∀ t, o = .inr t → am_G X gm_X12_pointer Q 149 [(4, .int t)] [] σ) : am_G X gm_X12_pointer Q 71 [(0, .ref (am_ad X 12 0)), (1, .int v1), (3, .int v3), (4, .int v4), (5, .int v5)] [] σ := by
  unfold f_X12_pointer_71 at hf
  refine g_iload (pc := 71) 4 rfl dX12_pointer_71 ?_
  refine g_iload_n (pc := 73) 2 rfl dX12_pointer_73 rfl ?_
  refine bi_gt (pc := 74) 149 dX12_pointer_74 rfl (fun c1 => ?_) (fun c1 => ?_)
  · replace hf := am_ifT c1 hf
    have hz := hk1 _ (Option.some.inj hf).symm
    exact am_sub [3] rfl hz
  replace hf := am_ifF c1 hf
  refine g_aload_n (pc := 77) 0 rfl dX12_pointer_77 rfl ?_
  refine g_iload_n (pc := 78) 1 rfl dX12_pointer_78 rfl ?_
  refine g_iload (pc := 79) 4 rfl dX12_pointer_79 ?_
  refine g_iconst (pc := 81) (v := 1) dX12_pointer_81 (by decide) ?_
  obtain ⟨p2, hp2, hf⟩ := am_bd hf
  refine g_cV (pc := 82) (As := [.int v1, .int v5, .int (am_b true)]) (st := []) (st1 := [.int p2]) (in_12 hX (by omega)) kk_12 mV_X12_heightOf ln_X12_334 rfl (Nat.le_of_ble_eq_true rfl) (Nat.le_of_ble_eq_true rfl) (k_X12_heightOf hX v1 v5 true σ hp2) dX12_pointer_82 rfl rfl ?_
  refine g_istore (pc := 85) [(6, .int p2), (0, .ref (am_ad X 12 0)), (1, .int v1), (3, .int v3), (4, .int v4), (5, .int v5)] dX12_pointer_85 (Nat.le_of_ble_eq_true rfl) rfl ?_
  refine g_iload (pc := 87) 0 rfl dX12_pointer_87 ?_
  refine g_iload (pc := 89) 4 rfl dX12_pointer_89 ?_
  refine g_aload_n (pc := 91) 1 rfl dX12_pointer_91 rfl ?_
  refine g_getC (pc := 92) (e := 0) (in_12 hX (by omega)) fr_X12_41 dX12_pointer_92 rfl ?_
  refine g_iload_n (pc := 95) 2 rfl dX12_pointer_95 rfl ?_
  obtain ⟨j3, hj3, hf⟩ := am_bd hf
  have gj3 := am_ix_lt hj3
  refine g_aI (pc := 96) (in_1322 hX (by omega)) ak_1322 hj3 dX12_pointer_96 ?_
  refine g_iadd (pc := 97) dX12_pointer_97 ?_
  refine bi_le (pc := 98) 113 dX12_pointer_98 rfl (fun c4 => ?_) (fun c4 => ?_)
  · replace hf := am_ifT c4 hf
    refine g_iload (pc := 101) 0 rfl dX12_pointer_101 ?_
    refine g_aload_n (pc := 103) 1 rfl dX12_pointer_103 rfl ?_
    refine g_getC (pc := 104) (e := 0) (in_12 hX (by omega)) fr_X12_41 dX12_pointer_104 rfl ?_
    refine g_iload_n (pc := 107) 2 rfl dX12_pointer_107 rfl ?_
    obtain ⟨j5, hj5, hf⟩ := am_bd hf
    have gj5 := am_ix_lt hj5
    refine g_aI (pc := 108) (in_1322 hX (by omega)) ak_1322 hj5 dX12_pointer_108 ?_
    refine g_isub (pc := 109) dX12_pointer_109 ?_
    refine g_goto (pc := 110) 141 dX12_pointer_110 rfl ?_
    refine g_istore (pc := 141) [(4, .int (p2 - (σ.1 1322 0 j5))), (6, .int p2), (0, .ref (am_ad X 12 0)), (1, .int v1), (3, .int v3), (5, .int v5)] dX12_pointer_141 (Nat.le_of_ble_eq_true rfl) rfl ?_
    refine g_iinc (pc := 143) (v := (v5 + 1)) 5 [(5, .int (v5 + 1)), (4, .int (p2 - (σ.1 1322 0 j5))), (6, .int p2), (0, .ref (am_ad X 12 0)), (1, .int v1), (3, .int v3)] dX12_pointer_143 rfl rfl (Nat.le_of_ble_eq_true rfl) rfl ?_
    refine g_goto (pc := 146) 71 dX12_pointer_146 rfl ?_
    have hz := hk0 _ (Option.some.inj hf).symm
    exact am_sub [3, 4, 5, 1, 0] rfl hz
  replace hf := am_ifF c4 hf
  refine g_iload (pc := 113) 0 rfl dX12_pointer_113 ?_
  refine g_iload (pc := 115) 4 rfl dX12_pointer_115 ?_
  refine g_aload_n (pc := 117) 1 rfl dX12_pointer_117 rfl ?_
  refine g_getC (pc := 118) (e := 0) (in_12 hX (by omega)) fr_X12_41 dX12_pointer_118 rfl ?_
  refine g_iload_n (pc := 121) 2 rfl dX12_pointer_121 rfl ?_
  obtain ⟨j6, hj6, hf⟩ := am_bd hf
  have gj6 := am_ix_lt hj6
  refine g_aI (pc := 122) (in_1322 hX (by omega)) ak_1322 hj6 dX12_pointer_122 ?_
  refine g_isub (pc := 123) dX12_pointer_123 ?_
  refine bi_ge (pc := 124) 139 dX12_pointer_124 rfl (fun c7 => ?_) (fun c7 => ?_)
  · replace hf := am_ifT c7 hf
    refine g_iload (pc := 127) 0 rfl dX12_pointer_127 ?_
    refine g_aload_n (pc := 129) 1 rfl dX12_pointer_129 rfl ?_
    refine g_getC (pc := 130) (e := 0) (in_12 hX (by omega)) fr_X12_41 dX12_pointer_130 rfl ?_
    refine g_iload_n (pc := 133) 2 rfl dX12_pointer_133 rfl ?_
    obtain ⟨j8, hj8, hf⟩ := am_bd hf
    have gj8 := am_ix_lt hj8
    refine g_aI (pc := 134) (in_1322 hX (by omega)) ak_1322 hj8 dX12_pointer_134 ?_
    refine g_iadd (pc := 135) dX12_pointer_135 ?_
    refine g_goto (pc := 136) 141 dX12_pointer_136 rfl ?_
    refine g_istore (pc := 141) [(4, .int (p2 + (σ.1 1322 0 j8))), (6, .int p2), (0, .ref (am_ad X 12 0)), (1, .int v1), (3, .int v3), (5, .int v5)] dX12_pointer_141 (Nat.le_of_ble_eq_true rfl) rfl ?_
    refine g_iinc (pc := 143) (v := (v5 + 1)) 5 [(5, .int (v5 + 1)), (4, .int (p2 + (σ.1 1322 0 j8))), (6, .int p2), (0, .ref (am_ad X 12 0)), (1, .int v1), (3, .int v3)] dX12_pointer_143 rfl rfl (Nat.le_of_ble_eq_true rfl) rfl ?_
    refine g_goto (pc := 146) 71 dX12_pointer_146 rfl ?_
    have hz := hk0 _ (Option.some.inj hf).symm
    exact am_sub [3, 4, 5, 1, 0] rfl hz
  replace hf := am_ifF c7 hf
  refine g_iload (pc := 139) 4 rfl dX12_pointer_139 ?_
  refine g_istore (pc := 141) [(4, .int v4), (6, .int p2), (0, .ref (am_ad X 12 0)), (1, .int v1), (3, .int v3), (5, .int v5)] dX12_pointer_141 (Nat.le_of_ble_eq_true rfl) rfl ?_
  refine g_iinc (pc := 143) (v := (v5 + 1)) 5 [(5, .int (v5 + 1)), (4, .int v4), (6, .int p2), (0, .ref (am_ad X 12 0)), (1, .int v1), (3, .int v3)] dX12_pointer_143 rfl rfl (Nat.le_of_ble_eq_true rfl) rfl ?_
  refine g_goto (pc := 146) 71 dX12_pointer_146 rfl ?_
  have hz := hk0 _ (Option.some.inj hf).symm
  exact am_sub [3, 4, 5, 1, 0] rfl hz
set_option maxRecDepth 100000 in
set_option maxHeartbeats 4000000 in
theorem l_X12_pointer_71 {X : am_X} (hX : am_ks X = am_ksM) {Q : Option Value → am_H → Prop} (v1 : Int32) (v3 : Int32) (σ : am_H) (s : Int32 × Int32) {o : Int32} (hf : am_loop (fun s => f_X12_pointer_71 v1 v3 s.1 s.2 σ) s = some o) (hk1 : ∀ t, o = t → am_G X gm_X12_pointer Q 149 [(4, .int t)] [] σ) : am_G X gm_X12_pointer Q 71 [(0, .ref (am_ad X 12 0)), (1, .int v1), (3, .int v3), (4, .int s.1), (5, .int s.2)] [] σ := by
  refine am_loop_ind (P := fun s => am_G X gm_X12_pointer Q 71 [(0, .ref (am_ad X 12 0)), (1, .int v1), (3, .int v3), (4, .int s.1), (5, .int s.2)] [] σ) (K := fun r => r = o) ?_ hf rfl
  intro s o1 hb hi hr
  exact q_X12_pointer_71 hX v1 v3 s.1 s.2  σ hb hi (fun t e => hk1 t (hr _ e).symm)
noncomputable def f_X12_pointer_51 (σ : am_H) : Option (Int32 × am_H) :=
  (f_X12_refuse 5 σ).bind fun p1 =>
  some (p1.1, p1.2)
set_option maxRecDepth 100000 in
set_option maxHeartbeats 4000000 in
theorem q_X12_pointer_51 {X : am_X} (hX : am_ks X = am_ksM) {Q : Option Value → am_H → Prop} (σ : am_H) {o : Int32 × am_H} (hf : f_X12_pointer_51 σ = some o) (hk : Q (some (.int o.1)) o.2) : am_G X gm_X12_pointer Q 51 [(0, .ref (am_ad X 12 0))] [] σ := by
  unfold f_X12_pointer_51 at hf
  refine g_aload_n (pc := 51) 0 rfl dX12_pointer_51 rfl ?_
  refine g_iconst (pc := 52) (v := 5) dX12_pointer_52 (by decide) ?_
  obtain ⟨p1, hp1, hf⟩ := am_bd hf
  refine g_cV (pc := 53) (As := [.int 5]) (st := []) (st1 := [.int p1.1]) (in_12 hX (by omega)) kk_12 mV_X12_refuse ln_X12_283 rfl (Nat.le_of_ble_eq_true rfl) (Nat.le_of_ble_eq_true rfl) (k_X12_refuse hX 5 σ hp1) dX12_pointer_53 rfl rfl ?_
  have ho := Option.some.inj hf
  subst ho
  exact g_ireturn (pc := 56) (st := []) rfl dX12_pointer_56 hk
noncomputable def f_X12_pointer (v1 : Int32) (v2 : Int32) (v3 : Int32) (σ : am_H) : Option (Int32 × am_H) :=
  (some (am_wI σ 12 0 1 0)).bind fun s1 =>
  (some (am_wI s1 12 0 0 0)).bind fun s2 =>
  (f_X12_isMachine v1 s2).bind fun p3 =>
  if p3 = true then
   ((f_X12_isHour v2 s2).bind fun p5 =>
   if p5 = true then
    ((f_X12_isHour v3 s2).bind fun p7 =>
    if p7 = true then
     ((f_X12_isIn (Int32.toInt64 (v3 - v2)) 0 2000 s2).bind fun p9 =>
     if p9 = true then
      ((f_X12_heightOf v1 v2 true s2).bind fun p11 =>
      (am_loop (fun s => f_X12_pointer_71 v1 v3 s.1 s.2 s2) (p11, (v2 + 1))).bind fun w12 =>
      some (w12, s2))
     else
     f_X12_pointer_51 s2)
    else
    f_X12_pointer_51 s2)
   else
   f_X12_pointer_51 s2)
  else
  (f_X12_refuse 2 s2).bind fun p13 =>
  some (p13.1, p13.2)
set_option maxRecDepth 100000 in
set_option maxHeartbeats 4000000 in
theorem q_X12_pointer {X : am_X} (hX : am_ks X = am_ksM) {Q : Option Value → am_H → Prop} (v1 : Int32) (v2 : Int32) (v3 : Int32) (σ : am_H) {o : Int32 × am_H} (hf : f_X12_pointer v1 v2 v3 σ = some o) (hk : Q (some (.int o.1)) o.2) : am_G X gm_X12_pointer Q 0 [(0, .ref (am_ad X 12 0)), (1, .int v1), (2, .int v2), (3, .int v3)] [] σ := by
  unfold f_X12_pointer at hf
  refine g_aload_n (pc := 0) 0 rfl dX12_pointer_0 rfl ?_
  refine g_iconst (pc := 1) (v := 0) dX12_pointer_1 (by decide) ?_
  obtain ⟨s1, hs1, hf⟩ := am_bd hf
  refine g_setI (pc := 2) (in_12 hX (by omega)) fr_X12_122 dX12_pointer_2 (Option.some.inj hs1) ?_
  refine g_aload_n (pc := 5) 0 rfl dX12_pointer_5 rfl ?_
  refine g_iconst (pc := 6) (v := 0) dX12_pointer_6 (by decide) ?_
  obtain ⟨s2, hs2, hf⟩ := am_bd hf
  refine g_setI (pc := 7) (in_12 hX (by omega)) fr_X12_125 dX12_pointer_7 (Option.some.inj hs2) ?_
  refine g_iload_n (pc := 10) 1 rfl dX12_pointer_10 rfl ?_
  obtain ⟨p3, hp3, hf⟩ := am_bd hf
  refine g_cS (pc := 11) (As := [.int v1]) (st := []) (st1 := [.int (am_b p3)]) mS_X12_isMachine ln_X12_280 rfl (Nat.le_of_ble_eq_true rfl) (Nat.le_of_ble_eq_true rfl) (k_X12_isMachine hX v1 s2 hp3) dX12_pointer_11 rfl rfl ?_
  refine bt_ne (pc := 14) 23 dX12_pointer_14 rfl (fun c4 => ?_) (fun c4 => ?_)
  · replace hf := am_ifT c4 hf
    refine g_iload_n (pc := 23) 2 rfl dX12_pointer_23 rfl ?_
    obtain ⟨p5, hp5, hf⟩ := am_bd hf
    refine g_cS (pc := 24) (As := [.int v2]) (st := []) (st1 := [.int (am_b p5)]) mS_X12_isHour ln_X12_331 rfl (Nat.le_of_ble_eq_true rfl) (Nat.le_of_ble_eq_true rfl) (k_X12_isHour hX v2 s2 hp5) dX12_pointer_24 rfl rfl ?_
    refine bt_eq (pc := 27) 51 dX12_pointer_27 rfl (fun c6 => ?_) (fun c6 => ?_)
    · replace hf := am_ifT c6 hf
      refine g_iload_n (pc := 30) 3 rfl dX12_pointer_30 rfl ?_
      obtain ⟨p7, hp7, hf⟩ := am_bd hf
      refine g_cS (pc := 31) (As := [.int v3]) (st := []) (st1 := [.int (am_b p7)]) mS_X12_isHour ln_X12_331 rfl (Nat.le_of_ble_eq_true rfl) (Nat.le_of_ble_eq_true rfl) (k_X12_isHour hX v3 s2 hp7) dX12_pointer_31 rfl rfl ?_
      refine bt_eq (pc := 34) 51 dX12_pointer_34 rfl (fun c8 => ?_) (fun c8 => ?_)
      · replace hf := am_ifT c8 hf
        refine g_iload_n (pc := 37) 3 rfl dX12_pointer_37 rfl ?_
        refine g_iload_n (pc := 38) 2 rfl dX12_pointer_38 rfl ?_
        refine g_isub (pc := 39) dX12_pointer_39 ?_
        refine g_i2l (pc := 40) dX12_pointer_40 ?_
        refine g_lconst (pc := 41) (v := 0) dX12_pointer_41 (by decide) ?_
        refine g_ldc2 (pc := 42) (v := 2000) (tb_9 (List.mem_of_getElem? (i := 67) (by decide +kernel))) dX12_pointer_42 ?_
        obtain ⟨p9, hp9, hf⟩ := am_bd hf
        refine g_cS (pc := 45) (As := [.long (Int32.toInt64 (v3 - v2)), .long 0, .long 2000]) (st := []) (st1 := [.int (am_b p9)]) mS_X12_isIn ln_X12_239 rfl (Nat.le_of_ble_eq_true rfl) (Nat.le_of_ble_eq_true rfl) (k_X12_isIn hX (Int32.toInt64 (v3 - v2)) 0 2000 s2 hp9) dX12_pointer_45 rfl rfl ?_
        refine bt_ne (pc := 48) 57 dX12_pointer_48 rfl (fun c10 => ?_) (fun c10 => ?_)
        · replace hf := am_ifT c10 hf
          refine g_aload_n (pc := 57) 0 rfl dX12_pointer_57 rfl ?_
          refine g_iload_n (pc := 58) 1 rfl dX12_pointer_58 rfl ?_
          refine g_iload_n (pc := 59) 2 rfl dX12_pointer_59 rfl ?_
          refine g_iconst (pc := 60) (v := 1) dX12_pointer_60 (by decide) ?_
          obtain ⟨p11, hp11, hf⟩ := am_bd hf
          refine g_cV (pc := 61) (As := [.int v1, .int v2, .int (am_b true)]) (st := []) (st1 := [.int p11]) (in_12 hX (by omega)) kk_12 mV_X12_heightOf ln_X12_334 rfl (Nat.le_of_ble_eq_true rfl) (Nat.le_of_ble_eq_true rfl) (k_X12_heightOf hX v1 v2 true s2 hp11) dX12_pointer_61 rfl rfl ?_
          refine g_istore (pc := 64) [(4, .int p11), (0, .ref (am_ad X 12 0)), (1, .int v1), (2, .int v2), (3, .int v3)] dX12_pointer_64 (Nat.le_of_ble_eq_true rfl) rfl ?_
          refine g_iload_n (pc := 66) 3 rfl dX12_pointer_66 rfl ?_
          refine g_iconst (pc := 67) (v := 1) dX12_pointer_67 (by decide) ?_
          refine g_iadd (pc := 68) dX12_pointer_68 ?_
          refine g_istore (pc := 69) [(5, .int (v2 + 1)), (4, .int p11), (0, .ref (am_ad X 12 0)), (1, .int v1), (2, .int v2), (3, .int v3)] dX12_pointer_69 (Nat.le_of_ble_eq_true rfl) rfl ?_
          obtain ⟨w12, hw12, hf⟩ := am_bd hf
          refine am_sub [2, 3, 5, 1, 0] rfl (l_X12_pointer_71 hX v1 v3  s2 (p11, (v2 + 1)) hw12 ?_)
          intro t e
          subst e
          refine g_iload (pc := 149) 0 rfl dX12_pointer_149 ?_
          have ho := Option.some.inj hf
          subst ho
          exact g_ireturn (pc := 151) (st := []) rfl dX12_pointer_151 hk
        replace hf := am_ifF c10 hf
        exact am_sub [0] rfl (q_X12_pointer_51 hX s2 hf hk)
      replace hf := am_ifF c8 hf
      exact am_sub [0] rfl (q_X12_pointer_51 hX s2 hf hk)
    replace hf := am_ifF c6 hf
    exact am_sub [0] rfl (q_X12_pointer_51 hX s2 hf hk)
  replace hf := am_ifF c4 hf
  refine g_aload_n (pc := 17) 0 rfl dX12_pointer_17 rfl ?_
  refine g_iconst (pc := 18) (v := 2) dX12_pointer_18 (by decide) ?_
  obtain ⟨p13, hp13, hf⟩ := am_bd hf
  refine g_cV (pc := 19) (As := [.int 2]) (st := []) (st1 := [.int p13.1]) (in_12 hX (by omega)) kk_12 mV_X12_refuse ln_X12_283 rfl (Nat.le_of_ble_eq_true rfl) (Nat.le_of_ble_eq_true rfl) (k_X12_refuse hX 2 s2 hp13) dX12_pointer_19 rfl rfl ?_
  have ho := Option.some.inj hf
  subst ho
  exact g_ireturn (pc := 22) (st := []) rfl dX12_pointer_22 hk
theorem k_X12_pointer {X : am_X} (hX : am_ks X = am_ksM) (v1 : Int32) (v2 : Int32) (v3 : Int32) (σ : am_H) {o : Int32 × am_H} (hf : f_X12_pointer v1 v2 v3 σ = some o) : am_C X gm_X12_pointer [.ref (am_ad X 12 0), .int v1, .int v2, .int v3] σ (am_is (some (.int o.1)) o.2) :=
  am_ofG rfl (Nat.le_of_ble_eq_true rfl) rfl (q_X12_pointer hX v1 v2 v3 σ hf ⟨rfl, rfl⟩)
theorem dX12_offOf_0 : decode cX12_offOf 0 = .ok (.ldc2_w 316, 3) := by decide +kernel
theorem dX12_offOf_3 : decode cX12_offOf 3 = .ok (.aload_n 0, 1) := by decide +kernel
theorem dX12_offOf_4 : decode cX12_offOf 4 = .ok (.iload_n 1, 1) := by decide +kernel
theorem dX12_offOf_5 : decode cX12_offOf 5 = .ok (.iload_n 2, 1) := by decide +kernel
theorem dX12_offOf_6 : decode cX12_offOf 6 = .ok (.iconst 0, 1) := by decide +kernel
theorem dX12_offOf_7 : decode cX12_offOf 7 = .ok (.invokevirtual 297, 3) := by decide +kernel
theorem dX12_offOf_10 : decode cX12_offOf 10 = .ok (.i2l, 1) := by decide +kernel
theorem dX12_offOf_11 : decode cX12_offOf 11 = .ok (.lmul, 1) := by decide +kernel
theorem dX12_offOf_12 : decode cX12_offOf 12 = .ok (.lload 5, 2) := by decide +kernel
theorem dX12_offOf_14 : decode cX12_offOf 14 = .ok (.lmul, 1) := by decide +kernel
theorem dX12_offOf_15 : decode cX12_offOf 15 = .ok (.lload_n 3, 1) := by decide +kernel
theorem dX12_offOf_16 : decode cX12_offOf 16 = .ok (.aload_n 0, 1) := by decide +kernel
theorem dX12_offOf_17 : decode cX12_offOf 17 = .ok (.iload_n 1, 1) := by decide +kernel
theorem dX12_offOf_18 : decode cX12_offOf 18 = .ok (.iload_n 2, 1) := by decide +kernel
theorem dX12_offOf_19 : decode cX12_offOf 19 = .ok (.iconst 1, 1) := by decide +kernel
theorem dX12_offOf_20 : decode cX12_offOf 20 = .ok (.invokevirtual 297, 3) := by decide +kernel
theorem dX12_offOf_23 : decode cX12_offOf 23 = .ok (.i2l, 1) := by decide +kernel
theorem dX12_offOf_24 : decode cX12_offOf 24 = .ok (.lmul, 1) := by decide +kernel
theorem dX12_offOf_25 : decode cX12_offOf 25 = .ok (.lsub, 1) := by decide +kernel
theorem dX12_offOf_26 : decode cX12_offOf 26 = .ok (.invokestatic 131, 3) := by decide +kernel
theorem dX12_offOf_29 : decode cX12_offOf 29 = .ok (.lreturn, 1) := by decide +kernel
noncomputable def f_X12_offOf (v1 : Int32) (v2 : Int32) (v3 : Int64) (v5 : Int64) (σ : am_H) : Option (Int64) :=
  (f_X12_of v1 v2 0 σ).bind fun p1 =>
  (f_X12_of v1 v2 1 σ).bind fun p2 =>
  some (am_abL (((24 * (Int32.toInt64 p1)) * v5) - (v3 * (Int32.toInt64 p2))))
set_option maxRecDepth 100000 in
set_option maxHeartbeats 4000000 in
theorem q_X12_offOf {X : am_X} (hX : am_ks X = am_ksM) {Q : Option Value → am_H → Prop} (v1 : Int32) (v2 : Int32) (v3 : Int64) (v5 : Int64) (σ : am_H) {o : Int64} (hf : f_X12_offOf v1 v2 v3 v5 σ = some o) (hk : Q (some (.long o)) σ) : am_G X gm_X12_offOf Q 0 [(0, .ref (am_ad X 12 0)), (1, .int v1), (2, .int v2), (3, .long v3), (5, .long v5)] [] σ := by
  unfold f_X12_offOf at hf
  refine g_ldc2 (pc := 0) (v := 24) (tb_9 (List.mem_of_getElem? (i := 51) (by decide +kernel))) dX12_offOf_0 ?_
  refine g_aload_n (pc := 3) 0 rfl dX12_offOf_3 rfl ?_
  refine g_iload_n (pc := 4) 1 rfl dX12_offOf_4 rfl ?_
  refine g_iload_n (pc := 5) 2 rfl dX12_offOf_5 rfl ?_
  refine g_iconst (pc := 6) (v := 0) dX12_offOf_6 (by decide) ?_
  obtain ⟨p1, hp1, hf⟩ := am_bd hf
  refine g_cV (pc := 7) (As := [.int v1, .int v2, .int 0]) (st := [.long 24]) (st1 := [.int p1, .long 24]) (in_12 hX (by omega)) kk_12 mV_X12_of ln_X12_297 rfl (Nat.le_of_ble_eq_true rfl) (Nat.le_of_ble_eq_true rfl) (k_X12_of hX v1 v2 0 σ hp1) dX12_offOf_7 rfl rfl ?_
  refine g_i2l (pc := 10) dX12_offOf_10 ?_
  refine g_lmul (pc := 11) dX12_offOf_11 ?_
  refine g_lload (pc := 12) 4 rfl dX12_offOf_12 ?_
  refine g_lmul (pc := 14) dX12_offOf_14 ?_
  refine g_lload_n (pc := 15) 3 rfl dX12_offOf_15 rfl ?_
  refine g_aload_n (pc := 16) 0 rfl dX12_offOf_16 rfl ?_
  refine g_iload_n (pc := 17) 1 rfl dX12_offOf_17 rfl ?_
  refine g_iload_n (pc := 18) 2 rfl dX12_offOf_18 rfl ?_
  refine g_iconst (pc := 19) (v := 1) dX12_offOf_19 (by decide) ?_
  obtain ⟨p2, hp2, hf⟩ := am_bd hf
  refine g_cV (pc := 20) (As := [.int v1, .int v2, .int 1]) (st := [.long v3, .long ((24 * (Int32.toInt64 p1)) * v5)]) (st1 := [.int p2, .long v3, .long ((24 * (Int32.toInt64 p1)) * v5)]) (in_12 hX (by omega)) kk_12 mV_X12_of ln_X12_297 rfl (Nat.le_of_ble_eq_true rfl) (Nat.le_of_ble_eq_true rfl) (k_X12_of hX v1 v2 1 σ hp2) dX12_offOf_20 rfl rfl ?_
  refine g_i2l (pc := 23) dX12_offOf_23 ?_
  refine g_lmul (pc := 24) dX12_offOf_24 ?_
  refine g_lsub (pc := 25) dX12_offOf_25 ?_
  refine g_mabsL (pc := 26) (Nat.le_of_ble_eq_true rfl) (Nat.le_of_ble_eq_true rfl) sp_X12_131 dX12_offOf_26 ?_
  have ho := Option.some.inj hf
  subst ho
  exact g_lreturn (pc := 29) (st := []) rfl dX12_offOf_29 hk
theorem k_X12_offOf {X : am_X} (hX : am_ks X = am_ksM) (v1 : Int32) (v2 : Int32) (v3 : Int64) (v5 : Int64) (σ : am_H) {o : Int64} (hf : f_X12_offOf v1 v2 v3 v5 σ = some o) : am_C X gm_X12_offOf [.ref (am_ad X 12 0), .int v1, .int v2, .long v3, .long v5] σ (am_is (some (.long o)) σ) :=
  am_ofG rfl (Nat.le_of_ble_eq_true rfl) rfl (q_X12_offOf hX v1 v2 v3 v5 σ hf ⟨rfl, rfl⟩)
theorem dX12_off_0 : decode cX12_off 0 = .ok (.aload_n 0, 1) := by decide +kernel
theorem dX12_off_1 : decode cX12_off 1 = .ok (.iconst 0, 1) := by decide +kernel
theorem dX12_off_2 : decode cX12_off 2 = .ok (.putfield 122, 3) := by decide +kernel
theorem dX12_off_5 : decode cX12_off 5 = .ok (.aload_n 0, 1) := by decide +kernel
theorem dX12_off_6 : decode cX12_off 6 = .ok (.iconst 0, 1) := by decide +kernel
theorem dX12_off_7 : decode cX12_off 7 = .ok (.putfield 125, 3) := by decide +kernel
theorem dX12_off_10 : decode cX12_off 10 = .ok (.aload_n 0, 1) := by decide +kernel
theorem dX12_off_11 : decode cX12_off 11 = .ok (.iload_n 1, 1) := by decide +kernel
theorem dX12_off_12 : decode cX12_off 12 = .ok (.iload_n 2, 1) := by decide +kernel
theorem dX12_off_13 : decode cX12_off 13 = .ok (.invokevirtual 300, 3) := by decide +kernel
theorem dX12_off_16 : decode cX12_off 16 = .ok (.ifCond .ne 9, 3) := by decide +kernel
theorem dX12_off_19 : decode cX12_off 19 = .ok (.aload_n 0, 1) := by decide +kernel
theorem dX12_off_20 : decode cX12_off 20 = .ok (.iconst 2, 1) := by decide +kernel
theorem dX12_off_21 : decode cX12_off 21 = .ok (.invokevirtual 137, 3) := by decide +kernel
theorem dX12_off_24 : decode cX12_off 24 = .ok (.ireturn, 1) := by decide +kernel
theorem dX12_off_25 : decode cX12_off 25 = .ok (.iload_n 3, 1) := by decide +kernel
theorem dX12_off_26 : decode cX12_off 26 = .ok (.invokestatic 331, 3) := by decide +kernel
theorem dX12_off_29 : decode cX12_off 29 = .ok (.ifCond .ne 9, 3) := by decide +kernel
theorem dX12_off_32 : decode cX12_off 32 = .ok (.aload_n 0, 1) := by decide +kernel
theorem dX12_off_33 : decode cX12_off 33 = .ok (.iconst 5, 1) := by decide +kernel
theorem dX12_off_34 : decode cX12_off 34 = .ok (.invokevirtual 137, 3) := by decide +kernel
theorem dX12_off_37 : decode cX12_off 37 = .ok (.ireturn, 1) := by decide +kernel
theorem dX12_off_38 : decode cX12_off 38 = .ok (.aload_n 0, 1) := by decide +kernel
theorem dX12_off_39 : decode cX12_off 39 = .ok (.iload_n 1, 1) := by decide +kernel
theorem dX12_off_40 : decode cX12_off 40 = .ok (.iload_n 2, 1) := by decide +kernel
theorem dX12_off_41 : decode cX12_off 41 = .ok (.invokevirtual 306, 3) := by decide +kernel
theorem dX12_off_44 : decode cX12_off 44 = .ok (.ifCond .ne 10, 3) := by decide +kernel
theorem dX12_off_47 : decode cX12_off 47 = .ok (.aload_n 0, 1) := by decide +kernel
theorem dX12_off_48 : decode cX12_off 48 = .ok (.bipush 8, 2) := by decide +kernel
theorem dX12_off_50 : decode cX12_off 50 = .ok (.invokevirtual 137, 3) := by decide +kernel
theorem dX12_off_53 : decode cX12_off 53 = .ok (.ireturn, 1) := by decide +kernel
theorem dX12_off_54 : decode cX12_off 54 = .ok (.aload_n 0, 1) := by decide +kernel
theorem dX12_off_55 : decode cX12_off 55 = .ok (.iload_n 1, 1) := by decide +kernel
theorem dX12_off_56 : decode cX12_off 56 = .ok (.iload_n 2, 1) := by decide +kernel
theorem dX12_off_57 : decode cX12_off 57 = .ok (.bipush 6, 2) := by decide +kernel
theorem dX12_off_59 : decode cX12_off 59 = .ok (.invokevirtual 297, 3) := by decide +kernel
theorem dX12_off_62 : decode cX12_off 62 = .ok (.i2l, 1) := by decide +kernel
theorem dX12_off_63 : decode cX12_off 63 = .ok (.aload_n 0, 1) := by decide +kernel
theorem dX12_off_64 : decode cX12_off 64 = .ok (.iload_n 1, 1) := by decide +kernel
theorem dX12_off_65 : decode cX12_off 65 = .ok (.iload_n 2, 1) := by decide +kernel
theorem dX12_off_66 : decode cX12_off 66 = .ok (.bipush 8, 2) := by decide +kernel
theorem dX12_off_68 : decode cX12_off 68 = .ok (.invokevirtual 297, 3) := by decide +kernel
theorem dX12_off_71 : decode cX12_off 71 = .ok (.i2l, 1) := by decide +kernel
theorem dX12_off_72 : decode cX12_off 72 = .ok (.lmul, 1) := by decide +kernel
theorem dX12_off_73 : decode cX12_off 73 = .ok (.lstore 4, 2) := by decide +kernel
theorem dX12_off_75 : decode cX12_off 75 = .ok (.aload_n 0, 1) := by decide +kernel
theorem dX12_off_76 : decode cX12_off 76 = .ok (.aload_n 0, 1) := by decide +kernel
theorem dX12_off_77 : decode cX12_off 77 = .ok (.iload_n 1, 1) := by decide +kernel
theorem dX12_off_78 : decode cX12_off 78 = .ok (.iload_n 2, 1) := by decide +kernel
theorem dX12_off_79 : decode cX12_off 79 = .ok (.aload_n 0, 1) := by decide +kernel
theorem dX12_off_80 : decode cX12_off 80 = .ok (.iload_n 1, 1) := by decide +kernel
theorem dX12_off_81 : decode cX12_off 81 = .ok (.iload_n 2, 1) := by decide +kernel
theorem dX12_off_82 : decode cX12_off 82 = .ok (.iconst 5, 1) := by decide +kernel
theorem dX12_off_83 : decode cX12_off 83 = .ok (.invokevirtual 297, 3) := by decide +kernel
theorem dX12_off_86 : decode cX12_off 86 = .ok (.i2l, 1) := by decide +kernel
theorem dX12_off_87 : decode cX12_off 87 = .ok (.aload_n 0, 1) := by decide +kernel
theorem dX12_off_88 : decode cX12_off 88 = .ok (.iload_n 1, 1) := by decide +kernel
theorem dX12_off_89 : decode cX12_off 89 = .ok (.iload_n 2, 1) := by decide +kernel
theorem dX12_off_90 : decode cX12_off 90 = .ok (.bipush 7, 2) := by decide +kernel
theorem dX12_off_92 : decode cX12_off 92 = .ok (.invokevirtual 297, 3) := by decide +kernel
theorem dX12_off_95 : decode cX12_off 95 = .ok (.i2l, 1) := by decide +kernel
theorem dX12_off_96 : decode cX12_off 96 = .ok (.lmul, 1) := by decide +kernel
theorem dX12_off_97 : decode cX12_off 97 = .ok (.lload 4, 2) := by decide +kernel
theorem dX12_off_99 : decode cX12_off 99 = .ok (.invokevirtual 340, 3) := by decide +kernel
theorem dX12_off_102 : decode cX12_off 102 = .ok (.iload_n 3, 1) := by decide +kernel
theorem dX12_off_103 : decode cX12_off 103 = .ok (.i2l, 1) := by decide +kernel
theorem dX12_off_104 : decode cX12_off 104 = .ok (.lmul, 1) := by decide +kernel
theorem dX12_off_105 : decode cX12_off 105 = .ok (.lload 4, 2) := by decide +kernel
theorem dX12_off_107 : decode cX12_off 107 = .ok (.aload_n 0, 1) := by decide +kernel
theorem dX12_off_108 : decode cX12_off 108 = .ok (.iload_n 1, 1) := by decide +kernel
theorem dX12_off_109 : decode cX12_off 109 = .ok (.iload_n 2, 1) := by decide +kernel
theorem dX12_off_110 : decode cX12_off 110 = .ok (.iconst 1, 1) := by decide +kernel
theorem dX12_off_111 : decode cX12_off 111 = .ok (.invokevirtual 297, 3) := by decide +kernel
theorem dX12_off_114 : decode cX12_off 114 = .ok (.i2l, 1) := by decide +kernel
theorem dX12_off_115 : decode cX12_off 115 = .ok (.lmul, 1) := by decide +kernel
theorem dX12_off_116 : decode cX12_off 116 = .ok (.invokevirtual 344, 3) := by decide +kernel
theorem dX12_off_119 : decode cX12_off 119 = .ok (.iconst 1, 1) := by decide +kernel
theorem dX12_off_120 : decode cX12_off 120 = .ok (.ireturn, 1) := by decide +kernel
noncomputable def f_X12_off (v1 : Int32) (v2 : Int32) (v3 : Int32) (σ : am_H) : Option (Bool × am_H) :=
  (some (am_wI σ 12 0 1 0)).bind fun s1 =>
  (some (am_wI s1 12 0 0 0)).bind fun s2 =>
  (f_X12_isWaveOf v1 v2 s2).bind fun p3 =>
  if p3 = true then
   ((f_X12_isHour v3 s2).bind fun p5 =>
   if p5 = true then
    ((f_X12_hasTrain v1 v2 s2).bind fun p7 =>
    if p7 = true then
     ((f_X12_of v1 v2 6 s2).bind fun p9 =>
     (f_X12_of v1 v2 8 s2).bind fun p10 =>
     (f_X12_of v1 v2 5 s2).bind fun p11 =>
     (f_X12_of v1 v2 7 s2).bind fun p12 =>
     (f_X12_offOf v1 v2 ((Int32.toInt64 p11) * (Int32.toInt64 p12)) ((Int32.toInt64 p9) * (Int32.toInt64 p10)) s2).bind fun p13 =>
     (f_X12_of v1 v2 1 s2).bind fun p14 =>
     (f_X12_fraction (p13 * (Int32.toInt64 v3)) (((Int32.toInt64 p9) * (Int32.toInt64 p10)) * (Int32.toInt64 p14)) s2).bind fun p15 =>
     some (true, p15))
    else
    (f_X12_no 8 s2).bind fun p16 =>
    some (p16.1, p16.2))
   else
   (f_X12_no 5 s2).bind fun p17 =>
   some (p17.1, p17.2))
  else
  (f_X12_no 2 s2).bind fun p18 =>
  some (p18.1, p18.2)
set_option maxRecDepth 100000 in
set_option maxHeartbeats 4000000 in
theorem q_X12_off {X : am_X} (hX : am_ks X = am_ksM) {Q : Option Value → am_H → Prop} (v1 : Int32) (v2 : Int32) (v3 : Int32) (σ : am_H) {o : Bool × am_H} (hf : f_X12_off v1 v2 v3 σ = some o) (hk : Q (some (.int (am_b o.1))) o.2) : am_G X gm_X12_off Q 0 [(0, .ref (am_ad X 12 0)), (1, .int v1), (2, .int v2), (3, .int v3)] [] σ := by
  unfold f_X12_off at hf
  refine g_aload_n (pc := 0) 0 rfl dX12_off_0 rfl ?_
  refine g_iconst (pc := 1) (v := 0) dX12_off_1 (by decide) ?_
  obtain ⟨s1, hs1, hf⟩ := am_bd hf
  refine g_setI (pc := 2) (in_12 hX (by omega)) fr_X12_122 dX12_off_2 (Option.some.inj hs1) ?_
  refine g_aload_n (pc := 5) 0 rfl dX12_off_5 rfl ?_
  refine g_iconst (pc := 6) (v := 0) dX12_off_6 (by decide) ?_
  obtain ⟨s2, hs2, hf⟩ := am_bd hf
  refine g_setI (pc := 7) (in_12 hX (by omega)) fr_X12_125 dX12_off_7 (Option.some.inj hs2) ?_
  refine g_aload_n (pc := 10) 0 rfl dX12_off_10 rfl ?_
  refine g_iload_n (pc := 11) 1 rfl dX12_off_11 rfl ?_
  refine g_iload_n (pc := 12) 2 rfl dX12_off_12 rfl ?_
  obtain ⟨p3, hp3, hf⟩ := am_bd hf
  refine g_cV (pc := 13) (As := [.int v1, .int v2]) (st := []) (st1 := [.int (am_b p3)]) (in_12 hX (by omega)) kk_12 mV_X12_isWaveOf ln_X12_300 rfl (Nat.le_of_ble_eq_true rfl) (Nat.le_of_ble_eq_true rfl) (k_X12_isWaveOf hX v1 v2 s2 hp3) dX12_off_13 rfl rfl ?_
  refine bt_ne (pc := 16) 25 dX12_off_16 rfl (fun c4 => ?_) (fun c4 => ?_)
  · replace hf := am_ifT c4 hf
    refine g_iload_n (pc := 25) 3 rfl dX12_off_25 rfl ?_
    obtain ⟨p5, hp5, hf⟩ := am_bd hf
    refine g_cS (pc := 26) (As := [.int v3]) (st := []) (st1 := [.int (am_b p5)]) mS_X12_isHour ln_X12_331 rfl (Nat.le_of_ble_eq_true rfl) (Nat.le_of_ble_eq_true rfl) (k_X12_isHour hX v3 s2 hp5) dX12_off_26 rfl rfl ?_
    refine bt_ne (pc := 29) 38 dX12_off_29 rfl (fun c6 => ?_) (fun c6 => ?_)
    · replace hf := am_ifT c6 hf
      refine g_aload_n (pc := 38) 0 rfl dX12_off_38 rfl ?_
      refine g_iload_n (pc := 39) 1 rfl dX12_off_39 rfl ?_
      refine g_iload_n (pc := 40) 2 rfl dX12_off_40 rfl ?_
      obtain ⟨p7, hp7, hf⟩ := am_bd hf
      refine g_cV (pc := 41) (As := [.int v1, .int v2]) (st := []) (st1 := [.int (am_b p7)]) (in_12 hX (by omega)) kk_12 mV_X12_hasTrain ln_X12_306 rfl (Nat.le_of_ble_eq_true rfl) (Nat.le_of_ble_eq_true rfl) (k_X12_hasTrain hX v1 v2 s2 hp7) dX12_off_41 rfl rfl ?_
      refine bt_ne (pc := 44) 54 dX12_off_44 rfl (fun c8 => ?_) (fun c8 => ?_)
      · replace hf := am_ifT c8 hf
        refine g_aload_n (pc := 54) 0 rfl dX12_off_54 rfl ?_
        refine g_iload_n (pc := 55) 1 rfl dX12_off_55 rfl ?_
        refine g_iload_n (pc := 56) 2 rfl dX12_off_56 rfl ?_
        refine g_bipush (pc := 57) (v := 6) dX12_off_57 (by decide) ?_
        obtain ⟨p9, hp9, hf⟩ := am_bd hf
        refine g_cV (pc := 59) (As := [.int v1, .int v2, .int 6]) (st := []) (st1 := [.int p9]) (in_12 hX (by omega)) kk_12 mV_X12_of ln_X12_297 rfl (Nat.le_of_ble_eq_true rfl) (Nat.le_of_ble_eq_true rfl) (k_X12_of hX v1 v2 6 s2 hp9) dX12_off_59 rfl rfl ?_
        refine g_i2l (pc := 62) dX12_off_62 ?_
        refine g_aload_n (pc := 63) 0 rfl dX12_off_63 rfl ?_
        refine g_iload_n (pc := 64) 1 rfl dX12_off_64 rfl ?_
        refine g_iload_n (pc := 65) 2 rfl dX12_off_65 rfl ?_
        refine g_bipush (pc := 66) (v := 8) dX12_off_66 (by decide) ?_
        obtain ⟨p10, hp10, hf⟩ := am_bd hf
        refine g_cV (pc := 68) (As := [.int v1, .int v2, .int 8]) (st := [.long (Int32.toInt64 p9)]) (st1 := [.int p10, .long (Int32.toInt64 p9)]) (in_12 hX (by omega)) kk_12 mV_X12_of ln_X12_297 rfl (Nat.le_of_ble_eq_true rfl) (Nat.le_of_ble_eq_true rfl) (k_X12_of hX v1 v2 8 s2 hp10) dX12_off_68 rfl rfl ?_
        refine g_i2l (pc := 71) dX12_off_71 ?_
        refine g_lmul (pc := 72) dX12_off_72 ?_
        refine g_lstore (pc := 73) [(4, .long ((Int32.toInt64 p9) * (Int32.toInt64 p10))), (0, .ref (am_ad X 12 0)), (1, .int v1), (2, .int v2), (3, .int v3)] dX12_off_73 (Nat.le_of_ble_eq_true rfl) rfl ?_
        refine g_aload_n (pc := 75) 1 rfl dX12_off_75 rfl ?_
        refine g_aload_n (pc := 76) 1 rfl dX12_off_76 rfl ?_
        refine g_iload_n (pc := 77) 2 rfl dX12_off_77 rfl ?_
        refine g_iload_n (pc := 78) 3 rfl dX12_off_78 rfl ?_
        refine g_aload_n (pc := 79) 1 rfl dX12_off_79 rfl ?_
        refine g_iload_n (pc := 80) 2 rfl dX12_off_80 rfl ?_
        refine g_iload_n (pc := 81) 3 rfl dX12_off_81 rfl ?_
        refine g_iconst (pc := 82) (v := 5) dX12_off_82 (by decide) ?_
        obtain ⟨p11, hp11, hf⟩ := am_bd hf
        refine g_cV (pc := 83) (As := [.int v1, .int v2, .int 5]) (st := [.int v2, .int v1, .ref (am_ad X 12 0), .ref (am_ad X 12 0)]) (st1 := [.int p11, .int v2, .int v1, .ref (am_ad X 12 0), .ref (am_ad X 12 0)]) (in_12 hX (by omega)) kk_12 mV_X12_of ln_X12_297 rfl (Nat.le_of_ble_eq_true rfl) (Nat.le_of_ble_eq_true rfl) (k_X12_of hX v1 v2 5 s2 hp11) dX12_off_83 rfl rfl ?_
        refine g_i2l (pc := 86) dX12_off_86 ?_
        refine g_aload_n (pc := 87) 1 rfl dX12_off_87 rfl ?_
        refine g_iload_n (pc := 88) 2 rfl dX12_off_88 rfl ?_
        refine g_iload_n (pc := 89) 3 rfl dX12_off_89 rfl ?_
        refine g_bipush (pc := 90) (v := 7) dX12_off_90 (by decide) ?_
        obtain ⟨p12, hp12, hf⟩ := am_bd hf
        refine g_cV (pc := 92) (As := [.int v1, .int v2, .int 7]) (st := [.long (Int32.toInt64 p11), .int v2, .int v1, .ref (am_ad X 12 0), .ref (am_ad X 12 0)]) (st1 := [.int p12, .long (Int32.toInt64 p11), .int v2, .int v1, .ref (am_ad X 12 0), .ref (am_ad X 12 0)]) (in_12 hX (by omega)) kk_12 mV_X12_of ln_X12_297 rfl (Nat.le_of_ble_eq_true rfl) (Nat.le_of_ble_eq_true rfl) (k_X12_of hX v1 v2 7 s2 hp12) dX12_off_92 rfl rfl ?_
        refine g_i2l (pc := 95) dX12_off_95 ?_
        refine g_lmul (pc := 96) dX12_off_96 ?_
        refine g_lload (pc := 97) 0 rfl dX12_off_97 ?_
        obtain ⟨p13, hp13, hf⟩ := am_bd hf
        refine g_cV (pc := 99) (As := [.int v1, .int v2, .long ((Int32.toInt64 p11) * (Int32.toInt64 p12)), .long ((Int32.toInt64 p9) * (Int32.toInt64 p10))]) (st := [.ref (am_ad X 12 0)]) (st1 := [.long p13, .ref (am_ad X 12 0)]) (in_12 hX (by omega)) kk_12 mV_X12_offOf ln_X12_340 rfl (Nat.le_of_ble_eq_true rfl) (Nat.le_of_ble_eq_true rfl) (k_X12_offOf hX v1 v2 ((Int32.toInt64 p11) * (Int32.toInt64 p12)) ((Int32.toInt64 p9) * (Int32.toInt64 p10)) s2 hp13) dX12_off_99 rfl rfl ?_
        refine g_iload_n (pc := 102) 4 rfl dX12_off_102 rfl ?_
        refine g_i2l (pc := 103) dX12_off_103 ?_
        refine g_lmul (pc := 104) dX12_off_104 ?_
        refine g_lload (pc := 105) 0 rfl dX12_off_105 ?_
        refine g_aload_n (pc := 107) 1 rfl dX12_off_107 rfl ?_
        refine g_iload_n (pc := 108) 2 rfl dX12_off_108 rfl ?_
        refine g_iload_n (pc := 109) 3 rfl dX12_off_109 rfl ?_
        refine g_iconst (pc := 110) (v := 1) dX12_off_110 (by decide) ?_
        obtain ⟨p14, hp14, hf⟩ := am_bd hf
        refine g_cV (pc := 111) (As := [.int v1, .int v2, .int 1]) (st := [.long ((Int32.toInt64 p9) * (Int32.toInt64 p10)), .long (p13 * (Int32.toInt64 v3)), .ref (am_ad X 12 0)]) (st1 := [.int p14, .long ((Int32.toInt64 p9) * (Int32.toInt64 p10)), .long (p13 * (Int32.toInt64 v3)), .ref (am_ad X 12 0)]) (in_12 hX (by omega)) kk_12 mV_X12_of ln_X12_297 rfl (Nat.le_of_ble_eq_true rfl) (Nat.le_of_ble_eq_true rfl) (k_X12_of hX v1 v2 1 s2 hp14) dX12_off_111 rfl rfl ?_
        refine g_i2l (pc := 114) dX12_off_114 ?_
        refine g_lmul (pc := 115) dX12_off_115 ?_
        obtain ⟨p15, hp15, hf⟩ := am_bd hf
        refine g_cV (pc := 116) (As := [.long (p13 * (Int32.toInt64 v3)), .long (((Int32.toInt64 p9) * (Int32.toInt64 p10)) * (Int32.toInt64 p14))]) (st := []) (st1 := []) (in_12 hX (by omega)) kk_12 mV_X12_fraction ln_X12_344 rfl (Nat.le_of_ble_eq_true rfl) (Nat.le_of_ble_eq_true rfl) (k_X12_fraction hX (p13 * (Int32.toInt64 v3)) (((Int32.toInt64 p9) * (Int32.toInt64 p10)) * (Int32.toInt64 p14)) s2 hp15) dX12_off_116 rfl rfl ?_
        refine g_iconst (pc := 119) (v := 1) dX12_off_119 (by decide) ?_
        have ho := Option.some.inj hf
        subst ho
        exact g_zreturn (pc := 120) (st := []) (x := true) rfl dX12_off_120 hk
      replace hf := am_ifF c8 hf
      refine g_aload_n (pc := 47) 0 rfl dX12_off_47 rfl ?_
      refine g_bipush (pc := 48) (v := 8) dX12_off_48 (by decide) ?_
      obtain ⟨p16, hp16, hf⟩ := am_bd hf
      refine g_cV (pc := 50) (As := [.int 8]) (st := []) (st1 := [.int (am_b p16.1)]) (in_12 hX (by omega)) kk_12 mV_X12_no ln_X12_137 rfl (Nat.le_of_ble_eq_true rfl) (Nat.le_of_ble_eq_true rfl) (k_X12_no hX 8 s2 hp16) dX12_off_50 rfl rfl ?_
      have ho := Option.some.inj hf
      subst ho
      exact g_zreturn (pc := 53) (st := []) (x := p16.1) rfl dX12_off_53 hk
    replace hf := am_ifF c6 hf
    refine g_aload_n (pc := 32) 0 rfl dX12_off_32 rfl ?_
    refine g_iconst (pc := 33) (v := 5) dX12_off_33 (by decide) ?_
    obtain ⟨p17, hp17, hf⟩ := am_bd hf
    refine g_cV (pc := 34) (As := [.int 5]) (st := []) (st1 := [.int (am_b p17.1)]) (in_12 hX (by omega)) kk_12 mV_X12_no ln_X12_137 rfl (Nat.le_of_ble_eq_true rfl) (Nat.le_of_ble_eq_true rfl) (k_X12_no hX 5 s2 hp17) dX12_off_34 rfl rfl ?_
    have ho := Option.some.inj hf
    subst ho
    exact g_zreturn (pc := 37) (st := []) (x := p17.1) rfl dX12_off_37 hk
  replace hf := am_ifF c4 hf
  refine g_aload_n (pc := 19) 0 rfl dX12_off_19 rfl ?_
  refine g_iconst (pc := 20) (v := 2) dX12_off_20 (by decide) ?_
  obtain ⟨p18, hp18, hf⟩ := am_bd hf
  refine g_cV (pc := 21) (As := [.int 2]) (st := []) (st1 := [.int (am_b p18.1)]) (in_12 hX (by omega)) kk_12 mV_X12_no ln_X12_137 rfl (Nat.le_of_ble_eq_true rfl) (Nat.le_of_ble_eq_true rfl) (k_X12_no hX 2 s2 hp18) dX12_off_21 rfl rfl ?_
  have ho := Option.some.inj hf
  subst ho
  exact g_zreturn (pc := 24) (st := []) (x := p18.1) rfl dX12_off_24 hk
theorem k_X12_off {X : am_X} (hX : am_ks X = am_ksM) (v1 : Int32) (v2 : Int32) (v3 : Int32) (σ : am_H) {o : Bool × am_H} (hf : f_X12_off v1 v2 v3 σ = some o) : am_C X gm_X12_off [.ref (am_ad X 12 0), .int v1, .int v2, .int v3] σ (am_is (some (.int (am_b o.1))) o.2) :=
  am_ofG rfl (Nat.le_of_ble_eq_true rfl) rfl (q_X12_off hX v1 v2 v3 σ hf ⟨rfl, rfl⟩)
theorem dX12_teeth_0 : decode cX12_teeth 0 = .ok (.aload_n 0, 1) := by decide +kernel
theorem dX12_teeth_1 : decode cX12_teeth 1 = .ok (.getfield 50, 3) := by decide +kernel
theorem dX12_teeth_4 : decode cX12_teeth 4 = .ok (.bipush 20, 2) := by decide +kernel
theorem dX12_teeth_6 : decode cX12_teeth 6 = .ok (.iload_n 1, 1) := by decide +kernel
theorem dX12_teeth_7 : decode cX12_teeth 7 = .ok (.imul, 1) := by decide +kernel
theorem dX12_teeth_8 : decode cX12_teeth 8 = .ok (.iconst 2, 1) := by decide +kernel
theorem dX12_teeth_9 : decode cX12_teeth 9 = .ok (.iload_n 2, 1) := by decide +kernel
theorem dX12_teeth_10 : decode cX12_teeth 10 = .ok (.imul, 1) := by decide +kernel
theorem dX12_teeth_11 : decode cX12_teeth 11 = .ok (.iadd, 1) := by decide +kernel
theorem dX12_teeth_12 : decode cX12_teeth 12 = .ok (.iconst 1, 1) := by decide +kernel
theorem dX12_teeth_13 : decode cX12_teeth 13 = .ok (.iadd, 1) := by decide +kernel
theorem dX12_teeth_14 : decode cX12_teeth 14 = .ok (.iaload, 1) := by decide +kernel
theorem dX12_teeth_15 : decode cX12_teeth 15 = .ok (.ireturn, 1) := by decide +kernel
noncomputable def f_X12_teeth (v1 : Int32) (v2 : Int32) (σ : am_H) : Option (Int32) :=
  (am_ix 60 (((20 * v1) + (2 * v2)) + 1)).bind fun j1 =>
  some (σ.1 1325 0 j1)
set_option maxRecDepth 100000 in
set_option maxHeartbeats 4000000 in
theorem q_X12_teeth {X : am_X} (hX : am_ks X = am_ksM) {Q : Option Value → am_H → Prop} (v1 : Int32) (v2 : Int32) (σ : am_H) {o : Int32} (hf : f_X12_teeth v1 v2 σ = some o) (hk : Q (some (.int o)) σ) : am_G X gm_X12_teeth Q 0 [(0, .ref (am_ad X 12 0)), (1, .int v1), (2, .int v2)] [] σ := by
  unfold f_X12_teeth at hf
  refine g_aload_n (pc := 0) 0 rfl dX12_teeth_0 rfl ?_
  refine g_getC (pc := 1) (e := 0) (in_12 hX (by omega)) fr_X12_50 dX12_teeth_1 rfl ?_
  refine g_bipush (pc := 4) (v := 20) dX12_teeth_4 (by decide) ?_
  refine g_iload_n (pc := 6) 1 rfl dX12_teeth_6 rfl ?_
  refine g_imul (pc := 7) dX12_teeth_7 ?_
  refine g_iconst (pc := 8) (v := 2) dX12_teeth_8 (by decide) ?_
  refine g_iload_n (pc := 9) 2 rfl dX12_teeth_9 rfl ?_
  refine g_imul (pc := 10) dX12_teeth_10 ?_
  refine g_iadd (pc := 11) dX12_teeth_11 ?_
  refine g_iconst (pc := 12) (v := 1) dX12_teeth_12 (by decide) ?_
  refine g_iadd (pc := 13) dX12_teeth_13 ?_
  obtain ⟨j1, hj1, hf⟩ := am_bd hf
  have gj1 := am_ix_lt hj1
  refine g_aI (pc := 14) (in_1325 hX (by omega)) ak_1325 hj1 dX12_teeth_14 ?_
  have ho := Option.some.inj hf
  subst ho
  exact g_ireturn (pc := 15) (st := []) rfl dX12_teeth_15 hk
theorem k_X12_teeth {X : am_X} (hX : am_ks X = am_ksM) (v1 : Int32) (v2 : Int32) (σ : am_H) {o : Int32} (hf : f_X12_teeth v1 v2 σ = some o) : am_C X gm_X12_teeth [.ref (am_ad X 12 0), .int v1, .int v2] σ (am_is (some (.int o)) σ) :=
  am_ofG rfl (Nat.le_of_ble_eq_true rfl) rfl (q_X12_teeth hX v1 v2 σ hf ⟨rfl, rfl⟩)
theorem dX12_boxed_0 : decode cX12_boxed 0 = .ok (.aload_n 0, 1) := by decide +kernel
theorem dX12_boxed_1 : decode cX12_boxed 1 = .ok (.getfield 50, 3) := by decide +kernel
theorem dX12_boxed_4 : decode cX12_boxed 4 = .ok (.bipush 20, 2) := by decide +kernel
theorem dX12_boxed_6 : decode cX12_boxed 6 = .ok (.iload_n 1, 1) := by decide +kernel
theorem dX12_boxed_7 : decode cX12_boxed 7 = .ok (.imul, 1) := by decide +kernel
theorem dX12_boxed_8 : decode cX12_boxed 8 = .ok (.iconst 2, 1) := by decide +kernel
theorem dX12_boxed_9 : decode cX12_boxed 9 = .ok (.iload_n 2, 1) := by decide +kernel
theorem dX12_boxed_10 : decode cX12_boxed 10 = .ok (.imul, 1) := by decide +kernel
theorem dX12_boxed_11 : decode cX12_boxed 11 = .ok (.iadd, 1) := by decide +kernel
theorem dX12_boxed_12 : decode cX12_boxed 12 = .ok (.iaload, 1) := by decide +kernel
theorem dX12_boxed_13 : decode cX12_boxed 13 = .ok (.ireturn, 1) := by decide +kernel
noncomputable def f_X12_boxed (v1 : Int32) (v2 : Int32) (σ : am_H) : Option (Int32) :=
  (am_ix 60 ((20 * v1) + (2 * v2))).bind fun j1 =>
  some (σ.1 1325 0 j1)
set_option maxRecDepth 100000 in
set_option maxHeartbeats 4000000 in
theorem q_X12_boxed {X : am_X} (hX : am_ks X = am_ksM) {Q : Option Value → am_H → Prop} (v1 : Int32) (v2 : Int32) (σ : am_H) {o : Int32} (hf : f_X12_boxed v1 v2 σ = some o) (hk : Q (some (.int o)) σ) : am_G X gm_X12_boxed Q 0 [(0, .ref (am_ad X 12 0)), (1, .int v1), (2, .int v2)] [] σ := by
  unfold f_X12_boxed at hf
  refine g_aload_n (pc := 0) 0 rfl dX12_boxed_0 rfl ?_
  refine g_getC (pc := 1) (e := 0) (in_12 hX (by omega)) fr_X12_50 dX12_boxed_1 rfl ?_
  refine g_bipush (pc := 4) (v := 20) dX12_boxed_4 (by decide) ?_
  refine g_iload_n (pc := 6) 1 rfl dX12_boxed_6 rfl ?_
  refine g_imul (pc := 7) dX12_boxed_7 ?_
  refine g_iconst (pc := 8) (v := 2) dX12_boxed_8 (by decide) ?_
  refine g_iload_n (pc := 9) 2 rfl dX12_boxed_9 rfl ?_
  refine g_imul (pc := 10) dX12_boxed_10 ?_
  refine g_iadd (pc := 11) dX12_boxed_11 ?_
  obtain ⟨j1, hj1, hf⟩ := am_bd hf
  have gj1 := am_ix_lt hj1
  refine g_aI (pc := 12) (in_1325 hX (by omega)) ak_1325 hj1 dX12_boxed_12 ?_
  have ho := Option.some.inj hf
  subst ho
  exact g_ireturn (pc := 13) (st := []) rfl dX12_boxed_13 hk
theorem k_X12_boxed {X : am_X} (hX : am_ks X = am_ksM) (v1 : Int32) (v2 : Int32) (σ : am_H) {o : Int32} (hf : f_X12_boxed v1 v2 σ = some o) : am_C X gm_X12_boxed [.ref (am_ad X 12 0), .int v1, .int v2] σ (am_is (some (.int o)) σ) :=
  am_ofG rfl (Nat.le_of_ble_eq_true rfl) rfl (q_X12_boxed hX v1 v2 σ hf ⟨rfl, rfl⟩)
theorem dX12_hasAll_0 : decode cX12_hasAll 0 = .ok (.iconst 0, 1) := by decide +kernel
theorem dX12_hasAll_1 : decode cX12_hasAll 1 = .ok (.istore_n 3, 1) := by decide +kernel
theorem dX12_hasAll_2 : decode cX12_hasAll 2 = .ok (.iload_n 3, 1) := by decide +kernel
theorem dX12_hasAll_3 : decode cX12_hasAll 3 = .ok (.iload_n 2, 1) := by decide +kernel
theorem dX12_hasAll_4 : decode cX12_hasAll 4 = .ok (.if_icmp .ge 71, 3) := by decide +kernel
theorem dX12_hasAll_7 : decode cX12_hasAll 7 = .ok (.iconst 0, 1) := by decide +kernel
theorem dX12_hasAll_8 : decode cX12_hasAll 8 = .ok (.istore 4, 2) := by decide +kernel
theorem dX12_hasAll_10 : decode cX12_hasAll 10 = .ok (.iconst 0, 1) := by decide +kernel
theorem dX12_hasAll_11 : decode cX12_hasAll 11 = .ok (.istore 5, 2) := by decide +kernel
theorem dX12_hasAll_13 : decode cX12_hasAll 13 = .ok (.iload 5, 2) := by decide +kernel
theorem dX12_hasAll_15 : decode cX12_hasAll 15 = .ok (.iload_n 2, 1) := by decide +kernel
theorem dX12_hasAll_16 : decode cX12_hasAll 16 = .ok (.if_icmp .ge 35, 3) := by decide +kernel
theorem dX12_hasAll_19 : decode cX12_hasAll 19 = .ok (.iload 4, 2) := by decide +kernel
theorem dX12_hasAll_21 : decode cX12_hasAll 21 = .ok (.aload_n 0, 1) := by decide +kernel
theorem dX12_hasAll_22 : decode cX12_hasAll 22 = .ok (.getfield 104, 3) := by decide +kernel
theorem dX12_hasAll_25 : decode cX12_hasAll 25 = .ok (.iload 5, 2) := by decide +kernel
theorem dX12_hasAll_27 : decode cX12_hasAll 27 = .ok (.iaload, 1) := by decide +kernel
theorem dX12_hasAll_28 : decode cX12_hasAll 28 = .ok (.aload_n 0, 1) := by decide +kernel
theorem dX12_hasAll_29 : decode cX12_hasAll 29 = .ok (.getfield 104, 3) := by decide +kernel
theorem dX12_hasAll_32 : decode cX12_hasAll 32 = .ok (.iload_n 3, 1) := by decide +kernel
theorem dX12_hasAll_33 : decode cX12_hasAll 33 = .ok (.iaload, 1) := by decide +kernel
theorem dX12_hasAll_34 : decode cX12_hasAll 34 = .ok (.if_icmp .ne 7, 3) := by decide +kernel
theorem dX12_hasAll_37 : decode cX12_hasAll 37 = .ok (.iconst 1, 1) := by decide +kernel
theorem dX12_hasAll_38 : decode cX12_hasAll 38 = .ok (.goto 4, 3) := by decide +kernel
theorem dX12_hasAll_41 : decode cX12_hasAll 41 = .ok (.iconst 0, 1) := by decide +kernel
theorem dX12_hasAll_42 : decode cX12_hasAll 42 = .ok (.iadd, 1) := by decide +kernel
theorem dX12_hasAll_43 : decode cX12_hasAll 43 = .ok (.istore 4, 2) := by decide +kernel
theorem dX12_hasAll_45 : decode cX12_hasAll 45 = .ok (.iinc 5 1, 3) := by decide +kernel
theorem dX12_hasAll_48 : decode cX12_hasAll 48 = .ok (.goto (-35), 3) := by decide +kernel
theorem dX12_hasAll_51 : decode cX12_hasAll 51 = .ok (.iload 4, 2) := by decide +kernel
theorem dX12_hasAll_53 : decode cX12_hasAll 53 = .ok (.aload_n 0, 1) := by decide +kernel
theorem dX12_hasAll_54 : decode cX12_hasAll 54 = .ok (.iload_n 1, 1) := by decide +kernel
theorem dX12_hasAll_55 : decode cX12_hasAll 55 = .ok (.aload_n 0, 1) := by decide +kernel
theorem dX12_hasAll_56 : decode cX12_hasAll 56 = .ok (.getfield 104, 3) := by decide +kernel
theorem dX12_hasAll_59 : decode cX12_hasAll 59 = .ok (.iload_n 3, 1) := by decide +kernel
theorem dX12_hasAll_60 : decode cX12_hasAll 60 = .ok (.iaload, 1) := by decide +kernel
theorem dX12_hasAll_61 : decode cX12_hasAll 61 = .ok (.invokevirtual 348, 3) := by decide +kernel
theorem dX12_hasAll_64 : decode cX12_hasAll 64 = .ok (.if_icmp .le 5, 3) := by decide +kernel
theorem dX12_hasAll_67 : decode cX12_hasAll 67 = .ok (.iconst 0, 1) := by decide +kernel
theorem dX12_hasAll_68 : decode cX12_hasAll 68 = .ok (.ireturn, 1) := by decide +kernel
theorem dX12_hasAll_69 : decode cX12_hasAll 69 = .ok (.iinc 3 1, 3) := by decide +kernel
theorem dX12_hasAll_72 : decode cX12_hasAll 72 = .ok (.goto (-70), 3) := by decide +kernel
theorem dX12_hasAll_75 : decode cX12_hasAll 75 = .ok (.iconst 1, 1) := by decide +kernel
theorem dX12_hasAll_76 : decode cX12_hasAll 76 = .ok (.ireturn, 1) := by decide +kernel
noncomputable def f_X12_hasAll_13 (v1 : Int32) (v2 : Int32) (v3 : Int32) (v4 : Int32) (v5 : Int32) (σ : am_H) : Option ((Int32 × Int32) ⊕ (Int32)) :=
  if v5 < v2 then
   ((am_ix 6 v5).bind fun j2 =>
   (am_ix 6 v3).bind fun j3 =>
   if (σ.1 1377 0 j2) = (σ.1 1377 0 j3) then
    (some (.inl ((v4 + 1), (v5 + 1))))
   else
   some (.inl ((v4 + 0), (v5 + 1))))
  else
  some (.inr v4)
set_option maxRecDepth 100000 in
set_option maxHeartbeats 4000000 in
theorem q_X12_hasAll_13 {X : am_X} (hX : am_ks X = am_ksM) {Q : Option Value → am_H → Prop} (v1 : Int32) (v2 : Int32) (v3 : Int32) (v4 : Int32) (v5 : Int32) (σ : am_H) {o : (Int32 × Int32) ⊕ (Int32)} (hf : f_X12_hasAll_13 v1 v2 v3 v4 v5 σ = some o) (hk0 : ∀ s, o = .inl s → am_G X gm_X12_hasAll Q 13 [(0, .ref (am_ad X 12 0)), (1, .int v1), (2, .int v2), (3, .int v3), (4, .int s.1), (5, .int s.2)] [] σ) (hk1 : ∀ t, o = .inr t → am_G X gm_X12_hasAll Q 51 [(0, .ref (am_ad X 12 0)), (1, .int v1), (2, .int v2), (3, .int v3), (4, .int t)] [] σ) : am_G X gm_X12_hasAll Q 13 [(0, .ref (am_ad X 12 0)), (1, .int v1), (2, .int v2), (3, .int v3), (4, .int v4), (5, .int v5)] [] σ := by
  unfold f_X12_hasAll_13 at hf
  refine g_iload (pc := 13) 5 rfl dX12_hasAll_13 ?_
  refine g_iload_n (pc := 15) 2 rfl dX12_hasAll_15 rfl ?_
  refine bi_ge (pc := 16) 51 dX12_hasAll_16 rfl (fun c1 => ?_) (fun c1 => ?_)
  · replace hf := am_ifT c1 hf
    refine g_iload (pc := 19) 4 rfl dX12_hasAll_19 ?_
    refine g_aload_n (pc := 21) 0 rfl dX12_hasAll_21 rfl ?_
    refine g_getC (pc := 22) (e := 0) (in_12 hX (by omega)) fr_X12_104 dX12_hasAll_22 rfl ?_
    refine g_iload (pc := 25) 5 rfl dX12_hasAll_25 ?_
    obtain ⟨j2, hj2, hf⟩ := am_bd hf
    have gj2 := am_ix_lt hj2
    refine g_aI (pc := 27) (in_1377 hX (by omega)) ak_1377 hj2 dX12_hasAll_27 ?_
    refine g_aload_n (pc := 28) 0 rfl dX12_hasAll_28 rfl ?_
    refine g_getC (pc := 29) (e := 0) (in_12 hX (by omega)) fr_X12_104 dX12_hasAll_29 rfl ?_
    refine g_iload_n (pc := 32) 3 rfl dX12_hasAll_32 rfl ?_
    obtain ⟨j3, hj3, hf⟩ := am_bd hf
    have gj3 := am_ix_lt hj3
    refine g_aI (pc := 33) (in_1377 hX (by omega)) ak_1377 hj3 dX12_hasAll_33 ?_
    refine bi_ne (pc := 34) 41 dX12_hasAll_34 rfl (fun c4 => ?_) (fun c4 => ?_)
    · replace hf := am_ifT c4 hf
      refine g_iconst (pc := 37) (v := 1) dX12_hasAll_37 (by decide) ?_
      refine g_goto (pc := 38) 42 dX12_hasAll_38 rfl ?_
      refine g_iadd (pc := 42) dX12_hasAll_42 ?_
      refine g_istore (pc := 43) [(4, .int (v4 + 1)), (0, .ref (am_ad X 12 0)), (1, .int v1), (2, .int v2), (3, .int v3), (5, .int v5)] dX12_hasAll_43 (Nat.le_of_ble_eq_true rfl) rfl ?_
      refine g_iinc (pc := 45) (v := (v5 + 1)) 5 [(5, .int (v5 + 1)), (4, .int (v4 + 1)), (0, .ref (am_ad X 12 0)), (1, .int v1), (2, .int v2), (3, .int v3)] dX12_hasAll_45 rfl rfl (Nat.le_of_ble_eq_true rfl) rfl ?_
      refine g_goto (pc := 48) 13 dX12_hasAll_48 rfl ?_
      have hz := hk0 _ (Option.some.inj hf).symm
      exact am_sub [2, 3, 4, 5, 1, 0] rfl hz
    replace hf := am_ifF c4 hf
    refine g_iconst (pc := 41) (v := 0) dX12_hasAll_41 (by decide) ?_
    refine g_iadd (pc := 42) dX12_hasAll_42 ?_
    refine g_istore (pc := 43) [(4, .int (v4 + 0)), (0, .ref (am_ad X 12 0)), (1, .int v1), (2, .int v2), (3, .int v3), (5, .int v5)] dX12_hasAll_43 (Nat.le_of_ble_eq_true rfl) rfl ?_
    refine g_iinc (pc := 45) (v := (v5 + 1)) 5 [(5, .int (v5 + 1)), (4, .int (v4 + 0)), (0, .ref (am_ad X 12 0)), (1, .int v1), (2, .int v2), (3, .int v3)] dX12_hasAll_45 rfl rfl (Nat.le_of_ble_eq_true rfl) rfl ?_
    refine g_goto (pc := 48) 13 dX12_hasAll_48 rfl ?_
    have hz := hk0 _ (Option.some.inj hf).symm
    exact am_sub [2, 3, 4, 5, 1, 0] rfl hz
  replace hf := am_ifF c1 hf
  have hz := hk1 _ (Option.some.inj hf).symm
  exact am_sub [0, 1, 2, 3, 4] rfl hz
set_option maxRecDepth 100000 in
set_option maxHeartbeats 4000000 in
theorem l_X12_hasAll_13 {X : am_X} (hX : am_ks X = am_ksM) {Q : Option Value → am_H → Prop} (v1 : Int32) (v2 : Int32) (v3 : Int32) (σ : am_H) (s : Int32 × Int32) {o : Int32} (hf : am_loop (fun s => f_X12_hasAll_13 v1 v2 v3 s.1 s.2 σ) s = some o) (hk1 : ∀ t, o = t → am_G X gm_X12_hasAll Q 51 [(0, .ref (am_ad X 12 0)), (1, .int v1), (2, .int v2), (3, .int v3), (4, .int t)] [] σ) : am_G X gm_X12_hasAll Q 13 [(0, .ref (am_ad X 12 0)), (1, .int v1), (2, .int v2), (3, .int v3), (4, .int s.1), (5, .int s.2)] [] σ := by
  refine am_loop_ind (P := fun s => am_G X gm_X12_hasAll Q 13 [(0, .ref (am_ad X 12 0)), (1, .int v1), (2, .int v2), (3, .int v3), (4, .int s.1), (5, .int s.2)] [] σ) (K := fun r => r = o) ?_ hf rfl
  intro s o1 hb hi hr
  exact q_X12_hasAll_13 hX v1 v2 v3 s.1 s.2  σ hb hi (fun t e => hk1 t (hr _ e).symm)
noncomputable def f_X12_hasAll_2 (v1 : Int32) (v2 : Int32) (v3 : Int32) (σ : am_H) : Option ((Int32) ⊕ ((Unit) ⊕ (Unit))) :=
  if v3 < v2 then
   ((am_loop (fun s => f_X12_hasAll_13 v1 v2 v3 s.1 s.2 σ) (0, 0)).bind fun w2 =>
   (am_ix 6 v3).bind fun j3 =>
   (f_X12_boxed v1 (σ.1 1377 0 j3) σ).bind fun p4 =>
   if p4 < w2 then
    (some (.inr (.inl ())))
   else
   some (.inl (v3 + 1)))
  else
  some (.inr (.inr ()))
set_option maxRecDepth 100000 in
set_option maxHeartbeats 4000000 in
theorem q_X12_hasAll_2 {X : am_X} (hX : am_ks X = am_ksM) {Q : Option Value → am_H → Prop} (v1 : Int32) (v2 : Int32) (v3 : Int32) (σ : am_H) {o : (Int32) ⊕ ((Unit) ⊕ (Unit))} (hf : f_X12_hasAll_2 v1 v2 v3 σ = some o) (hk0 : ∀ s, o = .inl s → am_G X gm_X12_hasAll Q 2 [(0, .ref (am_ad X 12 0)), (1, .int v1), (2, .int v2), (3, .int s)] [] σ) (hk1 : ∀ t, o = .inr (.inl t) → am_G X gm_X12_hasAll Q 67 [] [] σ) (hk2 : ∀ t, o = .inr (.inr t) → am_G X gm_X12_hasAll Q 75 [] [] σ) : am_G X gm_X12_hasAll Q 2 [(0, .ref (am_ad X 12 0)), (1, .int v1), (2, .int v2), (3, .int v3)] [] σ := by
  unfold f_X12_hasAll_2 at hf
  refine g_iload_n (pc := 2) 3 rfl dX12_hasAll_2 rfl ?_
  refine g_iload_n (pc := 3) 2 rfl dX12_hasAll_3 rfl ?_
  refine bi_ge (pc := 4) 75 dX12_hasAll_4 rfl (fun c1 => ?_) (fun c1 => ?_)
  · replace hf := am_ifT c1 hf
    refine g_iconst (pc := 7) (v := 0) dX12_hasAll_7 (by decide) ?_
    refine g_istore (pc := 8) [(4, .int 0), (0, .ref (am_ad X 12 0)), (1, .int v1), (2, .int v2), (3, .int v3)] dX12_hasAll_8 (Nat.le_of_ble_eq_true rfl) rfl ?_
    refine g_iconst (pc := 10) (v := 0) dX12_hasAll_10 (by decide) ?_
    refine g_istore (pc := 11) [(5, .int 0), (4, .int 0), (0, .ref (am_ad X 12 0)), (1, .int v1), (2, .int v2), (3, .int v3)] dX12_hasAll_11 (Nat.le_of_ble_eq_true rfl) rfl ?_
    obtain ⟨w2, hw2, hf⟩ := am_bd hf
    refine am_sub [2, 3, 4, 5, 1, 0] rfl (l_X12_hasAll_13 hX v1 v2 v3  σ (0, 0) hw2 ?_)
    intro t e
    subst e
    refine g_iload (pc := 51) 4 rfl dX12_hasAll_51 ?_
    refine g_aload_n (pc := 53) 0 rfl dX12_hasAll_53 rfl ?_
    refine g_iload_n (pc := 54) 1 rfl dX12_hasAll_54 rfl ?_
    refine g_aload_n (pc := 55) 0 rfl dX12_hasAll_55 rfl ?_
    refine g_getC (pc := 56) (e := 0) (in_12 hX (by omega)) fr_X12_104 dX12_hasAll_56 rfl ?_
    refine g_iload_n (pc := 59) 3 rfl dX12_hasAll_59 rfl ?_
    obtain ⟨j3, hj3, hf⟩ := am_bd hf
    have gj3 := am_ix_lt hj3
    refine g_aI (pc := 60) (in_1377 hX (by omega)) ak_1377 hj3 dX12_hasAll_60 ?_
    obtain ⟨p4, hp4, hf⟩ := am_bd hf
    refine g_cV (pc := 61) (As := [.int v1, .int (σ.1 1377 0 j3)]) (st := [.int w2]) (st1 := [.int p4, .int w2]) (in_12 hX (by omega)) kk_12 mV_X12_boxed ln_X12_348 rfl (Nat.le_of_ble_eq_true rfl) (Nat.le_of_ble_eq_true rfl) (k_X12_boxed hX v1 (σ.1 1377 0 j3) σ hp4) dX12_hasAll_61 rfl rfl ?_
    refine bi_le (pc := 64) 69 dX12_hasAll_64 rfl (fun c5 => ?_) (fun c5 => ?_)
    · replace hf := am_ifT c5 hf
      have hz := hk1 _ (Option.some.inj hf).symm
      exact am_sub [] rfl hz
    replace hf := am_ifF c5 hf
    refine g_iinc (pc := 69) (v := (v3 + 1)) 3 [(3, .int (v3 + 1)), (0, .ref (am_ad X 12 0)), (1, .int v1), (2, .int v2), (4, .int w2)] dX12_hasAll_69 rfl rfl (Nat.le_of_ble_eq_true rfl) rfl ?_
    refine g_goto (pc := 72) 2 dX12_hasAll_72 rfl ?_
    have hz := hk0 _ (Option.some.inj hf).symm
    exact am_sub [1, 2, 3, 0] rfl hz
  replace hf := am_ifF c1 hf
  have hz := hk2 _ (Option.some.inj hf).symm
  exact am_sub [] rfl hz
set_option maxRecDepth 100000 in
set_option maxHeartbeats 4000000 in
theorem l_X12_hasAll_2 {X : am_X} (hX : am_ks X = am_ksM) {Q : Option Value → am_H → Prop} (v1 : Int32) (v2 : Int32) (σ : am_H) (s : Int32) {o : (Unit) ⊕ (Unit)} (hf : am_loop (fun s => f_X12_hasAll_2 v1 v2 s σ) s = some o) (hk1 : ∀ t, o = (.inl t) → am_G X gm_X12_hasAll Q 67 [] [] σ) (hk2 : ∀ t, o = (.inr t) → am_G X gm_X12_hasAll Q 75 [] [] σ) : am_G X gm_X12_hasAll Q 2 [(0, .ref (am_ad X 12 0)), (1, .int v1), (2, .int v2), (3, .int s)] [] σ := by
  refine am_loop_ind (P := fun s => am_G X gm_X12_hasAll Q 2 [(0, .ref (am_ad X 12 0)), (1, .int v1), (2, .int v2), (3, .int s)] [] σ) (K := fun r => r = o) ?_ hf rfl
  intro s o1 hb hi hr
  exact q_X12_hasAll_2 hX v1 v2 s  σ hb hi (fun t e => hk1 t (hr _ e).symm) (fun t e => hk2 t (hr _ e).symm)
noncomputable def f_X12_hasAll (v1 : Int32) (v2 : Int32) (σ : am_H) : Option (Bool) :=
  (am_loop (fun s => f_X12_hasAll_2 v1 v2 s σ) 0).bind fun w1 =>
  Sum.elim (fun t1_0 =>
   some false) (fun u1_0 =>
   some true) w1
set_option maxRecDepth 100000 in
set_option maxHeartbeats 4000000 in
theorem q_X12_hasAll {X : am_X} (hX : am_ks X = am_ksM) {Q : Option Value → am_H → Prop} (v1 : Int32) (v2 : Int32) (σ : am_H) {o : Bool} (hf : f_X12_hasAll v1 v2 σ = some o) (hk : Q (some (.int (am_b o))) σ) : am_G X gm_X12_hasAll Q 0 [(0, .ref (am_ad X 12 0)), (1, .int v1), (2, .int v2)] [] σ := by
  unfold f_X12_hasAll at hf
  refine g_iconst (pc := 0) (v := 0) dX12_hasAll_0 (by decide) ?_
  refine g_istore_n (pc := 1) [(3, .int 0), (0, .ref (am_ad X 12 0)), (1, .int v1), (2, .int v2)] dX12_hasAll_1 rfl (Nat.le_of_ble_eq_true rfl) rfl ?_
  obtain ⟨w1, hw1, hf⟩ := am_bd hf
  refine am_sub [1, 2, 3, 0] rfl (l_X12_hasAll_2 hX v1 v2  σ 0 hw1 ?_ ?_)
  · intro t1_0 e
    subst e
    replace hf := am_elL hf
    refine g_iconst (pc := 67) (v := 0) dX12_hasAll_67 (by decide) ?_
    have ho := Option.some.inj hf
    subst ho
    exact g_zreturn (pc := 68) (st := []) (x := false) rfl dX12_hasAll_68 hk
  · intro u1_0 e
    subst e
    replace hf := am_elR hf
    refine g_iconst (pc := 75) (v := 1) dX12_hasAll_75 (by decide) ?_
    have ho := Option.some.inj hf
    subst ho
    exact g_zreturn (pc := 76) (st := []) (x := true) rfl dX12_hasAll_76 hk
theorem k_X12_hasAll {X : am_X} (hX : am_ks X = am_ksM) (v1 : Int32) (v2 : Int32) (σ : am_H) {o : Bool} (hf : f_X12_hasAll v1 v2 σ = some o) : am_C X gm_X12_hasAll [.ref (am_ad X 12 0), .int v1, .int v2] σ (am_is (some (.int (am_b o))) σ) :=
  am_ofG rfl (Nat.le_of_ble_eq_true rfl) rfl (q_X12_hasAll hX v1 v2 σ hf ⟨rfl, rfl⟩)
theorem dX12_goesOn_0 : decode cX12_goesOn 0 = .ok (.iload_n 2, 1) := by decide +kernel
theorem dX12_goesOn_1 : decode cX12_goesOn 1 = .ok (.iconst 1, 1) := by decide +kernel
theorem dX12_goesOn_2 : decode cX12_goesOn 2 = .ok (.isub, 1) := by decide +kernel
theorem dX12_goesOn_3 : decode cX12_goesOn 3 = .ok (.istore_n 3, 1) := by decide +kernel
theorem dX12_goesOn_4 : decode cX12_goesOn 4 = .ok (.iload_n 3, 1) := by decide +kernel
theorem dX12_goesOn_5 : decode cX12_goesOn 5 = .ok (.ifCond .lt 33, 3) := by decide +kernel
theorem dX12_goesOn_8 : decode cX12_goesOn 8 = .ok (.aload_n 0, 1) := by decide +kernel
theorem dX12_goesOn_9 : decode cX12_goesOn 9 = .ok (.getfield 104, 3) := by decide +kernel
theorem dX12_goesOn_12 : decode cX12_goesOn 12 = .ok (.iload_n 3, 1) := by decide +kernel
theorem dX12_goesOn_13 : decode cX12_goesOn 13 = .ok (.iaload, 1) := by decide +kernel
theorem dX12_goesOn_14 : decode cX12_goesOn 14 = .ok (.aload_n 0, 1) := by decide +kernel
theorem dX12_goesOn_15 : decode cX12_goesOn 15 = .ok (.getfield 38, 3) := by decide +kernel
theorem dX12_goesOn_18 : decode cX12_goesOn 18 = .ok (.iload_n 1, 1) := by decide +kernel
theorem dX12_goesOn_19 : decode cX12_goesOn 19 = .ok (.iaload, 1) := by decide +kernel
theorem dX12_goesOn_20 : decode cX12_goesOn 20 = .ok (.iconst 1, 1) := by decide +kernel
theorem dX12_goesOn_21 : decode cX12_goesOn 21 = .ok (.isub, 1) := by decide +kernel
theorem dX12_goesOn_22 : decode cX12_goesOn 22 = .ok (.if_icmp .ne 16, 3) := by decide +kernel
theorem dX12_goesOn_25 : decode cX12_goesOn 25 = .ok (.aload_n 0, 1) := by decide +kernel
theorem dX12_goesOn_26 : decode cX12_goesOn 26 = .ok (.getfield 104, 3) := by decide +kernel
theorem dX12_goesOn_29 : decode cX12_goesOn 29 = .ok (.iload_n 3, 1) := by decide +kernel
theorem dX12_goesOn_30 : decode cX12_goesOn 30 = .ok (.iconst 0, 1) := by decide +kernel
theorem dX12_goesOn_31 : decode cX12_goesOn 31 = .ok (.iastore, 1) := by decide +kernel
theorem dX12_goesOn_32 : decode cX12_goesOn 32 = .ok (.iinc 3 (-1), 3) := by decide +kernel
theorem dX12_goesOn_35 : decode cX12_goesOn 35 = .ok (.goto (-31), 3) := by decide +kernel
theorem dX12_goesOn_38 : decode cX12_goesOn 38 = .ok (.iload_n 3, 1) := by decide +kernel
theorem dX12_goesOn_39 : decode cX12_goesOn 39 = .ok (.ifCond .ge 5, 3) := by decide +kernel
theorem dX12_goesOn_42 : decode cX12_goesOn 42 = .ok (.iconst 0, 1) := by decide +kernel
theorem dX12_goesOn_43 : decode cX12_goesOn 43 = .ok (.ireturn, 1) := by decide +kernel
theorem dX12_goesOn_44 : decode cX12_goesOn 44 = .ok (.aload_n 0, 1) := by decide +kernel
theorem dX12_goesOn_45 : decode cX12_goesOn 45 = .ok (.getfield 104, 3) := by decide +kernel
theorem dX12_goesOn_48 : decode cX12_goesOn 48 = .ok (.iload_n 3, 1) := by decide +kernel
theorem dX12_goesOn_49 : decode cX12_goesOn 49 = .ok (.dup2, 1) := by decide +kernel
theorem dX12_goesOn_50 : decode cX12_goesOn 50 = .ok (.iaload, 1) := by decide +kernel
theorem dX12_goesOn_51 : decode cX12_goesOn 51 = .ok (.iconst 1, 1) := by decide +kernel
theorem dX12_goesOn_52 : decode cX12_goesOn 52 = .ok (.iadd, 1) := by decide +kernel
theorem dX12_goesOn_53 : decode cX12_goesOn 53 = .ok (.iastore, 1) := by decide +kernel
theorem dX12_goesOn_54 : decode cX12_goesOn 54 = .ok (.iconst 1, 1) := by decide +kernel
theorem dX12_goesOn_55 : decode cX12_goesOn 55 = .ok (.ireturn, 1) := by decide +kernel
noncomputable def f_X12_goesOn_4 (v1 : Int32) (v3 : Int32) (σ : am_H) : Option ((Int32 × am_H) ⊕ (Int32 × am_H)) :=
  if v3 < 0 then
   (some (.inr (v3, σ)))
  else
  (am_ix 6 v3).bind fun j2 =>
  (am_ix 3 v1).bind fun j3 =>
  if (σ.1 1377 0 j2) = ((σ.1 1321 0 j3) - 1) then
   ((am_ix 6 v3).bind fun j5 =>
   (some (am_wI σ 1377 0 j5 0)).bind fun s6 =>
   some (.inl ((v3 + (-1)), s6)))
  else
  some (.inr (v3, σ))
set_option maxRecDepth 100000 in
set_option maxHeartbeats 4000000 in
theorem q_X12_goesOn_4 {X : am_X} (hX : am_ks X = am_ksM) {Q : Option Value → am_H → Prop} (v1 : Int32) (v3 : Int32) (σ : am_H) {o : (Int32 × am_H) ⊕ (Int32 × am_H)} (hf : f_X12_goesOn_4 v1 v3 σ = some o) (hk0 : ∀ s, o = .inl s → am_G X gm_X12_goesOn Q 4 [(0, .ref (am_ad X 12 0)), (1, .int v1), (3, .int s.1)] [] s.2) (hk1 : ∀ t, o = .inr t → am_G X gm_X12_goesOn Q 38 [(0, .ref (am_ad X 12 0)), (3, .int t.1)] [] t.2) : am_G X gm_X12_goesOn Q 4 [(0, .ref (am_ad X 12 0)), (1, .int v1), (3, .int v3)] [] σ := by
  unfold f_X12_goesOn_4 at hf
  refine g_iload_n (pc := 4) 2 rfl dX12_goesOn_4 rfl ?_
  refine bz_lt (pc := 5) 38 dX12_goesOn_5 rfl (fun c1 => ?_) (fun c1 => ?_)
  · replace hf := am_ifT c1 hf
    have hz := hk1 _ (Option.some.inj hf).symm
    exact am_sub [0, 2] rfl hz
  replace hf := am_ifF c1 hf
  refine g_aload_n (pc := 8) 0 rfl dX12_goesOn_8 rfl ?_
  refine g_getC (pc := 9) (e := 0) (in_12 hX (by omega)) fr_X12_104 dX12_goesOn_9 rfl ?_
  refine g_iload_n (pc := 12) 2 rfl dX12_goesOn_12 rfl ?_
  obtain ⟨j2, hj2, hf⟩ := am_bd hf
  have gj2 := am_ix_lt hj2
  refine g_aI (pc := 13) (in_1377 hX (by omega)) ak_1377 hj2 dX12_goesOn_13 ?_
  refine g_aload_n (pc := 14) 0 rfl dX12_goesOn_14 rfl ?_
  refine g_getC (pc := 15) (e := 0) (in_12 hX (by omega)) fr_X12_38 dX12_goesOn_15 rfl ?_
  refine g_iload_n (pc := 18) 1 rfl dX12_goesOn_18 rfl ?_
  obtain ⟨j3, hj3, hf⟩ := am_bd hf
  have gj3 := am_ix_lt hj3
  refine g_aI (pc := 19) (in_1321 hX (by omega)) ak_1321 hj3 dX12_goesOn_19 ?_
  refine g_iconst (pc := 20) (v := 1) dX12_goesOn_20 (by decide) ?_
  refine g_isub (pc := 21) dX12_goesOn_21 ?_
  refine bi_ne (pc := 22) 38 dX12_goesOn_22 rfl (fun c4 => ?_) (fun c4 => ?_)
  · replace hf := am_ifT c4 hf
    refine g_aload_n (pc := 25) 0 rfl dX12_goesOn_25 rfl ?_
    refine g_getC (pc := 26) (e := 0) (in_12 hX (by omega)) fr_X12_104 dX12_goesOn_26 rfl ?_
    refine g_iload_n (pc := 29) 2 rfl dX12_goesOn_29 rfl ?_
    refine g_iconst (pc := 30) (v := 0) dX12_goesOn_30 (by decide) ?_
    obtain ⟨j5, hj5, hf⟩ := am_bd hf
    have gj5 := am_ix_lt hj5
    obtain ⟨s6, hs6, hf⟩ := am_bd hf
    refine g_sI (pc := 31) (in_1377 hX (by omega)) ak_1377 hj5 dX12_goesOn_31 (Option.some.inj hs6) ?_
    refine g_iinc (pc := 32) (v := (v3 + (-1))) 2 [(3, .int (v3 + (-1))), (0, .ref (am_ad X 12 0)), (1, .int v1)] dX12_goesOn_32 rfl rfl (Nat.le_of_ble_eq_true rfl) rfl ?_
    refine g_goto (pc := 35) 4 dX12_goesOn_35 rfl ?_
    have hz := hk0 _ (Option.some.inj hf).symm
    exact am_sub [1, 2, 0] rfl hz
  replace hf := am_ifF c4 hf
  have hz := hk1 _ (Option.some.inj hf).symm
  exact am_sub [0, 2] rfl hz
set_option maxRecDepth 100000 in
set_option maxHeartbeats 4000000 in
theorem l_X12_goesOn_4 {X : am_X} (hX : am_ks X = am_ksM) {Q : Option Value → am_H → Prop} (v1 : Int32) (σ : am_H) (s : Int32 × am_H) {o : Int32 × am_H} (hf : am_loop (fun s => f_X12_goesOn_4 v1 s.1 s.2) s = some o) (hk1 : ∀ t, o = t → am_G X gm_X12_goesOn Q 38 [(0, .ref (am_ad X 12 0)), (3, .int t.1)] [] t.2) : am_G X gm_X12_goesOn Q 4 [(0, .ref (am_ad X 12 0)), (1, .int v1), (3, .int s.1)] [] s.2 := by
  refine am_loop_ind (P := fun s => am_G X gm_X12_goesOn Q 4 [(0, .ref (am_ad X 12 0)), (1, .int v1), (3, .int s.1)] [] s.2) (K := fun r => r = o) ?_ hf rfl
  intro s o1 hb hi hr
  exact q_X12_goesOn_4 hX v1 s.1  s.2 hb hi (fun t e => hk1 t (hr _ e).symm)
noncomputable def f_X12_goesOn (v1 : Int32) (v2 : Int32) (σ : am_H) : Option (Bool × am_H) :=
  (am_loop (fun s => f_X12_goesOn_4 v1 s.1 s.2) ((v2 - 1), σ)).bind fun w1 =>
  if w1.1 < 0 then
   (some (false, w1.2))
  else
  (am_ix 6 w1.1).bind fun j3 =>
  (am_ix 6 w1.1).bind fun j4 =>
  (some (am_wI w1.2 1377 0 j4 ((w1.2.1 1377 0 j3) + 1))).bind fun s5 =>
  some (true, s5)
set_option maxRecDepth 100000 in
set_option maxHeartbeats 4000000 in
theorem q_X12_goesOn {X : am_X} (hX : am_ks X = am_ksM) {Q : Option Value → am_H → Prop} (v1 : Int32) (v2 : Int32) (σ : am_H) {o : Bool × am_H} (hf : f_X12_goesOn v1 v2 σ = some o) (hk : Q (some (.int (am_b o.1))) o.2) : am_G X gm_X12_goesOn Q 0 [(0, .ref (am_ad X 12 0)), (1, .int v1), (2, .int v2)] [] σ := by
  unfold f_X12_goesOn at hf
  refine g_iload_n (pc := 0) 2 rfl dX12_goesOn_0 rfl ?_
  refine g_iconst (pc := 1) (v := 1) dX12_goesOn_1 (by decide) ?_
  refine g_isub (pc := 2) dX12_goesOn_2 ?_
  refine g_istore_n (pc := 3) [(3, .int (v2 - 1)), (0, .ref (am_ad X 12 0)), (1, .int v1), (2, .int v2)] dX12_goesOn_3 rfl (Nat.le_of_ble_eq_true rfl) rfl ?_
  obtain ⟨w1, hw1, hf⟩ := am_bd hf
  refine am_sub [1, 2, 0] rfl (l_X12_goesOn_4 hX v1  σ ((v2 - 1), σ) hw1 ?_)
  intro t e
  subst e
  refine g_iload_n (pc := 38) 1 rfl dX12_goesOn_38 rfl ?_
  refine bz_ge (pc := 39) 44 dX12_goesOn_39 rfl (fun c2 => ?_) (fun c2 => ?_)
  · replace hf := am_ifT c2 hf
    refine g_iconst (pc := 42) (v := 0) dX12_goesOn_42 (by decide) ?_
    have ho := Option.some.inj hf
    subst ho
    exact g_zreturn (pc := 43) (st := []) (x := false) rfl dX12_goesOn_43 hk
  replace hf := am_ifF c2 hf
  refine g_aload_n (pc := 44) 0 rfl dX12_goesOn_44 rfl ?_
  refine g_getC (pc := 45) (e := 0) (in_12 hX (by omega)) fr_X12_104 dX12_goesOn_45 rfl ?_
  refine g_iload_n (pc := 48) 1 rfl dX12_goesOn_48 rfl ?_
  refine g_dup2_11 (pc := 49) dX12_goesOn_49 rfl rfl ?_
  obtain ⟨j3, hj3, hf⟩ := am_bd hf
  have gj3 := am_ix_lt hj3
  refine g_aI (pc := 50) (in_1377 hX (by omega)) ak_1377 hj3 dX12_goesOn_50 ?_
  refine g_iconst (pc := 51) (v := 1) dX12_goesOn_51 (by decide) ?_
  refine g_iadd (pc := 52) dX12_goesOn_52 ?_
  obtain ⟨j4, hj4, hf⟩ := am_bd hf
  have gj4 := am_ix_lt hj4
  obtain ⟨s5, hs5, hf⟩ := am_bd hf
  refine g_sI (pc := 53) (in_1377 hX (by omega)) ak_1377 hj4 dX12_goesOn_53 (Option.some.inj hs5) ?_
  refine g_iconst (pc := 54) (v := 1) dX12_goesOn_54 (by decide) ?_
  have ho := Option.some.inj hf
  subst ho
  exact g_zreturn (pc := 55) (st := []) (x := true) rfl dX12_goesOn_55 hk
theorem k_X12_goesOn {X : am_X} (hX : am_ks X = am_ksM) (v1 : Int32) (v2 : Int32) (σ : am_H) {o : Bool × am_H} (hf : f_X12_goesOn v1 v2 σ = some o) : am_C X gm_X12_goesOn [.ref (am_ad X 12 0), .int v1, .int v2] σ (am_is (some (.int (am_b o.1))) o.2) :=
  am_ofG rfl (Nat.le_of_ble_eq_true rfl) rfl (q_X12_goesOn hX v1 v2 σ hf ⟨rfl, rfl⟩)
theorem dX12_product_0 : decode cX12_product 0 = .ok (.lconst 1, 1) := by decide +kernel
theorem dX12_product_1 : decode cX12_product 1 = .ok (.lstore 4, 2) := by decide +kernel
theorem dX12_product_3 : decode cX12_product 3 = .ok (.iload_n 2, 1) := by decide +kernel
theorem dX12_product_4 : decode cX12_product 4 = .ok (.istore 6, 2) := by decide +kernel
theorem dX12_product_6 : decode cX12_product 6 = .ok (.iload 6, 2) := by decide +kernel
theorem dX12_product_8 : decode cX12_product 8 = .ok (.iload_n 3, 1) := by decide +kernel
theorem dX12_product_9 : decode cX12_product 9 = .ok (.if_icmp .ge 27, 3) := by decide +kernel
theorem dX12_product_12 : decode cX12_product 12 = .ok (.lload 4, 2) := by decide +kernel
theorem dX12_product_14 : decode cX12_product 14 = .ok (.aload_n 0, 1) := by decide +kernel
theorem dX12_product_15 : decode cX12_product 15 = .ok (.iload_n 1, 1) := by decide +kernel
theorem dX12_product_16 : decode cX12_product 16 = .ok (.aload_n 0, 1) := by decide +kernel
theorem dX12_product_17 : decode cX12_product 17 = .ok (.getfield 104, 3) := by decide +kernel
theorem dX12_product_20 : decode cX12_product 20 = .ok (.iload 6, 2) := by decide +kernel
theorem dX12_product_22 : decode cX12_product 22 = .ok (.iaload, 1) := by decide +kernel
theorem dX12_product_23 : decode cX12_product 23 = .ok (.invokevirtual 351, 3) := by decide +kernel
theorem dX12_product_26 : decode cX12_product 26 = .ok (.i2l, 1) := by decide +kernel
theorem dX12_product_27 : decode cX12_product 27 = .ok (.lmul, 1) := by decide +kernel
theorem dX12_product_28 : decode cX12_product 28 = .ok (.lstore 4, 2) := by decide +kernel
theorem dX12_product_30 : decode cX12_product 30 = .ok (.iinc 6 2, 3) := by decide +kernel
theorem dX12_product_33 : decode cX12_product 33 = .ok (.goto (-27), 3) := by decide +kernel
theorem dX12_product_36 : decode cX12_product 36 = .ok (.lload 4, 2) := by decide +kernel
theorem dX12_product_38 : decode cX12_product 38 = .ok (.lreturn, 1) := by decide +kernel
noncomputable def f_X12_product_6 (v1 : Int32) (v3 : Int32) (v4 : Int64) (v6 : Int32) (σ : am_H) : Option ((Int64 × Int32) ⊕ (Int64)) :=
  if v6 < v3 then
   ((am_ix 6 v6).bind fun j2 =>
   (f_X12_teeth v1 (σ.1 1377 0 j2) σ).bind fun p3 =>
   some (.inl ((v4 * (Int32.toInt64 p3)), (v6 + 2))))
  else
  some (.inr v4)
set_option maxRecDepth 100000 in
set_option maxHeartbeats 4000000 in
theorem q_X12_product_6 {X : am_X} (hX : am_ks X = am_ksM) {Q : Option Value → am_H → Prop} (v1 : Int32) (v3 : Int32) (v4 : Int64) (v6 : Int32) (σ : am_H) {o : (Int64 × Int32) ⊕ (Int64)} (hf : f_X12_product_6 v1 v3 v4 v6 σ = some o) (hk0 : ∀ s, o = .inl s → am_G X gm_X12_product Q 6 [(0, .ref (am_ad X 12 0)), (1, .int v1), (3, .int v3), (4, .long s.1), (6, .int s.2)] [] σ) (hk1 : ∀ t, o = .inr t → am_G X gm_X12_product Q 36 [(4, .long t)] [] σ) : am_G X gm_X12_product Q 6 [(0, .ref (am_ad X 12 0)), (1, .int v1), (3, .int v3), (4, .long v4), (6, .int v6)] [] σ := by
  unfold f_X12_product_6 at hf
  refine g_iload (pc := 6) 4 rfl dX12_product_6 ?_
  refine g_iload_n (pc := 8) 2 rfl dX12_product_8 rfl ?_
  refine bi_ge (pc := 9) 36 dX12_product_9 rfl (fun c1 => ?_) (fun c1 => ?_)
  · replace hf := am_ifT c1 hf
    refine g_lload (pc := 12) 3 rfl dX12_product_12 ?_
    refine g_aload_n (pc := 14) 0 rfl dX12_product_14 rfl ?_
    refine g_iload_n (pc := 15) 1 rfl dX12_product_15 rfl ?_
    refine g_aload_n (pc := 16) 0 rfl dX12_product_16 rfl ?_
    refine g_getC (pc := 17) (e := 0) (in_12 hX (by omega)) fr_X12_104 dX12_product_17 rfl ?_
    refine g_iload (pc := 20) 4 rfl dX12_product_20 ?_
    obtain ⟨j2, hj2, hf⟩ := am_bd hf
    have gj2 := am_ix_lt hj2
    refine g_aI (pc := 22) (in_1377 hX (by omega)) ak_1377 hj2 dX12_product_22 ?_
    obtain ⟨p3, hp3, hf⟩ := am_bd hf
    refine g_cV (pc := 23) (As := [.int v1, .int (σ.1 1377 0 j2)]) (st := [.long v4]) (st1 := [.int p3, .long v4]) (in_12 hX (by omega)) kk_12 mV_X12_teeth ln_X12_351 rfl (Nat.le_of_ble_eq_true rfl) (Nat.le_of_ble_eq_true rfl) (k_X12_teeth hX v1 (σ.1 1377 0 j2) σ hp3) dX12_product_23 rfl rfl ?_
    refine g_i2l (pc := 26) dX12_product_26 ?_
    refine g_lmul (pc := 27) dX12_product_27 ?_
    refine g_lstore (pc := 28) [(4, .long (v4 * (Int32.toInt64 p3))), (0, .ref (am_ad X 12 0)), (1, .int v1), (3, .int v3), (6, .int v6)] dX12_product_28 (Nat.le_of_ble_eq_true rfl) rfl ?_
    refine g_iinc (pc := 30) (v := (v6 + 2)) 4 [(6, .int (v6 + 2)), (4, .long (v4 * (Int32.toInt64 p3))), (0, .ref (am_ad X 12 0)), (1, .int v1), (3, .int v3)] dX12_product_30 rfl rfl (Nat.le_of_ble_eq_true rfl) rfl ?_
    refine g_goto (pc := 33) 6 dX12_product_33 rfl ?_
    have hz := hk0 _ (Option.some.inj hf).symm
    exact am_sub [2, 3, 4, 1, 0] rfl hz
  replace hf := am_ifF c1 hf
  have hz := hk1 _ (Option.some.inj hf).symm
  exact am_sub [3] rfl hz
set_option maxRecDepth 100000 in
set_option maxHeartbeats 4000000 in
theorem l_X12_product_6 {X : am_X} (hX : am_ks X = am_ksM) {Q : Option Value → am_H → Prop} (v1 : Int32) (v3 : Int32) (σ : am_H) (s : Int64 × Int32) {o : Int64} (hf : am_loop (fun s => f_X12_product_6 v1 v3 s.1 s.2 σ) s = some o) (hk1 : ∀ t, o = t → am_G X gm_X12_product Q 36 [(4, .long t)] [] σ) : am_G X gm_X12_product Q 6 [(0, .ref (am_ad X 12 0)), (1, .int v1), (3, .int v3), (4, .long s.1), (6, .int s.2)] [] σ := by
  refine am_loop_ind (P := fun s => am_G X gm_X12_product Q 6 [(0, .ref (am_ad X 12 0)), (1, .int v1), (3, .int v3), (4, .long s.1), (6, .int s.2)] [] σ) (K := fun r => r = o) ?_ hf rfl
  intro s o1 hb hi hr
  exact q_X12_product_6 hX v1 v3 s.1 s.2  σ hb hi (fun t e => hk1 t (hr _ e).symm)
noncomputable def f_X12_product (v1 : Int32) (v2 : Int32) (v3 : Int32) (σ : am_H) : Option (Int64) :=
  (am_loop (fun s => f_X12_product_6 v1 v3 s.1 s.2 σ) (1, v2)).bind fun w1 =>
  some w1
set_option maxRecDepth 100000 in
set_option maxHeartbeats 4000000 in
theorem q_X12_product {X : am_X} (hX : am_ks X = am_ksM) {Q : Option Value → am_H → Prop} (v1 : Int32) (v2 : Int32) (v3 : Int32) (σ : am_H) {o : Int64} (hf : f_X12_product v1 v2 v3 σ = some o) (hk : Q (some (.long o)) σ) : am_G X gm_X12_product Q 0 [(0, .ref (am_ad X 12 0)), (1, .int v1), (2, .int v2), (3, .int v3)] [] σ := by
  unfold f_X12_product at hf
  refine g_lconst (pc := 0) (v := 1) dX12_product_0 (by decide) ?_
  refine g_lstore (pc := 1) [(4, .long 1), (0, .ref (am_ad X 12 0)), (1, .int v1), (2, .int v2), (3, .int v3)] dX12_product_1 (Nat.le_of_ble_eq_true rfl) rfl ?_
  refine g_iload_n (pc := 3) 3 rfl dX12_product_3 rfl ?_
  refine g_istore (pc := 4) [(6, .int v2), (4, .long 1), (0, .ref (am_ad X 12 0)), (1, .int v1), (2, .int v2), (3, .int v3)] dX12_product_4 (Nat.le_of_ble_eq_true rfl) rfl ?_
  obtain ⟨w1, hw1, hf⟩ := am_bd hf
  refine am_sub [2, 3, 5, 1, 0] rfl (l_X12_product_6 hX v1 v3  σ (1, v2) hw1 ?_)
  intro t e
  subst e
  refine g_lload (pc := 36) 0 rfl dX12_product_36 ?_
  have ho := Option.some.inj hf
  subst ho
  exact g_lreturn (pc := 38) (st := []) rfl dX12_product_38 hk
theorem k_X12_product {X : am_X} (hX : am_ks X = am_ksM) (v1 : Int32) (v2 : Int32) (v3 : Int32) (σ : am_H) {o : Int64} (hf : f_X12_product v1 v2 v3 σ = some o) : am_C X gm_X12_product [.ref (am_ad X 12 0), .int v1, .int v2, .int v3] σ (am_is (some (.long o)) σ) :=
  am_ofG rfl (Nat.le_of_ble_eq_true rfl) rfl (q_X12_product hX v1 v2 v3 σ hf ⟨rfl, rfl⟩)
theorem dX12_teethOf_0 : decode cX12_teethOf 0 = .ok (.iconst 0, 1) := by decide +kernel
theorem dX12_teethOf_1 : decode cX12_teethOf 1 = .ok (.istore_n 3, 1) := by decide +kernel
theorem dX12_teethOf_2 : decode cX12_teethOf 2 = .ok (.iconst 0, 1) := by decide +kernel
theorem dX12_teethOf_3 : decode cX12_teethOf 3 = .ok (.istore 4, 2) := by decide +kernel
theorem dX12_teethOf_5 : decode cX12_teethOf 5 = .ok (.iload 4, 2) := by decide +kernel
theorem dX12_teethOf_7 : decode cX12_teethOf 7 = .ok (.iload_n 2, 1) := by decide +kernel
theorem dX12_teethOf_8 : decode cX12_teethOf 8 = .ok (.if_icmp .ge 24, 3) := by decide +kernel
theorem dX12_teethOf_11 : decode cX12_teethOf 11 = .ok (.iload_n 3, 1) := by decide +kernel
theorem dX12_teethOf_12 : decode cX12_teethOf 12 = .ok (.aload_n 0, 1) := by decide +kernel
theorem dX12_teethOf_13 : decode cX12_teethOf 13 = .ok (.iload_n 1, 1) := by decide +kernel
theorem dX12_teethOf_14 : decode cX12_teethOf 14 = .ok (.aload_n 0, 1) := by decide +kernel
theorem dX12_teethOf_15 : decode cX12_teethOf 15 = .ok (.getfield 104, 3) := by decide +kernel
theorem dX12_teethOf_18 : decode cX12_teethOf 18 = .ok (.iload 4, 2) := by decide +kernel
theorem dX12_teethOf_20 : decode cX12_teethOf 20 = .ok (.iaload, 1) := by decide +kernel
theorem dX12_teethOf_21 : decode cX12_teethOf 21 = .ok (.invokevirtual 351, 3) := by decide +kernel
theorem dX12_teethOf_24 : decode cX12_teethOf 24 = .ok (.iadd, 1) := by decide +kernel
theorem dX12_teethOf_25 : decode cX12_teethOf 25 = .ok (.istore_n 3, 1) := by decide +kernel
theorem dX12_teethOf_26 : decode cX12_teethOf 26 = .ok (.iinc 4 1, 3) := by decide +kernel
theorem dX12_teethOf_29 : decode cX12_teethOf 29 = .ok (.goto (-24), 3) := by decide +kernel
theorem dX12_teethOf_32 : decode cX12_teethOf 32 = .ok (.iload_n 3, 1) := by decide +kernel
theorem dX12_teethOf_33 : decode cX12_teethOf 33 = .ok (.ireturn, 1) := by decide +kernel
noncomputable def f_X12_teethOf_5 (v1 : Int32) (v2 : Int32) (v3 : Int32) (v4 : Int32) (σ : am_H) : Option ((Int32 × Int32) ⊕ (Int32)) :=
  if v4 < v2 then
   ((am_ix 6 v4).bind fun j2 =>
   (f_X12_teeth v1 (σ.1 1377 0 j2) σ).bind fun p3 =>
   some (.inl ((v3 + p3), (v4 + 1))))
  else
  some (.inr v3)
set_option maxRecDepth 100000 in
set_option maxHeartbeats 4000000 in
theorem q_X12_teethOf_5 {X : am_X} (hX : am_ks X = am_ksM) {Q : Option Value → am_H → Prop} (v1 : Int32) (v2 : Int32) (v3 : Int32) (v4 : Int32) (σ : am_H) {o : (Int32 × Int32) ⊕ (Int32)} (hf : f_X12_teethOf_5 v1 v2 v3 v4 σ = some o) (hk0 : ∀ s, o = .inl s → am_G X gm_X12_teethOf Q 5 [(0, .ref (am_ad X 12 0)), (1, .int v1), (2, .int v2), (3, .int s.1), (4, .int s.2)] [] σ) (hk1 : ∀ t, o = .inr t → am_G X gm_X12_teethOf Q 32 [(3, .int t)] [] σ) : am_G X gm_X12_teethOf Q 5 [(0, .ref (am_ad X 12 0)), (1, .int v1), (2, .int v2), (3, .int v3), (4, .int v4)] [] σ := by
  unfold f_X12_teethOf_5 at hf
  refine g_iload (pc := 5) 4 rfl dX12_teethOf_5 ?_
  refine g_iload_n (pc := 7) 2 rfl dX12_teethOf_7 rfl ?_
  refine bi_ge (pc := 8) 32 dX12_teethOf_8 rfl (fun c1 => ?_) (fun c1 => ?_)
  · replace hf := am_ifT c1 hf
    refine g_iload_n (pc := 11) 3 rfl dX12_teethOf_11 rfl ?_
    refine g_aload_n (pc := 12) 0 rfl dX12_teethOf_12 rfl ?_
    refine g_iload_n (pc := 13) 1 rfl dX12_teethOf_13 rfl ?_
    refine g_aload_n (pc := 14) 0 rfl dX12_teethOf_14 rfl ?_
    refine g_getC (pc := 15) (e := 0) (in_12 hX (by omega)) fr_X12_104 dX12_teethOf_15 rfl ?_
    refine g_iload (pc := 18) 4 rfl dX12_teethOf_18 ?_
    obtain ⟨j2, hj2, hf⟩ := am_bd hf
    have gj2 := am_ix_lt hj2
    refine g_aI (pc := 20) (in_1377 hX (by omega)) ak_1377 hj2 dX12_teethOf_20 ?_
    obtain ⟨p3, hp3, hf⟩ := am_bd hf
    refine g_cV (pc := 21) (As := [.int v1, .int (σ.1 1377 0 j2)]) (st := [.int v3]) (st1 := [.int p3, .int v3]) (in_12 hX (by omega)) kk_12 mV_X12_teeth ln_X12_351 rfl (Nat.le_of_ble_eq_true rfl) (Nat.le_of_ble_eq_true rfl) (k_X12_teeth hX v1 (σ.1 1377 0 j2) σ hp3) dX12_teethOf_21 rfl rfl ?_
    refine g_iadd (pc := 24) dX12_teethOf_24 ?_
    refine g_istore_n (pc := 25) [(3, .int (v3 + p3)), (0, .ref (am_ad X 12 0)), (1, .int v1), (2, .int v2), (4, .int v4)] dX12_teethOf_25 rfl (Nat.le_of_ble_eq_true rfl) rfl ?_
    refine g_iinc (pc := 26) (v := (v4 + 1)) 4 [(4, .int (v4 + 1)), (3, .int (v3 + p3)), (0, .ref (am_ad X 12 0)), (1, .int v1), (2, .int v2)] dX12_teethOf_26 rfl rfl (Nat.le_of_ble_eq_true rfl) rfl ?_
    refine g_goto (pc := 29) 5 dX12_teethOf_29 rfl ?_
    have hz := hk0 _ (Option.some.inj hf).symm
    exact am_sub [2, 3, 4, 1, 0] rfl hz
  replace hf := am_ifF c1 hf
  have hz := hk1 _ (Option.some.inj hf).symm
  exact am_sub [3] rfl hz
set_option maxRecDepth 100000 in
set_option maxHeartbeats 4000000 in
theorem l_X12_teethOf_5 {X : am_X} (hX : am_ks X = am_ksM) {Q : Option Value → am_H → Prop} (v1 : Int32) (v2 : Int32) (σ : am_H) (s : Int32 × Int32) {o : Int32} (hf : am_loop (fun s => f_X12_teethOf_5 v1 v2 s.1 s.2 σ) s = some o) (hk1 : ∀ t, o = t → am_G X gm_X12_teethOf Q 32 [(3, .int t)] [] σ) : am_G X gm_X12_teethOf Q 5 [(0, .ref (am_ad X 12 0)), (1, .int v1), (2, .int v2), (3, .int s.1), (4, .int s.2)] [] σ := by
  refine am_loop_ind (P := fun s => am_G X gm_X12_teethOf Q 5 [(0, .ref (am_ad X 12 0)), (1, .int v1), (2, .int v2), (3, .int s.1), (4, .int s.2)] [] σ) (K := fun r => r = o) ?_ hf rfl
  intro s o1 hb hi hr
  exact q_X12_teethOf_5 hX v1 v2 s.1 s.2  σ hb hi (fun t e => hk1 t (hr _ e).symm)
noncomputable def f_X12_teethOf (v1 : Int32) (v2 : Int32) (σ : am_H) : Option (Int32) :=
  (am_loop (fun s => f_X12_teethOf_5 v1 v2 s.1 s.2 σ) (0, 0)).bind fun w1 =>
  some w1
set_option maxRecDepth 100000 in
set_option maxHeartbeats 4000000 in
theorem q_X12_teethOf {X : am_X} (hX : am_ks X = am_ksM) {Q : Option Value → am_H → Prop} (v1 : Int32) (v2 : Int32) (σ : am_H) {o : Int32} (hf : f_X12_teethOf v1 v2 σ = some o) (hk : Q (some (.int o)) σ) : am_G X gm_X12_teethOf Q 0 [(0, .ref (am_ad X 12 0)), (1, .int v1), (2, .int v2)] [] σ := by
  unfold f_X12_teethOf at hf
  refine g_iconst (pc := 0) (v := 0) dX12_teethOf_0 (by decide) ?_
  refine g_istore_n (pc := 1) [(3, .int 0), (0, .ref (am_ad X 12 0)), (1, .int v1), (2, .int v2)] dX12_teethOf_1 rfl (Nat.le_of_ble_eq_true rfl) rfl ?_
  refine g_iconst (pc := 2) (v := 0) dX12_teethOf_2 (by decide) ?_
  refine g_istore (pc := 3) [(4, .int 0), (3, .int 0), (0, .ref (am_ad X 12 0)), (1, .int v1), (2, .int v2)] dX12_teethOf_3 (Nat.le_of_ble_eq_true rfl) rfl ?_
  obtain ⟨w1, hw1, hf⟩ := am_bd hf
  refine am_sub [2, 3, 4, 1, 0] rfl (l_X12_teethOf_5 hX v1 v2  σ (0, 0) hw1 ?_)
  intro t e
  subst e
  refine g_iload_n (pc := 32) 0 rfl dX12_teethOf_32 rfl ?_
  have ho := Option.some.inj hf
  subst ho
  exact g_ireturn (pc := 33) (st := []) rfl dX12_teethOf_33 hk
theorem k_X12_teethOf {X : am_X} (hX : am_ks X = am_ksM) (v1 : Int32) (v2 : Int32) (σ : am_H) {o : Int32} (hf : f_X12_teethOf v1 v2 σ = some o) : am_C X gm_X12_teethOf [.ref (am_ad X 12 0), .int v1, .int v2] σ (am_is (some (.int o)) σ) :=
  am_ofG rfl (Nat.le_of_ble_eq_true rfl) rfl (q_X12_teethOf hX v1 v2 σ hf ⟨rfl, rfl⟩)
theorem dX12_train_0 : decode cX12_train 0 = .ok (.aload_n 0, 1) := by decide +kernel
theorem dX12_train_1 : decode cX12_train 1 = .ok (.iconst 0, 1) := by decide +kernel
theorem dX12_train_2 : decode cX12_train 2 = .ok (.putfield 122, 3) := by decide +kernel
theorem dX12_train_5 : decode cX12_train 5 = .ok (.aload_n 0, 1) := by decide +kernel
theorem dX12_train_6 : decode cX12_train 6 = .ok (.iconst 0, 1) := by decide +kernel
theorem dX12_train_7 : decode cX12_train 7 = .ok (.putfield 125, 3) := by decide +kernel
theorem dX12_train_10 : decode cX12_train 10 = .ok (.aload_n 0, 1) := by decide +kernel
theorem dX12_train_11 : decode cX12_train 11 = .ok (.iload_n 1, 1) := by decide +kernel
theorem dX12_train_12 : decode cX12_train 12 = .ok (.iload_n 2, 1) := by decide +kernel
theorem dX12_train_13 : decode cX12_train 13 = .ok (.invokevirtual 300, 3) := by decide +kernel
theorem dX12_train_16 : decode cX12_train 16 = .ok (.ifCond .ne 9, 3) := by decide +kernel
theorem dX12_train_19 : decode cX12_train 19 = .ok (.aload_n 0, 1) := by decide +kernel
theorem dX12_train_20 : decode cX12_train 20 = .ok (.iconst 2, 1) := by decide +kernel
theorem dX12_train_21 : decode cX12_train 21 = .ok (.invokevirtual 283, 3) := by decide +kernel
theorem dX12_train_24 : decode cX12_train 24 = .ok (.ireturn, 1) := by decide +kernel
theorem dX12_train_25 : decode cX12_train 25 = .ok (.iload_n 3, 1) := by decide +kernel
theorem dX12_train_26 : decode cX12_train 26 = .ok (.i2l, 1) := by decide +kernel
theorem dX12_train_27 : decode cX12_train 27 = .ok (.lconst 1, 1) := by decide +kernel
theorem dX12_train_28 : decode cX12_train 28 = .ok (.ldc2_w 354, 3) := by decide +kernel
theorem dX12_train_31 : decode cX12_train 31 = .ok (.invokestatic 239, 3) := by decide +kernel
theorem dX12_train_34 : decode cX12_train 34 = .ok (.ifCond .ne 9, 3) := by decide +kernel
theorem dX12_train_37 : decode cX12_train 37 = .ok (.aload_n 0, 1) := by decide +kernel
theorem dX12_train_38 : decode cX12_train 38 = .ok (.iconst 5, 1) := by decide +kernel
theorem dX12_train_39 : decode cX12_train 39 = .ok (.invokevirtual 283, 3) := by decide +kernel
theorem dX12_train_42 : decode cX12_train 42 = .ok (.ireturn, 1) := by decide +kernel
theorem dX12_train_43 : decode cX12_train 43 = .ok (.iconst 2, 1) := by decide +kernel
theorem dX12_train_44 : decode cX12_train 44 = .ok (.iload_n 3, 1) := by decide +kernel
theorem dX12_train_45 : decode cX12_train 45 = .ok (.imul, 1) := by decide +kernel
theorem dX12_train_46 : decode cX12_train 46 = .ok (.istore 4, 2) := by decide +kernel
theorem dX12_train_48 : decode cX12_train 48 = .ok (.lconst 0, 1) := by decide +kernel
theorem dX12_train_49 : decode cX12_train 49 = .ok (.lstore 5, 2) := by decide +kernel
theorem dX12_train_51 : decode cX12_train 51 = .ok (.lconst 0, 1) := by decide +kernel
theorem dX12_train_52 : decode cX12_train 52 = .ok (.lstore 7, 2) := by decide +kernel
theorem dX12_train_54 : decode cX12_train 54 = .ok (.iconst 0, 1) := by decide +kernel
theorem dX12_train_55 : decode cX12_train 55 = .ok (.istore 9, 2) := by decide +kernel
theorem dX12_train_57 : decode cX12_train 57 = .ok (.aload_n 0, 1) := by decide +kernel
theorem dX12_train_58 : decode cX12_train 58 = .ok (.getfield 38, 3) := by decide +kernel
theorem dX12_train_61 : decode cX12_train 61 = .ok (.iload_n 1, 1) := by decide +kernel
theorem dX12_train_62 : decode cX12_train 62 = .ok (.iaload, 1) := by decide +kernel
theorem dX12_train_63 : decode cX12_train 63 = .ok (.ifCond .le 7, 3) := by decide +kernel
theorem dX12_train_66 : decode cX12_train 66 = .ok (.iconst 1, 1) := by decide +kernel
theorem dX12_train_67 : decode cX12_train 67 = .ok (.goto 4, 3) := by decide +kernel
theorem dX12_train_70 : decode cX12_train 70 = .ok (.iconst 0, 1) := by decide +kernel
theorem dX12_train_71 : decode cX12_train 71 = .ok (.istore 10, 2) := by decide +kernel
theorem dX12_train_73 : decode cX12_train 73 = .ok (.iconst 0, 1) := by decide +kernel
theorem dX12_train_74 : decode cX12_train 74 = .ok (.istore 11, 2) := by decide +kernel
theorem dX12_train_76 : decode cX12_train 76 = .ok (.iload 11, 2) := by decide +kernel
theorem dX12_train_78 : decode cX12_train 78 = .ok (.bipush 6, 2) := by decide +kernel
theorem dX12_train_80 : decode cX12_train 80 = .ok (.if_icmp .ge 17, 3) := by decide +kernel
theorem dX12_train_83 : decode cX12_train 83 = .ok (.aload_n 0, 1) := by decide +kernel
theorem dX12_train_84 : decode cX12_train 84 = .ok (.getfield 104, 3) := by decide +kernel
theorem dX12_train_87 : decode cX12_train 87 = .ok (.iload 11, 2) := by decide +kernel
theorem dX12_train_89 : decode cX12_train 89 = .ok (.iconst 0, 1) := by decide +kernel
theorem dX12_train_90 : decode cX12_train 90 = .ok (.iastore, 1) := by decide +kernel
theorem dX12_train_91 : decode cX12_train 91 = .ok (.iinc 11 1, 3) := by decide +kernel
theorem dX12_train_94 : decode cX12_train 94 = .ok (.goto (-18), 3) := by decide +kernel
theorem dX12_train_97 : decode cX12_train 97 = .ok (.iload 10, 2) := by decide +kernel
theorem dX12_train_99 : decode cX12_train 99 = .ok (.ifCond .eq 162, 3) := by decide +kernel
theorem dX12_train_102 : decode cX12_train 102 = .ok (.aload_n 0, 1) := by decide +kernel
theorem dX12_train_103 : decode cX12_train 103 = .ok (.iload_n 1, 1) := by decide +kernel
theorem dX12_train_104 : decode cX12_train 104 = .ok (.iload 4, 2) := by decide +kernel
theorem dX12_train_106 : decode cX12_train 106 = .ok (.invokevirtual 356, 3) := by decide +kernel
theorem dX12_train_109 : decode cX12_train 109 = .ok (.ifCond .eq 140, 3) := by decide +kernel
theorem dX12_train_112 : decode cX12_train 112 = .ok (.aload_n 0, 1) := by decide +kernel
theorem dX12_train_113 : decode cX12_train 113 = .ok (.iload_n 1, 1) := by decide +kernel
theorem dX12_train_114 : decode cX12_train 114 = .ok (.iconst 1, 1) := by decide +kernel
theorem dX12_train_115 : decode cX12_train 115 = .ok (.iload 4, 2) := by decide +kernel
theorem dX12_train_117 : decode cX12_train 117 = .ok (.invokevirtual 359, 3) := by decide +kernel
theorem dX12_train_120 : decode cX12_train 120 = .ok (.lstore 11, 2) := by decide +kernel
theorem dX12_train_122 : decode cX12_train 122 = .ok (.aload_n 0, 1) := by decide +kernel
theorem dX12_train_123 : decode cX12_train 123 = .ok (.iload_n 1, 1) := by decide +kernel
theorem dX12_train_124 : decode cX12_train 124 = .ok (.iload_n 2, 1) := by decide +kernel
theorem dX12_train_125 : decode cX12_train 125 = .ok (.aload_n 0, 1) := by decide +kernel
theorem dX12_train_126 : decode cX12_train 126 = .ok (.iload_n 1, 1) := by decide +kernel
theorem dX12_train_127 : decode cX12_train 127 = .ok (.iconst 0, 1) := by decide +kernel
theorem dX12_train_128 : decode cX12_train 128 = .ok (.iload 4, 2) := by decide +kernel
theorem dX12_train_130 : decode cX12_train 130 = .ok (.invokevirtual 359, 3) := by decide +kernel
theorem dX12_train_133 : decode cX12_train 133 = .ok (.lload 11, 2) := by decide +kernel
theorem dX12_train_135 : decode cX12_train 135 = .ok (.invokevirtual 340, 3) := by decide +kernel
theorem dX12_train_138 : decode cX12_train 138 = .ok (.lstore 13, 2) := by decide +kernel
theorem dX12_train_140 : decode cX12_train 140 = .ok (.aload_n 0, 1) := by decide +kernel
theorem dX12_train_141 : decode cX12_train 141 = .ok (.iload_n 1, 1) := by decide +kernel
theorem dX12_train_142 : decode cX12_train 142 = .ok (.iload 4, 2) := by decide +kernel
theorem dX12_train_144 : decode cX12_train 144 = .ok (.invokevirtual 363, 3) := by decide +kernel
theorem dX12_train_147 : decode cX12_train 147 = .ok (.istore 15, 2) := by decide +kernel
theorem dX12_train_149 : decode cX12_train 149 = .ok (.lload 7, 2) := by decide +kernel
theorem dX12_train_151 : decode cX12_train 151 = .ok (.lconst 0, 1) := by decide +kernel
theorem dX12_train_152 : decode cX12_train 152 = .ok (.lcmp, 1) := by decide +kernel
theorem dX12_train_153 : decode cX12_train 153 = .ok (.ifCond .ne 9, 3) := by decide +kernel
theorem dX12_train_156 : decode cX12_train 156 = .ok (.ldc2_w 153, 3) := by decide +kernel
theorem dX12_train_159 : decode cX12_train 159 = .ok (.goto 14, 3) := by decide +kernel
theorem dX12_train_162 : decode cX12_train 162 = .ok (.lload 13, 2) := by decide +kernel
theorem dX12_train_164 : decode cX12_train 164 = .ok (.lload 7, 2) := by decide +kernel
theorem dX12_train_166 : decode cX12_train 166 = .ok (.lmul, 1) := by decide +kernel
theorem dX12_train_167 : decode cX12_train 167 = .ok (.lload 5, 2) := by decide +kernel
theorem dX12_train_169 : decode cX12_train 169 = .ok (.lload 11, 2) := by decide +kernel
theorem dX12_train_171 : decode cX12_train 171 = .ok (.lmul, 1) := by decide +kernel
theorem dX12_train_172 : decode cX12_train 172 = .ok (.lsub, 1) := by decide +kernel
theorem dX12_train_173 : decode cX12_train 173 = .ok (.lstore 16, 2) := by decide +kernel
theorem dX12_train_175 : decode cX12_train 175 = .ok (.lload 16, 2) := by decide +kernel
theorem dX12_train_177 : decode cX12_train 177 = .ok (.lconst 0, 1) := by decide +kernel
theorem dX12_train_178 : decode cX12_train 178 = .ok (.lcmp, 1) := by decide +kernel
theorem dX12_train_179 : decode cX12_train 179 = .ok (.ifCond .lt 17, 3) := by decide +kernel
theorem dX12_train_182 : decode cX12_train 182 = .ok (.lload 16, 2) := by decide +kernel
theorem dX12_train_184 : decode cX12_train 184 = .ok (.lconst 0, 1) := by decide +kernel
theorem dX12_train_185 : decode cX12_train 185 = .ok (.lcmp, 1) := by decide +kernel
theorem dX12_train_186 : decode cX12_train 186 = .ok (.ifCond .ne 63, 3) := by decide +kernel
theorem dX12_train_189 : decode cX12_train 189 = .ok (.iload 15, 2) := by decide +kernel
theorem dX12_train_191 : decode cX12_train 191 = .ok (.iload 9, 2) := by decide +kernel
theorem dX12_train_193 : decode cX12_train 193 = .ok (.if_icmp .ge 56, 3) := by decide +kernel
theorem dX12_train_196 : decode cX12_train 196 = .ok (.lload 13, 2) := by decide +kernel
theorem dX12_train_198 : decode cX12_train 198 = .ok (.lstore 5, 2) := by decide +kernel
theorem dX12_train_200 : decode cX12_train 200 = .ok (.lload 11, 2) := by decide +kernel
theorem dX12_train_202 : decode cX12_train 202 = .ok (.lstore 7, 2) := by decide +kernel
theorem dX12_train_204 : decode cX12_train 204 = .ok (.iload 15, 2) := by decide +kernel
theorem dX12_train_206 : decode cX12_train 206 = .ok (.istore 9, 2) := by decide +kernel
theorem dX12_train_208 : decode cX12_train 208 = .ok (.aload_n 0, 1) := by decide +kernel
theorem dX12_train_209 : decode cX12_train 209 = .ok (.iload 4, 2) := by decide +kernel
theorem dX12_train_211 : decode cX12_train 211 = .ok (.putfield 366, 3) := by decide +kernel
theorem dX12_train_214 : decode cX12_train 214 = .ok (.iconst 0, 1) := by decide +kernel
theorem dX12_train_215 : decode cX12_train 215 = .ok (.istore 18, 2) := by decide +kernel
theorem dX12_train_217 : decode cX12_train 217 = .ok (.iload 18, 2) := by decide +kernel
theorem dX12_train_219 : decode cX12_train 219 = .ok (.iload 4, 2) := by decide +kernel
theorem dX12_train_221 : decode cX12_train 221 = .ok (.if_icmp .ge 28, 3) := by decide +kernel
theorem dX12_train_224 : decode cX12_train 224 = .ok (.aload_n 0, 1) := by decide +kernel
theorem dX12_train_225 : decode cX12_train 225 = .ok (.getfield 62, 3) := by decide +kernel
theorem dX12_train_228 : decode cX12_train 228 = .ok (.iload 18, 2) := by decide +kernel
theorem dX12_train_230 : decode cX12_train 230 = .ok (.aload_n 0, 1) := by decide +kernel
theorem dX12_train_231 : decode cX12_train 231 = .ok (.iload_n 1, 1) := by decide +kernel
theorem dX12_train_232 : decode cX12_train 232 = .ok (.aload_n 0, 1) := by decide +kernel
theorem dX12_train_233 : decode cX12_train 233 = .ok (.getfield 104, 3) := by decide +kernel
theorem dX12_train_236 : decode cX12_train 236 = .ok (.iload 18, 2) := by decide +kernel
theorem dX12_train_238 : decode cX12_train 238 = .ok (.iaload, 1) := by decide +kernel
theorem dX12_train_239 : decode cX12_train 239 = .ok (.invokevirtual 351, 3) := by decide +kernel
theorem dX12_train_242 : decode cX12_train 242 = .ok (.iastore, 1) := by decide +kernel
theorem dX12_train_243 : decode cX12_train 243 = .ok (.iinc 18 1, 3) := by decide +kernel
theorem dX12_train_246 : decode cX12_train 246 = .ok (.goto (-29), 3) := by decide +kernel
theorem dX12_train_249 : decode cX12_train 249 = .ok (.aload_n 0, 1) := by decide +kernel
theorem dX12_train_250 : decode cX12_train 250 = .ok (.iload_n 1, 1) := by decide +kernel
theorem dX12_train_251 : decode cX12_train 251 = .ok (.iload 4, 2) := by decide +kernel
theorem dX12_train_253 : decode cX12_train 253 = .ok (.invokevirtual 369, 3) := by decide +kernel
theorem dX12_train_256 : decode cX12_train 256 = .ok (.istore 10, 2) := by decide +kernel
theorem dX12_train_258 : decode cX12_train 258 = .ok (.goto (-161), 3) := by decide +kernel
theorem dX12_train_261 : decode cX12_train 261 = .ok (.lload 7, 2) := by decide +kernel
theorem dX12_train_263 : decode cX12_train 263 = .ok (.lconst 0, 1) := by decide +kernel
theorem dX12_train_264 : decode cX12_train 264 = .ok (.lcmp, 1) := by decide +kernel
theorem dX12_train_265 : decode cX12_train 265 = .ok (.ifCond .ne 10, 3) := by decide +kernel
theorem dX12_train_268 : decode cX12_train 268 = .ok (.aload_n 0, 1) := by decide +kernel
theorem dX12_train_269 : decode cX12_train 269 = .ok (.bipush 9, 2) := by decide +kernel
theorem dX12_train_271 : decode cX12_train 271 = .ok (.invokevirtual 283, 3) := by decide +kernel
theorem dX12_train_274 : decode cX12_train 274 = .ok (.ireturn, 1) := by decide +kernel
theorem dX12_train_275 : decode cX12_train 275 = .ok (.aload_n 0, 1) := by decide +kernel
theorem dX12_train_276 : decode cX12_train 276 = .ok (.lload 5, 2) := by decide +kernel
theorem dX12_train_278 : decode cX12_train 278 = .ok (.ldc2_w 316, 3) := by decide +kernel
theorem dX12_train_281 : decode cX12_train 281 = .ok (.lmul, 1) := by decide +kernel
theorem dX12_train_282 : decode cX12_train 282 = .ok (.lload 7, 2) := by decide +kernel
theorem dX12_train_284 : decode cX12_train 284 = .ok (.aload_n 0, 1) := by decide +kernel
theorem dX12_train_285 : decode cX12_train 285 = .ok (.iload_n 1, 1) := by decide +kernel
theorem dX12_train_286 : decode cX12_train 286 = .ok (.iload_n 2, 1) := by decide +kernel
theorem dX12_train_287 : decode cX12_train 287 = .ok (.iconst 1, 1) := by decide +kernel
theorem dX12_train_288 : decode cX12_train 288 = .ok (.invokevirtual 297, 3) := by decide +kernel
theorem dX12_train_291 : decode cX12_train 291 = .ok (.i2l, 1) := by decide +kernel
theorem dX12_train_292 : decode cX12_train 292 = .ok (.lmul, 1) := by decide +kernel
theorem dX12_train_293 : decode cX12_train 293 = .ok (.invokevirtual 344, 3) := by decide +kernel
theorem dX12_train_296 : decode cX12_train 296 = .ok (.iload 9, 2) := by decide +kernel
theorem dX12_train_298 : decode cX12_train 298 = .ok (.ireturn, 1) := by decide +kernel
noncomputable def f_X12_train_76 (v1 : Int32) (v2 : Int32) (v4 : Int32) (v5 : Int64) (v7 : Int64) (v10 : Bool) (v11 : Int32) (σ : am_H) : Option ((Int32 × am_H) ⊕ (am_H)) :=
  if v11 < 6 then
   ((am_ix 6 v11).bind fun j2 =>
   (some (am_wI σ 1377 0 j2 0)).bind fun s3 =>
   some (.inl ((v11 + 1), s3)))
  else
  some (.inr σ)
set_option maxRecDepth 100000 in
set_option maxHeartbeats 4000000 in
theorem q_X12_train_76 {X : am_X} (hX : am_ks X = am_ksM) {Q : Option Value → am_H → Prop} (v1 : Int32) (v2 : Int32) (v4 : Int32) (v5 : Int64) (v7 : Int64) (v10 : Bool) (v11 : Int32) (σ : am_H) {o : (Int32 × am_H) ⊕ (am_H)} (hf : f_X12_train_76 v1 v2 v4 v5 v7 v10 v11 σ = some o) (hk0 : ∀ s, o = .inl s → am_G X gm_X12_train Q 76 [(0, .ref (am_ad X 12 0)), (1, .int v1), (2, .int v2), (4, .int v4), (5, .long v5), (7, .long v7), (9, .int 0), (10, .int (am_b v10)), (11, .int s.1)] [] s.2) (hk1 : ∀ t, o = .inr t → am_G X gm_X12_train Q 97 [(0, .ref (am_ad X 12 0)), (1, .int v1), (2, .int v2), (4, .int v4), (5, .long v5), (7, .long v7), (9, .int 0), (10, .int (am_b v10))] [] t) : am_G X gm_X12_train Q 76 [(0, .ref (am_ad X 12 0)), (1, .int v1), (2, .int v2), (4, .int v4), (5, .long v5), (7, .long v7), (9, .int 0), (10, .int (am_b v10)), (11, .int v11)] [] σ := by
  unfold f_X12_train_76 at hf
  refine g_iload (pc := 76) 8 rfl dX12_train_76 ?_
  refine g_bipush (pc := 78) (v := 6) dX12_train_78 (by decide) ?_
  refine bi_ge (pc := 80) 97 dX12_train_80 rfl (fun c1 => ?_) (fun c1 => ?_)
  · replace hf := am_ifT c1 hf
    refine g_aload_n (pc := 83) 0 rfl dX12_train_83 rfl ?_
    refine g_getC (pc := 84) (e := 0) (in_12 hX (by omega)) fr_X12_104 dX12_train_84 rfl ?_
    refine g_iload (pc := 87) 8 rfl dX12_train_87 ?_
    refine g_iconst (pc := 89) (v := 0) dX12_train_89 (by decide) ?_
    obtain ⟨j2, hj2, hf⟩ := am_bd hf
    have gj2 := am_ix_lt hj2
    obtain ⟨s3, hs3, hf⟩ := am_bd hf
    refine g_sI (pc := 90) (in_1377 hX (by omega)) ak_1377 hj2 dX12_train_90 (Option.some.inj hs3) ?_
    refine g_iinc (pc := 91) (v := (v11 + 1)) 8 [(11, .int (v11 + 1)), (0, .ref (am_ad X 12 0)), (1, .int v1), (2, .int v2), (4, .int v4), (5, .long v5), (7, .long v7), (9, .int 0), (10, .int (am_b v10))] dX12_train_91 rfl rfl (Nat.le_of_ble_eq_true rfl) rfl ?_
    refine g_goto (pc := 94) 76 dX12_train_94 rfl ?_
    have hz := hk0 _ (Option.some.inj hf).symm
    exact am_sub [1, 2, 3, 4, 5, 6, 7, 8, 0] rfl hz
  replace hf := am_ifF c1 hf
  have hz := hk1 _ (Option.some.inj hf).symm
  exact am_sub [0, 1, 2, 3, 4, 5, 6, 7] rfl hz
set_option maxRecDepth 100000 in
set_option maxHeartbeats 4000000 in
theorem l_X12_train_76 {X : am_X} (hX : am_ks X = am_ksM) {Q : Option Value → am_H → Prop} (v1 : Int32) (v2 : Int32) (v4 : Int32) (v5 : Int64) (v7 : Int64) (v10 : Bool) (σ : am_H) (s : Int32 × am_H) {o : am_H} (hf : am_loop (fun s => f_X12_train_76 v1 v2 v4 v5 v7 v10 s.1 s.2) s = some o) (hk1 : ∀ t, o = t → am_G X gm_X12_train Q 97 [(0, .ref (am_ad X 12 0)), (1, .int v1), (2, .int v2), (4, .int v4), (5, .long v5), (7, .long v7), (9, .int 0), (10, .int (am_b v10))] [] t) : am_G X gm_X12_train Q 76 [(0, .ref (am_ad X 12 0)), (1, .int v1), (2, .int v2), (4, .int v4), (5, .long v5), (7, .long v7), (9, .int 0), (10, .int (am_b v10)), (11, .int s.1)] [] s.2 := by
  refine am_loop_ind (P := fun s => am_G X gm_X12_train Q 76 [(0, .ref (am_ad X 12 0)), (1, .int v1), (2, .int v2), (4, .int v4), (5, .long v5), (7, .long v7), (9, .int 0), (10, .int (am_b v10)), (11, .int s.1)] [] s.2) (K := fun r => r = o) ?_ hf rfl
  intro s o1 hb hi hr
  exact q_X12_train_76 hX v1 v2 v4 v5 v7 v10 s.1  s.2 hb hi (fun t e => hk1 t (hr _ e).symm)
noncomputable def f_X12_train_217 (v1 : Int32) (v2 : Int32) (v4 : Int32) (v5 : Int64) (v7 : Int64) (v9 : Int32) (v18 : Int32) (σ : am_H) : Option ((Int32 × am_H) ⊕ (am_H)) :=
  if v18 < v4 then
   ((am_ix 6 v18).bind fun j2 =>
   (f_X12_teeth v1 (σ.1 1377 0 j2) σ).bind fun p3 =>
   (am_ix 4 v18).bind fun j4 =>
   (some (am_wI σ 1344 0 j4 p3)).bind fun s5 =>
   some (.inl ((v18 + 1), s5)))
  else
  some (.inr σ)
set_option maxRecDepth 100000 in
set_option maxHeartbeats 4000000 in
theorem q_X12_train_217 {X : am_X} (hX : am_ks X = am_ksM) {Q : Option Value → am_H → Prop} (v1 : Int32) (v2 : Int32) (v4 : Int32) (v5 : Int64) (v7 : Int64) (v9 : Int32) (v18 : Int32) (σ : am_H) {o : (Int32 × am_H) ⊕ (am_H)} (hf : f_X12_train_217 v1 v2 v4 v5 v7 v9 v18 σ = some o) (hk0 : ∀ s, o = .inl s → am_G X gm_X12_train Q 217 [(0, .ref (am_ad X 12 0)), (1, .int v1), (2, .int v2), (4, .int v4), (5, .long v5), (7, .long v7), (9, .int v9), (18, .int s.1)] [] s.2) (hk1 : ∀ t, o = .inr t → am_G X gm_X12_train Q 249 [(0, .ref (am_ad X 12 0)), (1, .int v1), (2, .int v2), (4, .int v4), (5, .long v5), (7, .long v7), (9, .int v9)] [] t) : am_G X gm_X12_train Q 217 [(0, .ref (am_ad X 12 0)), (1, .int v1), (2, .int v2), (4, .int v4), (5, .long v5), (7, .long v7), (9, .int v9), (18, .int v18)] [] σ := by
  unfold f_X12_train_217 at hf
  refine g_iload (pc := 217) 7 rfl dX12_train_217 ?_
  refine g_iload (pc := 219) 3 rfl dX12_train_219 ?_
  refine bi_ge (pc := 221) 249 dX12_train_221 rfl (fun c1 => ?_) (fun c1 => ?_)
  · replace hf := am_ifT c1 hf
    refine g_aload_n (pc := 224) 0 rfl dX12_train_224 rfl ?_
    refine g_getC (pc := 225) (e := 0) (in_12 hX (by omega)) fr_X12_62 dX12_train_225 rfl ?_
    refine g_iload (pc := 228) 7 rfl dX12_train_228 ?_
    refine g_aload_n (pc := 230) 0 rfl dX12_train_230 rfl ?_
    refine g_iload_n (pc := 231) 1 rfl dX12_train_231 rfl ?_
    refine g_aload_n (pc := 232) 0 rfl dX12_train_232 rfl ?_
    refine g_getC (pc := 233) (e := 0) (in_12 hX (by omega)) fr_X12_104 dX12_train_233 rfl ?_
    refine g_iload (pc := 236) 7 rfl dX12_train_236 ?_
    obtain ⟨j2, hj2, hf⟩ := am_bd hf
    have gj2 := am_ix_lt hj2
    refine g_aI (pc := 238) (in_1377 hX (by omega)) ak_1377 hj2 dX12_train_238 ?_
    obtain ⟨p3, hp3, hf⟩ := am_bd hf
    refine g_cV (pc := 239) (As := [.int v1, .int (σ.1 1377 0 j2)]) (st := [.int v18, .ref (am_ad X 1344 0)]) (st1 := [.int p3, .int v18, .ref (am_ad X 1344 0)]) (in_12 hX (by omega)) kk_12 mV_X12_teeth ln_X12_351 rfl (Nat.le_of_ble_eq_true rfl) (Nat.le_of_ble_eq_true rfl) (k_X12_teeth hX v1 (σ.1 1377 0 j2) σ hp3) dX12_train_239 rfl rfl ?_
    obtain ⟨j4, hj4, hf⟩ := am_bd hf
    have gj4 := am_ix_lt hj4
    obtain ⟨s5, hs5, hf⟩ := am_bd hf
    refine g_sI (pc := 242) (in_1344 hX (by omega)) ak_1344 hj4 dX12_train_242 (Option.some.inj hs5) ?_
    refine g_iinc (pc := 243) (v := (v18 + 1)) 7 [(18, .int (v18 + 1)), (0, .ref (am_ad X 12 0)), (1, .int v1), (2, .int v2), (4, .int v4), (5, .long v5), (7, .long v7), (9, .int v9)] dX12_train_243 rfl rfl (Nat.le_of_ble_eq_true rfl) rfl ?_
    refine g_goto (pc := 246) 217 dX12_train_246 rfl ?_
    have hz := hk0 _ (Option.some.inj hf).symm
    exact am_sub [1, 2, 3, 4, 5, 6, 7, 0] rfl hz
  replace hf := am_ifF c1 hf
  have hz := hk1 _ (Option.some.inj hf).symm
  exact am_sub [0, 1, 2, 3, 4, 5, 6] rfl hz
set_option maxRecDepth 100000 in
set_option maxHeartbeats 4000000 in
theorem l_X12_train_217 {X : am_X} (hX : am_ks X = am_ksM) {Q : Option Value → am_H → Prop} (v1 : Int32) (v2 : Int32) (v4 : Int32) (v5 : Int64) (v7 : Int64) (v9 : Int32) (σ : am_H) (s : Int32 × am_H) {o : am_H} (hf : am_loop (fun s => f_X12_train_217 v1 v2 v4 v5 v7 v9 s.1 s.2) s = some o) (hk1 : ∀ t, o = t → am_G X gm_X12_train Q 249 [(0, .ref (am_ad X 12 0)), (1, .int v1), (2, .int v2), (4, .int v4), (5, .long v5), (7, .long v7), (9, .int v9)] [] t) : am_G X gm_X12_train Q 217 [(0, .ref (am_ad X 12 0)), (1, .int v1), (2, .int v2), (4, .int v4), (5, .long v5), (7, .long v7), (9, .int v9), (18, .int s.1)] [] s.2 := by
  refine am_loop_ind (P := fun s => am_G X gm_X12_train Q 217 [(0, .ref (am_ad X 12 0)), (1, .int v1), (2, .int v2), (4, .int v4), (5, .long v5), (7, .long v7), (9, .int v9), (18, .int s.1)] [] s.2) (K := fun r => r = o) ?_ hf rfl
  intro s o1 hb hi hr
  exact q_X12_train_217 hX v1 v2 v4 v5 v7 v9 s.1  s.2 hb hi (fun t e => hk1 t (hr _ e).symm)
noncomputable def f_X12_train_249 (v1 : Int32) (v2 : Int32) (v4 : Int32) (v5 : Int64) (v7 : Int64) (v9 : Int32) (σ : am_H) : Option ((Int64 × Int64 × Int32 × Bool × am_H) ⊕ (Int64 × Int64 × Int32 × am_H)) :=
  (f_X12_goesOn v1 v4 σ).bind fun p1 =>
  some (.inl (v5, v7, v9, p1.1, p1.2))
set_option maxRecDepth 100000 in
set_option maxHeartbeats 4000000 in
theorem q_X12_train_249 {X : am_X} (hX : am_ks X = am_ksM) {Q : Option Value → am_H → Prop} (v1 : Int32) (v2 : Int32) (v4 : Int32) (v5 : Int64) (v7 : Int64) (v9 : Int32) (σ : am_H) {o : (Int64 × Int64 × Int32 × Bool × am_H) ⊕ (Int64 × Int64 × Int32 × am_H)} (hf : f_X12_train_249 v1 v2 v4 v5 v7 v9 σ = some o) (hk0 : ∀ s, o = .inl s → am_G X gm_X12_train Q 97 [(0, .ref (am_ad X 12 0)), (1, .int v1), (2, .int v2), (4, .int v4), (5, .long s.1), (7, .long s.2.1), (9, .int s.2.2.1), (10, .int (am_b s.2.2.2.1))] [] s.2.2.2.2) (hk1 : ∀ t, o = .inr t → am_G X gm_X12_train Q 261 [(0, .ref (am_ad X 12 0)), (1, .int v1), (2, .int v2), (5, .long t.1), (7, .long t.2.1), (9, .int t.2.2.1)] [] t.2.2.2) : am_G X gm_X12_train Q 249 [(0, .ref (am_ad X 12 0)), (1, .int v1), (2, .int v2), (4, .int v4), (5, .long v5), (7, .long v7), (9, .int v9)] [] σ := by
  unfold f_X12_train_249 at hf
  refine g_aload_n (pc := 249) 0 rfl dX12_train_249 rfl ?_
  refine g_iload_n (pc := 250) 1 rfl dX12_train_250 rfl ?_
  refine g_iload (pc := 251) 3 rfl dX12_train_251 ?_
  obtain ⟨p1, hp1, hf⟩ := am_bd hf
  refine g_cV (pc := 253) (As := [.int v1, .int v4]) (st := []) (st1 := [.int (am_b p1.1)]) (in_12 hX (by omega)) kk_12 mV_X12_goesOn ln_X12_369 rfl (Nat.le_of_ble_eq_true rfl) (Nat.le_of_ble_eq_true rfl) (k_X12_goesOn hX v1 v4 σ hp1) dX12_train_253 rfl rfl ?_
  refine g_istore (pc := 256) [(10, .int (am_b p1.1)), (0, .ref (am_ad X 12 0)), (1, .int v1), (2, .int v2), (4, .int v4), (5, .long v5), (7, .long v7), (9, .int v9)] dX12_train_256 (Nat.le_of_ble_eq_true rfl) rfl ?_
  refine g_goto (pc := 258) 97 dX12_train_258 rfl ?_
  have hz := hk0 _ (Option.some.inj hf).symm
  exact am_sub [1, 2, 3, 4, 5, 6, 7, 0] rfl hz
noncomputable def f_X12_train_196 (v1 : Int32) (v2 : Int32) (v4 : Int32) (v11 : Int64) (v13 : Int64) (v15 : Int32) (σ : am_H) : Option ((Int64 × Int64 × Int32 × Bool × am_H) ⊕ (Int64 × Int64 × Int32 × am_H)) :=
  (some (am_wI σ 12 0 29 v4)).bind fun s1 =>
  (am_loop (fun s => f_X12_train_217 v1 v2 v4 v13 v11 v15 s.1 s.2) (0, s1)).bind fun w2 =>
  f_X12_train_249 v1 v2 v4 v13 v11 v15 w2
set_option maxRecDepth 100000 in
set_option maxHeartbeats 4000000 in
theorem q_X12_train_196 {X : am_X} (hX : am_ks X = am_ksM) {Q : Option Value → am_H → Prop} (v1 : Int32) (v2 : Int32) (v4 : Int32) (v11 : Int64) (v13 : Int64) (v15 : Int32) (σ : am_H) {o : (Int64 × Int64 × Int32 × Bool × am_H) ⊕ (Int64 × Int64 × Int32 × am_H)} (hf : f_X12_train_196 v1 v2 v4 v11 v13 v15 σ = some o) (hk0 : ∀ s, o = .inl s → am_G X gm_X12_train Q 97 [(0, .ref (am_ad X 12 0)), (1, .int v1), (2, .int v2), (4, .int v4), (5, .long s.1), (7, .long s.2.1), (9, .int s.2.2.1), (10, .int (am_b s.2.2.2.1))] [] s.2.2.2.2) (hk1 : ∀ t, o = .inr t → am_G X gm_X12_train Q 261 [(0, .ref (am_ad X 12 0)), (1, .int v1), (2, .int v2), (5, .long t.1), (7, .long t.2.1), (9, .int t.2.2.1)] [] t.2.2.2) : am_G X gm_X12_train Q 196 [(0, .ref (am_ad X 12 0)), (1, .int v1), (2, .int v2), (4, .int v4), (11, .long v11), (13, .long v13), (15, .int v15)] [] σ := by
  unfold f_X12_train_196 at hf
  refine g_lload (pc := 196) 5 rfl dX12_train_196 ?_
  refine g_lstore (pc := 198) [(5, .long v13), (0, .ref (am_ad X 12 0)), (1, .int v1), (2, .int v2), (4, .int v4), (11, .long v11), (13, .long v13), (15, .int v15)] dX12_train_198 (Nat.le_of_ble_eq_true rfl) rfl ?_
  refine g_lload (pc := 200) 5 rfl dX12_train_200 ?_
  refine g_lstore (pc := 202) [(7, .long v11), (5, .long v13), (0, .ref (am_ad X 12 0)), (1, .int v1), (2, .int v2), (4, .int v4), (11, .long v11), (13, .long v13), (15, .int v15)] dX12_train_202 (Nat.le_of_ble_eq_true rfl) rfl ?_
  refine g_iload (pc := 204) 8 rfl dX12_train_204 ?_
  refine g_istore (pc := 206) [(9, .int v15), (7, .long v11), (5, .long v13), (0, .ref (am_ad X 12 0)), (1, .int v1), (2, .int v2), (4, .int v4), (11, .long v11), (13, .long v13), (15, .int v15)] dX12_train_206 (Nat.le_of_ble_eq_true rfl) rfl ?_
  refine g_aload_n (pc := 208) 3 rfl dX12_train_208 rfl ?_
  refine g_iload (pc := 209) 6 rfl dX12_train_209 ?_
  obtain ⟨s1, hs1, hf⟩ := am_bd hf
  refine g_setI (pc := 211) (in_12 hX (by omega)) fr_X12_366 dX12_train_211 (Option.some.inj hs1) ?_
  refine g_iconst (pc := 214) (v := 0) dX12_train_214 (by decide) ?_
  refine g_istore (pc := 215) [(18, .int 0), (9, .int v15), (7, .long v11), (5, .long v13), (0, .ref (am_ad X 12 0)), (1, .int v1), (2, .int v2), (4, .int v4), (11, .long v11), (13, .long v13), (15, .int v15)] dX12_train_215 (Nat.le_of_ble_eq_true rfl) rfl ?_
  obtain ⟨w2, hw2, hf⟩ := am_bd hf
  refine am_sub [4, 5, 6, 7, 3, 2, 1, 0] rfl (l_X12_train_217 hX v1 v2 v4 v13 v11 v15  s1 (0, s1) hw2 ?_)
  intro t e
  subst e
  exact q_X12_train_249 hX v1 v2 v4 v13 v11 v15 w2 hf hk0 hk1
noncomputable def f_X12_train_173 (v1 : Int32) (v2 : Int32) (v4 : Int32) (v5 : Int64) (v7 : Int64) (v9 : Int32) (v11 : Int64) (v13 : Int64) (v15 : Int32) (k0 : Int64) (σ : am_H) : Option ((Int64 × Int64 × Int32 × Bool × am_H) ⊕ (Int64 × Int64 × Int32 × am_H)) :=
  if k0 < 0 then
   (f_X12_train_196 v1 v2 v4 v11 v13 v15 σ)
  else
  if k0 = 0 then
   (if v15 < v9 then
    (f_X12_train_196 v1 v2 v4 v11 v13 v15 σ)
   else
   f_X12_train_249 v1 v2 v4 v5 v7 v9 σ)
  else
  f_X12_train_249 v1 v2 v4 v5 v7 v9 σ
set_option maxRecDepth 100000 in
set_option maxHeartbeats 4000000 in
theorem q_X12_train_173 {X : am_X} (hX : am_ks X = am_ksM) {Q : Option Value → am_H → Prop} (v1 : Int32) (v2 : Int32) (v4 : Int32) (v5 : Int64) (v7 : Int64) (v9 : Int32) (v11 : Int64) (v13 : Int64) (v15 : Int32) (k0 : Int64) (σ : am_H) {o : (Int64 × Int64 × Int32 × Bool × am_H) ⊕ (Int64 × Int64 × Int32 × am_H)} (hf : f_X12_train_173 v1 v2 v4 v5 v7 v9 v11 v13 v15 k0 σ = some o) (hk0 : ∀ s, o = .inl s → am_G X gm_X12_train Q 97 [(0, .ref (am_ad X 12 0)), (1, .int v1), (2, .int v2), (4, .int v4), (5, .long s.1), (7, .long s.2.1), (9, .int s.2.2.1), (10, .int (am_b s.2.2.2.1))] [] s.2.2.2.2) (hk1 : ∀ t, o = .inr t → am_G X gm_X12_train Q 261 [(0, .ref (am_ad X 12 0)), (1, .int v1), (2, .int v2), (5, .long t.1), (7, .long t.2.1), (9, .int t.2.2.1)] [] t.2.2.2) : am_G X gm_X12_train Q 173 [(0, .ref (am_ad X 12 0)), (1, .int v1), (2, .int v2), (4, .int v4), (5, .long v5), (7, .long v7), (9, .int v9), (11, .long v11), (13, .long v13), (15, .int v15)] [.long k0] σ := by
  unfold f_X12_train_173 at hf
  refine g_lstore (pc := 173) [(16, .long k0), (0, .ref (am_ad X 12 0)), (1, .int v1), (2, .int v2), (4, .int v4), (5, .long v5), (7, .long v7), (9, .int v9), (11, .long v11), (13, .long v13), (15, .int v15)] dX12_train_173 (Nat.le_of_ble_eq_true rfl) rfl ?_
  refine g_lload (pc := 175) 0 rfl dX12_train_175 ?_
  refine g_lconst (pc := 177) (v := 0) dX12_train_177 (by decide) ?_
  refine g_lcm (pc := 178) dX12_train_178 ?_
  refine bl_lt (pc := 179) 196 dX12_train_179 rfl (fun c1 => ?_) (fun c1 => ?_)
  · replace hf := am_ifT c1 hf
    exact am_sub [1, 2, 3, 4, 8, 9, 10] rfl (q_X12_train_196 hX v1 v2 v4 v11 v13 v15 σ hf hk0 hk1)
  replace hf := am_ifF c1 hf
  refine g_lload (pc := 182) 0 rfl dX12_train_182 ?_
  refine g_lconst (pc := 184) (v := 0) dX12_train_184 (by decide) ?_
  refine g_lcm (pc := 185) dX12_train_185 ?_
  refine bl_ne (pc := 186) 249 dX12_train_186 rfl (fun c2 => ?_) (fun c2 => ?_)
  · replace hf := am_ifT c2 hf
    refine g_iload (pc := 189) 10 rfl dX12_train_189 ?_
    refine g_iload (pc := 191) 7 rfl dX12_train_191 ?_
    refine bi_ge (pc := 193) 249 dX12_train_193 rfl (fun c3 => ?_) (fun c3 => ?_)
    · replace hf := am_ifT c3 hf
      exact am_sub [1, 2, 3, 4, 8, 9, 10] rfl (q_X12_train_196 hX v1 v2 v4 v11 v13 v15 σ hf hk0 hk1)
    replace hf := am_ifF c3 hf
    exact am_sub [1, 2, 3, 4, 5, 6, 7] rfl (q_X12_train_249 hX v1 v2 v4 v5 v7 v9 σ hf hk0 hk1)
  replace hf := am_ifF c2 hf
  exact am_sub [1, 2, 3, 4, 5, 6, 7] rfl (q_X12_train_249 hX v1 v2 v4 v5 v7 v9 σ hf hk0 hk1)
noncomputable def f_X12_train_97 (v1 : Int32) (v2 : Int32) (v4 : Int32) (v5 : Int64) (v7 : Int64) (v9 : Int32) (v10 : Bool) (σ : am_H) : Option ((Int64 × Int64 × Int32 × Bool × am_H) ⊕ (Int64 × Int64 × Int32 × am_H)) :=
  if v10 = true then
   ((f_X12_hasAll v1 v4 σ).bind fun p2 =>
   if p2 = true then
    ((f_X12_product v1 1 v4 σ).bind fun p4 =>
    (f_X12_product v1 0 v4 σ).bind fun p5 =>
    (f_X12_offOf v1 v2 p5 p4 σ).bind fun p6 =>
    (f_X12_teethOf v1 v4 σ).bind fun p7 =>
    if v7 = 0 then
     (f_X12_train_173 v1 v2 v4 v5 v7 v9 p4 p6 p7 (-1) σ)
    else
    f_X12_train_173 v1 v2 v4 v5 v7 v9 p4 p6 p7 ((p6 * v7) - (v5 * p4)) σ)
   else
   f_X12_train_249 v1 v2 v4 v5 v7 v9 σ)
  else
  some (.inr (v5, v7, v9, σ))
set_option maxRecDepth 100000 in
set_option maxHeartbeats 4000000 in
theorem q_X12_train_97 {X : am_X} (hX : am_ks X = am_ksM) {Q : Option Value → am_H → Prop} (v1 : Int32) (v2 : Int32) (v4 : Int32) (v5 : Int64) (v7 : Int64) (v9 : Int32) (v10 : Bool) (σ : am_H) {o : (Int64 × Int64 × Int32 × Bool × am_H) ⊕ (Int64 × Int64 × Int32 × am_H)} (hf : f_X12_train_97 v1 v2 v4 v5 v7 v9 v10 σ = some o) (hk0 : ∀ s, o = .inl s → am_G X gm_X12_train Q 97 [(0, .ref (am_ad X 12 0)), (1, .int v1), (2, .int v2), (4, .int v4), (5, .long s.1), (7, .long s.2.1), (9, .int s.2.2.1), (10, .int (am_b s.2.2.2.1))] [] s.2.2.2.2) (hk1 : ∀ t, o = .inr t → am_G X gm_X12_train Q 261 [(0, .ref (am_ad X 12 0)), (1, .int v1), (2, .int v2), (5, .long t.1), (7, .long t.2.1), (9, .int t.2.2.1)] [] t.2.2.2) : am_G X gm_X12_train Q 97 [(0, .ref (am_ad X 12 0)), (1, .int v1), (2, .int v2), (4, .int v4), (5, .long v5), (7, .long v7), (9, .int v9), (10, .int (am_b v10))] [] σ := by
  unfold f_X12_train_97 at hf
  refine g_iload (pc := 97) 7 rfl dX12_train_97 ?_
  refine bt_eq (pc := 99) 261 dX12_train_99 rfl (fun c1 => ?_) (fun c1 => ?_)
  · replace hf := am_ifT c1 hf
    refine g_aload_n (pc := 102) 0 rfl dX12_train_102 rfl ?_
    refine g_iload_n (pc := 103) 1 rfl dX12_train_103 rfl ?_
    refine g_iload (pc := 104) 3 rfl dX12_train_104 ?_
    obtain ⟨p2, hp2, hf⟩ := am_bd hf
    refine g_cV (pc := 106) (As := [.int v1, .int v4]) (st := []) (st1 := [.int (am_b p2)]) (in_12 hX (by omega)) kk_12 mV_X12_hasAll ln_X12_356 rfl (Nat.le_of_ble_eq_true rfl) (Nat.le_of_ble_eq_true rfl) (k_X12_hasAll hX v1 v4 σ hp2) dX12_train_106 rfl rfl ?_
    refine bt_eq (pc := 109) 249 dX12_train_109 rfl (fun c3 => ?_) (fun c3 => ?_)
    · replace hf := am_ifT c3 hf
      refine g_aload_n (pc := 112) 0 rfl dX12_train_112 rfl ?_
      refine g_iload_n (pc := 113) 1 rfl dX12_train_113 rfl ?_
      refine g_iconst (pc := 114) (v := 1) dX12_train_114 (by decide) ?_
      refine g_iload (pc := 115) 3 rfl dX12_train_115 ?_
      obtain ⟨p4, hp4, hf⟩ := am_bd hf
      refine g_cV (pc := 117) (As := [.int v1, .int 1, .int v4]) (st := []) (st1 := [.long p4]) (in_12 hX (by omega)) kk_12 mV_X12_product ln_X12_359 rfl (Nat.le_of_ble_eq_true rfl) (Nat.le_of_ble_eq_true rfl) (k_X12_product hX v1 1 v4 σ hp4) dX12_train_117 rfl rfl ?_
      refine g_lstore (pc := 120) [(11, .long p4), (0, .ref (am_ad X 12 0)), (1, .int v1), (2, .int v2), (4, .int v4), (5, .long v5), (7, .long v7), (9, .int v9), (10, .int (am_b v10))] dX12_train_120 (Nat.le_of_ble_eq_true rfl) rfl ?_
      refine g_aload_n (pc := 122) 1 rfl dX12_train_122 rfl ?_
      refine g_iload_n (pc := 123) 2 rfl dX12_train_123 rfl ?_
      refine g_iload_n (pc := 124) 3 rfl dX12_train_124 rfl ?_
      refine g_aload_n (pc := 125) 1 rfl dX12_train_125 rfl ?_
      refine g_iload_n (pc := 126) 2 rfl dX12_train_126 rfl ?_
      refine g_iconst (pc := 127) (v := 0) dX12_train_127 (by decide) ?_
      refine g_iload (pc := 128) 4 rfl dX12_train_128 ?_
      obtain ⟨p5, hp5, hf⟩ := am_bd hf
      refine g_cV (pc := 130) (As := [.int v1, .int 0, .int v4]) (st := [.int v2, .int v1, .ref (am_ad X 12 0)]) (st1 := [.long p5, .int v2, .int v1, .ref (am_ad X 12 0)]) (in_12 hX (by omega)) kk_12 mV_X12_product ln_X12_359 rfl (Nat.le_of_ble_eq_true rfl) (Nat.le_of_ble_eq_true rfl) (k_X12_product hX v1 0 v4 σ hp5) dX12_train_130 rfl rfl ?_
      refine g_lload (pc := 133) 0 rfl dX12_train_133 ?_
      obtain ⟨p6, hp6, hf⟩ := am_bd hf
      refine g_cV (pc := 135) (As := [.int v1, .int v2, .long p5, .long p4]) (st := []) (st1 := [.long p6]) (in_12 hX (by omega)) kk_12 mV_X12_offOf ln_X12_340 rfl (Nat.le_of_ble_eq_true rfl) (Nat.le_of_ble_eq_true rfl) (k_X12_offOf hX v1 v2 p5 p4 σ hp6) dX12_train_135 rfl rfl ?_
      refine g_lstore (pc := 138) [(13, .long p6), (11, .long p4), (0, .ref (am_ad X 12 0)), (1, .int v1), (2, .int v2), (4, .int v4), (5, .long v5), (7, .long v7), (9, .int v9), (10, .int (am_b v10))] dX12_train_138 (Nat.le_of_ble_eq_true rfl) rfl ?_
      refine g_aload_n (pc := 140) 2 rfl dX12_train_140 rfl ?_
      refine g_iload_n (pc := 141) 3 rfl dX12_train_141 rfl ?_
      refine g_iload (pc := 142) 5 rfl dX12_train_142 ?_
      obtain ⟨p7, hp7, hf⟩ := am_bd hf
      refine g_cV (pc := 144) (As := [.int v1, .int v4]) (st := []) (st1 := [.int p7]) (in_12 hX (by omega)) kk_12 mV_X12_teethOf ln_X12_363 rfl (Nat.le_of_ble_eq_true rfl) (Nat.le_of_ble_eq_true rfl) (k_X12_teethOf hX v1 v4 σ hp7) dX12_train_144 rfl rfl ?_
      refine g_istore (pc := 147) [(15, .int p7), (13, .long p6), (11, .long p4), (0, .ref (am_ad X 12 0)), (1, .int v1), (2, .int v2), (4, .int v4), (5, .long v5), (7, .long v7), (9, .int v9), (10, .int (am_b v10))] dX12_train_147 (Nat.le_of_ble_eq_true rfl) rfl ?_
      refine g_lload (pc := 149) 8 rfl dX12_train_149 ?_
      refine g_lconst (pc := 151) (v := 0) dX12_train_151 (by decide) ?_
      refine g_lcm (pc := 152) dX12_train_152 ?_
      refine bl_ne (pc := 153) 162 dX12_train_153 rfl (fun c8 => ?_) (fun c8 => ?_)
      · replace hf := am_ifT c8 hf
        refine g_ldc2 (pc := 156) (v := (-1)) (tb_8 (List.mem_of_getElem? (i := 106) (by decide +kernel))) dX12_train_156 ?_
        refine g_goto (pc := 159) 173 dX12_train_159 rfl ?_
        exact am_sub [3, 4, 5, 6, 7, 8, 9, 2, 1, 0] rfl (q_X12_train_173 hX v1 v2 v4 v5 v7 v9 p4 p6 p7 (-1) σ hf hk0 hk1)
      replace hf := am_ifF c8 hf
      refine g_lload (pc := 162) 1 rfl dX12_train_162 ?_
      refine g_lload (pc := 164) 8 rfl dX12_train_164 ?_
      refine g_lmul (pc := 166) dX12_train_166 ?_
      refine g_lload (pc := 167) 7 rfl dX12_train_167 ?_
      refine g_lload (pc := 169) 2 rfl dX12_train_169 ?_
      refine g_lmul (pc := 171) dX12_train_171 ?_
      refine g_lsub (pc := 172) dX12_train_172 ?_
      exact am_sub [3, 4, 5, 6, 7, 8, 9, 2, 1, 0] rfl (q_X12_train_173 hX v1 v2 v4 v5 v7 v9 p4 p6 p7 ((p6 * v7) - (v5 * p4)) σ hf hk0 hk1)
    replace hf := am_ifF c3 hf
    exact am_sub [0, 1, 2, 3, 4, 5, 6] rfl (q_X12_train_249 hX v1 v2 v4 v5 v7 v9 σ hf hk0 hk1)
  replace hf := am_ifF c1 hf
  have hz := hk1 _ (Option.some.inj hf).symm
  exact am_sub [0, 1, 2, 4, 5, 6] rfl hz
set_option maxRecDepth 100000 in
set_option maxHeartbeats 4000000 in
theorem l_X12_train_97 {X : am_X} (hX : am_ks X = am_ksM) {Q : Option Value → am_H → Prop} (v1 : Int32) (v2 : Int32) (v4 : Int32) (σ : am_H) (s : Int64 × Int64 × Int32 × Bool × am_H) {o : Int64 × Int64 × Int32 × am_H} (hf : am_loop (fun s => f_X12_train_97 v1 v2 v4 s.1 s.2.1 s.2.2.1 s.2.2.2.1 s.2.2.2.2) s = some o) (hk1 : ∀ t, o = t → am_G X gm_X12_train Q 261 [(0, .ref (am_ad X 12 0)), (1, .int v1), (2, .int v2), (5, .long t.1), (7, .long t.2.1), (9, .int t.2.2.1)] [] t.2.2.2) : am_G X gm_X12_train Q 97 [(0, .ref (am_ad X 12 0)), (1, .int v1), (2, .int v2), (4, .int v4), (5, .long s.1), (7, .long s.2.1), (9, .int s.2.2.1), (10, .int (am_b s.2.2.2.1))] [] s.2.2.2.2 := by
  refine am_loop_ind (P := fun s => am_G X gm_X12_train Q 97 [(0, .ref (am_ad X 12 0)), (1, .int v1), (2, .int v2), (4, .int v4), (5, .long s.1), (7, .long s.2.1), (9, .int s.2.2.1), (10, .int (am_b s.2.2.2.1))] [] s.2.2.2.2) (K := fun r => r = o) ?_ hf rfl
  intro s o1 hb hi hr
  exact q_X12_train_97 hX v1 v2 v4 s.1 s.2.1 s.2.2.1 s.2.2.2.1  s.2.2.2.2 hb hi (fun t e => hk1 t (hr _ e).symm)
noncomputable def f_X12_train (v1 : Int32) (v2 : Int32) (v3 : Int32) (σ : am_H) : Option (Int32 × am_H) :=
  (some (am_wI σ 12 0 1 0)).bind fun s1 =>
  (some (am_wI s1 12 0 0 0)).bind fun s2 =>
  (f_X12_isWaveOf v1 v2 s2).bind fun p3 =>
  if p3 = true then
   ((f_X12_isIn (Int32.toInt64 v3) 1 2 s2).bind fun p5 =>
   if p5 = true then
    ((am_ix 3 v1).bind fun j7 =>
    if 0 < (s2.1 1321 0 j7) then
     ((am_loop (fun s => f_X12_train_76 v1 v2 (2 * v3) 0 0 true s.1 s.2) (0, s2)).bind fun w9 =>
     (am_loop (fun s => f_X12_train_97 v1 v2 (2 * v3) s.1 s.2.1 s.2.2.1 s.2.2.2.1 s.2.2.2.2) (0, 0, 0, true, w9)).bind fun w10 =>
     if w10.2.1 = 0 then
      ((f_X12_refuse 9 w10.2.2.2).bind fun p12 =>
      some (p12.1, p12.2))
     else
     (f_X12_of v1 v2 1 w10.2.2.2).bind fun p13 =>
     (f_X12_fraction (w10.1 * 24) (w10.2.1 * (Int32.toInt64 p13)) w10.2.2.2).bind fun p14 =>
     some (w10.2.2.1, p14))
    else
    (am_loop (fun s => f_X12_train_76 v1 v2 (2 * v3) 0 0 false s.1 s.2) (0, s2)).bind fun w15 =>
    (am_loop (fun s => f_X12_train_97 v1 v2 (2 * v3) s.1 s.2.1 s.2.2.1 s.2.2.2.1 s.2.2.2.2) (0, 0, 0, false, w15)).bind fun w16 =>
    if w16.2.1 = 0 then
     ((f_X12_refuse 9 w16.2.2.2).bind fun p18 =>
     some (p18.1, p18.2))
    else
    (f_X12_of v1 v2 1 w16.2.2.2).bind fun p19 =>
    (f_X12_fraction (w16.1 * 24) (w16.2.1 * (Int32.toInt64 p19)) w16.2.2.2).bind fun p20 =>
    some (w16.2.2.1, p20))
   else
   (f_X12_refuse 5 s2).bind fun p21 =>
   some (p21.1, p21.2))
  else
  (f_X12_refuse 2 s2).bind fun p22 =>
  some (p22.1, p22.2)
set_option maxRecDepth 100000 in
set_option maxHeartbeats 4000000 in
theorem q_X12_train {X : am_X} (hX : am_ks X = am_ksM) {Q : Option Value → am_H → Prop} (v1 : Int32) (v2 : Int32) (v3 : Int32) (σ : am_H) {o : Int32 × am_H} (hf : f_X12_train v1 v2 v3 σ = some o) (hk : Q (some (.int o.1)) o.2) : am_G X gm_X12_train Q 0 [(0, .ref (am_ad X 12 0)), (1, .int v1), (2, .int v2), (3, .int v3)] [] σ := by
  unfold f_X12_train at hf
  refine g_aload_n (pc := 0) 0 rfl dX12_train_0 rfl ?_
  refine g_iconst (pc := 1) (v := 0) dX12_train_1 (by decide) ?_
  obtain ⟨s1, hs1, hf⟩ := am_bd hf
  refine g_setI (pc := 2) (in_12 hX (by omega)) fr_X12_122 dX12_train_2 (Option.some.inj hs1) ?_
  refine g_aload_n (pc := 5) 0 rfl dX12_train_5 rfl ?_
  refine g_iconst (pc := 6) (v := 0) dX12_train_6 (by decide) ?_
  obtain ⟨s2, hs2, hf⟩ := am_bd hf
  refine g_setI (pc := 7) (in_12 hX (by omega)) fr_X12_125 dX12_train_7 (Option.some.inj hs2) ?_
  refine g_aload_n (pc := 10) 0 rfl dX12_train_10 rfl ?_
  refine g_iload_n (pc := 11) 1 rfl dX12_train_11 rfl ?_
  refine g_iload_n (pc := 12) 2 rfl dX12_train_12 rfl ?_
  obtain ⟨p3, hp3, hf⟩ := am_bd hf
  refine g_cV (pc := 13) (As := [.int v1, .int v2]) (st := []) (st1 := [.int (am_b p3)]) (in_12 hX (by omega)) kk_12 mV_X12_isWaveOf ln_X12_300 rfl (Nat.le_of_ble_eq_true rfl) (Nat.le_of_ble_eq_true rfl) (k_X12_isWaveOf hX v1 v2 s2 hp3) dX12_train_13 rfl rfl ?_
  refine bt_ne (pc := 16) 25 dX12_train_16 rfl (fun c4 => ?_) (fun c4 => ?_)
  · replace hf := am_ifT c4 hf
    refine g_iload_n (pc := 25) 3 rfl dX12_train_25 rfl ?_
    refine g_i2l (pc := 26) dX12_train_26 ?_
    refine g_lconst (pc := 27) (v := 1) dX12_train_27 (by decide) ?_
    refine g_ldc2 (pc := 28) (v := 2) (tb_9 (List.mem_of_getElem? (i := 85) (by decide +kernel))) dX12_train_28 ?_
    obtain ⟨p5, hp5, hf⟩ := am_bd hf
    refine g_cS (pc := 31) (As := [.long (Int32.toInt64 v3), .long 1, .long 2]) (st := []) (st1 := [.int (am_b p5)]) mS_X12_isIn ln_X12_239 rfl (Nat.le_of_ble_eq_true rfl) (Nat.le_of_ble_eq_true rfl) (k_X12_isIn hX (Int32.toInt64 v3) 1 2 s2 hp5) dX12_train_31 rfl rfl ?_
    refine bt_ne (pc := 34) 43 dX12_train_34 rfl (fun c6 => ?_) (fun c6 => ?_)
    · replace hf := am_ifT c6 hf
      refine g_iconst (pc := 43) (v := 2) dX12_train_43 (by decide) ?_
      refine g_iload_n (pc := 44) 3 rfl dX12_train_44 rfl ?_
      refine g_imul (pc := 45) dX12_train_45 ?_
      refine g_istore (pc := 46) [(4, .int (2 * v3)), (0, .ref (am_ad X 12 0)), (1, .int v1), (2, .int v2), (3, .int v3)] dX12_train_46 (Nat.le_of_ble_eq_true rfl) rfl ?_
      refine g_lconst (pc := 48) (v := 0) dX12_train_48 (by decide) ?_
      refine g_lstore (pc := 49) [(5, .long 0), (4, .int (2 * v3)), (0, .ref (am_ad X 12 0)), (1, .int v1), (2, .int v2), (3, .int v3)] dX12_train_49 (Nat.le_of_ble_eq_true rfl) rfl ?_
      refine g_lconst (pc := 51) (v := 0) dX12_train_51 (by decide) ?_
      refine g_lstore (pc := 52) [(7, .long 0), (5, .long 0), (4, .int (2 * v3)), (0, .ref (am_ad X 12 0)), (1, .int v1), (2, .int v2), (3, .int v3)] dX12_train_52 (Nat.le_of_ble_eq_true rfl) rfl ?_
      refine g_iconst (pc := 54) (v := 0) dX12_train_54 (by decide) ?_
      refine g_istore (pc := 55) [(9, .int 0), (7, .long 0), (5, .long 0), (4, .int (2 * v3)), (0, .ref (am_ad X 12 0)), (1, .int v1), (2, .int v2), (3, .int v3)] dX12_train_55 (Nat.le_of_ble_eq_true rfl) rfl ?_
      refine g_aload_n (pc := 57) 4 rfl dX12_train_57 rfl ?_
      refine g_getC (pc := 58) (e := 0) (in_12 hX (by omega)) fr_X12_38 dX12_train_58 rfl ?_
      refine g_iload_n (pc := 61) 5 rfl dX12_train_61 rfl ?_
      obtain ⟨j7, hj7, hf⟩ := am_bd hf
      have gj7 := am_ix_lt hj7
      refine g_aI (pc := 62) (in_1321 hX (by omega)) ak_1321 hj7 dX12_train_62 ?_
      refine bz_le (pc := 63) 70 dX12_train_63 rfl (fun c8 => ?_) (fun c8 => ?_)
      · replace hf := am_ifT c8 hf
        refine g_iconst (pc := 66) (v := 1) dX12_train_66 (by decide) ?_
        refine g_goto (pc := 67) 71 dX12_train_67 rfl ?_
        refine g_istore (pc := 71) [(10, .int 1), (9, .int 0), (7, .long 0), (5, .long 0), (4, .int (2 * v3)), (0, .ref (am_ad X 12 0)), (1, .int v1), (2, .int v2), (3, .int v3)] dX12_train_71 (Nat.le_of_ble_eq_true rfl) rfl ?_
        refine g_iconst (pc := 73) (v := 0) dX12_train_73 (by decide) ?_
        refine g_istore (pc := 74) [(11, .int 0), (10, .int 1), (9, .int 0), (7, .long 0), (5, .long 0), (4, .int (2 * v3)), (0, .ref (am_ad X 12 0)), (1, .int v1), (2, .int v2), (3, .int v3)] dX12_train_74 (Nat.le_of_ble_eq_true rfl) rfl ?_
        obtain ⟨w9, hw9, hf⟩ := am_bd hf
        refine am_sub [6, 7, 8, 5, 4, 3, 2, 1, 0] rfl (l_X12_train_76 hX v1 v2 (2 * v3) 0 0 true  s2 (0, s2) hw9 ?_)
        intro t e
        subst e
        obtain ⟨w10, hw10, hf⟩ := am_bd hf
        refine (l_X12_train_97 hX v1 v2 (2 * v3)  w9 (0, 0, 0, true, w9) hw10 ?_)
        intro t e
        subst e
        refine g_lload (pc := 261) 4 rfl dX12_train_261 ?_
        refine g_lconst (pc := 263) (v := 0) dX12_train_263 (by decide) ?_
        refine g_lcm (pc := 264) dX12_train_264 ?_
        refine bl_ne (pc := 265) 275 dX12_train_265 rfl (fun c11 => ?_) (fun c11 => ?_)
        · replace hf := am_ifT c11 hf
          refine g_aload_n (pc := 268) 0 rfl dX12_train_268 rfl ?_
          refine g_bipush (pc := 269) (v := 9) dX12_train_269 (by decide) ?_
          obtain ⟨p12, hp12, hf⟩ := am_bd hf
          refine g_cV (pc := 271) (As := [.int 9]) (st := []) (st1 := [.int p12.1]) (in_12 hX (by omega)) kk_12 mV_X12_refuse ln_X12_283 rfl (Nat.le_of_ble_eq_true rfl) (Nat.le_of_ble_eq_true rfl) (k_X12_refuse hX 9 w10.2.2.2 hp12) dX12_train_271 rfl rfl ?_
          have ho := Option.some.inj hf
          subst ho
          exact g_ireturn (pc := 274) (st := []) rfl dX12_train_274 hk
        replace hf := am_ifF c11 hf
        refine g_aload_n (pc := 275) 0 rfl dX12_train_275 rfl ?_
        refine g_lload (pc := 276) 3 rfl dX12_train_276 ?_
        refine g_ldc2 (pc := 278) (v := 24) (tb_9 (List.mem_of_getElem? (i := 51) (by decide +kernel))) dX12_train_278 ?_
        refine g_lmul (pc := 281) dX12_train_281 ?_
        refine g_lload (pc := 282) 4 rfl dX12_train_282 ?_
        refine g_aload_n (pc := 284) 0 rfl dX12_train_284 rfl ?_
        refine g_iload_n (pc := 285) 1 rfl dX12_train_285 rfl ?_
        refine g_iload_n (pc := 286) 2 rfl dX12_train_286 rfl ?_
        refine g_iconst (pc := 287) (v := 1) dX12_train_287 (by decide) ?_
        obtain ⟨p13, hp13, hf⟩ := am_bd hf
        refine g_cV (pc := 288) (As := [.int v1, .int v2, .int 1]) (st := [.long w10.2.1, .long (w10.1 * 24), .ref (am_ad X 12 0)]) (st1 := [.int p13, .long w10.2.1, .long (w10.1 * 24), .ref (am_ad X 12 0)]) (in_12 hX (by omega)) kk_12 mV_X12_of ln_X12_297 rfl (Nat.le_of_ble_eq_true rfl) (Nat.le_of_ble_eq_true rfl) (k_X12_of hX v1 v2 1 w10.2.2.2 hp13) dX12_train_288 rfl rfl ?_
        refine g_i2l (pc := 291) dX12_train_291 ?_
        refine g_lmul (pc := 292) dX12_train_292 ?_
        obtain ⟨p14, hp14, hf⟩ := am_bd hf
        refine g_cV (pc := 293) (As := [.long (w10.1 * 24), .long (w10.2.1 * (Int32.toInt64 p13))]) (st := []) (st1 := []) (in_12 hX (by omega)) kk_12 mV_X12_fraction ln_X12_344 rfl (Nat.le_of_ble_eq_true rfl) (Nat.le_of_ble_eq_true rfl) (k_X12_fraction hX (w10.1 * 24) (w10.2.1 * (Int32.toInt64 p13)) w10.2.2.2 hp14) dX12_train_293 rfl rfl ?_
        refine g_iload (pc := 296) 5 rfl dX12_train_296 ?_
        have ho := Option.some.inj hf
        subst ho
        exact g_ireturn (pc := 298) (st := []) rfl dX12_train_298 hk
      replace hf := am_ifF c8 hf
      refine g_iconst (pc := 70) (v := 0) dX12_train_70 (by decide) ?_
      refine g_istore (pc := 71) [(10, .int 0), (9, .int 0), (7, .long 0), (5, .long 0), (4, .int (2 * v3)), (0, .ref (am_ad X 12 0)), (1, .int v1), (2, .int v2), (3, .int v3)] dX12_train_71 (Nat.le_of_ble_eq_true rfl) rfl ?_
      refine g_iconst (pc := 73) (v := 0) dX12_train_73 (by decide) ?_
      refine g_istore (pc := 74) [(11, .int 0), (10, .int 0), (9, .int 0), (7, .long 0), (5, .long 0), (4, .int (2 * v3)), (0, .ref (am_ad X 12 0)), (1, .int v1), (2, .int v2), (3, .int v3)] dX12_train_74 (Nat.le_of_ble_eq_true rfl) rfl ?_
      obtain ⟨w15, hw15, hf⟩ := am_bd hf
      refine am_sub [6, 7, 8, 5, 4, 3, 2, 1, 0] rfl (l_X12_train_76 hX v1 v2 (2 * v3) 0 0 false  s2 (0, s2) hw15 ?_)
      intro t e
      subst e
      obtain ⟨w16, hw16, hf⟩ := am_bd hf
      refine (l_X12_train_97 hX v1 v2 (2 * v3)  w15 (0, 0, 0, false, w15) hw16 ?_)
      intro t e
      subst e
      refine g_lload (pc := 261) 4 rfl dX12_train_261 ?_
      refine g_lconst (pc := 263) (v := 0) dX12_train_263 (by decide) ?_
      refine g_lcm (pc := 264) dX12_train_264 ?_
      refine bl_ne (pc := 265) 275 dX12_train_265 rfl (fun c17 => ?_) (fun c17 => ?_)
      · replace hf := am_ifT c17 hf
        refine g_aload_n (pc := 268) 0 rfl dX12_train_268 rfl ?_
        refine g_bipush (pc := 269) (v := 9) dX12_train_269 (by decide) ?_
        obtain ⟨p18, hp18, hf⟩ := am_bd hf
        refine g_cV (pc := 271) (As := [.int 9]) (st := []) (st1 := [.int p18.1]) (in_12 hX (by omega)) kk_12 mV_X12_refuse ln_X12_283 rfl (Nat.le_of_ble_eq_true rfl) (Nat.le_of_ble_eq_true rfl) (k_X12_refuse hX 9 w16.2.2.2 hp18) dX12_train_271 rfl rfl ?_
        have ho := Option.some.inj hf
        subst ho
        exact g_ireturn (pc := 274) (st := []) rfl dX12_train_274 hk
      replace hf := am_ifF c17 hf
      refine g_aload_n (pc := 275) 0 rfl dX12_train_275 rfl ?_
      refine g_lload (pc := 276) 3 rfl dX12_train_276 ?_
      refine g_ldc2 (pc := 278) (v := 24) (tb_9 (List.mem_of_getElem? (i := 51) (by decide +kernel))) dX12_train_278 ?_
      refine g_lmul (pc := 281) dX12_train_281 ?_
      refine g_lload (pc := 282) 4 rfl dX12_train_282 ?_
      refine g_aload_n (pc := 284) 0 rfl dX12_train_284 rfl ?_
      refine g_iload_n (pc := 285) 1 rfl dX12_train_285 rfl ?_
      refine g_iload_n (pc := 286) 2 rfl dX12_train_286 rfl ?_
      refine g_iconst (pc := 287) (v := 1) dX12_train_287 (by decide) ?_
      obtain ⟨p19, hp19, hf⟩ := am_bd hf
      refine g_cV (pc := 288) (As := [.int v1, .int v2, .int 1]) (st := [.long w16.2.1, .long (w16.1 * 24), .ref (am_ad X 12 0)]) (st1 := [.int p19, .long w16.2.1, .long (w16.1 * 24), .ref (am_ad X 12 0)]) (in_12 hX (by omega)) kk_12 mV_X12_of ln_X12_297 rfl (Nat.le_of_ble_eq_true rfl) (Nat.le_of_ble_eq_true rfl) (k_X12_of hX v1 v2 1 w16.2.2.2 hp19) dX12_train_288 rfl rfl ?_
      refine g_i2l (pc := 291) dX12_train_291 ?_
      refine g_lmul (pc := 292) dX12_train_292 ?_
      obtain ⟨p20, hp20, hf⟩ := am_bd hf
      refine g_cV (pc := 293) (As := [.long (w16.1 * 24), .long (w16.2.1 * (Int32.toInt64 p19))]) (st := []) (st1 := []) (in_12 hX (by omega)) kk_12 mV_X12_fraction ln_X12_344 rfl (Nat.le_of_ble_eq_true rfl) (Nat.le_of_ble_eq_true rfl) (k_X12_fraction hX (w16.1 * 24) (w16.2.1 * (Int32.toInt64 p19)) w16.2.2.2 hp20) dX12_train_293 rfl rfl ?_
      refine g_iload (pc := 296) 5 rfl dX12_train_296 ?_
      have ho := Option.some.inj hf
      subst ho
      exact g_ireturn (pc := 298) (st := []) rfl dX12_train_298 hk
    replace hf := am_ifF c6 hf
    refine g_aload_n (pc := 37) 0 rfl dX12_train_37 rfl ?_
    refine g_iconst (pc := 38) (v := 5) dX12_train_38 (by decide) ?_
    obtain ⟨p21, hp21, hf⟩ := am_bd hf
    refine g_cV (pc := 39) (As := [.int 5]) (st := []) (st1 := [.int p21.1]) (in_12 hX (by omega)) kk_12 mV_X12_refuse ln_X12_283 rfl (Nat.le_of_ble_eq_true rfl) (Nat.le_of_ble_eq_true rfl) (k_X12_refuse hX 5 s2 hp21) dX12_train_39 rfl rfl ?_
    have ho := Option.some.inj hf
    subst ho
    exact g_ireturn (pc := 42) (st := []) rfl dX12_train_42 hk
  replace hf := am_ifF c4 hf
  refine g_aload_n (pc := 19) 0 rfl dX12_train_19 rfl ?_
  refine g_iconst (pc := 20) (v := 2) dX12_train_20 (by decide) ?_
  obtain ⟨p22, hp22, hf⟩ := am_bd hf
  refine g_cV (pc := 21) (As := [.int 2]) (st := []) (st1 := [.int p22.1]) (in_12 hX (by omega)) kk_12 mV_X12_refuse ln_X12_283 rfl (Nat.le_of_ble_eq_true rfl) (Nat.le_of_ble_eq_true rfl) (k_X12_refuse hX 2 s2 hp22) dX12_train_21 rfl rfl ?_
  have ho := Option.some.inj hf
  subst ho
  exact g_ireturn (pc := 24) (st := []) rfl dX12_train_24 hk
theorem k_X12_train {X : am_X} (hX : am_ks X = am_ksM) (v1 : Int32) (v2 : Int32) (v3 : Int32) (σ : am_H) {o : Int32 × am_H} (hf : f_X12_train v1 v2 v3 σ = some o) : am_C X gm_X12_train [.ref (am_ad X 12 0), .int v1, .int v2, .int v3] σ (am_is (some (.int o.1)) o.2) :=
  am_ofG rfl (Nat.le_of_ble_eq_true rfl) rfl (q_X12_train hX v1 v2 v3 σ hf ⟨rfl, rfl⟩)
theorem dX12_trained_0 : decode cX12_trained 0 = .ok (.aload_n 0, 1) := by decide +kernel
theorem dX12_trained_1 : decode cX12_trained 1 = .ok (.iconst 0, 1) := by decide +kernel
theorem dX12_trained_2 : decode cX12_trained 2 = .ok (.putfield 122, 3) := by decide +kernel
theorem dX12_trained_5 : decode cX12_trained 5 = .ok (.aload_n 0, 1) := by decide +kernel
theorem dX12_trained_6 : decode cX12_trained 6 = .ok (.iconst 0, 1) := by decide +kernel
theorem dX12_trained_7 : decode cX12_trained 7 = .ok (.putfield 125, 3) := by decide +kernel
theorem dX12_trained_10 : decode cX12_trained 10 = .ok (.iload_n 1, 1) := by decide +kernel
theorem dX12_trained_11 : decode cX12_trained 11 = .ok (.i2l, 1) := by decide +kernel
theorem dX12_trained_12 : decode cX12_trained 12 = .ok (.lconst 0, 1) := by decide +kernel
theorem dX12_trained_13 : decode cX12_trained 13 = .ok (.aload_n 0, 1) := by decide +kernel
theorem dX12_trained_14 : decode cX12_trained 14 = .ok (.getfield 366, 3) := by decide +kernel
theorem dX12_trained_17 : decode cX12_trained 17 = .ok (.iconst 1, 1) := by decide +kernel
theorem dX12_trained_18 : decode cX12_trained 18 = .ok (.isub, 1) := by decide +kernel
theorem dX12_trained_19 : decode cX12_trained 19 = .ok (.i2l, 1) := by decide +kernel
theorem dX12_trained_20 : decode cX12_trained 20 = .ok (.invokestatic 239, 3) := by decide +kernel
theorem dX12_trained_23 : decode cX12_trained 23 = .ok (.ifCond .eq 12, 3) := by decide +kernel
theorem dX12_trained_26 : decode cX12_trained 26 = .ok (.aload_n 0, 1) := by decide +kernel
theorem dX12_trained_27 : decode cX12_trained 27 = .ok (.getfield 62, 3) := by decide +kernel
theorem dX12_trained_30 : decode cX12_trained 30 = .ok (.iload_n 1, 1) := by decide +kernel
theorem dX12_trained_31 : decode cX12_trained 31 = .ok (.iaload, 1) := by decide +kernel
theorem dX12_trained_32 : decode cX12_trained 32 = .ok (.goto 9, 3) := by decide +kernel
theorem dX12_trained_35 : decode cX12_trained 35 = .ok (.aload_n 0, 1) := by decide +kernel
theorem dX12_trained_36 : decode cX12_trained 36 = .ok (.bipush 8, 2) := by decide +kernel
theorem dX12_trained_38 : decode cX12_trained 38 = .ok (.invokevirtual 283, 3) := by decide +kernel
theorem dX12_trained_41 : decode cX12_trained 41 = .ok (.ireturn, 1) := by decide +kernel
noncomputable def f_X12_trained (v1 : Int32) (σ : am_H) : Option (Int32 × am_H) :=
  (some (am_wI σ 12 0 1 0)).bind fun s1 =>
  (some (am_wI s1 12 0 0 0)).bind fun s2 =>
  (f_X12_isIn (Int32.toInt64 v1) 0 (Int32.toInt64 ((s2.1 12 0 29) - 1)) s2).bind fun p3 =>
  if p3 = true then
   ((am_ix 4 v1).bind fun j5 =>
   some ((s2.1 1344 0 j5), s2))
  else
  (f_X12_refuse 8 s2).bind fun p6 =>
  some (p6.1, p6.2)
set_option maxRecDepth 100000 in
set_option maxHeartbeats 4000000 in
theorem q_X12_trained {X : am_X} (hX : am_ks X = am_ksM) {Q : Option Value → am_H → Prop} (v1 : Int32) (σ : am_H) {o : Int32 × am_H} (hf : f_X12_trained v1 σ = some o) (hk : Q (some (.int o.1)) o.2) : am_G X gm_X12_trained Q 0 [(0, .ref (am_ad X 12 0)), (1, .int v1)] [] σ := by
  unfold f_X12_trained at hf
  refine g_aload_n (pc := 0) 0 rfl dX12_trained_0 rfl ?_
  refine g_iconst (pc := 1) (v := 0) dX12_trained_1 (by decide) ?_
  obtain ⟨s1, hs1, hf⟩ := am_bd hf
  refine g_setI (pc := 2) (in_12 hX (by omega)) fr_X12_122 dX12_trained_2 (Option.some.inj hs1) ?_
  refine g_aload_n (pc := 5) 0 rfl dX12_trained_5 rfl ?_
  refine g_iconst (pc := 6) (v := 0) dX12_trained_6 (by decide) ?_
  obtain ⟨s2, hs2, hf⟩ := am_bd hf
  refine g_setI (pc := 7) (in_12 hX (by omega)) fr_X12_125 dX12_trained_7 (Option.some.inj hs2) ?_
  refine g_iload_n (pc := 10) 1 rfl dX12_trained_10 rfl ?_
  refine g_i2l (pc := 11) dX12_trained_11 ?_
  refine g_lconst (pc := 12) (v := 0) dX12_trained_12 (by decide) ?_
  refine g_aload_n (pc := 13) 0 rfl dX12_trained_13 rfl ?_
  refine g_getI (pc := 14) (in_12 hX (by omega)) fr_X12_366 dX12_trained_14 ?_
  refine g_iconst (pc := 17) (v := 1) dX12_trained_17 (by decide) ?_
  refine g_isub (pc := 18) dX12_trained_18 ?_
  refine g_i2l (pc := 19) dX12_trained_19 ?_
  obtain ⟨p3, hp3, hf⟩ := am_bd hf
  refine g_cS (pc := 20) (As := [.long (Int32.toInt64 v1), .long 0, .long (Int32.toInt64 ((s2.1 12 0 29) - 1))]) (st := []) (st1 := [.int (am_b p3)]) mS_X12_isIn ln_X12_239 rfl (Nat.le_of_ble_eq_true rfl) (Nat.le_of_ble_eq_true rfl) (k_X12_isIn hX (Int32.toInt64 v1) 0 (Int32.toInt64 ((s2.1 12 0 29) - 1)) s2 hp3) dX12_trained_20 rfl rfl ?_
  refine bt_eq (pc := 23) 35 dX12_trained_23 rfl (fun c4 => ?_) (fun c4 => ?_)
  · replace hf := am_ifT c4 hf
    refine g_aload_n (pc := 26) 0 rfl dX12_trained_26 rfl ?_
    refine g_getC (pc := 27) (e := 0) (in_12 hX (by omega)) fr_X12_62 dX12_trained_27 rfl ?_
    refine g_iload_n (pc := 30) 1 rfl dX12_trained_30 rfl ?_
    obtain ⟨j5, hj5, hf⟩ := am_bd hf
    have gj5 := am_ix_lt hj5
    refine g_aI (pc := 31) (in_1344 hX (by omega)) ak_1344 hj5 dX12_trained_31 ?_
    refine g_goto (pc := 32) 41 dX12_trained_32 rfl ?_
    have ho := Option.some.inj hf
    subst ho
    exact g_ireturn (pc := 41) (st := []) rfl dX12_trained_41 hk
  replace hf := am_ifF c4 hf
  refine g_aload_n (pc := 35) 0 rfl dX12_trained_35 rfl ?_
  refine g_bipush (pc := 36) (v := 8) dX12_trained_36 (by decide) ?_
  obtain ⟨p6, hp6, hf⟩ := am_bd hf
  refine g_cV (pc := 38) (As := [.int 8]) (st := []) (st1 := [.int p6.1]) (in_12 hX (by omega)) kk_12 mV_X12_refuse ln_X12_283 rfl (Nat.le_of_ble_eq_true rfl) (Nat.le_of_ble_eq_true rfl) (k_X12_refuse hX 8 s2 hp6) dX12_trained_38 rfl rfl ?_
  have ho := Option.some.inj hf
  subst ho
  exact g_ireturn (pc := 41) (st := []) rfl dX12_trained_41 hk
theorem k_X12_trained {X : am_X} (hX : am_ks X = am_ksM) (v1 : Int32) (σ : am_H) {o : Int32 × am_H} (hf : f_X12_trained v1 σ = some o) : am_C X gm_X12_trained [.ref (am_ad X 12 0), .int v1] σ (am_is (some (.int o.1)) o.2) :=
  am_ofG rfl (Nat.le_of_ble_eq_true rfl) rfl (q_X12_trained hX v1 σ hf ⟨rfl, rfl⟩)
theorem dX12_shareFrom_0 : decode cX12_shareFrom 0 = .ok (.iload_n 2, 1) := by decide +kernel
theorem dX12_shareFrom_1 : decode cX12_shareFrom 1 = .ok (.ifCond .ne 74, 3) := by decide +kernel
theorem dX12_shareFrom_4 : decode cX12_shareFrom 4 = .ok (.aload_n 0, 1) := by decide +kernel
theorem dX12_shareFrom_5 : decode cX12_shareFrom 5 = .ok (.iload_n 1, 1) := by decide +kernel
theorem dX12_shareFrom_6 : decode cX12_shareFrom 6 = .ok (.iload_n 3, 1) := by decide +kernel
theorem dX12_shareFrom_7 : decode cX12_shareFrom 7 = .ok (.invokevirtual 363, 3) := by decide +kernel
theorem dX12_shareFrom_10 : decode cX12_shareFrom 10 = .ok (.istore 6, 2) := by decide +kernel
theorem dX12_shareFrom_12 : decode cX12_shareFrom 12 = .ok (.aload_n 0, 1) := by decide +kernel
theorem dX12_shareFrom_13 : decode cX12_shareFrom 13 = .ok (.getfield 372, 3) := by decide +kernel
theorem dX12_shareFrom_16 : decode cX12_shareFrom 16 = .ok (.ifCond .lt 13, 3) := by decide +kernel
theorem dX12_shareFrom_19 : decode cX12_shareFrom 19 = .ok (.iload 6, 2) := by decide +kernel
theorem dX12_shareFrom_21 : decode cX12_shareFrom 21 = .ok (.aload_n 0, 1) := by decide +kernel
theorem dX12_shareFrom_22 : decode cX12_shareFrom 22 = .ok (.getfield 372, 3) := by decide +kernel
theorem dX12_shareFrom_25 : decode cX12_shareFrom 25 = .ok (.if_icmp .lt 4, 3) := by decide +kernel
theorem dX12_shareFrom_28 : decode cX12_shareFrom 28 = .ok (.return_, 1) := by decide +kernel
theorem dX12_shareFrom_29 : decode cX12_shareFrom 29 = .ok (.aload_n 0, 1) := by decide +kernel
theorem dX12_shareFrom_30 : decode cX12_shareFrom 30 = .ok (.iload 6, 2) := by decide +kernel
theorem dX12_shareFrom_32 : decode cX12_shareFrom 32 = .ok (.putfield 372, 3) := by decide +kernel
theorem dX12_shareFrom_35 : decode cX12_shareFrom 35 = .ok (.aload_n 0, 1) := by decide +kernel
theorem dX12_shareFrom_36 : decode cX12_shareFrom 36 = .ok (.iload_n 3, 1) := by decide +kernel
theorem dX12_shareFrom_37 : decode cX12_shareFrom 37 = .ok (.putfield 375, 3) := by decide +kernel
theorem dX12_shareFrom_40 : decode cX12_shareFrom 40 = .ok (.iconst 0, 1) := by decide +kernel
theorem dX12_shareFrom_41 : decode cX12_shareFrom 41 = .ok (.istore 7, 2) := by decide +kernel
theorem dX12_shareFrom_43 : decode cX12_shareFrom 43 = .ok (.iload 7, 2) := by decide +kernel
theorem dX12_shareFrom_45 : decode cX12_shareFrom 45 = .ok (.iload_n 3, 1) := by decide +kernel
theorem dX12_shareFrom_46 : decode cX12_shareFrom 46 = .ok (.if_icmp .ge 28, 3) := by decide +kernel
theorem dX12_shareFrom_49 : decode cX12_shareFrom 49 = .ok (.aload_n 0, 1) := by decide +kernel
theorem dX12_shareFrom_50 : decode cX12_shareFrom 50 = .ok (.getfield 65, 3) := by decide +kernel
theorem dX12_shareFrom_53 : decode cX12_shareFrom 53 = .ok (.iload 7, 2) := by decide +kernel
theorem dX12_shareFrom_55 : decode cX12_shareFrom 55 = .ok (.aload_n 0, 1) := by decide +kernel
theorem dX12_shareFrom_56 : decode cX12_shareFrom 56 = .ok (.iload_n 1, 1) := by decide +kernel
theorem dX12_shareFrom_57 : decode cX12_shareFrom 57 = .ok (.aload_n 0, 1) := by decide +kernel
theorem dX12_shareFrom_58 : decode cX12_shareFrom 58 = .ok (.getfield 104, 3) := by decide +kernel
theorem dX12_shareFrom_61 : decode cX12_shareFrom 61 = .ok (.iload 7, 2) := by decide +kernel
theorem dX12_shareFrom_63 : decode cX12_shareFrom 63 = .ok (.iaload, 1) := by decide +kernel
theorem dX12_shareFrom_64 : decode cX12_shareFrom 64 = .ok (.invokevirtual 351, 3) := by decide +kernel
theorem dX12_shareFrom_67 : decode cX12_shareFrom 67 = .ok (.iastore, 1) := by decide +kernel
theorem dX12_shareFrom_68 : decode cX12_shareFrom 68 = .ok (.iinc 7 1, 3) := by decide +kernel
theorem dX12_shareFrom_71 : decode cX12_shareFrom 71 = .ok (.goto (-28), 3) := by decide +kernel
theorem dX12_shareFrom_74 : decode cX12_shareFrom 74 = .ok (.return_, 1) := by decide +kernel
theorem dX12_shareFrom_75 : decode cX12_shareFrom 75 = .ok (.iload_n 2, 1) := by decide +kernel
theorem dX12_shareFrom_76 : decode cX12_shareFrom 76 = .ok (.invokestatic 378, 3) := by decide +kernel
theorem dX12_shareFrom_79 : decode cX12_shareFrom 79 = .ok (.istore 6, 2) := by decide +kernel
theorem dX12_shareFrom_81 : decode cX12_shareFrom 81 = .ok (.iconst 0, 1) := by decide +kernel
theorem dX12_shareFrom_82 : decode cX12_shareFrom 82 = .ok (.istore 7, 2) := by decide +kernel
theorem dX12_shareFrom_84 : decode cX12_shareFrom 84 = .ok (.iload 7, 2) := by decide +kernel
theorem dX12_shareFrom_86 : decode cX12_shareFrom 86 = .ok (.aload_n 0, 1) := by decide +kernel
theorem dX12_shareFrom_87 : decode cX12_shareFrom 87 = .ok (.getfield 38, 3) := by decide +kernel
theorem dX12_shareFrom_90 : decode cX12_shareFrom 90 = .ok (.iload_n 1, 1) := by decide +kernel
theorem dX12_shareFrom_91 : decode cX12_shareFrom 91 = .ok (.iaload, 1) := by decide +kernel
theorem dX12_shareFrom_92 : decode cX12_shareFrom 92 = .ok (.if_icmp .ge 135, 3) := by decide +kernel
theorem dX12_shareFrom_95 : decode cX12_shareFrom 95 = .ok (.iconst 0, 1) := by decide +kernel
theorem dX12_shareFrom_96 : decode cX12_shareFrom 96 = .ok (.istore 8, 2) := by decide +kernel
theorem dX12_shareFrom_98 : decode cX12_shareFrom 98 = .ok (.iload 8, 2) := by decide +kernel
theorem dX12_shareFrom_100 : decode cX12_shareFrom 100 = .ok (.aload_n 0, 1) := by decide +kernel
theorem dX12_shareFrom_101 : decode cX12_shareFrom 101 = .ok (.getfield 38, 3) := by decide +kernel
theorem dX12_shareFrom_104 : decode cX12_shareFrom 104 = .ok (.iload_n 1, 1) := by decide +kernel
theorem dX12_shareFrom_105 : decode cX12_shareFrom 105 = .ok (.iaload, 1) := by decide +kernel
theorem dX12_shareFrom_106 : decode cX12_shareFrom 106 = .ok (.if_icmp .ge 115, 3) := by decide +kernel
theorem dX12_shareFrom_109 : decode cX12_shareFrom 109 = .ok (.aload_n 0, 1) := by decide +kernel
theorem dX12_shareFrom_110 : decode cX12_shareFrom 110 = .ok (.iload_n 1, 1) := by decide +kernel
theorem dX12_shareFrom_111 : decode cX12_shareFrom 111 = .ok (.iload 6, 2) := by decide +kernel
theorem dX12_shareFrom_113 : decode cX12_shareFrom 113 = .ok (.aload_n 0, 1) := by decide +kernel
theorem dX12_shareFrom_114 : decode cX12_shareFrom 114 = .ok (.iload_n 1, 1) := by decide +kernel
theorem dX12_shareFrom_115 : decode cX12_shareFrom 115 = .ok (.iload 7, 2) := by decide +kernel
theorem dX12_shareFrom_117 : decode cX12_shareFrom 117 = .ok (.invokevirtual 351, 3) := by decide +kernel
theorem dX12_shareFrom_120 : decode cX12_shareFrom 120 = .ok (.i2l, 1) := by decide +kernel
theorem dX12_shareFrom_121 : decode cX12_shareFrom 121 = .ok (.aload_n 0, 1) := by decide +kernel
theorem dX12_shareFrom_122 : decode cX12_shareFrom 122 = .ok (.iload_n 1, 1) := by decide +kernel
theorem dX12_shareFrom_123 : decode cX12_shareFrom 123 = .ok (.iload 8, 2) := by decide +kernel
theorem dX12_shareFrom_125 : decode cX12_shareFrom 125 = .ok (.invokevirtual 351, 3) := by decide +kernel
theorem dX12_shareFrom_128 : decode cX12_shareFrom 128 = .ok (.i2l, 1) := by decide +kernel
theorem dX12_shareFrom_129 : decode cX12_shareFrom 129 = .ok (.invokevirtual 340, 3) := by decide +kernel
theorem dX12_shareFrom_132 : decode cX12_shareFrom 132 = .ok (.iload 5, 2) := by decide +kernel
theorem dX12_shareFrom_134 : decode cX12_shareFrom 134 = .ok (.i2l, 1) := by decide +kernel
theorem dX12_shareFrom_135 : decode cX12_shareFrom 135 = .ok (.lmul, 1) := by decide +kernel
theorem dX12_shareFrom_136 : decode cX12_shareFrom 136 = .ok (.lstore 9, 2) := by decide +kernel
theorem dX12_shareFrom_138 : decode cX12_shareFrom 138 = .ok (.lload 9, 2) := by decide +kernel
theorem dX12_shareFrom_140 : decode cX12_shareFrom 140 = .ok (.iload 4, 2) := by decide +kernel
theorem dX12_shareFrom_142 : decode cX12_shareFrom 142 = .ok (.i2l, 1) := by decide +kernel
theorem dX12_shareFrom_143 : decode cX12_shareFrom 143 = .ok (.aload_n 0, 1) := by decide +kernel
theorem dX12_shareFrom_144 : decode cX12_shareFrom 144 = .ok (.iload_n 1, 1) := by decide +kernel
theorem dX12_shareFrom_145 : decode cX12_shareFrom 145 = .ok (.iload 6, 2) := by decide +kernel
theorem dX12_shareFrom_147 : decode cX12_shareFrom 147 = .ok (.iconst 1, 1) := by decide +kernel
theorem dX12_shareFrom_148 : decode cX12_shareFrom 148 = .ok (.invokevirtual 297, 3) := by decide +kernel
theorem dX12_shareFrom_151 : decode cX12_shareFrom 151 = .ok (.i2l, 1) := by decide +kernel
theorem dX12_shareFrom_152 : decode cX12_shareFrom 152 = .ok (.lmul, 1) := by decide +kernel
theorem dX12_shareFrom_153 : decode cX12_shareFrom 153 = .ok (.aload_n 0, 1) := by decide +kernel
theorem dX12_shareFrom_154 : decode cX12_shareFrom 154 = .ok (.iload_n 1, 1) := by decide +kernel
theorem dX12_shareFrom_155 : decode cX12_shareFrom 155 = .ok (.iload 8, 2) := by decide +kernel
theorem dX12_shareFrom_157 : decode cX12_shareFrom 157 = .ok (.invokevirtual 351, 3) := by decide +kernel
theorem dX12_shareFrom_160 : decode cX12_shareFrom 160 = .ok (.i2l, 1) := by decide +kernel
theorem dX12_shareFrom_161 : decode cX12_shareFrom 161 = .ok (.lmul, 1) := by decide +kernel
theorem dX12_shareFrom_162 : decode cX12_shareFrom 162 = .ok (.lcmp, 1) := by decide +kernel
theorem dX12_shareFrom_163 : decode cX12_shareFrom 163 = .ok (.ifCond .le 6, 3) := by decide +kernel
theorem dX12_shareFrom_166 : decode cX12_shareFrom 166 = .ok (.goto 49, 3) := by decide +kernel
theorem dX12_shareFrom_169 : decode cX12_shareFrom 169 = .ok (.aload_n 0, 1) := by decide +kernel
theorem dX12_shareFrom_170 : decode cX12_shareFrom 170 = .ok (.getfield 104, 3) := by decide +kernel
theorem dX12_shareFrom_173 : decode cX12_shareFrom 173 = .ok (.iload_n 3, 1) := by decide +kernel
theorem dX12_shareFrom_174 : decode cX12_shareFrom 174 = .ok (.iload 7, 2) := by decide +kernel
theorem dX12_shareFrom_176 : decode cX12_shareFrom 176 = .ok (.iastore, 1) := by decide +kernel
theorem dX12_shareFrom_177 : decode cX12_shareFrom 177 = .ok (.aload_n 0, 1) := by decide +kernel
theorem dX12_shareFrom_178 : decode cX12_shareFrom 178 = .ok (.getfield 104, 3) := by decide +kernel
theorem dX12_shareFrom_181 : decode cX12_shareFrom 181 = .ok (.iload_n 3, 1) := by decide +kernel
theorem dX12_shareFrom_182 : decode cX12_shareFrom 182 = .ok (.iconst 1, 1) := by decide +kernel
theorem dX12_shareFrom_183 : decode cX12_shareFrom 183 = .ok (.iadd, 1) := by decide +kernel
theorem dX12_shareFrom_184 : decode cX12_shareFrom 184 = .ok (.iload 8, 2) := by decide +kernel
theorem dX12_shareFrom_186 : decode cX12_shareFrom 186 = .ok (.iastore, 1) := by decide +kernel
theorem dX12_shareFrom_187 : decode cX12_shareFrom 187 = .ok (.aload_n 0, 1) := by decide +kernel
theorem dX12_shareFrom_188 : decode cX12_shareFrom 188 = .ok (.iload_n 1, 1) := by decide +kernel
theorem dX12_shareFrom_189 : decode cX12_shareFrom 189 = .ok (.iload_n 3, 1) := by decide +kernel
theorem dX12_shareFrom_190 : decode cX12_shareFrom 190 = .ok (.iconst 2, 1) := by decide +kernel
theorem dX12_shareFrom_191 : decode cX12_shareFrom 191 = .ok (.iadd, 1) := by decide +kernel
theorem dX12_shareFrom_192 : decode cX12_shareFrom 192 = .ok (.invokevirtual 356, 3) := by decide +kernel
theorem dX12_shareFrom_195 : decode cX12_shareFrom 195 = .ok (.ifCond .eq 20, 3) := by decide +kernel
theorem dX12_shareFrom_198 : decode cX12_shareFrom 198 = .ok (.aload_n 0, 1) := by decide +kernel
theorem dX12_shareFrom_199 : decode cX12_shareFrom 199 = .ok (.iload_n 1, 1) := by decide +kernel
theorem dX12_shareFrom_200 : decode cX12_shareFrom 200 = .ok (.iload_n 2, 1) := by decide +kernel
theorem dX12_shareFrom_201 : decode cX12_shareFrom 201 = .ok (.iload_n 2, 1) := by decide +kernel
theorem dX12_shareFrom_202 : decode cX12_shareFrom 202 = .ok (.iconst 1, 1) := by decide +kernel
theorem dX12_shareFrom_203 : decode cX12_shareFrom 203 = .ok (.isub, 1) := by decide +kernel
theorem dX12_shareFrom_204 : decode cX12_shareFrom 204 = .ok (.iand, 1) := by decide +kernel
theorem dX12_shareFrom_205 : decode cX12_shareFrom 205 = .ok (.iload_n 3, 1) := by decide +kernel
theorem dX12_shareFrom_206 : decode cX12_shareFrom 206 = .ok (.iconst 2, 1) := by decide +kernel
theorem dX12_shareFrom_207 : decode cX12_shareFrom 207 = .ok (.iadd, 1) := by decide +kernel
theorem dX12_shareFrom_208 : decode cX12_shareFrom 208 = .ok (.iload 4, 2) := by decide +kernel
theorem dX12_shareFrom_210 : decode cX12_shareFrom 210 = .ok (.iload 5, 2) := by decide +kernel
theorem dX12_shareFrom_212 : decode cX12_shareFrom 212 = .ok (.invokevirtual 383, 3) := by decide +kernel
theorem dX12_shareFrom_215 : decode cX12_shareFrom 215 = .ok (.iinc 8 1, 3) := by decide +kernel
theorem dX12_shareFrom_218 : decode cX12_shareFrom 218 = .ok (.goto (-120), 3) := by decide +kernel
theorem dX12_shareFrom_221 : decode cX12_shareFrom 221 = .ok (.iinc 7 1, 3) := by decide +kernel
theorem dX12_shareFrom_224 : decode cX12_shareFrom 224 = .ok (.goto (-140), 3) := by decide +kernel
theorem dX12_shareFrom_227 : decode cX12_shareFrom 227 = .ok (.return_, 1) := by decide +kernel
noncomputable def f_X12_shareFrom_43 (rc : Int32 → Int32 → Int32 → Int32 → Int32 → am_H → Option (am_H)) (v1 : Int32) (v3 : Int32) (v7 : Int32) (σ : am_H) : Option ((Int32 × am_H) ⊕ (am_H)) :=
  if v7 < v3 then
   ((am_ix 6 v7).bind fun j2 =>
   (f_X12_teeth v1 (σ.1 1377 0 j2) σ).bind fun p3 =>
   (am_ix 6 v7).bind fun j4 =>
   (some (am_wI σ 1345 0 j4 p3)).bind fun s5 =>
   some (.inl ((v7 + 1), s5)))
  else
  some (.inr σ)
set_option maxRecDepth 100000 in
set_option maxHeartbeats 4000000 in
theorem q_X12_shareFrom_43 {X : am_X} (hX : am_ks X = am_ksM) {Q : Option Value → am_H → Prop} (n : Nat) (rc : Int32 → Int32 → Int32 → Int32 → Int32 → am_H → Option (am_H)) (hrc : ∀ (v1 : Int32) (v2 : Int32) (v3 : Int32) (v4 : Int32) (v5 : Int32) (σ : am_H) (o : am_H), rc v1 v2 v3 v4 v5 σ = some o → am_C X (gm_X12_shareFrom n) [.ref (am_ad X 12 0), .int v1, .int v2, .int v3, .int v4, .int v5] σ (am_is none o)) (v1 : Int32) (v3 : Int32) (v7 : Int32) (σ : am_H) {o : (Int32 × am_H) ⊕ (am_H)} (hf : f_X12_shareFrom_43 rc v1 v3 v7 σ = some o) (hk0 : ∀ s, o = .inl s → am_G X (gm_X12_shareFrom (n + 1)) Q 43 [(0, .ref (am_ad X 12 0)), (1, .int v1), (3, .int v3), (7, .int s.1)] [] s.2) (hk1 : ∀ t, o = .inr t → am_G X (gm_X12_shareFrom (n + 1)) Q 74 [] [] t) : am_G X (gm_X12_shareFrom (n + 1)) Q 43 [(0, .ref (am_ad X 12 0)), (1, .int v1), (3, .int v3), (7, .int v7)] [] σ := by
  unfold f_X12_shareFrom_43 at hf
  refine g_iload (pc := 43) 3 rfl dX12_shareFrom_43 ?_
  refine g_iload_n (pc := 45) 2 rfl dX12_shareFrom_45 rfl ?_
  refine bi_ge (pc := 46) 74 dX12_shareFrom_46 rfl (fun c1 => ?_) (fun c1 => ?_)
  · replace hf := am_ifT c1 hf
    refine g_aload_n (pc := 49) 0 rfl dX12_shareFrom_49 rfl ?_
    refine g_getC (pc := 50) (e := 0) (in_12 hX (by omega)) fr_X12_65 dX12_shareFrom_50 rfl ?_
    refine g_iload (pc := 53) 3 rfl dX12_shareFrom_53 ?_
    refine g_aload_n (pc := 55) 0 rfl dX12_shareFrom_55 rfl ?_
    refine g_iload_n (pc := 56) 1 rfl dX12_shareFrom_56 rfl ?_
    refine g_aload_n (pc := 57) 0 rfl dX12_shareFrom_57 rfl ?_
    refine g_getC (pc := 58) (e := 0) (in_12 hX (by omega)) fr_X12_104 dX12_shareFrom_58 rfl ?_
    refine g_iload (pc := 61) 3 rfl dX12_shareFrom_61 ?_
    obtain ⟨j2, hj2, hf⟩ := am_bd hf
    have gj2 := am_ix_lt hj2
    refine g_aI (pc := 63) (in_1377 hX (by omega)) ak_1377 hj2 dX12_shareFrom_63 ?_
    obtain ⟨p3, hp3, hf⟩ := am_bd hf
    refine g_cV (pc := 64) (As := [.int v1, .int (σ.1 1377 0 j2)]) (st := [.int v7, .ref (am_ad X 1345 0)]) (st1 := [.int p3, .int v7, .ref (am_ad X 1345 0)]) (in_12 hX (by omega)) kk_12 mV_X12_teeth ln_X12_351 rfl (by first | exact Nat.le_of_ble_eq_true rfl | (show _ + 1 ≤ _; simp only []; omega)) (Nat.le_of_ble_eq_true rfl) (k_X12_teeth hX v1 (σ.1 1377 0 j2) σ hp3) dX12_shareFrom_64 rfl rfl ?_
    obtain ⟨j4, hj4, hf⟩ := am_bd hf
    have gj4 := am_ix_lt hj4
    obtain ⟨s5, hs5, hf⟩ := am_bd hf
    refine g_sI (pc := 67) (in_1345 hX (by omega)) ak_1345 hj4 dX12_shareFrom_67 (Option.some.inj hs5) ?_
    refine g_iinc (pc := 68) (v := (v7 + 1)) 3 [(7, .int (v7 + 1)), (0, .ref (am_ad X 12 0)), (1, .int v1), (3, .int v3)] dX12_shareFrom_68 rfl rfl (Nat.le_of_ble_eq_true rfl) rfl ?_
    refine g_goto (pc := 71) 43 dX12_shareFrom_71 rfl ?_
    have hz := hk0 _ (Option.some.inj hf).symm
    exact am_sub [1, 2, 3, 0] rfl hz
  replace hf := am_ifF c1 hf
  have hz := hk1 _ (Option.some.inj hf).symm
  exact am_sub [] rfl hz
set_option maxRecDepth 100000 in
set_option maxHeartbeats 4000000 in
theorem l_X12_shareFrom_43 {X : am_X} (hX : am_ks X = am_ksM) {Q : Option Value → am_H → Prop} (n : Nat) (rc : Int32 → Int32 → Int32 → Int32 → Int32 → am_H → Option (am_H)) (hrc : ∀ (v1 : Int32) (v2 : Int32) (v3 : Int32) (v4 : Int32) (v5 : Int32) (σ : am_H) (o : am_H), rc v1 v2 v3 v4 v5 σ = some o → am_C X (gm_X12_shareFrom n) [.ref (am_ad X 12 0), .int v1, .int v2, .int v3, .int v4, .int v5] σ (am_is none o)) (v1 : Int32) (v3 : Int32) (σ : am_H) (s : Int32 × am_H) {o : am_H} (hf : am_loop (fun s => f_X12_shareFrom_43 rc v1 v3 s.1 s.2) s = some o) (hk1 : ∀ t, o = t → am_G X (gm_X12_shareFrom (n + 1)) Q 74 [] [] t) : am_G X (gm_X12_shareFrom (n + 1)) Q 43 [(0, .ref (am_ad X 12 0)), (1, .int v1), (3, .int v3), (7, .int s.1)] [] s.2 := by
  refine am_loop_ind (P := fun s => am_G X (gm_X12_shareFrom (n + 1)) Q 43 [(0, .ref (am_ad X 12 0)), (1, .int v1), (3, .int v3), (7, .int s.1)] [] s.2) (K := fun r => r = o) ?_ hf rfl
  intro s o1 hb hi hr
  exact q_X12_shareFrom_43 hX n rc hrc v1 v3 s.1  s.2 hb hi (fun t e => hk1 t (hr _ e).symm)
noncomputable def f_X12_shareFrom_29 (rc : Int32 → Int32 → Int32 → Int32 → Int32 → am_H → Option (am_H)) (v1 : Int32) (v3 : Int32) (v6 : Int32) (σ : am_H) : Option (am_H) :=
  (some (am_wI σ 12 0 78 v6)).bind fun s1 =>
  (some (am_wI s1 12 0 30 v3)).bind fun s2 =>
  (am_loop (fun s => f_X12_shareFrom_43 rc v1 v3 s.1 s.2) (0, s2)).bind fun w3 =>
  some w3
set_option maxRecDepth 100000 in
set_option maxHeartbeats 4000000 in
theorem q_X12_shareFrom_29 {X : am_X} (hX : am_ks X = am_ksM) {Q : Option Value → am_H → Prop} (n : Nat) (rc : Int32 → Int32 → Int32 → Int32 → Int32 → am_H → Option (am_H)) (hrc : ∀ (v1 : Int32) (v2 : Int32) (v3 : Int32) (v4 : Int32) (v5 : Int32) (σ : am_H) (o : am_H), rc v1 v2 v3 v4 v5 σ = some o → am_C X (gm_X12_shareFrom n) [.ref (am_ad X 12 0), .int v1, .int v2, .int v3, .int v4, .int v5] σ (am_is none o)) (v1 : Int32) (v3 : Int32) (v6 : Int32) (σ : am_H) {o : am_H} (hf : f_X12_shareFrom_29 rc v1 v3 v6 σ = some o) (hk : Q none o) : am_G X (gm_X12_shareFrom (n + 1)) Q 29 [(0, .ref (am_ad X 12 0)), (1, .int v1), (3, .int v3), (6, .int v6)] [] σ := by
  unfold f_X12_shareFrom_29 at hf
  refine g_aload_n (pc := 29) 0 rfl dX12_shareFrom_29 rfl ?_
  refine g_iload (pc := 30) 3 rfl dX12_shareFrom_30 ?_
  obtain ⟨s1, hs1, hf⟩ := am_bd hf
  refine g_setI (pc := 32) (in_12 hX (by omega)) fr_X12_372 dX12_shareFrom_32 (Option.some.inj hs1) ?_
  refine g_aload_n (pc := 35) 0 rfl dX12_shareFrom_35 rfl ?_
  refine g_iload_n (pc := 36) 2 rfl dX12_shareFrom_36 rfl ?_
  obtain ⟨s2, hs2, hf⟩ := am_bd hf
  refine g_setI (pc := 37) (in_12 hX (by omega)) fr_X12_375 dX12_shareFrom_37 (Option.some.inj hs2) ?_
  refine g_iconst (pc := 40) (v := 0) dX12_shareFrom_40 (by decide) ?_
  refine g_istore (pc := 41) [(7, .int 0), (0, .ref (am_ad X 12 0)), (1, .int v1), (3, .int v3), (6, .int v6)] dX12_shareFrom_41 (Nat.le_of_ble_eq_true rfl) rfl ?_
  obtain ⟨w3, hw3, hf⟩ := am_bd hf
  refine am_sub [1, 2, 3, 0] rfl (l_X12_shareFrom_43 hX n rc hrc v1 v3  s2 (0, s2) hw3 ?_)
  intro t e
  subst e
  have ho := Option.some.inj hf
  subst ho
  exact g_vreturn (pc := 74) (st := []) rfl dX12_shareFrom_74 hk
noncomputable def f_X12_shareFrom_98 (rc : Int32 → Int32 → Int32 → Int32 → Int32 → am_H → Option (am_H)) (v1 : Int32) (v2 : Int32) (v3 : Int32) (v4 : Int32) (v5 : Int32) (v6 : Int32) (v7 : Int32) (v8 : Int32) (σ : am_H) : Option ((Int32 × am_H) ⊕ (am_H)) :=
  (am_ix 3 v1).bind fun j1 =>
  if v8 < (σ.1 1321 0 j1) then
   ((f_X12_teeth v1 v7 σ).bind fun p3 =>
   (f_X12_teeth v1 v8 σ).bind fun p4 =>
   (f_X12_offOf v1 v6 (Int32.toInt64 p3) (Int32.toInt64 p4) σ).bind fun p5 =>
   (f_X12_of v1 v6 1 σ).bind fun p6 =>
   (f_X12_teeth v1 v8 σ).bind fun p7 =>
   if (((Int32.toInt64 v4) * (Int32.toInt64 p6)) * (Int32.toInt64 p7)) < (p5 * (Int32.toInt64 v5)) then
    (some (.inl ((v8 + 1), σ)))
   else
   (am_ix 6 v3).bind fun j9 =>
   (some (am_wI σ 1377 0 j9 v7)).bind fun s10 =>
   (am_ix 6 (v3 + 1)).bind fun j11 =>
   (some (am_wI s10 1377 0 j11 v8)).bind fun s12 =>
   (f_X12_hasAll v1 (v3 + 2) s12).bind fun p13 =>
   if p13 = true then
    ((rc v1 (v2 &&& (v2 - 1)) (v3 + 2) v4 v5 s12).bind fun p15 =>
    some (.inl ((v8 + 1), p15)))
   else
   some (.inl ((v8 + 1), s12)))
  else
  some (.inr σ)
set_option maxRecDepth 100000 in
set_option maxHeartbeats 4000000 in
theorem q_X12_shareFrom_98 {X : am_X} (hX : am_ks X = am_ksM) {Q : Option Value → am_H → Prop} (n : Nat) (rc : Int32 → Int32 → Int32 → Int32 → Int32 → am_H → Option (am_H)) (hrc : ∀ (v1 : Int32) (v2 : Int32) (v3 : Int32) (v4 : Int32) (v5 : Int32) (σ : am_H) (o : am_H), rc v1 v2 v3 v4 v5 σ = some o → am_C X (gm_X12_shareFrom n) [.ref (am_ad X 12 0), .int v1, .int v2, .int v3, .int v4, .int v5] σ (am_is none o)) (v1 : Int32) (v2 : Int32) (v3 : Int32) (v4 : Int32) (v5 : Int32) (v6 : Int32) (v7 : Int32) (v8 : Int32) (σ : am_H) {o : (Int32 × am_H) ⊕ (am_H)} (hf : f_X12_shareFrom_98 rc v1 v2 v3 v4 v5 v6 v7 v8 σ = some o) (hk0 : ∀ s, o = .inl s → am_G X (gm_X12_shareFrom (n + 1)) Q 98 [(0, .ref (am_ad X 12 0)), (1, .int v1), (2, .int v2), (3, .int v3), (4, .int v4), (5, .int v5), (6, .int v6), (7, .int v7), (8, .int s.1)] [] s.2) (hk1 : ∀ t, o = .inr t → am_G X (gm_X12_shareFrom (n + 1)) Q 221 [(0, .ref (am_ad X 12 0)), (1, .int v1), (2, .int v2), (3, .int v3), (4, .int v4), (5, .int v5), (6, .int v6), (7, .int v7)] [] t) : am_G X (gm_X12_shareFrom (n + 1)) Q 98 [(0, .ref (am_ad X 12 0)), (1, .int v1), (2, .int v2), (3, .int v3), (4, .int v4), (5, .int v5), (6, .int v6), (7, .int v7), (8, .int v8)] [] σ := by
  unfold f_X12_shareFrom_98 at hf
  refine g_iload (pc := 98) 8 rfl dX12_shareFrom_98 ?_
  refine g_aload_n (pc := 100) 0 rfl dX12_shareFrom_100 rfl ?_
  refine g_getC (pc := 101) (e := 0) (in_12 hX (by omega)) fr_X12_38 dX12_shareFrom_101 rfl ?_
  refine g_iload_n (pc := 104) 1 rfl dX12_shareFrom_104 rfl ?_
  obtain ⟨j1, hj1, hf⟩ := am_bd hf
  have gj1 := am_ix_lt hj1
  refine g_aI (pc := 105) (in_1321 hX (by omega)) ak_1321 hj1 dX12_shareFrom_105 ?_
  refine bi_ge (pc := 106) 221 dX12_shareFrom_106 rfl (fun c2 => ?_) (fun c2 => ?_)
  · replace hf := am_ifT c2 hf
    refine g_aload_n (pc := 109) 0 rfl dX12_shareFrom_109 rfl ?_
    refine g_iload_n (pc := 110) 1 rfl dX12_shareFrom_110 rfl ?_
    refine g_iload (pc := 111) 6 rfl dX12_shareFrom_111 ?_
    refine g_aload_n (pc := 113) 0 rfl dX12_shareFrom_113 rfl ?_
    refine g_iload_n (pc := 114) 1 rfl dX12_shareFrom_114 rfl ?_
    refine g_iload (pc := 115) 7 rfl dX12_shareFrom_115 ?_
    obtain ⟨p3, hp3, hf⟩ := am_bd hf
    refine g_cV (pc := 117) (As := [.int v1, .int v7]) (st := [.int v6, .int v1, .ref (am_ad X 12 0)]) (st1 := [.int p3, .int v6, .int v1, .ref (am_ad X 12 0)]) (in_12 hX (by omega)) kk_12 mV_X12_teeth ln_X12_351 rfl (by first | exact Nat.le_of_ble_eq_true rfl | (show _ + 1 ≤ _; simp only []; omega)) (Nat.le_of_ble_eq_true rfl) (k_X12_teeth hX v1 v7 σ hp3) dX12_shareFrom_117 rfl rfl ?_
    refine g_i2l (pc := 120) dX12_shareFrom_120 ?_
    refine g_aload_n (pc := 121) 0 rfl dX12_shareFrom_121 rfl ?_
    refine g_iload_n (pc := 122) 1 rfl dX12_shareFrom_122 rfl ?_
    refine g_iload (pc := 123) 8 rfl dX12_shareFrom_123 ?_
    obtain ⟨p4, hp4, hf⟩ := am_bd hf
    refine g_cV (pc := 125) (As := [.int v1, .int v8]) (st := [.long (Int32.toInt64 p3), .int v6, .int v1, .ref (am_ad X 12 0)]) (st1 := [.int p4, .long (Int32.toInt64 p3), .int v6, .int v1, .ref (am_ad X 12 0)]) (in_12 hX (by omega)) kk_12 mV_X12_teeth ln_X12_351 rfl (by first | exact Nat.le_of_ble_eq_true rfl | (show _ + 1 ≤ _; simp only []; omega)) (Nat.le_of_ble_eq_true rfl) (k_X12_teeth hX v1 v8 σ hp4) dX12_shareFrom_125 rfl rfl ?_
    refine g_i2l (pc := 128) dX12_shareFrom_128 ?_
    obtain ⟨p5, hp5, hf⟩ := am_bd hf
    refine g_cV (pc := 129) (As := [.int v1, .int v6, .long (Int32.toInt64 p3), .long (Int32.toInt64 p4)]) (st := []) (st1 := [.long p5]) (in_12 hX (by omega)) kk_12 mV_X12_offOf ln_X12_340 rfl (by first | exact Nat.le_of_ble_eq_true rfl | (show _ + 1 ≤ _; simp only []; omega)) (Nat.le_of_ble_eq_true rfl) (k_X12_offOf hX v1 v6 (Int32.toInt64 p3) (Int32.toInt64 p4) σ hp5) dX12_shareFrom_129 rfl rfl ?_
    refine g_iload (pc := 132) 5 rfl dX12_shareFrom_132 ?_
    refine g_i2l (pc := 134) dX12_shareFrom_134 ?_
    refine g_lmul (pc := 135) dX12_shareFrom_135 ?_
    refine g_lstore (pc := 136) [(9, .long (p5 * (Int32.toInt64 v5))), (0, .ref (am_ad X 12 0)), (1, .int v1), (2, .int v2), (3, .int v3), (4, .int v4), (5, .int v5), (6, .int v6), (7, .int v7), (8, .int v8)] dX12_shareFrom_136 (Nat.le_of_ble_eq_true rfl) rfl ?_
    refine g_lload (pc := 138) 0 rfl dX12_shareFrom_138 ?_
    refine g_iload (pc := 140) 5 rfl dX12_shareFrom_140 ?_
    refine g_i2l (pc := 142) dX12_shareFrom_142 ?_
    refine g_aload_n (pc := 143) 1 rfl dX12_shareFrom_143 rfl ?_
    refine g_iload_n (pc := 144) 2 rfl dX12_shareFrom_144 rfl ?_
    refine g_iload (pc := 145) 7 rfl dX12_shareFrom_145 ?_
    refine g_iconst (pc := 147) (v := 1) dX12_shareFrom_147 (by decide) ?_
    obtain ⟨p6, hp6, hf⟩ := am_bd hf
    refine g_cV (pc := 148) (As := [.int v1, .int v6, .int 1]) (st := [.long (Int32.toInt64 v4), .long (p5 * (Int32.toInt64 v5))]) (st1 := [.int p6, .long (Int32.toInt64 v4), .long (p5 * (Int32.toInt64 v5))]) (in_12 hX (by omega)) kk_12 mV_X12_of ln_X12_297 rfl (by first | exact Nat.le_of_ble_eq_true rfl | (show _ + 1 ≤ _; simp only []; omega)) (Nat.le_of_ble_eq_true rfl) (k_X12_of hX v1 v6 1 σ hp6) dX12_shareFrom_148 rfl rfl ?_
    refine g_i2l (pc := 151) dX12_shareFrom_151 ?_
    refine g_lmul (pc := 152) dX12_shareFrom_152 ?_
    refine g_aload_n (pc := 153) 1 rfl dX12_shareFrom_153 rfl ?_
    refine g_iload_n (pc := 154) 2 rfl dX12_shareFrom_154 rfl ?_
    refine g_iload (pc := 155) 9 rfl dX12_shareFrom_155 ?_
    obtain ⟨p7, hp7, hf⟩ := am_bd hf
    refine g_cV (pc := 157) (As := [.int v1, .int v8]) (st := [.long ((Int32.toInt64 v4) * (Int32.toInt64 p6)), .long (p5 * (Int32.toInt64 v5))]) (st1 := [.int p7, .long ((Int32.toInt64 v4) * (Int32.toInt64 p6)), .long (p5 * (Int32.toInt64 v5))]) (in_12 hX (by omega)) kk_12 mV_X12_teeth ln_X12_351 rfl (by first | exact Nat.le_of_ble_eq_true rfl | (show _ + 1 ≤ _; simp only []; omega)) (Nat.le_of_ble_eq_true rfl) (k_X12_teeth hX v1 v8 σ hp7) dX12_shareFrom_157 rfl rfl ?_
    refine g_i2l (pc := 160) dX12_shareFrom_160 ?_
    refine g_lmul (pc := 161) dX12_shareFrom_161 ?_
    refine g_lcm (pc := 162) dX12_shareFrom_162 ?_
    refine bl_le (pc := 163) 169 dX12_shareFrom_163 rfl (fun c8 => ?_) (fun c8 => ?_)
    · replace hf := am_ifT c8 hf
      refine g_goto (pc := 166) 215 dX12_shareFrom_166 rfl ?_
      refine g_iinc (pc := 215) (v := (v8 + 1)) 9 [(8, .int (v8 + 1)), (9, .long (p5 * (Int32.toInt64 v5))), (0, .ref (am_ad X 12 0)), (1, .int v1), (2, .int v2), (3, .int v3), (4, .int v4), (5, .int v5), (6, .int v6), (7, .int v7)] dX12_shareFrom_215 rfl rfl (Nat.le_of_ble_eq_true rfl) rfl ?_
      refine g_goto (pc := 218) 98 dX12_shareFrom_218 rfl ?_
      have hz := hk0 _ (Option.some.inj hf).symm
      exact am_sub [2, 3, 4, 5, 6, 7, 8, 9, 0] rfl hz
    replace hf := am_ifF c8 hf
    refine g_aload_n (pc := 169) 1 rfl dX12_shareFrom_169 rfl ?_
    refine g_getC (pc := 170) (e := 0) (in_12 hX (by omega)) fr_X12_104 dX12_shareFrom_170 rfl ?_
    refine g_iload_n (pc := 173) 4 rfl dX12_shareFrom_173 rfl ?_
    refine g_iload (pc := 174) 8 rfl dX12_shareFrom_174 ?_
    obtain ⟨j9, hj9, hf⟩ := am_bd hf
    have gj9 := am_ix_lt hj9
    obtain ⟨s10, hs10, hf⟩ := am_bd hf
    refine g_sI (pc := 176) (in_1377 hX (by omega)) ak_1377 hj9 dX12_shareFrom_176 (Option.some.inj hs10) ?_
    refine g_aload_n (pc := 177) 1 rfl dX12_shareFrom_177 rfl ?_
    refine g_getC (pc := 178) (e := 0) (in_12 hX (by omega)) fr_X12_104 dX12_shareFrom_178 rfl ?_
    refine g_iload_n (pc := 181) 4 rfl dX12_shareFrom_181 rfl ?_
    refine g_iconst (pc := 182) (v := 1) dX12_shareFrom_182 (by decide) ?_
    refine g_iadd (pc := 183) dX12_shareFrom_183 ?_
    refine g_iload (pc := 184) 9 rfl dX12_shareFrom_184 ?_
    obtain ⟨j11, hj11, hf⟩ := am_bd hf
    have gj11 := am_ix_lt hj11
    obtain ⟨s12, hs12, hf⟩ := am_bd hf
    refine g_sI (pc := 186) (in_1377 hX (by omega)) ak_1377 hj11 dX12_shareFrom_186 (Option.some.inj hs12) ?_
    refine g_aload_n (pc := 187) 1 rfl dX12_shareFrom_187 rfl ?_
    refine g_iload_n (pc := 188) 2 rfl dX12_shareFrom_188 rfl ?_
    refine g_iload_n (pc := 189) 4 rfl dX12_shareFrom_189 rfl ?_
    refine g_iconst (pc := 190) (v := 2) dX12_shareFrom_190 (by decide) ?_
    refine g_iadd (pc := 191) dX12_shareFrom_191 ?_
    obtain ⟨p13, hp13, hf⟩ := am_bd hf
    refine g_cV (pc := 192) (As := [.int v1, .int (v3 + 2)]) (st := []) (st1 := [.int (am_b p13)]) (in_12 hX (by omega)) kk_12 mV_X12_hasAll ln_X12_356 rfl (by first | exact Nat.le_of_ble_eq_true rfl | (show _ + 1 ≤ _; simp only []; omega)) (Nat.le_of_ble_eq_true rfl) (k_X12_hasAll hX v1 (v3 + 2) s12 hp13) dX12_shareFrom_192 rfl rfl ?_
    refine bt_eq (pc := 195) 215 dX12_shareFrom_195 rfl (fun c14 => ?_) (fun c14 => ?_)
    · replace hf := am_ifT c14 hf
      refine g_aload_n (pc := 198) 1 rfl dX12_shareFrom_198 rfl ?_
      refine g_iload_n (pc := 199) 2 rfl dX12_shareFrom_199 rfl ?_
      refine g_iload_n (pc := 200) 3 rfl dX12_shareFrom_200 rfl ?_
      refine g_iload_n (pc := 201) 3 rfl dX12_shareFrom_201 rfl ?_
      refine g_iconst (pc := 202) (v := 1) dX12_shareFrom_202 (by decide) ?_
      refine g_isub (pc := 203) dX12_shareFrom_203 ?_
      refine g_iand (pc := 204) dX12_shareFrom_204 ?_
      refine g_iload_n (pc := 205) 4 rfl dX12_shareFrom_205 rfl ?_
      refine g_iconst (pc := 206) (v := 2) dX12_shareFrom_206 (by decide) ?_
      refine g_iadd (pc := 207) dX12_shareFrom_207 ?_
      refine g_iload (pc := 208) 5 rfl dX12_shareFrom_208 ?_
      refine g_iload (pc := 210) 6 rfl dX12_shareFrom_210 ?_
      obtain ⟨p15, hp15, hf⟩ := am_bd hf
      refine g_cV (pc := 212) (As := [.int v1, .int (v2 &&& (v2 - 1)), .int (v3 + 2), .int v4, .int v5]) (st := []) (st1 := []) (in_12 hX (by omega)) kk_12 (mV_X12_shareFrom _) ln_X12_383 rfl (by first | exact Nat.le_of_ble_eq_true rfl | (show _ + 1 ≤ _; simp only []; omega)) (Nat.le_of_ble_eq_true rfl) (hrc v1 (v2 &&& (v2 - 1)) (v3 + 2) v4 v5 s12 _ hp15) dX12_shareFrom_212 rfl rfl ?_
      refine g_iinc (pc := 215) (v := (v8 + 1)) 9 [(8, .int (v8 + 1)), (9, .long (p5 * (Int32.toInt64 v5))), (0, .ref (am_ad X 12 0)), (1, .int v1), (2, .int v2), (3, .int v3), (4, .int v4), (5, .int v5), (6, .int v6), (7, .int v7)] dX12_shareFrom_215 rfl rfl (Nat.le_of_ble_eq_true rfl) rfl ?_
      refine g_goto (pc := 218) 98 dX12_shareFrom_218 rfl ?_
      have hz := hk0 _ (Option.some.inj hf).symm
      exact am_sub [2, 3, 4, 5, 6, 7, 8, 9, 0] rfl hz
    replace hf := am_ifF c14 hf
    refine g_iinc (pc := 215) (v := (v8 + 1)) 9 [(8, .int (v8 + 1)), (9, .long (p5 * (Int32.toInt64 v5))), (0, .ref (am_ad X 12 0)), (1, .int v1), (2, .int v2), (3, .int v3), (4, .int v4), (5, .int v5), (6, .int v6), (7, .int v7)] dX12_shareFrom_215 rfl rfl (Nat.le_of_ble_eq_true rfl) rfl ?_
    refine g_goto (pc := 218) 98 dX12_shareFrom_218 rfl ?_
    have hz := hk0 _ (Option.some.inj hf).symm
    exact am_sub [2, 3, 4, 5, 6, 7, 8, 9, 0] rfl hz
  replace hf := am_ifF c2 hf
  have hz := hk1 _ (Option.some.inj hf).symm
  exact am_sub [0, 1, 2, 3, 4, 5, 6, 7] rfl hz
set_option maxRecDepth 100000 in
set_option maxHeartbeats 4000000 in
theorem l_X12_shareFrom_98 {X : am_X} (hX : am_ks X = am_ksM) {Q : Option Value → am_H → Prop} (n : Nat) (rc : Int32 → Int32 → Int32 → Int32 → Int32 → am_H → Option (am_H)) (hrc : ∀ (v1 : Int32) (v2 : Int32) (v3 : Int32) (v4 : Int32) (v5 : Int32) (σ : am_H) (o : am_H), rc v1 v2 v3 v4 v5 σ = some o → am_C X (gm_X12_shareFrom n) [.ref (am_ad X 12 0), .int v1, .int v2, .int v3, .int v4, .int v5] σ (am_is none o)) (v1 : Int32) (v2 : Int32) (v3 : Int32) (v4 : Int32) (v5 : Int32) (v6 : Int32) (v7 : Int32) (σ : am_H) (s : Int32 × am_H) {o : am_H} (hf : am_loop (fun s => f_X12_shareFrom_98 rc v1 v2 v3 v4 v5 v6 v7 s.1 s.2) s = some o) (hk1 : ∀ t, o = t → am_G X (gm_X12_shareFrom (n + 1)) Q 221 [(0, .ref (am_ad X 12 0)), (1, .int v1), (2, .int v2), (3, .int v3), (4, .int v4), (5, .int v5), (6, .int v6), (7, .int v7)] [] t) : am_G X (gm_X12_shareFrom (n + 1)) Q 98 [(0, .ref (am_ad X 12 0)), (1, .int v1), (2, .int v2), (3, .int v3), (4, .int v4), (5, .int v5), (6, .int v6), (7, .int v7), (8, .int s.1)] [] s.2 := by
  refine am_loop_ind (P := fun s => am_G X (gm_X12_shareFrom (n + 1)) Q 98 [(0, .ref (am_ad X 12 0)), (1, .int v1), (2, .int v2), (3, .int v3), (4, .int v4), (5, .int v5), (6, .int v6), (7, .int v7), (8, .int s.1)] [] s.2) (K := fun r => r = o) ?_ hf rfl
  intro s o1 hb hi hr
  exact q_X12_shareFrom_98 hX n rc hrc v1 v2 v3 v4 v5 v6 v7 s.1  s.2 hb hi (fun t e => hk1 t (hr _ e).symm)
noncomputable def f_X12_shareFrom_84 (rc : Int32 → Int32 → Int32 → Int32 → Int32 → am_H → Option (am_H)) (v1 : Int32) (v2 : Int32) (v3 : Int32) (v4 : Int32) (v5 : Int32) (v6 : Int32) (v7 : Int32) (σ : am_H) : Option ((Int32 × am_H) ⊕ (am_H)) :=
  (am_ix 3 v1).bind fun j1 =>
  if v7 < (σ.1 1321 0 j1) then
   ((am_loop (fun s => f_X12_shareFrom_98 rc v1 v2 v3 v4 v5 v6 v7 s.1 s.2) (0, σ)).bind fun w3 =>
   some (.inl ((v7 + 1), w3)))
  else
  some (.inr σ)
set_option maxRecDepth 100000 in
set_option maxHeartbeats 4000000 in
theorem q_X12_shareFrom_84 {X : am_X} (hX : am_ks X = am_ksM) {Q : Option Value → am_H → Prop} (n : Nat) (rc : Int32 → Int32 → Int32 → Int32 → Int32 → am_H → Option (am_H)) (hrc : ∀ (v1 : Int32) (v2 : Int32) (v3 : Int32) (v4 : Int32) (v5 : Int32) (σ : am_H) (o : am_H), rc v1 v2 v3 v4 v5 σ = some o → am_C X (gm_X12_shareFrom n) [.ref (am_ad X 12 0), .int v1, .int v2, .int v3, .int v4, .int v5] σ (am_is none o)) (v1 : Int32) (v2 : Int32) (v3 : Int32) (v4 : Int32) (v5 : Int32) (v6 : Int32) (v7 : Int32) (σ : am_H) {o : (Int32 × am_H) ⊕ (am_H)} (hf : f_X12_shareFrom_84 rc v1 v2 v3 v4 v5 v6 v7 σ = some o) (hk0 : ∀ s, o = .inl s → am_G X (gm_X12_shareFrom (n + 1)) Q 84 [(0, .ref (am_ad X 12 0)), (1, .int v1), (2, .int v2), (3, .int v3), (4, .int v4), (5, .int v5), (6, .int v6), (7, .int s.1)] [] s.2) (hk1 : ∀ t, o = .inr t → am_G X (gm_X12_shareFrom (n + 1)) Q 227 [] [] t) : am_G X (gm_X12_shareFrom (n + 1)) Q 84 [(0, .ref (am_ad X 12 0)), (1, .int v1), (2, .int v2), (3, .int v3), (4, .int v4), (5, .int v5), (6, .int v6), (7, .int v7)] [] σ := by
  unfold f_X12_shareFrom_84 at hf
  refine g_iload (pc := 84) 7 rfl dX12_shareFrom_84 ?_
  refine g_aload_n (pc := 86) 0 rfl dX12_shareFrom_86 rfl ?_
  refine g_getC (pc := 87) (e := 0) (in_12 hX (by omega)) fr_X12_38 dX12_shareFrom_87 rfl ?_
  refine g_iload_n (pc := 90) 1 rfl dX12_shareFrom_90 rfl ?_
  obtain ⟨j1, hj1, hf⟩ := am_bd hf
  have gj1 := am_ix_lt hj1
  refine g_aI (pc := 91) (in_1321 hX (by omega)) ak_1321 hj1 dX12_shareFrom_91 ?_
  refine bi_ge (pc := 92) 227 dX12_shareFrom_92 rfl (fun c2 => ?_) (fun c2 => ?_)
  · replace hf := am_ifT c2 hf
    refine g_iconst (pc := 95) (v := 0) dX12_shareFrom_95 (by decide) ?_
    refine g_istore (pc := 96) [(8, .int 0), (0, .ref (am_ad X 12 0)), (1, .int v1), (2, .int v2), (3, .int v3), (4, .int v4), (5, .int v5), (6, .int v6), (7, .int v7)] dX12_shareFrom_96 (Nat.le_of_ble_eq_true rfl) rfl ?_
    obtain ⟨w3, hw3, hf⟩ := am_bd hf
    refine am_sub [1, 2, 3, 4, 5, 6, 7, 8, 0] rfl (l_X12_shareFrom_98 hX n rc hrc v1 v2 v3 v4 v5 v6 v7  σ (0, σ) hw3 ?_)
    intro t e
    subst e
    refine g_iinc (pc := 221) (v := (v7 + 1)) 7 [(7, .int (v7 + 1)), (0, .ref (am_ad X 12 0)), (1, .int v1), (2, .int v2), (3, .int v3), (4, .int v4), (5, .int v5), (6, .int v6)] dX12_shareFrom_221 rfl rfl (Nat.le_of_ble_eq_true rfl) rfl ?_
    refine g_goto (pc := 224) 84 dX12_shareFrom_224 rfl ?_
    have hz := hk0 _ (Option.some.inj hf).symm
    exact am_sub [1, 2, 3, 4, 5, 6, 7, 0] rfl hz
  replace hf := am_ifF c2 hf
  have hz := hk1 _ (Option.some.inj hf).symm
  exact am_sub [] rfl hz
set_option maxRecDepth 100000 in
set_option maxHeartbeats 4000000 in
theorem l_X12_shareFrom_84 {X : am_X} (hX : am_ks X = am_ksM) {Q : Option Value → am_H → Prop} (n : Nat) (rc : Int32 → Int32 → Int32 → Int32 → Int32 → am_H → Option (am_H)) (hrc : ∀ (v1 : Int32) (v2 : Int32) (v3 : Int32) (v4 : Int32) (v5 : Int32) (σ : am_H) (o : am_H), rc v1 v2 v3 v4 v5 σ = some o → am_C X (gm_X12_shareFrom n) [.ref (am_ad X 12 0), .int v1, .int v2, .int v3, .int v4, .int v5] σ (am_is none o)) (v1 : Int32) (v2 : Int32) (v3 : Int32) (v4 : Int32) (v5 : Int32) (v6 : Int32) (σ : am_H) (s : Int32 × am_H) {o : am_H} (hf : am_loop (fun s => f_X12_shareFrom_84 rc v1 v2 v3 v4 v5 v6 s.1 s.2) s = some o) (hk1 : ∀ t, o = t → am_G X (gm_X12_shareFrom (n + 1)) Q 227 [] [] t) : am_G X (gm_X12_shareFrom (n + 1)) Q 84 [(0, .ref (am_ad X 12 0)), (1, .int v1), (2, .int v2), (3, .int v3), (4, .int v4), (5, .int v5), (6, .int v6), (7, .int s.1)] [] s.2 := by
  refine am_loop_ind (P := fun s => am_G X (gm_X12_shareFrom (n + 1)) Q 84 [(0, .ref (am_ad X 12 0)), (1, .int v1), (2, .int v2), (3, .int v3), (4, .int v4), (5, .int v5), (6, .int v6), (7, .int s.1)] [] s.2) (K := fun r => r = o) ?_ hf rfl
  intro s o1 hb hi hr
  exact q_X12_shareFrom_84 hX n rc hrc v1 v2 v3 v4 v5 v6 s.1  s.2 hb hi (fun t e => hk1 t (hr _ e).symm)
noncomputable def f_X12_shareFrom_0 (rc : Int32 → Int32 → Int32 → Int32 → Int32 → am_H → Option (am_H)) (v1 : Int32) (v2 : Int32) (v3 : Int32) (v4 : Int32) (v5 : Int32) (σ : am_H) : Option (am_H) :=
  if v2 = 0 then
   ((f_X12_teethOf v1 v3 σ).bind fun p2 =>
   if (σ.1 12 0 78) < 0 then
    (f_X12_shareFrom_29 rc v1 v3 p2 σ)
   else
   if p2 < (σ.1 12 0 78) then
    (f_X12_shareFrom_29 rc v1 v3 p2 σ)
   else
   some σ)
  else
  (f_J6_numberOfTrailingZeros_0f7a4 v2 σ).bind fun p5 =>
  (am_loop (fun s => f_X12_shareFrom_84 rc v1 v2 v3 v4 v5 p5 s.1 s.2) (0, σ)).bind fun w6 =>
  some w6
set_option maxRecDepth 100000 in
set_option maxHeartbeats 4000000 in
theorem q_X12_shareFrom_0 {X : am_X} (hX : am_ks X = am_ksM) {Q : Option Value → am_H → Prop} (n : Nat) (rc : Int32 → Int32 → Int32 → Int32 → Int32 → am_H → Option (am_H)) (hrc : ∀ (v1 : Int32) (v2 : Int32) (v3 : Int32) (v4 : Int32) (v5 : Int32) (σ : am_H) (o : am_H), rc v1 v2 v3 v4 v5 σ = some o → am_C X (gm_X12_shareFrom n) [.ref (am_ad X 12 0), .int v1, .int v2, .int v3, .int v4, .int v5] σ (am_is none o)) (v1 : Int32) (v2 : Int32) (v3 : Int32) (v4 : Int32) (v5 : Int32) (σ : am_H) {o : am_H} (hf : f_X12_shareFrom_0 rc v1 v2 v3 v4 v5 σ = some o) (hk : Q none o) : am_G X (gm_X12_shareFrom (n + 1)) Q 0 [(0, .ref (am_ad X 12 0)), (1, .int v1), (2, .int v2), (3, .int v3), (4, .int v4), (5, .int v5)] [] σ := by
  unfold f_X12_shareFrom_0 at hf
  refine g_iload_n (pc := 0) 2 rfl dX12_shareFrom_0 rfl ?_
  refine bz_ne (pc := 1) 75 dX12_shareFrom_1 rfl (fun c1 => ?_) (fun c1 => ?_)
  · replace hf := am_ifT c1 hf
    refine g_aload_n (pc := 4) 0 rfl dX12_shareFrom_4 rfl ?_
    refine g_iload_n (pc := 5) 1 rfl dX12_shareFrom_5 rfl ?_
    refine g_iload_n (pc := 6) 3 rfl dX12_shareFrom_6 rfl ?_
    obtain ⟨p2, hp2, hf⟩ := am_bd hf
    refine g_cV (pc := 7) (As := [.int v1, .int v3]) (st := []) (st1 := [.int p2]) (in_12 hX (by omega)) kk_12 mV_X12_teethOf ln_X12_363 rfl (by first | exact Nat.le_of_ble_eq_true rfl | (show _ + 1 ≤ _; simp only []; omega)) (Nat.le_of_ble_eq_true rfl) (k_X12_teethOf hX v1 v3 σ hp2) dX12_shareFrom_7 rfl rfl ?_
    refine g_istore (pc := 10) [(6, .int p2), (0, .ref (am_ad X 12 0)), (1, .int v1), (2, .int v2), (3, .int v3), (4, .int v4), (5, .int v5)] dX12_shareFrom_10 (Nat.le_of_ble_eq_true rfl) rfl ?_
    refine g_aload_n (pc := 12) 1 rfl dX12_shareFrom_12 rfl ?_
    refine g_getI (pc := 13) (in_12 hX (by omega)) fr_X12_372 dX12_shareFrom_13 ?_
    refine bz_lt (pc := 16) 29 dX12_shareFrom_16 rfl (fun c3 => ?_) (fun c3 => ?_)
    · replace hf := am_ifT c3 hf
      exact am_sub [1, 2, 4, 0] rfl (q_X12_shareFrom_29 hX n rc hrc v1 v3 p2 σ hf hk)
    replace hf := am_ifF c3 hf
    refine g_iload (pc := 19) 0 rfl dX12_shareFrom_19 ?_
    refine g_aload_n (pc := 21) 1 rfl dX12_shareFrom_21 rfl ?_
    refine g_getI (pc := 22) (in_12 hX (by omega)) fr_X12_372 dX12_shareFrom_22 ?_
    refine bi_lt (pc := 25) 29 dX12_shareFrom_25 rfl (fun c4 => ?_) (fun c4 => ?_)
    · replace hf := am_ifT c4 hf
      exact am_sub [1, 2, 4, 0] rfl (q_X12_shareFrom_29 hX n rc hrc v1 v3 p2 σ hf hk)
    replace hf := am_ifF c4 hf
    have ho := Option.some.inj hf
    subst ho
    exact g_vreturn (pc := 28) (st := []) rfl dX12_shareFrom_28 hk
  replace hf := am_ifF c1 hf
  refine g_iload_n (pc := 75) 2 rfl dX12_shareFrom_75 rfl ?_
  obtain ⟨p5, hp5, hf⟩ := am_bd hf
  refine g_cS (pc := 76) (As := [.int v2]) (st := []) (st1 := [.int p5]) mS_J6_numberOfTrailingZeros_0f7a4 ln_X12_378 rfl (by first | exact Nat.le_of_ble_eq_true rfl | (show _ + 1 ≤ _; simp only []; omega)) (Nat.le_of_ble_eq_true rfl) (k_J6_numberOfTrailingZeros_0f7a4 v2 σ hp5) dX12_shareFrom_76 rfl rfl ?_
  refine g_istore (pc := 79) [(6, .int p5), (0, .ref (am_ad X 12 0)), (1, .int v1), (2, .int v2), (3, .int v3), (4, .int v4), (5, .int v5)] dX12_shareFrom_79 (Nat.le_of_ble_eq_true rfl) rfl ?_
  refine g_iconst (pc := 81) (v := 0) dX12_shareFrom_81 (by decide) ?_
  refine g_istore (pc := 82) [(7, .int 0), (6, .int p5), (0, .ref (am_ad X 12 0)), (1, .int v1), (2, .int v2), (3, .int v3), (4, .int v4), (5, .int v5)] dX12_shareFrom_82 (Nat.le_of_ble_eq_true rfl) rfl ?_
  obtain ⟨w6, hw6, hf⟩ := am_bd hf
  refine am_sub [2, 3, 4, 5, 6, 7, 1, 0] rfl (l_X12_shareFrom_84 hX n rc hrc v1 v2 v3 v4 v5 p5  σ (0, σ) hw6 ?_)
  intro t e
  subst e
  have ho := Option.some.inj hf
  subst ho
  exact g_vreturn (pc := 227) (st := []) rfl dX12_shareFrom_227 hk
noncomputable def f_X12_shareFrom : Nat → Int32 → Int32 → Int32 → Int32 → Int32 → am_H → Option (am_H)
  | 0 => fun _ _ _ _ _ _ => none
  | n + 1 => fun v1 v2 v3 v4 v5 σ => f_X12_shareFrom_0 (f_X12_shareFrom n) v1 v2 v3 v4 v5 σ
theorem k_X12_shareFrom {X : am_X} (hX : am_ks X = am_ksM) (n : Nat) : ∀ (v1 : Int32) (v2 : Int32) (v3 : Int32) (v4 : Int32) (v5 : Int32) (σ : am_H) {o : am_H}, f_X12_shareFrom n v1 v2 v3 v4 v5 σ = some o → am_C X (gm_X12_shareFrom n) [.ref (am_ad X 12 0), .int v1, .int v2, .int v3, .int v4, .int v5] σ (am_is none o) := by
  induction n with
  | zero => intro v1 v2 v3 v4 v5 σ o hf; exact absurd hf (by simp [f_X12_shareFrom])
  | succ n ih =>
    intro v1 v2 v3 v4 v5 σ o hf
    exact am_ofG rfl (Nat.le_of_ble_eq_true rfl) rfl (q_X12_shareFrom_0 hX n (f_X12_shareFrom n) (fun v1 v2 v3 v4 v5 σ o h => ih v1 v2 v3 v4 v5 σ h) v1 v2 v3 v4 v5 σ hf ⟨rfl, rfl⟩)
