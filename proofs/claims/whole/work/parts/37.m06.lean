theorem dX12_led_0 : decode cX12_led 0 = .ok (.aload_n 0, 1) := by decide +kernel
theorem dX12_led_1 : decode cX12_led 1 = .ok (.iconst 0, 1) := by decide +kernel
theorem dX12_led_2 : decode cX12_led 2 = .ok (.putfield 122, 3) := by decide +kernel
theorem dX12_led_5 : decode cX12_led 5 = .ok (.aload_n 0, 1) := by decide +kernel
theorem dX12_led_6 : decode cX12_led 6 = .ok (.aload_n 0, 1) := by decide +kernel
theorem dX12_led_7 : decode cX12_led 7 = .ok (.iload_n 1, 1) := by decide +kernel
theorem dX12_led_8 : decode cX12_led 8 = .ok (.iload_n 2, 1) := by decide +kernel
theorem dX12_led_9 : decode cX12_led 9 = .ok (.iload_n 3, 1) := by decide +kernel
theorem dX12_led_10 : decode cX12_led 10 = .ok (.iload 4, 2) := by decide +kernel
theorem dX12_led_12 : decode cX12_led 12 = .ok (.iconst 1, 1) := by decide +kernel
theorem dX12_led_13 : decode cX12_led 13 = .ok (.invokevirtual 428, 3) := by decide +kernel
theorem dX12_led_16 : decode cX12_led 16 = .ok (.putfield 125, 3) := by decide +kernel
theorem dX12_led_19 : decode cX12_led 19 = .ok (.aload_n 0, 1) := by decide +kernel
theorem dX12_led_20 : decode cX12_led 20 = .ok (.getfield 125, 3) := by decide +kernel
theorem dX12_led_23 : decode cX12_led 23 = .ok (.ifCond .le 5, 3) := by decide +kernel
theorem dX12_led_26 : decode cX12_led 26 = .ok (.iconst (-1), 1) := by decide +kernel
theorem dX12_led_27 : decode cX12_led 27 = .ok (.ireturn, 1) := by decide +kernel
theorem dX12_led_28 : decode cX12_led 28 = .ok (.aload_n 0, 1) := by decide +kernel
theorem dX12_led_29 : decode cX12_led 29 = .ok (.iload_n 1, 1) := by decide +kernel
theorem dX12_led_30 : decode cX12_led 30 = .ok (.iload_n 2, 1) := by decide +kernel
theorem dX12_led_31 : decode cX12_led 31 = .ok (.iload_n 3, 1) := by decide +kernel
theorem dX12_led_32 : decode cX12_led 32 = .ok (.iload 4, 2) := by decide +kernel
theorem dX12_led_34 : decode cX12_led 34 = .ok (.invokevirtual 461, 3) := by decide +kernel
theorem dX12_led_37 : decode cX12_led 37 = .ok (.lstore 5, 2) := by decide +kernel
theorem dX12_led_39 : decode cX12_led 39 = .ok (.aload_n 0, 1) := by decide +kernel
theorem dX12_led_40 : decode cX12_led 40 = .ok (.iconst (-1), 1) := by decide +kernel
theorem dX12_led_41 : decode cX12_led 41 = .ok (.putfield 59, 3) := by decide +kernel
theorem dX12_led_44 : decode cX12_led 44 = .ok (.iconst 0, 1) := by decide +kernel
theorem dX12_led_45 : decode cX12_led 45 = .ok (.istore 7, 2) := by decide +kernel
theorem dX12_led_47 : decode cX12_led 47 = .ok (.iload 7, 2) := by decide +kernel
theorem dX12_led_49 : decode cX12_led 49 = .ok (.aload_n 0, 1) := by decide +kernel
theorem dX12_led_50 : decode cX12_led 50 = .ok (.getfield 35, 3) := by decide +kernel
theorem dX12_led_53 : decode cX12_led 53 = .ok (.iload_n 1, 1) := by decide +kernel
theorem dX12_led_54 : decode cX12_led 54 = .ok (.iaload, 1) := by decide +kernel
theorem dX12_led_55 : decode cX12_led 55 = .ok (.if_icmp .ge 142, 3) := by decide +kernel
theorem dX12_led_58 : decode cX12_led 58 = .ok (.iconst 0, 1) := by decide +kernel
theorem dX12_led_59 : decode cX12_led 59 = .ok (.istore 8, 2) := by decide +kernel
theorem dX12_led_61 : decode cX12_led 61 = .ok (.iload 8, 2) := by decide +kernel
theorem dX12_led_63 : decode cX12_led 63 = .ok (.iconst 2, 1) := by decide +kernel
theorem dX12_led_64 : decode cX12_led 64 = .ok (.aload_n 0, 1) := by decide +kernel
theorem dX12_led_65 : decode cX12_led 65 = .ok (.iload_n 1, 1) := by decide +kernel
theorem dX12_led_66 : decode cX12_led 66 = .ok (.iload 7, 2) := by decide +kernel
theorem dX12_led_68 : decode cX12_led 68 = .ok (.iconst 4, 1) := by decide +kernel
theorem dX12_led_69 : decode cX12_led 69 = .ok (.invokevirtual 297, 3) := by decide +kernel
theorem dX12_led_72 : decode cX12_led 72 = .ok (.imul, 1) := by decide +kernel
theorem dX12_led_73 : decode cX12_led 73 = .ok (.if_icmp .ge 118, 3) := by decide +kernel
theorem dX12_led_76 : decode cX12_led 76 = .ok (.iconst 1, 1) := by decide +kernel
theorem dX12_led_77 : decode cX12_led 77 = .ok (.istore 9, 2) := by decide +kernel
theorem dX12_led_79 : decode cX12_led 79 = .ok (.iload 9, 2) := by decide +kernel
theorem dX12_led_81 : decode cX12_led 81 = .ok (.iconst (-1), 1) := by decide +kernel
theorem dX12_led_82 : decode cX12_led 82 = .ok (.if_icmp .lt 103, 3) := by decide +kernel
theorem dX12_led_85 : decode cX12_led 85 = .ok (.aload_n 0, 1) := by decide +kernel
theorem dX12_led_86 : decode cX12_led 86 = .ok (.getfield 47, 3) := by decide +kernel
theorem dX12_led_89 : decode cX12_led 89 = .ok (.aload_n 0, 1) := by decide +kernel
theorem dX12_led_90 : decode cX12_led 90 = .ok (.iload_n 1, 1) := by decide +kernel
theorem dX12_led_91 : decode cX12_led 91 = .ok (.iload 7, 2) := by decide +kernel
theorem dX12_led_93 : decode cX12_led 93 = .ok (.iconst 5, 1) := by decide +kernel
theorem dX12_led_94 : decode cX12_led 94 = .ok (.iload 8, 2) := by decide +kernel
theorem dX12_led_96 : decode cX12_led 96 = .ok (.iadd, 1) := by decide +kernel
theorem dX12_led_97 : decode cX12_led 97 = .ok (.invokevirtual 252, 3) := by decide +kernel
theorem dX12_led_100 : decode cX12_led 100 = .ok (.dup2, 1) := by decide +kernel
theorem dX12_led_101 : decode cX12_led 101 = .ok (.iaload, 1) := by decide +kernel
theorem dX12_led_102 : decode cX12_led 102 = .ok (.iload 9, 2) := by decide +kernel
theorem dX12_led_104 : decode cX12_led 104 = .ok (.iadd, 1) := by decide +kernel
theorem dX12_led_105 : decode cX12_led 105 = .ok (.iastore, 1) := by decide +kernel
theorem dX12_led_106 : decode cX12_led 106 = .ok (.aload_n 0, 1) := by decide +kernel
theorem dX12_led_107 : decode cX12_led 107 = .ok (.iload_n 1, 1) := by decide +kernel
theorem dX12_led_108 : decode cX12_led 108 = .ok (.iload_n 2, 1) := by decide +kernel
theorem dX12_led_109 : decode cX12_led 109 = .ok (.iload_n 3, 1) := by decide +kernel
theorem dX12_led_110 : decode cX12_led 110 = .ok (.iload 4, 2) := by decide +kernel
theorem dX12_led_112 : decode cX12_led 112 = .ok (.invokevirtual 461, 3) := by decide +kernel
theorem dX12_led_115 : decode cX12_led 115 = .ok (.lstore 10, 2) := by decide +kernel
theorem dX12_led_117 : decode cX12_led 117 = .ok (.aload_n 0, 1) := by decide +kernel
theorem dX12_led_118 : decode cX12_led 118 = .ok (.getfield 47, 3) := by decide +kernel
theorem dX12_led_121 : decode cX12_led 121 = .ok (.aload_n 0, 1) := by decide +kernel
theorem dX12_led_122 : decode cX12_led 122 = .ok (.iload_n 1, 1) := by decide +kernel
theorem dX12_led_123 : decode cX12_led 123 = .ok (.iload 7, 2) := by decide +kernel
theorem dX12_led_125 : decode cX12_led 125 = .ok (.iconst 5, 1) := by decide +kernel
theorem dX12_led_126 : decode cX12_led 126 = .ok (.iload 8, 2) := by decide +kernel
theorem dX12_led_128 : decode cX12_led 128 = .ok (.iadd, 1) := by decide +kernel
theorem dX12_led_129 : decode cX12_led 129 = .ok (.invokevirtual 252, 3) := by decide +kernel
theorem dX12_led_132 : decode cX12_led 132 = .ok (.dup2, 1) := by decide +kernel
theorem dX12_led_133 : decode cX12_led 133 = .ok (.iaload, 1) := by decide +kernel
theorem dX12_led_134 : decode cX12_led 134 = .ok (.iload 9, 2) := by decide +kernel
theorem dX12_led_136 : decode cX12_led 136 = .ok (.isub, 1) := by decide +kernel
theorem dX12_led_137 : decode cX12_led 137 = .ok (.iastore, 1) := by decide +kernel
theorem dX12_led_138 : decode cX12_led 138 = .ok (.lload 10, 2) := by decide +kernel
theorem dX12_led_140 : decode cX12_led 140 = .ok (.lload 5, 2) := by decide +kernel
theorem dX12_led_142 : decode cX12_led 142 = .ok (.lcmp, 1) := by decide +kernel
theorem dX12_led_143 : decode cX12_led 143 = .ok (.ifCond .lt 6, 3) := by decide +kernel
theorem dX12_led_146 : decode cX12_led 146 = .ok (.goto 33, 3) := by decide +kernel
theorem dX12_led_149 : decode cX12_led 149 = .ok (.lload 10, 2) := by decide +kernel
theorem dX12_led_151 : decode cX12_led 151 = .ok (.lstore 5, 2) := by decide +kernel
theorem dX12_led_153 : decode cX12_led 153 = .ok (.aload_n 0, 1) := by decide +kernel
theorem dX12_led_154 : decode cX12_led 154 = .ok (.iload 7, 2) := by decide +kernel
theorem dX12_led_156 : decode cX12_led 156 = .ok (.putfield 59, 3) := by decide +kernel
theorem dX12_led_159 : decode cX12_led 159 = .ok (.aload_n 0, 1) := by decide +kernel
theorem dX12_led_160 : decode cX12_led 160 = .ok (.iload 8, 2) := by decide +kernel
theorem dX12_led_162 : decode cX12_led 162 = .ok (.putfield 465, 3) := by decide +kernel
theorem dX12_led_165 : decode cX12_led 165 = .ok (.aload_n 0, 1) := by decide +kernel
theorem dX12_led_166 : decode cX12_led 166 = .ok (.iload 9, 2) := by decide +kernel
theorem dX12_led_168 : decode cX12_led 168 = .ok (.ifCond .le 7, 3) := by decide +kernel
theorem dX12_led_171 : decode cX12_led 171 = .ok (.iconst 1, 1) := by decide +kernel
theorem dX12_led_172 : decode cX12_led 172 = .ok (.goto 4, 3) := by decide +kernel
theorem dX12_led_175 : decode cX12_led 175 = .ok (.iconst 0, 1) := by decide +kernel
theorem dX12_led_176 : decode cX12_led 176 = .ok (.putfield 468, 3) := by decide +kernel
theorem dX12_led_179 : decode cX12_led 179 = .ok (.iinc 9 (-2), 3) := by decide +kernel
theorem dX12_led_182 : decode cX12_led 182 = .ok (.goto (-103), 3) := by decide +kernel
theorem dX12_led_185 : decode cX12_led 185 = .ok (.iinc 8 1, 3) := by decide +kernel
theorem dX12_led_188 : decode cX12_led 188 = .ok (.goto (-127), 3) := by decide +kernel
theorem dX12_led_191 : decode cX12_led 191 = .ok (.iinc 7 1, 3) := by decide +kernel
theorem dX12_led_194 : decode cX12_led 194 = .ok (.goto (-147), 3) := by decide +kernel
theorem dX12_led_197 : decode cX12_led 197 = .ok (.aload_n 0, 1) := by decide +kernel
theorem dX12_led_198 : decode cX12_led 198 = .ok (.iconst 1, 1) := by decide +kernel
theorem dX12_led_199 : decode cX12_led 199 = .ok (.putfield 471, 3) := by decide +kernel
theorem dX12_led_202 : decode cX12_led 202 = .ok (.aload_n 0, 1) := by decide +kernel
theorem dX12_led_203 : decode cX12_led 203 = .ok (.getfield 59, 3) := by decide +kernel
theorem dX12_led_206 : decode cX12_led 206 = .ok (.ireturn, 1) := by decide +kernel
noncomputable def f_X12_led_176 (v1 : Int32) (v2 : Int32) (v3 : Int32) (v4 : Int32) (v5 : Int64) (v7 : Int32) (v8 : Int32) (v9 : Int32) (k1 : Bool) (σ : am_H) : Option ((Int64 × Int32 × am_H) ⊕ (Int64 × am_H)) :=
  (some (am_wI σ 12 0 36 (am_b k1))).bind fun s1 =>
  some (.inl (v5, (v9 + (-2)), s1))
set_option maxRecDepth 100000 in
set_option maxHeartbeats 4000000 in
theorem q_X12_led_176 {X : am_X} (hX : am_ks X = am_ksM) {Q : Option Value → am_H → Prop} (v1 : Int32) (v2 : Int32) (v3 : Int32) (v4 : Int32) (v5 : Int64) (v7 : Int32) (v8 : Int32) (v9 : Int32) (k1 : Bool) (σ : am_H) {o : (Int64 × Int32 × am_H) ⊕ (Int64 × am_H)} (hf : f_X12_led_176 v1 v2 v3 v4 v5 v7 v8 v9 k1 σ = some o) (hk0 : ∀ s, o = .inl s → am_G X gm_X12_led Q 79 [(0, .ref (am_ad X 12 0)), (1, .int v1), (2, .int v2), (3, .int v3), (4, .int v4), (5, .long s.1), (7, .int v7), (8, .int v8), (9, .int s.2.1)] [] s.2.2) (hk1 : ∀ t, o = .inr t → am_G X gm_X12_led Q 185 [(0, .ref (am_ad X 12 0)), (1, .int v1), (2, .int v2), (3, .int v3), (4, .int v4), (5, .long t.1), (7, .int v7), (8, .int v8)] [] t.2) : am_G X gm_X12_led Q 176 [(0, .ref (am_ad X 12 0)), (1, .int v1), (2, .int v2), (3, .int v3), (4, .int v4), (5, .long v5), (7, .int v7), (8, .int v8), (9, .int v9)] [.int (am_b k1), .ref (am_ad X 12 0)] σ := by
  unfold f_X12_led_176 at hf
  obtain ⟨s1, hs1, hf⟩ := am_bd hf
  refine g_setI (pc := 176) (in_12 hX (by omega)) fr_X12_468 dX12_led_176 (Option.some.inj hs1) ?_
  refine g_iinc (pc := 179) (v := (v9 + (-2))) 8 [(9, .int (v9 + (-2))), (0, .ref (am_ad X 12 0)), (1, .int v1), (2, .int v2), (3, .int v3), (4, .int v4), (5, .long v5), (7, .int v7), (8, .int v8)] dX12_led_179 rfl rfl (Nat.le_of_ble_eq_true rfl) rfl ?_
  refine g_goto (pc := 182) 79 dX12_led_182 rfl ?_
  have hz := hk0 _ (Option.some.inj hf).symm
  exact am_sub [1, 2, 3, 4, 5, 6, 7, 8, 0] rfl hz
noncomputable def f_X12_led_79 (v1 : Int32) (v2 : Int32) (v3 : Int32) (v4 : Int32) (v5 : Int64) (v7 : Int32) (v8 : Int32) (v9 : Int32) (σ : am_H) : Option ((Int64 × Int32 × am_H) ⊕ (Int64 × am_H)) :=
  if v9 < (-1) then
   (some (.inr (v5, σ)))
  else
  (f_X12_cell v1 v7 (5 + v8) σ).bind fun p2 =>
  (am_ix 162 p2).bind fun j3 =>
  (am_ix 162 p2).bind fun j4 =>
  (some (am_wI σ 1324 0 j4 ((σ.1 1324 0 j3) + v9))).bind fun s5 =>
  (f_X12_differsTurned v1 v2 v3 v4 s5).bind fun p6 =>
  (f_X12_cell v1 v7 (5 + v8) s5).bind fun p7 =>
  (am_ix 162 p7).bind fun j8 =>
  (am_ix 162 p7).bind fun j9 =>
  (some (am_wI s5 1324 0 j9 ((s5.1 1324 0 j8) - v9))).bind fun s10 =>
  if p6 < v5 then
   ((some (am_wI s10 12 0 42 v7)).bind fun s12 =>
   (some (am_wI s12 12 0 35 v8)).bind fun s13 =>
   if 0 < v9 then
    (f_X12_led_176 v1 v2 v3 v4 p6 v7 v8 v9 true s13)
   else
   f_X12_led_176 v1 v2 v3 v4 p6 v7 v8 v9 false s13)
  else
  some (.inl (v5, (v9 + (-2)), s10))
set_option maxRecDepth 100000 in
set_option maxHeartbeats 4000000 in
theorem q_X12_led_79 {X : am_X} (hX : am_ks X = am_ksM) {Q : Option Value → am_H → Prop} (v1 : Int32) (v2 : Int32) (v3 : Int32) (v4 : Int32) (v5 : Int64) (v7 : Int32) (v8 : Int32) (v9 : Int32) (σ : am_H) {o : (Int64 × Int32 × am_H) ⊕ (Int64 × am_H)} (hf : f_X12_led_79 v1 v2 v3 v4 v5 v7 v8 v9 σ = some o) (hk0 : ∀ s, o = .inl s → am_G X gm_X12_led Q 79 [(0, .ref (am_ad X 12 0)), (1, .int v1), (2, .int v2), (3, .int v3), (4, .int v4), (5, .long s.1), (7, .int v7), (8, .int v8), (9, .int s.2.1)] [] s.2.2) (hk1 : ∀ t, o = .inr t → am_G X gm_X12_led Q 185 [(0, .ref (am_ad X 12 0)), (1, .int v1), (2, .int v2), (3, .int v3), (4, .int v4), (5, .long t.1), (7, .int v7), (8, .int v8)] [] t.2) : am_G X gm_X12_led Q 79 [(0, .ref (am_ad X 12 0)), (1, .int v1), (2, .int v2), (3, .int v3), (4, .int v4), (5, .long v5), (7, .int v7), (8, .int v8), (9, .int v9)] [] σ := by
  unfold f_X12_led_79 at hf
  refine g_iload (pc := 79) 8 rfl dX12_led_79 ?_
  refine g_iconst (pc := 81) (v := (-1)) dX12_led_81 (by decide) ?_
  refine bi_lt (pc := 82) 185 dX12_led_82 rfl (fun c1 => ?_) (fun c1 => ?_)
  · replace hf := am_ifT c1 hf
    have hz := hk1 _ (Option.some.inj hf).symm
    exact am_sub [0, 1, 2, 3, 4, 5, 6, 7] rfl hz
  replace hf := am_ifF c1 hf
  refine g_aload_n (pc := 85) 0 rfl dX12_led_85 rfl ?_
  refine g_getC (pc := 86) (e := 0) (in_12 hX (by omega)) fr_X12_47 dX12_led_86 rfl ?_
  refine g_aload_n (pc := 89) 0 rfl dX12_led_89 rfl ?_
  refine g_iload_n (pc := 90) 1 rfl dX12_led_90 rfl ?_
  refine g_iload (pc := 91) 6 rfl dX12_led_91 ?_
  refine g_iconst (pc := 93) (v := 5) dX12_led_93 (by decide) ?_
  refine g_iload (pc := 94) 7 rfl dX12_led_94 ?_
  refine g_iadd (pc := 96) dX12_led_96 ?_
  obtain ⟨p2, hp2, hf⟩ := am_bd hf
  refine g_cV (pc := 97) (As := [.int v1, .int v7, .int (5 + v8)]) (st := [.ref (am_ad X 1324 0)]) (st1 := [.int p2, .ref (am_ad X 1324 0)]) (in_12 hX (by omega)) kk_12 mV_X12_cell ln_X12_252 rfl (Nat.le_of_ble_eq_true rfl) (Nat.le_of_ble_eq_true rfl) (k_X12_cell hX v1 v7 (5 + v8) σ hp2) dX12_led_97 rfl rfl ?_
  refine g_dup2_11 (pc := 100) dX12_led_100 rfl rfl ?_
  obtain ⟨j3, hj3, hf⟩ := am_bd hf
  have gj3 := am_ix_lt hj3
  refine g_aI (pc := 101) (in_1324 hX (by omega)) ak_1324 hj3 dX12_led_101 ?_
  refine g_iload (pc := 102) 8 rfl dX12_led_102 ?_
  refine g_iadd (pc := 104) dX12_led_104 ?_
  obtain ⟨j4, hj4, hf⟩ := am_bd hf
  have gj4 := am_ix_lt hj4
  obtain ⟨s5, hs5, hf⟩ := am_bd hf
  refine g_sI (pc := 105) (in_1324 hX (by omega)) ak_1324 hj4 dX12_led_105 (Option.some.inj hs5) ?_
  refine g_aload_n (pc := 106) 0 rfl dX12_led_106 rfl ?_
  refine g_iload_n (pc := 107) 1 rfl dX12_led_107 rfl ?_
  refine g_iload_n (pc := 108) 2 rfl dX12_led_108 rfl ?_
  refine g_iload_n (pc := 109) 3 rfl dX12_led_109 rfl ?_
  refine g_iload (pc := 110) 4 rfl dX12_led_110 ?_
  obtain ⟨p6, hp6, hf⟩ := am_bd hf
  refine g_cV (pc := 112) (As := [.int v1, .int v2, .int v3, .int v4]) (st := []) (st1 := [.long p6]) (in_12 hX (by omega)) kk_12 mV_X12_differsTurned ln_X12_461 rfl (Nat.le_of_ble_eq_true rfl) (Nat.le_of_ble_eq_true rfl) (k_X12_differsTurned hX v1 v2 v3 v4 s5 hp6) dX12_led_112 rfl rfl ?_
  refine g_lstore (pc := 115) [(10, .long p6), (0, .ref (am_ad X 12 0)), (1, .int v1), (2, .int v2), (3, .int v3), (4, .int v4), (5, .long v5), (7, .int v7), (8, .int v8), (9, .int v9)] dX12_led_115 (Nat.le_of_ble_eq_true rfl) rfl ?_
  refine g_aload_n (pc := 117) 1 rfl dX12_led_117 rfl ?_
  refine g_getC (pc := 118) (e := 0) (in_12 hX (by omega)) fr_X12_47 dX12_led_118 rfl ?_
  refine g_aload_n (pc := 121) 1 rfl dX12_led_121 rfl ?_
  refine g_iload_n (pc := 122) 2 rfl dX12_led_122 rfl ?_
  refine g_iload (pc := 123) 7 rfl dX12_led_123 ?_
  refine g_iconst (pc := 125) (v := 5) dX12_led_125 (by decide) ?_
  refine g_iload (pc := 126) 8 rfl dX12_led_126 ?_
  refine g_iadd (pc := 128) dX12_led_128 ?_
  obtain ⟨p7, hp7, hf⟩ := am_bd hf
  refine g_cV (pc := 129) (As := [.int v1, .int v7, .int (5 + v8)]) (st := [.ref (am_ad X 1324 0)]) (st1 := [.int p7, .ref (am_ad X 1324 0)]) (in_12 hX (by omega)) kk_12 mV_X12_cell ln_X12_252 rfl (Nat.le_of_ble_eq_true rfl) (Nat.le_of_ble_eq_true rfl) (k_X12_cell hX v1 v7 (5 + v8) s5 hp7) dX12_led_129 rfl rfl ?_
  refine g_dup2_11 (pc := 132) dX12_led_132 rfl rfl ?_
  obtain ⟨j8, hj8, hf⟩ := am_bd hf
  have gj8 := am_ix_lt hj8
  refine g_aI (pc := 133) (in_1324 hX (by omega)) ak_1324 hj8 dX12_led_133 ?_
  refine g_iload (pc := 134) 9 rfl dX12_led_134 ?_
  refine g_isub (pc := 136) dX12_led_136 ?_
  obtain ⟨j9, hj9, hf⟩ := am_bd hf
  have gj9 := am_ix_lt hj9
  obtain ⟨s10, hs10, hf⟩ := am_bd hf
  refine g_sI (pc := 137) (in_1324 hX (by omega)) ak_1324 hj9 dX12_led_137 (Option.some.inj hs10) ?_
  refine g_lload (pc := 138) 0 rfl dX12_led_138 ?_
  refine g_lload (pc := 140) 6 rfl dX12_led_140 ?_
  refine g_lcm (pc := 142) dX12_led_142 ?_
  refine bl_lt (pc := 143) 149 dX12_led_143 rfl (fun c11 => ?_) (fun c11 => ?_)
  · replace hf := am_ifT c11 hf
    refine g_lload (pc := 149) 0 rfl dX12_led_149 ?_
    refine g_lstore (pc := 151) [(5, .long p6), (10, .long p6), (0, .ref (am_ad X 12 0)), (1, .int v1), (2, .int v2), (3, .int v3), (4, .int v4), (7, .int v7), (8, .int v8), (9, .int v9)] dX12_led_151 (Nat.le_of_ble_eq_true rfl) rfl ?_
    refine g_aload_n (pc := 153) 2 rfl dX12_led_153 rfl ?_
    refine g_iload (pc := 154) 7 rfl dX12_led_154 ?_
    obtain ⟨s12, hs12, hf⟩ := am_bd hf
    refine g_setI (pc := 156) (in_12 hX (by omega)) fr_X12_59 dX12_led_156 (Option.some.inj hs12) ?_
    refine g_aload_n (pc := 159) 2 rfl dX12_led_159 rfl ?_
    refine g_iload (pc := 160) 8 rfl dX12_led_160 ?_
    obtain ⟨s13, hs13, hf⟩ := am_bd hf
    refine g_setI (pc := 162) (in_12 hX (by omega)) fr_X12_465 dX12_led_162 (Option.some.inj hs13) ?_
    refine g_aload_n (pc := 165) 2 rfl dX12_led_165 rfl ?_
    refine g_iload (pc := 166) 9 rfl dX12_led_166 ?_
    refine bz_le (pc := 168) 175 dX12_led_168 rfl (fun c14 => ?_) (fun c14 => ?_)
    · replace hf := am_ifT c14 hf
      refine g_iconst (pc := 171) (v := 1) dX12_led_171 (by decide) ?_
      refine g_goto (pc := 172) 176 dX12_led_172 rfl ?_
      exact am_sub [2, 3, 4, 5, 6, 0, 7, 8, 9] rfl (q_X12_led_176 hX v1 v2 v3 v4 p6 v7 v8 v9 true s13 hf hk0 hk1)
    replace hf := am_ifF c14 hf
    refine g_iconst (pc := 175) (v := 0) dX12_led_175 (by decide) ?_
    exact am_sub [2, 3, 4, 5, 6, 0, 7, 8, 9] rfl (q_X12_led_176 hX v1 v2 v3 v4 p6 v7 v8 v9 false s13 hf hk0 hk1)
  replace hf := am_ifF c11 hf
  refine g_goto (pc := 146) 179 dX12_led_146 rfl ?_
  refine g_iinc (pc := 179) (v := (v9 + (-2))) 9 [(9, .int (v9 + (-2))), (10, .long p6), (0, .ref (am_ad X 12 0)), (1, .int v1), (2, .int v2), (3, .int v3), (4, .int v4), (5, .long v5), (7, .int v7), (8, .int v8)] dX12_led_179 rfl rfl (Nat.le_of_ble_eq_true rfl) rfl ?_
  refine g_goto (pc := 182) 79 dX12_led_182 rfl ?_
  have hz := hk0 _ (Option.some.inj hf).symm
  exact am_sub [2, 3, 4, 5, 6, 7, 8, 9, 0] rfl hz
set_option maxRecDepth 100000 in
set_option maxHeartbeats 4000000 in
theorem l_X12_led_79 {X : am_X} (hX : am_ks X = am_ksM) {Q : Option Value → am_H → Prop} (v1 : Int32) (v2 : Int32) (v3 : Int32) (v4 : Int32) (v7 : Int32) (v8 : Int32) (σ : am_H) (s : Int64 × Int32 × am_H) {o : Int64 × am_H} (hf : am_loop (fun s => f_X12_led_79 v1 v2 v3 v4 s.1 v7 v8 s.2.1 s.2.2) s = some o) (hk1 : ∀ t, o = t → am_G X gm_X12_led Q 185 [(0, .ref (am_ad X 12 0)), (1, .int v1), (2, .int v2), (3, .int v3), (4, .int v4), (5, .long t.1), (7, .int v7), (8, .int v8)] [] t.2) : am_G X gm_X12_led Q 79 [(0, .ref (am_ad X 12 0)), (1, .int v1), (2, .int v2), (3, .int v3), (4, .int v4), (5, .long s.1), (7, .int v7), (8, .int v8), (9, .int s.2.1)] [] s.2.2 := by
  refine am_loop_ind (P := fun s => am_G X gm_X12_led Q 79 [(0, .ref (am_ad X 12 0)), (1, .int v1), (2, .int v2), (3, .int v3), (4, .int v4), (5, .long s.1), (7, .int v7), (8, .int v8), (9, .int s.2.1)] [] s.2.2) (K := fun r => r = o) ?_ hf rfl
  intro s o1 hb hi hr
  exact q_X12_led_79 hX v1 v2 v3 v4 s.1 v7 v8 s.2.1  s.2.2 hb hi (fun t e => hk1 t (hr _ e).symm)
noncomputable def f_X12_led_61 (v1 : Int32) (v2 : Int32) (v3 : Int32) (v4 : Int32) (v5 : Int64) (v7 : Int32) (v8 : Int32) (σ : am_H) : Option ((Int64 × Int32 × am_H) ⊕ (Int64 × am_H)) :=
  (f_X12_of v1 v7 4 σ).bind fun p1 =>
  if v8 < (2 * p1) then
   ((am_loop (fun s => f_X12_led_79 v1 v2 v3 v4 s.1 v7 v8 s.2.1 s.2.2) (v5, 1, σ)).bind fun w3 =>
   some (.inl (w3.1, (v8 + 1), w3.2)))
  else
  some (.inr (v5, σ))
set_option maxRecDepth 100000 in
set_option maxHeartbeats 4000000 in
theorem q_X12_led_61 {X : am_X} (hX : am_ks X = am_ksM) {Q : Option Value → am_H → Prop} (v1 : Int32) (v2 : Int32) (v3 : Int32) (v4 : Int32) (v5 : Int64) (v7 : Int32) (v8 : Int32) (σ : am_H) {o : (Int64 × Int32 × am_H) ⊕ (Int64 × am_H)} (hf : f_X12_led_61 v1 v2 v3 v4 v5 v7 v8 σ = some o) (hk0 : ∀ s, o = .inl s → am_G X gm_X12_led Q 61 [(0, .ref (am_ad X 12 0)), (1, .int v1), (2, .int v2), (3, .int v3), (4, .int v4), (5, .long s.1), (7, .int v7), (8, .int s.2.1)] [] s.2.2) (hk1 : ∀ t, o = .inr t → am_G X gm_X12_led Q 191 [(0, .ref (am_ad X 12 0)), (1, .int v1), (2, .int v2), (3, .int v3), (4, .int v4), (5, .long t.1), (7, .int v7)] [] t.2) : am_G X gm_X12_led Q 61 [(0, .ref (am_ad X 12 0)), (1, .int v1), (2, .int v2), (3, .int v3), (4, .int v4), (5, .long v5), (7, .int v7), (8, .int v8)] [] σ := by
  unfold f_X12_led_61 at hf
  refine g_iload (pc := 61) 7 rfl dX12_led_61 ?_
  refine g_iconst (pc := 63) (v := 2) dX12_led_63 (by decide) ?_
  refine g_aload_n (pc := 64) 0 rfl dX12_led_64 rfl ?_
  refine g_iload_n (pc := 65) 1 rfl dX12_led_65 rfl ?_
  refine g_iload (pc := 66) 6 rfl dX12_led_66 ?_
  refine g_iconst (pc := 68) (v := 4) dX12_led_68 (by decide) ?_
  obtain ⟨p1, hp1, hf⟩ := am_bd hf
  refine g_cV (pc := 69) (As := [.int v1, .int v7, .int 4]) (st := [.int 2, .int v8]) (st1 := [.int p1, .int 2, .int v8]) (in_12 hX (by omega)) kk_12 mV_X12_of ln_X12_297 rfl (Nat.le_of_ble_eq_true rfl) (Nat.le_of_ble_eq_true rfl) (k_X12_of hX v1 v7 4 σ hp1) dX12_led_69 rfl rfl ?_
  refine g_imul (pc := 72) dX12_led_72 ?_
  refine bi_ge (pc := 73) 191 dX12_led_73 rfl (fun c2 => ?_) (fun c2 => ?_)
  · replace hf := am_ifT c2 hf
    refine g_iconst (pc := 76) (v := 1) dX12_led_76 (by decide) ?_
    refine g_istore (pc := 77) [(9, .int 1), (0, .ref (am_ad X 12 0)), (1, .int v1), (2, .int v2), (3, .int v3), (4, .int v4), (5, .long v5), (7, .int v7), (8, .int v8)] dX12_led_77 (Nat.le_of_ble_eq_true rfl) rfl ?_
    obtain ⟨w3, hw3, hf⟩ := am_bd hf
    refine am_sub [1, 2, 3, 4, 5, 6, 7, 8, 0] rfl (l_X12_led_79 hX v1 v2 v3 v4 v7 v8  σ (v5, 1, σ) hw3 ?_)
    intro t e
    subst e
    refine g_iinc (pc := 185) (v := (v8 + 1)) 7 [(8, .int (v8 + 1)), (0, .ref (am_ad X 12 0)), (1, .int v1), (2, .int v2), (3, .int v3), (4, .int v4), (5, .long w3.1), (7, .int v7)] dX12_led_185 rfl rfl (Nat.le_of_ble_eq_true rfl) rfl ?_
    refine g_goto (pc := 188) 61 dX12_led_188 rfl ?_
    have hz := hk0 _ (Option.some.inj hf).symm
    exact am_sub [1, 2, 3, 4, 5, 6, 7, 0] rfl hz
  replace hf := am_ifF c2 hf
  have hz := hk1 _ (Option.some.inj hf).symm
  exact am_sub [0, 1, 2, 3, 4, 5, 6] rfl hz
set_option maxRecDepth 100000 in
set_option maxHeartbeats 4000000 in
theorem l_X12_led_61 {X : am_X} (hX : am_ks X = am_ksM) {Q : Option Value → am_H → Prop} (v1 : Int32) (v2 : Int32) (v3 : Int32) (v4 : Int32) (v7 : Int32) (σ : am_H) (s : Int64 × Int32 × am_H) {o : Int64 × am_H} (hf : am_loop (fun s => f_X12_led_61 v1 v2 v3 v4 s.1 v7 s.2.1 s.2.2) s = some o) (hk1 : ∀ t, o = t → am_G X gm_X12_led Q 191 [(0, .ref (am_ad X 12 0)), (1, .int v1), (2, .int v2), (3, .int v3), (4, .int v4), (5, .long t.1), (7, .int v7)] [] t.2) : am_G X gm_X12_led Q 61 [(0, .ref (am_ad X 12 0)), (1, .int v1), (2, .int v2), (3, .int v3), (4, .int v4), (5, .long s.1), (7, .int v7), (8, .int s.2.1)] [] s.2.2 := by
  refine am_loop_ind (P := fun s => am_G X gm_X12_led Q 61 [(0, .ref (am_ad X 12 0)), (1, .int v1), (2, .int v2), (3, .int v3), (4, .int v4), (5, .long s.1), (7, .int v7), (8, .int s.2.1)] [] s.2.2) (K := fun r => r = o) ?_ hf rfl
  intro s o1 hb hi hr
  exact q_X12_led_61 hX v1 v2 v3 v4 s.1 v7 s.2.1  s.2.2 hb hi (fun t e => hk1 t (hr _ e).symm)
noncomputable def f_X12_led_47 (v1 : Int32) (v2 : Int32) (v3 : Int32) (v4 : Int32) (v5 : Int64) (v7 : Int32) (σ : am_H) : Option ((Int64 × Int32 × am_H) ⊕ (am_H)) :=
  (am_ix 3 v1).bind fun j1 =>
  if v7 < (σ.1 1320 0 j1) then
   ((am_loop (fun s => f_X12_led_61 v1 v2 v3 v4 s.1 v7 s.2.1 s.2.2) (v5, 0, σ)).bind fun w3 =>
   some (.inl (w3.1, (v7 + 1), w3.2)))
  else
  some (.inr σ)
set_option maxRecDepth 100000 in
set_option maxHeartbeats 4000000 in
theorem q_X12_led_47 {X : am_X} (hX : am_ks X = am_ksM) {Q : Option Value → am_H → Prop} (v1 : Int32) (v2 : Int32) (v3 : Int32) (v4 : Int32) (v5 : Int64) (v7 : Int32) (σ : am_H) {o : (Int64 × Int32 × am_H) ⊕ (am_H)} (hf : f_X12_led_47 v1 v2 v3 v4 v5 v7 σ = some o) (hk0 : ∀ s, o = .inl s → am_G X gm_X12_led Q 47 [(0, .ref (am_ad X 12 0)), (1, .int v1), (2, .int v2), (3, .int v3), (4, .int v4), (5, .long s.1), (7, .int s.2.1)] [] s.2.2) (hk1 : ∀ t, o = .inr t → am_G X gm_X12_led Q 197 [(0, .ref (am_ad X 12 0))] [] t) : am_G X gm_X12_led Q 47 [(0, .ref (am_ad X 12 0)), (1, .int v1), (2, .int v2), (3, .int v3), (4, .int v4), (5, .long v5), (7, .int v7)] [] σ := by
  unfold f_X12_led_47 at hf
  refine g_iload (pc := 47) 6 rfl dX12_led_47 ?_
  refine g_aload_n (pc := 49) 0 rfl dX12_led_49 rfl ?_
  refine g_getC (pc := 50) (e := 0) (in_12 hX (by omega)) fr_X12_35 dX12_led_50 rfl ?_
  refine g_iload_n (pc := 53) 1 rfl dX12_led_53 rfl ?_
  obtain ⟨j1, hj1, hf⟩ := am_bd hf
  have gj1 := am_ix_lt hj1
  refine g_aI (pc := 54) (in_1320 hX (by omega)) ak_1320 hj1 dX12_led_54 ?_
  refine bi_ge (pc := 55) 197 dX12_led_55 rfl (fun c2 => ?_) (fun c2 => ?_)
  · replace hf := am_ifT c2 hf
    refine g_iconst (pc := 58) (v := 0) dX12_led_58 (by decide) ?_
    refine g_istore (pc := 59) [(8, .int 0), (0, .ref (am_ad X 12 0)), (1, .int v1), (2, .int v2), (3, .int v3), (4, .int v4), (5, .long v5), (7, .int v7)] dX12_led_59 (Nat.le_of_ble_eq_true rfl) rfl ?_
    obtain ⟨w3, hw3, hf⟩ := am_bd hf
    refine am_sub [1, 2, 3, 4, 5, 6, 7, 0] rfl (l_X12_led_61 hX v1 v2 v3 v4 v7  σ (v5, 0, σ) hw3 ?_)
    intro t e
    subst e
    refine g_iinc (pc := 191) (v := (v7 + 1)) 6 [(7, .int (v7 + 1)), (0, .ref (am_ad X 12 0)), (1, .int v1), (2, .int v2), (3, .int v3), (4, .int v4), (5, .long w3.1)] dX12_led_191 rfl rfl (Nat.le_of_ble_eq_true rfl) rfl ?_
    refine g_goto (pc := 194) 47 dX12_led_194 rfl ?_
    have hz := hk0 _ (Option.some.inj hf).symm
    exact am_sub [1, 2, 3, 4, 5, 6, 0] rfl hz
  replace hf := am_ifF c2 hf
  have hz := hk1 _ (Option.some.inj hf).symm
  exact am_sub [0] rfl hz
set_option maxRecDepth 100000 in
set_option maxHeartbeats 4000000 in
theorem l_X12_led_47 {X : am_X} (hX : am_ks X = am_ksM) {Q : Option Value → am_H → Prop} (v1 : Int32) (v2 : Int32) (v3 : Int32) (v4 : Int32) (σ : am_H) (s : Int64 × Int32 × am_H) {o : am_H} (hf : am_loop (fun s => f_X12_led_47 v1 v2 v3 v4 s.1 s.2.1 s.2.2) s = some o) (hk1 : ∀ t, o = t → am_G X gm_X12_led Q 197 [(0, .ref (am_ad X 12 0))] [] t) : am_G X gm_X12_led Q 47 [(0, .ref (am_ad X 12 0)), (1, .int v1), (2, .int v2), (3, .int v3), (4, .int v4), (5, .long s.1), (7, .int s.2.1)] [] s.2.2 := by
  refine am_loop_ind (P := fun s => am_G X gm_X12_led Q 47 [(0, .ref (am_ad X 12 0)), (1, .int v1), (2, .int v2), (3, .int v3), (4, .int v4), (5, .long s.1), (7, .int s.2.1)] [] s.2.2) (K := fun r => r = o) ?_ hf rfl
  intro s o1 hb hi hr
  exact q_X12_led_47 hX v1 v2 v3 v4 s.1 s.2.1  s.2.2 hb hi (fun t e => hk1 t (hr _ e).symm)
noncomputable def f_X12_led (v1 : Int32) (v2 : Int32) (v3 : Int32) (v4 : Int32) (σ : am_H) : Option (Int32 × am_H) :=
  (some (am_wI σ 12 0 1 0)).bind fun s1 =>
  (f_X12_asksGauge v1 v2 v3 v4 true s1).bind fun p2 =>
  (some (am_wI s1 12 0 0 p2)).bind fun s3 =>
  if 0 < (s3.1 12 0 0) then
   (some ((-1), s3))
  else
  (f_X12_differsTurned v1 v2 v3 v4 s3).bind fun p5 =>
  (some (am_wI s3 12 0 42 (-1))).bind fun s6 =>
  (am_loop (fun s => f_X12_led_47 v1 v2 v3 v4 s.1 s.2.1 s.2.2) (p5, 0, s6)).bind fun w7 =>
  (some (am_wI w7 12 0 40 (am_b true))).bind fun s8 =>
  some ((s8.1 12 0 42), s8)
set_option maxRecDepth 100000 in
set_option maxHeartbeats 4000000 in
theorem q_X12_led {X : am_X} (hX : am_ks X = am_ksM) {Q : Option Value → am_H → Prop} (v1 : Int32) (v2 : Int32) (v3 : Int32) (v4 : Int32) (σ : am_H) {o : Int32 × am_H} (hf : f_X12_led v1 v2 v3 v4 σ = some o) (hk : Q (some (.int o.1)) o.2) : am_G X gm_X12_led Q 0 [(0, .ref (am_ad X 12 0)), (1, .int v1), (2, .int v2), (3, .int v3), (4, .int v4)] [] σ := by
  unfold f_X12_led at hf
  refine g_aload_n (pc := 0) 0 rfl dX12_led_0 rfl ?_
  refine g_iconst (pc := 1) (v := 0) dX12_led_1 (by decide) ?_
  obtain ⟨s1, hs1, hf⟩ := am_bd hf
  refine g_setI (pc := 2) (in_12 hX (by omega)) fr_X12_122 dX12_led_2 (Option.some.inj hs1) ?_
  refine g_aload_n (pc := 5) 0 rfl dX12_led_5 rfl ?_
  refine g_aload_n (pc := 6) 0 rfl dX12_led_6 rfl ?_
  refine g_iload_n (pc := 7) 1 rfl dX12_led_7 rfl ?_
  refine g_iload_n (pc := 8) 2 rfl dX12_led_8 rfl ?_
  refine g_iload_n (pc := 9) 3 rfl dX12_led_9 rfl ?_
  refine g_iload (pc := 10) 4 rfl dX12_led_10 ?_
  refine g_iconst (pc := 12) (v := 1) dX12_led_12 (by decide) ?_
  obtain ⟨p2, hp2, hf⟩ := am_bd hf
  refine g_cV (pc := 13) (As := [.int v1, .int v2, .int v3, .int v4, .int (am_b true)]) (st := [.ref (am_ad X 12 0)]) (st1 := [.int p2, .ref (am_ad X 12 0)]) (in_12 hX (by omega)) kk_12 mV_X12_asksGauge ln_X12_428 rfl (Nat.le_of_ble_eq_true rfl) (Nat.le_of_ble_eq_true rfl) (k_X12_asksGauge hX v1 v2 v3 v4 true s1 hp2) dX12_led_13 rfl rfl ?_
  obtain ⟨s3, hs3, hf⟩ := am_bd hf
  refine g_setI (pc := 16) (in_12 hX (by omega)) fr_X12_125 dX12_led_16 (Option.some.inj hs3) ?_
  refine g_aload_n (pc := 19) 0 rfl dX12_led_19 rfl ?_
  refine g_getI (pc := 20) (in_12 hX (by omega)) fr_X12_125 dX12_led_20 ?_
  refine bz_le (pc := 23) 28 dX12_led_23 rfl (fun c4 => ?_) (fun c4 => ?_)
  · replace hf := am_ifT c4 hf
    refine g_iconst (pc := 26) (v := (-1)) dX12_led_26 (by decide) ?_
    have ho := Option.some.inj hf
    subst ho
    exact g_ireturn (pc := 27) (st := []) rfl dX12_led_27 hk
  replace hf := am_ifF c4 hf
  refine g_aload_n (pc := 28) 0 rfl dX12_led_28 rfl ?_
  refine g_iload_n (pc := 29) 1 rfl dX12_led_29 rfl ?_
  refine g_iload_n (pc := 30) 2 rfl dX12_led_30 rfl ?_
  refine g_iload_n (pc := 31) 3 rfl dX12_led_31 rfl ?_
  refine g_iload (pc := 32) 4 rfl dX12_led_32 ?_
  obtain ⟨p5, hp5, hf⟩ := am_bd hf
  refine g_cV (pc := 34) (As := [.int v1, .int v2, .int v3, .int v4]) (st := []) (st1 := [.long p5]) (in_12 hX (by omega)) kk_12 mV_X12_differsTurned ln_X12_461 rfl (Nat.le_of_ble_eq_true rfl) (Nat.le_of_ble_eq_true rfl) (k_X12_differsTurned hX v1 v2 v3 v4 s3 hp5) dX12_led_34 rfl rfl ?_
  refine g_lstore (pc := 37) [(5, .long p5), (0, .ref (am_ad X 12 0)), (1, .int v1), (2, .int v2), (3, .int v3), (4, .int v4)] dX12_led_37 (Nat.le_of_ble_eq_true rfl) rfl ?_
  refine g_aload_n (pc := 39) 1 rfl dX12_led_39 rfl ?_
  refine g_iconst (pc := 40) (v := (-1)) dX12_led_40 (by decide) ?_
  obtain ⟨s6, hs6, hf⟩ := am_bd hf
  refine g_setI (pc := 41) (in_12 hX (by omega)) fr_X12_59 dX12_led_41 (Option.some.inj hs6) ?_
  refine g_iconst (pc := 44) (v := 0) dX12_led_44 (by decide) ?_
  refine g_istore (pc := 45) [(7, .int 0), (5, .long p5), (0, .ref (am_ad X 12 0)), (1, .int v1), (2, .int v2), (3, .int v3), (4, .int v4)] dX12_led_45 (Nat.le_of_ble_eq_true rfl) rfl ?_
  obtain ⟨w7, hw7, hf⟩ := am_bd hf
  refine am_sub [2, 3, 4, 5, 6, 1, 0] rfl (l_X12_led_47 hX v1 v2 v3 v4  s6 (p5, 0, s6) hw7 ?_)
  intro t e
  subst e
  refine g_aload_n (pc := 197) 0 rfl dX12_led_197 rfl ?_
  refine g_iconst (pc := 198) (v := 1) dX12_led_198 (by decide) ?_
  obtain ⟨s8, hs8, hf⟩ := am_bd hf
  refine g_setZ (x := true) (pc := 199) (in_12 hX (by omega)) fr_X12_471 dX12_led_199 (Option.some.inj hs8) ?_
  refine g_aload_n (pc := 202) 0 rfl dX12_led_202 rfl ?_
  refine g_getI (pc := 203) (in_12 hX (by omega)) fr_X12_59 dX12_led_203 ?_
  have ho := Option.some.inj hf
  subst ho
  exact g_ireturn (pc := 206) (st := []) rfl dX12_led_206 hk
theorem k_X12_led {X : am_X} (hX : am_ks X = am_ksM) (v1 : Int32) (v2 : Int32) (v3 : Int32) (v4 : Int32) (σ : am_H) {o : Int32 × am_H} (hf : f_X12_led v1 v2 v3 v4 σ = some o) : am_C X gm_X12_led [.ref (am_ad X 12 0), .int v1, .int v2, .int v3, .int v4] σ (am_is (some (.int o.1)) o.2) :=
  am_ofG rfl (Nat.le_of_ble_eq_true rfl) rfl (q_X12_led hX v1 v2 v3 v4 σ hf ⟨rfl, rfl⟩)
theorem dX12_wheel_0 : decode cX12_wheel 0 = .ok (.aload_n 0, 1) := by decide +kernel
theorem dX12_wheel_1 : decode cX12_wheel 1 = .ok (.iconst 0, 1) := by decide +kernel
theorem dX12_wheel_2 : decode cX12_wheel 2 = .ok (.putfield 122, 3) := by decide +kernel
theorem dX12_wheel_5 : decode cX12_wheel 5 = .ok (.aload_n 0, 1) := by decide +kernel
theorem dX12_wheel_6 : decode cX12_wheel 6 = .ok (.iconst 0, 1) := by decide +kernel
theorem dX12_wheel_7 : decode cX12_wheel 7 = .ok (.putfield 125, 3) := by decide +kernel
theorem dX12_wheel_10 : decode cX12_wheel 10 = .ok (.iload_n 1, 1) := by decide +kernel
theorem dX12_wheel_11 : decode cX12_wheel 11 = .ok (.i2l, 1) := by decide +kernel
theorem dX12_wheel_12 : decode cX12_wheel 12 = .ok (.lconst 0, 1) := by decide +kernel
theorem dX12_wheel_13 : decode cX12_wheel 13 = .ok (.lconst 1, 1) := by decide +kernel
theorem dX12_wheel_14 : decode cX12_wheel 14 = .ok (.invokestatic 239, 3) := by decide +kernel
theorem dX12_wheel_17 : decode cX12_wheel 17 = .ok (.ifCond .ne 9, 3) := by decide +kernel
theorem dX12_wheel_20 : decode cX12_wheel 20 = .ok (.aload_n 0, 1) := by decide +kernel
theorem dX12_wheel_21 : decode cX12_wheel 21 = .ok (.iconst 5, 1) := by decide +kernel
theorem dX12_wheel_22 : decode cX12_wheel 22 = .ok (.invokevirtual 283, 3) := by decide +kernel
theorem dX12_wheel_25 : decode cX12_wheel 25 = .ok (.ireturn, 1) := by decide +kernel
theorem dX12_wheel_26 : decode cX12_wheel 26 = .ok (.aload_n 0, 1) := by decide +kernel
theorem dX12_wheel_27 : decode cX12_wheel 27 = .ok (.getfield 471, 3) := by decide +kernel
theorem dX12_wheel_30 : decode cX12_wheel 30 = .ok (.ifCond .eq 10, 3) := by decide +kernel
theorem dX12_wheel_33 : decode cX12_wheel 33 = .ok (.aload_n 0, 1) := by decide +kernel
theorem dX12_wheel_34 : decode cX12_wheel 34 = .ok (.getfield 59, 3) := by decide +kernel
theorem dX12_wheel_37 : decode cX12_wheel 37 = .ok (.ifCond .ge 12, 3) := by decide +kernel
theorem dX12_wheel_40 : decode cX12_wheel 40 = .ok (.aload_n 0, 1) := by decide +kernel
theorem dX12_wheel_41 : decode cX12_wheel 41 = .ok (.bipush 8, 2) := by decide +kernel
theorem dX12_wheel_43 : decode cX12_wheel 43 = .ok (.invokevirtual 283, 3) := by decide +kernel
theorem dX12_wheel_46 : decode cX12_wheel 46 = .ok (.goto 18, 3) := by decide +kernel
theorem dX12_wheel_49 : decode cX12_wheel 49 = .ok (.iload_n 1, 1) := by decide +kernel
theorem dX12_wheel_50 : decode cX12_wheel 50 = .ok (.ifCond .ne 10, 3) := by decide +kernel
theorem dX12_wheel_53 : decode cX12_wheel 53 = .ok (.aload_n 0, 1) := by decide +kernel
theorem dX12_wheel_54 : decode cX12_wheel 54 = .ok (.getfield 465, 3) := by decide +kernel
theorem dX12_wheel_57 : decode cX12_wheel 57 = .ok (.goto 7, 3) := by decide +kernel
theorem dX12_wheel_60 : decode cX12_wheel 60 = .ok (.aload_n 0, 1) := by decide +kernel
theorem dX12_wheel_61 : decode cX12_wheel 61 = .ok (.getfield 468, 3) := by decide +kernel
theorem dX12_wheel_64 : decode cX12_wheel 64 = .ok (.ireturn, 1) := by decide +kernel
noncomputable def f_X12_wheel_40 (σ : am_H) : Option (Int32 × am_H) :=
  (f_X12_refuse 8 σ).bind fun p1 =>
  some (p1.1, p1.2)
set_option maxRecDepth 100000 in
set_option maxHeartbeats 4000000 in
theorem q_X12_wheel_40 {X : am_X} (hX : am_ks X = am_ksM) {Q : Option Value → am_H → Prop} (σ : am_H) {o : Int32 × am_H} (hf : f_X12_wheel_40 σ = some o) (hk : Q (some (.int o.1)) o.2) : am_G X gm_X12_wheel Q 40 [(0, .ref (am_ad X 12 0))] [] σ := by
  unfold f_X12_wheel_40 at hf
  refine g_aload_n (pc := 40) 0 rfl dX12_wheel_40 rfl ?_
  refine g_bipush (pc := 41) (v := 8) dX12_wheel_41 (by decide) ?_
  obtain ⟨p1, hp1, hf⟩ := am_bd hf
  refine g_cV (pc := 43) (As := [.int 8]) (st := []) (st1 := [.int p1.1]) (in_12 hX (by omega)) kk_12 mV_X12_refuse ln_X12_283 rfl (Nat.le_of_ble_eq_true rfl) (Nat.le_of_ble_eq_true rfl) (k_X12_refuse hX 8 σ hp1) dX12_wheel_43 rfl rfl ?_
  refine g_goto (pc := 46) 64 dX12_wheel_46 rfl ?_
  have ho := Option.some.inj hf
  subst ho
  exact g_ireturn (pc := 64) (st := []) rfl dX12_wheel_64 hk
noncomputable def f_X12_wheel (v1 : Int32) (σ : am_H) : Option (Int32 × am_H) :=
  (some (am_wI σ 12 0 1 0)).bind fun s1 =>
  (some (am_wI s1 12 0 0 0)).bind fun s2 =>
  (f_X12_isIn (Int32.toInt64 v1) 0 1 s2).bind fun p3 =>
  if p3 = true then
   (if (s2.1 12 0 40) = 0 then
    (f_X12_wheel_40 s2)
   else
   if (s2.1 12 0 42) < 0 then
    (f_X12_wheel_40 s2)
   else
   if v1 = 0 then
    (some ((s2.1 12 0 35), s2))
   else
   some ((s2.1 12 0 36), s2))
  else
  (f_X12_refuse 5 s2).bind fun p8 =>
  some (p8.1, p8.2)
set_option maxRecDepth 100000 in
set_option maxHeartbeats 4000000 in
theorem q_X12_wheel {X : am_X} (hX : am_ks X = am_ksM) {Q : Option Value → am_H → Prop} (v1 : Int32) (σ : am_H) {o : Int32 × am_H} (hf : f_X12_wheel v1 σ = some o) (hk : Q (some (.int o.1)) o.2) : am_G X gm_X12_wheel Q 0 [(0, .ref (am_ad X 12 0)), (1, .int v1)] [] σ := by
  unfold f_X12_wheel at hf
  refine g_aload_n (pc := 0) 0 rfl dX12_wheel_0 rfl ?_
  refine g_iconst (pc := 1) (v := 0) dX12_wheel_1 (by decide) ?_
  obtain ⟨s1, hs1, hf⟩ := am_bd hf
  refine g_setI (pc := 2) (in_12 hX (by omega)) fr_X12_122 dX12_wheel_2 (Option.some.inj hs1) ?_
  refine g_aload_n (pc := 5) 0 rfl dX12_wheel_5 rfl ?_
  refine g_iconst (pc := 6) (v := 0) dX12_wheel_6 (by decide) ?_
  obtain ⟨s2, hs2, hf⟩ := am_bd hf
  refine g_setI (pc := 7) (in_12 hX (by omega)) fr_X12_125 dX12_wheel_7 (Option.some.inj hs2) ?_
  refine g_iload_n (pc := 10) 1 rfl dX12_wheel_10 rfl ?_
  refine g_i2l (pc := 11) dX12_wheel_11 ?_
  refine g_lconst (pc := 12) (v := 0) dX12_wheel_12 (by decide) ?_
  refine g_lconst (pc := 13) (v := 1) dX12_wheel_13 (by decide) ?_
  obtain ⟨p3, hp3, hf⟩ := am_bd hf
  refine g_cS (pc := 14) (As := [.long (Int32.toInt64 v1), .long 0, .long 1]) (st := []) (st1 := [.int (am_b p3)]) mS_X12_isIn ln_X12_239 rfl (Nat.le_of_ble_eq_true rfl) (Nat.le_of_ble_eq_true rfl) (k_X12_isIn hX (Int32.toInt64 v1) 0 1 s2 hp3) dX12_wheel_14 rfl rfl ?_
  refine bt_ne (pc := 17) 26 dX12_wheel_17 rfl (fun c4 => ?_) (fun c4 => ?_)
  · replace hf := am_ifT c4 hf
    refine g_aload_n (pc := 26) 0 rfl dX12_wheel_26 rfl ?_
    refine g_getZ (pc := 27) (in_12 hX (by omega)) fr_X12_471 dX12_wheel_27 ?_
    refine bz_eq (pc := 30) 40 dX12_wheel_30 rfl (fun c5 => ?_) (fun c5 => ?_)
    · replace hf := am_ifT c5 hf
      exact am_sub [0] rfl (q_X12_wheel_40 hX s2 hf hk)
    replace hf := am_ifF c5 hf
    refine g_aload_n (pc := 33) 0 rfl dX12_wheel_33 rfl ?_
    refine g_getI (pc := 34) (in_12 hX (by omega)) fr_X12_59 dX12_wheel_34 ?_
    refine bz_ge (pc := 37) 49 dX12_wheel_37 rfl (fun c6 => ?_) (fun c6 => ?_)
    · replace hf := am_ifT c6 hf
      exact am_sub [0] rfl (q_X12_wheel_40 hX s2 hf hk)
    replace hf := am_ifF c6 hf
    refine g_iload_n (pc := 49) 1 rfl dX12_wheel_49 rfl ?_
    refine bz_ne (pc := 50) 60 dX12_wheel_50 rfl (fun c7 => ?_) (fun c7 => ?_)
    · replace hf := am_ifT c7 hf
      refine g_aload_n (pc := 53) 0 rfl dX12_wheel_53 rfl ?_
      refine g_getI (pc := 54) (in_12 hX (by omega)) fr_X12_465 dX12_wheel_54 ?_
      refine g_goto (pc := 57) 64 dX12_wheel_57 rfl ?_
      have ho := Option.some.inj hf
      subst ho
      exact g_ireturn (pc := 64) (st := []) rfl dX12_wheel_64 hk
    replace hf := am_ifF c7 hf
    refine g_aload_n (pc := 60) 0 rfl dX12_wheel_60 rfl ?_
    refine g_getI (pc := 61) (in_12 hX (by omega)) fr_X12_468 dX12_wheel_61 ?_
    have ho := Option.some.inj hf
    subst ho
    exact g_ireturn (pc := 64) (st := []) rfl dX12_wheel_64 hk
  replace hf := am_ifF c4 hf
  refine g_aload_n (pc := 20) 0 rfl dX12_wheel_20 rfl ?_
  refine g_iconst (pc := 21) (v := 5) dX12_wheel_21 (by decide) ?_
  obtain ⟨p8, hp8, hf⟩ := am_bd hf
  refine g_cV (pc := 22) (As := [.int 5]) (st := []) (st1 := [.int p8.1]) (in_12 hX (by omega)) kk_12 mV_X12_refuse ln_X12_283 rfl (Nat.le_of_ble_eq_true rfl) (Nat.le_of_ble_eq_true rfl) (k_X12_refuse hX 5 s2 hp8) dX12_wheel_22 rfl rfl ?_
  have ho := Option.some.inj hf
  subst ho
  exact g_ireturn (pc := 25) (st := []) rfl dX12_wheel_25 hk
theorem k_X12_wheel {X : am_X} (hX : am_ks X = am_ksM) (v1 : Int32) (σ : am_H) {o : Int32 × am_H} (hf : f_X12_wheel v1 σ = some o) : am_C X gm_X12_wheel [.ref (am_ad X 12 0), .int v1] σ (am_is (some (.int o.1)) o.2) :=
  am_ofG rfl (Nat.le_of_ble_eq_true rfl) rfl (q_X12_wheel hX v1 σ hf ⟨rfl, rfl⟩)
theorem dX12_isSpan_0 : decode cX12_isSpan 0 = .ok (.iload_n 0, 1) := by decide +kernel
theorem dX12_isSpan_1 : decode cX12_isSpan 1 = .ok (.invokestatic 331, 3) := by decide +kernel
theorem dX12_isSpan_4 : decode cX12_isSpan 4 = .ok (.ifCond .eq 29, 3) := by decide +kernel
theorem dX12_isSpan_7 : decode cX12_isSpan 7 = .ok (.iload_n 1, 1) := by decide +kernel
theorem dX12_isSpan_8 : decode cX12_isSpan 8 = .ok (.invokestatic 331, 3) := by decide +kernel
theorem dX12_isSpan_11 : decode cX12_isSpan 11 = .ok (.ifCond .eq 22, 3) := by decide +kernel
theorem dX12_isSpan_14 : decode cX12_isSpan 14 = .ok (.iload_n 1, 1) := by decide +kernel
theorem dX12_isSpan_15 : decode cX12_isSpan 15 = .ok (.iload_n 0, 1) := by decide +kernel
theorem dX12_isSpan_16 : decode cX12_isSpan 16 = .ok (.isub, 1) := by decide +kernel
theorem dX12_isSpan_17 : decode cX12_isSpan 17 = .ok (.i2l, 1) := by decide +kernel
theorem dX12_isSpan_18 : decode cX12_isSpan 18 = .ok (.lconst 0, 1) := by decide +kernel
theorem dX12_isSpan_19 : decode cX12_isSpan 19 = .ok (.iload_n 2, 1) := by decide +kernel
theorem dX12_isSpan_20 : decode cX12_isSpan 20 = .ok (.iconst 1, 1) := by decide +kernel
theorem dX12_isSpan_21 : decode cX12_isSpan 21 = .ok (.isub, 1) := by decide +kernel
theorem dX12_isSpan_22 : decode cX12_isSpan 22 = .ok (.i2l, 1) := by decide +kernel
theorem dX12_isSpan_23 : decode cX12_isSpan 23 = .ok (.invokestatic 239, 3) := by decide +kernel
theorem dX12_isSpan_26 : decode cX12_isSpan 26 = .ok (.ifCond .eq 7, 3) := by decide +kernel
theorem dX12_isSpan_29 : decode cX12_isSpan 29 = .ok (.iconst 1, 1) := by decide +kernel
theorem dX12_isSpan_30 : decode cX12_isSpan 30 = .ok (.goto 4, 3) := by decide +kernel
theorem dX12_isSpan_33 : decode cX12_isSpan 33 = .ok (.iconst 0, 1) := by decide +kernel
theorem dX12_isSpan_34 : decode cX12_isSpan 34 = .ok (.ireturn, 1) := by decide +kernel
noncomputable def f_X12_isSpan (v0 : Int32) (v1 : Int32) (v2 : Int32) (σ : am_H) : Option (Bool) :=
  (f_X12_isHour v0 σ).bind fun p1 =>
  if p1 = true then
   ((f_X12_isHour v1 σ).bind fun p3 =>
   if p3 = true then
    ((f_X12_isIn (Int32.toInt64 (v1 - v0)) 0 (Int32.toInt64 (v2 - 1)) σ).bind fun p5 =>
    if p5 = true then
     (some true)
    else
    some false)
   else
   some false)
  else
  some false
set_option maxRecDepth 100000 in
set_option maxHeartbeats 4000000 in
theorem q_X12_isSpan {X : am_X} (hX : am_ks X = am_ksM) {Q : Option Value → am_H → Prop} (v0 : Int32) (v1 : Int32) (v2 : Int32) (σ : am_H) {o : Bool} (hf : f_X12_isSpan v0 v1 v2 σ = some o) (hk : Q (some (.int (am_b o))) σ) : am_G X gm_X12_isSpan Q 0 [(0, .int v0), (1, .int v1), (2, .int v2)] [] σ := by
  unfold f_X12_isSpan at hf
  refine g_iload_n (pc := 0) 0 rfl dX12_isSpan_0 rfl ?_
  obtain ⟨p1, hp1, hf⟩ := am_bd hf
  refine g_cS (pc := 1) (As := [.int v0]) (st := []) (st1 := [.int (am_b p1)]) mS_X12_isHour ln_X12_331 rfl (Nat.le_of_ble_eq_true rfl) (Nat.le_of_ble_eq_true rfl) (k_X12_isHour hX v0 σ hp1) dX12_isSpan_1 rfl rfl ?_
  refine bt_eq (pc := 4) 33 dX12_isSpan_4 rfl (fun c2 => ?_) (fun c2 => ?_)
  · replace hf := am_ifT c2 hf
    refine g_iload_n (pc := 7) 1 rfl dX12_isSpan_7 rfl ?_
    obtain ⟨p3, hp3, hf⟩ := am_bd hf
    refine g_cS (pc := 8) (As := [.int v1]) (st := []) (st1 := [.int (am_b p3)]) mS_X12_isHour ln_X12_331 rfl (Nat.le_of_ble_eq_true rfl) (Nat.le_of_ble_eq_true rfl) (k_X12_isHour hX v1 σ hp3) dX12_isSpan_8 rfl rfl ?_
    refine bt_eq (pc := 11) 33 dX12_isSpan_11 rfl (fun c4 => ?_) (fun c4 => ?_)
    · replace hf := am_ifT c4 hf
      refine g_iload_n (pc := 14) 1 rfl dX12_isSpan_14 rfl ?_
      refine g_iload_n (pc := 15) 0 rfl dX12_isSpan_15 rfl ?_
      refine g_isub (pc := 16) dX12_isSpan_16 ?_
      refine g_i2l (pc := 17) dX12_isSpan_17 ?_
      refine g_lconst (pc := 18) (v := 0) dX12_isSpan_18 (by decide) ?_
      refine g_iload_n (pc := 19) 2 rfl dX12_isSpan_19 rfl ?_
      refine g_iconst (pc := 20) (v := 1) dX12_isSpan_20 (by decide) ?_
      refine g_isub (pc := 21) dX12_isSpan_21 ?_
      refine g_i2l (pc := 22) dX12_isSpan_22 ?_
      obtain ⟨p5, hp5, hf⟩ := am_bd hf
      refine g_cS (pc := 23) (As := [.long (Int32.toInt64 (v1 - v0)), .long 0, .long (Int32.toInt64 (v2 - 1))]) (st := []) (st1 := [.int (am_b p5)]) mS_X12_isIn ln_X12_239 rfl (Nat.le_of_ble_eq_true rfl) (Nat.le_of_ble_eq_true rfl) (k_X12_isIn hX (Int32.toInt64 (v1 - v0)) 0 (Int32.toInt64 (v2 - 1)) σ hp5) dX12_isSpan_23 rfl rfl ?_
      refine bt_eq (pc := 26) 33 dX12_isSpan_26 rfl (fun c6 => ?_) (fun c6 => ?_)
      · replace hf := am_ifT c6 hf
        refine g_iconst (pc := 29) (v := 1) dX12_isSpan_29 (by decide) ?_
        refine g_goto (pc := 30) 34 dX12_isSpan_30 rfl ?_
        have ho := Option.some.inj hf
        subst ho
        exact g_zreturn (pc := 34) (st := []) (x := true) rfl dX12_isSpan_34 hk
      replace hf := am_ifF c6 hf
      refine g_iconst (pc := 33) (v := 0) dX12_isSpan_33 (by decide) ?_
      have ho := Option.some.inj hf
      subst ho
      exact g_zreturn (pc := 34) (st := []) (x := false) rfl dX12_isSpan_34 hk
    replace hf := am_ifF c4 hf
    refine g_iconst (pc := 33) (v := 0) dX12_isSpan_33 (by decide) ?_
    have ho := Option.some.inj hf
    subst ho
    exact g_zreturn (pc := 34) (st := []) (x := false) rfl dX12_isSpan_34 hk
  replace hf := am_ifF c2 hf
  refine g_iconst (pc := 33) (v := 0) dX12_isSpan_33 (by decide) ?_
  have ho := Option.some.inj hf
  subst ho
  exact g_zreturn (pc := 34) (st := []) (x := false) rfl dX12_isSpan_34 hk
theorem k_X12_isSpan {X : am_X} (hX : am_ks X = am_ksM) (v0 : Int32) (v1 : Int32) (v2 : Int32) (σ : am_H) {o : Bool} (hf : f_X12_isSpan v0 v1 v2 σ = some o) : am_C X gm_X12_isSpan [.int v0, .int v1, .int v2] σ (am_is (some (.int (am_b o))) σ) :=
  am_ofG rfl (Nat.le_of_ble_eq_true rfl) rfl (q_X12_isSpan hX v0 v1 v2 σ hf ⟨rfl, rfl⟩)
theorem dX12_extreme_0 : decode cX12_extreme 0 = .ok (.aload_n 0, 1) := by decide +kernel
theorem dX12_extreme_1 : decode cX12_extreme 1 = .ok (.iconst 0, 1) := by decide +kernel
theorem dX12_extreme_2 : decode cX12_extreme 2 = .ok (.putfield 122, 3) := by decide +kernel
theorem dX12_extreme_5 : decode cX12_extreme 5 = .ok (.aload_n 0, 1) := by decide +kernel
theorem dX12_extreme_6 : decode cX12_extreme 6 = .ok (.iconst 0, 1) := by decide +kernel
theorem dX12_extreme_7 : decode cX12_extreme 7 = .ok (.putfield 125, 3) := by decide +kernel
theorem dX12_extreme_10 : decode cX12_extreme 10 = .ok (.iload_n 1, 1) := by decide +kernel
theorem dX12_extreme_11 : decode cX12_extreme 11 = .ok (.invokestatic 280, 3) := by decide +kernel
theorem dX12_extreme_14 : decode cX12_extreme 14 = .ok (.ifCond .ne 9, 3) := by decide +kernel
theorem dX12_extreme_17 : decode cX12_extreme 17 = .ok (.aload_n 0, 1) := by decide +kernel
theorem dX12_extreme_18 : decode cX12_extreme 18 = .ok (.iconst 2, 1) := by decide +kernel
theorem dX12_extreme_19 : decode cX12_extreme 19 = .ok (.invokevirtual 283, 3) := by decide +kernel
theorem dX12_extreme_22 : decode cX12_extreme 22 = .ok (.ireturn, 1) := by decide +kernel
theorem dX12_extreme_23 : decode cX12_extreme 23 = .ok (.iload_n 2, 1) := by decide +kernel
theorem dX12_extreme_24 : decode cX12_extreme 24 = .ok (.iload_n 3, 1) := by decide +kernel
theorem dX12_extreme_25 : decode cX12_extreme 25 = .ok (.sipush 2000, 3) := by decide +kernel
theorem dX12_extreme_28 : decode cX12_extreme 28 = .ok (.invokestatic 474, 3) := by decide +kernel
theorem dX12_extreme_31 : decode cX12_extreme 31 = .ok (.ifCond .ne 9, 3) := by decide +kernel
theorem dX12_extreme_34 : decode cX12_extreme 34 = .ok (.aload_n 0, 1) := by decide +kernel
theorem dX12_extreme_35 : decode cX12_extreme 35 = .ok (.iconst 5, 1) := by decide +kernel
theorem dX12_extreme_36 : decode cX12_extreme 36 = .ok (.invokevirtual 283, 3) := by decide +kernel
theorem dX12_extreme_39 : decode cX12_extreme 39 = .ok (.ireturn, 1) := by decide +kernel
theorem dX12_extreme_40 : decode cX12_extreme 40 = .ok (.iload_n 2, 1) := by decide +kernel
theorem dX12_extreme_41 : decode cX12_extreme 41 = .ok (.istore 6, 2) := by decide +kernel
theorem dX12_extreme_43 : decode cX12_extreme 43 = .ok (.iload_n 2, 1) := by decide +kernel
theorem dX12_extreme_44 : decode cX12_extreme 44 = .ok (.iconst 1, 1) := by decide +kernel
theorem dX12_extreme_45 : decode cX12_extreme 45 = .ok (.iadd, 1) := by decide +kernel
theorem dX12_extreme_46 : decode cX12_extreme 46 = .ok (.istore 7, 2) := by decide +kernel
theorem dX12_extreme_48 : decode cX12_extreme 48 = .ok (.iload 7, 2) := by decide +kernel
theorem dX12_extreme_50 : decode cX12_extreme 50 = .ok (.iload_n 3, 1) := by decide +kernel
theorem dX12_extreme_51 : decode cX12_extreme 51 = .ok (.if_icmp .gt 52, 3) := by decide +kernel
theorem dX12_extreme_54 : decode cX12_extreme 54 = .ok (.aload_n 0, 1) := by decide +kernel
theorem dX12_extreme_55 : decode cX12_extreme 55 = .ok (.iload_n 1, 1) := by decide +kernel
theorem dX12_extreme_56 : decode cX12_extreme 56 = .ok (.iload 7, 2) := by decide +kernel
theorem dX12_extreme_58 : decode cX12_extreme 58 = .ok (.iload 4, 2) := by decide +kernel
theorem dX12_extreme_60 : decode cX12_extreme 60 = .ok (.invokevirtual 334, 3) := by decide +kernel
theorem dX12_extreme_63 : decode cX12_extreme 63 = .ok (.aload_n 0, 1) := by decide +kernel
theorem dX12_extreme_64 : decode cX12_extreme 64 = .ok (.iload_n 1, 1) := by decide +kernel
theorem dX12_extreme_65 : decode cX12_extreme 65 = .ok (.iload 6, 2) := by decide +kernel
theorem dX12_extreme_67 : decode cX12_extreme 67 = .ok (.iload 4, 2) := by decide +kernel
theorem dX12_extreme_69 : decode cX12_extreme 69 = .ok (.invokevirtual 334, 3) := by decide +kernel
theorem dX12_extreme_72 : decode cX12_extreme 72 = .ok (.isub, 1) := by decide +kernel
theorem dX12_extreme_73 : decode cX12_extreme 73 = .ok (.istore 8, 2) := by decide +kernel
theorem dX12_extreme_75 : decode cX12_extreme 75 = .ok (.iload 5, 2) := by decide +kernel
theorem dX12_extreme_77 : decode cX12_extreme 77 = .ok (.ifCond .eq 11, 3) := by decide +kernel
theorem dX12_extreme_80 : decode cX12_extreme 80 = .ok (.iload 8, 2) := by decide +kernel
theorem dX12_extreme_82 : decode cX12_extreme 82 = .ok (.ifCond .le 15, 3) := by decide +kernel
theorem dX12_extreme_85 : decode cX12_extreme 85 = .ok (.goto 8, 3) := by decide +kernel
theorem dX12_extreme_88 : decode cX12_extreme 88 = .ok (.iload 8, 2) := by decide +kernel
theorem dX12_extreme_90 : decode cX12_extreme 90 = .ok (.ifCond .ge 7, 3) := by decide +kernel
theorem dX12_extreme_93 : decode cX12_extreme 93 = .ok (.iload 7, 2) := by decide +kernel
theorem dX12_extreme_95 : decode cX12_extreme 95 = .ok (.istore 6, 2) := by decide +kernel
theorem dX12_extreme_97 : decode cX12_extreme 97 = .ok (.iinc 7 1, 3) := by decide +kernel
theorem dX12_extreme_100 : decode cX12_extreme 100 = .ok (.goto (-52), 3) := by decide +kernel
theorem dX12_extreme_103 : decode cX12_extreme 103 = .ok (.iload 6, 2) := by decide +kernel
theorem dX12_extreme_105 : decode cX12_extreme 105 = .ok (.ireturn, 1) := by decide +kernel
noncomputable def f_X12_extreme_48 (v1 : Int32) (v3 : Int32) (v4 : Bool) (v5 : Bool) (v6 : Int32) (v7 : Int32) (σ : am_H) : Option ((Int32 × Int32) ⊕ (Int32)) :=
  if v3 < v7 then
   (some (.inr v6))
  else
  (f_X12_heightOf v1 v7 v4 σ).bind fun p2 =>
  (f_X12_heightOf v1 v6 v4 σ).bind fun p3 =>
  if v5 = true then
   (if 0 < (p2 - p3) then
    (some (.inl (v7, (v7 + 1))))
   else
   some (.inl (v6, (v7 + 1))))
  else
  if (p2 - p3) < 0 then
   (some (.inl (v7, (v7 + 1))))
  else
  some (.inl (v6, (v7 + 1)))
set_option maxRecDepth 100000 in
set_option maxHeartbeats 4000000 in
theorem q_X12_extreme_48 {X : am_X} (hX : am_ks X = am_ksM) {Q : Option Value → am_H → Prop} (v1 : Int32) (v3 : Int32) (v4 : Bool) (v5 : Bool) (v6 : Int32) (v7 : Int32) (σ : am_H) {o : (Int32 × Int32) ⊕ (Int32)} (hf : f_X12_extreme_48 v1 v3 v4 v5 v6 v7 σ = some o) (hk0 : ∀ s, o = .inl s → am_G X gm_X12_extreme Q 48 [(0, .ref (am_ad X 12 0)), (1, .int v1), (3, .int v3), (4, .int (am_b v4)), (5, .int (am_b v5)), (6, .int s.1), (7, .int s.2)] [] σ) (hk1 : ∀ t, o = .inr t → am_G X gm_X12_extreme Q 103 [(6, .int t)] [] σ) : am_G X gm_X12_extreme Q 48 [(0, .ref (am_ad X 12 0)), (1, .int v1), (3, .int v3), (4, .int (am_b v4)), (5, .int (am_b v5)), (6, .int v6), (7, .int v7)] [] σ := by
  unfold f_X12_extreme_48 at hf
  refine g_iload (pc := 48) 6 rfl dX12_extreme_48 ?_
  refine g_iload_n (pc := 50) 2 rfl dX12_extreme_50 rfl ?_
  refine bi_gt (pc := 51) 103 dX12_extreme_51 rfl (fun c1 => ?_) (fun c1 => ?_)
  · replace hf := am_ifT c1 hf
    have hz := hk1 _ (Option.some.inj hf).symm
    exact am_sub [5] rfl hz
  replace hf := am_ifF c1 hf
  refine g_aload_n (pc := 54) 0 rfl dX12_extreme_54 rfl ?_
  refine g_iload_n (pc := 55) 1 rfl dX12_extreme_55 rfl ?_
  refine g_iload (pc := 56) 6 rfl dX12_extreme_56 ?_
  refine g_iload (pc := 58) 3 rfl dX12_extreme_58 ?_
  obtain ⟨p2, hp2, hf⟩ := am_bd hf
  refine g_cV (pc := 60) (As := [.int v1, .int v7, .int (am_b v4)]) (st := []) (st1 := [.int p2]) (in_12 hX (by omega)) kk_12 mV_X12_heightOf ln_X12_334 rfl (Nat.le_of_ble_eq_true rfl) (Nat.le_of_ble_eq_true rfl) (k_X12_heightOf hX v1 v7 v4 σ hp2) dX12_extreme_60 rfl rfl ?_
  refine g_aload_n (pc := 63) 0 rfl dX12_extreme_63 rfl ?_
  refine g_iload_n (pc := 64) 1 rfl dX12_extreme_64 rfl ?_
  refine g_iload (pc := 65) 5 rfl dX12_extreme_65 ?_
  refine g_iload (pc := 67) 3 rfl dX12_extreme_67 ?_
  obtain ⟨p3, hp3, hf⟩ := am_bd hf
  refine g_cV (pc := 69) (As := [.int v1, .int v6, .int (am_b v4)]) (st := [.int p2]) (st1 := [.int p3, .int p2]) (in_12 hX (by omega)) kk_12 mV_X12_heightOf ln_X12_334 rfl (Nat.le_of_ble_eq_true rfl) (Nat.le_of_ble_eq_true rfl) (k_X12_heightOf hX v1 v6 v4 σ hp3) dX12_extreme_69 rfl rfl ?_
  refine g_isub (pc := 72) dX12_extreme_72 ?_
  refine g_istore (pc := 73) [(8, .int (p2 - p3)), (0, .ref (am_ad X 12 0)), (1, .int v1), (3, .int v3), (4, .int (am_b v4)), (5, .int (am_b v5)), (6, .int v6), (7, .int v7)] dX12_extreme_73 (Nat.le_of_ble_eq_true rfl) rfl ?_
  refine g_iload (pc := 75) 5 rfl dX12_extreme_75 ?_
  refine bt_eq (pc := 77) 88 dX12_extreme_77 rfl (fun c4 => ?_) (fun c4 => ?_)
  · replace hf := am_ifT c4 hf
    refine g_iload (pc := 80) 0 rfl dX12_extreme_80 ?_
    refine bz_le (pc := 82) 97 dX12_extreme_82 rfl (fun c5 => ?_) (fun c5 => ?_)
    · replace hf := am_ifT c5 hf
      refine g_goto (pc := 85) 93 dX12_extreme_85 rfl ?_
      refine g_iload (pc := 93) 7 rfl dX12_extreme_93 ?_
      refine g_istore (pc := 95) [(6, .int v7), (8, .int (p2 - p3)), (0, .ref (am_ad X 12 0)), (1, .int v1), (3, .int v3), (4, .int (am_b v4)), (5, .int (am_b v5)), (7, .int v7)] dX12_extreme_95 (Nat.le_of_ble_eq_true rfl) rfl ?_
      refine g_iinc (pc := 97) (v := (v7 + 1)) 7 [(7, .int (v7 + 1)), (6, .int v7), (8, .int (p2 - p3)), (0, .ref (am_ad X 12 0)), (1, .int v1), (3, .int v3), (4, .int (am_b v4)), (5, .int (am_b v5))] dX12_extreme_97 rfl rfl (Nat.le_of_ble_eq_true rfl) rfl ?_
      refine g_goto (pc := 100) 48 dX12_extreme_100 rfl ?_
      have hz := hk0 _ (Option.some.inj hf).symm
      exact am_sub [3, 4, 5, 6, 7, 1, 0] rfl hz
    replace hf := am_ifF c5 hf
    refine g_iinc (pc := 97) (v := (v7 + 1)) 7 [(7, .int (v7 + 1)), (8, .int (p2 - p3)), (0, .ref (am_ad X 12 0)), (1, .int v1), (3, .int v3), (4, .int (am_b v4)), (5, .int (am_b v5)), (6, .int v6)] dX12_extreme_97 rfl rfl (Nat.le_of_ble_eq_true rfl) rfl ?_
    refine g_goto (pc := 100) 48 dX12_extreme_100 rfl ?_
    have hz := hk0 _ (Option.some.inj hf).symm
    exact am_sub [2, 3, 4, 5, 6, 7, 0] rfl hz
  replace hf := am_ifF c4 hf
  refine g_iload (pc := 88) 0 rfl dX12_extreme_88 ?_
  refine bz_ge (pc := 90) 97 dX12_extreme_90 rfl (fun c6 => ?_) (fun c6 => ?_)
  · replace hf := am_ifT c6 hf
    refine g_iload (pc := 93) 7 rfl dX12_extreme_93 ?_
    refine g_istore (pc := 95) [(6, .int v7), (8, .int (p2 - p3)), (0, .ref (am_ad X 12 0)), (1, .int v1), (3, .int v3), (4, .int (am_b v4)), (5, .int (am_b v5)), (7, .int v7)] dX12_extreme_95 (Nat.le_of_ble_eq_true rfl) rfl ?_
    refine g_iinc (pc := 97) (v := (v7 + 1)) 7 [(7, .int (v7 + 1)), (6, .int v7), (8, .int (p2 - p3)), (0, .ref (am_ad X 12 0)), (1, .int v1), (3, .int v3), (4, .int (am_b v4)), (5, .int (am_b v5))] dX12_extreme_97 rfl rfl (Nat.le_of_ble_eq_true rfl) rfl ?_
    refine g_goto (pc := 100) 48 dX12_extreme_100 rfl ?_
    have hz := hk0 _ (Option.some.inj hf).symm
    exact am_sub [3, 4, 5, 6, 7, 1, 0] rfl hz
  replace hf := am_ifF c6 hf
  refine g_iinc (pc := 97) (v := (v7 + 1)) 7 [(7, .int (v7 + 1)), (8, .int (p2 - p3)), (0, .ref (am_ad X 12 0)), (1, .int v1), (3, .int v3), (4, .int (am_b v4)), (5, .int (am_b v5)), (6, .int v6)] dX12_extreme_97 rfl rfl (Nat.le_of_ble_eq_true rfl) rfl ?_
  refine g_goto (pc := 100) 48 dX12_extreme_100 rfl ?_
  have hz := hk0 _ (Option.some.inj hf).symm
  exact am_sub [2, 3, 4, 5, 6, 7, 0] rfl hz
set_option maxRecDepth 100000 in
set_option maxHeartbeats 4000000 in
theorem l_X12_extreme_48 {X : am_X} (hX : am_ks X = am_ksM) {Q : Option Value → am_H → Prop} (v1 : Int32) (v3 : Int32) (v4 : Bool) (v5 : Bool) (σ : am_H) (s : Int32 × Int32) {o : Int32} (hf : am_loop (fun s => f_X12_extreme_48 v1 v3 v4 v5 s.1 s.2 σ) s = some o) (hk1 : ∀ t, o = t → am_G X gm_X12_extreme Q 103 [(6, .int t)] [] σ) : am_G X gm_X12_extreme Q 48 [(0, .ref (am_ad X 12 0)), (1, .int v1), (3, .int v3), (4, .int (am_b v4)), (5, .int (am_b v5)), (6, .int s.1), (7, .int s.2)] [] σ := by
  refine am_loop_ind (P := fun s => am_G X gm_X12_extreme Q 48 [(0, .ref (am_ad X 12 0)), (1, .int v1), (3, .int v3), (4, .int (am_b v4)), (5, .int (am_b v5)), (6, .int s.1), (7, .int s.2)] [] σ) (K := fun r => r = o) ?_ hf rfl
  intro s o1 hb hi hr
  exact q_X12_extreme_48 hX v1 v3 v4 v5 s.1 s.2  σ hb hi (fun t e => hk1 t (hr _ e).symm)
noncomputable def f_X12_extreme (v1 : Int32) (v2 : Int32) (v3 : Int32) (v4 : Bool) (v5 : Bool) (σ : am_H) : Option (Int32 × am_H) :=
  (some (am_wI σ 12 0 1 0)).bind fun s1 =>
  (some (am_wI s1 12 0 0 0)).bind fun s2 =>
  (f_X12_isMachine v1 s2).bind fun p3 =>
  if p3 = true then
   ((f_X12_isSpan v2 v3 2000 s2).bind fun p5 =>
   if p5 = true then
    ((am_loop (fun s => f_X12_extreme_48 v1 v3 v4 v5 s.1 s.2 s2) (v2, (v2 + 1))).bind fun w7 =>
    some (w7, s2))
   else
   (f_X12_refuse 5 s2).bind fun p8 =>
   some (p8.1, p8.2))
  else
  (f_X12_refuse 2 s2).bind fun p9 =>
  some (p9.1, p9.2)
set_option maxRecDepth 100000 in
set_option maxHeartbeats 4000000 in
theorem q_X12_extreme {X : am_X} (hX : am_ks X = am_ksM) {Q : Option Value → am_H → Prop} (v1 : Int32) (v2 : Int32) (v3 : Int32) (v4 : Bool) (v5 : Bool) (σ : am_H) {o : Int32 × am_H} (hf : f_X12_extreme v1 v2 v3 v4 v5 σ = some o) (hk : Q (some (.int o.1)) o.2) : am_G X gm_X12_extreme Q 0 [(0, .ref (am_ad X 12 0)), (1, .int v1), (2, .int v2), (3, .int v3), (4, .int (am_b v4)), (5, .int (am_b v5))] [] σ := by
  unfold f_X12_extreme at hf
  refine g_aload_n (pc := 0) 0 rfl dX12_extreme_0 rfl ?_
  refine g_iconst (pc := 1) (v := 0) dX12_extreme_1 (by decide) ?_
  obtain ⟨s1, hs1, hf⟩ := am_bd hf
  refine g_setI (pc := 2) (in_12 hX (by omega)) fr_X12_122 dX12_extreme_2 (Option.some.inj hs1) ?_
  refine g_aload_n (pc := 5) 0 rfl dX12_extreme_5 rfl ?_
  refine g_iconst (pc := 6) (v := 0) dX12_extreme_6 (by decide) ?_
  obtain ⟨s2, hs2, hf⟩ := am_bd hf
  refine g_setI (pc := 7) (in_12 hX (by omega)) fr_X12_125 dX12_extreme_7 (Option.some.inj hs2) ?_
  refine g_iload_n (pc := 10) 1 rfl dX12_extreme_10 rfl ?_
  obtain ⟨p3, hp3, hf⟩ := am_bd hf
  refine g_cS (pc := 11) (As := [.int v1]) (st := []) (st1 := [.int (am_b p3)]) mS_X12_isMachine ln_X12_280 rfl (Nat.le_of_ble_eq_true rfl) (Nat.le_of_ble_eq_true rfl) (k_X12_isMachine hX v1 s2 hp3) dX12_extreme_11 rfl rfl ?_
  refine bt_ne (pc := 14) 23 dX12_extreme_14 rfl (fun c4 => ?_) (fun c4 => ?_)
  · replace hf := am_ifT c4 hf
    refine g_iload_n (pc := 23) 2 rfl dX12_extreme_23 rfl ?_
    refine g_iload_n (pc := 24) 3 rfl dX12_extreme_24 rfl ?_
    refine g_sipush (pc := 25) (v := 2000) dX12_extreme_25 (by decide) ?_
    obtain ⟨p5, hp5, hf⟩ := am_bd hf
    refine g_cS (pc := 28) (As := [.int v2, .int v3, .int 2000]) (st := []) (st1 := [.int (am_b p5)]) mS_X12_isSpan ln_X12_474 rfl (Nat.le_of_ble_eq_true rfl) (Nat.le_of_ble_eq_true rfl) (k_X12_isSpan hX v2 v3 2000 s2 hp5) dX12_extreme_28 rfl rfl ?_
    refine bt_ne (pc := 31) 40 dX12_extreme_31 rfl (fun c6 => ?_) (fun c6 => ?_)
    · replace hf := am_ifT c6 hf
      refine g_iload_n (pc := 40) 2 rfl dX12_extreme_40 rfl ?_
      refine g_istore (pc := 41) [(6, .int v2), (0, .ref (am_ad X 12 0)), (1, .int v1), (2, .int v2), (3, .int v3), (4, .int (am_b v4)), (5, .int (am_b v5))] dX12_extreme_41 (Nat.le_of_ble_eq_true rfl) rfl ?_
      refine g_iload_n (pc := 43) 3 rfl dX12_extreme_43 rfl ?_
      refine g_iconst (pc := 44) (v := 1) dX12_extreme_44 (by decide) ?_
      refine g_iadd (pc := 45) dX12_extreme_45 ?_
      refine g_istore (pc := 46) [(7, .int (v2 + 1)), (6, .int v2), (0, .ref (am_ad X 12 0)), (1, .int v1), (2, .int v2), (3, .int v3), (4, .int (am_b v4)), (5, .int (am_b v5))] dX12_extreme_46 (Nat.le_of_ble_eq_true rfl) rfl ?_
      obtain ⟨w7, hw7, hf⟩ := am_bd hf
      refine am_sub [2, 3, 5, 6, 7, 1, 0] rfl (l_X12_extreme_48 hX v1 v3 v4 v5  s2 (v2, (v2 + 1)) hw7 ?_)
      intro t e
      subst e
      refine g_iload (pc := 103) 0 rfl dX12_extreme_103 ?_
      have ho := Option.some.inj hf
      subst ho
      exact g_ireturn (pc := 105) (st := []) rfl dX12_extreme_105 hk
    replace hf := am_ifF c6 hf
    refine g_aload_n (pc := 34) 0 rfl dX12_extreme_34 rfl ?_
    refine g_iconst (pc := 35) (v := 5) dX12_extreme_35 (by decide) ?_
    obtain ⟨p8, hp8, hf⟩ := am_bd hf
    refine g_cV (pc := 36) (As := [.int 5]) (st := []) (st1 := [.int p8.1]) (in_12 hX (by omega)) kk_12 mV_X12_refuse ln_X12_283 rfl (Nat.le_of_ble_eq_true rfl) (Nat.le_of_ble_eq_true rfl) (k_X12_refuse hX 5 s2 hp8) dX12_extreme_36 rfl rfl ?_
    have ho := Option.some.inj hf
    subst ho
    exact g_ireturn (pc := 39) (st := []) rfl dX12_extreme_39 hk
  replace hf := am_ifF c4 hf
  refine g_aload_n (pc := 17) 0 rfl dX12_extreme_17 rfl ?_
  refine g_iconst (pc := 18) (v := 2) dX12_extreme_18 (by decide) ?_
  obtain ⟨p9, hp9, hf⟩ := am_bd hf
  refine g_cV (pc := 19) (As := [.int 2]) (st := []) (st1 := [.int p9.1]) (in_12 hX (by omega)) kk_12 mV_X12_refuse ln_X12_283 rfl (Nat.le_of_ble_eq_true rfl) (Nat.le_of_ble_eq_true rfl) (k_X12_refuse hX 2 s2 hp9) dX12_extreme_19 rfl rfl ?_
  have ho := Option.some.inj hf
  subst ho
  exact g_ireturn (pc := 22) (st := []) rfl dX12_extreme_22 hk
theorem k_X12_extreme {X : am_X} (hX : am_ks X = am_ksM) (v1 : Int32) (v2 : Int32) (v3 : Int32) (v4 : Bool) (v5 : Bool) (σ : am_H) {o : Int32 × am_H} (hf : f_X12_extreme v1 v2 v3 v4 v5 σ = some o) : am_C X gm_X12_extreme [.ref (am_ad X 12 0), .int v1, .int v2, .int v3, .int (am_b v4), .int (am_b v5)] σ (am_is (some (.int o.1)) o.2) :=
  am_ofG rfl (Nat.le_of_ble_eq_true rfl) rfl (q_X12_extreme hX v1 v2 v3 v4 v5 σ hf ⟨rfl, rfl⟩)
theorem dX12_bound_0 : decode cX12_bound 0 = .ok (.bipush 12, 2) := by decide +kernel
theorem dX12_bound_2 : decode cX12_bound 2 = .ok (.aload_n 0, 1) := by decide +kernel
theorem dX12_bound_3 : decode cX12_bound 3 = .ok (.getfield 44, 3) := by decide +kernel
theorem dX12_bound_6 : decode cX12_bound 6 = .ok (.iload_n 1, 1) := by decide +kernel
theorem dX12_bound_7 : decode cX12_bound 7 = .ok (.iaload, 1) := by decide +kernel
theorem dX12_bound_8 : decode cX12_bound 8 = .ok (.imul, 1) := by decide +kernel
theorem dX12_bound_9 : decode cX12_bound 9 = .ok (.istore 5, 2) := by decide +kernel
theorem dX12_bound_11 : decode cX12_bound 11 = .ok (.iconst 0, 1) := by decide +kernel
theorem dX12_bound_12 : decode cX12_bound 12 = .ok (.istore 6, 2) := by decide +kernel
theorem dX12_bound_14 : decode cX12_bound 14 = .ok (.iload 6, 2) := by decide +kernel
theorem dX12_bound_16 : decode cX12_bound 16 = .ok (.aload_n 0, 1) := by decide +kernel
theorem dX12_bound_17 : decode cX12_bound 17 = .ok (.getfield 35, 3) := by decide +kernel
theorem dX12_bound_20 : decode cX12_bound 20 = .ok (.iload_n 1, 1) := by decide +kernel
theorem dX12_bound_21 : decode cX12_bound 21 = .ok (.iaload, 1) := by decide +kernel
theorem dX12_bound_22 : decode cX12_bound 22 = .ok (.if_icmp .ge 98, 3) := by decide +kernel
theorem dX12_bound_25 : decode cX12_bound 25 = .ok (.aload_n 0, 1) := by decide +kernel
theorem dX12_bound_26 : decode cX12_bound 26 = .ok (.iload_n 1, 1) := by decide +kernel
theorem dX12_bound_27 : decode cX12_bound 27 = .ok (.iload 6, 2) := by decide +kernel
theorem dX12_bound_29 : decode cX12_bound 29 = .ok (.iload_n 2, 1) := by decide +kernel
theorem dX12_bound_30 : decode cX12_bound 30 = .ok (.invokevirtual 321, 3) := by decide +kernel
theorem dX12_bound_33 : decode cX12_bound 33 = .ok (.istore 7, 2) := by decide +kernel
theorem dX12_bound_35 : decode cX12_bound 35 = .ok (.iload 7, 2) := by decide +kernel
theorem dX12_bound_37 : decode cX12_bound 37 = .ok (.invokestatic 313, 3) := by decide +kernel
theorem dX12_bound_40 : decode cX12_bound 40 = .ok (.istore 8, 2) := by decide +kernel
theorem dX12_bound_42 : decode cX12_bound 42 = .ok (.iload_n 3, 1) := by decide +kernel
theorem dX12_bound_43 : decode cX12_bound 43 = .ok (.ineg, 1) := by decide +kernel
theorem dX12_bound_44 : decode cX12_bound 44 = .ok (.istore 9, 2) := by decide +kernel
theorem dX12_bound_46 : decode cX12_bound 46 = .ok (.iload 9, 2) := by decide +kernel
theorem dX12_bound_48 : decode cX12_bound 48 = .ok (.iload_n 3, 1) := by decide +kernel
theorem dX12_bound_49 : decode cX12_bound 49 = .ok (.if_icmp .gt 49, 3) := by decide +kernel
theorem dX12_bound_52 : decode cX12_bound 52 = .ok (.iload 7, 2) := by decide +kernel
theorem dX12_bound_54 : decode cX12_bound 54 = .ok (.iload 9, 2) := by decide +kernel
theorem dX12_bound_56 : decode cX12_bound 56 = .ok (.iadd, 1) := by decide +kernel
theorem dX12_bound_57 : decode cX12_bound 57 = .ok (.bipush 24, 2) := by decide +kernel
theorem dX12_bound_59 : decode cX12_bound 59 = .ok (.iadd, 1) := by decide +kernel
theorem dX12_bound_60 : decode cX12_bound 60 = .ok (.bipush 24, 2) := by decide +kernel
theorem dX12_bound_62 : decode cX12_bound 62 = .ok (.irem, 1) := by decide +kernel
theorem dX12_bound_63 : decode cX12_bound 63 = .ok (.invokestatic 313, 3) := by decide +kernel
theorem dX12_bound_66 : decode cX12_bound 66 = .ok (.istore 10, 2) := by decide +kernel
theorem dX12_bound_68 : decode cX12_bound 68 = .ok (.iload 4, 2) := by decide +kernel
theorem dX12_bound_70 : decode cX12_bound 70 = .ok (.ifCond .eq 13, 3) := by decide +kernel
theorem dX12_bound_73 : decode cX12_bound 73 = .ok (.iload 8, 2) := by decide +kernel
theorem dX12_bound_75 : decode cX12_bound 75 = .ok (.iload 10, 2) := by decide +kernel
theorem dX12_bound_77 : decode cX12_bound 77 = .ok (.invokestatic 438, 3) := by decide +kernel
theorem dX12_bound_80 : decode cX12_bound 80 = .ok (.goto 10, 3) := by decide +kernel
theorem dX12_bound_83 : decode cX12_bound 83 = .ok (.iload 8, 2) := by decide +kernel
theorem dX12_bound_85 : decode cX12_bound 85 = .ok (.iload 10, 2) := by decide +kernel
theorem dX12_bound_87 : decode cX12_bound 87 = .ok (.invokestatic 477, 3) := by decide +kernel
theorem dX12_bound_90 : decode cX12_bound 90 = .ok (.istore 8, 2) := by decide +kernel
theorem dX12_bound_92 : decode cX12_bound 92 = .ok (.iinc 9 1, 3) := by decide +kernel
theorem dX12_bound_95 : decode cX12_bound 95 = .ok (.goto (-49), 3) := by decide +kernel
theorem dX12_bound_98 : decode cX12_bound 98 = .ok (.iload 5, 2) := by decide +kernel
theorem dX12_bound_100 : decode cX12_bound 100 = .ok (.aload_n 0, 1) := by decide +kernel
theorem dX12_bound_101 : decode cX12_bound 101 = .ok (.iload_n 1, 1) := by decide +kernel
theorem dX12_bound_102 : decode cX12_bound 102 = .ok (.iload 6, 2) := by decide +kernel
theorem dX12_bound_104 : decode cX12_bound 104 = .ok (.iconst 2, 1) := by decide +kernel
theorem dX12_bound_105 : decode cX12_bound 105 = .ok (.invokevirtual 297, 3) := by decide +kernel
theorem dX12_bound_108 : decode cX12_bound 108 = .ok (.iload 8, 2) := by decide +kernel
theorem dX12_bound_110 : decode cX12_bound 110 = .ok (.imul, 1) := by decide +kernel
theorem dX12_bound_111 : decode cX12_bound 111 = .ok (.iadd, 1) := by decide +kernel
theorem dX12_bound_112 : decode cX12_bound 112 = .ok (.istore 5, 2) := by decide +kernel
theorem dX12_bound_114 : decode cX12_bound 114 = .ok (.iinc 6 1, 3) := by decide +kernel
theorem dX12_bound_117 : decode cX12_bound 117 = .ok (.goto (-103), 3) := by decide +kernel
theorem dX12_bound_120 : decode cX12_bound 120 = .ok (.iload 5, 2) := by decide +kernel
theorem dX12_bound_122 : decode cX12_bound 122 = .ok (.ireturn, 1) := by decide +kernel
noncomputable def f_X12_bound_46 (v1 : Int32) (v2 : Int32) (v3 : Int32) (v4 : Bool) (v5 : Int32) (v6 : Int32) (v7 : Int32) (v8 : Int32) (v9 : Int32) (σ : am_H) : Option ((Int32 × Int32) ⊕ (Int32)) :=
  if v3 < v9 then
   (some (.inr v8))
  else
  (f_X12_cosine (am_iR ((v7 + v9) + 24) 24) σ).bind fun p2 =>
  if v4 = true then
   (some (.inl ((am_mx v8 p2), (v9 + 1))))
  else
  some (.inl ((am_mn v8 p2), (v9 + 1)))
set_option maxRecDepth 100000 in
set_option maxHeartbeats 4000000 in
theorem q_X12_bound_46 {X : am_X} (hX : am_ks X = am_ksM) {Q : Option Value → am_H → Prop} (v1 : Int32) (v2 : Int32) (v3 : Int32) (v4 : Bool) (v5 : Int32) (v6 : Int32) (v7 : Int32) (v8 : Int32) (v9 : Int32) (σ : am_H) {o : (Int32 × Int32) ⊕ (Int32)} (hf : f_X12_bound_46 v1 v2 v3 v4 v5 v6 v7 v8 v9 σ = some o) (hk0 : ∀ s, o = .inl s → am_G X gm_X12_bound Q 46 [(0, .ref (am_ad X 12 0)), (1, .int v1), (2, .int v2), (3, .int v3), (4, .int (am_b v4)), (5, .int v5), (6, .int v6), (7, .int v7), (8, .int s.1), (9, .int s.2)] [] σ) (hk1 : ∀ t, o = .inr t → am_G X gm_X12_bound Q 98 [(0, .ref (am_ad X 12 0)), (1, .int v1), (2, .int v2), (3, .int v3), (4, .int (am_b v4)), (5, .int v5), (6, .int v6), (8, .int t)] [] σ) : am_G X gm_X12_bound Q 46 [(0, .ref (am_ad X 12 0)), (1, .int v1), (2, .int v2), (3, .int v3), (4, .int (am_b v4)), (5, .int v5), (6, .int v6), (7, .int v7), (8, .int v8), (9, .int v9)] [] σ := by
  unfold f_X12_bound_46 at hf
  refine g_iload (pc := 46) 9 rfl dX12_bound_46 ?_
  refine g_iload_n (pc := 48) 3 rfl dX12_bound_48 rfl ?_
  refine bi_gt (pc := 49) 98 dX12_bound_49 rfl (fun c1 => ?_) (fun c1 => ?_)
  · replace hf := am_ifT c1 hf
    have hz := hk1 _ (Option.some.inj hf).symm
    exact am_sub [0, 1, 2, 3, 4, 5, 6, 8] rfl hz
  replace hf := am_ifF c1 hf
  refine g_iload (pc := 52) 7 rfl dX12_bound_52 ?_
  refine g_iload (pc := 54) 9 rfl dX12_bound_54 ?_
  refine g_iadd (pc := 56) dX12_bound_56 ?_
  refine g_bipush (pc := 57) (v := 24) dX12_bound_57 (by decide) ?_
  refine g_iadd (pc := 59) dX12_bound_59 ?_
  refine g_bipush (pc := 60) (v := 24) dX12_bound_60 (by decide) ?_
  refine g_irem (pc := 62) dX12_bound_62 (by decide) ?_
  obtain ⟨p2, hp2, hf⟩ := am_bd hf
  refine g_cS (pc := 63) (As := [.int (am_iR ((v7 + v9) + 24) 24)]) (st := []) (st1 := [.int p2]) mS_X12_cosine ln_X12_313 rfl (Nat.le_of_ble_eq_true rfl) (Nat.le_of_ble_eq_true rfl) (k_X12_cosine hX (am_iR ((v7 + v9) + 24) 24) σ hp2) dX12_bound_63 rfl rfl ?_
  refine g_istore (pc := 66) [(10, .int p2), (0, .ref (am_ad X 12 0)), (1, .int v1), (2, .int v2), (3, .int v3), (4, .int (am_b v4)), (5, .int v5), (6, .int v6), (7, .int v7), (8, .int v8), (9, .int v9)] dX12_bound_66 (Nat.le_of_ble_eq_true rfl) rfl ?_
  refine g_iload (pc := 68) 5 rfl dX12_bound_68 ?_
  refine bt_eq (pc := 70) 83 dX12_bound_70 rfl (fun c3 => ?_) (fun c3 => ?_)
  · replace hf := am_ifT c3 hf
    refine g_iload (pc := 73) 9 rfl dX12_bound_73 ?_
    refine g_iload (pc := 75) 0 rfl dX12_bound_75 ?_
    refine g_mmax (pc := 77) (Nat.le_of_ble_eq_true rfl) (Nat.le_of_ble_eq_true rfl) sp_X12_438 dX12_bound_77 ?_
    refine g_goto (pc := 80) 90 dX12_bound_80 rfl ?_
    refine g_istore (pc := 90) [(8, .int (am_mx v8 p2)), (10, .int p2), (0, .ref (am_ad X 12 0)), (1, .int v1), (2, .int v2), (3, .int v3), (4, .int (am_b v4)), (5, .int v5), (6, .int v6), (7, .int v7), (9, .int v9)] dX12_bound_90 (Nat.le_of_ble_eq_true rfl) rfl ?_
    refine g_iinc (pc := 92) (v := (v9 + 1)) 10 [(9, .int (v9 + 1)), (8, .int (am_mx v8 p2)), (10, .int p2), (0, .ref (am_ad X 12 0)), (1, .int v1), (2, .int v2), (3, .int v3), (4, .int (am_b v4)), (5, .int v5), (6, .int v6), (7, .int v7)] dX12_bound_92 rfl rfl (Nat.le_of_ble_eq_true rfl) rfl ?_
    refine g_goto (pc := 95) 46 dX12_bound_95 rfl ?_
    have hz := hk0 _ (Option.some.inj hf).symm
    exact am_sub [3, 4, 5, 6, 7, 8, 9, 10, 1, 0] rfl hz
  replace hf := am_ifF c3 hf
  refine g_iload (pc := 83) 9 rfl dX12_bound_83 ?_
  refine g_iload (pc := 85) 0 rfl dX12_bound_85 ?_
  refine g_mmin (pc := 87) (Nat.le_of_ble_eq_true rfl) (Nat.le_of_ble_eq_true rfl) sp_X12_477 dX12_bound_87 ?_
  refine g_istore (pc := 90) [(8, .int (am_mn v8 p2)), (10, .int p2), (0, .ref (am_ad X 12 0)), (1, .int v1), (2, .int v2), (3, .int v3), (4, .int (am_b v4)), (5, .int v5), (6, .int v6), (7, .int v7), (9, .int v9)] dX12_bound_90 (Nat.le_of_ble_eq_true rfl) rfl ?_
  refine g_iinc (pc := 92) (v := (v9 + 1)) 10 [(9, .int (v9 + 1)), (8, .int (am_mn v8 p2)), (10, .int p2), (0, .ref (am_ad X 12 0)), (1, .int v1), (2, .int v2), (3, .int v3), (4, .int (am_b v4)), (5, .int v5), (6, .int v6), (7, .int v7)] dX12_bound_92 rfl rfl (Nat.le_of_ble_eq_true rfl) rfl ?_
  refine g_goto (pc := 95) 46 dX12_bound_95 rfl ?_
  have hz := hk0 _ (Option.some.inj hf).symm
  exact am_sub [3, 4, 5, 6, 7, 8, 9, 10, 1, 0] rfl hz
set_option maxRecDepth 100000 in
set_option maxHeartbeats 4000000 in
theorem l_X12_bound_46 {X : am_X} (hX : am_ks X = am_ksM) {Q : Option Value → am_H → Prop} (v1 : Int32) (v2 : Int32) (v3 : Int32) (v4 : Bool) (v5 : Int32) (v6 : Int32) (v7 : Int32) (σ : am_H) (s : Int32 × Int32) {o : Int32} (hf : am_loop (fun s => f_X12_bound_46 v1 v2 v3 v4 v5 v6 v7 s.1 s.2 σ) s = some o) (hk1 : ∀ t, o = t → am_G X gm_X12_bound Q 98 [(0, .ref (am_ad X 12 0)), (1, .int v1), (2, .int v2), (3, .int v3), (4, .int (am_b v4)), (5, .int v5), (6, .int v6), (8, .int t)] [] σ) : am_G X gm_X12_bound Q 46 [(0, .ref (am_ad X 12 0)), (1, .int v1), (2, .int v2), (3, .int v3), (4, .int (am_b v4)), (5, .int v5), (6, .int v6), (7, .int v7), (8, .int s.1), (9, .int s.2)] [] σ := by
  refine am_loop_ind (P := fun s => am_G X gm_X12_bound Q 46 [(0, .ref (am_ad X 12 0)), (1, .int v1), (2, .int v2), (3, .int v3), (4, .int (am_b v4)), (5, .int v5), (6, .int v6), (7, .int v7), (8, .int s.1), (9, .int s.2)] [] σ) (K := fun r => r = o) ?_ hf rfl
  intro s o1 hb hi hr
  exact q_X12_bound_46 hX v1 v2 v3 v4 v5 v6 v7 s.1 s.2  σ hb hi (fun t e => hk1 t (hr _ e).symm)
noncomputable def f_X12_bound_14 (v1 : Int32) (v2 : Int32) (v3 : Int32) (v4 : Bool) (v5 : Int32) (v6 : Int32) (σ : am_H) : Option ((Int32 × Int32) ⊕ (Int32)) :=
  (am_ix 3 v1).bind fun j1 =>
  if v6 < (σ.1 1320 0 j1) then
   ((f_X12_truePlace v1 v6 v2 σ).bind fun p3 =>
   (f_X12_cosine p3 σ).bind fun p4 =>
   (am_loop (fun s => f_X12_bound_46 v1 v2 v3 v4 v5 v6 p3 s.1 s.2 σ) (p4, (-v3))).bind fun w5 =>
   (f_X12_of v1 v6 2 σ).bind fun p6 =>
   some (.inl ((v5 + (p6 * w5)), (v6 + 1))))
  else
  some (.inr v5)
set_option maxRecDepth 100000 in
set_option maxHeartbeats 4000000 in
theorem q_X12_bound_14 {X : am_X} (hX : am_ks X = am_ksM) {Q : Option Value → am_H → Prop} (v1 : Int32) (v2 : Int32) (v3 : Int32) (v4 : Bool) (v5 : Int32) (v6 : Int32) (σ : am_H) {o : (Int32 × Int32) ⊕ (Int32)} (hf : f_X12_bound_14 v1 v2 v3 v4 v5 v6 σ = some o) (hk0 : ∀ s, o = .inl s → am_G X gm_X12_bound Q 14 [(0, .ref (am_ad X 12 0)), (1, .int v1), (2, .int v2), (3, .int v3), (4, .int (am_b v4)), (5, .int s.1), (6, .int s.2)] [] σ) (hk1 : ∀ t, o = .inr t → am_G X gm_X12_bound Q 120 [(5, .int t)] [] σ) : am_G X gm_X12_bound Q 14 [(0, .ref (am_ad X 12 0)), (1, .int v1), (2, .int v2), (3, .int v3), (4, .int (am_b v4)), (5, .int v5), (6, .int v6)] [] σ := by
  unfold f_X12_bound_14 at hf
  refine g_iload (pc := 14) 6 rfl dX12_bound_14 ?_
  refine g_aload_n (pc := 16) 0 rfl dX12_bound_16 rfl ?_
  refine g_getC (pc := 17) (e := 0) (in_12 hX (by omega)) fr_X12_35 dX12_bound_17 rfl ?_
  refine g_iload_n (pc := 20) 1 rfl dX12_bound_20 rfl ?_
  obtain ⟨j1, hj1, hf⟩ := am_bd hf
  have gj1 := am_ix_lt hj1
  refine g_aI (pc := 21) (in_1320 hX (by omega)) ak_1320 hj1 dX12_bound_21 ?_
  refine bi_ge (pc := 22) 120 dX12_bound_22 rfl (fun c2 => ?_) (fun c2 => ?_)
  · replace hf := am_ifT c2 hf
    refine g_aload_n (pc := 25) 0 rfl dX12_bound_25 rfl ?_
    refine g_iload_n (pc := 26) 1 rfl dX12_bound_26 rfl ?_
    refine g_iload (pc := 27) 6 rfl dX12_bound_27 ?_
    refine g_iload_n (pc := 29) 2 rfl dX12_bound_29 rfl ?_
    obtain ⟨p3, hp3, hf⟩ := am_bd hf
    refine g_cV (pc := 30) (As := [.int v1, .int v6, .int v2]) (st := []) (st1 := [.int p3]) (in_12 hX (by omega)) kk_12 mV_X12_truePlace ln_X12_321 rfl (Nat.le_of_ble_eq_true rfl) (Nat.le_of_ble_eq_true rfl) (k_X12_truePlace hX v1 v6 v2 σ hp3) dX12_bound_30 rfl rfl ?_
    refine g_istore (pc := 33) [(7, .int p3), (0, .ref (am_ad X 12 0)), (1, .int v1), (2, .int v2), (3, .int v3), (4, .int (am_b v4)), (5, .int v5), (6, .int v6)] dX12_bound_33 (Nat.le_of_ble_eq_true rfl) rfl ?_
    refine g_iload (pc := 35) 0 rfl dX12_bound_35 ?_
    obtain ⟨p4, hp4, hf⟩ := am_bd hf
    refine g_cS (pc := 37) (As := [.int p3]) (st := []) (st1 := [.int p4]) mS_X12_cosine ln_X12_313 rfl (Nat.le_of_ble_eq_true rfl) (Nat.le_of_ble_eq_true rfl) (k_X12_cosine hX p3 σ hp4) dX12_bound_37 rfl rfl ?_
    refine g_istore (pc := 40) [(8, .int p4), (7, .int p3), (0, .ref (am_ad X 12 0)), (1, .int v1), (2, .int v2), (3, .int v3), (4, .int (am_b v4)), (5, .int v5), (6, .int v6)] dX12_bound_40 (Nat.le_of_ble_eq_true rfl) rfl ?_
    refine g_iload_n (pc := 42) 5 rfl dX12_bound_42 rfl ?_
    refine g_ineg (pc := 43) dX12_bound_43 ?_
    refine g_istore (pc := 44) [(9, .int (-v3)), (8, .int p4), (7, .int p3), (0, .ref (am_ad X 12 0)), (1, .int v1), (2, .int v2), (3, .int v3), (4, .int (am_b v4)), (5, .int v5), (6, .int v6)] dX12_bound_44 (Nat.le_of_ble_eq_true rfl) rfl ?_
    obtain ⟨w5, hw5, hf⟩ := am_bd hf
    refine am_sub [3, 4, 5, 6, 7, 8, 9, 2, 1, 0] rfl (l_X12_bound_46 hX v1 v2 v3 v4 v5 v6 p3  σ (p4, (-v3)) hw5 ?_)
    intro t e
    subst e
    refine g_iload (pc := 98) 5 rfl dX12_bound_98 ?_
    refine g_aload_n (pc := 100) 0 rfl dX12_bound_100 rfl ?_
    refine g_iload_n (pc := 101) 1 rfl dX12_bound_101 rfl ?_
    refine g_iload (pc := 102) 6 rfl dX12_bound_102 ?_
    refine g_iconst (pc := 104) (v := 2) dX12_bound_104 (by decide) ?_
    obtain ⟨p6, hp6, hf⟩ := am_bd hf
    refine g_cV (pc := 105) (As := [.int v1, .int v6, .int 2]) (st := [.int v5]) (st1 := [.int p6, .int v5]) (in_12 hX (by omega)) kk_12 mV_X12_of ln_X12_297 rfl (Nat.le_of_ble_eq_true rfl) (Nat.le_of_ble_eq_true rfl) (k_X12_of hX v1 v6 2 σ hp6) dX12_bound_105 rfl rfl ?_
    refine g_iload (pc := 108) 7 rfl dX12_bound_108 ?_
    refine g_imul (pc := 110) dX12_bound_110 ?_
    refine g_iadd (pc := 111) dX12_bound_111 ?_
    refine g_istore (pc := 112) [(5, .int (v5 + (p6 * w5))), (0, .ref (am_ad X 12 0)), (1, .int v1), (2, .int v2), (3, .int v3), (4, .int (am_b v4)), (6, .int v6), (8, .int w5)] dX12_bound_112 (Nat.le_of_ble_eq_true rfl) rfl ?_
    refine g_iinc (pc := 114) (v := (v6 + 1)) 6 [(6, .int (v6 + 1)), (5, .int (v5 + (p6 * w5))), (0, .ref (am_ad X 12 0)), (1, .int v1), (2, .int v2), (3, .int v3), (4, .int (am_b v4)), (8, .int w5)] dX12_bound_114 rfl rfl (Nat.le_of_ble_eq_true rfl) rfl ?_
    refine g_goto (pc := 117) 14 dX12_bound_117 rfl ?_
    have hz := hk0 _ (Option.some.inj hf).symm
    exact am_sub [2, 3, 4, 5, 6, 1, 0] rfl hz
  replace hf := am_ifF c2 hf
  have hz := hk1 _ (Option.some.inj hf).symm
  exact am_sub [5] rfl hz
set_option maxRecDepth 100000 in
set_option maxHeartbeats 4000000 in
theorem l_X12_bound_14 {X : am_X} (hX : am_ks X = am_ksM) {Q : Option Value → am_H → Prop} (v1 : Int32) (v2 : Int32) (v3 : Int32) (v4 : Bool) (σ : am_H) (s : Int32 × Int32) {o : Int32} (hf : am_loop (fun s => f_X12_bound_14 v1 v2 v3 v4 s.1 s.2 σ) s = some o) (hk1 : ∀ t, o = t → am_G X gm_X12_bound Q 120 [(5, .int t)] [] σ) : am_G X gm_X12_bound Q 14 [(0, .ref (am_ad X 12 0)), (1, .int v1), (2, .int v2), (3, .int v3), (4, .int (am_b v4)), (5, .int s.1), (6, .int s.2)] [] σ := by
  refine am_loop_ind (P := fun s => am_G X gm_X12_bound Q 14 [(0, .ref (am_ad X 12 0)), (1, .int v1), (2, .int v2), (3, .int v3), (4, .int (am_b v4)), (5, .int s.1), (6, .int s.2)] [] σ) (K := fun r => r = o) ?_ hf rfl
  intro s o1 hb hi hr
  exact q_X12_bound_14 hX v1 v2 v3 v4 s.1 s.2  σ hb hi (fun t e => hk1 t (hr _ e).symm)
noncomputable def f_X12_bound (v1 : Int32) (v2 : Int32) (v3 : Int32) (v4 : Bool) (σ : am_H) : Option (Int32) :=
  (am_ix 3 v1).bind fun j1 =>
  (am_loop (fun s => f_X12_bound_14 v1 v2 v3 v4 s.1 s.2 σ) ((12 * (σ.1 1323 0 j1)), 0)).bind fun w2 =>
  some w2
set_option maxRecDepth 100000 in
set_option maxHeartbeats 4000000 in
theorem q_X12_bound {X : am_X} (hX : am_ks X = am_ksM) {Q : Option Value → am_H → Prop} (v1 : Int32) (v2 : Int32) (v3 : Int32) (v4 : Bool) (σ : am_H) {o : Int32} (hf : f_X12_bound v1 v2 v3 v4 σ = some o) (hk : Q (some (.int o)) σ) : am_G X gm_X12_bound Q 0 [(0, .ref (am_ad X 12 0)), (1, .int v1), (2, .int v2), (3, .int v3), (4, .int (am_b v4))] [] σ := by
  unfold f_X12_bound at hf
  refine g_bipush (pc := 0) (v := 12) dX12_bound_0 (by decide) ?_
  refine g_aload_n (pc := 2) 0 rfl dX12_bound_2 rfl ?_
  refine g_getC (pc := 3) (e := 0) (in_12 hX (by omega)) fr_X12_44 dX12_bound_3 rfl ?_
  refine g_iload_n (pc := 6) 1 rfl dX12_bound_6 rfl ?_
  obtain ⟨j1, hj1, hf⟩ := am_bd hf
  have gj1 := am_ix_lt hj1
  refine g_aI (pc := 7) (in_1323 hX (by omega)) ak_1323 hj1 dX12_bound_7 ?_
  refine g_imul (pc := 8) dX12_bound_8 ?_
  refine g_istore (pc := 9) [(5, .int (12 * (σ.1 1323 0 j1))), (0, .ref (am_ad X 12 0)), (1, .int v1), (2, .int v2), (3, .int v3), (4, .int (am_b v4))] dX12_bound_9 (Nat.le_of_ble_eq_true rfl) rfl ?_
  refine g_iconst (pc := 11) (v := 0) dX12_bound_11 (by decide) ?_
  refine g_istore (pc := 12) [(6, .int 0), (5, .int (12 * (σ.1 1323 0 j1))), (0, .ref (am_ad X 12 0)), (1, .int v1), (2, .int v2), (3, .int v3), (4, .int (am_b v4))] dX12_bound_12 (Nat.le_of_ble_eq_true rfl) rfl ?_
  obtain ⟨w2, hw2, hf⟩ := am_bd hf
  refine am_sub [2, 3, 4, 5, 6, 1, 0] rfl (l_X12_bound_14 hX v1 v2 v3 v4  σ ((12 * (σ.1 1323 0 j1)), 0) hw2 ?_)
  intro t e
  subst e
  refine g_iload (pc := 120) 0 rfl dX12_bound_120 ?_
  have ho := Option.some.inj hf
  subst ho
  exact g_ireturn (pc := 122) (st := []) rfl dX12_bound_122 hk
theorem k_X12_bound {X : am_X} (hX : am_ks X = am_ksM) (v1 : Int32) (v2 : Int32) (v3 : Int32) (v4 : Bool) (σ : am_H) {o : Int32} (hf : f_X12_bound v1 v2 v3 v4 σ = some o) : am_C X gm_X12_bound [.ref (am_ad X 12 0), .int v1, .int v2, .int v3, .int (am_b v4)] σ (am_is (some (.int o)) σ) :=
  am_ofG rfl (Nat.le_of_ble_eq_true rfl) rfl (q_X12_bound hX v1 v2 v3 v4 σ hf ⟨rfl, rfl⟩)
theorem dX12_bounds_0 : decode cX12_bounds 0 = .ok (.aload_n 0, 1) := by decide +kernel
theorem dX12_bounds_1 : decode cX12_bounds 1 = .ok (.iconst 0, 1) := by decide +kernel
theorem dX12_bounds_2 : decode cX12_bounds 2 = .ok (.putfield 122, 3) := by decide +kernel
theorem dX12_bounds_5 : decode cX12_bounds 5 = .ok (.aload_n 0, 1) := by decide +kernel
theorem dX12_bounds_6 : decode cX12_bounds 6 = .ok (.iconst 0, 1) := by decide +kernel
theorem dX12_bounds_7 : decode cX12_bounds 7 = .ok (.putfield 125, 3) := by decide +kernel
theorem dX12_bounds_10 : decode cX12_bounds 10 = .ok (.iload_n 1, 1) := by decide +kernel
theorem dX12_bounds_11 : decode cX12_bounds 11 = .ok (.invokestatic 280, 3) := by decide +kernel
theorem dX12_bounds_14 : decode cX12_bounds 14 = .ok (.ifCond .ne 9, 3) := by decide +kernel
theorem dX12_bounds_17 : decode cX12_bounds 17 = .ok (.aload_n 0, 1) := by decide +kernel
theorem dX12_bounds_18 : decode cX12_bounds 18 = .ok (.iconst 2, 1) := by decide +kernel
theorem dX12_bounds_19 : decode cX12_bounds 19 = .ok (.invokevirtual 283, 3) := by decide +kernel
theorem dX12_bounds_22 : decode cX12_bounds 22 = .ok (.ireturn, 1) := by decide +kernel
theorem dX12_bounds_23 : decode cX12_bounds 23 = .ok (.iload_n 2, 1) := by decide +kernel
theorem dX12_bounds_24 : decode cX12_bounds 24 = .ok (.invokestatic 331, 3) := by decide +kernel
theorem dX12_bounds_27 : decode cX12_bounds 27 = .ok (.ifCond .eq 47, 3) := by decide +kernel
theorem dX12_bounds_30 : decode cX12_bounds 30 = .ok (.iload_n 3, 1) := by decide +kernel
theorem dX12_bounds_31 : decode cX12_bounds 31 = .ok (.i2l, 1) := by decide +kernel
theorem dX12_bounds_32 : decode cX12_bounds 32 = .ok (.lconst 0, 1) := by decide +kernel
theorem dX12_bounds_33 : decode cX12_bounds 33 = .ok (.ldc2_w 480, 3) := by decide +kernel
theorem dX12_bounds_36 : decode cX12_bounds 36 = .ok (.invokestatic 239, 3) := by decide +kernel
theorem dX12_bounds_39 : decode cX12_bounds 39 = .ok (.ifCond .eq 35, 3) := by decide +kernel
theorem dX12_bounds_42 : decode cX12_bounds 42 = .ok (.iload 4, 2) := by decide +kernel
theorem dX12_bounds_44 : decode cX12_bounds 44 = .ok (.i2l, 1) := by decide +kernel
theorem dX12_bounds_45 : decode cX12_bounds 45 = .ok (.lconst 0, 1) := by decide +kernel
theorem dX12_bounds_46 : decode cX12_bounds 46 = .ok (.lconst 1, 1) := by decide +kernel
theorem dX12_bounds_47 : decode cX12_bounds 47 = .ok (.invokestatic 239, 3) := by decide +kernel
theorem dX12_bounds_50 : decode cX12_bounds 50 = .ok (.ifCond .eq 24, 3) := by decide +kernel
theorem dX12_bounds_53 : decode cX12_bounds 53 = .ok (.aload_n 0, 1) := by decide +kernel
theorem dX12_bounds_54 : decode cX12_bounds 54 = .ok (.iload_n 1, 1) := by decide +kernel
theorem dX12_bounds_55 : decode cX12_bounds 55 = .ok (.iload_n 2, 1) := by decide +kernel
theorem dX12_bounds_56 : decode cX12_bounds 56 = .ok (.iload_n 3, 1) := by decide +kernel
theorem dX12_bounds_57 : decode cX12_bounds 57 = .ok (.iload 4, 2) := by decide +kernel
theorem dX12_bounds_59 : decode cX12_bounds 59 = .ok (.iconst 1, 1) := by decide +kernel
theorem dX12_bounds_60 : decode cX12_bounds 60 = .ok (.if_icmp .ne 7, 3) := by decide +kernel
theorem dX12_bounds_63 : decode cX12_bounds 63 = .ok (.iconst 1, 1) := by decide +kernel
theorem dX12_bounds_64 : decode cX12_bounds 64 = .ok (.goto 4, 3) := by decide +kernel
theorem dX12_bounds_67 : decode cX12_bounds 67 = .ok (.iconst 0, 1) := by decide +kernel
theorem dX12_bounds_68 : decode cX12_bounds 68 = .ok (.invokevirtual 482, 3) := by decide +kernel
theorem dX12_bounds_71 : decode cX12_bounds 71 = .ok (.goto 8, 3) := by decide +kernel
theorem dX12_bounds_74 : decode cX12_bounds 74 = .ok (.aload_n 0, 1) := by decide +kernel
theorem dX12_bounds_75 : decode cX12_bounds 75 = .ok (.iconst 5, 1) := by decide +kernel
theorem dX12_bounds_76 : decode cX12_bounds 76 = .ok (.invokevirtual 283, 3) := by decide +kernel
theorem dX12_bounds_79 : decode cX12_bounds 79 = .ok (.ireturn, 1) := by decide +kernel
noncomputable def f_X12_bounds_68 (k1 : Int32) (k2 : Int32) (k3 : Int32) (k4 : Bool) (σ : am_H) : Option (Int32 × am_H) :=
  (f_X12_bound k1 k2 k3 k4 σ).bind fun p1 =>
  some (p1, σ)
set_option maxRecDepth 100000 in
set_option maxHeartbeats 4000000 in
theorem q_X12_bounds_68 {X : am_X} (hX : am_ks X = am_ksM) {Q : Option Value → am_H → Prop} (k1 : Int32) (k2 : Int32) (k3 : Int32) (k4 : Bool) (σ : am_H) {o : Int32 × am_H} (hf : f_X12_bounds_68 k1 k2 k3 k4 σ = some o) (hk : Q (some (.int o.1)) o.2) : am_G X gm_X12_bounds Q 68 [] [.int (am_b k4), .int k3, .int k2, .int k1, .ref (am_ad X 12 0)] σ := by
  unfold f_X12_bounds_68 at hf
  obtain ⟨p1, hp1, hf⟩ := am_bd hf
  refine g_cV (pc := 68) (As := [.int k1, .int k2, .int k3, .int (am_b k4)]) (st := []) (st1 := [.int p1]) (in_12 hX (by omega)) kk_12 mV_X12_bound ln_X12_482 rfl (Nat.le_of_ble_eq_true rfl) (Nat.le_of_ble_eq_true rfl) (k_X12_bound hX k1 k2 k3 k4 σ hp1) dX12_bounds_68 rfl rfl ?_
  refine g_goto (pc := 71) 79 dX12_bounds_71 rfl ?_
  have ho := Option.some.inj hf
  subst ho
  exact g_ireturn (pc := 79) (st := []) rfl dX12_bounds_79 hk
noncomputable def f_X12_bounds_74 (σ : am_H) : Option (Int32 × am_H) :=
  (f_X12_refuse 5 σ).bind fun p1 =>
  some (p1.1, p1.2)
set_option maxRecDepth 100000 in
set_option maxHeartbeats 4000000 in
theorem q_X12_bounds_74 {X : am_X} (hX : am_ks X = am_ksM) {Q : Option Value → am_H → Prop} (σ : am_H) {o : Int32 × am_H} (hf : f_X12_bounds_74 σ = some o) (hk : Q (some (.int o.1)) o.2) : am_G X gm_X12_bounds Q 74 [(0, .ref (am_ad X 12 0))] [] σ := by
  unfold f_X12_bounds_74 at hf
  refine g_aload_n (pc := 74) 0 rfl dX12_bounds_74 rfl ?_
  refine g_iconst (pc := 75) (v := 5) dX12_bounds_75 (by decide) ?_
  obtain ⟨p1, hp1, hf⟩ := am_bd hf
  refine g_cV (pc := 76) (As := [.int 5]) (st := []) (st1 := [.int p1.1]) (in_12 hX (by omega)) kk_12 mV_X12_refuse ln_X12_283 rfl (Nat.le_of_ble_eq_true rfl) (Nat.le_of_ble_eq_true rfl) (k_X12_refuse hX 5 σ hp1) dX12_bounds_76 rfl rfl ?_
  have ho := Option.some.inj hf
  subst ho
  exact g_ireturn (pc := 79) (st := []) rfl dX12_bounds_79 hk
noncomputable def f_X12_bounds (v1 : Int32) (v2 : Int32) (v3 : Int32) (v4 : Int32) (σ : am_H) : Option (Int32 × am_H) :=
  (some (am_wI σ 12 0 1 0)).bind fun s1 =>
  (some (am_wI s1 12 0 0 0)).bind fun s2 =>
  (f_X12_isMachine v1 s2).bind fun p3 =>
  if p3 = true then
   ((f_X12_isHour v2 s2).bind fun p5 =>
   if p5 = true then
    ((f_X12_isIn (Int32.toInt64 v3) 0 5 s2).bind fun p7 =>
    if p7 = true then
     ((f_X12_isIn (Int32.toInt64 v4) 0 1 s2).bind fun p9 =>
     if p9 = true then
      (if v4 = 1 then
       (f_X12_bounds_68 v1 v2 v3 true s2)
      else
      f_X12_bounds_68 v1 v2 v3 false s2)
     else
     f_X12_bounds_74 s2)
    else
    f_X12_bounds_74 s2)
   else
   f_X12_bounds_74 s2)
  else
  (f_X12_refuse 2 s2).bind fun p12 =>
  some (p12.1, p12.2)
set_option maxRecDepth 100000 in
set_option maxHeartbeats 4000000 in
theorem q_X12_bounds {X : am_X} (hX : am_ks X = am_ksM) {Q : Option Value → am_H → Prop} (v1 : Int32) (v2 : Int32) (v3 : Int32) (v4 : Int32) (σ : am_H) {o : Int32 × am_H} (hf : f_X12_bounds v1 v2 v3 v4 σ = some o) (hk : Q (some (.int o.1)) o.2) : am_G X gm_X12_bounds Q 0 [(0, .ref (am_ad X 12 0)), (1, .int v1), (2, .int v2), (3, .int v3), (4, .int v4)] [] σ := by
  unfold f_X12_bounds at hf
  refine g_aload_n (pc := 0) 0 rfl dX12_bounds_0 rfl ?_
  refine g_iconst (pc := 1) (v := 0) dX12_bounds_1 (by decide) ?_
  obtain ⟨s1, hs1, hf⟩ := am_bd hf
  refine g_setI (pc := 2) (in_12 hX (by omega)) fr_X12_122 dX12_bounds_2 (Option.some.inj hs1) ?_
  refine g_aload_n (pc := 5) 0 rfl dX12_bounds_5 rfl ?_
  refine g_iconst (pc := 6) (v := 0) dX12_bounds_6 (by decide) ?_
  obtain ⟨s2, hs2, hf⟩ := am_bd hf
  refine g_setI (pc := 7) (in_12 hX (by omega)) fr_X12_125 dX12_bounds_7 (Option.some.inj hs2) ?_
  refine g_iload_n (pc := 10) 1 rfl dX12_bounds_10 rfl ?_
  obtain ⟨p3, hp3, hf⟩ := am_bd hf
  refine g_cS (pc := 11) (As := [.int v1]) (st := []) (st1 := [.int (am_b p3)]) mS_X12_isMachine ln_X12_280 rfl (Nat.le_of_ble_eq_true rfl) (Nat.le_of_ble_eq_true rfl) (k_X12_isMachine hX v1 s2 hp3) dX12_bounds_11 rfl rfl ?_
  refine bt_ne (pc := 14) 23 dX12_bounds_14 rfl (fun c4 => ?_) (fun c4 => ?_)
  · replace hf := am_ifT c4 hf
    refine g_iload_n (pc := 23) 2 rfl dX12_bounds_23 rfl ?_
    obtain ⟨p5, hp5, hf⟩ := am_bd hf
    refine g_cS (pc := 24) (As := [.int v2]) (st := []) (st1 := [.int (am_b p5)]) mS_X12_isHour ln_X12_331 rfl (Nat.le_of_ble_eq_true rfl) (Nat.le_of_ble_eq_true rfl) (k_X12_isHour hX v2 s2 hp5) dX12_bounds_24 rfl rfl ?_
    refine bt_eq (pc := 27) 74 dX12_bounds_27 rfl (fun c6 => ?_) (fun c6 => ?_)
    · replace hf := am_ifT c6 hf
      refine g_iload_n (pc := 30) 3 rfl dX12_bounds_30 rfl ?_
      refine g_i2l (pc := 31) dX12_bounds_31 ?_
      refine g_lconst (pc := 32) (v := 0) dX12_bounds_32 (by decide) ?_
      refine g_ldc2 (pc := 33) (v := 5) (tb_9 (List.mem_of_getElem? (i := 227) (by decide +kernel))) dX12_bounds_33 ?_
      obtain ⟨p7, hp7, hf⟩ := am_bd hf
      refine g_cS (pc := 36) (As := [.long (Int32.toInt64 v3), .long 0, .long 5]) (st := []) (st1 := [.int (am_b p7)]) mS_X12_isIn ln_X12_239 rfl (Nat.le_of_ble_eq_true rfl) (Nat.le_of_ble_eq_true rfl) (k_X12_isIn hX (Int32.toInt64 v3) 0 5 s2 hp7) dX12_bounds_36 rfl rfl ?_
      refine bt_eq (pc := 39) 74 dX12_bounds_39 rfl (fun c8 => ?_) (fun c8 => ?_)
      · replace hf := am_ifT c8 hf
        refine g_iload (pc := 42) 4 rfl dX12_bounds_42 ?_
        refine g_i2l (pc := 44) dX12_bounds_44 ?_
        refine g_lconst (pc := 45) (v := 0) dX12_bounds_45 (by decide) ?_
        refine g_lconst (pc := 46) (v := 1) dX12_bounds_46 (by decide) ?_
        obtain ⟨p9, hp9, hf⟩ := am_bd hf
        refine g_cS (pc := 47) (As := [.long (Int32.toInt64 v4), .long 0, .long 1]) (st := []) (st1 := [.int (am_b p9)]) mS_X12_isIn ln_X12_239 rfl (Nat.le_of_ble_eq_true rfl) (Nat.le_of_ble_eq_true rfl) (k_X12_isIn hX (Int32.toInt64 v4) 0 1 s2 hp9) dX12_bounds_47 rfl rfl ?_
        refine bt_eq (pc := 50) 74 dX12_bounds_50 rfl (fun c10 => ?_) (fun c10 => ?_)
        · replace hf := am_ifT c10 hf
          refine g_aload_n (pc := 53) 0 rfl dX12_bounds_53 rfl ?_
          refine g_iload_n (pc := 54) 1 rfl dX12_bounds_54 rfl ?_
          refine g_iload_n (pc := 55) 2 rfl dX12_bounds_55 rfl ?_
          refine g_iload_n (pc := 56) 3 rfl dX12_bounds_56 rfl ?_
          refine g_iload (pc := 57) 4 rfl dX12_bounds_57 ?_
          refine g_iconst (pc := 59) (v := 1) dX12_bounds_59 (by decide) ?_
          refine bi_ne (pc := 60) 67 dX12_bounds_60 rfl (fun c11 => ?_) (fun c11 => ?_)
          · replace hf := am_ifT c11 hf
            refine g_iconst (pc := 63) (v := 1) dX12_bounds_63 (by decide) ?_
            refine g_goto (pc := 64) 68 dX12_bounds_64 rfl ?_
            exact am_sub [] rfl (q_X12_bounds_68 hX v1 v2 v3 true s2 hf hk)
          replace hf := am_ifF c11 hf
          refine g_iconst (pc := 67) (v := 0) dX12_bounds_67 (by decide) ?_
          exact am_sub [] rfl (q_X12_bounds_68 hX v1 v2 v3 false s2 hf hk)
        replace hf := am_ifF c10 hf
        exact am_sub [0] rfl (q_X12_bounds_74 hX s2 hf hk)
      replace hf := am_ifF c8 hf
      exact am_sub [0] rfl (q_X12_bounds_74 hX s2 hf hk)
    replace hf := am_ifF c6 hf
    exact am_sub [0] rfl (q_X12_bounds_74 hX s2 hf hk)
  replace hf := am_ifF c4 hf
  refine g_aload_n (pc := 17) 0 rfl dX12_bounds_17 rfl ?_
  refine g_iconst (pc := 18) (v := 2) dX12_bounds_18 (by decide) ?_
  obtain ⟨p12, hp12, hf⟩ := am_bd hf
  refine g_cV (pc := 19) (As := [.int 2]) (st := []) (st1 := [.int p12.1]) (in_12 hX (by omega)) kk_12 mV_X12_refuse ln_X12_283 rfl (Nat.le_of_ble_eq_true rfl) (Nat.le_of_ble_eq_true rfl) (k_X12_refuse hX 2 s2 hp12) dX12_bounds_19 rfl rfl ?_
  have ho := Option.some.inj hf
  subst ho
  exact g_ireturn (pc := 22) (st := []) rfl dX12_bounds_22 hk
theorem k_X12_bounds {X : am_X} (hX : am_ks X = am_ksM) (v1 : Int32) (v2 : Int32) (v3 : Int32) (v4 : Int32) (σ : am_H) {o : Int32 × am_H} (hf : f_X12_bounds v1 v2 v3 v4 σ = some o) : am_C X gm_X12_bounds [.ref (am_ad X 12 0), .int v1, .int v2, .int v3, .int v4] σ (am_is (some (.int o.1)) o.2) :=
  am_ofG rfl (Nat.le_of_ble_eq_true rfl) rfl (q_X12_bounds hX v1 v2 v3 v4 σ hf ⟨rfl, rfl⟩)
theorem dX12_ask_0 : decode cX12_ask 0 = .ok (.aload_n 0, 1) := by decide +kernel
theorem dX12_ask_1 : decode cX12_ask 1 = .ok (.iconst 0, 1) := by decide +kernel
theorem dX12_ask_2 : decode cX12_ask 2 = .ok (.putfield 122, 3) := by decide +kernel
theorem dX12_ask_5 : decode cX12_ask 5 = .ok (.aload_n 0, 1) := by decide +kernel
theorem dX12_ask_6 : decode cX12_ask 6 = .ok (.iconst 0, 1) := by decide +kernel
theorem dX12_ask_7 : decode cX12_ask 7 = .ok (.putfield 125, 3) := by decide +kernel
theorem dX12_ask_10 : decode cX12_ask 10 = .ok (.iload 5, 2) := by decide +kernel
theorem dX12_ask_12 : decode cX12_ask 12 = .ok (.iconst (-1), 1) := by decide +kernel
theorem dX12_ask_13 : decode cX12_ask 13 = .ok (.if_icmp .ge 9, 3) := by decide +kernel
theorem dX12_ask_16 : decode cX12_ask 16 = .ok (.aload_n 0, 1) := by decide +kernel
theorem dX12_ask_17 : decode cX12_ask 17 = .ok (.iconst 2, 1) := by decide +kernel
theorem dX12_ask_18 : decode cX12_ask 18 = .ok (.invokevirtual 137, 3) := by decide +kernel
theorem dX12_ask_21 : decode cX12_ask 21 = .ok (.ireturn, 1) := by decide +kernel
theorem dX12_ask_22 : decode cX12_ask 22 = .ok (.iload_n 1, 1) := by decide +kernel
theorem dX12_ask_23 : decode cX12_ask 23 = .ok (.i2l, 1) := by decide +kernel
theorem dX12_ask_24 : decode cX12_ask 24 = .ok (.ldc2_w 485, 3) := by decide +kernel
theorem dX12_ask_27 : decode cX12_ask 27 = .ok (.ldc2_w 295, 3) := by decide +kernel
theorem dX12_ask_30 : decode cX12_ask 30 = .ok (.invokestatic 239, 3) := by decide +kernel
theorem dX12_ask_33 : decode cX12_ask 33 = .ok (.ifCond .eq 67, 3) := by decide +kernel
theorem dX12_ask_36 : decode cX12_ask 36 = .ok (.iload_n 2, 1) := by decide +kernel
theorem dX12_ask_37 : decode cX12_ask 37 = .ok (.i2l, 1) := by decide +kernel
theorem dX12_ask_38 : decode cX12_ask 38 = .ok (.iload_n 1, 1) := by decide +kernel
theorem dX12_ask_39 : decode cX12_ask 39 = .ok (.i2l, 1) := by decide +kernel
theorem dX12_ask_40 : decode cX12_ask 40 = .ok (.ldc2_w 295, 3) := by decide +kernel
theorem dX12_ask_43 : decode cX12_ask 43 = .ok (.invokestatic 239, 3) := by decide +kernel
theorem dX12_ask_46 : decode cX12_ask 46 = .ok (.ifCond .eq 54, 3) := by decide +kernel
theorem dX12_ask_49 : decode cX12_ask 49 = .ok (.iload_n 3, 1) := by decide +kernel
theorem dX12_ask_50 : decode cX12_ask 50 = .ok (.i2l, 1) := by decide +kernel
theorem dX12_ask_51 : decode cX12_ask 51 = .ok (.lconst 0, 1) := by decide +kernel
theorem dX12_ask_52 : decode cX12_ask 52 = .ok (.ldc2_w 480, 3) := by decide +kernel
theorem dX12_ask_55 : decode cX12_ask 55 = .ok (.invokestatic 239, 3) := by decide +kernel
theorem dX12_ask_58 : decode cX12_ask 58 = .ok (.ifCond .eq 42, 3) := by decide +kernel
theorem dX12_ask_61 : decode cX12_ask 61 = .ok (.iload 6, 2) := by decide +kernel
theorem dX12_ask_63 : decode cX12_ask 63 = .ok (.i2l, 1) := by decide +kernel
theorem dX12_ask_64 : decode cX12_ask 64 = .ok (.lconst 0, 1) := by decide +kernel
theorem dX12_ask_65 : decode cX12_ask 65 = .ok (.ldc2_w 487, 3) := by decide +kernel
theorem dX12_ask_68 : decode cX12_ask 68 = .ok (.invokestatic 239, 3) := by decide +kernel
theorem dX12_ask_71 : decode cX12_ask 71 = .ok (.ifCond .eq 29, 3) := by decide +kernel
theorem dX12_ask_74 : decode cX12_ask 74 = .ok (.iload 7, 2) := by decide +kernel
theorem dX12_ask_76 : decode cX12_ask 76 = .ok (.i2l, 1) := by decide +kernel
theorem dX12_ask_77 : decode cX12_ask 77 = .ok (.lconst 0, 1) := by decide +kernel
theorem dX12_ask_78 : decode cX12_ask 78 = .ok (.ldc2_w 311, 3) := by decide +kernel
theorem dX12_ask_81 : decode cX12_ask 81 = .ok (.invokestatic 239, 3) := by decide +kernel
theorem dX12_ask_84 : decode cX12_ask 84 = .ok (.ifCond .eq 16, 3) := by decide +kernel
theorem dX12_ask_87 : decode cX12_ask 87 = .ok (.iload 8, 2) := by decide +kernel
theorem dX12_ask_89 : decode cX12_ask 89 = .ok (.i2l, 1) := by decide +kernel
theorem dX12_ask_90 : decode cX12_ask 90 = .ok (.lconst 0, 1) := by decide +kernel
theorem dX12_ask_91 : decode cX12_ask 91 = .ok (.ldc2_w 311, 3) := by decide +kernel
theorem dX12_ask_94 : decode cX12_ask 94 = .ok (.invokestatic 239, 3) := by decide +kernel
theorem dX12_ask_97 : decode cX12_ask 97 = .ok (.ifCond .ne 9, 3) := by decide +kernel
theorem dX12_ask_100 : decode cX12_ask 100 = .ok (.aload_n 0, 1) := by decide +kernel
theorem dX12_ask_101 : decode cX12_ask 101 = .ok (.iconst 5, 1) := by decide +kernel
theorem dX12_ask_102 : decode cX12_ask 102 = .ok (.invokevirtual 137, 3) := by decide +kernel
theorem dX12_ask_105 : decode cX12_ask 105 = .ok (.ireturn, 1) := by decide +kernel
theorem dX12_ask_106 : decode cX12_ask 106 = .ok (.aload_n 0, 1) := by decide +kernel
theorem dX12_ask_107 : decode cX12_ask 107 = .ok (.iload_n 1, 1) := by decide +kernel
theorem dX12_ask_108 : decode cX12_ask 108 = .ok (.putfield 489, 3) := by decide +kernel
theorem dX12_ask_111 : decode cX12_ask 111 = .ok (.aload_n 0, 1) := by decide +kernel
theorem dX12_ask_112 : decode cX12_ask 112 = .ok (.iload_n 2, 1) := by decide +kernel
theorem dX12_ask_113 : decode cX12_ask 113 = .ok (.putfield 492, 3) := by decide +kernel
theorem dX12_ask_116 : decode cX12_ask 116 = .ok (.aload_n 0, 1) := by decide +kernel
theorem dX12_ask_117 : decode cX12_ask 117 = .ok (.iload_n 3, 1) := by decide +kernel
theorem dX12_ask_118 : decode cX12_ask 118 = .ok (.putfield 495, 3) := by decide +kernel
theorem dX12_ask_121 : decode cX12_ask 121 = .ok (.aload_n 0, 1) := by decide +kernel
theorem dX12_ask_122 : decode cX12_ask 122 = .ok (.iload 4, 2) := by decide +kernel
theorem dX12_ask_124 : decode cX12_ask 124 = .ok (.putfield 498, 3) := by decide +kernel
theorem dX12_ask_127 : decode cX12_ask 127 = .ok (.aload_n 0, 1) := by decide +kernel
theorem dX12_ask_128 : decode cX12_ask 128 = .ok (.iload 5, 2) := by decide +kernel
theorem dX12_ask_130 : decode cX12_ask 130 = .ok (.putfield 68, 3) := by decide +kernel
theorem dX12_ask_133 : decode cX12_ask 133 = .ok (.aload_n 0, 1) := by decide +kernel
theorem dX12_ask_134 : decode cX12_ask 134 = .ok (.iload 6, 2) := by decide +kernel
theorem dX12_ask_136 : decode cX12_ask 136 = .ok (.putfield 501, 3) := by decide +kernel
theorem dX12_ask_139 : decode cX12_ask 139 = .ok (.aload_n 0, 1) := by decide +kernel
theorem dX12_ask_140 : decode cX12_ask 140 = .ok (.iload 7, 2) := by decide +kernel
theorem dX12_ask_142 : decode cX12_ask 142 = .ok (.putfield 504, 3) := by decide +kernel
theorem dX12_ask_145 : decode cX12_ask 145 = .ok (.aload_n 0, 1) := by decide +kernel
theorem dX12_ask_146 : decode cX12_ask 146 = .ok (.iload 8, 2) := by decide +kernel
theorem dX12_ask_148 : decode cX12_ask 148 = .ok (.putfield 71, 3) := by decide +kernel
theorem dX12_ask_151 : decode cX12_ask 151 = .ok (.iconst 1, 1) := by decide +kernel
theorem dX12_ask_152 : decode cX12_ask 152 = .ok (.ireturn, 1) := by decide +kernel
noncomputable def f_X12_ask_100 (σ : am_H) : Option (Bool × am_H) :=
  (f_X12_no 5 σ).bind fun p1 =>
  some (p1.1, p1.2)
set_option maxRecDepth 100000 in
set_option maxHeartbeats 4000000 in
theorem q_X12_ask_100 {X : am_X} (hX : am_ks X = am_ksM) {Q : Option Value → am_H → Prop} (σ : am_H) {o : Bool × am_H} (hf : f_X12_ask_100 σ = some o) (hk : Q (some (.int (am_b o.1))) o.2) : am_G X gm_X12_ask Q 100 [(0, .ref (am_ad X 12 0))] [] σ := by
  unfold f_X12_ask_100 at hf
  refine g_aload_n (pc := 100) 0 rfl dX12_ask_100 rfl ?_
  refine g_iconst (pc := 101) (v := 5) dX12_ask_101 (by decide) ?_
  obtain ⟨p1, hp1, hf⟩ := am_bd hf
  refine g_cV (pc := 102) (As := [.int 5]) (st := []) (st1 := [.int (am_b p1.1)]) (in_12 hX (by omega)) kk_12 mV_X12_no ln_X12_137 rfl (Nat.le_of_ble_eq_true rfl) (Nat.le_of_ble_eq_true rfl) (k_X12_no hX 5 σ hp1) dX12_ask_102 rfl rfl ?_
  have ho := Option.some.inj hf
  subst ho
  exact g_zreturn (pc := 105) (st := []) (x := p1.1) rfl dX12_ask_105 hk
noncomputable def f_X12_ask (v1 : Int32) (v2 : Int32) (v3 : Int32) (v4 : Bool) (v5 : Int32) (v6 : Int32) (v7 : Int32) (v8 : Int32) (σ : am_H) : Option (Bool × am_H) :=
  (some (am_wI σ 12 0 1 0)).bind fun s1 =>
  (some (am_wI s1 12 0 0 0)).bind fun s2 =>
  if v5 < (-1) then
   ((f_X12_no 2 s2).bind fun p4 =>
   some (p4.1, p4.2))
  else
  (f_X12_isIn (Int32.toInt64 v1) (-99999) 99999 s2).bind fun p5 =>
  if p5 = true then
   ((f_X12_isIn (Int32.toInt64 v2) (Int32.toInt64 v1) 99999 s2).bind fun p7 =>
   if p7 = true then
    ((f_X12_isIn (Int32.toInt64 v3) 0 5 s2).bind fun p9 =>
    if p9 = true then
     ((f_X12_isIn (Int32.toInt64 v6) 0 12 s2).bind fun p11 =>
     if p11 = true then
      ((f_X12_isIn (Int32.toInt64 v7) 0 23 s2).bind fun p13 =>
      if p13 = true then
       ((f_X12_isIn (Int32.toInt64 v8) 0 23 s2).bind fun p15 =>
       if p15 = true then
        ((some (am_wI s2 12 0 46 v1)).bind fun s17 =>
        (some (am_wI s17 12 0 47 v2)).bind fun s18 =>
        (some (am_wI s18 12 0 48 v3)).bind fun s19 =>
        (some (am_wI s19 12 0 53 (am_b v4))).bind fun s20 =>
        (some (am_wI s20 12 0 49 v5)).bind fun s21 =>
        (some (am_wI s21 12 0 50 v6)).bind fun s22 =>
        (some (am_wI s22 12 0 51 v7)).bind fun s23 =>
        (some (am_wI s23 12 0 52 v8)).bind fun s24 =>
        some (true, s24))
       else
       f_X12_ask_100 s2)
      else
      f_X12_ask_100 s2)
     else
     f_X12_ask_100 s2)
    else
    f_X12_ask_100 s2)
   else
   f_X12_ask_100 s2)
  else
  f_X12_ask_100 s2
set_option maxRecDepth 100000 in
set_option maxHeartbeats 4000000 in
theorem q_X12_ask {X : am_X} (hX : am_ks X = am_ksM) {Q : Option Value → am_H → Prop} (v1 : Int32) (v2 : Int32) (v3 : Int32) (v4 : Bool) (v5 : Int32) (v6 : Int32) (v7 : Int32) (v8 : Int32) (σ : am_H) {o : Bool × am_H} (hf : f_X12_ask v1 v2 v3 v4 v5 v6 v7 v8 σ = some o) (hk : Q (some (.int (am_b o.1))) o.2) : am_G X gm_X12_ask Q 0 [(0, .ref (am_ad X 12 0)), (1, .int v1), (2, .int v2), (3, .int v3), (4, .int (am_b v4)), (5, .int v5), (6, .int v6), (7, .int v7), (8, .int v8)] [] σ := by
  unfold f_X12_ask at hf
  refine g_aload_n (pc := 0) 0 rfl dX12_ask_0 rfl ?_
  refine g_iconst (pc := 1) (v := 0) dX12_ask_1 (by decide) ?_
  obtain ⟨s1, hs1, hf⟩ := am_bd hf
  refine g_setI (pc := 2) (in_12 hX (by omega)) fr_X12_122 dX12_ask_2 (Option.some.inj hs1) ?_
  refine g_aload_n (pc := 5) 0 rfl dX12_ask_5 rfl ?_
  refine g_iconst (pc := 6) (v := 0) dX12_ask_6 (by decide) ?_
  obtain ⟨s2, hs2, hf⟩ := am_bd hf
  refine g_setI (pc := 7) (in_12 hX (by omega)) fr_X12_125 dX12_ask_7 (Option.some.inj hs2) ?_
  refine g_iload (pc := 10) 5 rfl dX12_ask_10 ?_
  refine g_iconst (pc := 12) (v := (-1)) dX12_ask_12 (by decide) ?_
  refine bi_ge (pc := 13) 22 dX12_ask_13 rfl (fun c3 => ?_) (fun c3 => ?_)
  · replace hf := am_ifT c3 hf
    refine g_aload_n (pc := 16) 0 rfl dX12_ask_16 rfl ?_
    refine g_iconst (pc := 17) (v := 2) dX12_ask_17 (by decide) ?_
    obtain ⟨p4, hp4, hf⟩ := am_bd hf
    refine g_cV (pc := 18) (As := [.int 2]) (st := []) (st1 := [.int (am_b p4.1)]) (in_12 hX (by omega)) kk_12 mV_X12_no ln_X12_137 rfl (Nat.le_of_ble_eq_true rfl) (Nat.le_of_ble_eq_true rfl) (k_X12_no hX 2 s2 hp4) dX12_ask_18 rfl rfl ?_
    have ho := Option.some.inj hf
    subst ho
    exact g_zreturn (pc := 21) (st := []) (x := p4.1) rfl dX12_ask_21 hk
  replace hf := am_ifF c3 hf
  refine g_iload_n (pc := 22) 1 rfl dX12_ask_22 rfl ?_
  refine g_i2l (pc := 23) dX12_ask_23 ?_
  refine g_ldc2 (pc := 24) (v := (-99999)) (tb_9 (List.mem_of_getElem? (i := 237) (by decide +kernel))) dX12_ask_24 ?_
  refine g_ldc2 (pc := 27) (v := 99999) (tb_9 (List.mem_of_getElem? (i := 34) (by decide +kernel))) dX12_ask_27 ?_
  obtain ⟨p5, hp5, hf⟩ := am_bd hf
  refine g_cS (pc := 30) (As := [.long (Int32.toInt64 v1), .long (-99999), .long 99999]) (st := []) (st1 := [.int (am_b p5)]) mS_X12_isIn ln_X12_239 rfl (Nat.le_of_ble_eq_true rfl) (Nat.le_of_ble_eq_true rfl) (k_X12_isIn hX (Int32.toInt64 v1) (-99999) 99999 s2 hp5) dX12_ask_30 rfl rfl ?_
  refine bt_eq (pc := 33) 100 dX12_ask_33 rfl (fun c6 => ?_) (fun c6 => ?_)
  · replace hf := am_ifT c6 hf
    refine g_iload_n (pc := 36) 2 rfl dX12_ask_36 rfl ?_
    refine g_i2l (pc := 37) dX12_ask_37 ?_
    refine g_iload_n (pc := 38) 1 rfl dX12_ask_38 rfl ?_
    refine g_i2l (pc := 39) dX12_ask_39 ?_
    refine g_ldc2 (pc := 40) (v := 99999) (tb_9 (List.mem_of_getElem? (i := 34) (by decide +kernel))) dX12_ask_40 ?_
    obtain ⟨p7, hp7, hf⟩ := am_bd hf
    refine g_cS (pc := 43) (As := [.long (Int32.toInt64 v2), .long (Int32.toInt64 v1), .long 99999]) (st := []) (st1 := [.int (am_b p7)]) mS_X12_isIn ln_X12_239 rfl (Nat.le_of_ble_eq_true rfl) (Nat.le_of_ble_eq_true rfl) (k_X12_isIn hX (Int32.toInt64 v2) (Int32.toInt64 v1) 99999 s2 hp7) dX12_ask_43 rfl rfl ?_
    refine bt_eq (pc := 46) 100 dX12_ask_46 rfl (fun c8 => ?_) (fun c8 => ?_)
    · replace hf := am_ifT c8 hf
      refine g_iload_n (pc := 49) 3 rfl dX12_ask_49 rfl ?_
      refine g_i2l (pc := 50) dX12_ask_50 ?_
      refine g_lconst (pc := 51) (v := 0) dX12_ask_51 (by decide) ?_
      refine g_ldc2 (pc := 52) (v := 5) (tb_9 (List.mem_of_getElem? (i := 227) (by decide +kernel))) dX12_ask_52 ?_
      obtain ⟨p9, hp9, hf⟩ := am_bd hf
      refine g_cS (pc := 55) (As := [.long (Int32.toInt64 v3), .long 0, .long 5]) (st := []) (st1 := [.int (am_b p9)]) mS_X12_isIn ln_X12_239 rfl (Nat.le_of_ble_eq_true rfl) (Nat.le_of_ble_eq_true rfl) (k_X12_isIn hX (Int32.toInt64 v3) 0 5 s2 hp9) dX12_ask_55 rfl rfl ?_
      refine bt_eq (pc := 58) 100 dX12_ask_58 rfl (fun c10 => ?_) (fun c10 => ?_)
      · replace hf := am_ifT c10 hf
        refine g_iload (pc := 61) 6 rfl dX12_ask_61 ?_
        refine g_i2l (pc := 63) dX12_ask_63 ?_
        refine g_lconst (pc := 64) (v := 0) dX12_ask_64 (by decide) ?_
        refine g_ldc2 (pc := 65) (v := 12) (tb_9 (List.mem_of_getElem? (i := 238) (by decide +kernel))) dX12_ask_65 ?_
        obtain ⟨p11, hp11, hf⟩ := am_bd hf
        refine g_cS (pc := 68) (As := [.long (Int32.toInt64 v6), .long 0, .long 12]) (st := []) (st1 := [.int (am_b p11)]) mS_X12_isIn ln_X12_239 rfl (Nat.le_of_ble_eq_true rfl) (Nat.le_of_ble_eq_true rfl) (k_X12_isIn hX (Int32.toInt64 v6) 0 12 s2 hp11) dX12_ask_68 rfl rfl ?_
        refine bt_eq (pc := 71) 100 dX12_ask_71 rfl (fun c12 => ?_) (fun c12 => ?_)
        · replace hf := am_ifT c12 hf
          refine g_iload (pc := 74) 7 rfl dX12_ask_74 ?_
          refine g_i2l (pc := 76) dX12_ask_76 ?_
          refine g_lconst (pc := 77) (v := 0) dX12_ask_77 (by decide) ?_
          refine g_ldc2 (pc := 78) (v := 23) (tb_9 (List.mem_of_getElem? (i := 26) (by decide +kernel))) dX12_ask_78 ?_
          obtain ⟨p13, hp13, hf⟩ := am_bd hf
          refine g_cS (pc := 81) (As := [.long (Int32.toInt64 v7), .long 0, .long 23]) (st := []) (st1 := [.int (am_b p13)]) mS_X12_isIn ln_X12_239 rfl (Nat.le_of_ble_eq_true rfl) (Nat.le_of_ble_eq_true rfl) (k_X12_isIn hX (Int32.toInt64 v7) 0 23 s2 hp13) dX12_ask_81 rfl rfl ?_
          refine bt_eq (pc := 84) 100 dX12_ask_84 rfl (fun c14 => ?_) (fun c14 => ?_)
          · replace hf := am_ifT c14 hf
            refine g_iload (pc := 87) 8 rfl dX12_ask_87 ?_
            refine g_i2l (pc := 89) dX12_ask_89 ?_
            refine g_lconst (pc := 90) (v := 0) dX12_ask_90 (by decide) ?_
            refine g_ldc2 (pc := 91) (v := 23) (tb_9 (List.mem_of_getElem? (i := 26) (by decide +kernel))) dX12_ask_91 ?_
            obtain ⟨p15, hp15, hf⟩ := am_bd hf
            refine g_cS (pc := 94) (As := [.long (Int32.toInt64 v8), .long 0, .long 23]) (st := []) (st1 := [.int (am_b p15)]) mS_X12_isIn ln_X12_239 rfl (Nat.le_of_ble_eq_true rfl) (Nat.le_of_ble_eq_true rfl) (k_X12_isIn hX (Int32.toInt64 v8) 0 23 s2 hp15) dX12_ask_94 rfl rfl ?_
            refine bt_ne (pc := 97) 106 dX12_ask_97 rfl (fun c16 => ?_) (fun c16 => ?_)
            · replace hf := am_ifT c16 hf
              refine g_aload_n (pc := 106) 0 rfl dX12_ask_106 rfl ?_
              refine g_iload_n (pc := 107) 1 rfl dX12_ask_107 rfl ?_
              obtain ⟨s17, hs17, hf⟩ := am_bd hf
              refine g_setI (pc := 108) (in_12 hX (by omega)) fr_X12_489 dX12_ask_108 (Option.some.inj hs17) ?_
              refine g_aload_n (pc := 111) 0 rfl dX12_ask_111 rfl ?_
              refine g_iload_n (pc := 112) 2 rfl dX12_ask_112 rfl ?_
              obtain ⟨s18, hs18, hf⟩ := am_bd hf
              refine g_setI (pc := 113) (in_12 hX (by omega)) fr_X12_492 dX12_ask_113 (Option.some.inj hs18) ?_
              refine g_aload_n (pc := 116) 0 rfl dX12_ask_116 rfl ?_
              refine g_iload_n (pc := 117) 3 rfl dX12_ask_117 rfl ?_
              obtain ⟨s19, hs19, hf⟩ := am_bd hf
              refine g_setI (pc := 118) (in_12 hX (by omega)) fr_X12_495 dX12_ask_118 (Option.some.inj hs19) ?_
              refine g_aload_n (pc := 121) 0 rfl dX12_ask_121 rfl ?_
              refine g_iload (pc := 122) 4 rfl dX12_ask_122 ?_
              obtain ⟨s20, hs20, hf⟩ := am_bd hf
              refine g_setZ (x := v4) (pc := 124) (in_12 hX (by omega)) fr_X12_498 dX12_ask_124 (Option.some.inj hs20) ?_
              refine g_aload_n (pc := 127) 0 rfl dX12_ask_127 rfl ?_
              refine g_iload (pc := 128) 5 rfl dX12_ask_128 ?_
              obtain ⟨s21, hs21, hf⟩ := am_bd hf
              refine g_setI (pc := 130) (in_12 hX (by omega)) fr_X12_68 dX12_ask_130 (Option.some.inj hs21) ?_
              refine g_aload_n (pc := 133) 0 rfl dX12_ask_133 rfl ?_
              refine g_iload (pc := 134) 6 rfl dX12_ask_134 ?_
              obtain ⟨s22, hs22, hf⟩ := am_bd hf
              refine g_setI (pc := 136) (in_12 hX (by omega)) fr_X12_501 dX12_ask_136 (Option.some.inj hs22) ?_
              refine g_aload_n (pc := 139) 0 rfl dX12_ask_139 rfl ?_
              refine g_iload (pc := 140) 7 rfl dX12_ask_140 ?_
              obtain ⟨s23, hs23, hf⟩ := am_bd hf
              refine g_setI (pc := 142) (in_12 hX (by omega)) fr_X12_504 dX12_ask_142 (Option.some.inj hs23) ?_
              refine g_aload_n (pc := 145) 0 rfl dX12_ask_145 rfl ?_
              refine g_iload (pc := 146) 8 rfl dX12_ask_146 ?_
              obtain ⟨s24, hs24, hf⟩ := am_bd hf
              refine g_setI (pc := 148) (in_12 hX (by omega)) fr_X12_71 dX12_ask_148 (Option.some.inj hs24) ?_
              refine g_iconst (pc := 151) (v := 1) dX12_ask_151 (by decide) ?_
              have ho := Option.some.inj hf
              subst ho
              exact g_zreturn (pc := 152) (st := []) (x := true) rfl dX12_ask_152 hk
            replace hf := am_ifF c16 hf
            exact am_sub [0] rfl (q_X12_ask_100 hX s2 hf hk)
          replace hf := am_ifF c14 hf
          exact am_sub [0] rfl (q_X12_ask_100 hX s2 hf hk)
        replace hf := am_ifF c12 hf
        exact am_sub [0] rfl (q_X12_ask_100 hX s2 hf hk)
      replace hf := am_ifF c10 hf
      exact am_sub [0] rfl (q_X12_ask_100 hX s2 hf hk)
    replace hf := am_ifF c8 hf
    exact am_sub [0] rfl (q_X12_ask_100 hX s2 hf hk)
  replace hf := am_ifF c6 hf
  exact am_sub [0] rfl (q_X12_ask_100 hX s2 hf hk)
theorem k_X12_ask {X : am_X} (hX : am_ks X = am_ksM) (v1 : Int32) (v2 : Int32) (v3 : Int32) (v4 : Bool) (v5 : Int32) (v6 : Int32) (v7 : Int32) (v8 : Int32) (σ : am_H) {o : Bool × am_H} (hf : f_X12_ask v1 v2 v3 v4 v5 v6 v7 v8 σ = some o) : am_C X gm_X12_ask [.ref (am_ad X 12 0), .int v1, .int v2, .int v3, .int (am_b v4), .int v5, .int v6, .int v7, .int v8] σ (am_is (some (.int (am_b o.1))) o.2) :=
  am_ofG rfl (Nat.le_of_ble_eq_true rfl) rfl (q_X12_ask hX v1 v2 v3 v4 v5 v6 v7 v8 σ hf ⟨rfl, rfl⟩)
theorem dX12_lands_0 : decode cX12_lands 0 = .ok (.aload_n 0, 1) := by decide +kernel
theorem dX12_lands_1 : decode cX12_lands 1 = .ok (.iload_n 1, 1) := by decide +kernel
theorem dX12_lands_2 : decode cX12_lands 2 = .ok (.iload_n 2, 1) := by decide +kernel
theorem dX12_lands_3 : decode cX12_lands 3 = .ok (.aload_n 0, 1) := by decide +kernel
theorem dX12_lands_4 : decode cX12_lands 4 = .ok (.getfield 495, 3) := by decide +kernel
theorem dX12_lands_7 : decode cX12_lands 7 = .ok (.iconst 0, 1) := by decide +kernel
theorem dX12_lands_8 : decode cX12_lands 8 = .ok (.invokevirtual 482, 3) := by decide +kernel
theorem dX12_lands_11 : decode cX12_lands 11 = .ok (.aload_n 0, 1) := by decide +kernel
theorem dX12_lands_12 : decode cX12_lands 12 = .ok (.getfield 489, 3) := by decide +kernel
theorem dX12_lands_15 : decode cX12_lands 15 = .ok (.if_icmp .lt 21, 3) := by decide +kernel
theorem dX12_lands_18 : decode cX12_lands 18 = .ok (.aload_n 0, 1) := by decide +kernel
theorem dX12_lands_19 : decode cX12_lands 19 = .ok (.iload_n 1, 1) := by decide +kernel
theorem dX12_lands_20 : decode cX12_lands 20 = .ok (.iload_n 2, 1) := by decide +kernel
theorem dX12_lands_21 : decode cX12_lands 21 = .ok (.aload_n 0, 1) := by decide +kernel
theorem dX12_lands_22 : decode cX12_lands 22 = .ok (.getfield 495, 3) := by decide +kernel
theorem dX12_lands_25 : decode cX12_lands 25 = .ok (.iconst 1, 1) := by decide +kernel
theorem dX12_lands_26 : decode cX12_lands 26 = .ok (.invokevirtual 482, 3) := by decide +kernel
theorem dX12_lands_29 : decode cX12_lands 29 = .ok (.aload_n 0, 1) := by decide +kernel
theorem dX12_lands_30 : decode cX12_lands 30 = .ok (.getfield 492, 3) := by decide +kernel
theorem dX12_lands_33 : decode cX12_lands 33 = .ok (.if_icmp .le 5, 3) := by decide +kernel
theorem dX12_lands_36 : decode cX12_lands 36 = .ok (.iconst 0, 1) := by decide +kernel
theorem dX12_lands_37 : decode cX12_lands 37 = .ok (.ireturn, 1) := by decide +kernel
theorem dX12_lands_38 : decode cX12_lands 38 = .ok (.aload_n 0, 1) := by decide +kernel
theorem dX12_lands_39 : decode cX12_lands 39 = .ok (.getfield 498, 3) := by decide +kernel
theorem dX12_lands_42 : decode cX12_lands 42 = .ok (.ifCond .eq 24, 3) := by decide +kernel
theorem dX12_lands_45 : decode cX12_lands 45 = .ok (.aload_n 0, 1) := by decide +kernel
theorem dX12_lands_46 : decode cX12_lands 46 = .ok (.iload_n 1, 1) := by decide +kernel
theorem dX12_lands_47 : decode cX12_lands 47 = .ok (.iload_n 2, 1) := by decide +kernel
theorem dX12_lands_48 : decode cX12_lands 48 = .ok (.iconst 1, 1) := by decide +kernel
theorem dX12_lands_49 : decode cX12_lands 49 = .ok (.iadd, 1) := by decide +kernel
theorem dX12_lands_50 : decode cX12_lands 50 = .ok (.iconst 0, 1) := by decide +kernel
theorem dX12_lands_51 : decode cX12_lands 51 = .ok (.invokevirtual 334, 3) := by decide +kernel
theorem dX12_lands_54 : decode cX12_lands 54 = .ok (.aload_n 0, 1) := by decide +kernel
theorem dX12_lands_55 : decode cX12_lands 55 = .ok (.iload_n 1, 1) := by decide +kernel
theorem dX12_lands_56 : decode cX12_lands 56 = .ok (.iload_n 2, 1) := by decide +kernel
theorem dX12_lands_57 : decode cX12_lands 57 = .ok (.iconst 0, 1) := by decide +kernel
theorem dX12_lands_58 : decode cX12_lands 58 = .ok (.invokevirtual 334, 3) := by decide +kernel
theorem dX12_lands_61 : decode cX12_lands 61 = .ok (.if_icmp .gt 5, 3) := by decide +kernel
theorem dX12_lands_64 : decode cX12_lands 64 = .ok (.iconst 0, 1) := by decide +kernel
theorem dX12_lands_65 : decode cX12_lands 65 = .ok (.ireturn, 1) := by decide +kernel
theorem dX12_lands_66 : decode cX12_lands 66 = .ok (.aload_n 0, 1) := by decide +kernel
theorem dX12_lands_67 : decode cX12_lands 67 = .ok (.getfield 68, 3) := by decide +kernel
theorem dX12_lands_70 : decode cX12_lands 70 = .ok (.ifCond .lt 28, 3) := by decide +kernel
theorem dX12_lands_73 : decode cX12_lands 73 = .ok (.aload_n 0, 1) := by decide +kernel
theorem dX12_lands_74 : decode cX12_lands 74 = .ok (.iload_n 1, 1) := by decide +kernel
theorem dX12_lands_75 : decode cX12_lands 75 = .ok (.aload_n 0, 1) := by decide +kernel
theorem dX12_lands_76 : decode cX12_lands 76 = .ok (.getfield 68, 3) := by decide +kernel
theorem dX12_lands_79 : decode cX12_lands 79 = .ok (.iload_n 2, 1) := by decide +kernel
theorem dX12_lands_80 : decode cX12_lands 80 = .ok (.invokevirtual 321, 3) := by decide +kernel
theorem dX12_lands_83 : decode cX12_lands 83 = .ok (.bipush 12, 2) := by decide +kernel
theorem dX12_lands_85 : decode cX12_lands 85 = .ok (.isub, 1) := by decide +kernel
theorem dX12_lands_86 : decode cX12_lands 86 = .ok (.invokestatic 507, 3) := by decide +kernel
theorem dX12_lands_89 : decode cX12_lands 89 = .ok (.aload_n 0, 1) := by decide +kernel
theorem dX12_lands_90 : decode cX12_lands 90 = .ok (.getfield 501, 3) := by decide +kernel
theorem dX12_lands_93 : decode cX12_lands 93 = .ok (.if_icmp .le 5, 3) := by decide +kernel
theorem dX12_lands_96 : decode cX12_lands 96 = .ok (.iconst 0, 1) := by decide +kernel
theorem dX12_lands_97 : decode cX12_lands 97 = .ok (.ireturn, 1) := by decide +kernel
theorem dX12_lands_98 : decode cX12_lands 98 = .ok (.iload_n 2, 1) := by decide +kernel
theorem dX12_lands_99 : decode cX12_lands 99 = .ok (.bipush 24, 2) := by decide +kernel
theorem dX12_lands_101 : decode cX12_lands 101 = .ok (.irem, 1) := by decide +kernel
theorem dX12_lands_102 : decode cX12_lands 102 = .ok (.istore_n 3, 1) := by decide +kernel
theorem dX12_lands_103 : decode cX12_lands 103 = .ok (.aload_n 0, 1) := by decide +kernel
theorem dX12_lands_104 : decode cX12_lands 104 = .ok (.getfield 504, 3) := by decide +kernel
theorem dX12_lands_107 : decode cX12_lands 107 = .ok (.aload_n 0, 1) := by decide +kernel
theorem dX12_lands_108 : decode cX12_lands 108 = .ok (.getfield 71, 3) := by decide +kernel
theorem dX12_lands_111 : decode cX12_lands 111 = .ok (.if_icmp .gt 21, 3) := by decide +kernel
theorem dX12_lands_114 : decode cX12_lands 114 = .ok (.iload_n 3, 1) := by decide +kernel
theorem dX12_lands_115 : decode cX12_lands 115 = .ok (.i2l, 1) := by decide +kernel
theorem dX12_lands_116 : decode cX12_lands 116 = .ok (.aload_n 0, 1) := by decide +kernel
theorem dX12_lands_117 : decode cX12_lands 117 = .ok (.getfield 504, 3) := by decide +kernel
theorem dX12_lands_120 : decode cX12_lands 120 = .ok (.i2l, 1) := by decide +kernel
theorem dX12_lands_121 : decode cX12_lands 121 = .ok (.aload_n 0, 1) := by decide +kernel
theorem dX12_lands_122 : decode cX12_lands 122 = .ok (.getfield 71, 3) := by decide +kernel
theorem dX12_lands_125 : decode cX12_lands 125 = .ok (.i2l, 1) := by decide +kernel
theorem dX12_lands_126 : decode cX12_lands 126 = .ok (.invokestatic 239, 3) := by decide +kernel
theorem dX12_lands_129 : decode cX12_lands 129 = .ok (.goto 24, 3) := by decide +kernel
theorem dX12_lands_132 : decode cX12_lands 132 = .ok (.iload_n 3, 1) := by decide +kernel
theorem dX12_lands_133 : decode cX12_lands 133 = .ok (.aload_n 0, 1) := by decide +kernel
theorem dX12_lands_134 : decode cX12_lands 134 = .ok (.getfield 504, 3) := by decide +kernel
theorem dX12_lands_137 : decode cX12_lands 137 = .ok (.if_icmp .ge 11, 3) := by decide +kernel
theorem dX12_lands_140 : decode cX12_lands 140 = .ok (.iload_n 3, 1) := by decide +kernel
theorem dX12_lands_141 : decode cX12_lands 141 = .ok (.aload_n 0, 1) := by decide +kernel
theorem dX12_lands_142 : decode cX12_lands 142 = .ok (.getfield 71, 3) := by decide +kernel
theorem dX12_lands_145 : decode cX12_lands 145 = .ok (.if_icmp .gt 7, 3) := by decide +kernel
theorem dX12_lands_148 : decode cX12_lands 148 = .ok (.iconst 1, 1) := by decide +kernel
theorem dX12_lands_149 : decode cX12_lands 149 = .ok (.goto 4, 3) := by decide +kernel
theorem dX12_lands_152 : decode cX12_lands 152 = .ok (.iconst 0, 1) := by decide +kernel
theorem dX12_lands_153 : decode cX12_lands 153 = .ok (.ireturn, 1) := by decide +kernel
noncomputable def f_X12_lands_98 (v2 : Int32) (σ : am_H) : Option (Bool) :=
  if (σ.1 12 0 52) < (σ.1 12 0 51) then
   (if (am_iR v2 24) < (σ.1 12 0 51) then
    (if (σ.1 12 0 52) < (am_iR v2 24) then
     (some false)
    else
    some true)
   else
   some true)
  else
  (f_X12_isIn (Int32.toInt64 (am_iR v2 24)) (Int32.toInt64 (σ.1 12 0 51)) (Int32.toInt64 (σ.1 12 0 52)) σ).bind fun p4 =>
  some p4
set_option maxRecDepth 100000 in
set_option maxHeartbeats 4000000 in
theorem q_X12_lands_98 {X : am_X} (hX : am_ks X = am_ksM) {Q : Option Value → am_H → Prop} (v2 : Int32) (σ : am_H) {o : Bool} (hf : f_X12_lands_98 v2 σ = some o) (hk : Q (some (.int (am_b o))) σ) : am_G X gm_X12_lands Q 98 [(0, .ref (am_ad X 12 0)), (2, .int v2)] [] σ := by
  unfold f_X12_lands_98 at hf
  refine g_iload_n (pc := 98) 1 rfl dX12_lands_98 rfl ?_
  refine g_bipush (pc := 99) (v := 24) dX12_lands_99 (by decide) ?_
  refine g_irem (pc := 101) dX12_lands_101 (by decide) ?_
  refine g_istore_n (pc := 102) [(3, .int (am_iR v2 24)), (0, .ref (am_ad X 12 0)), (2, .int v2)] dX12_lands_102 rfl (Nat.le_of_ble_eq_true rfl) rfl ?_
  refine g_aload_n (pc := 103) 1 rfl dX12_lands_103 rfl ?_
  refine g_getI (pc := 104) (in_12 hX (by omega)) fr_X12_504 dX12_lands_104 ?_
  refine g_aload_n (pc := 107) 1 rfl dX12_lands_107 rfl ?_
  refine g_getI (pc := 108) (in_12 hX (by omega)) fr_X12_71 dX12_lands_108 ?_
  refine bi_gt (pc := 111) 132 dX12_lands_111 rfl (fun c1 => ?_) (fun c1 => ?_)
  · replace hf := am_ifT c1 hf
    refine g_iload_n (pc := 132) 0 rfl dX12_lands_132 rfl ?_
    refine g_aload_n (pc := 133) 1 rfl dX12_lands_133 rfl ?_
    refine g_getI (pc := 134) (in_12 hX (by omega)) fr_X12_504 dX12_lands_134 ?_
    refine bi_ge (pc := 137) 148 dX12_lands_137 rfl (fun c2 => ?_) (fun c2 => ?_)
    · replace hf := am_ifT c2 hf
      refine g_iload_n (pc := 140) 0 rfl dX12_lands_140 rfl ?_
      refine g_aload_n (pc := 141) 1 rfl dX12_lands_141 rfl ?_
      refine g_getI (pc := 142) (in_12 hX (by omega)) fr_X12_71 dX12_lands_142 ?_
      refine bi_gt (pc := 145) 152 dX12_lands_145 rfl (fun c3 => ?_) (fun c3 => ?_)
      · replace hf := am_ifT c3 hf
        refine g_iconst (pc := 152) (v := 0) dX12_lands_152 (by decide) ?_
        have ho := Option.some.inj hf
        subst ho
        exact g_zreturn (pc := 153) (st := []) (x := false) rfl dX12_lands_153 hk
      replace hf := am_ifF c3 hf
      refine g_iconst (pc := 148) (v := 1) dX12_lands_148 (by decide) ?_
      refine g_goto (pc := 149) 153 dX12_lands_149 rfl ?_
      have ho := Option.some.inj hf
      subst ho
      exact g_zreturn (pc := 153) (st := []) (x := true) rfl dX12_lands_153 hk
    replace hf := am_ifF c2 hf
    refine g_iconst (pc := 148) (v := 1) dX12_lands_148 (by decide) ?_
    refine g_goto (pc := 149) 153 dX12_lands_149 rfl ?_
    have ho := Option.some.inj hf
    subst ho
    exact g_zreturn (pc := 153) (st := []) (x := true) rfl dX12_lands_153 hk
  replace hf := am_ifF c1 hf
  refine g_iload_n (pc := 114) 0 rfl dX12_lands_114 rfl ?_
  refine g_i2l (pc := 115) dX12_lands_115 ?_
  refine g_aload_n (pc := 116) 1 rfl dX12_lands_116 rfl ?_
  refine g_getI (pc := 117) (in_12 hX (by omega)) fr_X12_504 dX12_lands_117 ?_
  refine g_i2l (pc := 120) dX12_lands_120 ?_
  refine g_aload_n (pc := 121) 1 rfl dX12_lands_121 rfl ?_
  refine g_getI (pc := 122) (in_12 hX (by omega)) fr_X12_71 dX12_lands_122 ?_
  refine g_i2l (pc := 125) dX12_lands_125 ?_
  obtain ⟨p4, hp4, hf⟩ := am_bd hf
  refine g_cS (pc := 126) (As := [.long (Int32.toInt64 (am_iR v2 24)), .long (Int32.toInt64 (σ.1 12 0 51)), .long (Int32.toInt64 (σ.1 12 0 52))]) (st := []) (st1 := [.int (am_b p4)]) mS_X12_isIn ln_X12_239 rfl (Nat.le_of_ble_eq_true rfl) (Nat.le_of_ble_eq_true rfl) (k_X12_isIn hX (Int32.toInt64 (am_iR v2 24)) (Int32.toInt64 (σ.1 12 0 51)) (Int32.toInt64 (σ.1 12 0 52)) σ hp4) dX12_lands_126 rfl rfl ?_
  refine g_goto (pc := 129) 153 dX12_lands_129 rfl ?_
  have ho := Option.some.inj hf
  subst ho
  exact g_zreturn (pc := 153) (st := []) (x := p4) rfl dX12_lands_153 hk
noncomputable def f_X12_lands_66 (v1 : Int32) (v2 : Int32) (σ : am_H) : Option (Bool) :=
  if (σ.1 12 0 49) < 0 then
   (f_X12_lands_98 v2 σ)
  else
  (f_X12_truePlace v1 (σ.1 12 0 49) v2 σ).bind fun p2 =>
  if (σ.1 12 0 50) < (am_ab (p2 - 12)) then
   (some false)
  else
  f_X12_lands_98 v2 σ
set_option maxRecDepth 100000 in
set_option maxHeartbeats 4000000 in
theorem q_X12_lands_66 {X : am_X} (hX : am_ks X = am_ksM) {Q : Option Value → am_H → Prop} (v1 : Int32) (v2 : Int32) (σ : am_H) {o : Bool} (hf : f_X12_lands_66 v1 v2 σ = some o) (hk : Q (some (.int (am_b o))) σ) : am_G X gm_X12_lands Q 66 [(0, .ref (am_ad X 12 0)), (1, .int v1), (2, .int v2)] [] σ := by
  unfold f_X12_lands_66 at hf
  refine g_aload_n (pc := 66) 0 rfl dX12_lands_66 rfl ?_
  refine g_getI (pc := 67) (in_12 hX (by omega)) fr_X12_68 dX12_lands_67 ?_
  refine bz_lt (pc := 70) 98 dX12_lands_70 rfl (fun c1 => ?_) (fun c1 => ?_)
  · replace hf := am_ifT c1 hf
    exact am_sub [0, 2] rfl (q_X12_lands_98 hX v2 σ hf hk)
  replace hf := am_ifF c1 hf
  refine g_aload_n (pc := 73) 0 rfl dX12_lands_73 rfl ?_
  refine g_iload_n (pc := 74) 1 rfl dX12_lands_74 rfl ?_
  refine g_aload_n (pc := 75) 0 rfl dX12_lands_75 rfl ?_
  refine g_getI (pc := 76) (in_12 hX (by omega)) fr_X12_68 dX12_lands_76 ?_
  refine g_iload_n (pc := 79) 2 rfl dX12_lands_79 rfl ?_
  obtain ⟨p2, hp2, hf⟩ := am_bd hf
  refine g_cV (pc := 80) (As := [.int v1, .int (σ.1 12 0 49), .int v2]) (st := []) (st1 := [.int p2]) (in_12 hX (by omega)) kk_12 mV_X12_truePlace ln_X12_321 rfl (Nat.le_of_ble_eq_true rfl) (Nat.le_of_ble_eq_true rfl) (k_X12_truePlace hX v1 (σ.1 12 0 49) v2 σ hp2) dX12_lands_80 rfl rfl ?_
  refine g_bipush (pc := 83) (v := 12) dX12_lands_83 (by decide) ?_
  refine g_isub (pc := 85) dX12_lands_85 ?_
  refine g_mabs (pc := 86) (Nat.le_of_ble_eq_true rfl) (Nat.le_of_ble_eq_true rfl) sp_X12_507 dX12_lands_86 ?_
  refine g_aload_n (pc := 89) 0 rfl dX12_lands_89 rfl ?_
  refine g_getI (pc := 90) (in_12 hX (by omega)) fr_X12_501 dX12_lands_90 ?_
  refine bi_le (pc := 93) 98 dX12_lands_93 rfl (fun c3 => ?_) (fun c3 => ?_)
  · replace hf := am_ifT c3 hf
    refine g_iconst (pc := 96) (v := 0) dX12_lands_96 (by decide) ?_
    have ho := Option.some.inj hf
    subst ho
    exact g_zreturn (pc := 97) (st := []) (x := false) rfl dX12_lands_97 hk
  replace hf := am_ifF c3 hf
  exact am_sub [0, 2] rfl (q_X12_lands_98 hX v2 σ hf hk)
noncomputable def f_X12_lands (v1 : Int32) (v2 : Int32) (σ : am_H) : Option (Bool) :=
  (f_X12_bound v1 v2 (σ.1 12 0 48) false σ).bind fun p1 =>
  if p1 < (σ.1 12 0 46) then
   (some false)
  else
  (f_X12_bound v1 v2 (σ.1 12 0 48) true σ).bind fun p3 =>
  if (σ.1 12 0 47) < p3 then
   (some false)
  else
  if (σ.1 12 0 53) = 0 then
   (f_X12_lands_66 v1 v2 σ)
  else
  (f_X12_heightOf v1 (v2 + 1) false σ).bind fun p6 =>
  (f_X12_heightOf v1 v2 false σ).bind fun p7 =>
  if p7 < p6 then
   (f_X12_lands_66 v1 v2 σ)
  else
  some false
set_option maxRecDepth 100000 in
set_option maxHeartbeats 4000000 in
theorem q_X12_lands {X : am_X} (hX : am_ks X = am_ksM) {Q : Option Value → am_H → Prop} (v1 : Int32) (v2 : Int32) (σ : am_H) {o : Bool} (hf : f_X12_lands v1 v2 σ = some o) (hk : Q (some (.int (am_b o))) σ) : am_G X gm_X12_lands Q 0 [(0, .ref (am_ad X 12 0)), (1, .int v1), (2, .int v2)] [] σ := by
  unfold f_X12_lands at hf
  refine g_aload_n (pc := 0) 0 rfl dX12_lands_0 rfl ?_
  refine g_iload_n (pc := 1) 1 rfl dX12_lands_1 rfl ?_
  refine g_iload_n (pc := 2) 2 rfl dX12_lands_2 rfl ?_
  refine g_aload_n (pc := 3) 0 rfl dX12_lands_3 rfl ?_
  refine g_getI (pc := 4) (in_12 hX (by omega)) fr_X12_495 dX12_lands_4 ?_
  refine g_iconst (pc := 7) (v := 0) dX12_lands_7 (by decide) ?_
  obtain ⟨p1, hp1, hf⟩ := am_bd hf
  refine g_cV (pc := 8) (As := [.int v1, .int v2, .int (σ.1 12 0 48), .int (am_b false)]) (st := []) (st1 := [.int p1]) (in_12 hX (by omega)) kk_12 mV_X12_bound ln_X12_482 rfl (Nat.le_of_ble_eq_true rfl) (Nat.le_of_ble_eq_true rfl) (k_X12_bound hX v1 v2 (σ.1 12 0 48) false σ hp1) dX12_lands_8 rfl rfl ?_
  refine g_aload_n (pc := 11) 0 rfl dX12_lands_11 rfl ?_
  refine g_getI (pc := 12) (in_12 hX (by omega)) fr_X12_489 dX12_lands_12 ?_
  refine bi_lt (pc := 15) 36 dX12_lands_15 rfl (fun c2 => ?_) (fun c2 => ?_)
  · replace hf := am_ifT c2 hf
    refine g_iconst (pc := 36) (v := 0) dX12_lands_36 (by decide) ?_
    have ho := Option.some.inj hf
    subst ho
    exact g_zreturn (pc := 37) (st := []) (x := false) rfl dX12_lands_37 hk
  replace hf := am_ifF c2 hf
  refine g_aload_n (pc := 18) 0 rfl dX12_lands_18 rfl ?_
  refine g_iload_n (pc := 19) 1 rfl dX12_lands_19 rfl ?_
  refine g_iload_n (pc := 20) 2 rfl dX12_lands_20 rfl ?_
  refine g_aload_n (pc := 21) 0 rfl dX12_lands_21 rfl ?_
  refine g_getI (pc := 22) (in_12 hX (by omega)) fr_X12_495 dX12_lands_22 ?_
  refine g_iconst (pc := 25) (v := 1) dX12_lands_25 (by decide) ?_
  obtain ⟨p3, hp3, hf⟩ := am_bd hf
  refine g_cV (pc := 26) (As := [.int v1, .int v2, .int (σ.1 12 0 48), .int (am_b true)]) (st := []) (st1 := [.int p3]) (in_12 hX (by omega)) kk_12 mV_X12_bound ln_X12_482 rfl (Nat.le_of_ble_eq_true rfl) (Nat.le_of_ble_eq_true rfl) (k_X12_bound hX v1 v2 (σ.1 12 0 48) true σ hp3) dX12_lands_26 rfl rfl ?_
  refine g_aload_n (pc := 29) 0 rfl dX12_lands_29 rfl ?_
  refine g_getI (pc := 30) (in_12 hX (by omega)) fr_X12_492 dX12_lands_30 ?_
  refine bi_le (pc := 33) 38 dX12_lands_33 rfl (fun c4 => ?_) (fun c4 => ?_)
  · replace hf := am_ifT c4 hf
    refine g_iconst (pc := 36) (v := 0) dX12_lands_36 (by decide) ?_
    have ho := Option.some.inj hf
    subst ho
    exact g_zreturn (pc := 37) (st := []) (x := false) rfl dX12_lands_37 hk
  replace hf := am_ifF c4 hf
  refine g_aload_n (pc := 38) 0 rfl dX12_lands_38 rfl ?_
  refine g_getZ (pc := 39) (in_12 hX (by omega)) fr_X12_498 dX12_lands_39 ?_
  refine bz_eq (pc := 42) 66 dX12_lands_42 rfl (fun c5 => ?_) (fun c5 => ?_)
  · replace hf := am_ifT c5 hf
    exact q_X12_lands_66 hX v1 v2 σ hf hk
  replace hf := am_ifF c5 hf
  refine g_aload_n (pc := 45) 0 rfl dX12_lands_45 rfl ?_
  refine g_iload_n (pc := 46) 1 rfl dX12_lands_46 rfl ?_
  refine g_iload_n (pc := 47) 2 rfl dX12_lands_47 rfl ?_
  refine g_iconst (pc := 48) (v := 1) dX12_lands_48 (by decide) ?_
  refine g_iadd (pc := 49) dX12_lands_49 ?_
  refine g_iconst (pc := 50) (v := 0) dX12_lands_50 (by decide) ?_
  obtain ⟨p6, hp6, hf⟩ := am_bd hf
  refine g_cV (pc := 51) (As := [.int v1, .int (v2 + 1), .int (am_b false)]) (st := []) (st1 := [.int p6]) (in_12 hX (by omega)) kk_12 mV_X12_heightOf ln_X12_334 rfl (Nat.le_of_ble_eq_true rfl) (Nat.le_of_ble_eq_true rfl) (k_X12_heightOf hX v1 (v2 + 1) false σ hp6) dX12_lands_51 rfl rfl ?_
  refine g_aload_n (pc := 54) 0 rfl dX12_lands_54 rfl ?_
  refine g_iload_n (pc := 55) 1 rfl dX12_lands_55 rfl ?_
  refine g_iload_n (pc := 56) 2 rfl dX12_lands_56 rfl ?_
  refine g_iconst (pc := 57) (v := 0) dX12_lands_57 (by decide) ?_
  obtain ⟨p7, hp7, hf⟩ := am_bd hf
  refine g_cV (pc := 58) (As := [.int v1, .int v2, .int (am_b false)]) (st := [.int p6]) (st1 := [.int p7, .int p6]) (in_12 hX (by omega)) kk_12 mV_X12_heightOf ln_X12_334 rfl (Nat.le_of_ble_eq_true rfl) (Nat.le_of_ble_eq_true rfl) (k_X12_heightOf hX v1 v2 false σ hp7) dX12_lands_58 rfl rfl ?_
  refine bi_gt (pc := 61) 66 dX12_lands_61 rfl (fun c8 => ?_) (fun c8 => ?_)
  · replace hf := am_ifT c8 hf
    exact q_X12_lands_66 hX v1 v2 σ hf hk
  replace hf := am_ifF c8 hf
  refine g_iconst (pc := 64) (v := 0) dX12_lands_64 (by decide) ?_
  have ho := Option.some.inj hf
  subst ho
  exact g_zreturn (pc := 65) (st := []) (x := false) rfl dX12_lands_65 hk
theorem k_X12_lands {X : am_X} (hX : am_ks X = am_ksM) (v1 : Int32) (v2 : Int32) (σ : am_H) {o : Bool} (hf : f_X12_lands v1 v2 σ = some o) : am_C X gm_X12_lands [.ref (am_ad X 12 0), .int v1, .int v2] σ (am_is (some (.int (am_b o))) σ) :=
  am_ofG rfl (Nat.le_of_ble_eq_true rfl) rfl (q_X12_lands hX v1 v2 σ hf ⟨rfl, rfl⟩)
theorem dX12_landing_0 : decode cX12_landing 0 = .ok (.aload_n 0, 1) := by decide +kernel
theorem dX12_landing_1 : decode cX12_landing 1 = .ok (.iconst 0, 1) := by decide +kernel
theorem dX12_landing_2 : decode cX12_landing 2 = .ok (.putfield 122, 3) := by decide +kernel
theorem dX12_landing_5 : decode cX12_landing 5 = .ok (.aload_n 0, 1) := by decide +kernel
theorem dX12_landing_6 : decode cX12_landing 6 = .ok (.iconst 0, 1) := by decide +kernel
theorem dX12_landing_7 : decode cX12_landing 7 = .ok (.putfield 125, 3) := by decide +kernel
theorem dX12_landing_10 : decode cX12_landing 10 = .ok (.iload_n 1, 1) := by decide +kernel
theorem dX12_landing_11 : decode cX12_landing 11 = .ok (.invokestatic 280, 3) := by decide +kernel
theorem dX12_landing_14 : decode cX12_landing 14 = .ok (.ifCond .eq 16, 3) := by decide +kernel
theorem dX12_landing_17 : decode cX12_landing 17 = .ok (.aload_n 0, 1) := by decide +kernel
theorem dX12_landing_18 : decode cX12_landing 18 = .ok (.getfield 68, 3) := by decide +kernel
theorem dX12_landing_21 : decode cX12_landing 21 = .ok (.aload_n 0, 1) := by decide +kernel
theorem dX12_landing_22 : decode cX12_landing 22 = .ok (.getfield 35, 3) := by decide +kernel
theorem dX12_landing_25 : decode cX12_landing 25 = .ok (.iload_n 1, 1) := by decide +kernel
theorem dX12_landing_26 : decode cX12_landing 26 = .ok (.iaload, 1) := by decide +kernel
theorem dX12_landing_27 : decode cX12_landing 27 = .ok (.if_icmp .lt 9, 3) := by decide +kernel
theorem dX12_landing_30 : decode cX12_landing 30 = .ok (.aload_n 0, 1) := by decide +kernel
theorem dX12_landing_31 : decode cX12_landing 31 = .ok (.iconst 2, 1) := by decide +kernel
theorem dX12_landing_32 : decode cX12_landing 32 = .ok (.invokevirtual 283, 3) := by decide +kernel
theorem dX12_landing_35 : decode cX12_landing 35 = .ok (.ireturn, 1) := by decide +kernel
theorem dX12_landing_36 : decode cX12_landing 36 = .ok (.iload_n 2, 1) := by decide +kernel
theorem dX12_landing_37 : decode cX12_landing 37 = .ok (.iload_n 3, 1) := by decide +kernel
theorem dX12_landing_38 : decode cX12_landing 38 = .ok (.sipush 2000, 3) := by decide +kernel
theorem dX12_landing_41 : decode cX12_landing 41 = .ok (.invokestatic 474, 3) := by decide +kernel
theorem dX12_landing_44 : decode cX12_landing 44 = .ok (.ifCond .ne 9, 3) := by decide +kernel
theorem dX12_landing_47 : decode cX12_landing 47 = .ok (.aload_n 0, 1) := by decide +kernel
theorem dX12_landing_48 : decode cX12_landing 48 = .ok (.iconst 5, 1) := by decide +kernel
theorem dX12_landing_49 : decode cX12_landing 49 = .ok (.invokevirtual 283, 3) := by decide +kernel
theorem dX12_landing_52 : decode cX12_landing 52 = .ok (.ireturn, 1) := by decide +kernel
theorem dX12_landing_53 : decode cX12_landing 53 = .ok (.iload_n 2, 1) := by decide +kernel
theorem dX12_landing_54 : decode cX12_landing 54 = .ok (.istore 4, 2) := by decide +kernel
theorem dX12_landing_56 : decode cX12_landing 56 = .ok (.iload 4, 2) := by decide +kernel
theorem dX12_landing_58 : decode cX12_landing 58 = .ok (.iload_n 3, 1) := by decide +kernel
theorem dX12_landing_59 : decode cX12_landing 59 = .ok (.if_icmp .gt 22, 3) := by decide +kernel
theorem dX12_landing_62 : decode cX12_landing 62 = .ok (.aload_n 0, 1) := by decide +kernel
theorem dX12_landing_63 : decode cX12_landing 63 = .ok (.iload_n 1, 1) := by decide +kernel
theorem dX12_landing_64 : decode cX12_landing 64 = .ok (.iload 4, 2) := by decide +kernel
theorem dX12_landing_66 : decode cX12_landing 66 = .ok (.invokevirtual 509, 3) := by decide +kernel
theorem dX12_landing_69 : decode cX12_landing 69 = .ok (.ifCond .eq 6, 3) := by decide +kernel
theorem dX12_landing_72 : decode cX12_landing 72 = .ok (.iload 4, 2) := by decide +kernel
theorem dX12_landing_74 : decode cX12_landing 74 = .ok (.ireturn, 1) := by decide +kernel
theorem dX12_landing_75 : decode cX12_landing 75 = .ok (.iinc 4 1, 3) := by decide +kernel
theorem dX12_landing_78 : decode cX12_landing 78 = .ok (.goto (-22), 3) := by decide +kernel
theorem dX12_landing_81 : decode cX12_landing 81 = .ok (.aload_n 0, 1) := by decide +kernel
theorem dX12_landing_82 : decode cX12_landing 82 = .ok (.bipush 8, 2) := by decide +kernel
theorem dX12_landing_84 : decode cX12_landing 84 = .ok (.invokevirtual 283, 3) := by decide +kernel
theorem dX12_landing_87 : decode cX12_landing 87 = .ok (.ireturn, 1) := by decide +kernel
noncomputable def f_X12_landing_56 (v1 : Int32) (v3 : Int32) (v4 : Int32) (σ : am_H) : Option ((Int32) ⊕ ((Int32) ⊕ (Unit))) :=
  if v3 < v4 then
   (some (.inr (.inr ())))
  else
  (f_X12_lands v1 v4 σ).bind fun p2 =>
  if p2 = true then
   (some (.inr (.inl v4)))
  else
  some (.inl (v4 + 1))
set_option maxRecDepth 100000 in
set_option maxHeartbeats 4000000 in
theorem q_X12_landing_56 {X : am_X} (hX : am_ks X = am_ksM) {Q : Option Value → am_H → Prop} (v1 : Int32) (v3 : Int32) (v4 : Int32) (σ : am_H) {o : (Int32) ⊕ ((Int32) ⊕ (Unit))} (hf : f_X12_landing_56 v1 v3 v4 σ = some o) (hk0 : ∀ s, o = .inl s → am_G X gm_X12_landing Q 56 [(0, .ref (am_ad X 12 0)), (1, .int v1), (3, .int v3), (4, .int s)] [] σ) (hk1 : ∀ t, o = .inr (.inl t) → am_G X gm_X12_landing Q 72 [(4, .int t)] [] σ) (hk2 : ∀ t, o = .inr (.inr t) → am_G X gm_X12_landing Q 81 [(0, .ref (am_ad X 12 0))] [] σ) : am_G X gm_X12_landing Q 56 [(0, .ref (am_ad X 12 0)), (1, .int v1), (3, .int v3), (4, .int v4)] [] σ := by
  unfold f_X12_landing_56 at hf
  refine g_iload (pc := 56) 3 rfl dX12_landing_56 ?_
  refine g_iload_n (pc := 58) 2 rfl dX12_landing_58 rfl ?_
  refine bi_gt (pc := 59) 81 dX12_landing_59 rfl (fun c1 => ?_) (fun c1 => ?_)
  · replace hf := am_ifT c1 hf
    have hz := hk2 _ (Option.some.inj hf).symm
    exact am_sub [0] rfl hz
  replace hf := am_ifF c1 hf
  refine g_aload_n (pc := 62) 0 rfl dX12_landing_62 rfl ?_
  refine g_iload_n (pc := 63) 1 rfl dX12_landing_63 rfl ?_
  refine g_iload (pc := 64) 3 rfl dX12_landing_64 ?_
  obtain ⟨p2, hp2, hf⟩ := am_bd hf
  refine g_cV (pc := 66) (As := [.int v1, .int v4]) (st := []) (st1 := [.int (am_b p2)]) (in_12 hX (by omega)) kk_12 mV_X12_lands ln_X12_509 rfl (Nat.le_of_ble_eq_true rfl) (Nat.le_of_ble_eq_true rfl) (k_X12_lands hX v1 v4 σ hp2) dX12_landing_66 rfl rfl ?_
  refine bt_eq (pc := 69) 75 dX12_landing_69 rfl (fun c3 => ?_) (fun c3 => ?_)
  · replace hf := am_ifT c3 hf
    have hz := hk1 _ (Option.some.inj hf).symm
    exact am_sub [3] rfl hz
  replace hf := am_ifF c3 hf
  refine g_iinc (pc := 75) (v := (v4 + 1)) 3 [(4, .int (v4 + 1)), (0, .ref (am_ad X 12 0)), (1, .int v1), (3, .int v3)] dX12_landing_75 rfl rfl (Nat.le_of_ble_eq_true rfl) rfl ?_
  refine g_goto (pc := 78) 56 dX12_landing_78 rfl ?_
  have hz := hk0 _ (Option.some.inj hf).symm
  exact am_sub [1, 2, 3, 0] rfl hz
set_option maxRecDepth 100000 in
set_option maxHeartbeats 4000000 in
theorem l_X12_landing_56 {X : am_X} (hX : am_ks X = am_ksM) {Q : Option Value → am_H → Prop} (v1 : Int32) (v3 : Int32) (σ : am_H) (s : Int32) {o : (Int32) ⊕ (Unit)} (hf : am_loop (fun s => f_X12_landing_56 v1 v3 s σ) s = some o) (hk1 : ∀ t, o = (.inl t) → am_G X gm_X12_landing Q 72 [(4, .int t)] [] σ) (hk2 : ∀ t, o = (.inr t) → am_G X gm_X12_landing Q 81 [(0, .ref (am_ad X 12 0))] [] σ) : am_G X gm_X12_landing Q 56 [(0, .ref (am_ad X 12 0)), (1, .int v1), (3, .int v3), (4, .int s)] [] σ := by
  refine am_loop_ind (P := fun s => am_G X gm_X12_landing Q 56 [(0, .ref (am_ad X 12 0)), (1, .int v1), (3, .int v3), (4, .int s)] [] σ) (K := fun r => r = o) ?_ hf rfl
  intro s o1 hb hi hr
  exact q_X12_landing_56 hX v1 v3 s  σ hb hi (fun t e => hk1 t (hr _ e).symm) (fun t e => hk2 t (hr _ e).symm)
noncomputable def f_X12_landing_30 (σ : am_H) : Option (Int32 × am_H) :=
  (f_X12_refuse 2 σ).bind fun p1 =>
  some (p1.1, p1.2)
set_option maxRecDepth 100000 in
set_option maxHeartbeats 4000000 in
theorem q_X12_landing_30 {X : am_X} (hX : am_ks X = am_ksM) {Q : Option Value → am_H → Prop} (σ : am_H) {o : Int32 × am_H} (hf : f_X12_landing_30 σ = some o) (hk : Q (some (.int o.1)) o.2) : am_G X gm_X12_landing Q 30 [(0, .ref (am_ad X 12 0))] [] σ := by
  unfold f_X12_landing_30 at hf
  refine g_aload_n (pc := 30) 0 rfl dX12_landing_30 rfl ?_
  refine g_iconst (pc := 31) (v := 2) dX12_landing_31 (by decide) ?_
  obtain ⟨p1, hp1, hf⟩ := am_bd hf
  refine g_cV (pc := 32) (As := [.int 2]) (st := []) (st1 := [.int p1.1]) (in_12 hX (by omega)) kk_12 mV_X12_refuse ln_X12_283 rfl (Nat.le_of_ble_eq_true rfl) (Nat.le_of_ble_eq_true rfl) (k_X12_refuse hX 2 σ hp1) dX12_landing_32 rfl rfl ?_
  have ho := Option.some.inj hf
  subst ho
  exact g_ireturn (pc := 35) (st := []) rfl dX12_landing_35 hk
noncomputable def f_X12_landing (v1 : Int32) (v2 : Int32) (v3 : Int32) (σ : am_H) : Option (Int32 × am_H) :=
  (some (am_wI σ 12 0 1 0)).bind fun s1 =>
  (some (am_wI s1 12 0 0 0)).bind fun s2 =>
  (f_X12_isMachine v1 s2).bind fun p3 =>
  if p3 = true then
   ((am_ix 3 v1).bind fun j5 =>
   if (s2.1 12 0 49) < (s2.1 1320 0 j5) then
    ((f_X12_isSpan v2 v3 2000 s2).bind fun p7 =>
    if p7 = true then
     ((am_loop (fun s => f_X12_landing_56 v1 v3 s s2) v2).bind fun w9 =>
     Sum.elim (fun t9_0 =>
      some (t9_0, s2)) (fun u9_0 =>
      (f_X12_refuse 8 s2).bind fun p10 =>
      some (p10.1, p10.2)) w9)
    else
    (f_X12_refuse 5 s2).bind fun p11 =>
    some (p11.1, p11.2))
   else
   f_X12_landing_30 s2)
  else
  f_X12_landing_30 s2
set_option maxRecDepth 100000 in
set_option maxHeartbeats 4000000 in
theorem q_X12_landing {X : am_X} (hX : am_ks X = am_ksM) {Q : Option Value → am_H → Prop} (v1 : Int32) (v2 : Int32) (v3 : Int32) (σ : am_H) {o : Int32 × am_H} (hf : f_X12_landing v1 v2 v3 σ = some o) (hk : Q (some (.int o.1)) o.2) : am_G X gm_X12_landing Q 0 [(0, .ref (am_ad X 12 0)), (1, .int v1), (2, .int v2), (3, .int v3)] [] σ := by
  unfold f_X12_landing at hf
  refine g_aload_n (pc := 0) 0 rfl dX12_landing_0 rfl ?_
  refine g_iconst (pc := 1) (v := 0) dX12_landing_1 (by decide) ?_
  obtain ⟨s1, hs1, hf⟩ := am_bd hf
  refine g_setI (pc := 2) (in_12 hX (by omega)) fr_X12_122 dX12_landing_2 (Option.some.inj hs1) ?_
  refine g_aload_n (pc := 5) 0 rfl dX12_landing_5 rfl ?_
  refine g_iconst (pc := 6) (v := 0) dX12_landing_6 (by decide) ?_
  obtain ⟨s2, hs2, hf⟩ := am_bd hf
  refine g_setI (pc := 7) (in_12 hX (by omega)) fr_X12_125 dX12_landing_7 (Option.some.inj hs2) ?_
  refine g_iload_n (pc := 10) 1 rfl dX12_landing_10 rfl ?_
  obtain ⟨p3, hp3, hf⟩ := am_bd hf
  refine g_cS (pc := 11) (As := [.int v1]) (st := []) (st1 := [.int (am_b p3)]) mS_X12_isMachine ln_X12_280 rfl (Nat.le_of_ble_eq_true rfl) (Nat.le_of_ble_eq_true rfl) (k_X12_isMachine hX v1 s2 hp3) dX12_landing_11 rfl rfl ?_
  refine bt_eq (pc := 14) 30 dX12_landing_14 rfl (fun c4 => ?_) (fun c4 => ?_)
  · replace hf := am_ifT c4 hf
    refine g_aload_n (pc := 17) 0 rfl dX12_landing_17 rfl ?_
    refine g_getI (pc := 18) (in_12 hX (by omega)) fr_X12_68 dX12_landing_18 ?_
    refine g_aload_n (pc := 21) 0 rfl dX12_landing_21 rfl ?_
    refine g_getC (pc := 22) (e := 0) (in_12 hX (by omega)) fr_X12_35 dX12_landing_22 rfl ?_
    refine g_iload_n (pc := 25) 1 rfl dX12_landing_25 rfl ?_
    obtain ⟨j5, hj5, hf⟩ := am_bd hf
    have gj5 := am_ix_lt hj5
    refine g_aI (pc := 26) (in_1320 hX (by omega)) ak_1320 hj5 dX12_landing_26 ?_
    refine bi_lt (pc := 27) 36 dX12_landing_27 rfl (fun c6 => ?_) (fun c6 => ?_)
    · replace hf := am_ifT c6 hf
      refine g_iload_n (pc := 36) 2 rfl dX12_landing_36 rfl ?_
      refine g_iload_n (pc := 37) 3 rfl dX12_landing_37 rfl ?_
      refine g_sipush (pc := 38) (v := 2000) dX12_landing_38 (by decide) ?_
      obtain ⟨p7, hp7, hf⟩ := am_bd hf
      refine g_cS (pc := 41) (As := [.int v2, .int v3, .int 2000]) (st := []) (st1 := [.int (am_b p7)]) mS_X12_isSpan ln_X12_474 rfl (Nat.le_of_ble_eq_true rfl) (Nat.le_of_ble_eq_true rfl) (k_X12_isSpan hX v2 v3 2000 s2 hp7) dX12_landing_41 rfl rfl ?_
      refine bt_ne (pc := 44) 53 dX12_landing_44 rfl (fun c8 => ?_) (fun c8 => ?_)
      · replace hf := am_ifT c8 hf
        refine g_iload_n (pc := 53) 2 rfl dX12_landing_53 rfl ?_
        refine g_istore (pc := 54) [(4, .int v2), (0, .ref (am_ad X 12 0)), (1, .int v1), (2, .int v2), (3, .int v3)] dX12_landing_54 (Nat.le_of_ble_eq_true rfl) rfl ?_
        obtain ⟨w9, hw9, hf⟩ := am_bd hf
        refine am_sub [1, 2, 4, 0] rfl (l_X12_landing_56 hX v1 v3  s2 v2 hw9 ?_ ?_)
        · intro t9_0 e
          subst e
          replace hf := am_elL hf
          refine g_iload (pc := 72) 0 rfl dX12_landing_72 ?_
          have ho := Option.some.inj hf
          subst ho
          exact g_ireturn (pc := 74) (st := []) rfl dX12_landing_74 hk
        · intro u9_0 e
          subst e
          replace hf := am_elR hf
          refine g_aload_n (pc := 81) 0 rfl dX12_landing_81 rfl ?_
          refine g_bipush (pc := 82) (v := 8) dX12_landing_82 (by decide) ?_
          obtain ⟨p10, hp10, hf⟩ := am_bd hf
          refine g_cV (pc := 84) (As := [.int 8]) (st := []) (st1 := [.int p10.1]) (in_12 hX (by omega)) kk_12 mV_X12_refuse ln_X12_283 rfl (Nat.le_of_ble_eq_true rfl) (Nat.le_of_ble_eq_true rfl) (k_X12_refuse hX 8 s2 hp10) dX12_landing_84 rfl rfl ?_
          have ho := Option.some.inj hf
          subst ho
          exact g_ireturn (pc := 87) (st := []) rfl dX12_landing_87 hk
      replace hf := am_ifF c8 hf
      refine g_aload_n (pc := 47) 0 rfl dX12_landing_47 rfl ?_
      refine g_iconst (pc := 48) (v := 5) dX12_landing_48 (by decide) ?_
      obtain ⟨p11, hp11, hf⟩ := am_bd hf
      refine g_cV (pc := 49) (As := [.int 5]) (st := []) (st1 := [.int p11.1]) (in_12 hX (by omega)) kk_12 mV_X12_refuse ln_X12_283 rfl (Nat.le_of_ble_eq_true rfl) (Nat.le_of_ble_eq_true rfl) (k_X12_refuse hX 5 s2 hp11) dX12_landing_49 rfl rfl ?_
      have ho := Option.some.inj hf
      subst ho
      exact g_ireturn (pc := 52) (st := []) rfl dX12_landing_52 hk
    replace hf := am_ifF c6 hf
    exact am_sub [0] rfl (q_X12_landing_30 hX s2 hf hk)
  replace hf := am_ifF c4 hf
  exact am_sub [0] rfl (q_X12_landing_30 hX s2 hf hk)
theorem k_X12_landing {X : am_X} (hX : am_ks X = am_ksM) (v1 : Int32) (v2 : Int32) (v3 : Int32) (σ : am_H) {o : Int32 × am_H} (hf : f_X12_landing v1 v2 v3 σ = some o) : am_C X gm_X12_landing [.ref (am_ad X 12 0), .int v1, .int v2, .int v3] σ (am_is (some (.int o.1)) o.2) :=
  am_ofG rfl (Nat.le_of_ble_eq_true rfl) rfl (q_X12_landing hX v1 v2 v3 σ hf ⟨rfl, rfl⟩)
