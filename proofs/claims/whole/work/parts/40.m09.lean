theorem dX12_orders_0 : decode cX12_orders 0 = .ok (.aload_n 0, 1) := by decide +kernel
theorem dX12_orders_1 : decode cX12_orders 1 = .ok (.iconst 0, 1) := by decide +kernel
theorem dX12_orders_2 : decode cX12_orders 2 = .ok (.putfield 122, 3) := by decide +kernel
theorem dX12_orders_5 : decode cX12_orders 5 = .ok (.aload_n 0, 1) := by decide +kernel
theorem dX12_orders_6 : decode cX12_orders 6 = .ok (.iconst 0, 1) := by decide +kernel
theorem dX12_orders_7 : decode cX12_orders 7 = .ok (.putfield 125, 3) := by decide +kernel
theorem dX12_orders_10 : decode cX12_orders 10 = .ok (.iload_n 1, 1) := by decide +kernel
theorem dX12_orders_11 : decode cX12_orders 11 = .ok (.ifCond .lt 18, 3) := by decide +kernel
theorem dX12_orders_14 : decode cX12_orders 14 = .ok (.iload_n 1, 1) := by decide +kernel
theorem dX12_orders_15 : decode cX12_orders 15 = .ok (.aload_n 0, 1) := by decide +kernel
theorem dX12_orders_16 : decode cX12_orders 16 = .ok (.getfield 274, 3) := by decide +kernel
theorem dX12_orders_19 : decode cX12_orders 19 = .ok (.if_icmp .gt 10, 3) := by decide +kernel
theorem dX12_orders_22 : decode cX12_orders 22 = .ok (.iload_n 1, 1) := by decide +kernel
theorem dX12_orders_23 : decode cX12_orders 23 = .ok (.sipush 300, 3) := by decide +kernel
theorem dX12_orders_26 : decode cX12_orders 26 = .ok (.if_icmp .le 9, 3) := by decide +kernel
theorem dX12_orders_29 : decode cX12_orders 29 = .ok (.aload_n 0, 1) := by decide +kernel
theorem dX12_orders_30 : decode cX12_orders 30 = .ok (.iconst 5, 1) := by decide +kernel
theorem dX12_orders_31 : decode cX12_orders 31 = .ok (.invokevirtual 283, 3) := by decide +kernel
theorem dX12_orders_34 : decode cX12_orders 34 = .ok (.ireturn, 1) := by decide +kernel
theorem dX12_orders_35 : decode cX12_orders 35 = .ok (.aload_n 0, 1) := by decide +kernel
theorem dX12_orders_36 : decode cX12_orders 36 = .ok (.iload_n 1, 1) := by decide +kernel
theorem dX12_orders_37 : decode cX12_orders 37 = .ok (.putfield 155, 3) := by decide +kernel
theorem dX12_orders_40 : decode cX12_orders 40 = .ok (.aload_n 0, 1) := by decide +kernel
theorem dX12_orders_41 : decode cX12_orders 41 = .ok (.iconst 0, 1) := by decide +kernel
theorem dX12_orders_42 : decode cX12_orders 42 = .ok (.putfield 274, 3) := by decide +kernel
theorem dX12_orders_45 : decode cX12_orders 45 = .ok (.aload_n 0, 1) := by decide +kernel
theorem dX12_orders_46 : decode cX12_orders 46 = .ok (.iconst 0, 1) := by decide +kernel
theorem dX12_orders_47 : decode cX12_orders 47 = .ok (.putfield 158, 3) := by decide +kernel
theorem dX12_orders_50 : decode cX12_orders 50 = .ok (.aload_n 0, 1) := by decide +kernel
theorem dX12_orders_51 : decode cX12_orders 51 = .ok (.iconst 0, 1) := by decide +kernel
theorem dX12_orders_52 : decode cX12_orders 52 = .ok (.putfield 223, 3) := by decide +kernel
theorem dX12_orders_55 : decode cX12_orders 55 = .ok (.aload_n 0, 1) := by decide +kernel
theorem dX12_orders_56 : decode cX12_orders 56 = .ok (.iconst 0, 1) := by decide +kernel
theorem dX12_orders_57 : decode cX12_orders 57 = .ok (.putfield 579, 3) := by decide +kernel
theorem dX12_orders_60 : decode cX12_orders 60 = .ok (.aload_n 0, 1) := by decide +kernel
theorem dX12_orders_61 : decode cX12_orders 61 = .ok (.invokevirtual 233, 3) := by decide +kernel
theorem dX12_orders_64 : decode cX12_orders 64 = .ok (.aload_n 0, 1) := by decide +kernel
theorem dX12_orders_65 : decode cX12_orders 65 = .ok (.getfield 223, 3) := by decide +kernel
theorem dX12_orders_68 : decode cX12_orders 68 = .ok (.ifCond .ne 18, 3) := by decide +kernel
theorem dX12_orders_71 : decode cX12_orders 71 = .ok (.aload_n 0, 1) := by decide +kernel
theorem dX12_orders_72 : decode cX12_orders 72 = .ok (.getfield 167, 3) := by decide +kernel
theorem dX12_orders_75 : decode cX12_orders 75 = .ok (.ifCond .eq 11, 3) := by decide +kernel
theorem dX12_orders_78 : decode cX12_orders 78 = .ok (.aload_n 0, 1) := by decide +kernel
theorem dX12_orders_79 : decode cX12_orders 79 = .ok (.iconst 0, 1) := by decide +kernel
theorem dX12_orders_80 : decode cX12_orders 80 = .ok (.invokevirtual 589, 3) := by decide +kernel
theorem dX12_orders_83 : decode cX12_orders 83 = .ok (.goto (-19), 3) := by decide +kernel
theorem dX12_orders_86 : decode cX12_orders 86 = .ok (.aload_n 0, 1) := by decide +kernel
theorem dX12_orders_87 : decode cX12_orders 87 = .ok (.aload_n 0, 1) := by decide +kernel
theorem dX12_orders_88 : decode cX12_orders 88 = .ok (.getfield 223, 3) := by decide +kernel
theorem dX12_orders_91 : decode cX12_orders 91 = .ok (.putfield 28, 3) := by decide +kernel
theorem dX12_orders_94 : decode cX12_orders 94 = .ok (.aload_n 0, 1) := by decide +kernel
theorem dX12_orders_95 : decode cX12_orders 95 = .ok (.aload_n 0, 1) := by decide +kernel
theorem dX12_orders_96 : decode cX12_orders 96 = .ok (.getfield 223, 3) := by decide +kernel
theorem dX12_orders_99 : decode cX12_orders 99 = .ok (.ifCond .ne 7, 3) := by decide +kernel
theorem dX12_orders_102 : decode cX12_orders 102 = .ok (.iconst (-1), 1) := by decide +kernel
theorem dX12_orders_103 : decode cX12_orders 103 = .ok (.goto 7, 3) := by decide +kernel
theorem dX12_orders_106 : decode cX12_orders 106 = .ok (.aload_n 0, 1) := by decide +kernel
theorem dX12_orders_107 : decode cX12_orders 107 = .ok (.getfield 226, 3) := by decide +kernel
theorem dX12_orders_110 : decode cX12_orders 110 = .ok (.putfield 32, 3) := by decide +kernel
theorem dX12_orders_113 : decode cX12_orders 113 = .ok (.aload_n 0, 1) := by decide +kernel
theorem dX12_orders_114 : decode cX12_orders 114 = .ok (.getfield 223, 3) := by decide +kernel
theorem dX12_orders_117 : decode cX12_orders 117 = .ok (.ifCond .le 10, 3) := by decide +kernel
theorem dX12_orders_120 : decode cX12_orders 120 = .ok (.aload_n 0, 1) := by decide +kernel
theorem dX12_orders_121 : decode cX12_orders 121 = .ok (.bipush 10, 2) := by decide +kernel
theorem dX12_orders_123 : decode cX12_orders 123 = .ok (.invokevirtual 283, 3) := by decide +kernel
theorem dX12_orders_126 : decode cX12_orders 126 = .ok (.ireturn, 1) := by decide +kernel
theorem dX12_orders_127 : decode cX12_orders 127 = .ok (.aload_n 0, 1) := by decide +kernel
theorem dX12_orders_128 : decode cX12_orders 128 = .ok (.aload_n 0, 1) := by decide +kernel
theorem dX12_orders_129 : decode cX12_orders 129 = .ok (.getfield 579, 3) := by decide +kernel
theorem dX12_orders_132 : decode cX12_orders 132 = .ok (.putfield 592, 3) := by decide +kernel
theorem dX12_orders_135 : decode cX12_orders 135 = .ok (.iconst 0, 1) := by decide +kernel
theorem dX12_orders_136 : decode cX12_orders 136 = .ok (.istore_n 2, 1) := by decide +kernel
theorem dX12_orders_137 : decode cX12_orders 137 = .ok (.iload_n 2, 1) := by decide +kernel
theorem dX12_orders_138 : decode cX12_orders 138 = .ok (.aload_n 0, 1) := by decide +kernel
theorem dX12_orders_139 : decode cX12_orders 139 = .ok (.getfield 592, 3) := by decide +kernel
theorem dX12_orders_142 : decode cX12_orders 142 = .ok (.if_icmp .ge 57, 3) := by decide +kernel
theorem dX12_orders_145 : decode cX12_orders 145 = .ok (.aload_n 0, 1) := by decide +kernel
theorem dX12_orders_146 : decode cX12_orders 146 = .ok (.getfield 77, 3) := by decide +kernel
theorem dX12_orders_149 : decode cX12_orders 149 = .ok (.iload_n 2, 1) := by decide +kernel
theorem dX12_orders_150 : decode cX12_orders 150 = .ok (.aload_n 0, 1) := by decide +kernel
theorem dX12_orders_151 : decode cX12_orders 151 = .ok (.getfield 89, 3) := by decide +kernel
theorem dX12_orders_154 : decode cX12_orders 154 = .ok (.iload_n 2, 1) := by decide +kernel
theorem dX12_orders_155 : decode cX12_orders 155 = .ok (.iaload, 1) := by decide +kernel
theorem dX12_orders_156 : decode cX12_orders 156 = .ok (.iastore, 1) := by decide +kernel
theorem dX12_orders_157 : decode cX12_orders 157 = .ok (.aload_n 0, 1) := by decide +kernel
theorem dX12_orders_158 : decode cX12_orders 158 = .ok (.getfield 80, 3) := by decide +kernel
theorem dX12_orders_161 : decode cX12_orders 161 = .ok (.iload_n 2, 1) := by decide +kernel
theorem dX12_orders_162 : decode cX12_orders 162 = .ok (.aload_n 0, 1) := by decide +kernel
theorem dX12_orders_163 : decode cX12_orders 163 = .ok (.getfield 92, 3) := by decide +kernel
theorem dX12_orders_166 : decode cX12_orders 166 = .ok (.iload_n 2, 1) := by decide +kernel
theorem dX12_orders_167 : decode cX12_orders 167 = .ok (.iaload, 1) := by decide +kernel
theorem dX12_orders_168 : decode cX12_orders 168 = .ok (.iastore, 1) := by decide +kernel
theorem dX12_orders_169 : decode cX12_orders 169 = .ok (.aload_n 0, 1) := by decide +kernel
theorem dX12_orders_170 : decode cX12_orders 170 = .ok (.getfield 83, 3) := by decide +kernel
theorem dX12_orders_173 : decode cX12_orders 173 = .ok (.iload_n 2, 1) := by decide +kernel
theorem dX12_orders_174 : decode cX12_orders 174 = .ok (.aload_n 0, 1) := by decide +kernel
theorem dX12_orders_175 : decode cX12_orders 175 = .ok (.getfield 95, 3) := by decide +kernel
theorem dX12_orders_178 : decode cX12_orders 178 = .ok (.iload_n 2, 1) := by decide +kernel
theorem dX12_orders_179 : decode cX12_orders 179 = .ok (.iaload, 1) := by decide +kernel
theorem dX12_orders_180 : decode cX12_orders 180 = .ok (.iastore, 1) := by decide +kernel
theorem dX12_orders_181 : decode cX12_orders 181 = .ok (.aload_n 0, 1) := by decide +kernel
theorem dX12_orders_182 : decode cX12_orders 182 = .ok (.getfield 86, 3) := by decide +kernel
theorem dX12_orders_185 : decode cX12_orders 185 = .ok (.iload_n 2, 1) := by decide +kernel
theorem dX12_orders_186 : decode cX12_orders 186 = .ok (.aload_n 0, 1) := by decide +kernel
theorem dX12_orders_187 : decode cX12_orders 187 = .ok (.getfield 98, 3) := by decide +kernel
theorem dX12_orders_190 : decode cX12_orders 190 = .ok (.iload_n 2, 1) := by decide +kernel
theorem dX12_orders_191 : decode cX12_orders 191 = .ok (.iaload, 1) := by decide +kernel
theorem dX12_orders_192 : decode cX12_orders 192 = .ok (.iastore, 1) := by decide +kernel
theorem dX12_orders_193 : decode cX12_orders 193 = .ok (.iinc 2 1, 3) := by decide +kernel
theorem dX12_orders_196 : decode cX12_orders 196 = .ok (.goto (-59), 3) := by decide +kernel
theorem dX12_orders_199 : decode cX12_orders 199 = .ok (.aload_n 0, 1) := by decide +kernel
theorem dX12_orders_200 : decode cX12_orders 200 = .ok (.getfield 592, 3) := by decide +kernel
theorem dX12_orders_203 : decode cX12_orders 203 = .ok (.ireturn, 1) := by decide +kernel
noncomputable def f_X12_orders_29 (σ : am_H) : Option (Int32 × am_H) :=
  (f_X12_refuse 5 σ).bind fun p1 =>
  some (p1.1, p1.2)
set_option maxRecDepth 100000 in
set_option maxHeartbeats 4000000 in
theorem q_X12_orders_29 {X : am_X} (hX : am_ks X = am_ksM) {Q : Option Value → am_H → Prop} (σ : am_H) {o : Int32 × am_H} (hf : f_X12_orders_29 σ = some o) (hk : Q (some (.int o.1)) o.2) : am_G X gm_X12_orders Q 29 [(0, .ref (am_ad X 12 0))] [] σ := by
  unfold f_X12_orders_29 at hf
  refine g_aload_n (pc := 29) 0 rfl dX12_orders_29 rfl ?_
  refine g_iconst (pc := 30) (v := 5) dX12_orders_30 (by decide) ?_
  obtain ⟨p1, hp1, hf⟩ := am_bd hf
  refine g_cV (pc := 31) (As := [.int 5]) (st := []) (st1 := [.int p1.1]) (in_12 hX (by omega)) kk_12 mV_X12_refuse ln_X12_283 rfl (Nat.le_of_ble_eq_true rfl) (Nat.le_of_ble_eq_true rfl) (k_X12_refuse hX 5 σ hp1) dX12_orders_31 rfl rfl ?_
  have ho := Option.some.inj hf
  subst ho
  exact g_ireturn (pc := 34) (st := []) rfl dX12_orders_34 hk
noncomputable def f_X12_orders_64 (σ : am_H) : Option ((am_H) ⊕ (am_H)) :=
  if (σ.1 12 0 12) = 0 then
   (if (σ.1 12 0 14) = 0 then
    (some (.inr σ))
   else
   (f_X12_readStep 8 0 σ).bind fun p3 =>
   some (.inl p3))
  else
  some (.inr σ)
set_option maxRecDepth 100000 in
set_option maxHeartbeats 4000000 in
theorem q_X12_orders_64 {X : am_X} (hX : am_ks X = am_ksM) {Q : Option Value → am_H → Prop} (σ : am_H) {o : (am_H) ⊕ (am_H)} (hf : f_X12_orders_64 σ = some o) (hk0 : ∀ s, o = .inl s → am_G X gm_X12_orders Q 64 [(0, .ref (am_ad X 12 0))] [] s) (hk1 : ∀ t, o = .inr t → am_G X gm_X12_orders Q 86 [(0, .ref (am_ad X 12 0))] [] t) : am_G X gm_X12_orders Q 64 [(0, .ref (am_ad X 12 0))] [] σ := by
  unfold f_X12_orders_64 at hf
  refine g_aload_n (pc := 64) 0 rfl dX12_orders_64 rfl ?_
  refine g_getI (pc := 65) (in_12 hX (by omega)) fr_X12_223 dX12_orders_65 ?_
  refine bz_ne (pc := 68) 86 dX12_orders_68 rfl (fun c1 => ?_) (fun c1 => ?_)
  · replace hf := am_ifT c1 hf
    refine g_aload_n (pc := 71) 0 rfl dX12_orders_71 rfl ?_
    refine g_getI (pc := 72) (in_12 hX (by omega)) fr_X12_167 dX12_orders_72 ?_
    refine bz_eq (pc := 75) 86 dX12_orders_75 rfl (fun c2 => ?_) (fun c2 => ?_)
    · replace hf := am_ifT c2 hf
      have hz := hk1 _ (Option.some.inj hf).symm
      exact hz
    replace hf := am_ifF c2 hf
    refine g_aload_n (pc := 78) 0 rfl dX12_orders_78 rfl ?_
    refine g_iconst (pc := 79) (v := 0) dX12_orders_79 (by decide) ?_
    obtain ⟨p3, hp3, hf⟩ := am_bd hf
    refine g_cV (pc := 80) (As := [.int 0]) (st := []) (st1 := []) (in_12 hX (by omega)) kk_12 (mV_X12_readStep _) ln_X12_589 rfl (Nat.le_of_ble_eq_true rfl) (Nat.le_of_ble_eq_true rfl) (k_X12_readStep hX 8 0 σ hp3) dX12_orders_80 rfl rfl ?_
    refine g_goto (pc := 83) 64 dX12_orders_83 rfl ?_
    have hz := hk0 _ (Option.some.inj hf).symm
    exact hz
  replace hf := am_ifF c1 hf
  have hz := hk1 _ (Option.some.inj hf).symm
  exact hz
set_option maxRecDepth 100000 in
set_option maxHeartbeats 4000000 in
theorem l_X12_orders_64 {X : am_X} (hX : am_ks X = am_ksM) {Q : Option Value → am_H → Prop} (σ : am_H) (s : am_H) {o : am_H} (hf : am_loop (fun s => f_X12_orders_64 s) s = some o) (hk1 : ∀ t, o = t → am_G X gm_X12_orders Q 86 [(0, .ref (am_ad X 12 0))] [] t) : am_G X gm_X12_orders Q 64 [(0, .ref (am_ad X 12 0))] [] s := by
  refine am_loop_ind (P := fun s => am_G X gm_X12_orders Q 64 [(0, .ref (am_ad X 12 0))] [] s) (K := fun r => r = o) ?_ hf rfl
  intro s o1 hb hi hr
  exact q_X12_orders_64 hX  s hb hi (fun t e => hk1 t (hr _ e).symm)
noncomputable def f_X12_orders_137 (v2 : Int32) (σ : am_H) : Option ((Int32 × am_H) ⊕ (am_H)) :=
  if v2 < (σ.1 12 0 54) then
   ((am_ix 40 v2).bind fun j2 =>
   (am_ix 40 v2).bind fun j3 =>
   (some (am_wI σ 1368 0 j3 (σ.1 1372 0 j2))).bind fun s4 =>
   (am_ix 40 v2).bind fun j5 =>
   (am_ix 40 v2).bind fun j6 =>
   (some (am_wI s4 1369 0 j6 (s4.1 1373 0 j5))).bind fun s7 =>
   (am_ix 40 v2).bind fun j8 =>
   (am_ix 40 v2).bind fun j9 =>
   (some (am_wI s7 1370 0 j9 (s7.1 1374 0 j8))).bind fun s10 =>
   (am_ix 40 v2).bind fun j11 =>
   (am_ix 40 v2).bind fun j12 =>
   (some (am_wI s10 1371 0 j12 (s10.1 1375 0 j11))).bind fun s13 =>
   some (.inl ((v2 + 1), s13)))
  else
  some (.inr σ)
set_option maxRecDepth 100000 in
set_option maxHeartbeats 4000000 in
theorem q_X12_orders_137 {X : am_X} (hX : am_ks X = am_ksM) {Q : Option Value → am_H → Prop} (v2 : Int32) (σ : am_H) {o : (Int32 × am_H) ⊕ (am_H)} (hf : f_X12_orders_137 v2 σ = some o) (hk0 : ∀ s, o = .inl s → am_G X gm_X12_orders Q 137 [(0, .ref (am_ad X 12 0)), (2, .int s.1)] [] s.2) (hk1 : ∀ t, o = .inr t → am_G X gm_X12_orders Q 199 [(0, .ref (am_ad X 12 0))] [] t) : am_G X gm_X12_orders Q 137 [(0, .ref (am_ad X 12 0)), (2, .int v2)] [] σ := by
  unfold f_X12_orders_137 at hf
  refine g_iload_n (pc := 137) 1 rfl dX12_orders_137 rfl ?_
  refine g_aload_n (pc := 138) 0 rfl dX12_orders_138 rfl ?_
  refine g_getI (pc := 139) (in_12 hX (by omega)) fr_X12_592 dX12_orders_139 ?_
  refine bi_ge (pc := 142) 199 dX12_orders_142 rfl (fun c1 => ?_) (fun c1 => ?_)
  · replace hf := am_ifT c1 hf
    refine g_aload_n (pc := 145) 0 rfl dX12_orders_145 rfl ?_
    refine g_getC (pc := 146) (e := 0) (in_12 hX (by omega)) fr_X12_77 dX12_orders_146 rfl ?_
    refine g_iload_n (pc := 149) 1 rfl dX12_orders_149 rfl ?_
    refine g_aload_n (pc := 150) 0 rfl dX12_orders_150 rfl ?_
    refine g_getC (pc := 151) (e := 0) (in_12 hX (by omega)) fr_X12_89 dX12_orders_151 rfl ?_
    refine g_iload_n (pc := 154) 1 rfl dX12_orders_154 rfl ?_
    obtain ⟨j2, hj2, hf⟩ := am_bd hf
    have gj2 := am_ix_lt hj2
    refine g_aI (pc := 155) (in_1372 hX (by omega)) ak_1372 hj2 dX12_orders_155 ?_
    obtain ⟨j3, hj3, hf⟩ := am_bd hf
    have gj3 := am_ix_lt hj3
    obtain ⟨s4, hs4, hf⟩ := am_bd hf
    refine g_sI (pc := 156) (in_1368 hX (by omega)) ak_1368 hj3 dX12_orders_156 (Option.some.inj hs4) ?_
    refine g_aload_n (pc := 157) 0 rfl dX12_orders_157 rfl ?_
    refine g_getC (pc := 158) (e := 0) (in_12 hX (by omega)) fr_X12_80 dX12_orders_158 rfl ?_
    refine g_iload_n (pc := 161) 1 rfl dX12_orders_161 rfl ?_
    refine g_aload_n (pc := 162) 0 rfl dX12_orders_162 rfl ?_
    refine g_getC (pc := 163) (e := 0) (in_12 hX (by omega)) fr_X12_92 dX12_orders_163 rfl ?_
    refine g_iload_n (pc := 166) 1 rfl dX12_orders_166 rfl ?_
    obtain ⟨j5, hj5, hf⟩ := am_bd hf
    have gj5 := am_ix_lt hj5
    refine g_aI (pc := 167) (in_1373 hX (by omega)) ak_1373 hj5 dX12_orders_167 ?_
    obtain ⟨j6, hj6, hf⟩ := am_bd hf
    have gj6 := am_ix_lt hj6
    obtain ⟨s7, hs7, hf⟩ := am_bd hf
    refine g_sI (pc := 168) (in_1369 hX (by omega)) ak_1369 hj6 dX12_orders_168 (Option.some.inj hs7) ?_
    refine g_aload_n (pc := 169) 0 rfl dX12_orders_169 rfl ?_
    refine g_getC (pc := 170) (e := 0) (in_12 hX (by omega)) fr_X12_83 dX12_orders_170 rfl ?_
    refine g_iload_n (pc := 173) 1 rfl dX12_orders_173 rfl ?_
    refine g_aload_n (pc := 174) 0 rfl dX12_orders_174 rfl ?_
    refine g_getC (pc := 175) (e := 0) (in_12 hX (by omega)) fr_X12_95 dX12_orders_175 rfl ?_
    refine g_iload_n (pc := 178) 1 rfl dX12_orders_178 rfl ?_
    obtain ⟨j8, hj8, hf⟩ := am_bd hf
    have gj8 := am_ix_lt hj8
    refine g_aI (pc := 179) (in_1374 hX (by omega)) ak_1374 hj8 dX12_orders_179 ?_
    obtain ⟨j9, hj9, hf⟩ := am_bd hf
    have gj9 := am_ix_lt hj9
    obtain ⟨s10, hs10, hf⟩ := am_bd hf
    refine g_sI (pc := 180) (in_1370 hX (by omega)) ak_1370 hj9 dX12_orders_180 (Option.some.inj hs10) ?_
    refine g_aload_n (pc := 181) 0 rfl dX12_orders_181 rfl ?_
    refine g_getC (pc := 182) (e := 0) (in_12 hX (by omega)) fr_X12_86 dX12_orders_182 rfl ?_
    refine g_iload_n (pc := 185) 1 rfl dX12_orders_185 rfl ?_
    refine g_aload_n (pc := 186) 0 rfl dX12_orders_186 rfl ?_
    refine g_getC (pc := 187) (e := 0) (in_12 hX (by omega)) fr_X12_98 dX12_orders_187 rfl ?_
    refine g_iload_n (pc := 190) 1 rfl dX12_orders_190 rfl ?_
    obtain ⟨j11, hj11, hf⟩ := am_bd hf
    have gj11 := am_ix_lt hj11
    refine g_aI (pc := 191) (in_1375 hX (by omega)) ak_1375 hj11 dX12_orders_191 ?_
    obtain ⟨j12, hj12, hf⟩ := am_bd hf
    have gj12 := am_ix_lt hj12
    obtain ⟨s13, hs13, hf⟩ := am_bd hf
    refine g_sI (pc := 192) (in_1371 hX (by omega)) ak_1371 hj12 dX12_orders_192 (Option.some.inj hs13) ?_
    refine g_iinc (pc := 193) (v := (v2 + 1)) 1 [(2, .int (v2 + 1)), (0, .ref (am_ad X 12 0))] dX12_orders_193 rfl rfl (Nat.le_of_ble_eq_true rfl) rfl ?_
    refine g_goto (pc := 196) 137 dX12_orders_196 rfl ?_
    have hz := hk0 _ (Option.some.inj hf).symm
    exact am_sub [1, 0] rfl hz
  replace hf := am_ifF c1 hf
  have hz := hk1 _ (Option.some.inj hf).symm
  exact am_sub [0] rfl hz
set_option maxRecDepth 100000 in
set_option maxHeartbeats 4000000 in
theorem l_X12_orders_137 {X : am_X} (hX : am_ks X = am_ksM) {Q : Option Value → am_H → Prop} (σ : am_H) (s : Int32 × am_H) {o : am_H} (hf : am_loop (fun s => f_X12_orders_137 s.1 s.2) s = some o) (hk1 : ∀ t, o = t → am_G X gm_X12_orders Q 199 [(0, .ref (am_ad X 12 0))] [] t) : am_G X gm_X12_orders Q 137 [(0, .ref (am_ad X 12 0)), (2, .int s.1)] [] s.2 := by
  refine am_loop_ind (P := fun s => am_G X gm_X12_orders Q 137 [(0, .ref (am_ad X 12 0)), (2, .int s.1)] [] s.2) (K := fun r => r = o) ?_ hf rfl
  intro s o1 hb hi hr
  exact q_X12_orders_137 hX s.1  s.2 hb hi (fun t e => hk1 t (hr _ e).symm)
noncomputable def f_X12_orders_110 (k1 : Int32) (σ : am_H) : Option (Int32 × am_H) :=
  (some (am_wI σ 12 0 11 k1)).bind fun s1 =>
  if 0 < (s1.1 12 0 12) then
   ((f_X12_refuse 10 s1).bind fun p3 =>
   some (p3.1, p3.2))
  else
  (some (am_wI s1 12 0 54 (s1.1 12 0 55))).bind fun s4 =>
  (am_loop (fun s => f_X12_orders_137 s.1 s.2) (0, s4)).bind fun w5 =>
  some ((w5.1 12 0 54), w5)
set_option maxRecDepth 100000 in
set_option maxHeartbeats 4000000 in
theorem q_X12_orders_110 {X : am_X} (hX : am_ks X = am_ksM) {Q : Option Value → am_H → Prop} (k1 : Int32) (σ : am_H) {o : Int32 × am_H} (hf : f_X12_orders_110 k1 σ = some o) (hk : Q (some (.int o.1)) o.2) : am_G X gm_X12_orders Q 110 [(0, .ref (am_ad X 12 0))] [.int k1, .ref (am_ad X 12 0)] σ := by
  unfold f_X12_orders_110 at hf
  obtain ⟨s1, hs1, hf⟩ := am_bd hf
  refine g_setI (pc := 110) (in_12 hX (by omega)) fr_X12_32 dX12_orders_110 (Option.some.inj hs1) ?_
  refine g_aload_n (pc := 113) 0 rfl dX12_orders_113 rfl ?_
  refine g_getI (pc := 114) (in_12 hX (by omega)) fr_X12_223 dX12_orders_114 ?_
  refine bz_le (pc := 117) 127 dX12_orders_117 rfl (fun c2 => ?_) (fun c2 => ?_)
  · replace hf := am_ifT c2 hf
    refine g_aload_n (pc := 120) 0 rfl dX12_orders_120 rfl ?_
    refine g_bipush (pc := 121) (v := 10) dX12_orders_121 (by decide) ?_
    obtain ⟨p3, hp3, hf⟩ := am_bd hf
    refine g_cV (pc := 123) (As := [.int 10]) (st := []) (st1 := [.int p3.1]) (in_12 hX (by omega)) kk_12 mV_X12_refuse ln_X12_283 rfl (Nat.le_of_ble_eq_true rfl) (Nat.le_of_ble_eq_true rfl) (k_X12_refuse hX 10 s1 hp3) dX12_orders_123 rfl rfl ?_
    have ho := Option.some.inj hf
    subst ho
    exact g_ireturn (pc := 126) (st := []) rfl dX12_orders_126 hk
  replace hf := am_ifF c2 hf
  refine g_aload_n (pc := 127) 0 rfl dX12_orders_127 rfl ?_
  refine g_aload_n (pc := 128) 0 rfl dX12_orders_128 rfl ?_
  refine g_getI (pc := 129) (in_12 hX (by omega)) fr_X12_579 dX12_orders_129 ?_
  obtain ⟨s4, hs4, hf⟩ := am_bd hf
  refine g_setI (pc := 132) (in_12 hX (by omega)) fr_X12_592 dX12_orders_132 (Option.some.inj hs4) ?_
  refine g_iconst (pc := 135) (v := 0) dX12_orders_135 (by decide) ?_
  refine g_istore_n (pc := 136) [(2, .int 0), (0, .ref (am_ad X 12 0))] dX12_orders_136 rfl (Nat.le_of_ble_eq_true rfl) rfl ?_
  obtain ⟨w5, hw5, hf⟩ := am_bd hf
  refine am_sub [1, 0] rfl (l_X12_orders_137 hX  s4 (0, s4) hw5 ?_)
  intro t e
  subst e
  refine g_aload_n (pc := 199) 0 rfl dX12_orders_199 rfl ?_
  refine g_getI (pc := 200) (in_12 hX (by omega)) fr_X12_592 dX12_orders_200 ?_
  have ho := Option.some.inj hf
  subst ho
  exact g_ireturn (pc := 203) (st := []) rfl dX12_orders_203 hk
noncomputable def f_X12_orders (v1 : Int32) (σ : am_H) : Option (Int32 × am_H) :=
  (some (am_wI σ 12 0 1 0)).bind fun s1 =>
  (some (am_wI s1 12 0 0 0)).bind fun s2 =>
  if v1 < 0 then
   (f_X12_orders_29 s2)
  else
  if (s2.1 12 0 8) < v1 then
   (f_X12_orders_29 s2)
  else
  if 300 < v1 then
   (f_X12_orders_29 s2)
  else
  (some (am_wI s2 12 0 9 v1)).bind fun s6 =>
  (some (am_wI s6 12 0 8 0)).bind fun s7 =>
  (some (am_wI s7 12 0 16 0)).bind fun s8 =>
  (some (am_wI s8 12 0 12 0)).bind fun s9 =>
  (some (am_wI s9 12 0 55 0)).bind fun s10 =>
  (f_X12_next s10).bind fun p11 =>
  (am_loop (fun s => f_X12_orders_64 s) p11).bind fun w12 =>
  (some (am_wI w12 12 0 10 (w12.1 12 0 12))).bind fun s13 =>
  if (s13.1 12 0 12) = 0 then
   (f_X12_orders_110 (-1) s13)
  else
  f_X12_orders_110 (s13.1 12 0 13) s13
set_option maxRecDepth 100000 in
set_option maxHeartbeats 4000000 in
theorem q_X12_orders {X : am_X} (hX : am_ks X = am_ksM) {Q : Option Value → am_H → Prop} (v1 : Int32) (σ : am_H) {o : Int32 × am_H} (hf : f_X12_orders v1 σ = some o) (hk : Q (some (.int o.1)) o.2) : am_G X gm_X12_orders Q 0 [(0, .ref (am_ad X 12 0)), (1, .int v1)] [] σ := by
  unfold f_X12_orders at hf
  refine g_aload_n (pc := 0) 0 rfl dX12_orders_0 rfl ?_
  refine g_iconst (pc := 1) (v := 0) dX12_orders_1 (by decide) ?_
  obtain ⟨s1, hs1, hf⟩ := am_bd hf
  refine g_setI (pc := 2) (in_12 hX (by omega)) fr_X12_122 dX12_orders_2 (Option.some.inj hs1) ?_
  refine g_aload_n (pc := 5) 0 rfl dX12_orders_5 rfl ?_
  refine g_iconst (pc := 6) (v := 0) dX12_orders_6 (by decide) ?_
  obtain ⟨s2, hs2, hf⟩ := am_bd hf
  refine g_setI (pc := 7) (in_12 hX (by omega)) fr_X12_125 dX12_orders_7 (Option.some.inj hs2) ?_
  refine g_iload_n (pc := 10) 1 rfl dX12_orders_10 rfl ?_
  refine bz_lt (pc := 11) 29 dX12_orders_11 rfl (fun c3 => ?_) (fun c3 => ?_)
  · replace hf := am_ifT c3 hf
    exact am_sub [0] rfl (q_X12_orders_29 hX s2 hf hk)
  replace hf := am_ifF c3 hf
  refine g_iload_n (pc := 14) 1 rfl dX12_orders_14 rfl ?_
  refine g_aload_n (pc := 15) 0 rfl dX12_orders_15 rfl ?_
  refine g_getI (pc := 16) (in_12 hX (by omega)) fr_X12_274 dX12_orders_16 ?_
  refine bi_gt (pc := 19) 29 dX12_orders_19 rfl (fun c4 => ?_) (fun c4 => ?_)
  · replace hf := am_ifT c4 hf
    exact am_sub [0] rfl (q_X12_orders_29 hX s2 hf hk)
  replace hf := am_ifF c4 hf
  refine g_iload_n (pc := 22) 1 rfl dX12_orders_22 rfl ?_
  refine g_sipush (pc := 23) (v := 300) dX12_orders_23 (by decide) ?_
  refine bi_le (pc := 26) 35 dX12_orders_26 rfl (fun c5 => ?_) (fun c5 => ?_)
  · replace hf := am_ifT c5 hf
    exact am_sub [0] rfl (q_X12_orders_29 hX s2 hf hk)
  replace hf := am_ifF c5 hf
  refine g_aload_n (pc := 35) 0 rfl dX12_orders_35 rfl ?_
  refine g_iload_n (pc := 36) 1 rfl dX12_orders_36 rfl ?_
  obtain ⟨s6, hs6, hf⟩ := am_bd hf
  refine g_setI (pc := 37) (in_12 hX (by omega)) fr_X12_155 dX12_orders_37 (Option.some.inj hs6) ?_
  refine g_aload_n (pc := 40) 0 rfl dX12_orders_40 rfl ?_
  refine g_iconst (pc := 41) (v := 0) dX12_orders_41 (by decide) ?_
  obtain ⟨s7, hs7, hf⟩ := am_bd hf
  refine g_setI (pc := 42) (in_12 hX (by omega)) fr_X12_274 dX12_orders_42 (Option.some.inj hs7) ?_
  refine g_aload_n (pc := 45) 0 rfl dX12_orders_45 rfl ?_
  refine g_iconst (pc := 46) (v := 0) dX12_orders_46 (by decide) ?_
  obtain ⟨s8, hs8, hf⟩ := am_bd hf
  refine g_setI (pc := 47) (in_12 hX (by omega)) fr_X12_158 dX12_orders_47 (Option.some.inj hs8) ?_
  refine g_aload_n (pc := 50) 0 rfl dX12_orders_50 rfl ?_
  refine g_iconst (pc := 51) (v := 0) dX12_orders_51 (by decide) ?_
  obtain ⟨s9, hs9, hf⟩ := am_bd hf
  refine g_setI (pc := 52) (in_12 hX (by omega)) fr_X12_223 dX12_orders_52 (Option.some.inj hs9) ?_
  refine g_aload_n (pc := 55) 0 rfl dX12_orders_55 rfl ?_
  refine g_iconst (pc := 56) (v := 0) dX12_orders_56 (by decide) ?_
  obtain ⟨s10, hs10, hf⟩ := am_bd hf
  refine g_setI (pc := 57) (in_12 hX (by omega)) fr_X12_579 dX12_orders_57 (Option.some.inj hs10) ?_
  refine g_aload_n (pc := 60) 0 rfl dX12_orders_60 rfl ?_
  obtain ⟨p11, hp11, hf⟩ := am_bd hf
  refine g_cV (pc := 61) (As := []) (st := []) (st1 := []) (in_12 hX (by omega)) kk_12 mV_X12_next ln_X12_233 rfl (Nat.le_of_ble_eq_true rfl) (Nat.le_of_ble_eq_true rfl) (k_X12_next hX s10 hp11) dX12_orders_61 rfl rfl ?_
  obtain ⟨w12, hw12, hf⟩ := am_bd hf
  refine am_sub [0] rfl (l_X12_orders_64 hX  p11 p11 hw12 ?_)
  intro t e
  subst e
  refine g_aload_n (pc := 86) 0 rfl dX12_orders_86 rfl ?_
  refine g_aload_n (pc := 87) 0 rfl dX12_orders_87 rfl ?_
  refine g_getI (pc := 88) (in_12 hX (by omega)) fr_X12_223 dX12_orders_88 ?_
  obtain ⟨s13, hs13, hf⟩ := am_bd hf
  refine g_setI (pc := 91) (in_12 hX (by omega)) fr_X12_28 dX12_orders_91 (Option.some.inj hs13) ?_
  refine g_aload_n (pc := 94) 0 rfl dX12_orders_94 rfl ?_
  refine g_aload_n (pc := 95) 0 rfl dX12_orders_95 rfl ?_
  refine g_getI (pc := 96) (in_12 hX (by omega)) fr_X12_223 dX12_orders_96 ?_
  refine bz_ne (pc := 99) 106 dX12_orders_99 rfl (fun c14 => ?_) (fun c14 => ?_)
  · replace hf := am_ifT c14 hf
    refine g_iconst (pc := 102) (v := (-1)) dX12_orders_102 (by decide) ?_
    refine g_goto (pc := 103) 110 dX12_orders_103 rfl ?_
    exact q_X12_orders_110 hX (-1) s13 hf hk
  replace hf := am_ifF c14 hf
  refine g_aload_n (pc := 106) 0 rfl dX12_orders_106 rfl ?_
  refine g_getI (pc := 107) (in_12 hX (by omega)) fr_X12_226 dX12_orders_107 ?_
  exact q_X12_orders_110 hX (s13.1 12 0 13) s13 hf hk
theorem k_X12_orders {X : am_X} (hX : am_ks X = am_ksM) (v1 : Int32) (σ : am_H) {o : Int32 × am_H} (hf : f_X12_orders v1 σ = some o) : am_C X gm_X12_orders [.ref (am_ad X 12 0), .int v1] σ (am_is (some (.int o.1)) o.2) :=
  am_ofG rfl (Nat.le_of_ble_eq_true rfl) rfl (q_X12_orders hX v1 σ hf ⟨rfl, rfl⟩)
theorem dX12_isSo_0 : decode cX12_isSo 0 = .ok (.aload_n 0, 1) := by decide +kernel
theorem dX12_isSo_1 : decode cX12_isSo 1 = .ok (.getfield 80, 3) := by decide +kernel
theorem dX12_isSo_4 : decode cX12_isSo 4 = .ok (.iload_n 2, 1) := by decide +kernel
theorem dX12_isSo_5 : decode cX12_isSo 5 = .ok (.iaload, 1) := by decide +kernel
theorem dX12_isSo_6 : decode cX12_isSo 6 = .ok (.istore_n 3, 1) := by decide +kernel
theorem dX12_isSo_7 : decode cX12_isSo 7 = .ok (.iload_n 3, 1) := by decide +kernel
theorem dX12_isSo_8 : decode cX12_isSo 8 = .ok (.iconst 2, 1) := by decide +kernel
theorem dX12_isSo_9 : decode cX12_isSo 9 = .ok (.if_icmp .ge 23, 3) := by decide +kernel
theorem dX12_isSo_12 : decode cX12_isSo 12 = .ok (.aload_n 0, 1) := by decide +kernel
theorem dX12_isSo_13 : decode cX12_isSo 13 = .ok (.iload_n 1, 1) := by decide +kernel
theorem dX12_isSo_14 : decode cX12_isSo 14 = .ok (.aload_n 0, 1) := by decide +kernel
theorem dX12_isSo_15 : decode cX12_isSo 15 = .ok (.getfield 595, 3) := by decide +kernel
theorem dX12_isSo_18 : decode cX12_isSo 18 = .ok (.iload_n 3, 1) := by decide +kernel
theorem dX12_isSo_19 : decode cX12_isSo 19 = .ok (.ifCond .ne 7, 3) := by decide +kernel
theorem dX12_isSo_22 : decode cX12_isSo 22 = .ok (.iconst 1, 1) := by decide +kernel
theorem dX12_isSo_23 : decode cX12_isSo 23 = .ok (.goto 4, 3) := by decide +kernel
theorem dX12_isSo_26 : decode cX12_isSo 26 = .ok (.iconst 0, 1) := by decide +kernel
theorem dX12_isSo_27 : decode cX12_isSo 27 = .ok (.iconst 1, 1) := by decide +kernel
theorem dX12_isSo_28 : decode cX12_isSo 28 = .ok (.invokevirtual 534, 3) := by decide +kernel
theorem dX12_isSo_31 : decode cX12_isSo 31 = .ok (.ireturn, 1) := by decide +kernel
theorem dX12_isSo_32 : decode cX12_isSo 32 = .ok (.aload_n 0, 1) := by decide +kernel
theorem dX12_isSo_33 : decode cX12_isSo 33 = .ok (.iload_n 1, 1) := by decide +kernel
theorem dX12_isSo_34 : decode cX12_isSo 34 = .ok (.aload_n 0, 1) := by decide +kernel
theorem dX12_isSo_35 : decode cX12_isSo 35 = .ok (.getfield 595, 3) := by decide +kernel
theorem dX12_isSo_38 : decode cX12_isSo 38 = .ok (.iconst 1, 1) := by decide +kernel
theorem dX12_isSo_39 : decode cX12_isSo 39 = .ok (.invokevirtual 334, 3) := by decide +kernel
theorem dX12_isSo_42 : decode cX12_isSo 42 = .ok (.istore 4, 2) := by decide +kernel
theorem dX12_isSo_44 : decode cX12_isSo 44 = .ok (.iload_n 3, 1) := by decide +kernel
theorem dX12_isSo_45 : decode cX12_isSo 45 = .ok (.iconst 2, 1) := by decide +kernel
theorem dX12_isSo_46 : decode cX12_isSo 46 = .ok (.if_icmp .ne 22, 3) := by decide +kernel
theorem dX12_isSo_49 : decode cX12_isSo 49 = .ok (.iload 4, 2) := by decide +kernel
theorem dX12_isSo_51 : decode cX12_isSo 51 = .ok (.aload_n 0, 1) := by decide +kernel
theorem dX12_isSo_52 : decode cX12_isSo 52 = .ok (.getfield 83, 3) := by decide +kernel
theorem dX12_isSo_55 : decode cX12_isSo 55 = .ok (.iload_n 2, 1) := by decide +kernel
theorem dX12_isSo_56 : decode cX12_isSo 56 = .ok (.iaload, 1) := by decide +kernel
theorem dX12_isSo_57 : decode cX12_isSo 57 = .ok (.if_icmp .le 7, 3) := by decide +kernel
theorem dX12_isSo_60 : decode cX12_isSo 60 = .ok (.iconst 1, 1) := by decide +kernel
theorem dX12_isSo_61 : decode cX12_isSo 61 = .ok (.goto 23, 3) := by decide +kernel
theorem dX12_isSo_64 : decode cX12_isSo 64 = .ok (.iconst 0, 1) := by decide +kernel
theorem dX12_isSo_65 : decode cX12_isSo 65 = .ok (.goto 19, 3) := by decide +kernel
theorem dX12_isSo_68 : decode cX12_isSo 68 = .ok (.iload 4, 2) := by decide +kernel
theorem dX12_isSo_70 : decode cX12_isSo 70 = .ok (.aload_n 0, 1) := by decide +kernel
theorem dX12_isSo_71 : decode cX12_isSo 71 = .ok (.getfield 83, 3) := by decide +kernel
theorem dX12_isSo_74 : decode cX12_isSo 74 = .ok (.iload_n 2, 1) := by decide +kernel
theorem dX12_isSo_75 : decode cX12_isSo 75 = .ok (.iaload, 1) := by decide +kernel
theorem dX12_isSo_76 : decode cX12_isSo 76 = .ok (.if_icmp .ge 7, 3) := by decide +kernel
theorem dX12_isSo_79 : decode cX12_isSo 79 = .ok (.iconst 1, 1) := by decide +kernel
theorem dX12_isSo_80 : decode cX12_isSo 80 = .ok (.goto 4, 3) := by decide +kernel
theorem dX12_isSo_83 : decode cX12_isSo 83 = .ok (.iconst 0, 1) := by decide +kernel
theorem dX12_isSo_84 : decode cX12_isSo 84 = .ok (.ireturn, 1) := by decide +kernel
noncomputable def f_X12_isSo_27 (k1 : Int32) (k2 : Int32) (k3 : Bool) (σ : am_H) : Option (Bool) :=
  (f_X12_isWater k1 k2 k3 true σ).bind fun p1 =>
  some p1
set_option maxRecDepth 100000 in
set_option maxHeartbeats 4000000 in
theorem q_X12_isSo_27 {X : am_X} (hX : am_ks X = am_ksM) {Q : Option Value → am_H → Prop} (k1 : Int32) (k2 : Int32) (k3 : Bool) (σ : am_H) {o : Bool} (hf : f_X12_isSo_27 k1 k2 k3 σ = some o) (hk : Q (some (.int (am_b o))) σ) : am_G X gm_X12_isSo Q 27 [] [.int (am_b k3), .int k2, .int k1, .ref (am_ad X 12 0)] σ := by
  unfold f_X12_isSo_27 at hf
  refine g_iconst (pc := 27) (v := 1) dX12_isSo_27 (by decide) ?_
  obtain ⟨p1, hp1, hf⟩ := am_bd hf
  refine g_cV (pc := 28) (As := [.int k1, .int k2, .int (am_b k3), .int (am_b true)]) (st := []) (st1 := [.int (am_b p1)]) (in_12 hX (by omega)) kk_12 mV_X12_isWater ln_X12_534 rfl (Nat.le_of_ble_eq_true rfl) (Nat.le_of_ble_eq_true rfl) (k_X12_isWater hX k1 k2 k3 true σ hp1) dX12_isSo_28 rfl rfl ?_
  have ho := Option.some.inj hf
  subst ho
  exact g_zreturn (pc := 31) (st := []) (x := p1) rfl dX12_isSo_31 hk
noncomputable def f_X12_isSo (v1 : Int32) (v2 : Int32) (σ : am_H) : Option (Bool) :=
  (am_ix 40 v2).bind fun j1 =>
  if (σ.1 1369 0 j1) < 2 then
   (if (σ.1 1369 0 j1) = 0 then
    (f_X12_isSo_27 v1 (σ.1 12 0 57) true σ)
   else
   f_X12_isSo_27 v1 (σ.1 12 0 57) false σ)
  else
  (f_X12_heightOf v1 (σ.1 12 0 57) true σ).bind fun p4 =>
  if (σ.1 1369 0 j1) = 2 then
   ((am_ix 40 v2).bind fun j6 =>
   if (σ.1 1370 0 j6) < p4 then
    (some true)
   else
   some false)
  else
  (am_ix 40 v2).bind fun j8 =>
  if p4 < (σ.1 1370 0 j8) then
   (some true)
  else
  some false
set_option maxRecDepth 100000 in
set_option maxHeartbeats 4000000 in
theorem q_X12_isSo {X : am_X} (hX : am_ks X = am_ksM) {Q : Option Value → am_H → Prop} (v1 : Int32) (v2 : Int32) (σ : am_H) {o : Bool} (hf : f_X12_isSo v1 v2 σ = some o) (hk : Q (some (.int (am_b o))) σ) : am_G X gm_X12_isSo Q 0 [(0, .ref (am_ad X 12 0)), (1, .int v1), (2, .int v2)] [] σ := by
  unfold f_X12_isSo at hf
  refine g_aload_n (pc := 0) 0 rfl dX12_isSo_0 rfl ?_
  refine g_getC (pc := 1) (e := 0) (in_12 hX (by omega)) fr_X12_80 dX12_isSo_1 rfl ?_
  refine g_iload_n (pc := 4) 2 rfl dX12_isSo_4 rfl ?_
  obtain ⟨j1, hj1, hf⟩ := am_bd hf
  have gj1 := am_ix_lt hj1
  refine g_aI (pc := 5) (in_1369 hX (by omega)) ak_1369 hj1 dX12_isSo_5 ?_
  refine g_istore_n (pc := 6) [(3, .int (σ.1 1369 0 j1)), (0, .ref (am_ad X 12 0)), (1, .int v1), (2, .int v2)] dX12_isSo_6 rfl (Nat.le_of_ble_eq_true rfl) rfl ?_
  refine g_iload_n (pc := 7) 0 rfl dX12_isSo_7 rfl ?_
  refine g_iconst (pc := 8) (v := 2) dX12_isSo_8 (by decide) ?_
  refine bi_ge (pc := 9) 32 dX12_isSo_9 rfl (fun c2 => ?_) (fun c2 => ?_)
  · replace hf := am_ifT c2 hf
    refine g_aload_n (pc := 12) 1 rfl dX12_isSo_12 rfl ?_
    refine g_iload_n (pc := 13) 2 rfl dX12_isSo_13 rfl ?_
    refine g_aload_n (pc := 14) 1 rfl dX12_isSo_14 rfl ?_
    refine g_getI (pc := 15) (in_12 hX (by omega)) fr_X12_595 dX12_isSo_15 ?_
    refine g_iload_n (pc := 18) 0 rfl dX12_isSo_18 rfl ?_
    refine bz_ne (pc := 19) 26 dX12_isSo_19 rfl (fun c3 => ?_) (fun c3 => ?_)
    · replace hf := am_ifT c3 hf
      refine g_iconst (pc := 22) (v := 1) dX12_isSo_22 (by decide) ?_
      refine g_goto (pc := 23) 27 dX12_isSo_23 rfl ?_
      exact am_sub [] rfl (q_X12_isSo_27 hX v1 (σ.1 12 0 57) true σ hf hk)
    replace hf := am_ifF c3 hf
    refine g_iconst (pc := 26) (v := 0) dX12_isSo_26 (by decide) ?_
    exact am_sub [] rfl (q_X12_isSo_27 hX v1 (σ.1 12 0 57) false σ hf hk)
  replace hf := am_ifF c2 hf
  refine g_aload_n (pc := 32) 1 rfl dX12_isSo_32 rfl ?_
  refine g_iload_n (pc := 33) 2 rfl dX12_isSo_33 rfl ?_
  refine g_aload_n (pc := 34) 1 rfl dX12_isSo_34 rfl ?_
  refine g_getI (pc := 35) (in_12 hX (by omega)) fr_X12_595 dX12_isSo_35 ?_
  refine g_iconst (pc := 38) (v := 1) dX12_isSo_38 (by decide) ?_
  obtain ⟨p4, hp4, hf⟩ := am_bd hf
  refine g_cV (pc := 39) (As := [.int v1, .int (σ.1 12 0 57), .int (am_b true)]) (st := []) (st1 := [.int p4]) (in_12 hX (by omega)) kk_12 mV_X12_heightOf ln_X12_334 rfl (Nat.le_of_ble_eq_true rfl) (Nat.le_of_ble_eq_true rfl) (k_X12_heightOf hX v1 (σ.1 12 0 57) true σ hp4) dX12_isSo_39 rfl rfl ?_
  refine g_istore (pc := 42) [(4, .int p4), (3, .int (σ.1 1369 0 j1)), (0, .ref (am_ad X 12 0)), (1, .int v1), (2, .int v2)] dX12_isSo_42 (Nat.le_of_ble_eq_true rfl) rfl ?_
  refine g_iload_n (pc := 44) 1 rfl dX12_isSo_44 rfl ?_
  refine g_iconst (pc := 45) (v := 2) dX12_isSo_45 (by decide) ?_
  refine bi_ne (pc := 46) 68 dX12_isSo_46 rfl (fun c5 => ?_) (fun c5 => ?_)
  · replace hf := am_ifT c5 hf
    refine g_iload (pc := 49) 0 rfl dX12_isSo_49 ?_
    refine g_aload_n (pc := 51) 2 rfl dX12_isSo_51 rfl ?_
    refine g_getC (pc := 52) (e := 0) (in_12 hX (by omega)) fr_X12_83 dX12_isSo_52 rfl ?_
    refine g_iload_n (pc := 55) 4 rfl dX12_isSo_55 rfl ?_
    obtain ⟨j6, hj6, hf⟩ := am_bd hf
    have gj6 := am_ix_lt hj6
    refine g_aI (pc := 56) (in_1370 hX (by omega)) ak_1370 hj6 dX12_isSo_56 ?_
    refine bi_le (pc := 57) 64 dX12_isSo_57 rfl (fun c7 => ?_) (fun c7 => ?_)
    · replace hf := am_ifT c7 hf
      refine g_iconst (pc := 60) (v := 1) dX12_isSo_60 (by decide) ?_
      refine g_goto (pc := 61) 84 dX12_isSo_61 rfl ?_
      have ho := Option.some.inj hf
      subst ho
      exact g_zreturn (pc := 84) (st := []) (x := true) rfl dX12_isSo_84 hk
    replace hf := am_ifF c7 hf
    refine g_iconst (pc := 64) (v := 0) dX12_isSo_64 (by decide) ?_
    refine g_goto (pc := 65) 84 dX12_isSo_65 rfl ?_
    have ho := Option.some.inj hf
    subst ho
    exact g_zreturn (pc := 84) (st := []) (x := false) rfl dX12_isSo_84 hk
  replace hf := am_ifF c5 hf
  refine g_iload (pc := 68) 0 rfl dX12_isSo_68 ?_
  refine g_aload_n (pc := 70) 2 rfl dX12_isSo_70 rfl ?_
  refine g_getC (pc := 71) (e := 0) (in_12 hX (by omega)) fr_X12_83 dX12_isSo_71 rfl ?_
  refine g_iload_n (pc := 74) 4 rfl dX12_isSo_74 rfl ?_
  obtain ⟨j8, hj8, hf⟩ := am_bd hf
  have gj8 := am_ix_lt hj8
  refine g_aI (pc := 75) (in_1370 hX (by omega)) ak_1370 hj8 dX12_isSo_75 ?_
  refine bi_ge (pc := 76) 83 dX12_isSo_76 rfl (fun c9 => ?_) (fun c9 => ?_)
  · replace hf := am_ifT c9 hf
    refine g_iconst (pc := 79) (v := 1) dX12_isSo_79 (by decide) ?_
    refine g_goto (pc := 80) 84 dX12_isSo_80 rfl ?_
    have ho := Option.some.inj hf
    subst ho
    exact g_zreturn (pc := 84) (st := []) (x := true) rfl dX12_isSo_84 hk
  replace hf := am_ifF c9 hf
  refine g_iconst (pc := 83) (v := 0) dX12_isSo_83 (by decide) ?_
  have ho := Option.some.inj hf
  subst ho
  exact g_zreturn (pc := 84) (st := []) (x := false) rfl dX12_isSo_84 hk
theorem k_X12_isSo {X : am_X} (hX : am_ks X = am_ksM) (v1 : Int32) (v2 : Int32) (σ : am_H) {o : Bool} (hf : f_X12_isSo v1 v2 σ = some o) : am_C X gm_X12_isSo [.ref (am_ad X 12 0), .int v1, .int v2] σ (am_is (some (.int (am_b o))) σ) :=
  am_ofG rfl (Nat.le_of_ble_eq_true rfl) rfl (q_X12_isSo hX v1 v2 σ hf ⟨rfl, rfl⟩)
theorem dX12_goUntil_0 : decode cX12_goUntil 0 = .ok (.iconst 1, 1) := by decide +kernel
theorem dX12_goUntil_1 : decode cX12_goUntil 1 = .ok (.istore_n 3, 1) := by decide +kernel
theorem dX12_goUntil_2 : decode cX12_goUntil 2 = .ok (.iload_n 3, 1) := by decide +kernel
theorem dX12_goUntil_3 : decode cX12_goUntil 3 = .ok (.ifCond .eq 47, 3) := by decide +kernel
theorem dX12_goUntil_6 : decode cX12_goUntil 6 = .ok (.aload_n 0, 1) := by decide +kernel
theorem dX12_goUntil_7 : decode cX12_goUntil 7 = .ok (.getfield 595, 3) := by decide +kernel
theorem dX12_goUntil_10 : decode cX12_goUntil 10 = .ok (.ldc_w 526, 3) := by decide +kernel
theorem dX12_goUntil_13 : decode cX12_goUntil 13 = .ok (.if_icmp .ne 9, 3) := by decide +kernel
theorem dX12_goUntil_16 : decode cX12_goUntil 16 = .ok (.aload_n 0, 1) := by decide +kernel
theorem dX12_goUntil_17 : decode cX12_goUntil 17 = .ok (.iconst 1, 1) := by decide +kernel
theorem dX12_goUntil_18 : decode cX12_goUntil 18 = .ok (.putfield 598, 3) := by decide +kernel
theorem dX12_goUntil_21 : decode cX12_goUntil 21 = .ok (.return_, 1) := by decide +kernel
theorem dX12_goUntil_22 : decode cX12_goUntil 22 = .ok (.aload_n 0, 1) := by decide +kernel
theorem dX12_goUntil_23 : decode cX12_goUntil 23 = .ok (.dup, 1) := by decide +kernel
theorem dX12_goUntil_24 : decode cX12_goUntil 24 = .ok (.getfield 595, 3) := by decide +kernel
theorem dX12_goUntil_27 : decode cX12_goUntil 27 = .ok (.iconst 1, 1) := by decide +kernel
theorem dX12_goUntil_28 : decode cX12_goUntil 28 = .ok (.iadd, 1) := by decide +kernel
theorem dX12_goUntil_29 : decode cX12_goUntil 29 = .ok (.putfield 595, 3) := by decide +kernel
theorem dX12_goUntil_32 : decode cX12_goUntil 32 = .ok (.aload_n 0, 1) := by decide +kernel
theorem dX12_goUntil_33 : decode cX12_goUntil 33 = .ok (.iload_n 1, 1) := by decide +kernel
theorem dX12_goUntil_34 : decode cX12_goUntil 34 = .ok (.iload_n 2, 1) := by decide +kernel
theorem dX12_goUntil_35 : decode cX12_goUntil 35 = .ok (.invokevirtual 601, 3) := by decide +kernel
theorem dX12_goUntil_38 : decode cX12_goUntil 38 = .ok (.ifCond .ne 7, 3) := by decide +kernel
theorem dX12_goUntil_41 : decode cX12_goUntil 41 = .ok (.iconst 1, 1) := by decide +kernel
theorem dX12_goUntil_42 : decode cX12_goUntil 42 = .ok (.goto 4, 3) := by decide +kernel
theorem dX12_goUntil_45 : decode cX12_goUntil 45 = .ok (.iconst 0, 1) := by decide +kernel
theorem dX12_goUntil_46 : decode cX12_goUntil 46 = .ok (.istore_n 3, 1) := by decide +kernel
theorem dX12_goUntil_47 : decode cX12_goUntil 47 = .ok (.goto (-45), 3) := by decide +kernel
theorem dX12_goUntil_50 : decode cX12_goUntil 50 = .ok (.return_, 1) := by decide +kernel
noncomputable def f_X12_goUntil_2 (v1 : Int32) (v2 : Int32) (v3 : Bool) (σ : am_H) : Option ((Bool × am_H) ⊕ ((am_H) ⊕ (am_H))) :=
  if v3 = true then
   (if (σ.1 12 0 57) = 99999 then
    (some (.inr (.inl σ)))
   else
   (some (am_wI σ 12 0 57 ((σ.1 12 0 57) + 1))).bind fun s3 =>
   (f_X12_isSo v1 v2 s3).bind fun p4 =>
   if p4 = true then
    (some (.inl (false, s3)))
   else
   some (.inl (true, s3)))
  else
  some (.inr (.inr σ))
set_option maxRecDepth 100000 in
set_option maxHeartbeats 4000000 in
theorem q_X12_goUntil_2 {X : am_X} (hX : am_ks X = am_ksM) {Q : Option Value → am_H → Prop} (v1 : Int32) (v2 : Int32) (v3 : Bool) (σ : am_H) {o : (Bool × am_H) ⊕ ((am_H) ⊕ (am_H))} (hf : f_X12_goUntil_2 v1 v2 v3 σ = some o) (hk0 : ∀ s, o = .inl s → am_G X gm_X12_goUntil Q 2 [(0, .ref (am_ad X 12 0)), (1, .int v1), (2, .int v2), (3, .int (am_b s.1))] [] s.2) (hk1 : ∀ t, o = .inr (.inl t) → am_G X gm_X12_goUntil Q 16 [(0, .ref (am_ad X 12 0))] [] t) (hk2 : ∀ t, o = .inr (.inr t) → am_G X gm_X12_goUntil Q 50 [] [] t) : am_G X gm_X12_goUntil Q 2 [(0, .ref (am_ad X 12 0)), (1, .int v1), (2, .int v2), (3, .int (am_b v3))] [] σ := by
  unfold f_X12_goUntil_2 at hf
  refine g_iload_n (pc := 2) 3 rfl dX12_goUntil_2 rfl ?_
  refine bt_eq (pc := 3) 50 dX12_goUntil_3 rfl (fun c1 => ?_) (fun c1 => ?_)
  · replace hf := am_ifT c1 hf
    refine g_aload_n (pc := 6) 0 rfl dX12_goUntil_6 rfl ?_
    refine g_getI (pc := 7) (in_12 hX (by omega)) fr_X12_595 dX12_goUntil_7 ?_
    refine g_ldcw (pc := 10) (v := 99999) (tb_10 (w := .constant RX12 526 99999) (List.mem_of_getElem? (i := 31) (by decide +kernel))) dX12_goUntil_10 ?_
    refine bi_ne (pc := 13) 22 dX12_goUntil_13 rfl (fun c2 => ?_) (fun c2 => ?_)
    · replace hf := am_ifT c2 hf
      have hz := hk1 _ (Option.some.inj hf).symm
      exact am_sub [0] rfl hz
    replace hf := am_ifF c2 hf
    refine g_aload_n (pc := 22) 0 rfl dX12_goUntil_22 rfl ?_
    refine g_dup (pc := 23) dX12_goUntil_23 rfl ?_
    refine g_getI (pc := 24) (in_12 hX (by omega)) fr_X12_595 dX12_goUntil_24 ?_
    refine g_iconst (pc := 27) (v := 1) dX12_goUntil_27 (by decide) ?_
    refine g_iadd (pc := 28) dX12_goUntil_28 ?_
    obtain ⟨s3, hs3, hf⟩ := am_bd hf
    refine g_setI (pc := 29) (in_12 hX (by omega)) fr_X12_595 dX12_goUntil_29 (Option.some.inj hs3) ?_
    refine g_aload_n (pc := 32) 0 rfl dX12_goUntil_32 rfl ?_
    refine g_iload_n (pc := 33) 1 rfl dX12_goUntil_33 rfl ?_
    refine g_iload_n (pc := 34) 2 rfl dX12_goUntil_34 rfl ?_
    obtain ⟨p4, hp4, hf⟩ := am_bd hf
    refine g_cV (pc := 35) (As := [.int v1, .int v2]) (st := []) (st1 := [.int (am_b p4)]) (in_12 hX (by omega)) kk_12 mV_X12_isSo ln_X12_601 rfl (Nat.le_of_ble_eq_true rfl) (Nat.le_of_ble_eq_true rfl) (k_X12_isSo hX v1 v2 s3 hp4) dX12_goUntil_35 rfl rfl ?_
    refine bt_ne (pc := 38) 45 dX12_goUntil_38 rfl (fun c5 => ?_) (fun c5 => ?_)
    · replace hf := am_ifT c5 hf
      refine g_iconst (pc := 45) (v := 0) dX12_goUntil_45 (by decide) ?_
      refine g_istore_n (pc := 46) [(3, .int 0), (0, .ref (am_ad X 12 0)), (1, .int v1), (2, .int v2)] dX12_goUntil_46 rfl (Nat.le_of_ble_eq_true rfl) rfl ?_
      refine g_goto (pc := 47) 2 dX12_goUntil_47 rfl ?_
      have hz := hk0 _ (Option.some.inj hf).symm
      exact am_sub [1, 2, 3, 0] rfl hz
    replace hf := am_ifF c5 hf
    refine g_iconst (pc := 41) (v := 1) dX12_goUntil_41 (by decide) ?_
    refine g_goto (pc := 42) 46 dX12_goUntil_42 rfl ?_
    refine g_istore_n (pc := 46) [(3, .int 1), (0, .ref (am_ad X 12 0)), (1, .int v1), (2, .int v2)] dX12_goUntil_46 rfl (Nat.le_of_ble_eq_true rfl) rfl ?_
    refine g_goto (pc := 47) 2 dX12_goUntil_47 rfl ?_
    have hz := hk0 _ (Option.some.inj hf).symm
    exact am_sub [1, 2, 3, 0] rfl hz
  replace hf := am_ifF c1 hf
  have hz := hk2 _ (Option.some.inj hf).symm
  exact am_sub [] rfl hz
set_option maxRecDepth 100000 in
set_option maxHeartbeats 4000000 in
theorem l_X12_goUntil_2 {X : am_X} (hX : am_ks X = am_ksM) {Q : Option Value → am_H → Prop} (v1 : Int32) (v2 : Int32) (σ : am_H) (s : Bool × am_H) {o : (am_H) ⊕ (am_H)} (hf : am_loop (fun s => f_X12_goUntil_2 v1 v2 s.1 s.2) s = some o) (hk1 : ∀ t, o = (.inl t) → am_G X gm_X12_goUntil Q 16 [(0, .ref (am_ad X 12 0))] [] t) (hk2 : ∀ t, o = (.inr t) → am_G X gm_X12_goUntil Q 50 [] [] t) : am_G X gm_X12_goUntil Q 2 [(0, .ref (am_ad X 12 0)), (1, .int v1), (2, .int v2), (3, .int (am_b s.1))] [] s.2 := by
  refine am_loop_ind (P := fun s => am_G X gm_X12_goUntil Q 2 [(0, .ref (am_ad X 12 0)), (1, .int v1), (2, .int v2), (3, .int (am_b s.1))] [] s.2) (K := fun r => r = o) ?_ hf rfl
  intro s o1 hb hi hr
  exact q_X12_goUntil_2 hX v1 v2 s.1  s.2 hb hi (fun t e => hk1 t (hr _ e).symm) (fun t e => hk2 t (hr _ e).symm)
noncomputable def f_X12_goUntil (v1 : Int32) (v2 : Int32) (σ : am_H) : Option (am_H) :=
  (am_loop (fun s => f_X12_goUntil_2 v1 v2 s.1 s.2) (true, σ)).bind fun w1 =>
  Sum.elim (fun t1_0 =>
   (some (am_wI t1_0 12 0 65 (am_b true))).bind fun s2 =>
   some s2) (fun u1_0 =>
   some u1_0) w1
set_option maxRecDepth 100000 in
set_option maxHeartbeats 4000000 in
theorem q_X12_goUntil {X : am_X} (hX : am_ks X = am_ksM) {Q : Option Value → am_H → Prop} (v1 : Int32) (v2 : Int32) (σ : am_H) {o : am_H} (hf : f_X12_goUntil v1 v2 σ = some o) (hk : Q none o) : am_G X gm_X12_goUntil Q 0 [(0, .ref (am_ad X 12 0)), (1, .int v1), (2, .int v2)] [] σ := by
  unfold f_X12_goUntil at hf
  refine g_iconst (pc := 0) (v := 1) dX12_goUntil_0 (by decide) ?_
  refine g_istore_n (pc := 1) [(3, .int 1), (0, .ref (am_ad X 12 0)), (1, .int v1), (2, .int v2)] dX12_goUntil_1 rfl (Nat.le_of_ble_eq_true rfl) rfl ?_
  obtain ⟨w1, hw1, hf⟩ := am_bd hf
  refine am_sub [1, 2, 3, 0] rfl (l_X12_goUntil_2 hX v1 v2  σ (true, σ) hw1 ?_ ?_)
  · intro t1_0 e
    subst e
    replace hf := am_elL hf
    refine g_aload_n (pc := 16) 0 rfl dX12_goUntil_16 rfl ?_
    refine g_iconst (pc := 17) (v := 1) dX12_goUntil_17 (by decide) ?_
    obtain ⟨s2, hs2, hf⟩ := am_bd hf
    refine g_setZ (x := true) (pc := 18) (in_12 hX (by omega)) fr_X12_598 dX12_goUntil_18 (Option.some.inj hs2) ?_
    have ho := Option.some.inj hf
    subst ho
    exact g_vreturn (pc := 21) (st := []) rfl dX12_goUntil_21 hk
  · intro u1_0 e
    subst e
    replace hf := am_elR hf
    have ho := Option.some.inj hf
    subst ho
    exact g_vreturn (pc := 50) (st := []) rfl dX12_goUntil_50 hk
theorem k_X12_goUntil {X : am_X} (hX : am_ks X = am_ksM) (v1 : Int32) (v2 : Int32) (σ : am_H) {o : am_H} (hf : f_X12_goUntil v1 v2 σ = some o) : am_C X gm_X12_goUntil [.ref (am_ad X 12 0), .int v1, .int v2] σ (am_is none o) :=
  am_ofG rfl (Nat.le_of_ble_eq_true rfl) rfl (q_X12_goUntil hX v1 v2 σ hf ⟨rfl, rfl⟩)
theorem dX12_obeyOne_0 : decode cX12_obeyOne 0 = .ok (.aload_n 0, 1) := by decide +kernel
theorem dX12_obeyOne_1 : decode cX12_obeyOne 1 = .ok (.getfield 598, 3) := by decide +kernel
theorem dX12_obeyOne_4 : decode cX12_obeyOne 4 = .ok (.ifCond .ne 13, 3) := by decide +kernel
theorem dX12_obeyOne_7 : decode cX12_obeyOne 7 = .ok (.aload_n 0, 1) := by decide +kernel
theorem dX12_obeyOne_8 : decode cX12_obeyOne 8 = .ok (.getfield 610, 3) := by decide +kernel
theorem dX12_obeyOne_11 : decode cX12_obeyOne 11 = .ok (.sipush 200, 3) := by decide +kernel
theorem dX12_obeyOne_14 : decode cX12_obeyOne 14 = .ok (.if_icmp .ne 9, 3) := by decide +kernel
theorem dX12_obeyOne_17 : decode cX12_obeyOne 17 = .ok (.aload_n 0, 1) := by decide +kernel
theorem dX12_obeyOne_18 : decode cX12_obeyOne 18 = .ok (.iconst 1, 1) := by decide +kernel
theorem dX12_obeyOne_19 : decode cX12_obeyOne 19 = .ok (.putfield 604, 3) := by decide +kernel
theorem dX12_obeyOne_22 : decode cX12_obeyOne 22 = .ok (.return_, 1) := by decide +kernel
theorem dX12_obeyOne_23 : decode cX12_obeyOne 23 = .ok (.aload_n 0, 1) := by decide +kernel
theorem dX12_obeyOne_24 : decode cX12_obeyOne 24 = .ok (.dup, 1) := by decide +kernel
theorem dX12_obeyOne_25 : decode cX12_obeyOne 25 = .ok (.getfield 610, 3) := by decide +kernel
theorem dX12_obeyOne_28 : decode cX12_obeyOne 28 = .ok (.iconst 1, 1) := by decide +kernel
theorem dX12_obeyOne_29 : decode cX12_obeyOne 29 = .ok (.iadd, 1) := by decide +kernel
theorem dX12_obeyOne_30 : decode cX12_obeyOne 30 = .ok (.putfield 610, 3) := by decide +kernel
theorem dX12_obeyOne_33 : decode cX12_obeyOne 33 = .ok (.aload_n 0, 1) := by decide +kernel
theorem dX12_obeyOne_34 : decode cX12_obeyOne 34 = .ok (.getfield 77, 3) := by decide +kernel
theorem dX12_obeyOne_37 : decode cX12_obeyOne 37 = .ok (.iload_n 2, 1) := by decide +kernel
theorem dX12_obeyOne_38 : decode cX12_obeyOne 38 = .ok (.iaload, 1) := by decide +kernel
theorem dX12_obeyOne_39 : decode cX12_obeyOne 39 = .ok (.ifCond .ne 53, 3) := by decide +kernel
theorem dX12_obeyOne_42 : decode cX12_obeyOne 42 = .ok (.aload_n 0, 1) := by decide +kernel
theorem dX12_obeyOne_43 : decode cX12_obeyOne 43 = .ok (.aload_n 0, 1) := by decide +kernel
theorem dX12_obeyOne_44 : decode cX12_obeyOne 44 = .ok (.getfield 595, 3) := by decide +kernel
theorem dX12_obeyOne_47 : decode cX12_obeyOne 47 = .ok (.aload_n 0, 1) := by decide +kernel
theorem dX12_obeyOne_48 : decode cX12_obeyOne 48 = .ok (.getfield 80, 3) := by decide +kernel
theorem dX12_obeyOne_51 : decode cX12_obeyOne 51 = .ok (.iload_n 2, 1) := by decide +kernel
theorem dX12_obeyOne_52 : decode cX12_obeyOne 52 = .ok (.iaload, 1) := by decide +kernel
theorem dX12_obeyOne_53 : decode cX12_obeyOne 53 = .ok (.iadd, 1) := by decide +kernel
theorem dX12_obeyOne_54 : decode cX12_obeyOne 54 = .ok (.ldc_w 526, 3) := by decide +kernel
theorem dX12_obeyOne_57 : decode cX12_obeyOne 57 = .ok (.if_icmp .le 7, 3) := by decide +kernel
theorem dX12_obeyOne_60 : decode cX12_obeyOne 60 = .ok (.iconst 1, 1) := by decide +kernel
theorem dX12_obeyOne_61 : decode cX12_obeyOne 61 = .ok (.goto 4, 3) := by decide +kernel
theorem dX12_obeyOne_64 : decode cX12_obeyOne 64 = .ok (.iconst 0, 1) := by decide +kernel
theorem dX12_obeyOne_65 : decode cX12_obeyOne 65 = .ok (.putfield 598, 3) := by decide +kernel
theorem dX12_obeyOne_68 : decode cX12_obeyOne 68 = .ok (.aload_n 0, 1) := by decide +kernel
theorem dX12_obeyOne_69 : decode cX12_obeyOne 69 = .ok (.ldc_w 526, 3) := by decide +kernel
theorem dX12_obeyOne_72 : decode cX12_obeyOne 72 = .ok (.aload_n 0, 1) := by decide +kernel
theorem dX12_obeyOne_73 : decode cX12_obeyOne 73 = .ok (.getfield 595, 3) := by decide +kernel
theorem dX12_obeyOne_76 : decode cX12_obeyOne 76 = .ok (.aload_n 0, 1) := by decide +kernel
theorem dX12_obeyOne_77 : decode cX12_obeyOne 77 = .ok (.getfield 80, 3) := by decide +kernel
theorem dX12_obeyOne_80 : decode cX12_obeyOne 80 = .ok (.iload_n 2, 1) := by decide +kernel
theorem dX12_obeyOne_81 : decode cX12_obeyOne 81 = .ok (.iaload, 1) := by decide +kernel
theorem dX12_obeyOne_82 : decode cX12_obeyOne 82 = .ok (.iadd, 1) := by decide +kernel
theorem dX12_obeyOne_83 : decode cX12_obeyOne 83 = .ok (.invokestatic 477, 3) := by decide +kernel
theorem dX12_obeyOne_86 : decode cX12_obeyOne 86 = .ok (.putfield 595, 3) := by decide +kernel
theorem dX12_obeyOne_89 : decode cX12_obeyOne 89 = .ok (.goto 175, 3) := by decide +kernel
theorem dX12_obeyOne_92 : decode cX12_obeyOne 92 = .ok (.aload_n 0, 1) := by decide +kernel
theorem dX12_obeyOne_93 : decode cX12_obeyOne 93 = .ok (.getfield 77, 3) := by decide +kernel
theorem dX12_obeyOne_96 : decode cX12_obeyOne 96 = .ok (.iload_n 2, 1) := by decide +kernel
theorem dX12_obeyOne_97 : decode cX12_obeyOne 97 = .ok (.iaload, 1) := by decide +kernel
theorem dX12_obeyOne_98 : decode cX12_obeyOne 98 = .ok (.iconst 1, 1) := by decide +kernel
theorem dX12_obeyOne_99 : decode cX12_obeyOne 99 = .ok (.if_icmp .ne 12, 3) := by decide +kernel
theorem dX12_obeyOne_102 : decode cX12_obeyOne 102 = .ok (.aload_n 0, 1) := by decide +kernel
theorem dX12_obeyOne_103 : decode cX12_obeyOne 103 = .ok (.iload_n 1, 1) := by decide +kernel
theorem dX12_obeyOne_104 : decode cX12_obeyOne 104 = .ok (.iload_n 2, 1) := by decide +kernel
theorem dX12_obeyOne_105 : decode cX12_obeyOne 105 = .ok (.invokevirtual 613, 3) := by decide +kernel
theorem dX12_obeyOne_108 : decode cX12_obeyOne 108 = .ok (.goto 156, 3) := by decide +kernel
theorem dX12_obeyOne_111 : decode cX12_obeyOne 111 = .ok (.aload_n 0, 1) := by decide +kernel
theorem dX12_obeyOne_112 : decode cX12_obeyOne 112 = .ok (.getfield 77, 3) := by decide +kernel
theorem dX12_obeyOne_115 : decode cX12_obeyOne 115 = .ok (.iload_n 2, 1) := by decide +kernel
theorem dX12_obeyOne_116 : decode cX12_obeyOne 116 = .ok (.iaload, 1) := by decide +kernel
theorem dX12_obeyOne_117 : decode cX12_obeyOne 117 = .ok (.iconst 2, 1) := by decide +kernel
theorem dX12_obeyOne_118 : decode cX12_obeyOne 118 = .ok (.if_icmp .ne 38, 3) := by decide +kernel
theorem dX12_obeyOne_121 : decode cX12_obeyOne 121 = .ok (.aload_n 0, 1) := by decide +kernel
theorem dX12_obeyOne_122 : decode cX12_obeyOne 122 = .ok (.getfield 616, 3) := by decide +kernel
theorem dX12_obeyOne_125 : decode cX12_obeyOne 125 = .ok (.bipush 30, 2) := by decide +kernel
theorem dX12_obeyOne_127 : decode cX12_obeyOne 127 = .ok (.if_icmp .ge 137, 3) := by decide +kernel
theorem dX12_obeyOne_130 : decode cX12_obeyOne 130 = .ok (.aload_n 0, 1) := by decide +kernel
theorem dX12_obeyOne_131 : decode cX12_obeyOne 131 = .ok (.getfield 101, 3) := by decide +kernel
theorem dX12_obeyOne_134 : decode cX12_obeyOne 134 = .ok (.aload_n 0, 1) := by decide +kernel
theorem dX12_obeyOne_135 : decode cX12_obeyOne 135 = .ok (.getfield 616, 3) := by decide +kernel
theorem dX12_obeyOne_138 : decode cX12_obeyOne 138 = .ok (.aload_n 0, 1) := by decide +kernel
theorem dX12_obeyOne_139 : decode cX12_obeyOne 139 = .ok (.getfield 595, 3) := by decide +kernel
theorem dX12_obeyOne_142 : decode cX12_obeyOne 142 = .ok (.iastore, 1) := by decide +kernel
theorem dX12_obeyOne_143 : decode cX12_obeyOne 143 = .ok (.aload_n 0, 1) := by decide +kernel
theorem dX12_obeyOne_144 : decode cX12_obeyOne 144 = .ok (.dup, 1) := by decide +kernel
theorem dX12_obeyOne_145 : decode cX12_obeyOne 145 = .ok (.getfield 616, 3) := by decide +kernel
theorem dX12_obeyOne_148 : decode cX12_obeyOne 148 = .ok (.iconst 1, 1) := by decide +kernel
theorem dX12_obeyOne_149 : decode cX12_obeyOne 149 = .ok (.iadd, 1) := by decide +kernel
theorem dX12_obeyOne_150 : decode cX12_obeyOne 150 = .ok (.putfield 616, 3) := by decide +kernel
theorem dX12_obeyOne_153 : decode cX12_obeyOne 153 = .ok (.goto 111, 3) := by decide +kernel
theorem dX12_obeyOne_156 : decode cX12_obeyOne 156 = .ok (.aload_n 0, 1) := by decide +kernel
theorem dX12_obeyOne_157 : decode cX12_obeyOne 157 = .ok (.getfield 77, 3) := by decide +kernel
theorem dX12_obeyOne_160 : decode cX12_obeyOne 160 = .ok (.iload_n 2, 1) := by decide +kernel
theorem dX12_obeyOne_161 : decode cX12_obeyOne 161 = .ok (.iaload, 1) := by decide +kernel
theorem dX12_obeyOne_162 : decode cX12_obeyOne 162 = .ok (.iconst 3, 1) := by decide +kernel
theorem dX12_obeyOne_163 : decode cX12_obeyOne 163 = .ok (.if_icmp .ne 26, 3) := by decide +kernel
theorem dX12_obeyOne_166 : decode cX12_obeyOne 166 = .ok (.aload_n 0, 1) := by decide +kernel
theorem dX12_obeyOne_167 : decode cX12_obeyOne 167 = .ok (.dup, 1) := by decide +kernel
theorem dX12_obeyOne_168 : decode cX12_obeyOne 168 = .ok (.getfield 619, 3) := by decide +kernel
theorem dX12_obeyOne_171 : decode cX12_obeyOne 171 = .ok (.aload_n 0, 1) := by decide +kernel
theorem dX12_obeyOne_172 : decode cX12_obeyOne 172 = .ok (.iload_n 1, 1) := by decide +kernel
theorem dX12_obeyOne_173 : decode cX12_obeyOne 173 = .ok (.aload_n 0, 1) := by decide +kernel
theorem dX12_obeyOne_174 : decode cX12_obeyOne 174 = .ok (.getfield 595, 3) := by decide +kernel
theorem dX12_obeyOne_177 : decode cX12_obeyOne 177 = .ok (.iconst 1, 1) := by decide +kernel
theorem dX12_obeyOne_178 : decode cX12_obeyOne 178 = .ok (.invokevirtual 334, 3) := by decide +kernel
theorem dX12_obeyOne_181 : decode cX12_obeyOne 181 = .ok (.i2l, 1) := by decide +kernel
theorem dX12_obeyOne_182 : decode cX12_obeyOne 182 = .ok (.ladd, 1) := by decide +kernel
theorem dX12_obeyOne_183 : decode cX12_obeyOne 183 = .ok (.putfield 619, 3) := by decide +kernel
theorem dX12_obeyOne_186 : decode cX12_obeyOne 186 = .ok (.goto 78, 3) := by decide +kernel
theorem dX12_obeyOne_189 : decode cX12_obeyOne 189 = .ok (.aload_n 0, 1) := by decide +kernel
theorem dX12_obeyOne_190 : decode cX12_obeyOne 190 = .ok (.getfield 77, 3) := by decide +kernel
theorem dX12_obeyOne_193 : decode cX12_obeyOne 193 = .ok (.iload_n 2, 1) := by decide +kernel
theorem dX12_obeyOne_194 : decode cX12_obeyOne 194 = .ok (.iaload, 1) := by decide +kernel
theorem dX12_obeyOne_195 : decode cX12_obeyOne 195 = .ok (.iconst 4, 1) := by decide +kernel
theorem dX12_obeyOne_196 : decode cX12_obeyOne 196 = .ok (.if_icmp .ne 45, 3) := by decide +kernel
theorem dX12_obeyOne_199 : decode cX12_obeyOne 199 = .ok (.iconst 0, 1) := by decide +kernel
theorem dX12_obeyOne_200 : decode cX12_obeyOne 200 = .ok (.istore_n 3, 1) := by decide +kernel
theorem dX12_obeyOne_201 : decode cX12_obeyOne 201 = .ok (.iload_n 3, 1) := by decide +kernel
theorem dX12_obeyOne_202 : decode cX12_obeyOne 202 = .ok (.aload_n 0, 1) := by decide +kernel
theorem dX12_obeyOne_203 : decode cX12_obeyOne 203 = .ok (.getfield 80, 3) := by decide +kernel
theorem dX12_obeyOne_206 : decode cX12_obeyOne 206 = .ok (.iload_n 2, 1) := by decide +kernel
theorem dX12_obeyOne_207 : decode cX12_obeyOne 207 = .ok (.iaload, 1) := by decide +kernel
theorem dX12_obeyOne_208 : decode cX12_obeyOne 208 = .ok (.if_icmp .ge 30, 3) := by decide +kernel
theorem dX12_obeyOne_211 : decode cX12_obeyOne 211 = .ok (.aload_n 0, 1) := by decide +kernel
theorem dX12_obeyOne_212 : decode cX12_obeyOne 212 = .ok (.getfield 604, 3) := by decide +kernel
theorem dX12_obeyOne_215 : decode cX12_obeyOne 215 = .ok (.ifCond .ne 23, 3) := by decide +kernel
theorem dX12_obeyOne_218 : decode cX12_obeyOne 218 = .ok (.aload_n 0, 1) := by decide +kernel
theorem dX12_obeyOne_219 : decode cX12_obeyOne 219 = .ok (.iload_n 1, 1) := by decide +kernel
theorem dX12_obeyOne_220 : decode cX12_obeyOne 220 = .ok (.iload_n 2, 1) := by decide +kernel
theorem dX12_obeyOne_221 : decode cX12_obeyOne 221 = .ok (.iconst 1, 1) := by decide +kernel
theorem dX12_obeyOne_222 : decode cX12_obeyOne 222 = .ok (.iadd, 1) := by decide +kernel
theorem dX12_obeyOne_223 : decode cX12_obeyOne 223 = .ok (.aload_n 0, 1) := by decide +kernel
theorem dX12_obeyOne_224 : decode cX12_obeyOne 224 = .ok (.getfield 86, 3) := by decide +kernel
theorem dX12_obeyOne_227 : decode cX12_obeyOne 227 = .ok (.iload_n 2, 1) := by decide +kernel
theorem dX12_obeyOne_228 : decode cX12_obeyOne 228 = .ok (.iaload, 1) := by decide +kernel
theorem dX12_obeyOne_229 : decode cX12_obeyOne 229 = .ok (.invokevirtual 622, 3) := by decide +kernel
theorem dX12_obeyOne_232 : decode cX12_obeyOne 232 = .ok (.iinc 3 1, 3) := by decide +kernel
theorem dX12_obeyOne_235 : decode cX12_obeyOne 235 = .ok (.goto (-34), 3) := by decide +kernel
theorem dX12_obeyOne_238 : decode cX12_obeyOne 238 = .ok (.goto 26, 3) := by decide +kernel
theorem dX12_obeyOne_241 : decode cX12_obeyOne 241 = .ok (.aload_n 0, 1) := by decide +kernel
theorem dX12_obeyOne_242 : decode cX12_obeyOne 242 = .ok (.iload_n 1, 1) := by decide +kernel
theorem dX12_obeyOne_243 : decode cX12_obeyOne 243 = .ok (.iload_n 2, 1) := by decide +kernel
theorem dX12_obeyOne_244 : decode cX12_obeyOne 244 = .ok (.invokevirtual 601, 3) := by decide +kernel
theorem dX12_obeyOne_247 : decode cX12_obeyOne 247 = .ok (.ifCond .eq 17, 3) := by decide +kernel
theorem dX12_obeyOne_250 : decode cX12_obeyOne 250 = .ok (.aload_n 0, 1) := by decide +kernel
theorem dX12_obeyOne_251 : decode cX12_obeyOne 251 = .ok (.iload_n 1, 1) := by decide +kernel
theorem dX12_obeyOne_252 : decode cX12_obeyOne 252 = .ok (.iload_n 2, 1) := by decide +kernel
theorem dX12_obeyOne_253 : decode cX12_obeyOne 253 = .ok (.iconst 1, 1) := by decide +kernel
theorem dX12_obeyOne_254 : decode cX12_obeyOne 254 = .ok (.iadd, 1) := by decide +kernel
theorem dX12_obeyOne_255 : decode cX12_obeyOne 255 = .ok (.aload_n 0, 1) := by decide +kernel
theorem dX12_obeyOne_256 : decode cX12_obeyOne 256 = .ok (.getfield 86, 3) := by decide +kernel
theorem dX12_obeyOne_259 : decode cX12_obeyOne 259 = .ok (.iload_n 2, 1) := by decide +kernel
theorem dX12_obeyOne_260 : decode cX12_obeyOne 260 = .ok (.iaload, 1) := by decide +kernel
theorem dX12_obeyOne_261 : decode cX12_obeyOne 261 = .ok (.invokevirtual 622, 3) := by decide +kernel
theorem dX12_obeyOne_264 : decode cX12_obeyOne 264 = .ok (.return_, 1) := by decide +kernel
noncomputable def f_X12_obeyOne_17 (rc : Int32 → Int32 → Int32 → am_H → Option (am_H)) (σ : am_H) : Option (am_H) :=
  (some (am_wI σ 12 0 58 1)).bind fun s1 =>
  some s1
set_option maxRecDepth 100000 in
set_option maxHeartbeats 4000000 in
theorem q_X12_obeyOne_17 {X : am_X} (hX : am_ks X = am_ksM) {Q : Option Value → am_H → Prop} (n : Nat) (rc : Int32 → Int32 → Int32 → am_H → Option (am_H)) (hrc : ∀ (v1 : Int32) (v2 : Int32) (v3 : Int32) (σ : am_H) (o : am_H), rc v1 v2 v3 σ = some o → am_C X (gm_X12_obeyAll n) [.ref (am_ad X 12 0), .int v1, .int v2, .int v3] σ (am_is none o)) (σ : am_H) {o : am_H} (hf : f_X12_obeyOne_17 rc σ = some o) (hk : Q none o) : am_G X (gm_X12_obeyOne n) Q 17 [(0, .ref (am_ad X 12 0))] [] σ := by
  unfold f_X12_obeyOne_17 at hf
  refine g_aload_n (pc := 17) 0 rfl dX12_obeyOne_17 rfl ?_
  refine g_iconst (pc := 18) (v := 1) dX12_obeyOne_18 (by decide) ?_
  obtain ⟨s1, hs1, hf⟩ := am_bd hf
  refine g_setI (pc := 19) (in_12 hX (by omega)) fr_X12_604 dX12_obeyOne_19 (Option.some.inj hs1) ?_
  have ho := Option.some.inj hf
  subst ho
  exact g_vreturn (pc := 22) (st := []) rfl dX12_obeyOne_22 hk
noncomputable def f_X12_obeyOne_65 (rc : Int32 → Int32 → Int32 → am_H → Option (am_H)) (v2 : Int32) (k1 : Bool) (σ : am_H) : Option (am_H) :=
  (some (am_wI σ 12 0 65 (am_b k1))).bind fun s1 =>
  (am_ix 40 v2).bind fun j2 =>
  (some (am_wI s1 12 0 57 (am_mn 99999 ((s1.1 12 0 57) + (s1.1 1369 0 j2))))).bind fun s3 =>
  some s3
set_option maxRecDepth 100000 in
set_option maxHeartbeats 4000000 in
theorem q_X12_obeyOne_65 {X : am_X} (hX : am_ks X = am_ksM) {Q : Option Value → am_H → Prop} (n : Nat) (rc : Int32 → Int32 → Int32 → am_H → Option (am_H)) (hrc : ∀ (v1 : Int32) (v2 : Int32) (v3 : Int32) (σ : am_H) (o : am_H), rc v1 v2 v3 σ = some o → am_C X (gm_X12_obeyAll n) [.ref (am_ad X 12 0), .int v1, .int v2, .int v3] σ (am_is none o)) (v2 : Int32) (k1 : Bool) (σ : am_H) {o : am_H} (hf : f_X12_obeyOne_65 rc v2 k1 σ = some o) (hk : Q none o) : am_G X (gm_X12_obeyOne n) Q 65 [(0, .ref (am_ad X 12 0)), (2, .int v2)] [.int (am_b k1), .ref (am_ad X 12 0)] σ := by
  unfold f_X12_obeyOne_65 at hf
  obtain ⟨s1, hs1, hf⟩ := am_bd hf
  refine g_setZ (x := k1) (pc := 65) (in_12 hX (by omega)) fr_X12_598 dX12_obeyOne_65 (Option.some.inj hs1) ?_
  refine g_aload_n (pc := 68) 0 rfl dX12_obeyOne_68 rfl ?_
  refine g_ldcw (pc := 69) (v := 99999) (tb_10 (w := .constant RX12 526 99999) (List.mem_of_getElem? (i := 31) (by decide +kernel))) dX12_obeyOne_69 ?_
  refine g_aload_n (pc := 72) 0 rfl dX12_obeyOne_72 rfl ?_
  refine g_getI (pc := 73) (in_12 hX (by omega)) fr_X12_595 dX12_obeyOne_73 ?_
  refine g_aload_n (pc := 76) 0 rfl dX12_obeyOne_76 rfl ?_
  refine g_getC (pc := 77) (e := 0) (in_12 hX (by omega)) fr_X12_80 dX12_obeyOne_77 rfl ?_
  refine g_iload_n (pc := 80) 1 rfl dX12_obeyOne_80 rfl ?_
  obtain ⟨j2, hj2, hf⟩ := am_bd hf
  have gj2 := am_ix_lt hj2
  refine g_aI (pc := 81) (in_1369 hX (by omega)) ak_1369 hj2 dX12_obeyOne_81 ?_
  refine g_iadd (pc := 82) dX12_obeyOne_82 ?_
  refine g_mmin (pc := 83) (Nat.le_trans (by decide : 1 ≤ 13) (Nat.le_add_right _ _)) (Nat.le_of_ble_eq_true rfl) sp_X12_477 dX12_obeyOne_83 ?_
  obtain ⟨s3, hs3, hf⟩ := am_bd hf
  refine g_setI (pc := 86) (in_12 hX (by omega)) fr_X12_595 dX12_obeyOne_86 (Option.some.inj hs3) ?_
  refine g_goto (pc := 89) 264 dX12_obeyOne_89 rfl ?_
  have ho := Option.some.inj hf
  subst ho
  exact g_vreturn (pc := 264) (st := []) rfl dX12_obeyOne_264 hk
noncomputable def f_X12_obeyOne_201 (rc : Int32 → Int32 → Int32 → am_H → Option (am_H)) (v1 : Int32) (v2 : Int32) (v3 : Int32) (σ : am_H) : Option ((Int32 × am_H) ⊕ (am_H)) :=
  (am_ix 40 v2).bind fun j1 =>
  if v3 < (σ.1 1369 0 j1) then
   (if (σ.1 12 0 58) = 0 then
    ((am_ix 40 v2).bind fun j4 =>
    (rc v1 (v2 + 1) (σ.1 1371 0 j4) σ).bind fun p5 =>
    some (.inl ((v3 + 1), p5)))
   else
   some (.inr σ))
  else
  some (.inr σ)
set_option maxRecDepth 100000 in
set_option maxHeartbeats 4000000 in
theorem q_X12_obeyOne_201 {X : am_X} (hX : am_ks X = am_ksM) {Q : Option Value → am_H → Prop} (n : Nat) (rc : Int32 → Int32 → Int32 → am_H → Option (am_H)) (hrc : ∀ (v1 : Int32) (v2 : Int32) (v3 : Int32) (σ : am_H) (o : am_H), rc v1 v2 v3 σ = some o → am_C X (gm_X12_obeyAll n) [.ref (am_ad X 12 0), .int v1, .int v2, .int v3] σ (am_is none o)) (v1 : Int32) (v2 : Int32) (v3 : Int32) (σ : am_H) {o : (Int32 × am_H) ⊕ (am_H)} (hf : f_X12_obeyOne_201 rc v1 v2 v3 σ = some o) (hk0 : ∀ s, o = .inl s → am_G X (gm_X12_obeyOne n) Q 201 [(0, .ref (am_ad X 12 0)), (1, .int v1), (2, .int v2), (3, .int s.1)] [] s.2) (hk1 : ∀ t, o = .inr t → am_G X (gm_X12_obeyOne n) Q 238 [] [] t) : am_G X (gm_X12_obeyOne n) Q 201 [(0, .ref (am_ad X 12 0)), (1, .int v1), (2, .int v2), (3, .int v3)] [] σ := by
  unfold f_X12_obeyOne_201 at hf
  refine g_iload_n (pc := 201) 3 rfl dX12_obeyOne_201 rfl ?_
  refine g_aload_n (pc := 202) 0 rfl dX12_obeyOne_202 rfl ?_
  refine g_getC (pc := 203) (e := 0) (in_12 hX (by omega)) fr_X12_80 dX12_obeyOne_203 rfl ?_
  refine g_iload_n (pc := 206) 2 rfl dX12_obeyOne_206 rfl ?_
  obtain ⟨j1, hj1, hf⟩ := am_bd hf
  have gj1 := am_ix_lt hj1
  refine g_aI (pc := 207) (in_1369 hX (by omega)) ak_1369 hj1 dX12_obeyOne_207 ?_
  refine bi_ge (pc := 208) 238 dX12_obeyOne_208 rfl (fun c2 => ?_) (fun c2 => ?_)
  · replace hf := am_ifT c2 hf
    refine g_aload_n (pc := 211) 0 rfl dX12_obeyOne_211 rfl ?_
    refine g_getI (pc := 212) (in_12 hX (by omega)) fr_X12_604 dX12_obeyOne_212 ?_
    refine bz_ne (pc := 215) 238 dX12_obeyOne_215 rfl (fun c3 => ?_) (fun c3 => ?_)
    · replace hf := am_ifT c3 hf
      refine g_aload_n (pc := 218) 0 rfl dX12_obeyOne_218 rfl ?_
      refine g_iload_n (pc := 219) 1 rfl dX12_obeyOne_219 rfl ?_
      refine g_iload_n (pc := 220) 2 rfl dX12_obeyOne_220 rfl ?_
      refine g_iconst (pc := 221) (v := 1) dX12_obeyOne_221 (by decide) ?_
      refine g_iadd (pc := 222) dX12_obeyOne_222 ?_
      refine g_aload_n (pc := 223) 0 rfl dX12_obeyOne_223 rfl ?_
      refine g_getC (pc := 224) (e := 0) (in_12 hX (by omega)) fr_X12_86 dX12_obeyOne_224 rfl ?_
      refine g_iload_n (pc := 227) 2 rfl dX12_obeyOne_227 rfl ?_
      obtain ⟨j4, hj4, hf⟩ := am_bd hf
      have gj4 := am_ix_lt hj4
      refine g_aI (pc := 228) (in_1371 hX (by omega)) ak_1371 hj4 dX12_obeyOne_228 ?_
      obtain ⟨p5, hp5, hf⟩ := am_bd hf
      refine g_cV (pc := 229) (As := [.int v1, .int (v2 + 1), .int (σ.1 1371 0 j4)]) (st := []) (st1 := []) (in_12 hX (by omega)) kk_12 (mV_X12_obeyAll _) ln_X12_622 rfl (by first | exact Nat.le_of_ble_eq_true rfl | (show _ + 1 ≤ _; simp only []; omega)) (Nat.le_of_ble_eq_true rfl) (hrc v1 (v2 + 1) (σ.1 1371 0 j4) σ _ hp5) dX12_obeyOne_229 rfl rfl ?_
      refine g_iinc (pc := 232) (v := (v3 + 1)) 3 [(3, .int (v3 + 1)), (0, .ref (am_ad X 12 0)), (1, .int v1), (2, .int v2)] dX12_obeyOne_232 rfl rfl (Nat.le_of_ble_eq_true rfl) rfl ?_
      refine g_goto (pc := 235) 201 dX12_obeyOne_235 rfl ?_
      have hz := hk0 _ (Option.some.inj hf).symm
      exact am_sub [1, 2, 3, 0] rfl hz
    replace hf := am_ifF c3 hf
    have hz := hk1 _ (Option.some.inj hf).symm
    exact am_sub [] rfl hz
  replace hf := am_ifF c2 hf
  have hz := hk1 _ (Option.some.inj hf).symm
  exact am_sub [] rfl hz
set_option maxRecDepth 100000 in
set_option maxHeartbeats 4000000 in
theorem l_X12_obeyOne_201 {X : am_X} (hX : am_ks X = am_ksM) {Q : Option Value → am_H → Prop} (n : Nat) (rc : Int32 → Int32 → Int32 → am_H → Option (am_H)) (hrc : ∀ (v1 : Int32) (v2 : Int32) (v3 : Int32) (σ : am_H) (o : am_H), rc v1 v2 v3 σ = some o → am_C X (gm_X12_obeyAll n) [.ref (am_ad X 12 0), .int v1, .int v2, .int v3] σ (am_is none o)) (v1 : Int32) (v2 : Int32) (σ : am_H) (s : Int32 × am_H) {o : am_H} (hf : am_loop (fun s => f_X12_obeyOne_201 rc v1 v2 s.1 s.2) s = some o) (hk1 : ∀ t, o = t → am_G X (gm_X12_obeyOne n) Q 238 [] [] t) : am_G X (gm_X12_obeyOne n) Q 201 [(0, .ref (am_ad X 12 0)), (1, .int v1), (2, .int v2), (3, .int s.1)] [] s.2 := by
  refine am_loop_ind (P := fun s => am_G X (gm_X12_obeyOne n) Q 201 [(0, .ref (am_ad X 12 0)), (1, .int v1), (2, .int v2), (3, .int s.1)] [] s.2) (K := fun r => r = o) ?_ hf rfl
  intro s o1 hb hi hr
  exact q_X12_obeyOne_201 hX n rc hrc v1 v2 s.1  s.2 hb hi (fun t e => hk1 t (hr _ e).symm)
noncomputable def f_X12_obeyOne (rc : Int32 → Int32 → Int32 → am_H → Option (am_H)) (v1 : Int32) (v2 : Int32) (σ : am_H) : Option (am_H) :=
  if (σ.1 12 0 65) = 0 then
   (if (σ.1 12 0 56) = 200 then
    (f_X12_obeyOne_17 rc σ)
   else
   (some (am_wI σ 12 0 56 ((σ.1 12 0 56) + 1))).bind fun s3 =>
   (am_ix 40 v2).bind fun j4 =>
   if (s3.1 1368 0 j4) = 0 then
    ((am_ix 40 v2).bind fun j6 =>
    if 99999 < ((s3.1 12 0 57) + (s3.1 1369 0 j6)) then
     (f_X12_obeyOne_65 rc v2 true s3)
    else
    f_X12_obeyOne_65 rc v2 false s3)
   else
   (am_ix 40 v2).bind fun j8 =>
   if (s3.1 1368 0 j8) = 1 then
    ((f_X12_goUntil v1 v2 s3).bind fun p10 =>
    some p10)
   else
   (am_ix 40 v2).bind fun j11 =>
   if (s3.1 1368 0 j11) = 2 then
    (if (s3.1 12 0 59) < 30 then
     ((am_ix 30 (s3.1 12 0 59)).bind fun j14 =>
     (some (am_wI s3 1376 0 j14 (s3.1 12 0 57))).bind fun s15 =>
     (some (am_wI s15 12 0 59 ((s15.1 12 0 59) + 1))).bind fun s16 =>
     some s16)
    else
    some s3)
   else
   (am_ix 40 v2).bind fun j17 =>
   if (s3.1 1368 0 j17) = 3 then
    ((f_X12_heightOf v1 (s3.1 12 0 57) true s3).bind fun p19 =>
    (some (am_wL s3 12 0 64 ((s3.2.1 12 0 64) + (Int32.toInt64 p19)))).bind fun s20 =>
    some s20)
   else
   (am_ix 40 v2).bind fun j21 =>
   if (s3.1 1368 0 j21) = 4 then
    ((am_loop (fun s => f_X12_obeyOne_201 rc v1 v2 s.1 s.2) (0, s3)).bind fun w23 =>
    some w23)
   else
   (f_X12_isSo v1 v2 s3).bind fun p24 =>
   if p24 = true then
    ((am_ix 40 v2).bind fun j26 =>
    (rc v1 (v2 + 1) (s3.1 1371 0 j26) s3).bind fun p27 =>
    some p27)
   else
   some s3)
  else
  f_X12_obeyOne_17 rc σ
set_option maxRecDepth 100000 in
set_option maxHeartbeats 4000000 in
theorem q_X12_obeyOne {X : am_X} (hX : am_ks X = am_ksM) {Q : Option Value → am_H → Prop} (n : Nat) (rc : Int32 → Int32 → Int32 → am_H → Option (am_H)) (hrc : ∀ (v1 : Int32) (v2 : Int32) (v3 : Int32) (σ : am_H) (o : am_H), rc v1 v2 v3 σ = some o → am_C X (gm_X12_obeyAll n) [.ref (am_ad X 12 0), .int v1, .int v2, .int v3] σ (am_is none o)) (v1 : Int32) (v2 : Int32) (σ : am_H) {o : am_H} (hf : f_X12_obeyOne rc v1 v2 σ = some o) (hk : Q none o) : am_G X (gm_X12_obeyOne n) Q 0 [(0, .ref (am_ad X 12 0)), (1, .int v1), (2, .int v2)] [] σ := by
  unfold f_X12_obeyOne at hf
  refine g_aload_n (pc := 0) 0 rfl dX12_obeyOne_0 rfl ?_
  refine g_getZ (pc := 1) (in_12 hX (by omega)) fr_X12_598 dX12_obeyOne_1 ?_
  refine bz_ne (pc := 4) 17 dX12_obeyOne_4 rfl (fun c1 => ?_) (fun c1 => ?_)
  · replace hf := am_ifT c1 hf
    refine g_aload_n (pc := 7) 0 rfl dX12_obeyOne_7 rfl ?_
    refine g_getI (pc := 8) (in_12 hX (by omega)) fr_X12_610 dX12_obeyOne_8 ?_
    refine g_sipush (pc := 11) (v := 200) dX12_obeyOne_11 (by decide) ?_
    refine bi_ne (pc := 14) 23 dX12_obeyOne_14 rfl (fun c2 => ?_) (fun c2 => ?_)
    · replace hf := am_ifT c2 hf
      exact am_sub [0] rfl (q_X12_obeyOne_17 hX n rc hrc σ hf hk)
    replace hf := am_ifF c2 hf
    refine g_aload_n (pc := 23) 0 rfl dX12_obeyOne_23 rfl ?_
    refine g_dup (pc := 24) dX12_obeyOne_24 rfl ?_
    refine g_getI (pc := 25) (in_12 hX (by omega)) fr_X12_610 dX12_obeyOne_25 ?_
    refine g_iconst (pc := 28) (v := 1) dX12_obeyOne_28 (by decide) ?_
    refine g_iadd (pc := 29) dX12_obeyOne_29 ?_
    obtain ⟨s3, hs3, hf⟩ := am_bd hf
    refine g_setI (pc := 30) (in_12 hX (by omega)) fr_X12_610 dX12_obeyOne_30 (Option.some.inj hs3) ?_
    refine g_aload_n (pc := 33) 0 rfl dX12_obeyOne_33 rfl ?_
    refine g_getC (pc := 34) (e := 0) (in_12 hX (by omega)) fr_X12_77 dX12_obeyOne_34 rfl ?_
    refine g_iload_n (pc := 37) 2 rfl dX12_obeyOne_37 rfl ?_
    obtain ⟨j4, hj4, hf⟩ := am_bd hf
    have gj4 := am_ix_lt hj4
    refine g_aI (pc := 38) (in_1368 hX (by omega)) ak_1368 hj4 dX12_obeyOne_38 ?_
    refine bz_ne (pc := 39) 92 dX12_obeyOne_39 rfl (fun c5 => ?_) (fun c5 => ?_)
    · replace hf := am_ifT c5 hf
      refine g_aload_n (pc := 42) 0 rfl dX12_obeyOne_42 rfl ?_
      refine g_aload_n (pc := 43) 0 rfl dX12_obeyOne_43 rfl ?_
      refine g_getI (pc := 44) (in_12 hX (by omega)) fr_X12_595 dX12_obeyOne_44 ?_
      refine g_aload_n (pc := 47) 0 rfl dX12_obeyOne_47 rfl ?_
      refine g_getC (pc := 48) (e := 0) (in_12 hX (by omega)) fr_X12_80 dX12_obeyOne_48 rfl ?_
      refine g_iload_n (pc := 51) 2 rfl dX12_obeyOne_51 rfl ?_
      obtain ⟨j6, hj6, hf⟩ := am_bd hf
      have gj6 := am_ix_lt hj6
      refine g_aI (pc := 52) (in_1369 hX (by omega)) ak_1369 hj6 dX12_obeyOne_52 ?_
      refine g_iadd (pc := 53) dX12_obeyOne_53 ?_
      refine g_ldcw (pc := 54) (v := 99999) (tb_10 (w := .constant RX12 526 99999) (List.mem_of_getElem? (i := 31) (by decide +kernel))) dX12_obeyOne_54 ?_
      refine bi_le (pc := 57) 64 dX12_obeyOne_57 rfl (fun c7 => ?_) (fun c7 => ?_)
      · replace hf := am_ifT c7 hf
        refine g_iconst (pc := 60) (v := 1) dX12_obeyOne_60 (by decide) ?_
        refine g_goto (pc := 61) 65 dX12_obeyOne_61 rfl ?_
        exact am_sub [0, 2] rfl (q_X12_obeyOne_65 hX n rc hrc v2 true s3 hf hk)
      replace hf := am_ifF c7 hf
      refine g_iconst (pc := 64) (v := 0) dX12_obeyOne_64 (by decide) ?_
      exact am_sub [0, 2] rfl (q_X12_obeyOne_65 hX n rc hrc v2 false s3 hf hk)
    replace hf := am_ifF c5 hf
    refine g_aload_n (pc := 92) 0 rfl dX12_obeyOne_92 rfl ?_
    refine g_getC (pc := 93) (e := 0) (in_12 hX (by omega)) fr_X12_77 dX12_obeyOne_93 rfl ?_
    refine g_iload_n (pc := 96) 2 rfl dX12_obeyOne_96 rfl ?_
    obtain ⟨j8, hj8, hf⟩ := am_bd hf
    have gj8 := am_ix_lt hj8
    refine g_aI (pc := 97) (in_1368 hX (by omega)) ak_1368 hj8 dX12_obeyOne_97 ?_
    refine g_iconst (pc := 98) (v := 1) dX12_obeyOne_98 (by decide) ?_
    refine bi_ne (pc := 99) 111 dX12_obeyOne_99 rfl (fun c9 => ?_) (fun c9 => ?_)
    · replace hf := am_ifT c9 hf
      refine g_aload_n (pc := 102) 0 rfl dX12_obeyOne_102 rfl ?_
      refine g_iload_n (pc := 103) 1 rfl dX12_obeyOne_103 rfl ?_
      refine g_iload_n (pc := 104) 2 rfl dX12_obeyOne_104 rfl ?_
      obtain ⟨p10, hp10, hf⟩ := am_bd hf
      refine g_cV (pc := 105) (As := [.int v1, .int v2]) (st := []) (st1 := []) (in_12 hX (by omega)) kk_12 mV_X12_goUntil ln_X12_613 rfl (by first | exact Nat.le_of_ble_eq_true rfl | (show _ + 1 ≤ _; simp only []; omega)) (Nat.le_of_ble_eq_true rfl) (k_X12_goUntil hX v1 v2 s3 hp10) dX12_obeyOne_105 rfl rfl ?_
      refine g_goto (pc := 108) 264 dX12_obeyOne_108 rfl ?_
      have ho := Option.some.inj hf
      subst ho
      exact g_vreturn (pc := 264) (st := []) rfl dX12_obeyOne_264 hk
    replace hf := am_ifF c9 hf
    refine g_aload_n (pc := 111) 0 rfl dX12_obeyOne_111 rfl ?_
    refine g_getC (pc := 112) (e := 0) (in_12 hX (by omega)) fr_X12_77 dX12_obeyOne_112 rfl ?_
    refine g_iload_n (pc := 115) 2 rfl dX12_obeyOne_115 rfl ?_
    obtain ⟨j11, hj11, hf⟩ := am_bd hf
    have gj11 := am_ix_lt hj11
    refine g_aI (pc := 116) (in_1368 hX (by omega)) ak_1368 hj11 dX12_obeyOne_116 ?_
    refine g_iconst (pc := 117) (v := 2) dX12_obeyOne_117 (by decide) ?_
    refine bi_ne (pc := 118) 156 dX12_obeyOne_118 rfl (fun c12 => ?_) (fun c12 => ?_)
    · replace hf := am_ifT c12 hf
      refine g_aload_n (pc := 121) 0 rfl dX12_obeyOne_121 rfl ?_
      refine g_getI (pc := 122) (in_12 hX (by omega)) fr_X12_616 dX12_obeyOne_122 ?_
      refine g_bipush (pc := 125) (v := 30) dX12_obeyOne_125 (by decide) ?_
      refine bi_ge (pc := 127) 264 dX12_obeyOne_127 rfl (fun c13 => ?_) (fun c13 => ?_)
      · replace hf := am_ifT c13 hf
        refine g_aload_n (pc := 130) 0 rfl dX12_obeyOne_130 rfl ?_
        refine g_getC (pc := 131) (e := 0) (in_12 hX (by omega)) fr_X12_101 dX12_obeyOne_131 rfl ?_
        refine g_aload_n (pc := 134) 0 rfl dX12_obeyOne_134 rfl ?_
        refine g_getI (pc := 135) (in_12 hX (by omega)) fr_X12_616 dX12_obeyOne_135 ?_
        refine g_aload_n (pc := 138) 0 rfl dX12_obeyOne_138 rfl ?_
        refine g_getI (pc := 139) (in_12 hX (by omega)) fr_X12_595 dX12_obeyOne_139 ?_
        obtain ⟨j14, hj14, hf⟩ := am_bd hf
        have gj14 := am_ix_lt hj14
        obtain ⟨s15, hs15, hf⟩ := am_bd hf
        refine g_sI (pc := 142) (in_1376 hX (by omega)) ak_1376 hj14 dX12_obeyOne_142 (Option.some.inj hs15) ?_
        refine g_aload_n (pc := 143) 0 rfl dX12_obeyOne_143 rfl ?_
        refine g_dup (pc := 144) dX12_obeyOne_144 rfl ?_
        refine g_getI (pc := 145) (in_12 hX (by omega)) fr_X12_616 dX12_obeyOne_145 ?_
        refine g_iconst (pc := 148) (v := 1) dX12_obeyOne_148 (by decide) ?_
        refine g_iadd (pc := 149) dX12_obeyOne_149 ?_
        obtain ⟨s16, hs16, hf⟩ := am_bd hf
        refine g_setI (pc := 150) (in_12 hX (by omega)) fr_X12_616 dX12_obeyOne_150 (Option.some.inj hs16) ?_
        refine g_goto (pc := 153) 264 dX12_obeyOne_153 rfl ?_
        have ho := Option.some.inj hf
        subst ho
        exact g_vreturn (pc := 264) (st := []) rfl dX12_obeyOne_264 hk
      replace hf := am_ifF c13 hf
      have ho := Option.some.inj hf
      subst ho
      exact g_vreturn (pc := 264) (st := []) rfl dX12_obeyOne_264 hk
    replace hf := am_ifF c12 hf
    refine g_aload_n (pc := 156) 0 rfl dX12_obeyOne_156 rfl ?_
    refine g_getC (pc := 157) (e := 0) (in_12 hX (by omega)) fr_X12_77 dX12_obeyOne_157 rfl ?_
    refine g_iload_n (pc := 160) 2 rfl dX12_obeyOne_160 rfl ?_
    obtain ⟨j17, hj17, hf⟩ := am_bd hf
    have gj17 := am_ix_lt hj17
    refine g_aI (pc := 161) (in_1368 hX (by omega)) ak_1368 hj17 dX12_obeyOne_161 ?_
    refine g_iconst (pc := 162) (v := 3) dX12_obeyOne_162 (by decide) ?_
    refine bi_ne (pc := 163) 189 dX12_obeyOne_163 rfl (fun c18 => ?_) (fun c18 => ?_)
    · replace hf := am_ifT c18 hf
      refine g_aload_n (pc := 166) 0 rfl dX12_obeyOne_166 rfl ?_
      refine g_dup (pc := 167) dX12_obeyOne_167 rfl ?_
      refine g_getJ (pc := 168) (in_12 hX (by omega)) fr_X12_619 dX12_obeyOne_168 ?_
      refine g_aload_n (pc := 171) 0 rfl dX12_obeyOne_171 rfl ?_
      refine g_iload_n (pc := 172) 1 rfl dX12_obeyOne_172 rfl ?_
      refine g_aload_n (pc := 173) 0 rfl dX12_obeyOne_173 rfl ?_
      refine g_getI (pc := 174) (in_12 hX (by omega)) fr_X12_595 dX12_obeyOne_174 ?_
      refine g_iconst (pc := 177) (v := 1) dX12_obeyOne_177 (by decide) ?_
      obtain ⟨p19, hp19, hf⟩ := am_bd hf
      refine g_cV (pc := 178) (As := [.int v1, .int (s3.1 12 0 57), .int (am_b true)]) (st := [.long (s3.2.1 12 0 64), .ref (am_ad X 12 0)]) (st1 := [.int p19, .long (s3.2.1 12 0 64), .ref (am_ad X 12 0)]) (in_12 hX (by omega)) kk_12 mV_X12_heightOf ln_X12_334 rfl (by first | exact Nat.le_of_ble_eq_true rfl | (show _ + 1 ≤ _; simp only []; omega)) (Nat.le_of_ble_eq_true rfl) (k_X12_heightOf hX v1 (s3.1 12 0 57) true s3 hp19) dX12_obeyOne_178 rfl rfl ?_
      refine g_i2l (pc := 181) dX12_obeyOne_181 ?_
      refine g_ladd (pc := 182) dX12_obeyOne_182 ?_
      obtain ⟨s20, hs20, hf⟩ := am_bd hf
      refine g_setJ (pc := 183) (in_12 hX (by omega)) fr_X12_619 dX12_obeyOne_183 (Option.some.inj hs20) ?_
      refine g_goto (pc := 186) 264 dX12_obeyOne_186 rfl ?_
      have ho := Option.some.inj hf
      subst ho
      exact g_vreturn (pc := 264) (st := []) rfl dX12_obeyOne_264 hk
    replace hf := am_ifF c18 hf
    refine g_aload_n (pc := 189) 0 rfl dX12_obeyOne_189 rfl ?_
    refine g_getC (pc := 190) (e := 0) (in_12 hX (by omega)) fr_X12_77 dX12_obeyOne_190 rfl ?_
    refine g_iload_n (pc := 193) 2 rfl dX12_obeyOne_193 rfl ?_
    obtain ⟨j21, hj21, hf⟩ := am_bd hf
    have gj21 := am_ix_lt hj21
    refine g_aI (pc := 194) (in_1368 hX (by omega)) ak_1368 hj21 dX12_obeyOne_194 ?_
    refine g_iconst (pc := 195) (v := 4) dX12_obeyOne_195 (by decide) ?_
    refine bi_ne (pc := 196) 241 dX12_obeyOne_196 rfl (fun c22 => ?_) (fun c22 => ?_)
    · replace hf := am_ifT c22 hf
      refine g_iconst (pc := 199) (v := 0) dX12_obeyOne_199 (by decide) ?_
      refine g_istore_n (pc := 200) [(3, .int 0), (0, .ref (am_ad X 12 0)), (1, .int v1), (2, .int v2)] dX12_obeyOne_200 rfl (Nat.le_of_ble_eq_true rfl) rfl ?_
      obtain ⟨w23, hw23, hf⟩ := am_bd hf
      refine am_sub [1, 2, 3, 0] rfl (l_X12_obeyOne_201 hX n rc hrc v1 v2  s3 (0, s3) hw23 ?_)
      intro t e
      subst e
      refine g_goto (pc := 238) 264 dX12_obeyOne_238 rfl ?_
      have ho := Option.some.inj hf
      subst ho
      exact g_vreturn (pc := 264) (st := []) rfl dX12_obeyOne_264 hk
    replace hf := am_ifF c22 hf
    refine g_aload_n (pc := 241) 0 rfl dX12_obeyOne_241 rfl ?_
    refine g_iload_n (pc := 242) 1 rfl dX12_obeyOne_242 rfl ?_
    refine g_iload_n (pc := 243) 2 rfl dX12_obeyOne_243 rfl ?_
    obtain ⟨p24, hp24, hf⟩ := am_bd hf
    refine g_cV (pc := 244) (As := [.int v1, .int v2]) (st := []) (st1 := [.int (am_b p24)]) (in_12 hX (by omega)) kk_12 mV_X12_isSo ln_X12_601 rfl (by first | exact Nat.le_of_ble_eq_true rfl | (show _ + 1 ≤ _; simp only []; omega)) (Nat.le_of_ble_eq_true rfl) (k_X12_isSo hX v1 v2 s3 hp24) dX12_obeyOne_244 rfl rfl ?_
    refine bt_eq (pc := 247) 264 dX12_obeyOne_247 rfl (fun c25 => ?_) (fun c25 => ?_)
    · replace hf := am_ifT c25 hf
      refine g_aload_n (pc := 250) 0 rfl dX12_obeyOne_250 rfl ?_
      refine g_iload_n (pc := 251) 1 rfl dX12_obeyOne_251 rfl ?_
      refine g_iload_n (pc := 252) 2 rfl dX12_obeyOne_252 rfl ?_
      refine g_iconst (pc := 253) (v := 1) dX12_obeyOne_253 (by decide) ?_
      refine g_iadd (pc := 254) dX12_obeyOne_254 ?_
      refine g_aload_n (pc := 255) 0 rfl dX12_obeyOne_255 rfl ?_
      refine g_getC (pc := 256) (e := 0) (in_12 hX (by omega)) fr_X12_86 dX12_obeyOne_256 rfl ?_
      refine g_iload_n (pc := 259) 2 rfl dX12_obeyOne_259 rfl ?_
      obtain ⟨j26, hj26, hf⟩ := am_bd hf
      have gj26 := am_ix_lt hj26
      refine g_aI (pc := 260) (in_1371 hX (by omega)) ak_1371 hj26 dX12_obeyOne_260 ?_
      obtain ⟨p27, hp27, hf⟩ := am_bd hf
      refine g_cV (pc := 261) (As := [.int v1, .int (v2 + 1), .int (s3.1 1371 0 j26)]) (st := []) (st1 := []) (in_12 hX (by omega)) kk_12 (mV_X12_obeyAll _) ln_X12_622 rfl (by first | exact Nat.le_of_ble_eq_true rfl | (show _ + 1 ≤ _; simp only []; omega)) (Nat.le_of_ble_eq_true rfl) (hrc v1 (v2 + 1) (s3.1 1371 0 j26) s3 _ hp27) dX12_obeyOne_261 rfl rfl ?_
      have ho := Option.some.inj hf
      subst ho
      exact g_vreturn (pc := 264) (st := []) rfl dX12_obeyOne_264 hk
    replace hf := am_ifF c25 hf
    have ho := Option.some.inj hf
    subst ho
    exact g_vreturn (pc := 264) (st := []) rfl dX12_obeyOne_264 hk
  replace hf := am_ifF c1 hf
  exact am_sub [0] rfl (q_X12_obeyOne_17 hX n rc hrc σ hf hk)
theorem k_X12_obeyOne {X : am_X} (hX : am_ks X = am_ksM) (n : Nat) (rc : Int32 → Int32 → Int32 → am_H → Option (am_H)) (hrc : ∀ (v1 : Int32) (v2 : Int32) (v3 : Int32) (σ : am_H) (o : am_H), rc v1 v2 v3 σ = some o → am_C X (gm_X12_obeyAll n) [.ref (am_ad X 12 0), .int v1, .int v2, .int v3] σ (am_is none o)) (v1 : Int32) (v2 : Int32) (σ : am_H) {o : am_H} (hf : f_X12_obeyOne rc v1 v2 σ = some o) : am_C X (gm_X12_obeyOne n) [.ref (am_ad X 12 0), .int v1, .int v2] σ (am_is none o) :=
  am_ofG rfl (Nat.le_of_ble_eq_true rfl) rfl (q_X12_obeyOne hX n rc hrc v1 v2 σ hf ⟨rfl, rfl⟩)
theorem dX12_obeyAll_0 : decode cX12_obeyAll 0 = .ok (.iload_n 2, 1) := by decide +kernel
theorem dX12_obeyAll_1 : decode cX12_obeyAll 1 = .ok (.istore 4, 2) := by decide +kernel
theorem dX12_obeyAll_3 : decode cX12_obeyAll 3 = .ok (.iload 4, 2) := by decide +kernel
theorem dX12_obeyAll_5 : decode cX12_obeyAll 5 = .ok (.iload_n 3, 1) := by decide +kernel
theorem dX12_obeyAll_6 : decode cX12_obeyAll 6 = .ok (.if_icmp .ge 29, 3) := by decide +kernel
theorem dX12_obeyAll_9 : decode cX12_obeyAll 9 = .ok (.aload_n 0, 1) := by decide +kernel
theorem dX12_obeyAll_10 : decode cX12_obeyAll 10 = .ok (.getfield 604, 3) := by decide +kernel
theorem dX12_obeyAll_13 : decode cX12_obeyAll 13 = .ok (.ifCond .ne 22, 3) := by decide +kernel
theorem dX12_obeyAll_16 : decode cX12_obeyAll 16 = .ok (.aload_n 0, 1) := by decide +kernel
theorem dX12_obeyAll_17 : decode cX12_obeyAll 17 = .ok (.iload_n 1, 1) := by decide +kernel
theorem dX12_obeyAll_18 : decode cX12_obeyAll 18 = .ok (.iload 4, 2) := by decide +kernel
theorem dX12_obeyAll_20 : decode cX12_obeyAll 20 = .ok (.invokevirtual 607, 3) := by decide +kernel
theorem dX12_obeyAll_23 : decode cX12_obeyAll 23 = .ok (.aload_n 0, 1) := by decide +kernel
theorem dX12_obeyAll_24 : decode cX12_obeyAll 24 = .ok (.getfield 86, 3) := by decide +kernel
theorem dX12_obeyAll_27 : decode cX12_obeyAll 27 = .ok (.iload 4, 2) := by decide +kernel
theorem dX12_obeyAll_29 : decode cX12_obeyAll 29 = .ok (.iaload, 1) := by decide +kernel
theorem dX12_obeyAll_30 : decode cX12_obeyAll 30 = .ok (.istore 4, 2) := by decide +kernel
theorem dX12_obeyAll_32 : decode cX12_obeyAll 32 = .ok (.goto (-29), 3) := by decide +kernel
theorem dX12_obeyAll_35 : decode cX12_obeyAll 35 = .ok (.return_, 1) := by decide +kernel
noncomputable def f_X12_obeyAll_3 (rc : Int32 → Int32 → Int32 → am_H → Option (am_H)) (v1 : Int32) (v3 : Int32) (v4 : Int32) (σ : am_H) : Option ((Int32 × am_H) ⊕ (am_H)) :=
  if v4 < v3 then
   (if (σ.1 12 0 58) = 0 then
    ((f_X12_obeyOne rc v1 v4 σ).bind fun p3 =>
    (am_ix 40 v4).bind fun j4 =>
    some (.inl ((p3.1 1371 0 j4), p3)))
   else
   some (.inr σ))
  else
  some (.inr σ)
set_option maxRecDepth 100000 in
set_option maxHeartbeats 4000000 in
theorem q_X12_obeyAll_3 {X : am_X} (hX : am_ks X = am_ksM) {Q : Option Value → am_H → Prop} (n : Nat) (rc : Int32 → Int32 → Int32 → am_H → Option (am_H)) (hrc : ∀ (v1 : Int32) (v2 : Int32) (v3 : Int32) (σ : am_H) (o : am_H), rc v1 v2 v3 σ = some o → am_C X (gm_X12_obeyAll n) [.ref (am_ad X 12 0), .int v1, .int v2, .int v3] σ (am_is none o)) (v1 : Int32) (v3 : Int32) (v4 : Int32) (σ : am_H) {o : (Int32 × am_H) ⊕ (am_H)} (hf : f_X12_obeyAll_3 rc v1 v3 v4 σ = some o) (hk0 : ∀ s, o = .inl s → am_G X (gm_X12_obeyAll (n + 1)) Q 3 [(0, .ref (am_ad X 12 0)), (1, .int v1), (3, .int v3), (4, .int s.1)] [] s.2) (hk1 : ∀ t, o = .inr t → am_G X (gm_X12_obeyAll (n + 1)) Q 35 [] [] t) : am_G X (gm_X12_obeyAll (n + 1)) Q 3 [(0, .ref (am_ad X 12 0)), (1, .int v1), (3, .int v3), (4, .int v4)] [] σ := by
  unfold f_X12_obeyAll_3 at hf
  refine g_iload (pc := 3) 3 rfl dX12_obeyAll_3 ?_
  refine g_iload_n (pc := 5) 2 rfl dX12_obeyAll_5 rfl ?_
  refine bi_ge (pc := 6) 35 dX12_obeyAll_6 rfl (fun c1 => ?_) (fun c1 => ?_)
  · replace hf := am_ifT c1 hf
    refine g_aload_n (pc := 9) 0 rfl dX12_obeyAll_9 rfl ?_
    refine g_getI (pc := 10) (in_12 hX (by omega)) fr_X12_604 dX12_obeyAll_10 ?_
    refine bz_ne (pc := 13) 35 dX12_obeyAll_13 rfl (fun c2 => ?_) (fun c2 => ?_)
    · replace hf := am_ifT c2 hf
      refine g_aload_n (pc := 16) 0 rfl dX12_obeyAll_16 rfl ?_
      refine g_iload_n (pc := 17) 1 rfl dX12_obeyAll_17 rfl ?_
      refine g_iload (pc := 18) 3 rfl dX12_obeyAll_18 ?_
      obtain ⟨p3, hp3, hf⟩ := am_bd hf
      refine g_cV (pc := 20) (As := [.int v1, .int v4]) (st := []) (st1 := []) (in_12 hX (by omega)) kk_12 (mV_X12_obeyOne _) ln_X12_607 rfl (by first | exact Nat.le_of_ble_eq_true rfl | (show _ + 1 ≤ _; simp only []; omega)) (Nat.le_of_ble_eq_true rfl) (k_X12_obeyOne hX n rc hrc v1 v4 σ hp3) dX12_obeyAll_20 rfl rfl ?_
      refine g_aload_n (pc := 23) 0 rfl dX12_obeyAll_23 rfl ?_
      refine g_getC (pc := 24) (e := 0) (in_12 hX (by omega)) fr_X12_86 dX12_obeyAll_24 rfl ?_
      refine g_iload (pc := 27) 3 rfl dX12_obeyAll_27 ?_
      obtain ⟨j4, hj4, hf⟩ := am_bd hf
      have gj4 := am_ix_lt hj4
      refine g_aI (pc := 29) (in_1371 hX (by omega)) ak_1371 hj4 dX12_obeyAll_29 ?_
      refine g_istore (pc := 30) [(4, .int (p3.1 1371 0 j4)), (0, .ref (am_ad X 12 0)), (1, .int v1), (3, .int v3)] dX12_obeyAll_30 (Nat.le_of_ble_eq_true rfl) rfl ?_
      refine g_goto (pc := 32) 3 dX12_obeyAll_32 rfl ?_
      have hz := hk0 _ (Option.some.inj hf).symm
      exact am_sub [1, 2, 3, 0] rfl hz
    replace hf := am_ifF c2 hf
    have hz := hk1 _ (Option.some.inj hf).symm
    exact am_sub [] rfl hz
  replace hf := am_ifF c1 hf
  have hz := hk1 _ (Option.some.inj hf).symm
  exact am_sub [] rfl hz
set_option maxRecDepth 100000 in
set_option maxHeartbeats 4000000 in
theorem l_X12_obeyAll_3 {X : am_X} (hX : am_ks X = am_ksM) {Q : Option Value → am_H → Prop} (n : Nat) (rc : Int32 → Int32 → Int32 → am_H → Option (am_H)) (hrc : ∀ (v1 : Int32) (v2 : Int32) (v3 : Int32) (σ : am_H) (o : am_H), rc v1 v2 v3 σ = some o → am_C X (gm_X12_obeyAll n) [.ref (am_ad X 12 0), .int v1, .int v2, .int v3] σ (am_is none o)) (v1 : Int32) (v3 : Int32) (σ : am_H) (s : Int32 × am_H) {o : am_H} (hf : am_loop (fun s => f_X12_obeyAll_3 rc v1 v3 s.1 s.2) s = some o) (hk1 : ∀ t, o = t → am_G X (gm_X12_obeyAll (n + 1)) Q 35 [] [] t) : am_G X (gm_X12_obeyAll (n + 1)) Q 3 [(0, .ref (am_ad X 12 0)), (1, .int v1), (3, .int v3), (4, .int s.1)] [] s.2 := by
  refine am_loop_ind (P := fun s => am_G X (gm_X12_obeyAll (n + 1)) Q 3 [(0, .ref (am_ad X 12 0)), (1, .int v1), (3, .int v3), (4, .int s.1)] [] s.2) (K := fun r => r = o) ?_ hf rfl
  intro s o1 hb hi hr
  exact q_X12_obeyAll_3 hX n rc hrc v1 v3 s.1  s.2 hb hi (fun t e => hk1 t (hr _ e).symm)
noncomputable def f_X12_obeyAll_0 (rc : Int32 → Int32 → Int32 → am_H → Option (am_H)) (v1 : Int32) (v2 : Int32) (v3 : Int32) (σ : am_H) : Option (am_H) :=
  (am_loop (fun s => f_X12_obeyAll_3 rc v1 v3 s.1 s.2) (v2, σ)).bind fun w1 =>
  some w1
set_option maxRecDepth 100000 in
set_option maxHeartbeats 4000000 in
theorem q_X12_obeyAll_0 {X : am_X} (hX : am_ks X = am_ksM) {Q : Option Value → am_H → Prop} (n : Nat) (rc : Int32 → Int32 → Int32 → am_H → Option (am_H)) (hrc : ∀ (v1 : Int32) (v2 : Int32) (v3 : Int32) (σ : am_H) (o : am_H), rc v1 v2 v3 σ = some o → am_C X (gm_X12_obeyAll n) [.ref (am_ad X 12 0), .int v1, .int v2, .int v3] σ (am_is none o)) (v1 : Int32) (v2 : Int32) (v3 : Int32) (σ : am_H) {o : am_H} (hf : f_X12_obeyAll_0 rc v1 v2 v3 σ = some o) (hk : Q none o) : am_G X (gm_X12_obeyAll (n + 1)) Q 0 [(0, .ref (am_ad X 12 0)), (1, .int v1), (2, .int v2), (3, .int v3)] [] σ := by
  unfold f_X12_obeyAll_0 at hf
  refine g_iload_n (pc := 0) 2 rfl dX12_obeyAll_0 rfl ?_
  refine g_istore (pc := 1) [(4, .int v2), (0, .ref (am_ad X 12 0)), (1, .int v1), (2, .int v2), (3, .int v3)] dX12_obeyAll_1 (Nat.le_of_ble_eq_true rfl) rfl ?_
  obtain ⟨w1, hw1, hf⟩ := am_bd hf
  refine am_sub [1, 2, 4, 0] rfl (l_X12_obeyAll_3 hX n rc hrc v1 v3  σ (v2, σ) hw1 ?_)
  intro t e
  subst e
  have ho := Option.some.inj hf
  subst ho
  exact g_vreturn (pc := 35) (st := []) rfl dX12_obeyAll_35 hk
noncomputable def f_X12_obeyAll : Nat → Int32 → Int32 → Int32 → am_H → Option (am_H)
  | 0 => fun _ _ _ _ => none
  | n + 1 => fun v1 v2 v3 σ => f_X12_obeyAll_0 (f_X12_obeyAll n) v1 v2 v3 σ
theorem k_X12_obeyAll {X : am_X} (hX : am_ks X = am_ksM) (n : Nat) : ∀ (v1 : Int32) (v2 : Int32) (v3 : Int32) (σ : am_H) {o : am_H}, f_X12_obeyAll n v1 v2 v3 σ = some o → am_C X (gm_X12_obeyAll n) [.ref (am_ad X 12 0), .int v1, .int v2, .int v3] σ (am_is none o) := by
  induction n with
  | zero => intro v1 v2 v3 σ o hf; exact absurd hf (by simp [f_X12_obeyAll])
  | succ n ih =>
    intro v1 v2 v3 σ o hf
    exact am_ofG rfl (Nat.le_of_ble_eq_true rfl) rfl (q_X12_obeyAll_0 hX n (f_X12_obeyAll n) (fun v1 v2 v3 σ o h => ih v1 v2 v3 σ h) v1 v2 v3 σ hf ⟨rfl, rfl⟩)
theorem dX12_obey_0 : decode cX12_obey 0 = .ok (.aload_n 0, 1) := by decide +kernel
theorem dX12_obey_1 : decode cX12_obey 1 = .ok (.iconst 0, 1) := by decide +kernel
theorem dX12_obey_2 : decode cX12_obey 2 = .ok (.putfield 122, 3) := by decide +kernel
theorem dX12_obey_5 : decode cX12_obey 5 = .ok (.aload_n 0, 1) := by decide +kernel
theorem dX12_obey_6 : decode cX12_obey 6 = .ok (.iconst 0, 1) := by decide +kernel
theorem dX12_obey_7 : decode cX12_obey 7 = .ok (.putfield 125, 3) := by decide +kernel
theorem dX12_obey_10 : decode cX12_obey 10 = .ok (.iload_n 1, 1) := by decide +kernel
theorem dX12_obey_11 : decode cX12_obey 11 = .ok (.invokestatic 280, 3) := by decide +kernel
theorem dX12_obey_14 : decode cX12_obey 14 = .ok (.ifCond .ne 9, 3) := by decide +kernel
theorem dX12_obey_17 : decode cX12_obey 17 = .ok (.aload_n 0, 1) := by decide +kernel
theorem dX12_obey_18 : decode cX12_obey 18 = .ok (.iconst 2, 1) := by decide +kernel
theorem dX12_obey_19 : decode cX12_obey 19 = .ok (.invokevirtual 283, 3) := by decide +kernel
theorem dX12_obey_22 : decode cX12_obey 22 = .ok (.ireturn, 1) := by decide +kernel
theorem dX12_obey_23 : decode cX12_obey 23 = .ok (.iload_n 2, 1) := by decide +kernel
theorem dX12_obey_24 : decode cX12_obey 24 = .ok (.invokestatic 331, 3) := by decide +kernel
theorem dX12_obey_27 : decode cX12_obey 27 = .ok (.ifCond .ne 9, 3) := by decide +kernel
theorem dX12_obey_30 : decode cX12_obey 30 = .ok (.aload_n 0, 1) := by decide +kernel
theorem dX12_obey_31 : decode cX12_obey 31 = .ok (.iconst 5, 1) := by decide +kernel
theorem dX12_obey_32 : decode cX12_obey 32 = .ok (.invokevirtual 283, 3) := by decide +kernel
theorem dX12_obey_35 : decode cX12_obey 35 = .ok (.ireturn, 1) := by decide +kernel
theorem dX12_obey_36 : decode cX12_obey 36 = .ok (.aload_n 0, 1) := by decide +kernel
theorem dX12_obey_37 : decode cX12_obey 37 = .ok (.iload_n 2, 1) := by decide +kernel
theorem dX12_obey_38 : decode cX12_obey 38 = .ok (.putfield 595, 3) := by decide +kernel
theorem dX12_obey_41 : decode cX12_obey 41 = .ok (.aload_n 0, 1) := by decide +kernel
theorem dX12_obey_42 : decode cX12_obey 42 = .ok (.iconst 0, 1) := by decide +kernel
theorem dX12_obey_43 : decode cX12_obey 43 = .ok (.putfield 610, 3) := by decide +kernel
theorem dX12_obey_46 : decode cX12_obey 46 = .ok (.aload_n 0, 1) := by decide +kernel
theorem dX12_obey_47 : decode cX12_obey 47 = .ok (.iconst 0, 1) := by decide +kernel
theorem dX12_obey_48 : decode cX12_obey 48 = .ok (.putfield 604, 3) := by decide +kernel
theorem dX12_obey_51 : decode cX12_obey 51 = .ok (.aload_n 0, 1) := by decide +kernel
theorem dX12_obey_52 : decode cX12_obey 52 = .ok (.lconst 0, 1) := by decide +kernel
theorem dX12_obey_53 : decode cX12_obey 53 = .ok (.putfield 619, 3) := by decide +kernel
theorem dX12_obey_56 : decode cX12_obey 56 = .ok (.aload_n 0, 1) := by decide +kernel
theorem dX12_obey_57 : decode cX12_obey 57 = .ok (.iconst 0, 1) := by decide +kernel
theorem dX12_obey_58 : decode cX12_obey 58 = .ok (.putfield 616, 3) := by decide +kernel
theorem dX12_obey_61 : decode cX12_obey 61 = .ok (.aload_n 0, 1) := by decide +kernel
theorem dX12_obey_62 : decode cX12_obey 62 = .ok (.iconst 0, 1) := by decide +kernel
theorem dX12_obey_63 : decode cX12_obey 63 = .ok (.putfield 598, 3) := by decide +kernel
theorem dX12_obey_66 : decode cX12_obey 66 = .ok (.aload_n 0, 1) := by decide +kernel
theorem dX12_obey_67 : decode cX12_obey 67 = .ok (.iconst 1, 1) := by decide +kernel
theorem dX12_obey_68 : decode cX12_obey 68 = .ok (.putfield 626, 3) := by decide +kernel
theorem dX12_obey_71 : decode cX12_obey 71 = .ok (.aload_n 0, 1) := by decide +kernel
theorem dX12_obey_72 : decode cX12_obey 72 = .ok (.iload_n 1, 1) := by decide +kernel
theorem dX12_obey_73 : decode cX12_obey 73 = .ok (.iconst 0, 1) := by decide +kernel
theorem dX12_obey_74 : decode cX12_obey 74 = .ok (.aload_n 0, 1) := by decide +kernel
theorem dX12_obey_75 : decode cX12_obey 75 = .ok (.getfield 592, 3) := by decide +kernel
theorem dX12_obey_78 : decode cX12_obey 78 = .ok (.invokevirtual 622, 3) := by decide +kernel
theorem dX12_obey_81 : decode cX12_obey 81 = .ok (.aload_n 0, 1) := by decide +kernel
theorem dX12_obey_82 : decode cX12_obey 82 = .ok (.getfield 595, 3) := by decide +kernel
theorem dX12_obey_85 : decode cX12_obey 85 = .ok (.ireturn, 1) := by decide +kernel
noncomputable def f_X12_obey (v1 : Int32) (v2 : Int32) (σ : am_H) : Option (Int32 × am_H) :=
  (some (am_wI σ 12 0 1 0)).bind fun s1 =>
  (some (am_wI s1 12 0 0 0)).bind fun s2 =>
  (f_X12_isMachine v1 s2).bind fun p3 =>
  if p3 = true then
   ((f_X12_isHour v2 s2).bind fun p5 =>
   if p5 = true then
    ((some (am_wI s2 12 0 57 v2)).bind fun s7 =>
    (some (am_wI s7 12 0 56 0)).bind fun s8 =>
    (some (am_wI s8 12 0 58 0)).bind fun s9 =>
    (some (am_wL s9 12 0 64 0)).bind fun s10 =>
    (some (am_wI s10 12 0 59 0)).bind fun s11 =>
    (some (am_wI s11 12 0 65 (am_b false))).bind fun s12 =>
    (some (am_wI s12 12 0 66 (am_b true))).bind fun s13 =>
    (f_X12_obeyAll 8 v1 0 (s13.1 12 0 54) s13).bind fun p14 =>
    some ((p14.1 12 0 57), p14))
   else
   (f_X12_refuse 5 s2).bind fun p15 =>
   some (p15.1, p15.2))
  else
  (f_X12_refuse 2 s2).bind fun p16 =>
  some (p16.1, p16.2)
set_option maxRecDepth 100000 in
set_option maxHeartbeats 4000000 in
theorem q_X12_obey {X : am_X} (hX : am_ks X = am_ksM) {Q : Option Value → am_H → Prop} (v1 : Int32) (v2 : Int32) (σ : am_H) {o : Int32 × am_H} (hf : f_X12_obey v1 v2 σ = some o) (hk : Q (some (.int o.1)) o.2) : am_G X gm_X12_obey Q 0 [(0, .ref (am_ad X 12 0)), (1, .int v1), (2, .int v2)] [] σ := by
  unfold f_X12_obey at hf
  refine g_aload_n (pc := 0) 0 rfl dX12_obey_0 rfl ?_
  refine g_iconst (pc := 1) (v := 0) dX12_obey_1 (by decide) ?_
  obtain ⟨s1, hs1, hf⟩ := am_bd hf
  refine g_setI (pc := 2) (in_12 hX (by omega)) fr_X12_122 dX12_obey_2 (Option.some.inj hs1) ?_
  refine g_aload_n (pc := 5) 0 rfl dX12_obey_5 rfl ?_
  refine g_iconst (pc := 6) (v := 0) dX12_obey_6 (by decide) ?_
  obtain ⟨s2, hs2, hf⟩ := am_bd hf
  refine g_setI (pc := 7) (in_12 hX (by omega)) fr_X12_125 dX12_obey_7 (Option.some.inj hs2) ?_
  refine g_iload_n (pc := 10) 1 rfl dX12_obey_10 rfl ?_
  obtain ⟨p3, hp3, hf⟩ := am_bd hf
  refine g_cS (pc := 11) (As := [.int v1]) (st := []) (st1 := [.int (am_b p3)]) mS_X12_isMachine ln_X12_280 rfl (Nat.le_of_ble_eq_true rfl) (Nat.le_of_ble_eq_true rfl) (k_X12_isMachine hX v1 s2 hp3) dX12_obey_11 rfl rfl ?_
  refine bt_ne (pc := 14) 23 dX12_obey_14 rfl (fun c4 => ?_) (fun c4 => ?_)
  · replace hf := am_ifT c4 hf
    refine g_iload_n (pc := 23) 2 rfl dX12_obey_23 rfl ?_
    obtain ⟨p5, hp5, hf⟩ := am_bd hf
    refine g_cS (pc := 24) (As := [.int v2]) (st := []) (st1 := [.int (am_b p5)]) mS_X12_isHour ln_X12_331 rfl (Nat.le_of_ble_eq_true rfl) (Nat.le_of_ble_eq_true rfl) (k_X12_isHour hX v2 s2 hp5) dX12_obey_24 rfl rfl ?_
    refine bt_ne (pc := 27) 36 dX12_obey_27 rfl (fun c6 => ?_) (fun c6 => ?_)
    · replace hf := am_ifT c6 hf
      refine g_aload_n (pc := 36) 0 rfl dX12_obey_36 rfl ?_
      refine g_iload_n (pc := 37) 2 rfl dX12_obey_37 rfl ?_
      obtain ⟨s7, hs7, hf⟩ := am_bd hf
      refine g_setI (pc := 38) (in_12 hX (by omega)) fr_X12_595 dX12_obey_38 (Option.some.inj hs7) ?_
      refine g_aload_n (pc := 41) 0 rfl dX12_obey_41 rfl ?_
      refine g_iconst (pc := 42) (v := 0) dX12_obey_42 (by decide) ?_
      obtain ⟨s8, hs8, hf⟩ := am_bd hf
      refine g_setI (pc := 43) (in_12 hX (by omega)) fr_X12_610 dX12_obey_43 (Option.some.inj hs8) ?_
      refine g_aload_n (pc := 46) 0 rfl dX12_obey_46 rfl ?_
      refine g_iconst (pc := 47) (v := 0) dX12_obey_47 (by decide) ?_
      obtain ⟨s9, hs9, hf⟩ := am_bd hf
      refine g_setI (pc := 48) (in_12 hX (by omega)) fr_X12_604 dX12_obey_48 (Option.some.inj hs9) ?_
      refine g_aload_n (pc := 51) 0 rfl dX12_obey_51 rfl ?_
      refine g_lconst (pc := 52) (v := 0) dX12_obey_52 (by decide) ?_
      obtain ⟨s10, hs10, hf⟩ := am_bd hf
      refine g_setJ (pc := 53) (in_12 hX (by omega)) fr_X12_619 dX12_obey_53 (Option.some.inj hs10) ?_
      refine g_aload_n (pc := 56) 0 rfl dX12_obey_56 rfl ?_
      refine g_iconst (pc := 57) (v := 0) dX12_obey_57 (by decide) ?_
      obtain ⟨s11, hs11, hf⟩ := am_bd hf
      refine g_setI (pc := 58) (in_12 hX (by omega)) fr_X12_616 dX12_obey_58 (Option.some.inj hs11) ?_
      refine g_aload_n (pc := 61) 0 rfl dX12_obey_61 rfl ?_
      refine g_iconst (pc := 62) (v := 0) dX12_obey_62 (by decide) ?_
      obtain ⟨s12, hs12, hf⟩ := am_bd hf
      refine g_setZ (x := false) (pc := 63) (in_12 hX (by omega)) fr_X12_598 dX12_obey_63 (Option.some.inj hs12) ?_
      refine g_aload_n (pc := 66) 0 rfl dX12_obey_66 rfl ?_
      refine g_iconst (pc := 67) (v := 1) dX12_obey_67 (by decide) ?_
      obtain ⟨s13, hs13, hf⟩ := am_bd hf
      refine g_setZ (x := true) (pc := 68) (in_12 hX (by omega)) fr_X12_626 dX12_obey_68 (Option.some.inj hs13) ?_
      refine g_aload_n (pc := 71) 0 rfl dX12_obey_71 rfl ?_
      refine g_iload_n (pc := 72) 1 rfl dX12_obey_72 rfl ?_
      refine g_iconst (pc := 73) (v := 0) dX12_obey_73 (by decide) ?_
      refine g_aload_n (pc := 74) 0 rfl dX12_obey_74 rfl ?_
      refine g_getI (pc := 75) (in_12 hX (by omega)) fr_X12_592 dX12_obey_75 ?_
      obtain ⟨p14, hp14, hf⟩ := am_bd hf
      refine g_cV (pc := 78) (As := [.int v1, .int 0, .int (s13.1 12 0 54)]) (st := []) (st1 := []) (in_12 hX (by omega)) kk_12 (mV_X12_obeyAll _) ln_X12_622 rfl (Nat.le_of_ble_eq_true rfl) (Nat.le_of_ble_eq_true rfl) (k_X12_obeyAll hX 8 v1 0 (s13.1 12 0 54) s13 hp14) dX12_obey_78 rfl rfl ?_
      refine g_aload_n (pc := 81) 0 rfl dX12_obey_81 rfl ?_
      refine g_getI (pc := 82) (in_12 hX (by omega)) fr_X12_595 dX12_obey_82 ?_
      have ho := Option.some.inj hf
      subst ho
      exact g_ireturn (pc := 85) (st := []) rfl dX12_obey_85 hk
    replace hf := am_ifF c6 hf
    refine g_aload_n (pc := 30) 0 rfl dX12_obey_30 rfl ?_
    refine g_iconst (pc := 31) (v := 5) dX12_obey_31 (by decide) ?_
    obtain ⟨p15, hp15, hf⟩ := am_bd hf
    refine g_cV (pc := 32) (As := [.int 5]) (st := []) (st1 := [.int p15.1]) (in_12 hX (by omega)) kk_12 mV_X12_refuse ln_X12_283 rfl (Nat.le_of_ble_eq_true rfl) (Nat.le_of_ble_eq_true rfl) (k_X12_refuse hX 5 s2 hp15) dX12_obey_32 rfl rfl ?_
    have ho := Option.some.inj hf
    subst ho
    exact g_ireturn (pc := 35) (st := []) rfl dX12_obey_35 hk
  replace hf := am_ifF c4 hf
  refine g_aload_n (pc := 17) 0 rfl dX12_obey_17 rfl ?_
  refine g_iconst (pc := 18) (v := 2) dX12_obey_18 (by decide) ?_
  obtain ⟨p16, hp16, hf⟩ := am_bd hf
  refine g_cV (pc := 19) (As := [.int 2]) (st := []) (st1 := [.int p16.1]) (in_12 hX (by omega)) kk_12 mV_X12_refuse ln_X12_283 rfl (Nat.le_of_ble_eq_true rfl) (Nat.le_of_ble_eq_true rfl) (k_X12_refuse hX 2 s2 hp16) dX12_obey_19 rfl rfl ?_
  have ho := Option.some.inj hf
  subst ho
  exact g_ireturn (pc := 22) (st := []) rfl dX12_obey_22 hk
theorem k_X12_obey {X : am_X} (hX : am_ks X = am_ksM) (v1 : Int32) (v2 : Int32) (σ : am_H) {o : Int32 × am_H} (hf : f_X12_obey v1 v2 σ = some o) : am_C X gm_X12_obey [.ref (am_ad X 12 0), .int v1, .int v2] σ (am_is (some (.int o.1)) o.2) :=
  am_ofG rfl (Nat.le_of_ble_eq_true rfl) rfl (q_X12_obey hX v1 v2 σ hf ⟨rfl, rfl⟩)
theorem dX12_obeyed_0 : decode cX12_obeyed 0 = .ok (.aload_n 0, 1) := by decide +kernel
theorem dX12_obeyed_1 : decode cX12_obeyed 1 = .ok (.iconst 0, 1) := by decide +kernel
theorem dX12_obeyed_2 : decode cX12_obeyed 2 = .ok (.putfield 122, 3) := by decide +kernel
theorem dX12_obeyed_5 : decode cX12_obeyed 5 = .ok (.aload_n 0, 1) := by decide +kernel
theorem dX12_obeyed_6 : decode cX12_obeyed 6 = .ok (.iconst 0, 1) := by decide +kernel
theorem dX12_obeyed_7 : decode cX12_obeyed 7 = .ok (.putfield 125, 3) := by decide +kernel
theorem dX12_obeyed_10 : decode cX12_obeyed 10 = .ok (.iload_n 1, 1) := by decide +kernel
theorem dX12_obeyed_11 : decode cX12_obeyed 11 = .ok (.i2l, 1) := by decide +kernel
theorem dX12_obeyed_12 : decode cX12_obeyed 12 = .ok (.lconst 0, 1) := by decide +kernel
theorem dX12_obeyed_13 : decode cX12_obeyed 13 = .ok (.ldc2_w 390, 3) := by decide +kernel
theorem dX12_obeyed_16 : decode cX12_obeyed 16 = .ok (.invokestatic 239, 3) := by decide +kernel
theorem dX12_obeyed_19 : decode cX12_obeyed 19 = .ok (.ifCond .ne 10, 3) := by decide +kernel
theorem dX12_obeyed_22 : decode cX12_obeyed 22 = .ok (.aload_n 0, 1) := by decide +kernel
theorem dX12_obeyed_23 : decode cX12_obeyed 23 = .ok (.iconst 5, 1) := by decide +kernel
theorem dX12_obeyed_24 : decode cX12_obeyed 24 = .ok (.invokevirtual 283, 3) := by decide +kernel
theorem dX12_obeyed_27 : decode cX12_obeyed 27 = .ok (.i2l, 1) := by decide +kernel
theorem dX12_obeyed_28 : decode cX12_obeyed 28 = .ok (.lreturn, 1) := by decide +kernel
theorem dX12_obeyed_29 : decode cX12_obeyed 29 = .ok (.aload_n 0, 1) := by decide +kernel
theorem dX12_obeyed_30 : decode cX12_obeyed 30 = .ok (.getfield 626, 3) := by decide +kernel
theorem dX12_obeyed_33 : decode cX12_obeyed 33 = .ok (.ifCond .ne 11, 3) := by decide +kernel
theorem dX12_obeyed_36 : decode cX12_obeyed 36 = .ok (.aload_n 0, 1) := by decide +kernel
theorem dX12_obeyed_37 : decode cX12_obeyed 37 = .ok (.bipush 8, 2) := by decide +kernel
theorem dX12_obeyed_39 : decode cX12_obeyed 39 = .ok (.invokevirtual 283, 3) := by decide +kernel
theorem dX12_obeyed_42 : decode cX12_obeyed 42 = .ok (.i2l, 1) := by decide +kernel
theorem dX12_obeyed_43 : decode cX12_obeyed 43 = .ok (.lreturn, 1) := by decide +kernel
theorem dX12_obeyed_44 : decode cX12_obeyed 44 = .ok (.iload_n 1, 1) := by decide +kernel
theorem dX12_obeyed_45 : decode cX12_obeyed 45 = .ok (.ifCond .ne 11, 3) := by decide +kernel
theorem dX12_obeyed_48 : decode cX12_obeyed 48 = .ok (.aload_n 0, 1) := by decide +kernel
theorem dX12_obeyed_49 : decode cX12_obeyed 49 = .ok (.getfield 610, 3) := by decide +kernel
theorem dX12_obeyed_52 : decode cX12_obeyed 52 = .ok (.i2l, 1) := by decide +kernel
theorem dX12_obeyed_53 : decode cX12_obeyed 53 = .ok (.goto 33, 3) := by decide +kernel
theorem dX12_obeyed_56 : decode cX12_obeyed 56 = .ok (.iload_n 1, 1) := by decide +kernel
theorem dX12_obeyed_57 : decode cX12_obeyed 57 = .ok (.iconst 1, 1) := by decide +kernel
theorem dX12_obeyed_58 : decode cX12_obeyed 58 = .ok (.if_icmp .ne 10, 3) := by decide +kernel
theorem dX12_obeyed_61 : decode cX12_obeyed 61 = .ok (.aload_n 0, 1) := by decide +kernel
theorem dX12_obeyed_62 : decode cX12_obeyed 62 = .ok (.getfield 619, 3) := by decide +kernel
theorem dX12_obeyed_65 : decode cX12_obeyed 65 = .ok (.goto 21, 3) := by decide +kernel
theorem dX12_obeyed_68 : decode cX12_obeyed 68 = .ok (.iload_n 1, 1) := by decide +kernel
theorem dX12_obeyed_69 : decode cX12_obeyed 69 = .ok (.iconst 2, 1) := by decide +kernel
theorem dX12_obeyed_70 : decode cX12_obeyed 70 = .ok (.if_icmp .ne 11, 3) := by decide +kernel
theorem dX12_obeyed_73 : decode cX12_obeyed 73 = .ok (.aload_n 0, 1) := by decide +kernel
theorem dX12_obeyed_74 : decode cX12_obeyed 74 = .ok (.getfield 616, 3) := by decide +kernel
theorem dX12_obeyed_77 : decode cX12_obeyed 77 = .ok (.i2l, 1) := by decide +kernel
theorem dX12_obeyed_78 : decode cX12_obeyed 78 = .ok (.goto 8, 3) := by decide +kernel
theorem dX12_obeyed_81 : decode cX12_obeyed 81 = .ok (.aload_n 0, 1) := by decide +kernel
theorem dX12_obeyed_82 : decode cX12_obeyed 82 = .ok (.getfield 604, 3) := by decide +kernel
theorem dX12_obeyed_85 : decode cX12_obeyed 85 = .ok (.i2l, 1) := by decide +kernel
theorem dX12_obeyed_86 : decode cX12_obeyed 86 = .ok (.lreturn, 1) := by decide +kernel
noncomputable def f_X12_obeyed (v1 : Int32) (σ : am_H) : Option (Int64 × am_H) :=
  (some (am_wI σ 12 0 1 0)).bind fun s1 =>
  (some (am_wI s1 12 0 0 0)).bind fun s2 =>
  (f_X12_isIn (Int32.toInt64 v1) 0 3 s2).bind fun p3 =>
  if p3 = true then
   (if (s2.1 12 0 66) = 0 then
    ((f_X12_refuse 8 s2).bind fun p6 =>
    some ((Int32.toInt64 p6.1), p6.2))
   else
   if v1 = 0 then
    (some ((Int32.toInt64 (s2.1 12 0 56)), s2))
   else
   if v1 = 1 then
    (some ((s2.2.1 12 0 64), s2))
   else
   if v1 = 2 then
    (some ((Int32.toInt64 (s2.1 12 0 59)), s2))
   else
   some ((Int32.toInt64 (s2.1 12 0 58)), s2))
  else
  (f_X12_refuse 5 s2).bind fun p10 =>
  some ((Int32.toInt64 p10.1), p10.2)
set_option maxRecDepth 100000 in
set_option maxHeartbeats 4000000 in
theorem q_X12_obeyed {X : am_X} (hX : am_ks X = am_ksM) {Q : Option Value → am_H → Prop} (v1 : Int32) (σ : am_H) {o : Int64 × am_H} (hf : f_X12_obeyed v1 σ = some o) (hk : Q (some (.long o.1)) o.2) : am_G X gm_X12_obeyed Q 0 [(0, .ref (am_ad X 12 0)), (1, .int v1)] [] σ := by
  unfold f_X12_obeyed at hf
  refine g_aload_n (pc := 0) 0 rfl dX12_obeyed_0 rfl ?_
  refine g_iconst (pc := 1) (v := 0) dX12_obeyed_1 (by decide) ?_
  obtain ⟨s1, hs1, hf⟩ := am_bd hf
  refine g_setI (pc := 2) (in_12 hX (by omega)) fr_X12_122 dX12_obeyed_2 (Option.some.inj hs1) ?_
  refine g_aload_n (pc := 5) 0 rfl dX12_obeyed_5 rfl ?_
  refine g_iconst (pc := 6) (v := 0) dX12_obeyed_6 (by decide) ?_
  obtain ⟨s2, hs2, hf⟩ := am_bd hf
  refine g_setI (pc := 7) (in_12 hX (by omega)) fr_X12_125 dX12_obeyed_7 (Option.some.inj hs2) ?_
  refine g_iload_n (pc := 10) 1 rfl dX12_obeyed_10 rfl ?_
  refine g_i2l (pc := 11) dX12_obeyed_11 ?_
  refine g_lconst (pc := 12) (v := 0) dX12_obeyed_12 (by decide) ?_
  refine g_ldc2 (pc := 13) (v := 3) (tb_9 (w := .constantLong RX12 390 3) (List.mem_of_getElem? (i := 119) (by decide +kernel))) dX12_obeyed_13 ?_
  obtain ⟨p3, hp3, hf⟩ := am_bd hf
  refine g_cS (pc := 16) (As := [.long (Int32.toInt64 v1), .long 0, .long 3]) (st := []) (st1 := [.int (am_b p3)]) mS_X12_isIn ln_X12_239 rfl (Nat.le_of_ble_eq_true rfl) (Nat.le_of_ble_eq_true rfl) (k_X12_isIn hX (Int32.toInt64 v1) 0 3 s2 hp3) dX12_obeyed_16 rfl rfl ?_
  refine bt_ne (pc := 19) 29 dX12_obeyed_19 rfl (fun c4 => ?_) (fun c4 => ?_)
  · replace hf := am_ifT c4 hf
    refine g_aload_n (pc := 29) 0 rfl dX12_obeyed_29 rfl ?_
    refine g_getZ (pc := 30) (in_12 hX (by omega)) fr_X12_626 dX12_obeyed_30 ?_
    refine bz_ne (pc := 33) 44 dX12_obeyed_33 rfl (fun c5 => ?_) (fun c5 => ?_)
    · replace hf := am_ifT c5 hf
      refine g_aload_n (pc := 36) 0 rfl dX12_obeyed_36 rfl ?_
      refine g_bipush (pc := 37) (v := 8) dX12_obeyed_37 (by decide) ?_
      obtain ⟨p6, hp6, hf⟩ := am_bd hf
      refine g_cV (pc := 39) (As := [.int 8]) (st := []) (st1 := [.int p6.1]) (in_12 hX (by omega)) kk_12 mV_X12_refuse ln_X12_283 rfl (Nat.le_of_ble_eq_true rfl) (Nat.le_of_ble_eq_true rfl) (k_X12_refuse hX 8 s2 hp6) dX12_obeyed_39 rfl rfl ?_
      refine g_i2l (pc := 42) dX12_obeyed_42 ?_
      have ho := Option.some.inj hf
      subst ho
      exact g_lreturn (pc := 43) (st := []) rfl dX12_obeyed_43 hk
    replace hf := am_ifF c5 hf
    refine g_iload_n (pc := 44) 1 rfl dX12_obeyed_44 rfl ?_
    refine bz_ne (pc := 45) 56 dX12_obeyed_45 rfl (fun c7 => ?_) (fun c7 => ?_)
    · replace hf := am_ifT c7 hf
      refine g_aload_n (pc := 48) 0 rfl dX12_obeyed_48 rfl ?_
      refine g_getI (pc := 49) (in_12 hX (by omega)) fr_X12_610 dX12_obeyed_49 ?_
      refine g_i2l (pc := 52) dX12_obeyed_52 ?_
      refine g_goto (pc := 53) 86 dX12_obeyed_53 rfl ?_
      have ho := Option.some.inj hf
      subst ho
      exact g_lreturn (pc := 86) (st := []) rfl dX12_obeyed_86 hk
    replace hf := am_ifF c7 hf
    refine g_iload_n (pc := 56) 1 rfl dX12_obeyed_56 rfl ?_
    refine g_iconst (pc := 57) (v := 1) dX12_obeyed_57 (by decide) ?_
    refine bi_ne (pc := 58) 68 dX12_obeyed_58 rfl (fun c8 => ?_) (fun c8 => ?_)
    · replace hf := am_ifT c8 hf
      refine g_aload_n (pc := 61) 0 rfl dX12_obeyed_61 rfl ?_
      refine g_getJ (pc := 62) (in_12 hX (by omega)) fr_X12_619 dX12_obeyed_62 ?_
      refine g_goto (pc := 65) 86 dX12_obeyed_65 rfl ?_
      have ho := Option.some.inj hf
      subst ho
      exact g_lreturn (pc := 86) (st := []) rfl dX12_obeyed_86 hk
    replace hf := am_ifF c8 hf
    refine g_iload_n (pc := 68) 1 rfl dX12_obeyed_68 rfl ?_
    refine g_iconst (pc := 69) (v := 2) dX12_obeyed_69 (by decide) ?_
    refine bi_ne (pc := 70) 81 dX12_obeyed_70 rfl (fun c9 => ?_) (fun c9 => ?_)
    · replace hf := am_ifT c9 hf
      refine g_aload_n (pc := 73) 0 rfl dX12_obeyed_73 rfl ?_
      refine g_getI (pc := 74) (in_12 hX (by omega)) fr_X12_616 dX12_obeyed_74 ?_
      refine g_i2l (pc := 77) dX12_obeyed_77 ?_
      refine g_goto (pc := 78) 86 dX12_obeyed_78 rfl ?_
      have ho := Option.some.inj hf
      subst ho
      exact g_lreturn (pc := 86) (st := []) rfl dX12_obeyed_86 hk
    replace hf := am_ifF c9 hf
    refine g_aload_n (pc := 81) 0 rfl dX12_obeyed_81 rfl ?_
    refine g_getI (pc := 82) (in_12 hX (by omega)) fr_X12_604 dX12_obeyed_82 ?_
    refine g_i2l (pc := 85) dX12_obeyed_85 ?_
    have ho := Option.some.inj hf
    subst ho
    exact g_lreturn (pc := 86) (st := []) rfl dX12_obeyed_86 hk
  replace hf := am_ifF c4 hf
  refine g_aload_n (pc := 22) 0 rfl dX12_obeyed_22 rfl ?_
  refine g_iconst (pc := 23) (v := 5) dX12_obeyed_23 (by decide) ?_
  obtain ⟨p10, hp10, hf⟩ := am_bd hf
  refine g_cV (pc := 24) (As := [.int 5]) (st := []) (st1 := [.int p10.1]) (in_12 hX (by omega)) kk_12 mV_X12_refuse ln_X12_283 rfl (Nat.le_of_ble_eq_true rfl) (Nat.le_of_ble_eq_true rfl) (k_X12_refuse hX 5 s2 hp10) dX12_obeyed_24 rfl rfl ?_
  refine g_i2l (pc := 27) dX12_obeyed_27 ?_
  have ho := Option.some.inj hf
  subst ho
  exact g_lreturn (pc := 28) (st := []) rfl dX12_obeyed_28 hk
theorem k_X12_obeyed {X : am_X} (hX : am_ks X = am_ksM) (v1 : Int32) (σ : am_H) {o : Int64 × am_H} (hf : f_X12_obeyed v1 σ = some o) : am_C X gm_X12_obeyed [.ref (am_ad X 12 0), .int v1] σ (am_is (some (.long o.1)) o.2) :=
  am_ofG rfl (Nat.le_of_ble_eq_true rfl) rfl (q_X12_obeyed hX v1 σ hf ⟨rfl, rfl⟩)
theorem dX12_marked_0 : decode cX12_marked 0 = .ok (.aload_n 0, 1) := by decide +kernel
theorem dX12_marked_1 : decode cX12_marked 1 = .ok (.iconst 0, 1) := by decide +kernel
theorem dX12_marked_2 : decode cX12_marked 2 = .ok (.putfield 122, 3) := by decide +kernel
theorem dX12_marked_5 : decode cX12_marked 5 = .ok (.aload_n 0, 1) := by decide +kernel
theorem dX12_marked_6 : decode cX12_marked 6 = .ok (.iconst 0, 1) := by decide +kernel
theorem dX12_marked_7 : decode cX12_marked 7 = .ok (.putfield 125, 3) := by decide +kernel
theorem dX12_marked_10 : decode cX12_marked 10 = .ok (.aload_n 0, 1) := by decide +kernel
theorem dX12_marked_11 : decode cX12_marked 11 = .ok (.getfield 626, 3) := by decide +kernel
theorem dX12_marked_14 : decode cX12_marked 14 = .ok (.ifCond .eq 28, 3) := by decide +kernel
theorem dX12_marked_17 : decode cX12_marked 17 = .ok (.iload_n 1, 1) := by decide +kernel
theorem dX12_marked_18 : decode cX12_marked 18 = .ok (.i2l, 1) := by decide +kernel
theorem dX12_marked_19 : decode cX12_marked 19 = .ok (.lconst 0, 1) := by decide +kernel
theorem dX12_marked_20 : decode cX12_marked 20 = .ok (.aload_n 0, 1) := by decide +kernel
theorem dX12_marked_21 : decode cX12_marked 21 = .ok (.getfield 616, 3) := by decide +kernel
theorem dX12_marked_24 : decode cX12_marked 24 = .ok (.iconst 1, 1) := by decide +kernel
theorem dX12_marked_25 : decode cX12_marked 25 = .ok (.isub, 1) := by decide +kernel
theorem dX12_marked_26 : decode cX12_marked 26 = .ok (.i2l, 1) := by decide +kernel
theorem dX12_marked_27 : decode cX12_marked 27 = .ok (.invokestatic 239, 3) := by decide +kernel
theorem dX12_marked_30 : decode cX12_marked 30 = .ok (.ifCond .eq 12, 3) := by decide +kernel
theorem dX12_marked_33 : decode cX12_marked 33 = .ok (.aload_n 0, 1) := by decide +kernel
theorem dX12_marked_34 : decode cX12_marked 34 = .ok (.getfield 101, 3) := by decide +kernel
theorem dX12_marked_37 : decode cX12_marked 37 = .ok (.iload_n 1, 1) := by decide +kernel
theorem dX12_marked_38 : decode cX12_marked 38 = .ok (.iaload, 1) := by decide +kernel
theorem dX12_marked_39 : decode cX12_marked 39 = .ok (.goto 9, 3) := by decide +kernel
theorem dX12_marked_42 : decode cX12_marked 42 = .ok (.aload_n 0, 1) := by decide +kernel
theorem dX12_marked_43 : decode cX12_marked 43 = .ok (.bipush 8, 2) := by decide +kernel
theorem dX12_marked_45 : decode cX12_marked 45 = .ok (.invokevirtual 283, 3) := by decide +kernel
theorem dX12_marked_48 : decode cX12_marked 48 = .ok (.ireturn, 1) := by decide +kernel
noncomputable def f_X12_marked_42 (σ : am_H) : Option (Int32 × am_H) :=
  (f_X12_refuse 8 σ).bind fun p1 =>
  some (p1.1, p1.2)
set_option maxRecDepth 100000 in
set_option maxHeartbeats 4000000 in
theorem q_X12_marked_42 {X : am_X} (hX : am_ks X = am_ksM) {Q : Option Value → am_H → Prop} (σ : am_H) {o : Int32 × am_H} (hf : f_X12_marked_42 σ = some o) (hk : Q (some (.int o.1)) o.2) : am_G X gm_X12_marked Q 42 [(0, .ref (am_ad X 12 0))] [] σ := by
  unfold f_X12_marked_42 at hf
  refine g_aload_n (pc := 42) 0 rfl dX12_marked_42 rfl ?_
  refine g_bipush (pc := 43) (v := 8) dX12_marked_43 (by decide) ?_
  obtain ⟨p1, hp1, hf⟩ := am_bd hf
  refine g_cV (pc := 45) (As := [.int 8]) (st := []) (st1 := [.int p1.1]) (in_12 hX (by omega)) kk_12 mV_X12_refuse ln_X12_283 rfl (Nat.le_of_ble_eq_true rfl) (Nat.le_of_ble_eq_true rfl) (k_X12_refuse hX 8 σ hp1) dX12_marked_45 rfl rfl ?_
  have ho := Option.some.inj hf
  subst ho
  exact g_ireturn (pc := 48) (st := []) rfl dX12_marked_48 hk
noncomputable def f_X12_marked (v1 : Int32) (σ : am_H) : Option (Int32 × am_H) :=
  (some (am_wI σ 12 0 1 0)).bind fun s1 =>
  (some (am_wI s1 12 0 0 0)).bind fun s2 =>
  if (s2.1 12 0 66) = 0 then
   (f_X12_marked_42 s2)
  else
  (f_X12_isIn (Int32.toInt64 v1) 0 (Int32.toInt64 ((s2.1 12 0 59) - 1)) s2).bind fun p4 =>
  if p4 = true then
   ((am_ix 30 v1).bind fun j6 =>
   some ((s2.1 1376 0 j6), s2))
  else
  f_X12_marked_42 s2
set_option maxRecDepth 100000 in
set_option maxHeartbeats 4000000 in
theorem q_X12_marked {X : am_X} (hX : am_ks X = am_ksM) {Q : Option Value → am_H → Prop} (v1 : Int32) (σ : am_H) {o : Int32 × am_H} (hf : f_X12_marked v1 σ = some o) (hk : Q (some (.int o.1)) o.2) : am_G X gm_X12_marked Q 0 [(0, .ref (am_ad X 12 0)), (1, .int v1)] [] σ := by
  unfold f_X12_marked at hf
  refine g_aload_n (pc := 0) 0 rfl dX12_marked_0 rfl ?_
  refine g_iconst (pc := 1) (v := 0) dX12_marked_1 (by decide) ?_
  obtain ⟨s1, hs1, hf⟩ := am_bd hf
  refine g_setI (pc := 2) (in_12 hX (by omega)) fr_X12_122 dX12_marked_2 (Option.some.inj hs1) ?_
  refine g_aload_n (pc := 5) 0 rfl dX12_marked_5 rfl ?_
  refine g_iconst (pc := 6) (v := 0) dX12_marked_6 (by decide) ?_
  obtain ⟨s2, hs2, hf⟩ := am_bd hf
  refine g_setI (pc := 7) (in_12 hX (by omega)) fr_X12_125 dX12_marked_7 (Option.some.inj hs2) ?_
  refine g_aload_n (pc := 10) 0 rfl dX12_marked_10 rfl ?_
  refine g_getZ (pc := 11) (in_12 hX (by omega)) fr_X12_626 dX12_marked_11 ?_
  refine bz_eq (pc := 14) 42 dX12_marked_14 rfl (fun c3 => ?_) (fun c3 => ?_)
  · replace hf := am_ifT c3 hf
    exact am_sub [0] rfl (q_X12_marked_42 hX s2 hf hk)
  replace hf := am_ifF c3 hf
  refine g_iload_n (pc := 17) 1 rfl dX12_marked_17 rfl ?_
  refine g_i2l (pc := 18) dX12_marked_18 ?_
  refine g_lconst (pc := 19) (v := 0) dX12_marked_19 (by decide) ?_
  refine g_aload_n (pc := 20) 0 rfl dX12_marked_20 rfl ?_
  refine g_getI (pc := 21) (in_12 hX (by omega)) fr_X12_616 dX12_marked_21 ?_
  refine g_iconst (pc := 24) (v := 1) dX12_marked_24 (by decide) ?_
  refine g_isub (pc := 25) dX12_marked_25 ?_
  refine g_i2l (pc := 26) dX12_marked_26 ?_
  obtain ⟨p4, hp4, hf⟩ := am_bd hf
  refine g_cS (pc := 27) (As := [.long (Int32.toInt64 v1), .long 0, .long (Int32.toInt64 ((s2.1 12 0 59) - 1))]) (st := []) (st1 := [.int (am_b p4)]) mS_X12_isIn ln_X12_239 rfl (Nat.le_of_ble_eq_true rfl) (Nat.le_of_ble_eq_true rfl) (k_X12_isIn hX (Int32.toInt64 v1) 0 (Int32.toInt64 ((s2.1 12 0 59) - 1)) s2 hp4) dX12_marked_27 rfl rfl ?_
  refine bt_eq (pc := 30) 42 dX12_marked_30 rfl (fun c5 => ?_) (fun c5 => ?_)
  · replace hf := am_ifT c5 hf
    refine g_aload_n (pc := 33) 0 rfl dX12_marked_33 rfl ?_
    refine g_getC (pc := 34) (e := 0) (in_12 hX (by omega)) fr_X12_101 dX12_marked_34 rfl ?_
    refine g_iload_n (pc := 37) 1 rfl dX12_marked_37 rfl ?_
    obtain ⟨j6, hj6, hf⟩ := am_bd hf
    have gj6 := am_ix_lt hj6
    refine g_aI (pc := 38) (in_1376 hX (by omega)) ak_1376 hj6 dX12_marked_38 ?_
    refine g_goto (pc := 39) 48 dX12_marked_39 rfl ?_
    have ho := Option.some.inj hf
    subst ho
    exact g_ireturn (pc := 48) (st := []) rfl dX12_marked_48 hk
  replace hf := am_ifF c5 hf
  exact am_sub [0] rfl (q_X12_marked_42 hX s2 hf hk)
theorem k_X12_marked {X : am_X} (hX : am_ks X = am_ksM) (v1 : Int32) (σ : am_H) {o : Int32 × am_H} (hf : f_X12_marked v1 σ = some o) : am_C X gm_X12_marked [.ref (am_ad X 12 0), .int v1] σ (am_is (some (.int o.1)) o.2) :=
  am_ofG rfl (Nat.le_of_ble_eq_true rfl) rfl (q_X12_marked hX v1 σ hf ⟨rfl, rfl⟩)
theorem dX12_table_0 : decode cX12_table 0 = .ok (.aload_n 0, 1) := by decide +kernel
theorem dX12_table_1 : decode cX12_table 1 = .ok (.iconst 0, 1) := by decide +kernel
theorem dX12_table_2 : decode cX12_table 2 = .ok (.putfield 122, 3) := by decide +kernel
theorem dX12_table_5 : decode cX12_table 5 = .ok (.aload_n 0, 1) := by decide +kernel
theorem dX12_table_6 : decode cX12_table 6 = .ok (.iconst 0, 1) := by decide +kernel
theorem dX12_table_7 : decode cX12_table 7 = .ok (.putfield 125, 3) := by decide +kernel
theorem dX12_table_10 : decode cX12_table 10 = .ok (.aload_n 0, 1) := by decide +kernel
theorem dX12_table_11 : decode cX12_table 11 = .ok (.iload_n 2, 1) := by decide +kernel
theorem dX12_table_12 : decode cX12_table 12 = .ok (.invokevirtual 421, 3) := by decide +kernel
theorem dX12_table_15 : decode cX12_table 15 = .ok (.ifCond .ne 9, 3) := by decide +kernel
theorem dX12_table_18 : decode cX12_table 18 = .ok (.aload_n 0, 1) := by decide +kernel
theorem dX12_table_19 : decode cX12_table 19 = .ok (.iconst 1, 1) := by decide +kernel
theorem dX12_table_20 : decode cX12_table 20 = .ok (.invokevirtual 283, 3) := by decide +kernel
theorem dX12_table_23 : decode cX12_table 23 = .ok (.ireturn, 1) := by decide +kernel
theorem dX12_table_24 : decode cX12_table 24 = .ok (.iload_n 1, 1) := by decide +kernel
theorem dX12_table_25 : decode cX12_table 25 = .ok (.invokestatic 280, 3) := by decide +kernel
theorem dX12_table_28 : decode cX12_table 28 = .ok (.ifCond .ne 9, 3) := by decide +kernel
theorem dX12_table_31 : decode cX12_table 31 = .ok (.aload_n 0, 1) := by decide +kernel
theorem dX12_table_32 : decode cX12_table 32 = .ok (.iconst 2, 1) := by decide +kernel
theorem dX12_table_33 : decode cX12_table 33 = .ok (.invokevirtual 283, 3) := by decide +kernel
theorem dX12_table_36 : decode cX12_table 36 = .ok (.ireturn, 1) := by decide +kernel
theorem dX12_table_37 : decode cX12_table 37 = .ok (.aload_n 0, 1) := by decide +kernel
theorem dX12_table_38 : decode cX12_table 38 = .ok (.getfield 17, 3) := by decide +kernel
theorem dX12_table_41 : decode cX12_table 41 = .ok (.iload_n 2, 1) := by decide +kernel
theorem dX12_table_42 : decode cX12_table 42 = .ok (.iaload, 1) := by decide +kernel
theorem dX12_table_43 : decode cX12_table 43 = .ok (.ifCond .ge 9, 3) := by decide +kernel
theorem dX12_table_46 : decode cX12_table 46 = .ok (.aload_n 0, 1) := by decide +kernel
theorem dX12_table_47 : decode cX12_table 47 = .ok (.iconst 3, 1) := by decide +kernel
theorem dX12_table_48 : decode cX12_table 48 = .ok (.invokevirtual 283, 3) := by decide +kernel
theorem dX12_table_51 : decode cX12_table 51 = .ok (.ireturn, 1) := by decide +kernel
theorem dX12_table_52 : decode cX12_table 52 = .ok (.iload_n 3, 1) := by decide +kernel
theorem dX12_table_53 : decode cX12_table 53 = .ok (.invokestatic 331, 3) := by decide +kernel
theorem dX12_table_56 : decode cX12_table 56 = .ok (.ifCond .eq 28, 3) := by decide +kernel
theorem dX12_table_59 : decode cX12_table 59 = .ok (.iload 4, 2) := by decide +kernel
theorem dX12_table_61 : decode cX12_table 61 = .ok (.i2l, 1) := by decide +kernel
theorem dX12_table_62 : decode cX12_table 62 = .ok (.lconst 1, 1) := by decide +kernel
theorem dX12_table_63 : decode cX12_table 63 = .ok (.ldc2_w 629, 3) := by decide +kernel
theorem dX12_table_66 : decode cX12_table 66 = .ok (.invokestatic 239, 3) := by decide +kernel
theorem dX12_table_69 : decode cX12_table 69 = .ok (.ifCond .eq 15, 3) := by decide +kernel
theorem dX12_table_72 : decode cX12_table 72 = .ok (.iload_n 3, 1) := by decide +kernel
theorem dX12_table_73 : decode cX12_table 73 = .ok (.iload 4, 2) := by decide +kernel
theorem dX12_table_75 : decode cX12_table 75 = .ok (.iadd, 1) := by decide +kernel
theorem dX12_table_76 : decode cX12_table 76 = .ok (.iconst 1, 1) := by decide +kernel
theorem dX12_table_77 : decode cX12_table 77 = .ok (.isub, 1) := by decide +kernel
theorem dX12_table_78 : decode cX12_table 78 = .ok (.ldc_w 526, 3) := by decide +kernel
theorem dX12_table_81 : decode cX12_table 81 = .ok (.if_icmp .le 9, 3) := by decide +kernel
theorem dX12_table_84 : decode cX12_table 84 = .ok (.aload_n 0, 1) := by decide +kernel
theorem dX12_table_85 : decode cX12_table 85 = .ok (.iconst 5, 1) := by decide +kernel
theorem dX12_table_86 : decode cX12_table 86 = .ok (.invokevirtual 283, 3) := by decide +kernel
theorem dX12_table_89 : decode cX12_table 89 = .ok (.ireturn, 1) := by decide +kernel
theorem dX12_table_90 : decode cX12_table 90 = .ok (.aload_n 0, 1) := by decide +kernel
theorem dX12_table_91 : decode cX12_table 91 = .ok (.getfield 17, 3) := by decide +kernel
theorem dX12_table_94 : decode cX12_table 94 = .ok (.iload_n 2, 1) := by decide +kernel
theorem dX12_table_95 : decode cX12_table 95 = .ok (.iaload, 1) := by decide +kernel
theorem dX12_table_96 : decode cX12_table 96 = .ok (.iload 4, 2) := by decide +kernel
theorem dX12_table_98 : decode cX12_table 98 = .ok (.if_icmp .ge 9, 3) := by decide +kernel
theorem dX12_table_101 : decode cX12_table 101 = .ok (.aload_n 0, 1) := by decide +kernel
theorem dX12_table_102 : decode cX12_table 102 = .ok (.iconst 4, 1) := by decide +kernel
theorem dX12_table_103 : decode cX12_table 103 = .ok (.invokevirtual 283, 3) := by decide +kernel
theorem dX12_table_106 : decode cX12_table 106 = .ok (.ireturn, 1) := by decide +kernel
theorem dX12_table_107 : decode cX12_table 107 = .ok (.iconst 0, 1) := by decide +kernel
theorem dX12_table_108 : decode cX12_table 108 = .ok (.istore 5, 2) := by decide +kernel
theorem dX12_table_110 : decode cX12_table 110 = .ok (.iload 5, 2) := by decide +kernel
theorem dX12_table_112 : decode cX12_table 112 = .ok (.iload 4, 2) := by decide +kernel
theorem dX12_table_114 : decode cX12_table 114 = .ok (.if_icmp .ge 34, 3) := by decide +kernel
theorem dX12_table_117 : decode cX12_table 117 = .ok (.aload_n 0, 1) := by decide +kernel
theorem dX12_table_118 : decode cX12_table 118 = .ok (.iload_n 2, 1) := by decide +kernel
theorem dX12_table_119 : decode cX12_table 119 = .ok (.iload 5, 2) := by decide +kernel
theorem dX12_table_121 : decode cX12_table 121 = .ok (.invokevirtual 394, 3) := by decide +kernel
theorem dX12_table_124 : decode cX12_table 124 = .ok (.aload_n 0, 1) := by decide +kernel
theorem dX12_table_125 : decode cX12_table 125 = .ok (.iload_n 1, 1) := by decide +kernel
theorem dX12_table_126 : decode cX12_table 126 = .ok (.iload_n 3, 1) := by decide +kernel
theorem dX12_table_127 : decode cX12_table 127 = .ok (.iload 5, 2) := by decide +kernel
theorem dX12_table_129 : decode cX12_table 129 = .ok (.iadd, 1) := by decide +kernel
theorem dX12_table_130 : decode cX12_table 130 = .ok (.iconst 1, 1) := by decide +kernel
theorem dX12_table_131 : decode cX12_table 131 = .ok (.invokevirtual 334, 3) := by decide +kernel
theorem dX12_table_134 : decode cX12_table 134 = .ok (.i2l, 1) := by decide +kernel
theorem dX12_table_135 : decode cX12_table 135 = .ok (.lcmp, 1) := by decide +kernel
theorem dX12_table_136 : decode cX12_table 136 = .ok (.ifCond .eq 6, 3) := by decide +kernel
theorem dX12_table_139 : decode cX12_table 139 = .ok (.iload 5, 2) := by decide +kernel
theorem dX12_table_141 : decode cX12_table 141 = .ok (.ireturn, 1) := by decide +kernel
theorem dX12_table_142 : decode cX12_table 142 = .ok (.iinc 5 1, 3) := by decide +kernel
theorem dX12_table_145 : decode cX12_table 145 = .ok (.goto (-35), 3) := by decide +kernel
theorem dX12_table_148 : decode cX12_table 148 = .ok (.iconst (-1), 1) := by decide +kernel
theorem dX12_table_149 : decode cX12_table 149 = .ok (.ireturn, 1) := by decide +kernel
noncomputable def f_X12_table_84 (σ : am_H) : Option (Int32 × am_H) :=
  (f_X12_refuse 5 σ).bind fun p1 =>
  some (p1.1, p1.2)
set_option maxRecDepth 100000 in
set_option maxHeartbeats 4000000 in
theorem q_X12_table_84 {X : am_X} (hX : am_ks X = am_ksM) {Q : Option Value → am_H → Prop} (σ : am_H) {o : Int32 × am_H} (hf : f_X12_table_84 σ = some o) (hk : Q (some (.int o.1)) o.2) : am_G X gm_X12_table Q 84 [(0, .ref (am_ad X 12 0))] [] σ := by
  unfold f_X12_table_84 at hf
  refine g_aload_n (pc := 84) 0 rfl dX12_table_84 rfl ?_
  refine g_iconst (pc := 85) (v := 5) dX12_table_85 (by decide) ?_
  obtain ⟨p1, hp1, hf⟩ := am_bd hf
  refine g_cV (pc := 86) (As := [.int 5]) (st := []) (st1 := [.int p1.1]) (in_12 hX (by omega)) kk_12 mV_X12_refuse ln_X12_283 rfl (Nat.le_of_ble_eq_true rfl) (Nat.le_of_ble_eq_true rfl) (k_X12_refuse hX 5 σ hp1) dX12_table_86 rfl rfl ?_
  have ho := Option.some.inj hf
  subst ho
  exact g_ireturn (pc := 89) (st := []) rfl dX12_table_89 hk
noncomputable def f_X12_table_110 (v1 : Int32) (v2 : Int32) (v3 : Int32) (v4 : Int32) (v5 : Int32) (σ : am_H) : Option ((Int32) ⊕ ((Int32) ⊕ (Unit))) :=
  if v5 < v4 then
   ((f_X12_numberOf v2 v5 σ).bind fun p2 =>
   (f_X12_heightOf v1 (v3 + v5) true σ).bind fun p3 =>
   if p2 = (Int32.toInt64 p3) then
    (some (.inl (v5 + 1)))
   else
   some (.inr (.inl v5)))
  else
  some (.inr (.inr ()))
set_option maxRecDepth 100000 in
set_option maxHeartbeats 4000000 in
theorem q_X12_table_110 {X : am_X} (hX : am_ks X = am_ksM) {Q : Option Value → am_H → Prop} (v1 : Int32) (v2 : Int32) (v3 : Int32) (v4 : Int32) (v5 : Int32) (σ : am_H) {o : (Int32) ⊕ ((Int32) ⊕ (Unit))} (hf : f_X12_table_110 v1 v2 v3 v4 v5 σ = some o) (hk0 : ∀ s, o = .inl s → am_G X gm_X12_table Q 110 [(0, .ref (am_ad X 12 0)), (1, .int v1), (2, .int v2), (3, .int v3), (4, .int v4), (5, .int s)] [] σ) (hk1 : ∀ t, o = .inr (.inl t) → am_G X gm_X12_table Q 139 [(5, .int t)] [] σ) (hk2 : ∀ t, o = .inr (.inr t) → am_G X gm_X12_table Q 148 [] [] σ) : am_G X gm_X12_table Q 110 [(0, .ref (am_ad X 12 0)), (1, .int v1), (2, .int v2), (3, .int v3), (4, .int v4), (5, .int v5)] [] σ := by
  unfold f_X12_table_110 at hf
  refine g_iload (pc := 110) 5 rfl dX12_table_110 ?_
  refine g_iload (pc := 112) 4 rfl dX12_table_112 ?_
  refine bi_ge (pc := 114) 148 dX12_table_114 rfl (fun c1 => ?_) (fun c1 => ?_)
  · replace hf := am_ifT c1 hf
    refine g_aload_n (pc := 117) 0 rfl dX12_table_117 rfl ?_
    refine g_iload_n (pc := 118) 2 rfl dX12_table_118 rfl ?_
    refine g_iload (pc := 119) 5 rfl dX12_table_119 ?_
    obtain ⟨p2, hp2, hf⟩ := am_bd hf
    refine g_cV (pc := 121) (As := [.int v2, .int v5]) (st := []) (st1 := [.long p2]) (in_12 hX (by omega)) kk_12 mV_X12_numberOf ln_X12_394 rfl (Nat.le_of_ble_eq_true rfl) (Nat.le_of_ble_eq_true rfl) (k_X12_numberOf hX v2 v5 σ hp2) dX12_table_121 rfl rfl ?_
    refine g_aload_n (pc := 124) 0 rfl dX12_table_124 rfl ?_
    refine g_iload_n (pc := 125) 1 rfl dX12_table_125 rfl ?_
    refine g_iload_n (pc := 126) 3 rfl dX12_table_126 rfl ?_
    refine g_iload (pc := 127) 5 rfl dX12_table_127 ?_
    refine g_iadd (pc := 129) dX12_table_129 ?_
    refine g_iconst (pc := 130) (v := 1) dX12_table_130 (by decide) ?_
    obtain ⟨p3, hp3, hf⟩ := am_bd hf
    refine g_cV (pc := 131) (As := [.int v1, .int (v3 + v5), .int (am_b true)]) (st := [.long p2]) (st1 := [.int p3, .long p2]) (in_12 hX (by omega)) kk_12 mV_X12_heightOf ln_X12_334 rfl (Nat.le_of_ble_eq_true rfl) (Nat.le_of_ble_eq_true rfl) (k_X12_heightOf hX v1 (v3 + v5) true σ hp3) dX12_table_131 rfl rfl ?_
    refine g_i2l (pc := 134) dX12_table_134 ?_
    refine g_lcm (pc := 135) dX12_table_135 ?_
    refine bl_eq (pc := 136) 142 dX12_table_136 rfl (fun c4 => ?_) (fun c4 => ?_)
    · replace hf := am_ifT c4 hf
      refine g_iinc (pc := 142) (v := (v5 + 1)) 5 [(5, .int (v5 + 1)), (0, .ref (am_ad X 12 0)), (1, .int v1), (2, .int v2), (3, .int v3), (4, .int v4)] dX12_table_142 rfl rfl (Nat.le_of_ble_eq_true rfl) rfl ?_
      refine g_goto (pc := 145) 110 dX12_table_145 rfl ?_
      have hz := hk0 _ (Option.some.inj hf).symm
      exact am_sub [1, 2, 3, 4, 5, 0] rfl hz
    replace hf := am_ifF c4 hf
    have hz := hk1 _ (Option.some.inj hf).symm
    exact am_sub [5] rfl hz
  replace hf := am_ifF c1 hf
  have hz := hk2 _ (Option.some.inj hf).symm
  exact am_sub [] rfl hz
set_option maxRecDepth 100000 in
set_option maxHeartbeats 4000000 in
theorem l_X12_table_110 {X : am_X} (hX : am_ks X = am_ksM) {Q : Option Value → am_H → Prop} (v1 : Int32) (v2 : Int32) (v3 : Int32) (v4 : Int32) (σ : am_H) (s : Int32) {o : (Int32) ⊕ (Unit)} (hf : am_loop (fun s => f_X12_table_110 v1 v2 v3 v4 s σ) s = some o) (hk1 : ∀ t, o = (.inl t) → am_G X gm_X12_table Q 139 [(5, .int t)] [] σ) (hk2 : ∀ t, o = (.inr t) → am_G X gm_X12_table Q 148 [] [] σ) : am_G X gm_X12_table Q 110 [(0, .ref (am_ad X 12 0)), (1, .int v1), (2, .int v2), (3, .int v3), (4, .int v4), (5, .int s)] [] σ := by
  refine am_loop_ind (P := fun s => am_G X gm_X12_table Q 110 [(0, .ref (am_ad X 12 0)), (1, .int v1), (2, .int v2), (3, .int v3), (4, .int v4), (5, .int s)] [] σ) (K := fun r => r = o) ?_ hf rfl
  intro s o1 hb hi hr
  exact q_X12_table_110 hX v1 v2 v3 v4 s  σ hb hi (fun t e => hk1 t (hr _ e).symm) (fun t e => hk2 t (hr _ e).symm)
noncomputable def f_X12_table (v1 : Int32) (v2 : Int32) (v3 : Int32) (v4 : Int32) (σ : am_H) : Option (Int32 × am_H) :=
  (some (am_wI σ 12 0 1 0)).bind fun s1 =>
  (some (am_wI s1 12 0 0 0)).bind fun s2 =>
  (f_X12_isTray v2 s2).bind fun p3 =>
  if p3 = true then
   ((f_X12_isMachine v1 s2).bind fun p5 =>
   if p5 = true then
    ((am_ix 5 v2).bind fun j7 =>
    if (s2.1 1305 0 j7) < 0 then
     ((f_X12_refuse 3 s2).bind fun p9 =>
     some (p9.1, p9.2))
    else
    (f_X12_isHour v3 s2).bind fun p10 =>
    if p10 = true then
     ((f_X12_isIn (Int32.toInt64 v4) 1 60 s2).bind fun p12 =>
     if p12 = true then
      (if 99999 < ((v3 + v4) - 1) then
       (f_X12_table_84 s2)
      else
      (am_ix 5 v2).bind fun j15 =>
      if (s2.1 1305 0 j15) < v4 then
       ((f_X12_refuse 4 s2).bind fun p17 =>
       some (p17.1, p17.2))
      else
      (am_loop (fun s => f_X12_table_110 v1 v2 v3 v4 s s2) 0).bind fun w18 =>
      Sum.elim (fun t18_0 =>
       some (t18_0, s2)) (fun u18_0 =>
       some ((-1), s2)) w18)
     else
     f_X12_table_84 s2)
    else
    f_X12_table_84 s2)
   else
   (f_X12_refuse 2 s2).bind fun p19 =>
   some (p19.1, p19.2))
  else
  (f_X12_refuse 1 s2).bind fun p20 =>
  some (p20.1, p20.2)
set_option maxRecDepth 100000 in
set_option maxHeartbeats 4000000 in
theorem q_X12_table {X : am_X} (hX : am_ks X = am_ksM) {Q : Option Value → am_H → Prop} (v1 : Int32) (v2 : Int32) (v3 : Int32) (v4 : Int32) (σ : am_H) {o : Int32 × am_H} (hf : f_X12_table v1 v2 v3 v4 σ = some o) (hk : Q (some (.int o.1)) o.2) : am_G X gm_X12_table Q 0 [(0, .ref (am_ad X 12 0)), (1, .int v1), (2, .int v2), (3, .int v3), (4, .int v4)] [] σ := by
  unfold f_X12_table at hf
  refine g_aload_n (pc := 0) 0 rfl dX12_table_0 rfl ?_
  refine g_iconst (pc := 1) (v := 0) dX12_table_1 (by decide) ?_
  obtain ⟨s1, hs1, hf⟩ := am_bd hf
  refine g_setI (pc := 2) (in_12 hX (by omega)) fr_X12_122 dX12_table_2 (Option.some.inj hs1) ?_
  refine g_aload_n (pc := 5) 0 rfl dX12_table_5 rfl ?_
  refine g_iconst (pc := 6) (v := 0) dX12_table_6 (by decide) ?_
  obtain ⟨s2, hs2, hf⟩ := am_bd hf
  refine g_setI (pc := 7) (in_12 hX (by omega)) fr_X12_125 dX12_table_7 (Option.some.inj hs2) ?_
  refine g_aload_n (pc := 10) 0 rfl dX12_table_10 rfl ?_
  refine g_iload_n (pc := 11) 2 rfl dX12_table_11 rfl ?_
  obtain ⟨p3, hp3, hf⟩ := am_bd hf
  refine g_cV (pc := 12) (As := [.int v2]) (st := []) (st1 := [.int (am_b p3)]) (in_12 hX (by omega)) kk_12 mV_X12_isTray ln_X12_421 rfl (Nat.le_of_ble_eq_true rfl) (Nat.le_of_ble_eq_true rfl) (k_X12_isTray hX v2 s2 hp3) dX12_table_12 rfl rfl ?_
  refine bt_ne (pc := 15) 24 dX12_table_15 rfl (fun c4 => ?_) (fun c4 => ?_)
  · replace hf := am_ifT c4 hf
    refine g_iload_n (pc := 24) 1 rfl dX12_table_24 rfl ?_
    obtain ⟨p5, hp5, hf⟩ := am_bd hf
    refine g_cS (pc := 25) (As := [.int v1]) (st := []) (st1 := [.int (am_b p5)]) mS_X12_isMachine ln_X12_280 rfl (Nat.le_of_ble_eq_true rfl) (Nat.le_of_ble_eq_true rfl) (k_X12_isMachine hX v1 s2 hp5) dX12_table_25 rfl rfl ?_
    refine bt_ne (pc := 28) 37 dX12_table_28 rfl (fun c6 => ?_) (fun c6 => ?_)
    · replace hf := am_ifT c6 hf
      refine g_aload_n (pc := 37) 0 rfl dX12_table_37 rfl ?_
      refine g_getC (pc := 38) (e := 0) (in_12 hX (by omega)) fr_X12_17 dX12_table_38 rfl ?_
      refine g_iload_n (pc := 41) 2 rfl dX12_table_41 rfl ?_
      obtain ⟨j7, hj7, hf⟩ := am_bd hf
      have gj7 := am_ix_lt hj7
      refine g_aI (pc := 42) (in_1305 hX (by omega)) ak_1305 hj7 dX12_table_42 ?_
      refine bz_ge (pc := 43) 52 dX12_table_43 rfl (fun c8 => ?_) (fun c8 => ?_)
      · replace hf := am_ifT c8 hf
        refine g_aload_n (pc := 46) 0 rfl dX12_table_46 rfl ?_
        refine g_iconst (pc := 47) (v := 3) dX12_table_47 (by decide) ?_
        obtain ⟨p9, hp9, hf⟩ := am_bd hf
        refine g_cV (pc := 48) (As := [.int 3]) (st := []) (st1 := [.int p9.1]) (in_12 hX (by omega)) kk_12 mV_X12_refuse ln_X12_283 rfl (Nat.le_of_ble_eq_true rfl) (Nat.le_of_ble_eq_true rfl) (k_X12_refuse hX 3 s2 hp9) dX12_table_48 rfl rfl ?_
        have ho := Option.some.inj hf
        subst ho
        exact g_ireturn (pc := 51) (st := []) rfl dX12_table_51 hk
      replace hf := am_ifF c8 hf
      refine g_iload_n (pc := 52) 3 rfl dX12_table_52 rfl ?_
      obtain ⟨p10, hp10, hf⟩ := am_bd hf
      refine g_cS (pc := 53) (As := [.int v3]) (st := []) (st1 := [.int (am_b p10)]) mS_X12_isHour ln_X12_331 rfl (Nat.le_of_ble_eq_true rfl) (Nat.le_of_ble_eq_true rfl) (k_X12_isHour hX v3 s2 hp10) dX12_table_53 rfl rfl ?_
      refine bt_eq (pc := 56) 84 dX12_table_56 rfl (fun c11 => ?_) (fun c11 => ?_)
      · replace hf := am_ifT c11 hf
        refine g_iload (pc := 59) 4 rfl dX12_table_59 ?_
        refine g_i2l (pc := 61) dX12_table_61 ?_
        refine g_lconst (pc := 62) (v := 1) dX12_table_62 (by decide) ?_
        refine g_ldc2 (pc := 63) (v := 60) (tb_10 (w := .constantLong RX12 629 60) (List.mem_of_getElem? (i := 146) (by decide +kernel))) dX12_table_63 ?_
        obtain ⟨p12, hp12, hf⟩ := am_bd hf
        refine g_cS (pc := 66) (As := [.long (Int32.toInt64 v4), .long 1, .long 60]) (st := []) (st1 := [.int (am_b p12)]) mS_X12_isIn ln_X12_239 rfl (Nat.le_of_ble_eq_true rfl) (Nat.le_of_ble_eq_true rfl) (k_X12_isIn hX (Int32.toInt64 v4) 1 60 s2 hp12) dX12_table_66 rfl rfl ?_
        refine bt_eq (pc := 69) 84 dX12_table_69 rfl (fun c13 => ?_) (fun c13 => ?_)
        · replace hf := am_ifT c13 hf
          refine g_iload_n (pc := 72) 3 rfl dX12_table_72 rfl ?_
          refine g_iload (pc := 73) 4 rfl dX12_table_73 ?_
          refine g_iadd (pc := 75) dX12_table_75 ?_
          refine g_iconst (pc := 76) (v := 1) dX12_table_76 (by decide) ?_
          refine g_isub (pc := 77) dX12_table_77 ?_
          refine g_ldcw (pc := 78) (v := 99999) (tb_10 (w := .constant RX12 526 99999) (List.mem_of_getElem? (i := 31) (by decide +kernel))) dX12_table_78 ?_
          refine bi_le (pc := 81) 90 dX12_table_81 rfl (fun c14 => ?_) (fun c14 => ?_)
          · replace hf := am_ifT c14 hf
            exact am_sub [0] rfl (q_X12_table_84 hX s2 hf hk)
          replace hf := am_ifF c14 hf
          refine g_aload_n (pc := 90) 0 rfl dX12_table_90 rfl ?_
          refine g_getC (pc := 91) (e := 0) (in_12 hX (by omega)) fr_X12_17 dX12_table_91 rfl ?_
          refine g_iload_n (pc := 94) 2 rfl dX12_table_94 rfl ?_
          obtain ⟨j15, hj15, hf⟩ := am_bd hf
          have gj15 := am_ix_lt hj15
          refine g_aI (pc := 95) (in_1305 hX (by omega)) ak_1305 hj15 dX12_table_95 ?_
          refine g_iload (pc := 96) 4 rfl dX12_table_96 ?_
          refine bi_ge (pc := 98) 107 dX12_table_98 rfl (fun c16 => ?_) (fun c16 => ?_)
          · replace hf := am_ifT c16 hf
            refine g_aload_n (pc := 101) 0 rfl dX12_table_101 rfl ?_
            refine g_iconst (pc := 102) (v := 4) dX12_table_102 (by decide) ?_
            obtain ⟨p17, hp17, hf⟩ := am_bd hf
            refine g_cV (pc := 103) (As := [.int 4]) (st := []) (st1 := [.int p17.1]) (in_12 hX (by omega)) kk_12 mV_X12_refuse ln_X12_283 rfl (Nat.le_of_ble_eq_true rfl) (Nat.le_of_ble_eq_true rfl) (k_X12_refuse hX 4 s2 hp17) dX12_table_103 rfl rfl ?_
            have ho := Option.some.inj hf
            subst ho
            exact g_ireturn (pc := 106) (st := []) rfl dX12_table_106 hk
          replace hf := am_ifF c16 hf
          refine g_iconst (pc := 107) (v := 0) dX12_table_107 (by decide) ?_
          refine g_istore (pc := 108) [(5, .int 0), (0, .ref (am_ad X 12 0)), (1, .int v1), (2, .int v2), (3, .int v3), (4, .int v4)] dX12_table_108 (Nat.le_of_ble_eq_true rfl) rfl ?_
          obtain ⟨w18, hw18, hf⟩ := am_bd hf
          refine am_sub [1, 2, 3, 4, 5, 0] rfl (l_X12_table_110 hX v1 v2 v3 v4  s2 0 hw18 ?_ ?_)
          · intro t18_0 e
            subst e
            replace hf := am_elL hf
            refine g_iload (pc := 139) 0 rfl dX12_table_139 ?_
            have ho := Option.some.inj hf
            subst ho
            exact g_ireturn (pc := 141) (st := []) rfl dX12_table_141 hk
          · intro u18_0 e
            subst e
            replace hf := am_elR hf
            refine g_iconst (pc := 148) (v := (-1)) dX12_table_148 (by decide) ?_
            have ho := Option.some.inj hf
            subst ho
            exact g_ireturn (pc := 149) (st := []) rfl dX12_table_149 hk
        replace hf := am_ifF c13 hf
        exact am_sub [0] rfl (q_X12_table_84 hX s2 hf hk)
      replace hf := am_ifF c11 hf
      exact am_sub [0] rfl (q_X12_table_84 hX s2 hf hk)
    replace hf := am_ifF c6 hf
    refine g_aload_n (pc := 31) 0 rfl dX12_table_31 rfl ?_
    refine g_iconst (pc := 32) (v := 2) dX12_table_32 (by decide) ?_
    obtain ⟨p19, hp19, hf⟩ := am_bd hf
    refine g_cV (pc := 33) (As := [.int 2]) (st := []) (st1 := [.int p19.1]) (in_12 hX (by omega)) kk_12 mV_X12_refuse ln_X12_283 rfl (Nat.le_of_ble_eq_true rfl) (Nat.le_of_ble_eq_true rfl) (k_X12_refuse hX 2 s2 hp19) dX12_table_33 rfl rfl ?_
    have ho := Option.some.inj hf
    subst ho
    exact g_ireturn (pc := 36) (st := []) rfl dX12_table_36 hk
  replace hf := am_ifF c4 hf
  refine g_aload_n (pc := 18) 0 rfl dX12_table_18 rfl ?_
  refine g_iconst (pc := 19) (v := 1) dX12_table_19 (by decide) ?_
  obtain ⟨p20, hp20, hf⟩ := am_bd hf
  refine g_cV (pc := 20) (As := [.int 1]) (st := []) (st1 := [.int p20.1]) (in_12 hX (by omega)) kk_12 mV_X12_refuse ln_X12_283 rfl (Nat.le_of_ble_eq_true rfl) (Nat.le_of_ble_eq_true rfl) (k_X12_refuse hX 1 s2 hp20) dX12_table_20 rfl rfl ?_
  have ho := Option.some.inj hf
  subst ho
  exact g_ireturn (pc := 23) (st := []) rfl dX12_table_23 hk
theorem k_X12_table {X : am_X} (hX : am_ks X = am_ksM) (v1 : Int32) (v2 : Int32) (v3 : Int32) (v4 : Int32) (σ : am_H) {o : Int32 × am_H} (hf : f_X12_table v1 v2 v3 v4 σ = some o) : am_C X gm_X12_table [.ref (am_ad X 12 0), .int v1, .int v2, .int v3, .int v4] σ (am_is (some (.int o.1)) o.2) :=
  am_ofG rfl (Nat.le_of_ble_eq_true rfl) rfl (q_X12_table hX v1 v2 v3 v4 σ hf ⟨rfl, rfl⟩)
