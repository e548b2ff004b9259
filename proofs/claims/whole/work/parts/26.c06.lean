theorem dX8_makeAnew_0 : decode cX8_makeAnew 0 = .ok (.aload_n 0, 1) := by decide +kernel
theorem dX8_makeAnew_1 : decode cX8_makeAnew 1 = .ok (.iload_n 1, 1) := by decide +kernel
theorem dX8_makeAnew_2 : decode cX8_makeAnew 2 = .ok (.putfield 9, 3) := by decide +kernel
theorem dX8_makeAnew_5 : decode cX8_makeAnew 5 = .ok (.aload_n 0, 1) := by decide +kernel
theorem dX8_makeAnew_6 : decode cX8_makeAnew 6 = .ok (.iconst 0, 1) := by decide +kernel
theorem dX8_makeAnew_7 : decode cX8_makeAnew 7 = .ok (.iload_n 2, 1) := by decide +kernel
theorem dX8_makeAnew_8 : decode cX8_makeAnew 8 = .ok (.bipush 60, 2) := by decide +kernel
theorem dX8_makeAnew_10 : decode cX8_makeAnew 10 = .ok (.invokestatic 19, 3) := by decide +kernel
theorem dX8_makeAnew_13 : decode cX8_makeAnew 13 = .ok (.invokestatic 25, 3) := by decide +kernel
theorem dX8_makeAnew_16 : decode cX8_makeAnew 16 = .ok (.putfield 28, 3) := by decide +kernel
theorem dX8_makeAnew_19 : decode cX8_makeAnew 19 = .ok (.iconst 0, 1) := by decide +kernel
theorem dX8_makeAnew_20 : decode cX8_makeAnew 20 = .ok (.istore_n 3, 1) := by decide +kernel
theorem dX8_makeAnew_21 : decode cX8_makeAnew 21 = .ok (.iload_n 3, 1) := by decide +kernel
theorem dX8_makeAnew_22 : decode cX8_makeAnew 22 = .ok (.bipush 60, 2) := by decide +kernel
theorem dX8_makeAnew_24 : decode cX8_makeAnew 24 = .ok (.if_icmp .ge 16, 3) := by decide +kernel
theorem dX8_makeAnew_27 : decode cX8_makeAnew 27 = .ok (.aload_n 0, 1) := by decide +kernel
theorem dX8_makeAnew_28 : decode cX8_makeAnew 28 = .ok (.getfield 15, 3) := by decide +kernel
theorem dX8_makeAnew_31 : decode cX8_makeAnew 31 = .ok (.iload_n 3, 1) := by decide +kernel
theorem dX8_makeAnew_32 : decode cX8_makeAnew 32 = .ok (.lconst 0, 1) := by decide +kernel
theorem dX8_makeAnew_33 : decode cX8_makeAnew 33 = .ok (.lastore, 1) := by decide +kernel
theorem dX8_makeAnew_34 : decode cX8_makeAnew 34 = .ok (.iinc 3 1, 3) := by decide +kernel
theorem dX8_makeAnew_37 : decode cX8_makeAnew 37 = .ok (.goto (-16), 3) := by decide +kernel
theorem dX8_makeAnew_40 : decode cX8_makeAnew 40 = .ok (.return_, 1) := by decide +kernel
noncomputable def f_X8_makeAnew_21 (r0 : Nat) (v3 : Int32) (σ : am_H) : Option ((Int32 × am_H) ⊕ (am_H)) :=
  if v3 < 60 then
   ((am_ix 60 v3).bind fun j2 =>
   (some (am_wL σ 902 r0 j2 0)).bind fun s3 =>
   some (.inl ((v3 + 1), s3)))
  else
  some (.inr σ)
set_option maxRecDepth 100000 in
set_option maxHeartbeats 4000000 in
theorem q_X8_makeAnew_21 {X : am_X} (hX : am_wC X) {Q : Option Value → am_H → Prop} (r0 : Nat) (v3 : Int32) (hr0 : r0 < 5) (σ : am_H) {o : (Int32 × am_H) ⊕ (am_H)} (hf : f_X8_makeAnew_21 r0 v3 σ = some o) (hk0 : ∀ s, o = .inl s → am_G X gm_X8_makeAnew Q 21 [(0, .ref (am_ad X 8 r0)), (3, .int s.1)] [] s.2) (hk1 : ∀ t, o = .inr t → am_G X gm_X8_makeAnew Q 40 [] [] t) : am_G X gm_X8_makeAnew Q 21 [(0, .ref (am_ad X 8 r0)), (3, .int v3)] [] σ := by
  unfold f_X8_makeAnew_21 at hf
  refine g_iload_n (pc := 21) 1 rfl dX8_makeAnew_21 rfl ?_
  refine g_bipush (pc := 22) (v := 60) dX8_makeAnew_22 (by decide) ?_
  refine bi_ge (pc := 24) 40 dX8_makeAnew_24 rfl (fun c1 => ?_) (fun c1 => ?_)
  · replace hf := am_ifT c1 hf
    refine g_aload_n (pc := 27) 0 rfl dX8_makeAnew_27 rfl ?_
    refine g_getC (pc := 28) (e := r0) (in_8 hX.1 (by omega)) fr_X8_15 dX8_makeAnew_28 rfl ?_
    refine g_iload_n (pc := 31) 1 rfl dX8_makeAnew_31 rfl ?_
    refine g_lconst (pc := 32) (v := 0) dX8_makeAnew_32 (by decide) ?_
    obtain ⟨j2, hj2, hf⟩ := am_bd hf
    have gj2 := am_ix_lt hj2
    obtain ⟨s3, hs3, hf⟩ := am_bd hf
    refine g_sJ (pc := 33) (in_902 hX.1 (by omega)) ak_902 hj2 dX8_makeAnew_33 (Option.some.inj hs3) ?_
    refine g_iinc (pc := 34) (v := (v3 + 1)) 1 [(3, .int (v3 + 1)), (0, .ref (am_ad X 8 r0))] dX8_makeAnew_34 rfl rfl (Nat.le_of_ble_eq_true rfl) rfl ?_
    refine g_goto (pc := 37) 21 dX8_makeAnew_37 rfl ?_
    have hz := hk0 _ (Option.some.inj hf).symm
    exact am_sub [1, 0] rfl hz
  replace hf := am_ifF c1 hf
  have hz := hk1 _ (Option.some.inj hf).symm
  exact am_sub [] rfl hz
set_option maxRecDepth 100000 in
set_option maxHeartbeats 4000000 in
theorem l_X8_makeAnew_21 {X : am_X} (hX : am_wC X) {Q : Option Value → am_H → Prop} (r0 : Nat) (hr0 : r0 < 5) (σ : am_H) (s : Int32 × am_H) {o : am_H} (hf : am_loop (fun s => f_X8_makeAnew_21 r0 s.1 s.2) s = some o) (hk1 : ∀ t, o = t → am_G X gm_X8_makeAnew Q 40 [] [] t) : am_G X gm_X8_makeAnew Q 21 [(0, .ref (am_ad X 8 r0)), (3, .int s.1)] [] s.2 := by
  refine am_loop_ind (P := fun s => am_G X gm_X8_makeAnew Q 21 [(0, .ref (am_ad X 8 r0)), (3, .int s.1)] [] s.2) (K := fun r => r = o) ?_ hf rfl
  intro s o1 hb hi hr
  exact q_X8_makeAnew_21 hX r0 s.1  hr0 s.2 hb hi (fun t e => hk1 t (hr _ e).symm)
noncomputable def f_X8_makeAnew (r0 : Nat) (v1 : Int32) (v2 : Int32) (σ : am_H) : Option (am_H) :=
  (some (am_wI σ 8 r0 0 v1)).bind fun s1 =>
  (some (am_wI s1 8 r0 1 (am_mx 0 (am_mn v2 60)))).bind fun s2 =>
  (am_loop (fun s => f_X8_makeAnew_21 r0 s.1 s.2) (0, s2)).bind fun w3 =>
  some w3
set_option maxRecDepth 100000 in
set_option maxHeartbeats 4000000 in
theorem q_X8_makeAnew {X : am_X} (hX : am_wC X) {Q : Option Value → am_H → Prop} (r0 : Nat) (v1 : Int32) (v2 : Int32) (hr0 : r0 < 5) (σ : am_H) {o : am_H} (hf : f_X8_makeAnew r0 v1 v2 σ = some o) (hk : Q none o) : am_G X gm_X8_makeAnew Q 0 [(0, .ref (am_ad X 8 r0)), (1, .int v1), (2, .int v2)] [] σ := by
  unfold f_X8_makeAnew at hf
  refine g_aload_n (pc := 0) 0 rfl dX8_makeAnew_0 rfl ?_
  refine g_iload_n (pc := 1) 1 rfl dX8_makeAnew_1 rfl ?_
  obtain ⟨s1, hs1, hf⟩ := am_bd hf
  refine g_setI (pc := 2) (in_8 hX.1 (by omega)) fr_X8_9 dX8_makeAnew_2 (Option.some.inj hs1) ?_
  refine g_aload_n (pc := 5) 0 rfl dX8_makeAnew_5 rfl ?_
  refine g_iconst (pc := 6) (v := 0) dX8_makeAnew_6 (by decide) ?_
  refine g_iload_n (pc := 7) 2 rfl dX8_makeAnew_7 rfl ?_
  refine g_bipush (pc := 8) (v := 60) dX8_makeAnew_8 (by decide) ?_
  refine g_mmin (pc := 10) (Nat.le_of_ble_eq_true rfl) (Nat.le_of_ble_eq_true rfl) sp_X8_19 dX8_makeAnew_10 ?_
  refine g_mmax (pc := 13) (Nat.le_of_ble_eq_true rfl) (Nat.le_of_ble_eq_true rfl) sp_X8_25 dX8_makeAnew_13 ?_
  obtain ⟨s2, hs2, hf⟩ := am_bd hf
  refine g_setI (pc := 16) (in_8 hX.1 (by omega)) fr_X8_28 dX8_makeAnew_16 (Option.some.inj hs2) ?_
  refine g_iconst (pc := 19) (v := 0) dX8_makeAnew_19 (by decide) ?_
  refine g_istore_n (pc := 20) [(3, .int 0), (0, .ref (am_ad X 8 r0)), (1, .int v1), (2, .int v2)] dX8_makeAnew_20 rfl (Nat.le_of_ble_eq_true rfl) rfl ?_
  obtain ⟨w3, hw3, hf⟩ := am_bd hf
  refine am_sub [1, 0] rfl (l_X8_makeAnew_21 hX r0 (by omega) s2 (0, s2) hw3 ?_)
  intro t e
  subst e
  have ho := Option.some.inj hf
  subst ho
  exact g_vreturn (pc := 40) (st := []) rfl dX8_makeAnew_40 hk
theorem k_X8_makeAnew {X : am_X} (hX : am_wC X) (r0 : Nat) (v1 : Int32) (v2 : Int32) (hr0 : r0 < 5) (σ : am_H) {o : am_H} (hf : f_X8_makeAnew r0 v1 v2 σ = some o) : am_C X gm_X8_makeAnew [.ref (am_ad X 8 r0), .int v1, .int v2] σ (am_is none o) :=
  am_ofG rfl (Nat.le_of_ble_eq_true rfl) rfl (q_X8_makeAnew hX r0 v1 v2 hr0 σ hf ⟨rfl, rfl⟩)
theorem dX8_hasRun_0 : decode cX8_hasRun 0 = .ok (.iload_n 1, 1) := by decide +kernel
theorem dX8_hasRun_1 : decode cX8_hasRun 1 = .ok (.ifCond .lt 29, 3) := by decide +kernel
theorem dX8_hasRun_4 : decode cX8_hasRun 4 = .ok (.iload_n 2, 1) := by decide +kernel
theorem dX8_hasRun_5 : decode cX8_hasRun 5 = .ok (.ifCond .lt 25, 3) := by decide +kernel
theorem dX8_hasRun_8 : decode cX8_hasRun 8 = .ok (.iload_n 1, 1) := by decide +kernel
theorem dX8_hasRun_9 : decode cX8_hasRun 9 = .ok (.aload_n 0, 1) := by decide +kernel
theorem dX8_hasRun_10 : decode cX8_hasRun 10 = .ok (.getfield 28, 3) := by decide +kernel
theorem dX8_hasRun_13 : decode cX8_hasRun 13 = .ok (.if_icmp .gt 17, 3) := by decide +kernel
theorem dX8_hasRun_16 : decode cX8_hasRun 16 = .ok (.iload_n 2, 1) := by decide +kernel
theorem dX8_hasRun_17 : decode cX8_hasRun 17 = .ok (.aload_n 0, 1) := by decide +kernel
theorem dX8_hasRun_18 : decode cX8_hasRun 18 = .ok (.getfield 28, 3) := by decide +kernel
theorem dX8_hasRun_21 : decode cX8_hasRun 21 = .ok (.iload_n 1, 1) := by decide +kernel
theorem dX8_hasRun_22 : decode cX8_hasRun 22 = .ok (.isub, 1) := by decide +kernel
theorem dX8_hasRun_23 : decode cX8_hasRun 23 = .ok (.if_icmp .gt 7, 3) := by decide +kernel
theorem dX8_hasRun_26 : decode cX8_hasRun 26 = .ok (.iconst 1, 1) := by decide +kernel
theorem dX8_hasRun_27 : decode cX8_hasRun 27 = .ok (.goto 4, 3) := by decide +kernel
theorem dX8_hasRun_30 : decode cX8_hasRun 30 = .ok (.iconst 0, 1) := by decide +kernel
theorem dX8_hasRun_31 : decode cX8_hasRun 31 = .ok (.ireturn, 1) := by decide +kernel
noncomputable def f_X8_hasRun (r0 : Nat) (v1 : Int32) (v2 : Int32) (σ : am_H) : Option (Bool) :=
  if v1 < 0 then
   (some false)
  else
  if v2 < 0 then
   (some false)
  else
  if (σ.1 8 r0 1) < v1 then
   (some false)
  else
  if ((σ.1 8 r0 1) - v1) < v2 then
   (some false)
  else
  some true
set_option maxRecDepth 100000 in
set_option maxHeartbeats 4000000 in
theorem q_X8_hasRun {X : am_X} (hX : am_wC X) {Q : Option Value → am_H → Prop} (r0 : Nat) (v1 : Int32) (v2 : Int32) (hr0 : r0 < 5) (σ : am_H) {o : Bool} (hf : f_X8_hasRun r0 v1 v2 σ = some o) (hk : Q (some (.int (am_b o))) σ) : am_G X gm_X8_hasRun Q 0 [(0, .ref (am_ad X 8 r0)), (1, .int v1), (2, .int v2)] [] σ := by
  unfold f_X8_hasRun at hf
  refine g_iload_n (pc := 0) 1 rfl dX8_hasRun_0 rfl ?_
  refine bz_lt (pc := 1) 30 dX8_hasRun_1 rfl (fun c1 => ?_) (fun c1 => ?_)
  · replace hf := am_ifT c1 hf
    refine g_iconst (pc := 30) (v := 0) dX8_hasRun_30 (by decide) ?_
    have ho := Option.some.inj hf
    subst ho
    exact g_zreturn (pc := 31) (st := []) (x := false) rfl dX8_hasRun_31 hk
  replace hf := am_ifF c1 hf
  refine g_iload_n (pc := 4) 2 rfl dX8_hasRun_4 rfl ?_
  refine bz_lt (pc := 5) 30 dX8_hasRun_5 rfl (fun c2 => ?_) (fun c2 => ?_)
  · replace hf := am_ifT c2 hf
    refine g_iconst (pc := 30) (v := 0) dX8_hasRun_30 (by decide) ?_
    have ho := Option.some.inj hf
    subst ho
    exact g_zreturn (pc := 31) (st := []) (x := false) rfl dX8_hasRun_31 hk
  replace hf := am_ifF c2 hf
  refine g_iload_n (pc := 8) 1 rfl dX8_hasRun_8 rfl ?_
  refine g_aload_n (pc := 9) 0 rfl dX8_hasRun_9 rfl ?_
  refine g_getI (pc := 10) (in_8 hX.1 (by omega)) fr_X8_28 dX8_hasRun_10 ?_
  refine bi_gt (pc := 13) 30 dX8_hasRun_13 rfl (fun c3 => ?_) (fun c3 => ?_)
  · replace hf := am_ifT c3 hf
    refine g_iconst (pc := 30) (v := 0) dX8_hasRun_30 (by decide) ?_
    have ho := Option.some.inj hf
    subst ho
    exact g_zreturn (pc := 31) (st := []) (x := false) rfl dX8_hasRun_31 hk
  replace hf := am_ifF c3 hf
  refine g_iload_n (pc := 16) 2 rfl dX8_hasRun_16 rfl ?_
  refine g_aload_n (pc := 17) 0 rfl dX8_hasRun_17 rfl ?_
  refine g_getI (pc := 18) (in_8 hX.1 (by omega)) fr_X8_28 dX8_hasRun_18 ?_
  refine g_iload_n (pc := 21) 1 rfl dX8_hasRun_21 rfl ?_
  refine g_isub (pc := 22) dX8_hasRun_22 ?_
  refine bi_gt (pc := 23) 30 dX8_hasRun_23 rfl (fun c4 => ?_) (fun c4 => ?_)
  · replace hf := am_ifT c4 hf
    refine g_iconst (pc := 30) (v := 0) dX8_hasRun_30 (by decide) ?_
    have ho := Option.some.inj hf
    subst ho
    exact g_zreturn (pc := 31) (st := []) (x := false) rfl dX8_hasRun_31 hk
  replace hf := am_ifF c4 hf
  refine g_iconst (pc := 26) (v := 1) dX8_hasRun_26 (by decide) ?_
  refine g_goto (pc := 27) 31 dX8_hasRun_27 rfl ?_
  have ho := Option.some.inj hf
  subst ho
  exact g_zreturn (pc := 31) (st := []) (x := true) rfl dX8_hasRun_31 hk
theorem k_X8_hasRun {X : am_X} (hX : am_wC X) (r0 : Nat) (v1 : Int32) (v2 : Int32) (hr0 : r0 < 5) (σ : am_H) {o : Bool} (hf : f_X8_hasRun r0 v1 v2 σ = some o) : am_C X gm_X8_hasRun [.ref (am_ad X 8 r0), .int v1, .int v2] σ (am_is (some (.int (am_b o))) σ) :=
  am_ofG rfl (Nat.le_of_ble_eq_true rfl) rfl (q_X8_hasRun hX r0 v1 v2 hr0 σ hf ⟨rfl, rfl⟩)
theorem dX8_put_0 : decode cX8_put 0 = .ok (.iload_n 1, 1) := by decide +kernel
theorem dX8_put_1 : decode cX8_put 1 = .ok (.ifCond .lt 11, 3) := by decide +kernel
theorem dX8_put_4 : decode cX8_put 4 = .ok (.iload_n 1, 1) := by decide +kernel
theorem dX8_put_5 : decode cX8_put 5 = .ok (.aload_n 0, 1) := by decide +kernel
theorem dX8_put_6 : decode cX8_put 6 = .ok (.getfield 28, 3) := by decide +kernel
theorem dX8_put_9 : decode cX8_put 9 = .ok (.if_icmp .lt 4, 3) := by decide +kernel
theorem dX8_put_12 : decode cX8_put 12 = .ok (.return_, 1) := by decide +kernel
theorem dX8_put_13 : decode cX8_put 13 = .ok (.aload_n 0, 1) := by decide +kernel
theorem dX8_put_14 : decode cX8_put 14 = .ok (.getfield 9, 3) := by decide +kernel
theorem dX8_put_17 : decode cX8_put 17 = .ok (.tableswitch 65 0 2 #[27, 40, 53], 27) := by decide +kernel
theorem dX8_put_44 : decode cX8_put 44 = .ok (.aload_n 0, 1) := by decide +kernel
theorem dX8_put_45 : decode cX8_put 45 = .ok (.getfield 15, 3) := by decide +kernel
theorem dX8_put_48 : decode cX8_put 48 = .ok (.iload_n 1, 1) := by decide +kernel
theorem dX8_put_49 : decode cX8_put 49 = .ok (.lload_n 2, 1) := by decide +kernel
theorem dX8_put_50 : decode cX8_put 50 = .ok (.l2i, 1) := by decide +kernel
theorem dX8_put_51 : decode cX8_put 51 = .ok (.i2b, 1) := by decide +kernel
theorem dX8_put_52 : decode cX8_put 52 = .ok (.i2l, 1) := by decide +kernel
theorem dX8_put_53 : decode cX8_put 53 = .ok (.lastore, 1) := by decide +kernel
theorem dX8_put_54 : decode cX8_put 54 = .ok (.goto 35, 3) := by decide +kernel
theorem dX8_put_57 : decode cX8_put 57 = .ok (.aload_n 0, 1) := by decide +kernel
theorem dX8_put_58 : decode cX8_put 58 = .ok (.getfield 15, 3) := by decide +kernel
theorem dX8_put_61 : decode cX8_put 61 = .ok (.iload_n 1, 1) := by decide +kernel
theorem dX8_put_62 : decode cX8_put 62 = .ok (.lload_n 2, 1) := by decide +kernel
theorem dX8_put_63 : decode cX8_put 63 = .ok (.l2i, 1) := by decide +kernel
theorem dX8_put_64 : decode cX8_put 64 = .ok (.i2s, 1) := by decide +kernel
theorem dX8_put_65 : decode cX8_put 65 = .ok (.i2l, 1) := by decide +kernel
theorem dX8_put_66 : decode cX8_put 66 = .ok (.lastore, 1) := by decide +kernel
theorem dX8_put_67 : decode cX8_put 67 = .ok (.goto 22, 3) := by decide +kernel
theorem dX8_put_70 : decode cX8_put 70 = .ok (.aload_n 0, 1) := by decide +kernel
theorem dX8_put_71 : decode cX8_put 71 = .ok (.getfield 15, 3) := by decide +kernel
theorem dX8_put_74 : decode cX8_put 74 = .ok (.iload_n 1, 1) := by decide +kernel
theorem dX8_put_75 : decode cX8_put 75 = .ok (.lload_n 2, 1) := by decide +kernel
theorem dX8_put_76 : decode cX8_put 76 = .ok (.l2i, 1) := by decide +kernel
theorem dX8_put_77 : decode cX8_put 77 = .ok (.i2l, 1) := by decide +kernel
theorem dX8_put_78 : decode cX8_put 78 = .ok (.lastore, 1) := by decide +kernel
theorem dX8_put_79 : decode cX8_put 79 = .ok (.goto 10, 3) := by decide +kernel
theorem dX8_put_82 : decode cX8_put 82 = .ok (.aload_n 0, 1) := by decide +kernel
theorem dX8_put_83 : decode cX8_put 83 = .ok (.getfield 15, 3) := by decide +kernel
theorem dX8_put_86 : decode cX8_put 86 = .ok (.iload_n 1, 1) := by decide +kernel
theorem dX8_put_87 : decode cX8_put 87 = .ok (.lload_n 2, 1) := by decide +kernel
theorem dX8_put_88 : decode cX8_put 88 = .ok (.lastore, 1) := by decide +kernel
theorem dX8_put_89 : decode cX8_put 89 = .ok (.return_, 1) := by decide +kernel
noncomputable def f_X8_put (r0 : Nat) (v1 : Int32) (v2 : Int64) (σ : am_H) : Option (am_H) :=
  if v1 < 0 then
   (some σ)
  else
  if v1 < (σ.1 8 r0 1) then
   (if (σ.1 8 r0 0) = 0 then
    ((am_ix 60 v1).bind fun j4 =>
    (some (am_wL σ 902 r0 j4 (Int32.toInt64 (Int8.toInt32 (Int32.toInt8 (Int64.toInt32 v2)))))).bind fun s5 =>
    some s5)
   else
   if (σ.1 8 r0 0) = 1 then
    ((am_ix 60 v1).bind fun j7 =>
    (some (am_wL σ 902 r0 j7 (Int32.toInt64 (Int16.toInt32 (Int32.toInt16 (Int64.toInt32 v2)))))).bind fun s8 =>
    some s8)
   else
   if (σ.1 8 r0 0) = 2 then
    ((am_ix 60 v1).bind fun j10 =>
    (some (am_wL σ 902 r0 j10 (Int32.toInt64 (Int64.toInt32 v2)))).bind fun s11 =>
    some s11)
   else
   (am_ix 60 v1).bind fun j12 =>
   (some (am_wL σ 902 r0 j12 v2)).bind fun s13 =>
   some s13)
  else
  some σ
set_option maxRecDepth 100000 in
set_option maxHeartbeats 4000000 in
theorem q_X8_put {X : am_X} (hX : am_wC X) {Q : Option Value → am_H → Prop} (r0 : Nat) (v1 : Int32) (v2 : Int64) (hr0 : r0 < 5) (σ : am_H) {o : am_H} (hf : f_X8_put r0 v1 v2 σ = some o) (hk : Q none o) : am_G X gm_X8_put Q 0 [(0, .ref (am_ad X 8 r0)), (1, .int v1), (2, .long v2)] [] σ := by
  unfold f_X8_put at hf
  refine g_iload_n (pc := 0) 1 rfl dX8_put_0 rfl ?_
  refine bz_lt (pc := 1) 12 dX8_put_1 rfl (fun c1 => ?_) (fun c1 => ?_)
  · replace hf := am_ifT c1 hf
    have ho := Option.some.inj hf
    subst ho
    exact g_vreturn (pc := 12) (st := []) rfl dX8_put_12 hk
  replace hf := am_ifF c1 hf
  refine g_iload_n (pc := 4) 1 rfl dX8_put_4 rfl ?_
  refine g_aload_n (pc := 5) 0 rfl dX8_put_5 rfl ?_
  refine g_getI (pc := 6) (in_8 hX.1 (by omega)) fr_X8_28 dX8_put_6 ?_
  refine bi_lt (pc := 9) 13 dX8_put_9 rfl (fun c2 => ?_) (fun c2 => ?_)
  · replace hf := am_ifT c2 hf
    refine g_aload_n (pc := 13) 0 rfl dX8_put_13 rfl ?_
    refine g_getI (pc := 14) (in_8 hX.1 (by omega)) fr_X8_9 dX8_put_14 ?_
    by_cases c3 : (σ.1 8 r0 0) = 0
    · replace hf := am_ifT c3 hf
      refine g_swE (pc := 17) 44 c3 dX8_put_17 (by decide) (by decide) rfl rfl ?_
      refine g_aload_n (pc := 44) 0 rfl dX8_put_44 rfl ?_
      refine g_getC (pc := 45) (e := r0) (in_8 hX.1 (by omega)) fr_X8_15 dX8_put_45 rfl ?_
      refine g_iload_n (pc := 48) 1 rfl dX8_put_48 rfl ?_
      refine g_lload_n (pc := 49) 2 rfl dX8_put_49 rfl ?_
      refine g_l2i (pc := 50) dX8_put_50 ?_
      refine g_i2b (pc := 51) dX8_put_51 ?_
      refine g_i2l (pc := 52) dX8_put_52 ?_
      obtain ⟨j4, hj4, hf⟩ := am_bd hf
      have gj4 := am_ix_lt hj4
      obtain ⟨s5, hs5, hf⟩ := am_bd hf
      refine g_sJ (pc := 53) (in_902 hX.1 (by omega)) ak_902 hj4 dX8_put_53 (Option.some.inj hs5) ?_
      refine g_goto (pc := 54) 89 dX8_put_54 rfl ?_
      have ho := Option.some.inj hf
      subst ho
      exact g_vreturn (pc := 89) (st := []) rfl dX8_put_89 hk
    replace hf := am_ifF c3 hf
    by_cases c6 : (σ.1 8 r0 0) = 1
    · replace hf := am_ifT c6 hf
      refine g_swE (pc := 17) 57 c6 dX8_put_17 (by decide) (by decide) rfl rfl ?_
      refine g_aload_n (pc := 57) 0 rfl dX8_put_57 rfl ?_
      refine g_getC (pc := 58) (e := r0) (in_8 hX.1 (by omega)) fr_X8_15 dX8_put_58 rfl ?_
      refine g_iload_n (pc := 61) 1 rfl dX8_put_61 rfl ?_
      refine g_lload_n (pc := 62) 2 rfl dX8_put_62 rfl ?_
      refine g_l2i (pc := 63) dX8_put_63 ?_
      refine g_i2s (pc := 64) dX8_put_64 ?_
      refine g_i2l (pc := 65) dX8_put_65 ?_
      obtain ⟨j7, hj7, hf⟩ := am_bd hf
      have gj7 := am_ix_lt hj7
      obtain ⟨s8, hs8, hf⟩ := am_bd hf
      refine g_sJ (pc := 66) (in_902 hX.1 (by omega)) ak_902 hj7 dX8_put_66 (Option.some.inj hs8) ?_
      refine g_goto (pc := 67) 89 dX8_put_67 rfl ?_
      have ho := Option.some.inj hf
      subst ho
      exact g_vreturn (pc := 89) (st := []) rfl dX8_put_89 hk
    replace hf := am_ifF c6 hf
    by_cases c9 : (σ.1 8 r0 0) = 2
    · replace hf := am_ifT c9 hf
      refine g_swE (pc := 17) 70 c9 dX8_put_17 (by decide) (by decide) rfl rfl ?_
      refine g_aload_n (pc := 70) 0 rfl dX8_put_70 rfl ?_
      refine g_getC (pc := 71) (e := r0) (in_8 hX.1 (by omega)) fr_X8_15 dX8_put_71 rfl ?_
      refine g_iload_n (pc := 74) 1 rfl dX8_put_74 rfl ?_
      refine g_lload_n (pc := 75) 2 rfl dX8_put_75 rfl ?_
      refine g_l2i (pc := 76) dX8_put_76 ?_
      refine g_i2l (pc := 77) dX8_put_77 ?_
      obtain ⟨j10, hj10, hf⟩ := am_bd hf
      have gj10 := am_ix_lt hj10
      obtain ⟨s11, hs11, hf⟩ := am_bd hf
      refine g_sJ (pc := 78) (in_902 hX.1 (by omega)) ak_902 hj10 dX8_put_78 (Option.some.inj hs11) ?_
      refine g_goto (pc := 79) 89 dX8_put_79 rfl ?_
      have ho := Option.some.inj hf
      subst ho
      exact g_vreturn (pc := 89) (st := []) rfl dX8_put_89 hk
    replace hf := am_ifF c9 hf
    refine g_tabO (pc := 17) 82 dX8_put_17 (am_sw_out 3 (by decide) ?_) rfl ?_
    · intro k hk
      rcases (by omega : k = 0 ∨ k = 1 ∨ k = 2) with rfl | rfl | rfl
      · exact c3
      · exact c6
      · exact c9
    refine g_aload_n (pc := 82) 0 rfl dX8_put_82 rfl ?_
    refine g_getC (pc := 83) (e := r0) (in_8 hX.1 (by omega)) fr_X8_15 dX8_put_83 rfl ?_
    refine g_iload_n (pc := 86) 1 rfl dX8_put_86 rfl ?_
    refine g_lload_n (pc := 87) 2 rfl dX8_put_87 rfl ?_
    obtain ⟨j12, hj12, hf⟩ := am_bd hf
    have gj12 := am_ix_lt hj12
    obtain ⟨s13, hs13, hf⟩ := am_bd hf
    refine g_sJ (pc := 88) (in_902 hX.1 (by omega)) ak_902 hj12 dX8_put_88 (Option.some.inj hs13) ?_
    have ho := Option.some.inj hf
    subst ho
    exact g_vreturn (pc := 89) (st := []) rfl dX8_put_89 hk
  replace hf := am_ifF c2 hf
  have ho := Option.some.inj hf
  subst ho
  exact g_vreturn (pc := 12) (st := []) rfl dX8_put_12 hk
theorem k_X8_put {X : am_X} (hX : am_wC X) (r0 : Nat) (v1 : Int32) (v2 : Int64) (hr0 : r0 < 5) (σ : am_H) {o : am_H} (hf : f_X8_put r0 v1 v2 σ = some o) : am_C X gm_X8_put [.ref (am_ad X 8 r0), .int v1, .long v2] σ (am_is none o) :=
  am_ofG rfl (Nat.le_of_ble_eq_true rfl) rfl (q_X8_put hX r0 v1 v2 hr0 σ hf ⟨rfl, rfl⟩)
theorem dX9_passEnds_0 : decode cX9_passEnds 0 = .ok (.iconst 0, 1) := by decide +kernel
theorem dX9_passEnds_1 : decode cX9_passEnds 1 = .ok (.istore_n 1, 1) := by decide +kernel
theorem dX9_passEnds_2 : decode cX9_passEnds 2 = .ok (.iload_n 1, 1) := by decide +kernel
theorem dX9_passEnds_3 : decode cX9_passEnds 3 = .ok (.sipush 1000, 3) := by decide +kernel
theorem dX9_passEnds_6 : decode cX9_passEnds 6 = .ok (.if_icmp .ge 88, 3) := by decide +kernel
theorem dX9_passEnds_9 : decode cX9_passEnds 9 = .ok (.aload_n 0, 1) := by decide +kernel
theorem dX9_passEnds_10 : decode cX9_passEnds 10 = .ok (.getfield 30, 3) := by decide +kernel
theorem dX9_passEnds_13 : decode cX9_passEnds 13 = .ok (.aload_n 0, 1) := by decide +kernel
theorem dX9_passEnds_14 : decode cX9_passEnds 14 = .ok (.getfield 18, 3) := by decide +kernel
theorem dX9_passEnds_17 : decode cX9_passEnds 17 = .ok (.getfield 53, 3) := by decide +kernel
theorem dX9_passEnds_20 : decode cX9_passEnds 20 = .ok (.if_icmp .ge 74, 3) := by decide +kernel
theorem dX9_passEnds_23 : decode cX9_passEnds 23 = .ok (.aload_n 0, 1) := by decide +kernel
theorem dX9_passEnds_24 : decode cX9_passEnds 24 = .ok (.getfield 18, 3) := by decide +kernel
theorem dX9_passEnds_27 : decode cX9_passEnds 27 = .ok (.getfield 64, 3) := by decide +kernel
theorem dX9_passEnds_30 : decode cX9_passEnds 30 = .ok (.aload_n 0, 1) := by decide +kernel
theorem dX9_passEnds_31 : decode cX9_passEnds 31 = .ok (.getfield 30, 3) := by decide +kernel
theorem dX9_passEnds_34 : decode cX9_passEnds 34 = .ok (.iaload, 1) := by decide +kernel
theorem dX9_passEnds_35 : decode cX9_passEnds 35 = .ok (.bipush 6, 2) := by decide +kernel
theorem dX9_passEnds_37 : decode cX9_passEnds 37 = .ok (.if_icmp .ne 57, 3) := by decide +kernel
theorem dX9_passEnds_40 : decode cX9_passEnds 40 = .ok (.aload_n 0, 1) := by decide +kernel
theorem dX9_passEnds_41 : decode cX9_passEnds 41 = .ok (.getfield 18, 3) := by decide +kernel
theorem dX9_passEnds_44 : decode cX9_passEnds 44 = .ok (.getfield 67, 3) := by decide +kernel
theorem dX9_passEnds_47 : decode cX9_passEnds 47 = .ok (.aload_n 0, 1) := by decide +kernel
theorem dX9_passEnds_48 : decode cX9_passEnds 48 = .ok (.getfield 30, 3) := by decide +kernel
theorem dX9_passEnds_51 : decode cX9_passEnds 51 = .ok (.iaload, 1) := by decide +kernel
theorem dX9_passEnds_52 : decode cX9_passEnds 52 = .ok (.istore_n 2, 1) := by decide +kernel
theorem dX9_passEnds_53 : decode cX9_passEnds 53 = .ok (.aload_n 0, 1) := by decide +kernel
theorem dX9_passEnds_54 : decode cX9_passEnds 54 = .ok (.getfield 9, 3) := by decide +kernel
theorem dX9_passEnds_57 : decode cX9_passEnds 57 = .ok (.iload_n 2, 1) := by decide +kernel
theorem dX9_passEnds_58 : decode cX9_passEnds 58 = .ok (.dup2, 1) := by decide +kernel
theorem dX9_passEnds_59 : decode cX9_passEnds 59 = .ok (.iaload, 1) := by decide +kernel
theorem dX9_passEnds_60 : decode cX9_passEnds 60 = .ok (.iconst 1, 1) := by decide +kernel
theorem dX9_passEnds_61 : decode cX9_passEnds 61 = .ok (.isub, 1) := by decide +kernel
theorem dX9_passEnds_62 : decode cX9_passEnds 62 = .ok (.iastore, 1) := by decide +kernel
theorem dX9_passEnds_63 : decode cX9_passEnds 63 = .ok (.aload_n 0, 1) := by decide +kernel
theorem dX9_passEnds_64 : decode cX9_passEnds 64 = .ok (.aload_n 0, 1) := by decide +kernel
theorem dX9_passEnds_65 : decode cX9_passEnds 65 = .ok (.getfield 9, 3) := by decide +kernel
theorem dX9_passEnds_68 : decode cX9_passEnds 68 = .ok (.iload_n 2, 1) := by decide +kernel
theorem dX9_passEnds_69 : decode cX9_passEnds 69 = .ok (.iaload, 1) := by decide +kernel
theorem dX9_passEnds_70 : decode cX9_passEnds 70 = .ok (.ifCond .le 9, 3) := by decide +kernel
theorem dX9_passEnds_73 : decode cX9_passEnds 73 = .ok (.iload_n 2, 1) := by decide +kernel
theorem dX9_passEnds_74 : decode cX9_passEnds 74 = .ok (.iconst 1, 1) := by decide +kernel
theorem dX9_passEnds_75 : decode cX9_passEnds 75 = .ok (.iadd, 1) := by decide +kernel
theorem dX9_passEnds_76 : decode cX9_passEnds 76 = .ok (.goto 9, 3) := by decide +kernel
theorem dX9_passEnds_79 : decode cX9_passEnds 79 = .ok (.aload_n 0, 1) := by decide +kernel
theorem dX9_passEnds_80 : decode cX9_passEnds 80 = .ok (.getfield 30, 3) := by decide +kernel
theorem dX9_passEnds_83 : decode cX9_passEnds 83 = .ok (.iconst 1, 1) := by decide +kernel
theorem dX9_passEnds_84 : decode cX9_passEnds 84 = .ok (.iadd, 1) := by decide +kernel
theorem dX9_passEnds_85 : decode cX9_passEnds 85 = .ok (.putfield 30, 3) := by decide +kernel
theorem dX9_passEnds_88 : decode cX9_passEnds 88 = .ok (.iinc 1 1, 3) := by decide +kernel
theorem dX9_passEnds_91 : decode cX9_passEnds 91 = .ok (.goto (-89), 3) := by decide +kernel
theorem dX9_passEnds_94 : decode cX9_passEnds 94 = .ok (.return_, 1) := by decide +kernel
noncomputable def f_X9_passEnds_85 (v1 : Int32) (k1 : Int32) (σ : am_H) : Option ((Int32 × am_H) ⊕ (am_H)) :=
  (some (am_wI σ 9 0 2 k1)).bind fun s1 =>
  some (.inl ((v1 + 1), s1))
set_option maxRecDepth 100000 in
set_option maxHeartbeats 4000000 in
theorem q_X9_passEnds_85 {X : am_X} (hX : am_wC X) {Q : Option Value → am_H → Prop} (v1 : Int32) (k1 : Int32) (σ : am_H) {o : (Int32 × am_H) ⊕ (am_H)} (hf : f_X9_passEnds_85 v1 k1 σ = some o) (hk0 : ∀ s, o = .inl s → am_G X gm_X9_passEnds Q 2 [(0, .ref (am_ad X 9 0)), (1, .int s.1)] [] s.2) (hk1 : ∀ t, o = .inr t → am_G X gm_X9_passEnds Q 94 [] [] t) : am_G X gm_X9_passEnds Q 85 [(0, .ref (am_ad X 9 0)), (1, .int v1)] [.int k1, .ref (am_ad X 9 0)] σ := by
  unfold f_X9_passEnds_85 at hf
  obtain ⟨s1, hs1, hf⟩ := am_bd hf
  refine g_setI (pc := 85) (in_9 hX.1 (by omega)) fr_X9_30 dX9_passEnds_85 (Option.some.inj hs1) ?_
  refine g_iinc (pc := 88) (v := (v1 + 1)) 1 [(1, .int (v1 + 1)), (0, .ref (am_ad X 9 0))] dX9_passEnds_88 rfl rfl (Nat.le_of_ble_eq_true rfl) rfl ?_
  refine g_goto (pc := 91) 2 dX9_passEnds_91 rfl ?_
  have hz := hk0 _ (Option.some.inj hf).symm
  exact am_sub [1, 0] rfl hz
noncomputable def f_X9_passEnds_2 (v1 : Int32) (σ : am_H) : Option ((Int32 × am_H) ⊕ (am_H)) :=
  if v1 < 1000 then
   ((am_rr 2 (σ.2.2 9 0 0)).bind fun a2 =>
   if (σ.1 9 0 2) < (σ.1 4 a2 4) then
    ((am_rr 2 (σ.2.2 9 0 0)).bind fun a4 =>
    (am_ix 80 (σ.1 9 0 2)).bind fun j5 =>
    if (σ.1 500 a4 j5) = 6 then
     ((am_rr 2 (σ.2.2 9 0 0)).bind fun a7 =>
     (am_ix 80 (σ.1 9 0 2)).bind fun j8 =>
     (am_ix 80 (σ.1 503 a7 j8)).bind fun j9 =>
     (am_ix 80 (σ.1 503 a7 j8)).bind fun j10 =>
     (some (am_wI σ 1004 0 j10 ((σ.1 1004 0 j9) - 1))).bind fun s11 =>
     (am_ix 80 (σ.1 503 a7 j8)).bind fun j12 =>
     if 0 < (s11.1 1004 0 j12) then
      (f_X9_passEnds_85 v1 ((σ.1 503 a7 j8) + 1) s11)
     else
     f_X9_passEnds_85 v1 ((s11.1 9 0 2) + 1) s11)
    else
    some (.inr σ))
   else
   some (.inr σ))
  else
  some (.inr σ)
set_option maxRecDepth 100000 in
set_option maxHeartbeats 4000000 in
theorem q_X9_passEnds_2 {X : am_X} (hX : am_wC X) {Q : Option Value → am_H → Prop} (v1 : Int32) (σ : am_H) {o : (Int32 × am_H) ⊕ (am_H)} (hf : f_X9_passEnds_2 v1 σ = some o) (hk0 : ∀ s, o = .inl s → am_G X gm_X9_passEnds Q 2 [(0, .ref (am_ad X 9 0)), (1, .int s.1)] [] s.2) (hk1 : ∀ t, o = .inr t → am_G X gm_X9_passEnds Q 94 [] [] t) : am_G X gm_X9_passEnds Q 2 [(0, .ref (am_ad X 9 0)), (1, .int v1)] [] σ := by
  unfold f_X9_passEnds_2 at hf
  refine g_iload_n (pc := 2) 1 rfl dX9_passEnds_2 rfl ?_
  refine g_sipush (pc := 3) (v := 1000) dX9_passEnds_3 (by decide) ?_
  refine bi_ge (pc := 6) 94 dX9_passEnds_6 rfl (fun c1 => ?_) (fun c1 => ?_)
  · replace hf := am_ifT c1 hf
    refine g_aload_n (pc := 9) 0 rfl dX9_passEnds_9 rfl ?_
    refine g_getI (pc := 10) (in_9 hX.1 (by omega)) fr_X9_30 dX9_passEnds_10 ?_
    refine g_aload_n (pc := 13) 0 rfl dX9_passEnds_13 rfl ?_
    obtain ⟨a2, ha2, hf⟩ := am_bd hf
    obtain ⟨ha2, ga2⟩ := am_rr_in ha2
    refine g_getM (pc := 14) (in_9 hX.1 (by omega)) fr_X9_18 ha2 dX9_passEnds_14 ?_
    refine g_getI (pc := 17) (in_4 hX.1 (by omega)) fr_X9_53 dX9_passEnds_17 ?_
    refine bi_ge (pc := 20) 94 dX9_passEnds_20 rfl (fun c3 => ?_) (fun c3 => ?_)
    · replace hf := am_ifT c3 hf
      refine g_aload_n (pc := 23) 0 rfl dX9_passEnds_23 rfl ?_
      obtain ⟨a4, ha4, hf⟩ := am_bd hf
      obtain ⟨ha4, ga4⟩ := am_rr_in ha4
      refine g_getM (pc := 24) (in_9 hX.1 (by omega)) fr_X9_18 ha4 dX9_passEnds_24 ?_
      refine g_getC (pc := 27) (e := a4) (in_4 hX.1 (by omega)) fr_X9_64 dX9_passEnds_27 rfl ?_
      refine g_aload_n (pc := 30) 0 rfl dX9_passEnds_30 rfl ?_
      refine g_getI (pc := 31) (in_9 hX.1 (by omega)) fr_X9_30 dX9_passEnds_31 ?_
      obtain ⟨j5, hj5, hf⟩ := am_bd hf
      have gj5 := am_ix_lt hj5
      refine g_aI (pc := 34) (in_500 hX.1 (by omega)) ak_500 hj5 dX9_passEnds_34 ?_
      refine g_bipush (pc := 35) (v := 6) dX9_passEnds_35 (by decide) ?_
      refine bi_ne (pc := 37) 94 dX9_passEnds_37 rfl (fun c6 => ?_) (fun c6 => ?_)
      · replace hf := am_ifT c6 hf
        refine g_aload_n (pc := 40) 0 rfl dX9_passEnds_40 rfl ?_
        obtain ⟨a7, ha7, hf⟩ := am_bd hf
        obtain ⟨ha7, ga7⟩ := am_rr_in ha7
        refine g_getM (pc := 41) (in_9 hX.1 (by omega)) fr_X9_18 ha7 dX9_passEnds_41 ?_
        refine g_getC (pc := 44) (e := a7) (in_4 hX.1 (by omega)) fr_X9_67 dX9_passEnds_44 rfl ?_
        refine g_aload_n (pc := 47) 0 rfl dX9_passEnds_47 rfl ?_
        refine g_getI (pc := 48) (in_9 hX.1 (by omega)) fr_X9_30 dX9_passEnds_48 ?_
        obtain ⟨j8, hj8, hf⟩ := am_bd hf
        have gj8 := am_ix_lt hj8
        refine g_aI (pc := 51) (in_503 hX.1 (by omega)) ak_503 hj8 dX9_passEnds_51 ?_
        refine g_istore_n (pc := 52) [(2, .int (σ.1 503 a7 j8)), (0, .ref (am_ad X 9 0)), (1, .int v1)] dX9_passEnds_52 rfl (Nat.le_of_ble_eq_true rfl) rfl ?_
        refine g_aload_n (pc := 53) 1 rfl dX9_passEnds_53 rfl ?_
        refine g_getC (pc := 54) (e := 0) (in_9 hX.1 (by omega)) fr_X9_9 dX9_passEnds_54 rfl ?_
        refine g_iload_n (pc := 57) 0 rfl dX9_passEnds_57 rfl ?_
        refine g_dup2_11 (pc := 58) dX9_passEnds_58 rfl rfl ?_
        obtain ⟨j9, hj9, hf⟩ := am_bd hf
        have gj9 := am_ix_lt hj9
        refine g_aI (pc := 59) (in_1004 hX.1 (by omega)) ak_1004 hj9 dX9_passEnds_59 ?_
        refine g_iconst (pc := 60) (v := 1) dX9_passEnds_60 (by decide) ?_
        refine g_isub (pc := 61) dX9_passEnds_61 ?_
        obtain ⟨j10, hj10, hf⟩ := am_bd hf
        have gj10 := am_ix_lt hj10
        obtain ⟨s11, hs11, hf⟩ := am_bd hf
        refine g_sI (pc := 62) (in_1004 hX.1 (by omega)) ak_1004 hj10 dX9_passEnds_62 (Option.some.inj hs11) ?_
        refine g_aload_n (pc := 63) 1 rfl dX9_passEnds_63 rfl ?_
        refine g_aload_n (pc := 64) 1 rfl dX9_passEnds_64 rfl ?_
        refine g_getC (pc := 65) (e := 0) (in_9 hX.1 (by omega)) fr_X9_9 dX9_passEnds_65 rfl ?_
        refine g_iload_n (pc := 68) 0 rfl dX9_passEnds_68 rfl ?_
        obtain ⟨j12, hj12, hf⟩ := am_bd hf
        have gj12 := am_ix_lt hj12
        refine g_aI (pc := 69) (in_1004 hX.1 (by omega)) ak_1004 hj12 dX9_passEnds_69 ?_
        refine bz_le (pc := 70) 79 dX9_passEnds_70 rfl (fun c13 => ?_) (fun c13 => ?_)
        · replace hf := am_ifT c13 hf
          refine g_iload_n (pc := 73) 0 rfl dX9_passEnds_73 rfl ?_
          refine g_iconst (pc := 74) (v := 1) dX9_passEnds_74 (by decide) ?_
          refine g_iadd (pc := 75) dX9_passEnds_75 ?_
          refine g_goto (pc := 76) 85 dX9_passEnds_76 rfl ?_
          exact am_sub [1, 2] rfl (q_X9_passEnds_85 hX v1 ((σ.1 503 a7 j8) + 1) s11 hf hk0 hk1)
        replace hf := am_ifF c13 hf
        refine g_aload_n (pc := 79) 1 rfl dX9_passEnds_79 rfl ?_
        refine g_getI (pc := 80) (in_9 hX.1 (by omega)) fr_X9_30 dX9_passEnds_80 ?_
        refine g_iconst (pc := 83) (v := 1) dX9_passEnds_83 (by decide) ?_
        refine g_iadd (pc := 84) dX9_passEnds_84 ?_
        exact am_sub [1, 2] rfl (q_X9_passEnds_85 hX v1 ((s11.1 9 0 2) + 1) s11 hf hk0 hk1)
      replace hf := am_ifF c6 hf
      have hz := hk1 _ (Option.some.inj hf).symm
      exact am_sub [] rfl hz
    replace hf := am_ifF c3 hf
    have hz := hk1 _ (Option.some.inj hf).symm
    exact am_sub [] rfl hz
  replace hf := am_ifF c1 hf
  have hz := hk1 _ (Option.some.inj hf).symm
  exact am_sub [] rfl hz
set_option maxRecDepth 100000 in
set_option maxHeartbeats 4000000 in
theorem l_X9_passEnds_2 {X : am_X} (hX : am_wC X) {Q : Option Value → am_H → Prop} (σ : am_H) (s : Int32 × am_H) {o : am_H} (hf : am_loop (fun s => f_X9_passEnds_2 s.1 s.2) s = some o) (hk1 : ∀ t, o = t → am_G X gm_X9_passEnds Q 94 [] [] t) : am_G X gm_X9_passEnds Q 2 [(0, .ref (am_ad X 9 0)), (1, .int s.1)] [] s.2 := by
  refine am_loop_ind (P := fun s => am_G X gm_X9_passEnds Q 2 [(0, .ref (am_ad X 9 0)), (1, .int s.1)] [] s.2) (K := fun r => r = o) ?_ hf rfl
  intro s o1 hb hi hr
  exact q_X9_passEnds_2 hX s.1  s.2 hb hi (fun t e => hk1 t (hr _ e).symm)
noncomputable def f_X9_passEnds (σ : am_H) : Option (am_H) :=
  (am_loop (fun s => f_X9_passEnds_2 s.1 s.2) (0, σ)).bind fun w1 =>
  some w1
set_option maxRecDepth 100000 in
set_option maxHeartbeats 4000000 in
theorem q_X9_passEnds {X : am_X} (hX : am_wC X) {Q : Option Value → am_H → Prop} (σ : am_H) {o : am_H} (hf : f_X9_passEnds σ = some o) (hk : Q none o) : am_G X gm_X9_passEnds Q 0 [(0, .ref (am_ad X 9 0))] [] σ := by
  unfold f_X9_passEnds at hf
  refine g_iconst (pc := 0) (v := 0) dX9_passEnds_0 (by decide) ?_
  refine g_istore_n (pc := 1) [(1, .int 0), (0, .ref (am_ad X 9 0))] dX9_passEnds_1 rfl (Nat.le_of_ble_eq_true rfl) rfl ?_
  obtain ⟨w1, hw1, hf⟩ := am_bd hf
  refine am_sub [1, 0] rfl (l_X9_passEnds_2 hX  σ (0, σ) hw1 ?_)
  intro t e
  subst e
  have ho := Option.some.inj hf
  subst ho
  exact g_vreturn (pc := 94) (st := []) rfl dX9_passEnds_94 hk
theorem k_X9_passEnds {X : am_X} (hX : am_wC X) (σ : am_H) {o : am_H} (hf : f_X9_passEnds σ = some o) : am_C X gm_X9_passEnds [.ref (am_ad X 9 0)] σ (am_is none o) :=
  am_ofG rfl (Nat.le_of_ble_eq_true rfl) rfl (q_X9_passEnds hX σ hf ⟨rfl, rfl⟩)
theorem dX9_goTo_0 : decode cX9_goTo 0 = .ok (.aload_n 0, 1) := by decide +kernel
theorem dX9_goTo_1 : decode cX9_goTo 1 = .ok (.iload_n 1, 1) := by decide +kernel
theorem dX9_goTo_2 : decode cX9_goTo 2 = .ok (.ldc 97, 2) := by decide +kernel
theorem dX9_goTo_4 : decode cX9_goTo 4 = .ok (.if_icmp .le 7, 3) := by decide +kernel
theorem dX9_goTo_7 : decode cX9_goTo 7 = .ok (.iconst 1, 1) := by decide +kernel
theorem dX9_goTo_8 : decode cX9_goTo 8 = .ok (.goto 4, 3) := by decide +kernel
theorem dX9_goTo_11 : decode cX9_goTo 11 = .ok (.iconst 0, 1) := by decide +kernel
theorem dX9_goTo_12 : decode cX9_goTo 12 = .ok (.putfield 33, 3) := by decide +kernel
theorem dX9_goTo_15 : decode cX9_goTo 15 = .ok (.aload_n 0, 1) := by decide +kernel
theorem dX9_goTo_16 : decode cX9_goTo 16 = .ok (.aload_n 0, 1) := by decide +kernel
theorem dX9_goTo_17 : decode cX9_goTo 17 = .ok (.getfield 33, 3) := by decide +kernel
theorem dX9_goTo_20 : decode cX9_goTo 20 = .ok (.ifCond .eq 8, 3) := by decide +kernel
theorem dX9_goTo_23 : decode cX9_goTo 23 = .ok (.ldc 97, 2) := by decide +kernel
theorem dX9_goTo_25 : decode cX9_goTo 25 = .ok (.goto 4, 3) := by decide +kernel
theorem dX9_goTo_28 : decode cX9_goTo 28 = .ok (.iload_n 1, 1) := by decide +kernel
theorem dX9_goTo_29 : decode cX9_goTo 29 = .ok (.putfield 26, 3) := by decide +kernel
theorem dX9_goTo_32 : decode cX9_goTo 32 = .ok (.return_, 1) := by decide +kernel
noncomputable def f_X9_goTo_29 (k1 : Int32) (σ : am_H) : Option (am_H) :=
  (some (am_wI σ 9 0 6 k1)).bind fun s1 =>
  some s1
set_option maxRecDepth 100000 in
set_option maxHeartbeats 4000000 in
theorem q_X9_goTo_29 {X : am_X} (hX : am_wC X) {Q : Option Value → am_H → Prop} (k1 : Int32) (σ : am_H) {o : am_H} (hf : f_X9_goTo_29 k1 σ = some o) (hk : Q none o) : am_G X gm_X9_goTo Q 29 [] [.int k1, .ref (am_ad X 9 0)] σ := by
  unfold f_X9_goTo_29 at hf
  obtain ⟨s1, hs1, hf⟩ := am_bd hf
  refine g_setI (pc := 29) (in_9 hX.1 (by omega)) fr_X9_26 dX9_goTo_29 (Option.some.inj hs1) ?_
  have ho := Option.some.inj hf
  subst ho
  exact g_vreturn (pc := 32) (st := []) rfl dX9_goTo_32 hk
noncomputable def f_X9_goTo_12 (v1 : Int32) (k1 : Bool) (σ : am_H) : Option (am_H) :=
  (some (am_wI σ 9 0 3 (am_b k1))).bind fun s1 =>
  if (s1.1 9 0 3) = 0 then
   (f_X9_goTo_29 v1 s1)
  else
  f_X9_goTo_29 99999 s1
set_option maxRecDepth 100000 in
set_option maxHeartbeats 4000000 in
theorem q_X9_goTo_12 {X : am_X} (hX : am_wC X) {Q : Option Value → am_H → Prop} (v1 : Int32) (k1 : Bool) (σ : am_H) {o : am_H} (hf : f_X9_goTo_12 v1 k1 σ = some o) (hk : Q none o) : am_G X gm_X9_goTo Q 12 [(0, .ref (am_ad X 9 0)), (1, .int v1)] [.int (am_b k1), .ref (am_ad X 9 0)] σ := by
  unfold f_X9_goTo_12 at hf
  obtain ⟨s1, hs1, hf⟩ := am_bd hf
  refine g_setZ (x := k1) (pc := 12) (in_9 hX.1 (by omega)) fr_X9_33 dX9_goTo_12 (Option.some.inj hs1) ?_
  refine g_aload_n (pc := 15) 0 rfl dX9_goTo_15 rfl ?_
  refine g_aload_n (pc := 16) 0 rfl dX9_goTo_16 rfl ?_
  refine g_getZ (pc := 17) (in_9 hX.1 (by omega)) fr_X9_33 dX9_goTo_17 ?_
  refine bz_eq (pc := 20) 28 dX9_goTo_20 rfl (fun c2 => ?_) (fun c2 => ?_)
  · replace hf := am_ifT c2 hf
    refine g_iload_n (pc := 28) 1 rfl dX9_goTo_28 rfl ?_
    exact am_sub [] rfl (q_X9_goTo_29 hX v1 s1 hf hk)
  replace hf := am_ifF c2 hf
  refine g_ldc (pc := 23) (v := 99999) (tb_7 (List.mem_of_getElem? (i := 4) (by decide +kernel))) dX9_goTo_23 ?_
  refine g_goto (pc := 25) 29 dX9_goTo_25 rfl ?_
  exact am_sub [] rfl (q_X9_goTo_29 hX 99999 s1 hf hk)
noncomputable def f_X9_goTo (v1 : Int32) (σ : am_H) : Option (am_H) :=
  if 99999 < v1 then
   (f_X9_goTo_12 v1 true σ)
  else
  f_X9_goTo_12 v1 false σ
set_option maxRecDepth 100000 in
set_option maxHeartbeats 4000000 in
theorem q_X9_goTo {X : am_X} (hX : am_wC X) {Q : Option Value → am_H → Prop} (v1 : Int32) (σ : am_H) {o : am_H} (hf : f_X9_goTo v1 σ = some o) (hk : Q none o) : am_G X gm_X9_goTo Q 0 [(0, .ref (am_ad X 9 0)), (1, .int v1)] [] σ := by
  unfold f_X9_goTo at hf
  refine g_aload_n (pc := 0) 0 rfl dX9_goTo_0 rfl ?_
  refine g_iload_n (pc := 1) 1 rfl dX9_goTo_1 rfl ?_
  refine g_ldc (pc := 2) (v := 99999) (tb_7 (List.mem_of_getElem? (i := 4) (by decide +kernel))) dX9_goTo_2 ?_
  refine bi_le (pc := 4) 11 dX9_goTo_4 rfl (fun c1 => ?_) (fun c1 => ?_)
  · replace hf := am_ifT c1 hf
    refine g_iconst (pc := 7) (v := 1) dX9_goTo_7 (by decide) ?_
    refine g_goto (pc := 8) 12 dX9_goTo_8 rfl ?_
    exact q_X9_goTo_12 hX v1 true σ hf hk
  replace hf := am_ifF c1 hf
  refine g_iconst (pc := 11) (v := 0) dX9_goTo_11 (by decide) ?_
  exact q_X9_goTo_12 hX v1 false σ hf hk
theorem k_X9_goTo {X : am_X} (hX : am_wC X) (v1 : Int32) (σ : am_H) {o : am_H} (hf : f_X9_goTo v1 σ = some o) : am_C X gm_X9_goTo [.ref (am_ad X 9 0), .int v1] σ (am_is none o) :=
  am_ofG rfl (Nat.le_of_ble_eq_true rfl) rfl (q_X9_goTo hX v1 σ hf ⟨rfl, rfl⟩)
theorem dX9_canReach_0 : decode cX9_canReach 0 = .ok (.aload_n 0, 1) := by decide +kernel
theorem dX9_canReach_1 : decode cX9_canReach 1 = .ok (.getfield 22, 3) := by decide +kernel
theorem dX9_canReach_4 : decode cX9_canReach 4 = .ok (.invokevirtual 110, 3) := by decide +kernel
theorem dX9_canReach_7 : decode cX9_canReach 7 = .ok (.istore_n 3, 1) := by decide +kernel
theorem dX9_canReach_8 : decode cX9_canReach 8 = .ok (.aload_n 0, 1) := by decide +kernel
theorem dX9_canReach_9 : decode cX9_canReach 9 = .ok (.getfield 22, 3) := by decide +kernel
theorem dX9_canReach_12 : decode cX9_canReach 12 = .ok (.invokevirtual 114, 3) := by decide +kernel
theorem dX9_canReach_15 : decode cX9_canReach 15 = .ok (.istore 4, 2) := by decide +kernel
theorem dX9_canReach_17 : decode cX9_canReach 17 = .ok (.iload_n 1, 1) := by decide +kernel
theorem dX9_canReach_18 : decode cX9_canReach 18 = .ok (.iconst 3, 1) := by decide +kernel
theorem dX9_canReach_19 : decode cX9_canReach 19 = .ok (.if_icmp .ne 19, 3) := by decide +kernel
theorem dX9_canReach_22 : decode cX9_canReach 22 = .ok (.iload 4, 2) := by decide +kernel
theorem dX9_canReach_24 : decode cX9_canReach 24 = .ok (.iload_n 3, 1) := by decide +kernel
theorem dX9_canReach_25 : decode cX9_canReach 25 = .ok (.iadd, 1) := by decide +kernel
theorem dX9_canReach_26 : decode cX9_canReach 26 = .ok (.iload_n 2, 1) := by decide +kernel
theorem dX9_canReach_27 : decode cX9_canReach 27 = .ok (.if_icmp .le 7, 3) := by decide +kernel
theorem dX9_canReach_30 : decode cX9_canReach 30 = .ok (.iconst 1, 1) := by decide +kernel
theorem dX9_canReach_31 : decode cX9_canReach 31 = .ok (.goto 20, 3) := by decide +kernel
theorem dX9_canReach_34 : decode cX9_canReach 34 = .ok (.iconst 0, 1) := by decide +kernel
theorem dX9_canReach_35 : decode cX9_canReach 35 = .ok (.goto 16, 3) := by decide +kernel
theorem dX9_canReach_38 : decode cX9_canReach 38 = .ok (.iload 4, 2) := by decide +kernel
theorem dX9_canReach_40 : decode cX9_canReach 40 = .ok (.iload_n 3, 1) := by decide +kernel
theorem dX9_canReach_41 : decode cX9_canReach 41 = .ok (.isub, 1) := by decide +kernel
theorem dX9_canReach_42 : decode cX9_canReach 42 = .ok (.iload_n 2, 1) := by decide +kernel
theorem dX9_canReach_43 : decode cX9_canReach 43 = .ok (.if_icmp .ge 7, 3) := by decide +kernel
theorem dX9_canReach_46 : decode cX9_canReach 46 = .ok (.iconst 1, 1) := by decide +kernel
theorem dX9_canReach_47 : decode cX9_canReach 47 = .ok (.goto 4, 3) := by decide +kernel
theorem dX9_canReach_50 : decode cX9_canReach 50 = .ok (.iconst 0, 1) := by decide +kernel
theorem dX9_canReach_51 : decode cX9_canReach 51 = .ok (.ireturn, 1) := by decide +kernel
noncomputable def f_X9_canReach (v1 : Int32) (v2 : Int32) (σ : am_H) : Option (Bool) :=
  (am_rr 3 (σ.2.2 9 0 1)).bind fun a1 =>
  (f_X3_mostSwing a1 σ).bind fun p2 =>
  (am_rr 3 (σ.2.2 9 0 1)).bind fun a3 =>
  (f_X3_zeroHeight a3 σ).bind fun p4 =>
  if v1 = 3 then
   (if v2 < (p4 + p2) then
    (some true)
   else
   some false)
  else
  if (p4 - p2) < v2 then
   (some true)
  else
  some false
set_option maxRecDepth 100000 in
set_option maxHeartbeats 4000000 in
theorem q_X9_canReach {X : am_X} (hX : am_wC X) {Q : Option Value → am_H → Prop} (v1 : Int32) (v2 : Int32) (σ : am_H) {o : Bool} (hf : f_X9_canReach v1 v2 σ = some o) (hk : Q (some (.int (am_b o))) σ) : am_G X gm_X9_canReach Q 0 [(0, .ref (am_ad X 9 0)), (1, .int v1), (2, .int v2)] [] σ := by
  unfold f_X9_canReach at hf
  refine g_aload_n (pc := 0) 0 rfl dX9_canReach_0 rfl ?_
  obtain ⟨a1, ha1, hf⟩ := am_bd hf
  obtain ⟨ha1, ga1⟩ := am_rr_in ha1
  refine g_getM (pc := 1) (in_9 hX.1 (by omega)) fr_X9_22 ha1 dX9_canReach_1 ?_
  obtain ⟨p2, hp2, hf⟩ := am_bd hf
  refine g_cV (pc := 4) (As := []) (st := []) (st1 := [.int p2]) (in_3 hX.1 (by omega)) kk_3 mV_X3_mostSwing ln_X9_110 rfl (Nat.le_of_ble_eq_true rfl) (Nat.le_of_ble_eq_true rfl) (k_X3_mostSwing hX a1 (by omega) σ hp2) dX9_canReach_4 rfl rfl ?_
  refine g_istore_n (pc := 7) [(3, .int p2), (0, .ref (am_ad X 9 0)), (1, .int v1), (2, .int v2)] dX9_canReach_7 rfl (Nat.le_of_ble_eq_true rfl) rfl ?_
  refine g_aload_n (pc := 8) 1 rfl dX9_canReach_8 rfl ?_
  obtain ⟨a3, ha3, hf⟩ := am_bd hf
  obtain ⟨ha3, ga3⟩ := am_rr_in ha3
  refine g_getM (pc := 9) (in_9 hX.1 (by omega)) fr_X9_22 ha3 dX9_canReach_9 ?_
  obtain ⟨p4, hp4, hf⟩ := am_bd hf
  refine g_cV (pc := 12) (As := []) (st := []) (st1 := [.int p4]) (in_3 hX.1 (by omega)) kk_3 mV_X3_zeroHeight ln_X9_114 rfl (Nat.le_of_ble_eq_true rfl) (Nat.le_of_ble_eq_true rfl) (k_X3_zeroHeight hX a3 (by omega) σ hp4) dX9_canReach_12 rfl rfl ?_
  refine g_istore (pc := 15) [(4, .int p4), (3, .int p2), (0, .ref (am_ad X 9 0)), (1, .int v1), (2, .int v2)] dX9_canReach_15 (Nat.le_of_ble_eq_true rfl) rfl ?_
  refine g_iload_n (pc := 17) 3 rfl dX9_canReach_17 rfl ?_
  refine g_iconst (pc := 18) (v := 3) dX9_canReach_18 (by decide) ?_
  refine bi_ne (pc := 19) 38 dX9_canReach_19 rfl (fun c5 => ?_) (fun c5 => ?_)
  · replace hf := am_ifT c5 hf
    refine g_iload (pc := 22) 0 rfl dX9_canReach_22 ?_
    refine g_iload_n (pc := 24) 1 rfl dX9_canReach_24 rfl ?_
    refine g_iadd (pc := 25) dX9_canReach_25 ?_
    refine g_iload_n (pc := 26) 4 rfl dX9_canReach_26 rfl ?_
    refine bi_le (pc := 27) 34 dX9_canReach_27 rfl (fun c6 => ?_) (fun c6 => ?_)
    · replace hf := am_ifT c6 hf
      refine g_iconst (pc := 30) (v := 1) dX9_canReach_30 (by decide) ?_
      refine g_goto (pc := 31) 51 dX9_canReach_31 rfl ?_
      have ho := Option.some.inj hf
      subst ho
      exact g_zreturn (pc := 51) (st := []) (x := true) rfl dX9_canReach_51 hk
    replace hf := am_ifF c6 hf
    refine g_iconst (pc := 34) (v := 0) dX9_canReach_34 (by decide) ?_
    refine g_goto (pc := 35) 51 dX9_canReach_35 rfl ?_
    have ho := Option.some.inj hf
    subst ho
    exact g_zreturn (pc := 51) (st := []) (x := false) rfl dX9_canReach_51 hk
  replace hf := am_ifF c5 hf
  refine g_iload (pc := 38) 0 rfl dX9_canReach_38 ?_
  refine g_iload_n (pc := 40) 1 rfl dX9_canReach_40 rfl ?_
  refine g_isub (pc := 41) dX9_canReach_41 ?_
  refine g_iload_n (pc := 42) 4 rfl dX9_canReach_42 rfl ?_
  refine bi_ge (pc := 43) 50 dX9_canReach_43 rfl (fun c7 => ?_) (fun c7 => ?_)
  · replace hf := am_ifT c7 hf
    refine g_iconst (pc := 46) (v := 1) dX9_canReach_46 (by decide) ?_
    refine g_goto (pc := 47) 51 dX9_canReach_47 rfl ?_
    have ho := Option.some.inj hf
    subst ho
    exact g_zreturn (pc := 51) (st := []) (x := true) rfl dX9_canReach_51 hk
  replace hf := am_ifF c7 hf
  refine g_iconst (pc := 50) (v := 0) dX9_canReach_50 (by decide) ?_
  have ho := Option.some.inj hf
  subst ho
  exact g_zreturn (pc := 51) (st := []) (x := false) rfl dX9_canReach_51 hk
theorem k_X9_canReach {X : am_X} (hX : am_wC X) (v1 : Int32) (v2 : Int32) (σ : am_H) {o : Bool} (hf : f_X9_canReach v1 v2 σ = some o) : am_C X gm_X9_canReach [.ref (am_ad X 9 0), .int v1, .int v2] σ (am_is (some (.int (am_b o))) σ) :=
  am_ofG rfl (Nat.le_of_ble_eq_true rfl) rfl (q_X9_canReach hX v1 v2 σ hf ⟨rfl, rfl⟩)
theorem dX9_nextLevel_0 : decode cX9_nextLevel 0 = .ok (.aload_n 0, 1) := by decide +kernel
theorem dX9_nextLevel_1 : decode cX9_nextLevel 1 = .ok (.getfield 26, 3) := by decide +kernel
theorem dX9_nextLevel_4 : decode cX9_nextLevel 4 = .ok (.iconst 1, 1) := by decide +kernel
theorem dX9_nextLevel_5 : decode cX9_nextLevel 5 = .ok (.iadd, 1) := by decide +kernel
theorem dX9_nextLevel_6 : decode cX9_nextLevel 6 = .ok (.istore_n 3, 1) := by decide +kernel
theorem dX9_nextLevel_7 : decode cX9_nextLevel 7 = .ok (.iload_n 3, 1) := by decide +kernel
theorem dX9_nextLevel_8 : decode cX9_nextLevel 8 = .ok (.ldc 97, 2) := by decide +kernel
theorem dX9_nextLevel_10 : decode cX9_nextLevel 10 = .ok (.if_icmp .gt 43, 3) := by decide +kernel
theorem dX9_nextLevel_13 : decode cX9_nextLevel 13 = .ok (.aload_n 0, 1) := by decide +kernel
theorem dX9_nextLevel_14 : decode cX9_nextLevel 14 = .ok (.getfield 22, 3) := by decide +kernel
theorem dX9_nextLevel_17 : decode cX9_nextLevel 17 = .ok (.iload_n 3, 1) := by decide +kernel
theorem dX9_nextLevel_18 : decode cX9_nextLevel 18 = .ok (.i2l, 1) := by decide +kernel
theorem dX9_nextLevel_19 : decode cX9_nextLevel 19 = .ok (.iconst 1, 1) := by decide +kernel
theorem dX9_nextLevel_20 : decode cX9_nextLevel 20 = .ok (.invokevirtual 87, 3) := by decide +kernel
theorem dX9_nextLevel_23 : decode cX9_nextLevel 23 = .ok (.istore 4, 2) := by decide +kernel
theorem dX9_nextLevel_25 : decode cX9_nextLevel 25 = .ok (.iload_n 1, 1) := by decide +kernel
theorem dX9_nextLevel_26 : decode cX9_nextLevel 26 = .ok (.iconst 3, 1) := by decide +kernel
theorem dX9_nextLevel_27 : decode cX9_nextLevel 27 = .ok (.if_icmp .ne 12, 3) := by decide +kernel
theorem dX9_nextLevel_30 : decode cX9_nextLevel 30 = .ok (.iload 4, 2) := by decide +kernel
theorem dX9_nextLevel_32 : decode cX9_nextLevel 32 = .ok (.iload_n 2, 1) := by decide +kernel
theorem dX9_nextLevel_33 : decode cX9_nextLevel 33 = .ok (.if_icmp .le 14, 3) := by decide +kernel
theorem dX9_nextLevel_36 : decode cX9_nextLevel 36 = .ok (.goto 9, 3) := by decide +kernel
theorem dX9_nextLevel_39 : decode cX9_nextLevel 39 = .ok (.iload 4, 2) := by decide +kernel
theorem dX9_nextLevel_41 : decode cX9_nextLevel 41 = .ok (.iload_n 2, 1) := by decide +kernel
theorem dX9_nextLevel_42 : decode cX9_nextLevel 42 = .ok (.if_icmp .ge 5, 3) := by decide +kernel
theorem dX9_nextLevel_45 : decode cX9_nextLevel 45 = .ok (.iload_n 3, 1) := by decide +kernel
theorem dX9_nextLevel_46 : decode cX9_nextLevel 46 = .ok (.ireturn, 1) := by decide +kernel
theorem dX9_nextLevel_47 : decode cX9_nextLevel 47 = .ok (.iinc 3 1, 3) := by decide +kernel
theorem dX9_nextLevel_50 : decode cX9_nextLevel 50 = .ok (.goto (-43), 3) := by decide +kernel
theorem dX9_nextLevel_53 : decode cX9_nextLevel 53 = .ok (.iconst (-1), 1) := by decide +kernel
theorem dX9_nextLevel_54 : decode cX9_nextLevel 54 = .ok (.ireturn, 1) := by decide +kernel
noncomputable def f_X9_nextLevel_7 (v1 : Int32) (v2 : Int32) (v3 : Int32) (σ : am_H) : Option ((Int32) ⊕ ((Int32) ⊕ ((Int32) ⊕ (Unit)))) :=
  if 99999 < v3 then
   (some (.inr (.inr (.inr ()))))
  else
  (am_rr 3 (σ.2.2 9 0 1)).bind fun a2 =>
  (f_X3_heightAt a2 (Int32.toInt64 v3) true σ).bind fun p3 =>
  if v1 = 3 then
   (if v2 < p3 then
    (some (.inr (.inl v3)))
   else
   some (.inl (v3 + 1)))
  else
  if p3 < v2 then
   (some (.inr (.inr (.inl v3))))
  else
  some (.inl (v3 + 1))
set_option maxRecDepth 100000 in
set_option maxHeartbeats 4000000 in
theorem q_X9_nextLevel_7 {X : am_X} (hX : am_wC X) {Q : Option Value → am_H → Prop} (v1 : Int32) (v2 : Int32) (v3 : Int32) (σ : am_H) {o : (Int32) ⊕ ((Int32) ⊕ ((Int32) ⊕ (Unit)))} (hf : f_X9_nextLevel_7 v1 v2 v3 σ = some o) (hk0 : ∀ s, o = .inl s → am_G X gm_X9_nextLevel Q 7 [(0, .ref (am_ad X 9 0)), (1, .int v1), (2, .int v2), (3, .int s)] [] σ) (hk1 : ∀ t, o = .inr (.inl t) → am_G X gm_X9_nextLevel Q 36 [(3, .int t)] [] σ) (hk2 : ∀ t, o = .inr (.inr (.inl t)) → am_G X gm_X9_nextLevel Q 45 [(3, .int t)] [] σ) (hk3 : ∀ t, o = .inr (.inr (.inr t)) → am_G X gm_X9_nextLevel Q 53 [] [] σ) : am_G X gm_X9_nextLevel Q 7 [(0, .ref (am_ad X 9 0)), (1, .int v1), (2, .int v2), (3, .int v3)] [] σ := by
  unfold f_X9_nextLevel_7 at hf
  refine g_iload_n (pc := 7) 3 rfl dX9_nextLevel_7 rfl ?_
  refine g_ldc (pc := 8) (v := 99999) (tb_7 (List.mem_of_getElem? (i := 4) (by decide +kernel))) dX9_nextLevel_8 ?_
  refine bi_gt (pc := 10) 53 dX9_nextLevel_10 rfl (fun c1 => ?_) (fun c1 => ?_)
  · replace hf := am_ifT c1 hf
    have hz := hk3 _ (Option.some.inj hf).symm
    exact am_sub [] rfl hz
  replace hf := am_ifF c1 hf
  refine g_aload_n (pc := 13) 0 rfl dX9_nextLevel_13 rfl ?_
  obtain ⟨a2, ha2, hf⟩ := am_bd hf
  obtain ⟨ha2, ga2⟩ := am_rr_in ha2
  refine g_getM (pc := 14) (in_9 hX.1 (by omega)) fr_X9_22 ha2 dX9_nextLevel_14 ?_
  refine g_iload_n (pc := 17) 3 rfl dX9_nextLevel_17 rfl ?_
  refine g_i2l (pc := 18) dX9_nextLevel_18 ?_
  refine g_iconst (pc := 19) (v := 1) dX9_nextLevel_19 (by decide) ?_
  obtain ⟨p3, hp3, hf⟩ := am_bd hf
  refine g_cV (pc := 20) (As := [.long (Int32.toInt64 v3), .int (am_b true)]) (st := []) (st1 := [.int p3]) (in_3 hX.1 (by omega)) kk_3 mV_X3_heightAt ln_X9_87 rfl (Nat.le_of_ble_eq_true rfl) (Nat.le_of_ble_eq_true rfl) (k_X3_heightAt hX a2 (Int32.toInt64 v3) true (by omega) σ hp3) dX9_nextLevel_20 rfl rfl ?_
  refine g_istore (pc := 23) [(4, .int p3), (0, .ref (am_ad X 9 0)), (1, .int v1), (2, .int v2), (3, .int v3)] dX9_nextLevel_23 (Nat.le_of_ble_eq_true rfl) rfl ?_
  refine g_iload_n (pc := 25) 2 rfl dX9_nextLevel_25 rfl ?_
  refine g_iconst (pc := 26) (v := 3) dX9_nextLevel_26 (by decide) ?_
  refine bi_ne (pc := 27) 39 dX9_nextLevel_27 rfl (fun c4 => ?_) (fun c4 => ?_)
  · replace hf := am_ifT c4 hf
    refine g_iload (pc := 30) 0 rfl dX9_nextLevel_30 ?_
    refine g_iload_n (pc := 32) 3 rfl dX9_nextLevel_32 rfl ?_
    refine bi_le (pc := 33) 47 dX9_nextLevel_33 rfl (fun c5 => ?_) (fun c5 => ?_)
    · replace hf := am_ifT c5 hf
      have hz := hk1 _ (Option.some.inj hf).symm
      exact am_sub [4] rfl hz
    replace hf := am_ifF c5 hf
    refine g_iinc (pc := 47) (v := (v3 + 1)) 4 [(3, .int (v3 + 1)), (4, .int p3), (0, .ref (am_ad X 9 0)), (1, .int v1), (2, .int v2)] dX9_nextLevel_47 rfl rfl (Nat.le_of_ble_eq_true rfl) rfl ?_
    refine g_goto (pc := 50) 7 dX9_nextLevel_50 rfl ?_
    have hz := hk0 _ (Option.some.inj hf).symm
    exact am_sub [2, 3, 4, 0] rfl hz
  replace hf := am_ifF c4 hf
  refine g_iload (pc := 39) 0 rfl dX9_nextLevel_39 ?_
  refine g_iload_n (pc := 41) 3 rfl dX9_nextLevel_41 rfl ?_
  refine bi_ge (pc := 42) 47 dX9_nextLevel_42 rfl (fun c6 => ?_) (fun c6 => ?_)
  · replace hf := am_ifT c6 hf
    have hz := hk2 _ (Option.some.inj hf).symm
    exact am_sub [4] rfl hz
  replace hf := am_ifF c6 hf
  refine g_iinc (pc := 47) (v := (v3 + 1)) 4 [(3, .int (v3 + 1)), (4, .int p3), (0, .ref (am_ad X 9 0)), (1, .int v1), (2, .int v2)] dX9_nextLevel_47 rfl rfl (Nat.le_of_ble_eq_true rfl) rfl ?_
  refine g_goto (pc := 50) 7 dX9_nextLevel_50 rfl ?_
  have hz := hk0 _ (Option.some.inj hf).symm
  exact am_sub [2, 3, 4, 0] rfl hz
set_option maxRecDepth 100000 in
set_option maxHeartbeats 4000000 in
theorem l_X9_nextLevel_7 {X : am_X} (hX : am_wC X) {Q : Option Value → am_H → Prop} (v1 : Int32) (v2 : Int32) (σ : am_H) (s : Int32) {o : (Int32) ⊕ ((Int32) ⊕ (Unit))} (hf : am_loop (fun s => f_X9_nextLevel_7 v1 v2 s σ) s = some o) (hk1 : ∀ t, o = (.inl t) → am_G X gm_X9_nextLevel Q 36 [(3, .int t)] [] σ) (hk2 : ∀ t, o = (.inr (.inl t)) → am_G X gm_X9_nextLevel Q 45 [(3, .int t)] [] σ) (hk3 : ∀ t, o = (.inr (.inr t)) → am_G X gm_X9_nextLevel Q 53 [] [] σ) : am_G X gm_X9_nextLevel Q 7 [(0, .ref (am_ad X 9 0)), (1, .int v1), (2, .int v2), (3, .int s)] [] σ := by
  refine am_loop_ind (P := fun s => am_G X gm_X9_nextLevel Q 7 [(0, .ref (am_ad X 9 0)), (1, .int v1), (2, .int v2), (3, .int s)] [] σ) (K := fun r => r = o) ?_ hf rfl
  intro s o1 hb hi hr
  exact q_X9_nextLevel_7 hX v1 v2 s  σ hb hi (fun t e => hk1 t (hr _ e).symm) (fun t e => hk2 t (hr _ e).symm) (fun t e => hk3 t (hr _ e).symm)
noncomputable def f_X9_nextLevel (v1 : Int32) (v2 : Int32) (σ : am_H) : Option (Int32) :=
  (am_loop (fun s => f_X9_nextLevel_7 v1 v2 s σ) ((σ.1 9 0 6) + 1)).bind fun w1 =>
  Sum.elim (fun t1_0 =>
   some t1_0) (fun u1_0 =>
   Sum.elim (fun t1_1 =>
    some t1_1) (fun u1_1 =>
    some (-1)) u1_0) w1
set_option maxRecDepth 100000 in
set_option maxHeartbeats 4000000 in
theorem q_X9_nextLevel {X : am_X} (hX : am_wC X) {Q : Option Value → am_H → Prop} (v1 : Int32) (v2 : Int32) (σ : am_H) {o : Int32} (hf : f_X9_nextLevel v1 v2 σ = some o) (hk : Q (some (.int o)) σ) : am_G X gm_X9_nextLevel Q 0 [(0, .ref (am_ad X 9 0)), (1, .int v1), (2, .int v2)] [] σ := by
  unfold f_X9_nextLevel at hf
  refine g_aload_n (pc := 0) 0 rfl dX9_nextLevel_0 rfl ?_
  refine g_getI (pc := 1) (in_9 hX.1 (by omega)) fr_X9_26 dX9_nextLevel_1 ?_
  refine g_iconst (pc := 4) (v := 1) dX9_nextLevel_4 (by decide) ?_
  refine g_iadd (pc := 5) dX9_nextLevel_5 ?_
  refine g_istore_n (pc := 6) [(3, .int ((σ.1 9 0 6) + 1)), (0, .ref (am_ad X 9 0)), (1, .int v1), (2, .int v2)] dX9_nextLevel_6 rfl (Nat.le_of_ble_eq_true rfl) rfl ?_
  obtain ⟨w1, hw1, hf⟩ := am_bd hf
  refine am_sub [1, 2, 3, 0] rfl (l_X9_nextLevel_7 hX v1 v2  σ ((σ.1 9 0 6) + 1) hw1 ?_ ?_ ?_)
  · intro t1_0 e
    subst e
    replace hf := am_elL hf
    refine g_goto (pc := 36) 45 dX9_nextLevel_36 rfl ?_
    refine g_iload_n (pc := 45) 0 rfl dX9_nextLevel_45 rfl ?_
    have ho := Option.some.inj hf
    subst ho
    exact g_ireturn (pc := 46) (st := []) rfl dX9_nextLevel_46 hk
  · intro t1_1 e
    subst e
    replace hf := am_elR hf
    replace hf := am_elL hf
    refine g_iload_n (pc := 45) 0 rfl dX9_nextLevel_45 rfl ?_
    have ho := Option.some.inj hf
    subst ho
    exact g_ireturn (pc := 46) (st := []) rfl dX9_nextLevel_46 hk
  · intro u1_1 e
    subst e
    replace hf := am_elR hf
    replace hf := am_elR hf
    refine g_iconst (pc := 53) (v := (-1)) dX9_nextLevel_53 (by decide) ?_
    have ho := Option.some.inj hf
    subst ho
    exact g_ireturn (pc := 54) (st := []) rfl dX9_nextLevel_54 hk
theorem k_X9_nextLevel {X : am_X} (hX : am_wC X) (v1 : Int32) (v2 : Int32) (σ : am_H) {o : Int32} (hf : f_X9_nextLevel v1 v2 σ = some o) : am_C X gm_X9_nextLevel [.ref (am_ad X 9 0), .int v1, .int v2] σ (am_is (some (.int o)) σ) :=
  am_ofG rfl (Nat.le_of_ble_eq_true rfl) rfl (q_X9_nextLevel hX v1 v2 σ hf ⟨rfl, rfl⟩)
theorem dX9_goUntil_0 : decode cX9_goUntil 0 = .ok (.iconst (-1), 1) := by decide +kernel
theorem dX9_goUntil_1 : decode cX9_goUntil 1 = .ok (.istore_n 3, 1) := by decide +kernel
theorem dX9_goUntil_2 : decode cX9_goUntil 2 = .ok (.iload_n 1, 1) := by decide +kernel
theorem dX9_goUntil_3 : decode cX9_goUntil 3 = .ok (.iconst 1, 1) := by decide +kernel
theorem dX9_goUntil_4 : decode cX9_goUntil 4 = .ok (.if_icmp .eq 8, 3) := by decide +kernel
theorem dX9_goUntil_7 : decode cX9_goUntil 7 = .ok (.iload_n 1, 1) := by decide +kernel
theorem dX9_goUntil_8 : decode cX9_goUntil 8 = .ok (.iconst 2, 1) := by decide +kernel
theorem dX9_goUntil_9 : decode cX9_goUntil 9 = .ok (.if_icmp .ne 33, 3) := by decide +kernel
theorem dX9_goUntil_12 : decode cX9_goUntil 12 = .ok (.aload_n 0, 1) := by decide +kernel
theorem dX9_goUntil_13 : decode cX9_goUntil 13 = .ok (.getfield 22, 3) := by decide +kernel
theorem dX9_goUntil_16 : decode cX9_goUntil 16 = .ok (.aload_n 0, 1) := by decide +kernel
theorem dX9_goUntil_17 : decode cX9_goUntil 17 = .ok (.getfield 26, 3) := by decide +kernel
theorem dX9_goUntil_20 : decode cX9_goUntil 20 = .ok (.iconst 1, 1) := by decide +kernel
theorem dX9_goUntil_21 : decode cX9_goUntil 21 = .ok (.iadd, 1) := by decide +kernel
theorem dX9_goUntil_22 : decode cX9_goUntil 22 = .ok (.ldc 97, 2) := by decide +kernel
theorem dX9_goUntil_24 : decode cX9_goUntil 24 = .ok (.iload_n 1, 1) := by decide +kernel
theorem dX9_goUntil_25 : decode cX9_goUntil 25 = .ok (.iconst 1, 1) := by decide +kernel
theorem dX9_goUntil_26 : decode cX9_goUntil 26 = .ok (.if_icmp .ne 7, 3) := by decide +kernel
theorem dX9_goUntil_29 : decode cX9_goUntil 29 = .ok (.iconst 1, 1) := by decide +kernel
theorem dX9_goUntil_30 : decode cX9_goUntil 30 = .ok (.goto 4, 3) := by decide +kernel
theorem dX9_goUntil_33 : decode cX9_goUntil 33 = .ok (.iconst 0, 1) := by decide +kernel
theorem dX9_goUntil_34 : decode cX9_goUntil 34 = .ok (.iconst 1, 1) := by decide +kernel
theorem dX9_goUntil_35 : decode cX9_goUntil 35 = .ok (.invokevirtual 98, 3) := by decide +kernel
theorem dX9_goUntil_38 : decode cX9_goUntil 38 = .ok (.istore_n 3, 1) := by decide +kernel
theorem dX9_goUntil_39 : decode cX9_goUntil 39 = .ok (.goto 19, 3) := by decide +kernel
theorem dX9_goUntil_42 : decode cX9_goUntil 42 = .ok (.aload_n 0, 1) := by decide +kernel
theorem dX9_goUntil_43 : decode cX9_goUntil 43 = .ok (.iload_n 1, 1) := by decide +kernel
theorem dX9_goUntil_44 : decode cX9_goUntil 44 = .ok (.iload_n 2, 1) := by decide +kernel
theorem dX9_goUntil_45 : decode cX9_goUntil 45 = .ok (.invokevirtual 102, 3) := by decide +kernel
theorem dX9_goUntil_48 : decode cX9_goUntil 48 = .ok (.ifCond .eq 10, 3) := by decide +kernel
theorem dX9_goUntil_51 : decode cX9_goUntil 51 = .ok (.aload_n 0, 1) := by decide +kernel
theorem dX9_goUntil_52 : decode cX9_goUntil 52 = .ok (.iload_n 1, 1) := by decide +kernel
theorem dX9_goUntil_53 : decode cX9_goUntil 53 = .ok (.iload_n 2, 1) := by decide +kernel
theorem dX9_goUntil_54 : decode cX9_goUntil 54 = .ok (.invokevirtual 105, 3) := by decide +kernel
theorem dX9_goUntil_57 : decode cX9_goUntil 57 = .ok (.istore_n 3, 1) := by decide +kernel
theorem dX9_goUntil_58 : decode cX9_goUntil 58 = .ok (.aload_n 0, 1) := by decide +kernel
theorem dX9_goUntil_59 : decode cX9_goUntil 59 = .ok (.iload_n 3, 1) := by decide +kernel
theorem dX9_goUntil_60 : decode cX9_goUntil 60 = .ok (.iconst (-1), 1) := by decide +kernel
theorem dX9_goUntil_61 : decode cX9_goUntil 61 = .ok (.if_icmp .ne 8, 3) := by decide +kernel
theorem dX9_goUntil_64 : decode cX9_goUntil 64 = .ok (.ldc 109, 2) := by decide +kernel
theorem dX9_goUntil_66 : decode cX9_goUntil 66 = .ok (.goto 4, 3) := by decide +kernel
theorem dX9_goUntil_69 : decode cX9_goUntil 69 = .ok (.iload_n 3, 1) := by decide +kernel
theorem dX9_goUntil_70 : decode cX9_goUntil 70 = .ok (.invokevirtual 73, 3) := by decide +kernel
theorem dX9_goUntil_73 : decode cX9_goUntil 73 = .ok (.return_, 1) := by decide +kernel
noncomputable def f_X9_goUntil_70 (k1 : Int32) (σ : am_H) : Option (am_H) :=
  (f_X9_goTo k1 σ).bind fun p1 =>
  some p1
set_option maxRecDepth 100000 in
set_option maxHeartbeats 4000000 in
theorem q_X9_goUntil_70 {X : am_X} (hX : am_wC X) {Q : Option Value → am_H → Prop} (k1 : Int32) (σ : am_H) {o : am_H} (hf : f_X9_goUntil_70 k1 σ = some o) (hk : Q none o) : am_G X gm_X9_goUntil Q 70 [] [.int k1, .ref (am_ad X 9 0)] σ := by
  unfold f_X9_goUntil_70 at hf
  obtain ⟨p1, hp1, hf⟩ := am_bd hf
  refine g_cV (pc := 70) (As := [.int k1]) (st := []) (st1 := []) (in_9 hX.1 (by omega)) kk_9 mV_X9_goTo ln_X9_73 rfl (Nat.le_of_ble_eq_true rfl) (Nat.le_of_ble_eq_true rfl) (k_X9_goTo hX k1 σ hp1) dX9_goUntil_70 rfl rfl ?_
  have ho := Option.some.inj hf
  subst ho
  exact g_vreturn (pc := 73) (st := []) rfl dX9_goUntil_73 hk
noncomputable def f_X9_goUntil_58 (v3 : Int32) (σ : am_H) : Option (am_H) :=
  if v3 = (-1) then
   (f_X9_goUntil_70 100000 σ)
  else
  f_X9_goUntil_70 v3 σ
set_option maxRecDepth 100000 in
set_option maxHeartbeats 4000000 in
theorem q_X9_goUntil_58 {X : am_X} (hX : am_wC X) {Q : Option Value → am_H → Prop} (v3 : Int32) (σ : am_H) {o : am_H} (hf : f_X9_goUntil_58 v3 σ = some o) (hk : Q none o) : am_G X gm_X9_goUntil Q 58 [(0, .ref (am_ad X 9 0)), (3, .int v3)] [] σ := by
  unfold f_X9_goUntil_58 at hf
  refine g_aload_n (pc := 58) 0 rfl dX9_goUntil_58 rfl ?_
  refine g_iload_n (pc := 59) 1 rfl dX9_goUntil_59 rfl ?_
  refine g_iconst (pc := 60) (v := (-1)) dX9_goUntil_60 (by decide) ?_
  refine bi_ne (pc := 61) 69 dX9_goUntil_61 rfl (fun c1 => ?_) (fun c1 => ?_)
  · replace hf := am_ifT c1 hf
    refine g_ldc (pc := 64) (v := 100000) (tb_7 (List.mem_of_getElem? (i := 21) (by decide +kernel))) dX9_goUntil_64 ?_
    refine g_goto (pc := 66) 70 dX9_goUntil_66 rfl ?_
    exact am_sub [] rfl (q_X9_goUntil_70 hX 100000 σ hf hk)
  replace hf := am_ifF c1 hf
  refine g_iload_n (pc := 69) 1 rfl dX9_goUntil_69 rfl ?_
  exact am_sub [] rfl (q_X9_goUntil_70 hX v3 σ hf hk)
noncomputable def f_X9_goUntil_34 (k0 : Nat) (k1 : Int32) (k3 : Bool) (σ : am_H) : Option (am_H) :=
  (f_X3_nextWater k0 k1 99999 k3 true σ).bind fun p1 =>
  f_X9_goUntil_58 p1 σ
set_option maxRecDepth 100000 in
set_option maxHeartbeats 4000000 in
theorem q_X9_goUntil_34 {X : am_X} (hX : am_wC X) {Q : Option Value → am_H → Prop} (k0 : Nat) (k1 : Int32) (k3 : Bool) (hk0 : k0 < 3) (σ : am_H) {o : am_H} (hf : f_X9_goUntil_34 k0 k1 k3 σ = some o) (hk : Q none o) : am_G X gm_X9_goUntil Q 34 [(0, .ref (am_ad X 9 0))] [.int (am_b k3), .int 99999, .int k1, .ref (am_ad X 3 k0)] σ := by
  unfold f_X9_goUntil_34 at hf
  refine g_iconst (pc := 34) (v := 1) dX9_goUntil_34 (by decide) ?_
  obtain ⟨p1, hp1, hf⟩ := am_bd hf
  refine g_cV (pc := 35) (As := [.int k1, .int 99999, .int (am_b k3), .int (am_b true)]) (st := []) (st1 := [.int p1]) (in_3 hX.1 (by omega)) kk_3 mV_X3_nextWater ln_X9_98 rfl (Nat.le_of_ble_eq_true rfl) (Nat.le_of_ble_eq_true rfl) (k_X3_nextWater hX k0 k1 99999 k3 true (by omega) σ hp1) dX9_goUntil_35 rfl rfl ?_
  refine g_istore_n (pc := 38) [(3, .int p1), (0, .ref (am_ad X 9 0))] dX9_goUntil_38 rfl (Nat.le_of_ble_eq_true rfl) rfl ?_
  refine g_goto (pc := 39) 58 dX9_goUntil_39 rfl ?_
  exact am_sub [1, 0] rfl (q_X9_goUntil_58 hX p1 σ hf hk)
noncomputable def f_X9_goUntil_12 (v1 : Int32) (σ : am_H) : Option (am_H) :=
  (am_rr 3 (σ.2.2 9 0 1)).bind fun a1 =>
  if v1 = 1 then
   (f_X9_goUntil_34 a1 ((σ.1 9 0 6) + 1) true σ)
  else
  f_X9_goUntil_34 a1 ((σ.1 9 0 6) + 1) false σ
set_option maxRecDepth 100000 in
set_option maxHeartbeats 4000000 in
theorem q_X9_goUntil_12 {X : am_X} (hX : am_wC X) {Q : Option Value → am_H → Prop} (v1 : Int32) (σ : am_H) {o : am_H} (hf : f_X9_goUntil_12 v1 σ = some o) (hk : Q none o) : am_G X gm_X9_goUntil Q 12 [(0, .ref (am_ad X 9 0)), (1, .int v1)] [] σ := by
  unfold f_X9_goUntil_12 at hf
  refine g_aload_n (pc := 12) 0 rfl dX9_goUntil_12 rfl ?_
  obtain ⟨a1, ha1, hf⟩ := am_bd hf
  obtain ⟨ha1, ga1⟩ := am_rr_in ha1
  refine g_getM (pc := 13) (in_9 hX.1 (by omega)) fr_X9_22 ha1 dX9_goUntil_13 ?_
  refine g_aload_n (pc := 16) 0 rfl dX9_goUntil_16 rfl ?_
  refine g_getI (pc := 17) (in_9 hX.1 (by omega)) fr_X9_26 dX9_goUntil_17 ?_
  refine g_iconst (pc := 20) (v := 1) dX9_goUntil_20 (by decide) ?_
  refine g_iadd (pc := 21) dX9_goUntil_21 ?_
  refine g_ldc (pc := 22) (v := 99999) (tb_7 (List.mem_of_getElem? (i := 4) (by decide +kernel))) dX9_goUntil_22 ?_
  refine g_iload_n (pc := 24) 1 rfl dX9_goUntil_24 rfl ?_
  refine g_iconst (pc := 25) (v := 1) dX9_goUntil_25 (by decide) ?_
  refine bi_ne (pc := 26) 33 dX9_goUntil_26 rfl (fun c2 => ?_) (fun c2 => ?_)
  · replace hf := am_ifT c2 hf
    refine g_iconst (pc := 29) (v := 1) dX9_goUntil_29 (by decide) ?_
    refine g_goto (pc := 30) 34 dX9_goUntil_30 rfl ?_
    exact am_sub [0] rfl (q_X9_goUntil_34 hX a1 ((σ.1 9 0 6) + 1) true (by omega) σ hf hk)
  replace hf := am_ifF c2 hf
  refine g_iconst (pc := 33) (v := 0) dX9_goUntil_33 (by decide) ?_
  exact am_sub [0] rfl (q_X9_goUntil_34 hX a1 ((σ.1 9 0 6) + 1) false (by omega) σ hf hk)
noncomputable def f_X9_goUntil (v1 : Int32) (v2 : Int32) (σ : am_H) : Option (am_H) :=
  if v1 = 1 then
   (f_X9_goUntil_12 v1 σ)
  else
  if v1 = 2 then
   (f_X9_goUntil_12 v1 σ)
  else
  (f_X9_canReach v1 v2 σ).bind fun p3 =>
  if p3 = true then
   ((f_X9_nextLevel v1 v2 σ).bind fun p5 =>
   f_X9_goUntil_58 p5 σ)
  else
  f_X9_goUntil_58 (-1) σ
set_option maxRecDepth 100000 in
set_option maxHeartbeats 4000000 in
theorem q_X9_goUntil {X : am_X} (hX : am_wC X) {Q : Option Value → am_H → Prop} (v1 : Int32) (v2 : Int32) (σ : am_H) {o : am_H} (hf : f_X9_goUntil v1 v2 σ = some o) (hk : Q none o) : am_G X gm_X9_goUntil Q 0 [(0, .ref (am_ad X 9 0)), (1, .int v1), (2, .int v2)] [] σ := by
  unfold f_X9_goUntil at hf
  refine g_iconst (pc := 0) (v := (-1)) dX9_goUntil_0 (by decide) ?_
  refine g_istore_n (pc := 1) [(3, .int (-1)), (0, .ref (am_ad X 9 0)), (1, .int v1), (2, .int v2)] dX9_goUntil_1 rfl (Nat.le_of_ble_eq_true rfl) rfl ?_
  refine g_iload_n (pc := 2) 2 rfl dX9_goUntil_2 rfl ?_
  refine g_iconst (pc := 3) (v := 1) dX9_goUntil_3 (by decide) ?_
  refine bi_eq (pc := 4) 12 dX9_goUntil_4 rfl (fun c1 => ?_) (fun c1 => ?_)
  · replace hf := am_ifT c1 hf
    exact am_sub [1, 2] rfl (q_X9_goUntil_12 hX v1 σ hf hk)
  replace hf := am_ifF c1 hf
  refine g_iload_n (pc := 7) 2 rfl dX9_goUntil_7 rfl ?_
  refine g_iconst (pc := 8) (v := 2) dX9_goUntil_8 (by decide) ?_
  refine bi_ne (pc := 9) 42 dX9_goUntil_9 rfl (fun c2 => ?_) (fun c2 => ?_)
  · replace hf := am_ifT c2 hf
    exact am_sub [1, 2] rfl (q_X9_goUntil_12 hX v1 σ hf hk)
  replace hf := am_ifF c2 hf
  refine g_aload_n (pc := 42) 1 rfl dX9_goUntil_42 rfl ?_
  refine g_iload_n (pc := 43) 2 rfl dX9_goUntil_43 rfl ?_
  refine g_iload_n (pc := 44) 3 rfl dX9_goUntil_44 rfl ?_
  obtain ⟨p3, hp3, hf⟩ := am_bd hf
  refine g_cV (pc := 45) (As := [.int v1, .int v2]) (st := []) (st1 := [.int (am_b p3)]) (in_9 hX.1 (by omega)) kk_9 mV_X9_canReach ln_X9_102 rfl (Nat.le_of_ble_eq_true rfl) (Nat.le_of_ble_eq_true rfl) (k_X9_canReach hX v1 v2 σ hp3) dX9_goUntil_45 rfl rfl ?_
  refine bt_eq (pc := 48) 58 dX9_goUntil_48 rfl (fun c4 => ?_) (fun c4 => ?_)
  · replace hf := am_ifT c4 hf
    refine g_aload_n (pc := 51) 1 rfl dX9_goUntil_51 rfl ?_
    refine g_iload_n (pc := 52) 2 rfl dX9_goUntil_52 rfl ?_
    refine g_iload_n (pc := 53) 3 rfl dX9_goUntil_53 rfl ?_
    obtain ⟨p5, hp5, hf⟩ := am_bd hf
    refine g_cV (pc := 54) (As := [.int v1, .int v2]) (st := []) (st1 := [.int p5]) (in_9 hX.1 (by omega)) kk_9 mV_X9_nextLevel ln_X9_105 rfl (Nat.le_of_ble_eq_true rfl) (Nat.le_of_ble_eq_true rfl) (k_X9_nextLevel hX v1 v2 σ hp5) dX9_goUntil_54 rfl rfl ?_
    refine g_istore_n (pc := 57) [(3, .int p5), (0, .ref (am_ad X 9 0)), (1, .int v1), (2, .int v2)] dX9_goUntil_57 rfl (Nat.le_of_ble_eq_true rfl) rfl ?_
    exact am_sub [1, 0] rfl (q_X9_goUntil_58 hX p5 σ hf hk)
  replace hf := am_ifF c4 hf
  exact am_sub [1, 0] rfl (q_X9_goUntil_58 hX (-1) σ hf hk)
theorem k_X9_goUntil {X : am_X} (hX : am_wC X) (v1 : Int32) (v2 : Int32) (σ : am_H) {o : am_H} (hf : f_X9_goUntil v1 v2 σ = some o) : am_C X gm_X9_goUntil [.ref (am_ad X 9 0), .int v1, .int v2] σ (am_is none o) :=
  am_ofG rfl (Nat.le_of_ble_eq_true rfl) rfl (q_X9_goUntil hX v1 v2 σ hf ⟨rfl, rfl⟩)
theorem dX9_markHour_0 : decode cX9_markHour 0 = .ok (.aload_n 0, 1) := by decide +kernel
theorem dX9_markHour_1 : decode cX9_markHour 1 = .ok (.getfield 47, 3) := by decide +kernel
theorem dX9_markHour_4 : decode cX9_markHour 4 = .ok (.bipush 30, 2) := by decide +kernel
theorem dX9_markHour_6 : decode cX9_markHour 6 = .ok (.if_icmp .ge 26, 3) := by decide +kernel
theorem dX9_markHour_9 : decode cX9_markHour 9 = .ok (.aload_n 0, 1) := by decide +kernel
theorem dX9_markHour_10 : decode cX9_markHour 10 = .ok (.getfield 15, 3) := by decide +kernel
theorem dX9_markHour_13 : decode cX9_markHour 13 = .ok (.aload_n 0, 1) := by decide +kernel
theorem dX9_markHour_14 : decode cX9_markHour 14 = .ok (.getfield 47, 3) := by decide +kernel
theorem dX9_markHour_17 : decode cX9_markHour 17 = .ok (.aload_n 0, 1) := by decide +kernel
theorem dX9_markHour_18 : decode cX9_markHour 18 = .ok (.getfield 26, 3) := by decide +kernel
theorem dX9_markHour_21 : decode cX9_markHour 21 = .ok (.iastore, 1) := by decide +kernel
theorem dX9_markHour_22 : decode cX9_markHour 22 = .ok (.aload_n 0, 1) := by decide +kernel
theorem dX9_markHour_23 : decode cX9_markHour 23 = .ok (.dup, 1) := by decide +kernel
theorem dX9_markHour_24 : decode cX9_markHour 24 = .ok (.getfield 47, 3) := by decide +kernel
theorem dX9_markHour_27 : decode cX9_markHour 27 = .ok (.iconst 1, 1) := by decide +kernel
theorem dX9_markHour_28 : decode cX9_markHour 28 = .ok (.iadd, 1) := by decide +kernel
theorem dX9_markHour_29 : decode cX9_markHour 29 = .ok (.putfield 47, 3) := by decide +kernel
theorem dX9_markHour_32 : decode cX9_markHour 32 = .ok (.return_, 1) := by decide +kernel
noncomputable def f_X9_markHour (σ : am_H) : Option (am_H) :=
  if (σ.1 9 0 9) < 30 then
   ((am_ix 30 (σ.1 9 0 9)).bind fun j2 =>
   (some (am_wI σ 1010 0 j2 (σ.1 9 0 6))).bind fun s3 =>
   (some (am_wI s3 9 0 9 ((s3.1 9 0 9) + 1))).bind fun s4 =>
   some s4)
  else
  some σ
set_option maxRecDepth 100000 in
set_option maxHeartbeats 4000000 in
theorem q_X9_markHour {X : am_X} (hX : am_wC X) {Q : Option Value → am_H → Prop} (σ : am_H) {o : am_H} (hf : f_X9_markHour σ = some o) (hk : Q none o) : am_G X gm_X9_markHour Q 0 [(0, .ref (am_ad X 9 0))] [] σ := by
  unfold f_X9_markHour at hf
  refine g_aload_n (pc := 0) 0 rfl dX9_markHour_0 rfl ?_
  refine g_getI (pc := 1) (in_9 hX.1 (by omega)) fr_X9_47 dX9_markHour_1 ?_
  refine g_bipush (pc := 4) (v := 30) dX9_markHour_4 (by decide) ?_
  refine bi_ge (pc := 6) 32 dX9_markHour_6 rfl (fun c1 => ?_) (fun c1 => ?_)
  · replace hf := am_ifT c1 hf
    refine g_aload_n (pc := 9) 0 rfl dX9_markHour_9 rfl ?_
    refine g_getC (pc := 10) (e := 0) (in_9 hX.1 (by omega)) fr_X9_15 dX9_markHour_10 rfl ?_
    refine g_aload_n (pc := 13) 0 rfl dX9_markHour_13 rfl ?_
    refine g_getI (pc := 14) (in_9 hX.1 (by omega)) fr_X9_47 dX9_markHour_14 ?_
    refine g_aload_n (pc := 17) 0 rfl dX9_markHour_17 rfl ?_
    refine g_getI (pc := 18) (in_9 hX.1 (by omega)) fr_X9_26 dX9_markHour_18 ?_
    obtain ⟨j2, hj2, hf⟩ := am_bd hf
    have gj2 := am_ix_lt hj2
    obtain ⟨s3, hs3, hf⟩ := am_bd hf
    refine g_sI (pc := 21) (in_1010 hX.1 (by omega)) ak_1010 hj2 dX9_markHour_21 (Option.some.inj hs3) ?_
    refine g_aload_n (pc := 22) 0 rfl dX9_markHour_22 rfl ?_
    refine g_dup (pc := 23) dX9_markHour_23 rfl ?_
    refine g_getI (pc := 24) (in_9 hX.1 (by omega)) fr_X9_47 dX9_markHour_24 ?_
    refine g_iconst (pc := 27) (v := 1) dX9_markHour_27 (by decide) ?_
    refine g_iadd (pc := 28) dX9_markHour_28 ?_
    obtain ⟨s4, hs4, hf⟩ := am_bd hf
    refine g_setI (pc := 29) (in_9 hX.1 (by omega)) fr_X9_47 dX9_markHour_29 (Option.some.inj hs4) ?_
    have ho := Option.some.inj hf
    subst ho
    exact g_vreturn (pc := 32) (st := []) rfl dX9_markHour_32 hk
  replace hf := am_ifF c1 hf
  have ho := Option.some.inj hf
  subst ho
  exact g_vreturn (pc := 32) (st := []) rfl dX9_markHour_32 hk
theorem k_X9_markHour {X : am_X} (hX : am_wC X) (σ : am_H) {o : am_H} (hf : f_X9_markHour σ = some o) : am_C X gm_X9_markHour [.ref (am_ad X 9 0)] σ (am_is none o) :=
  am_ofG rfl (Nat.le_of_ble_eq_true rfl) rfl (q_X9_markHour hX σ hf ⟨rfl, rfl⟩)
theorem dX9_isLevel_0 : decode cX9_isLevel 0 = .ok (.aload_n 0, 1) := by decide +kernel
theorem dX9_isLevel_1 : decode cX9_isLevel 1 = .ok (.getfield 22, 3) := by decide +kernel
theorem dX9_isLevel_4 : decode cX9_isLevel 4 = .ok (.aload_n 0, 1) := by decide +kernel
theorem dX9_isLevel_5 : decode cX9_isLevel 5 = .ok (.getfield 26, 3) := by decide +kernel
theorem dX9_isLevel_8 : decode cX9_isLevel 8 = .ok (.i2l, 1) := by decide +kernel
theorem dX9_isLevel_9 : decode cX9_isLevel 9 = .ok (.iconst 1, 1) := by decide +kernel
theorem dX9_isLevel_10 : decode cX9_isLevel 10 = .ok (.invokevirtual 87, 3) := by decide +kernel
theorem dX9_isLevel_13 : decode cX9_isLevel 13 = .ok (.istore_n 3, 1) := by decide +kernel
theorem dX9_isLevel_14 : decode cX9_isLevel 14 = .ok (.iload_n 1, 1) := by decide +kernel
theorem dX9_isLevel_15 : decode cX9_isLevel 15 = .ok (.iconst 3, 1) := by decide +kernel
theorem dX9_isLevel_16 : decode cX9_isLevel 16 = .ok (.if_icmp .ne 16, 3) := by decide +kernel
theorem dX9_isLevel_19 : decode cX9_isLevel 19 = .ok (.iload_n 3, 1) := by decide +kernel
theorem dX9_isLevel_20 : decode cX9_isLevel 20 = .ok (.iload_n 2, 1) := by decide +kernel
theorem dX9_isLevel_21 : decode cX9_isLevel 21 = .ok (.if_icmp .le 7, 3) := by decide +kernel
theorem dX9_isLevel_24 : decode cX9_isLevel 24 = .ok (.iconst 1, 1) := by decide +kernel
theorem dX9_isLevel_25 : decode cX9_isLevel 25 = .ok (.goto 17, 3) := by decide +kernel
theorem dX9_isLevel_28 : decode cX9_isLevel 28 = .ok (.iconst 0, 1) := by decide +kernel
theorem dX9_isLevel_29 : decode cX9_isLevel 29 = .ok (.goto 13, 3) := by decide +kernel
theorem dX9_isLevel_32 : decode cX9_isLevel 32 = .ok (.iload_n 3, 1) := by decide +kernel
theorem dX9_isLevel_33 : decode cX9_isLevel 33 = .ok (.iload_n 2, 1) := by decide +kernel
theorem dX9_isLevel_34 : decode cX9_isLevel 34 = .ok (.if_icmp .ge 7, 3) := by decide +kernel
theorem dX9_isLevel_37 : decode cX9_isLevel 37 = .ok (.iconst 1, 1) := by decide +kernel
theorem dX9_isLevel_38 : decode cX9_isLevel 38 = .ok (.goto 4, 3) := by decide +kernel
theorem dX9_isLevel_41 : decode cX9_isLevel 41 = .ok (.iconst 0, 1) := by decide +kernel
theorem dX9_isLevel_42 : decode cX9_isLevel 42 = .ok (.ireturn, 1) := by decide +kernel
noncomputable def f_X9_isLevel (v1 : Int32) (v2 : Int32) (σ : am_H) : Option (Bool) :=
  (am_rr 3 (σ.2.2 9 0 1)).bind fun a1 =>
  (f_X3_heightAt a1 (Int32.toInt64 (σ.1 9 0 6)) true σ).bind fun p2 =>
  if v1 = 3 then
   (if v2 < p2 then
    (some true)
   else
   some false)
  else
  if p2 < v2 then
   (some true)
  else
  some false
set_option maxRecDepth 100000 in
set_option maxHeartbeats 4000000 in
theorem q_X9_isLevel {X : am_X} (hX : am_wC X) {Q : Option Value → am_H → Prop} (v1 : Int32) (v2 : Int32) (σ : am_H) {o : Bool} (hf : f_X9_isLevel v1 v2 σ = some o) (hk : Q (some (.int (am_b o))) σ) : am_G X gm_X9_isLevel Q 0 [(0, .ref (am_ad X 9 0)), (1, .int v1), (2, .int v2)] [] σ := by
  unfold f_X9_isLevel at hf
  refine g_aload_n (pc := 0) 0 rfl dX9_isLevel_0 rfl ?_
  obtain ⟨a1, ha1, hf⟩ := am_bd hf
  obtain ⟨ha1, ga1⟩ := am_rr_in ha1
  refine g_getM (pc := 1) (in_9 hX.1 (by omega)) fr_X9_22 ha1 dX9_isLevel_1 ?_
  refine g_aload_n (pc := 4) 0 rfl dX9_isLevel_4 rfl ?_
  refine g_getI (pc := 5) (in_9 hX.1 (by omega)) fr_X9_26 dX9_isLevel_5 ?_
  refine g_i2l (pc := 8) dX9_isLevel_8 ?_
  refine g_iconst (pc := 9) (v := 1) dX9_isLevel_9 (by decide) ?_
  obtain ⟨p2, hp2, hf⟩ := am_bd hf
  refine g_cV (pc := 10) (As := [.long (Int32.toInt64 (σ.1 9 0 6)), .int (am_b true)]) (st := []) (st1 := [.int p2]) (in_3 hX.1 (by omega)) kk_3 mV_X3_heightAt ln_X9_87 rfl (Nat.le_of_ble_eq_true rfl) (Nat.le_of_ble_eq_true rfl) (k_X3_heightAt hX a1 (Int32.toInt64 (σ.1 9 0 6)) true (by omega) σ hp2) dX9_isLevel_10 rfl rfl ?_
  refine g_istore_n (pc := 13) [(3, .int p2), (0, .ref (am_ad X 9 0)), (1, .int v1), (2, .int v2)] dX9_isLevel_13 rfl (Nat.le_of_ble_eq_true rfl) rfl ?_
  refine g_iload_n (pc := 14) 2 rfl dX9_isLevel_14 rfl ?_
  refine g_iconst (pc := 15) (v := 3) dX9_isLevel_15 (by decide) ?_
  refine bi_ne (pc := 16) 32 dX9_isLevel_16 rfl (fun c3 => ?_) (fun c3 => ?_)
  · replace hf := am_ifT c3 hf
    refine g_iload_n (pc := 19) 0 rfl dX9_isLevel_19 rfl ?_
    refine g_iload_n (pc := 20) 3 rfl dX9_isLevel_20 rfl ?_
    refine bi_le (pc := 21) 28 dX9_isLevel_21 rfl (fun c4 => ?_) (fun c4 => ?_)
    · replace hf := am_ifT c4 hf
      refine g_iconst (pc := 24) (v := 1) dX9_isLevel_24 (by decide) ?_
      refine g_goto (pc := 25) 42 dX9_isLevel_25 rfl ?_
      have ho := Option.some.inj hf
      subst ho
      exact g_zreturn (pc := 42) (st := []) (x := true) rfl dX9_isLevel_42 hk
    replace hf := am_ifF c4 hf
    refine g_iconst (pc := 28) (v := 0) dX9_isLevel_28 (by decide) ?_
    refine g_goto (pc := 29) 42 dX9_isLevel_29 rfl ?_
    have ho := Option.some.inj hf
    subst ho
    exact g_zreturn (pc := 42) (st := []) (x := false) rfl dX9_isLevel_42 hk
  replace hf := am_ifF c3 hf
  refine g_iload_n (pc := 32) 0 rfl dX9_isLevel_32 rfl ?_
  refine g_iload_n (pc := 33) 3 rfl dX9_isLevel_33 rfl ?_
  refine bi_ge (pc := 34) 41 dX9_isLevel_34 rfl (fun c5 => ?_) (fun c5 => ?_)
  · replace hf := am_ifT c5 hf
    refine g_iconst (pc := 37) (v := 1) dX9_isLevel_37 (by decide) ?_
    refine g_goto (pc := 38) 42 dX9_isLevel_38 rfl ?_
    have ho := Option.some.inj hf
    subst ho
    exact g_zreturn (pc := 42) (st := []) (x := true) rfl dX9_isLevel_42 hk
  replace hf := am_ifF c5 hf
  refine g_iconst (pc := 41) (v := 0) dX9_isLevel_41 (by decide) ?_
  have ho := Option.some.inj hf
  subst ho
  exact g_zreturn (pc := 42) (st := []) (x := false) rfl dX9_isLevel_42 hk
theorem k_X9_isLevel {X : am_X} (hX : am_wC X) (v1 : Int32) (v2 : Int32) (σ : am_H) {o : Bool} (hf : f_X9_isLevel v1 v2 σ = some o) : am_C X gm_X9_isLevel [.ref (am_ad X 9 0), .int v1, .int v2] σ (am_is (some (.int (am_b o))) σ) :=
  am_ofG rfl (Nat.le_of_ble_eq_true rfl) rfl (q_X9_isLevel hX v1 v2 σ hf ⟨rfl, rfl⟩)
theorem dX9_doStep_0 : decode cX9_doStep 0 = .ok (.aload_n 0, 1) := by decide +kernel
theorem dX9_doStep_1 : decode cX9_doStep 1 = .ok (.getfield 18, 3) := by decide +kernel
theorem dX9_doStep_4 : decode cX9_doStep 4 = .ok (.getfield 70, 3) := by decide +kernel
theorem dX9_doStep_7 : decode cX9_doStep 7 = .ok (.aload_n 0, 1) := by decide +kernel
theorem dX9_doStep_8 : decode cX9_doStep 8 = .ok (.getfield 30, 3) := by decide +kernel
theorem dX9_doStep_11 : decode cX9_doStep 11 = .ok (.iaload, 1) := by decide +kernel
theorem dX9_doStep_12 : decode cX9_doStep 12 = .ok (.istore_n 1, 1) := by decide +kernel
theorem dX9_doStep_13 : decode cX9_doStep 13 = .ok (.aload_n 0, 1) := by decide +kernel
theorem dX9_doStep_14 : decode cX9_doStep 14 = .ok (.getfield 30, 3) := by decide +kernel
theorem dX9_doStep_17 : decode cX9_doStep 17 = .ok (.iconst 1, 1) := by decide +kernel
theorem dX9_doStep_18 : decode cX9_doStep 18 = .ok (.iadd, 1) := by decide +kernel
theorem dX9_doStep_19 : decode cX9_doStep 19 = .ok (.istore_n 2, 1) := by decide +kernel
theorem dX9_doStep_20 : decode cX9_doStep 20 = .ok (.aload_n 0, 1) := by decide +kernel
theorem dX9_doStep_21 : decode cX9_doStep 21 = .ok (.getfield 18, 3) := by decide +kernel
theorem dX9_doStep_24 : decode cX9_doStep 24 = .ok (.getfield 64, 3) := by decide +kernel
theorem dX9_doStep_27 : decode cX9_doStep 27 = .ok (.aload_n 0, 1) := by decide +kernel
theorem dX9_doStep_28 : decode cX9_doStep 28 = .ok (.getfield 30, 3) := by decide +kernel
theorem dX9_doStep_31 : decode cX9_doStep 31 = .ok (.iaload, 1) := by decide +kernel
theorem dX9_doStep_32 : decode cX9_doStep 32 = .ok (.tableswitch 115 0 4 #[36, 49, 69, 76, 102], 36) := by decide +kernel
theorem dX9_doStep_68 : decode cX9_doStep 68 = .ok (.aload_n 0, 1) := by decide +kernel
theorem dX9_doStep_69 : decode cX9_doStep 69 = .ok (.aload_n 0, 1) := by decide +kernel
theorem dX9_doStep_70 : decode cX9_doStep 70 = .ok (.getfield 26, 3) := by decide +kernel
theorem dX9_doStep_73 : decode cX9_doStep 73 = .ok (.iload_n 1, 1) := by decide +kernel
theorem dX9_doStep_74 : decode cX9_doStep 74 = .ok (.iadd, 1) := by decide +kernel
theorem dX9_doStep_75 : decode cX9_doStep 75 = .ok (.invokevirtual 73, 3) := by decide +kernel
theorem dX9_doStep_78 : decode cX9_doStep 78 = .ok (.goto 118, 3) := by decide +kernel
theorem dX9_doStep_81 : decode cX9_doStep 81 = .ok (.aload_n 0, 1) := by decide +kernel
theorem dX9_doStep_82 : decode cX9_doStep 82 = .ok (.aload_n 0, 1) := by decide +kernel
theorem dX9_doStep_83 : decode cX9_doStep 83 = .ok (.getfield 18, 3) := by decide +kernel
theorem dX9_doStep_86 : decode cX9_doStep 86 = .ok (.getfield 77, 3) := by decide +kernel
theorem dX9_doStep_89 : decode cX9_doStep 89 = .ok (.aload_n 0, 1) := by decide +kernel
theorem dX9_doStep_90 : decode cX9_doStep 90 = .ok (.getfield 30, 3) := by decide +kernel
theorem dX9_doStep_93 : decode cX9_doStep 93 = .ok (.iaload, 1) := by decide +kernel
theorem dX9_doStep_94 : decode cX9_doStep 94 = .ok (.iload_n 1, 1) := by decide +kernel
theorem dX9_doStep_95 : decode cX9_doStep 95 = .ok (.invokevirtual 80, 3) := by decide +kernel
theorem dX9_doStep_98 : decode cX9_doStep 98 = .ok (.goto 98, 3) := by decide +kernel
theorem dX9_doStep_101 : decode cX9_doStep 101 = .ok (.aload_n 0, 1) := by decide +kernel
theorem dX9_doStep_102 : decode cX9_doStep 102 = .ok (.invokevirtual 84, 3) := by decide +kernel
theorem dX9_doStep_105 : decode cX9_doStep 105 = .ok (.goto 91, 3) := by decide +kernel
theorem dX9_doStep_108 : decode cX9_doStep 108 = .ok (.aload_n 0, 1) := by decide +kernel
theorem dX9_doStep_109 : decode cX9_doStep 109 = .ok (.dup, 1) := by decide +kernel
theorem dX9_doStep_110 : decode cX9_doStep 110 = .ok (.getfield 43, 3) := by decide +kernel
theorem dX9_doStep_113 : decode cX9_doStep 113 = .ok (.aload_n 0, 1) := by decide +kernel
theorem dX9_doStep_114 : decode cX9_doStep 114 = .ok (.getfield 22, 3) := by decide +kernel
theorem dX9_doStep_117 : decode cX9_doStep 117 = .ok (.aload_n 0, 1) := by decide +kernel
theorem dX9_doStep_118 : decode cX9_doStep 118 = .ok (.getfield 26, 3) := by decide +kernel
theorem dX9_doStep_121 : decode cX9_doStep 121 = .ok (.i2l, 1) := by decide +kernel
theorem dX9_doStep_122 : decode cX9_doStep 122 = .ok (.iconst 1, 1) := by decide +kernel
theorem dX9_doStep_123 : decode cX9_doStep 123 = .ok (.invokevirtual 87, 3) := by decide +kernel
theorem dX9_doStep_126 : decode cX9_doStep 126 = .ok (.i2l, 1) := by decide +kernel
theorem dX9_doStep_127 : decode cX9_doStep 127 = .ok (.ladd, 1) := by decide +kernel
theorem dX9_doStep_128 : decode cX9_doStep 128 = .ok (.putfield 43, 3) := by decide +kernel
theorem dX9_doStep_131 : decode cX9_doStep 131 = .ok (.goto 65, 3) := by decide +kernel
theorem dX9_doStep_134 : decode cX9_doStep 134 = .ok (.aload_n 0, 1) := by decide +kernel
theorem dX9_doStep_135 : decode cX9_doStep 135 = .ok (.getfield 9, 3) := by decide +kernel
theorem dX9_doStep_138 : decode cX9_doStep 138 = .ok (.aload_n 0, 1) := by decide +kernel
theorem dX9_doStep_139 : decode cX9_doStep 139 = .ok (.getfield 30, 3) := by decide +kernel
theorem dX9_doStep_142 : decode cX9_doStep 142 = .ok (.iload_n 1, 1) := by decide +kernel
theorem dX9_doStep_143 : decode cX9_doStep 143 = .ok (.iastore, 1) := by decide +kernel
theorem dX9_doStep_144 : decode cX9_doStep 144 = .ok (.goto 52, 3) := by decide +kernel
theorem dX9_doStep_147 : decode cX9_doStep 147 = .ok (.aload_n 0, 1) := by decide +kernel
theorem dX9_doStep_148 : decode cX9_doStep 148 = .ok (.getfield 9, 3) := by decide +kernel
theorem dX9_doStep_151 : decode cX9_doStep 151 = .ok (.aload_n 0, 1) := by decide +kernel
theorem dX9_doStep_152 : decode cX9_doStep 152 = .ok (.getfield 30, 3) := by decide +kernel
theorem dX9_doStep_155 : decode cX9_doStep 155 = .ok (.iconst 1, 1) := by decide +kernel
theorem dX9_doStep_156 : decode cX9_doStep 156 = .ok (.iastore, 1) := by decide +kernel
theorem dX9_doStep_157 : decode cX9_doStep 157 = .ok (.aload_n 0, 1) := by decide +kernel
theorem dX9_doStep_158 : decode cX9_doStep 158 = .ok (.aload_n 0, 1) := by decide +kernel
theorem dX9_doStep_159 : decode cX9_doStep 159 = .ok (.getfield 18, 3) := by decide +kernel
theorem dX9_doStep_162 : decode cX9_doStep 162 = .ok (.getfield 77, 3) := by decide +kernel
theorem dX9_doStep_165 : decode cX9_doStep 165 = .ok (.aload_n 0, 1) := by decide +kernel
theorem dX9_doStep_166 : decode cX9_doStep 166 = .ok (.getfield 30, 3) := by decide +kernel
theorem dX9_doStep_169 : decode cX9_doStep 169 = .ok (.iaload, 1) := by decide +kernel
theorem dX9_doStep_170 : decode cX9_doStep 170 = .ok (.iload_n 1, 1) := by decide +kernel
theorem dX9_doStep_171 : decode cX9_doStep 171 = .ok (.invokevirtual 93, 3) := by decide +kernel
theorem dX9_doStep_174 : decode cX9_doStep 174 = .ok (.ifCond .eq 7, 3) := by decide +kernel
theorem dX9_doStep_177 : decode cX9_doStep 177 = .ok (.iload_n 2, 1) := by decide +kernel
theorem dX9_doStep_178 : decode cX9_doStep 178 = .ok (.goto 17, 3) := by decide +kernel
theorem dX9_doStep_181 : decode cX9_doStep 181 = .ok (.aload_n 0, 1) := by decide +kernel
theorem dX9_doStep_182 : decode cX9_doStep 182 = .ok (.getfield 18, 3) := by decide +kernel
theorem dX9_doStep_185 : decode cX9_doStep 185 = .ok (.getfield 67, 3) := by decide +kernel
theorem dX9_doStep_188 : decode cX9_doStep 188 = .ok (.aload_n 0, 1) := by decide +kernel
theorem dX9_doStep_189 : decode cX9_doStep 189 = .ok (.getfield 30, 3) := by decide +kernel
theorem dX9_doStep_192 : decode cX9_doStep 192 = .ok (.iaload, 1) := by decide +kernel
theorem dX9_doStep_193 : decode cX9_doStep 193 = .ok (.iconst 1, 1) := by decide +kernel
theorem dX9_doStep_194 : decode cX9_doStep 194 = .ok (.iadd, 1) := by decide +kernel
theorem dX9_doStep_195 : decode cX9_doStep 195 = .ok (.istore_n 2, 1) := by decide +kernel
theorem dX9_doStep_196 : decode cX9_doStep 196 = .ok (.aload_n 0, 1) := by decide +kernel
theorem dX9_doStep_197 : decode cX9_doStep 197 = .ok (.iload_n 2, 1) := by decide +kernel
theorem dX9_doStep_198 : decode cX9_doStep 198 = .ok (.putfield 30, 3) := by decide +kernel
theorem dX9_doStep_201 : decode cX9_doStep 201 = .ok (.return_, 1) := by decide +kernel
noncomputable def f_X9_doStep_196 (v2 : Int32) (σ : am_H) : Option (am_H) :=
  (some (am_wI σ 9 0 2 v2)).bind fun s1 =>
  some s1
set_option maxRecDepth 100000 in
set_option maxHeartbeats 4000000 in
theorem q_X9_doStep_196 {X : am_X} (hX : am_wC X) {Q : Option Value → am_H → Prop} (v2 : Int32) (σ : am_H) {o : am_H} (hf : f_X9_doStep_196 v2 σ = some o) (hk : Q none o) : am_G X gm_X9_doStep Q 196 [(0, .ref (am_ad X 9 0)), (2, .int v2)] [] σ := by
  unfold f_X9_doStep_196 at hf
  refine g_aload_n (pc := 196) 0 rfl dX9_doStep_196 rfl ?_
  refine g_iload_n (pc := 197) 1 rfl dX9_doStep_197 rfl ?_
  obtain ⟨s1, hs1, hf⟩ := am_bd hf
  refine g_setI (pc := 198) (in_9 hX.1 (by omega)) fr_X9_30 dX9_doStep_198 (Option.some.inj hs1) ?_
  have ho := Option.some.inj hf
  subst ho
  exact g_vreturn (pc := 201) (st := []) rfl dX9_doStep_201 hk
noncomputable def f_X9_doStep (σ : am_H) : Option (am_H) :=
  (am_rr 2 (σ.2.2 9 0 0)).bind fun a1 =>
  (am_ix 80 (σ.1 9 0 2)).bind fun j2 =>
  (am_rr 2 (σ.2.2 9 0 0)).bind fun a3 =>
  (am_ix 80 (σ.1 9 0 2)).bind fun j4 =>
  if (σ.1 500 a3 j4) = 0 then
   ((f_X9_goTo ((σ.1 9 0 6) + (σ.1 502 a1 j2)) σ).bind fun p6 =>
   f_X9_doStep_196 ((σ.1 9 0 2) + 1) p6)
  else
  if (σ.1 500 a3 j4) = 1 then
   ((am_rr 2 (σ.2.2 9 0 0)).bind fun a8 =>
   (am_ix 80 (σ.1 9 0 2)).bind fun j9 =>
   (f_X9_goUntil (σ.1 501 a8 j9) (σ.1 502 a1 j2) σ).bind fun p10 =>
   f_X9_doStep_196 ((σ.1 9 0 2) + 1) p10)
  else
  if (σ.1 500 a3 j4) = 2 then
   ((f_X9_markHour σ).bind fun p12 =>
   f_X9_doStep_196 ((σ.1 9 0 2) + 1) p12)
  else
  if (σ.1 500 a3 j4) = 3 then
   ((am_rr 3 (σ.2.2 9 0 1)).bind fun a14 =>
   (f_X3_heightAt a14 (Int32.toInt64 (σ.1 9 0 6)) true σ).bind fun p15 =>
   (some (am_wL σ 9 0 8 ((σ.2.1 9 0 8) + (Int32.toInt64 p15)))).bind fun s16 =>
   f_X9_doStep_196 ((σ.1 9 0 2) + 1) s16)
  else
  if (σ.1 500 a3 j4) = 4 then
   ((am_ix 80 (σ.1 9 0 2)).bind fun j18 =>
   (some (am_wI σ 1004 0 j18 (σ.1 502 a1 j2))).bind fun s19 =>
   f_X9_doStep_196 ((σ.1 9 0 2) + 1) s19)
  else
  (am_ix 80 (σ.1 9 0 2)).bind fun j20 =>
  (some (am_wI σ 1004 0 j20 1)).bind fun s21 =>
  (am_rr 2 (s21.2.2 9 0 0)).bind fun a22 =>
  (am_ix 80 (s21.1 9 0 2)).bind fun j23 =>
  (f_X9_isLevel (s21.1 501 a22 j23) (σ.1 502 a1 j2) s21).bind fun p24 =>
  if p24 = true then
   (f_X9_doStep_196 ((σ.1 9 0 2) + 1) s21)
  else
  (am_rr 2 (s21.2.2 9 0 0)).bind fun a26 =>
  (am_ix 80 (s21.1 9 0 2)).bind fun j27 =>
  f_X9_doStep_196 ((s21.1 503 a26 j27) + 1) s21
set_option maxRecDepth 100000 in
set_option maxHeartbeats 4000000 in
theorem q_X9_doStep {X : am_X} (hX : am_wC X) {Q : Option Value → am_H → Prop} (σ : am_H) {o : am_H} (hf : f_X9_doStep σ = some o) (hk : Q none o) : am_G X gm_X9_doStep Q 0 [(0, .ref (am_ad X 9 0))] [] σ := by
  unfold f_X9_doStep at hf
  refine g_aload_n (pc := 0) 0 rfl dX9_doStep_0 rfl ?_
  obtain ⟨a1, ha1, hf⟩ := am_bd hf
  obtain ⟨ha1, ga1⟩ := am_rr_in ha1
  refine g_getM (pc := 1) (in_9 hX.1 (by omega)) fr_X9_18 ha1 dX9_doStep_1 ?_
  refine g_getC (pc := 4) (e := a1) (in_4 hX.1 (by omega)) fr_X9_70 dX9_doStep_4 rfl ?_
  refine g_aload_n (pc := 7) 0 rfl dX9_doStep_7 rfl ?_
  refine g_getI (pc := 8) (in_9 hX.1 (by omega)) fr_X9_30 dX9_doStep_8 ?_
  obtain ⟨j2, hj2, hf⟩ := am_bd hf
  have gj2 := am_ix_lt hj2
  refine g_aI (pc := 11) (in_502 hX.1 (by omega)) ak_502 hj2 dX9_doStep_11 ?_
  refine g_istore_n (pc := 12) [(1, .int (σ.1 502 a1 j2)), (0, .ref (am_ad X 9 0))] dX9_doStep_12 rfl (Nat.le_of_ble_eq_true rfl) rfl ?_
  refine g_aload_n (pc := 13) 1 rfl dX9_doStep_13 rfl ?_
  refine g_getI (pc := 14) (in_9 hX.1 (by omega)) fr_X9_30 dX9_doStep_14 ?_
  refine g_iconst (pc := 17) (v := 1) dX9_doStep_17 (by decide) ?_
  refine g_iadd (pc := 18) dX9_doStep_18 ?_
  refine g_istore_n (pc := 19) [(2, .int ((σ.1 9 0 2) + 1)), (1, .int (σ.1 502 a1 j2)), (0, .ref (am_ad X 9 0))] dX9_doStep_19 rfl (Nat.le_of_ble_eq_true rfl) rfl ?_
  refine g_aload_n (pc := 20) 2 rfl dX9_doStep_20 rfl ?_
  obtain ⟨a3, ha3, hf⟩ := am_bd hf
  obtain ⟨ha3, ga3⟩ := am_rr_in ha3
  refine g_getM (pc := 21) (in_9 hX.1 (by omega)) fr_X9_18 ha3 dX9_doStep_21 ?_
  refine g_getC (pc := 24) (e := a3) (in_4 hX.1 (by omega)) fr_X9_64 dX9_doStep_24 rfl ?_
  refine g_aload_n (pc := 27) 2 rfl dX9_doStep_27 rfl ?_
  refine g_getI (pc := 28) (in_9 hX.1 (by omega)) fr_X9_30 dX9_doStep_28 ?_
  obtain ⟨j4, hj4, hf⟩ := am_bd hf
  have gj4 := am_ix_lt hj4
  refine g_aI (pc := 31) (in_500 hX.1 (by omega)) ak_500 hj4 dX9_doStep_31 ?_
  by_cases c5 : (σ.1 500 a3 j4) = 0
  · replace hf := am_ifT c5 hf
    refine g_swE (pc := 32) 68 c5 dX9_doStep_32 (by decide) (by decide) rfl rfl ?_
    refine g_aload_n (pc := 68) 2 rfl dX9_doStep_68 rfl ?_
    refine g_aload_n (pc := 69) 2 rfl dX9_doStep_69 rfl ?_
    refine g_getI (pc := 70) (in_9 hX.1 (by omega)) fr_X9_26 dX9_doStep_70 ?_
    refine g_iload_n (pc := 73) 1 rfl dX9_doStep_73 rfl ?_
    refine g_iadd (pc := 74) dX9_doStep_74 ?_
    obtain ⟨p6, hp6, hf⟩ := am_bd hf
    refine g_cV (pc := 75) (As := [.int ((σ.1 9 0 6) + (σ.1 502 a1 j2))]) (st := []) (st1 := []) (in_9 hX.1 (by omega)) kk_9 mV_X9_goTo ln_X9_73 rfl (Nat.le_of_ble_eq_true rfl) (Nat.le_of_ble_eq_true rfl) (k_X9_goTo hX ((σ.1 9 0 6) + (σ.1 502 a1 j2)) σ hp6) dX9_doStep_75 rfl rfl ?_
    refine g_goto (pc := 78) 196 dX9_doStep_78 rfl ?_
    exact am_sub [2, 0] rfl (q_X9_doStep_196 hX ((σ.1 9 0 2) + 1) p6 hf hk)
  replace hf := am_ifF c5 hf
  by_cases c7 : (σ.1 500 a3 j4) = 1
  · replace hf := am_ifT c7 hf
    refine g_swE (pc := 32) 81 c7 dX9_doStep_32 (by decide) (by decide) rfl rfl ?_
    refine g_aload_n (pc := 81) 2 rfl dX9_doStep_81 rfl ?_
    refine g_aload_n (pc := 82) 2 rfl dX9_doStep_82 rfl ?_
    obtain ⟨a8, ha8, hf⟩ := am_bd hf
    obtain ⟨ha8, ga8⟩ := am_rr_in ha8
    refine g_getM (pc := 83) (in_9 hX.1 (by omega)) fr_X9_18 ha8 dX9_doStep_83 ?_
    refine g_getC (pc := 86) (e := a8) (in_4 hX.1 (by omega)) fr_X9_77 dX9_doStep_86 rfl ?_
    refine g_aload_n (pc := 89) 2 rfl dX9_doStep_89 rfl ?_
    refine g_getI (pc := 90) (in_9 hX.1 (by omega)) fr_X9_30 dX9_doStep_90 ?_
    obtain ⟨j9, hj9, hf⟩ := am_bd hf
    have gj9 := am_ix_lt hj9
    refine g_aI (pc := 93) (in_501 hX.1 (by omega)) ak_501 hj9 dX9_doStep_93 ?_
    refine g_iload_n (pc := 94) 1 rfl dX9_doStep_94 rfl ?_
    obtain ⟨p10, hp10, hf⟩ := am_bd hf
    refine g_cV (pc := 95) (As := [.int (σ.1 501 a8 j9), .int (σ.1 502 a1 j2)]) (st := []) (st1 := []) (in_9 hX.1 (by omega)) kk_9 mV_X9_goUntil ln_X9_80 rfl (Nat.le_of_ble_eq_true rfl) (Nat.le_of_ble_eq_true rfl) (k_X9_goUntil hX (σ.1 501 a8 j9) (σ.1 502 a1 j2) σ hp10) dX9_doStep_95 rfl rfl ?_
    refine g_goto (pc := 98) 196 dX9_doStep_98 rfl ?_
    exact am_sub [2, 0] rfl (q_X9_doStep_196 hX ((σ.1 9 0 2) + 1) p10 hf hk)
  replace hf := am_ifF c7 hf
  by_cases c11 : (σ.1 500 a3 j4) = 2
  · replace hf := am_ifT c11 hf
    refine g_swE (pc := 32) 101 c11 dX9_doStep_32 (by decide) (by decide) rfl rfl ?_
    refine g_aload_n (pc := 101) 2 rfl dX9_doStep_101 rfl ?_
    obtain ⟨p12, hp12, hf⟩ := am_bd hf
    refine g_cV (pc := 102) (As := []) (st := []) (st1 := []) (in_9 hX.1 (by omega)) kk_9 mV_X9_markHour ln_X9_84 rfl (Nat.le_of_ble_eq_true rfl) (Nat.le_of_ble_eq_true rfl) (k_X9_markHour hX σ hp12) dX9_doStep_102 rfl rfl ?_
    refine g_goto (pc := 105) 196 dX9_doStep_105 rfl ?_
    exact am_sub [2, 0] rfl (q_X9_doStep_196 hX ((σ.1 9 0 2) + 1) p12 hf hk)
  replace hf := am_ifF c11 hf
  by_cases c13 : (σ.1 500 a3 j4) = 3
  · replace hf := am_ifT c13 hf
    refine g_swE (pc := 32) 108 c13 dX9_doStep_32 (by decide) (by decide) rfl rfl ?_
    refine g_aload_n (pc := 108) 2 rfl dX9_doStep_108 rfl ?_
    refine g_dup (pc := 109) dX9_doStep_109 rfl ?_
    refine g_getJ (pc := 110) (in_9 hX.1 (by omega)) fr_X9_43 dX9_doStep_110 ?_
    refine g_aload_n (pc := 113) 2 rfl dX9_doStep_113 rfl ?_
    obtain ⟨a14, ha14, hf⟩ := am_bd hf
    obtain ⟨ha14, ga14⟩ := am_rr_in ha14
    refine g_getM (pc := 114) (in_9 hX.1 (by omega)) fr_X9_22 ha14 dX9_doStep_114 ?_
    refine g_aload_n (pc := 117) 2 rfl dX9_doStep_117 rfl ?_
    refine g_getI (pc := 118) (in_9 hX.1 (by omega)) fr_X9_26 dX9_doStep_118 ?_
    refine g_i2l (pc := 121) dX9_doStep_121 ?_
    refine g_iconst (pc := 122) (v := 1) dX9_doStep_122 (by decide) ?_
    obtain ⟨p15, hp15, hf⟩ := am_bd hf
    refine g_cV (pc := 123) (As := [.long (Int32.toInt64 (σ.1 9 0 6)), .int (am_b true)]) (st := [.long (σ.2.1 9 0 8), .ref (am_ad X 9 0)]) (st1 := [.int p15, .long (σ.2.1 9 0 8), .ref (am_ad X 9 0)]) (in_3 hX.1 (by omega)) kk_3 mV_X3_heightAt ln_X9_87 rfl (Nat.le_of_ble_eq_true rfl) (Nat.le_of_ble_eq_true rfl) (k_X3_heightAt hX a14 (Int32.toInt64 (σ.1 9 0 6)) true (by omega) σ hp15) dX9_doStep_123 rfl rfl ?_
    refine g_i2l (pc := 126) dX9_doStep_126 ?_
    refine g_ladd (pc := 127) dX9_doStep_127 ?_
    obtain ⟨s16, hs16, hf⟩ := am_bd hf
    refine g_setJ (pc := 128) (in_9 hX.1 (by omega)) fr_X9_43 dX9_doStep_128 (Option.some.inj hs16) ?_
    refine g_goto (pc := 131) 196 dX9_doStep_131 rfl ?_
    exact am_sub [2, 0] rfl (q_X9_doStep_196 hX ((σ.1 9 0 2) + 1) s16 hf hk)
  replace hf := am_ifF c13 hf
  by_cases c17 : (σ.1 500 a3 j4) = 4
  · replace hf := am_ifT c17 hf
    refine g_swE (pc := 32) 134 c17 dX9_doStep_32 (by decide) (by decide) rfl rfl ?_
    refine g_aload_n (pc := 134) 2 rfl dX9_doStep_134 rfl ?_
    refine g_getC (pc := 135) (e := 0) (in_9 hX.1 (by omega)) fr_X9_9 dX9_doStep_135 rfl ?_
    refine g_aload_n (pc := 138) 2 rfl dX9_doStep_138 rfl ?_
    refine g_getI (pc := 139) (in_9 hX.1 (by omega)) fr_X9_30 dX9_doStep_139 ?_
    refine g_iload_n (pc := 142) 1 rfl dX9_doStep_142 rfl ?_
    obtain ⟨j18, hj18, hf⟩ := am_bd hf
    have gj18 := am_ix_lt hj18
    obtain ⟨s19, hs19, hf⟩ := am_bd hf
    refine g_sI (pc := 143) (in_1004 hX.1 (by omega)) ak_1004 hj18 dX9_doStep_143 (Option.some.inj hs19) ?_
    refine g_goto (pc := 144) 196 dX9_doStep_144 rfl ?_
    exact am_sub [2, 0] rfl (q_X9_doStep_196 hX ((σ.1 9 0 2) + 1) s19 hf hk)
  replace hf := am_ifF c17 hf
  refine g_tabO (pc := 32) 147 dX9_doStep_32 (am_sw_out 5 (by decide) ?_) rfl ?_
  · intro k hk
    rcases (by omega : k = 0 ∨ k = 1 ∨ k = 2 ∨ k = 3 ∨ k = 4) with rfl | rfl | rfl | rfl | rfl
    · exact c5
    · exact c7
    · exact c11
    · exact c13
    · exact c17
  refine g_aload_n (pc := 147) 2 rfl dX9_doStep_147 rfl ?_
  refine g_getC (pc := 148) (e := 0) (in_9 hX.1 (by omega)) fr_X9_9 dX9_doStep_148 rfl ?_
  refine g_aload_n (pc := 151) 2 rfl dX9_doStep_151 rfl ?_
  refine g_getI (pc := 152) (in_9 hX.1 (by omega)) fr_X9_30 dX9_doStep_152 ?_
  refine g_iconst (pc := 155) (v := 1) dX9_doStep_155 (by decide) ?_
  obtain ⟨j20, hj20, hf⟩ := am_bd hf
  have gj20 := am_ix_lt hj20
  obtain ⟨s21, hs21, hf⟩ := am_bd hf
  refine g_sI (pc := 156) (in_1004 hX.1 (by omega)) ak_1004 hj20 dX9_doStep_156 (Option.some.inj hs21) ?_
  refine g_aload_n (pc := 157) 2 rfl dX9_doStep_157 rfl ?_
  refine g_aload_n (pc := 158) 2 rfl dX9_doStep_158 rfl ?_
  obtain ⟨a22, ha22, hf⟩ := am_bd hf
  obtain ⟨ha22, ga22⟩ := am_rr_in ha22
  refine g_getM (pc := 159) (in_9 hX.1 (by omega)) fr_X9_18 ha22 dX9_doStep_159 ?_
  refine g_getC (pc := 162) (e := a22) (in_4 hX.1 (by omega)) fr_X9_77 dX9_doStep_162 rfl ?_
  refine g_aload_n (pc := 165) 2 rfl dX9_doStep_165 rfl ?_
  refine g_getI (pc := 166) (in_9 hX.1 (by omega)) fr_X9_30 dX9_doStep_166 ?_
  obtain ⟨j23, hj23, hf⟩ := am_bd hf
  have gj23 := am_ix_lt hj23
  refine g_aI (pc := 169) (in_501 hX.1 (by omega)) ak_501 hj23 dX9_doStep_169 ?_
  refine g_iload_n (pc := 170) 1 rfl dX9_doStep_170 rfl ?_
  obtain ⟨p24, hp24, hf⟩ := am_bd hf
  refine g_cV (pc := 171) (As := [.int (s21.1 501 a22 j23), .int (σ.1 502 a1 j2)]) (st := []) (st1 := [.int (am_b p24)]) (in_9 hX.1 (by omega)) kk_9 mV_X9_isLevel ln_X9_93 rfl (Nat.le_of_ble_eq_true rfl) (Nat.le_of_ble_eq_true rfl) (k_X9_isLevel hX (s21.1 501 a22 j23) (σ.1 502 a1 j2) s21 hp24) dX9_doStep_171 rfl rfl ?_
  refine bt_eq (pc := 174) 181 dX9_doStep_174 rfl (fun c25 => ?_) (fun c25 => ?_)
  · replace hf := am_ifT c25 hf
    refine g_iload_n (pc := 177) 0 rfl dX9_doStep_177 rfl ?_
    refine g_goto (pc := 178) 195 dX9_doStep_178 rfl ?_
    refine g_istore_n (pc := 195) [(2, .int ((σ.1 9 0 2) + 1)), (1, .int (σ.1 502 a1 j2)), (0, .ref (am_ad X 9 0))] dX9_doStep_195 rfl (Nat.le_of_ble_eq_true rfl) rfl ?_
    exact am_sub [2, 0] rfl (q_X9_doStep_196 hX ((σ.1 9 0 2) + 1) s21 hf hk)
  replace hf := am_ifF c25 hf
  refine g_aload_n (pc := 181) 2 rfl dX9_doStep_181 rfl ?_
  obtain ⟨a26, ha26, hf⟩ := am_bd hf
  obtain ⟨ha26, ga26⟩ := am_rr_in ha26
  refine g_getM (pc := 182) (in_9 hX.1 (by omega)) fr_X9_18 ha26 dX9_doStep_182 ?_
  refine g_getC (pc := 185) (e := a26) (in_4 hX.1 (by omega)) fr_X9_67 dX9_doStep_185 rfl ?_
  refine g_aload_n (pc := 188) 2 rfl dX9_doStep_188 rfl ?_
  refine g_getI (pc := 189) (in_9 hX.1 (by omega)) fr_X9_30 dX9_doStep_189 ?_
  obtain ⟨j27, hj27, hf⟩ := am_bd hf
  have gj27 := am_ix_lt hj27
  refine g_aI (pc := 192) (in_503 hX.1 (by omega)) ak_503 hj27 dX9_doStep_192 ?_
  refine g_iconst (pc := 193) (v := 1) dX9_doStep_193 (by decide) ?_
  refine g_iadd (pc := 194) dX9_doStep_194 ?_
  refine g_istore_n (pc := 195) [(2, .int ((s21.1 503 a26 j27) + 1)), (1, .int (σ.1 502 a1 j2)), (0, .ref (am_ad X 9 0))] dX9_doStep_195 rfl (Nat.le_of_ble_eq_true rfl) rfl ?_
  exact am_sub [2, 0] rfl (q_X9_doStep_196 hX ((s21.1 503 a26 j27) + 1) s21 hf hk)
theorem k_X9_doStep {X : am_X} (hX : am_wC X) (σ : am_H) {o : am_H} (hf : f_X9_doStep σ = some o) : am_C X gm_X9_doStep [.ref (am_ad X 9 0)] σ (am_is none o) :=
  am_ofG rfl (Nat.le_of_ble_eq_true rfl) rfl (q_X9_doStep hX σ hf ⟨rfl, rfl⟩)
theorem dX9_goThrough_0 : decode cX9_goThrough 0 = .ok (.aload_n 0, 1) := by decide +kernel
theorem dX9_goThrough_1 : decode cX9_goThrough 1 = .ok (.aload_n 1, 1) := by decide +kernel
theorem dX9_goThrough_2 : decode cX9_goThrough 2 = .ok (.putfield 18, 3) := by decide +kernel
theorem dX9_goThrough_5 : decode cX9_goThrough 5 = .ok (.aload_n 0, 1) := by decide +kernel
theorem dX9_goThrough_6 : decode cX9_goThrough 6 = .ok (.aload_n 2, 1) := by decide +kernel
theorem dX9_goThrough_7 : decode cX9_goThrough 7 = .ok (.putfield 22, 3) := by decide +kernel
theorem dX9_goThrough_10 : decode cX9_goThrough 10 = .ok (.aload_n 0, 1) := by decide +kernel
theorem dX9_goThrough_11 : decode cX9_goThrough 11 = .ok (.iload_n 3, 1) := by decide +kernel
theorem dX9_goThrough_12 : decode cX9_goThrough 12 = .ok (.putfield 26, 3) := by decide +kernel
theorem dX9_goThrough_15 : decode cX9_goThrough 15 = .ok (.aload_n 0, 1) := by decide +kernel
theorem dX9_goThrough_16 : decode cX9_goThrough 16 = .ok (.iconst 0, 1) := by decide +kernel
theorem dX9_goThrough_17 : decode cX9_goThrough 17 = .ok (.putfield 30, 3) := by decide +kernel
theorem dX9_goThrough_20 : decode cX9_goThrough 20 = .ok (.aload_n 0, 1) := by decide +kernel
theorem dX9_goThrough_21 : decode cX9_goThrough 21 = .ok (.iconst 0, 1) := by decide +kernel
theorem dX9_goThrough_22 : decode cX9_goThrough 22 = .ok (.putfield 33, 3) := by decide +kernel
theorem dX9_goThrough_25 : decode cX9_goThrough 25 = .ok (.aload_n 0, 1) := by decide +kernel
theorem dX9_goThrough_26 : decode cX9_goThrough 26 = .ok (.iconst 1, 1) := by decide +kernel
theorem dX9_goThrough_27 : decode cX9_goThrough 27 = .ok (.putfield 37, 3) := by decide +kernel
theorem dX9_goThrough_30 : decode cX9_goThrough 30 = .ok (.aload_n 0, 1) := by decide +kernel
theorem dX9_goThrough_31 : decode cX9_goThrough 31 = .ok (.iconst 0, 1) := by decide +kernel
theorem dX9_goThrough_32 : decode cX9_goThrough 32 = .ok (.putfield 40, 3) := by decide +kernel
theorem dX9_goThrough_35 : decode cX9_goThrough 35 = .ok (.aload_n 0, 1) := by decide +kernel
theorem dX9_goThrough_36 : decode cX9_goThrough 36 = .ok (.lconst 0, 1) := by decide +kernel
theorem dX9_goThrough_37 : decode cX9_goThrough 37 = .ok (.putfield 43, 3) := by decide +kernel
theorem dX9_goThrough_40 : decode cX9_goThrough 40 = .ok (.aload_n 0, 1) := by decide +kernel
theorem dX9_goThrough_41 : decode cX9_goThrough 41 = .ok (.iconst 0, 1) := by decide +kernel
theorem dX9_goThrough_42 : decode cX9_goThrough 42 = .ok (.putfield 47, 3) := by decide +kernel
theorem dX9_goThrough_45 : decode cX9_goThrough 45 = .ok (.aload_n 0, 1) := by decide +kernel
theorem dX9_goThrough_46 : decode cX9_goThrough 46 = .ok (.invokevirtual 50, 3) := by decide +kernel
theorem dX9_goThrough_49 : decode cX9_goThrough 49 = .ok (.iconst 0, 1) := by decide +kernel
theorem dX9_goThrough_50 : decode cX9_goThrough 50 = .ok (.istore 4, 2) := by decide +kernel
theorem dX9_goThrough_52 : decode cX9_goThrough 52 = .ok (.iload 4, 2) := by decide +kernel
theorem dX9_goThrough_54 : decode cX9_goThrough 54 = .ok (.sipush 200, 3) := by decide +kernel
theorem dX9_goThrough_57 : decode cX9_goThrough 57 = .ok (.if_icmp .ge 48, 3) := by decide +kernel
theorem dX9_goThrough_60 : decode cX9_goThrough 60 = .ok (.aload_n 0, 1) := by decide +kernel
theorem dX9_goThrough_61 : decode cX9_goThrough 61 = .ok (.getfield 33, 3) := by decide +kernel
theorem dX9_goThrough_64 : decode cX9_goThrough 64 = .ok (.ifCond .ne 41, 3) := by decide +kernel
theorem dX9_goThrough_67 : decode cX9_goThrough 67 = .ok (.aload_n 0, 1) := by decide +kernel
theorem dX9_goThrough_68 : decode cX9_goThrough 68 = .ok (.getfield 30, 3) := by decide +kernel
theorem dX9_goThrough_71 : decode cX9_goThrough 71 = .ok (.aload_n 0, 1) := by decide +kernel
theorem dX9_goThrough_72 : decode cX9_goThrough 72 = .ok (.getfield 18, 3) := by decide +kernel
theorem dX9_goThrough_75 : decode cX9_goThrough 75 = .ok (.getfield 53, 3) := by decide +kernel
theorem dX9_goThrough_78 : decode cX9_goThrough 78 = .ok (.if_icmp .ge 27, 3) := by decide +kernel
theorem dX9_goThrough_81 : decode cX9_goThrough 81 = .ok (.aload_n 0, 1) := by decide +kernel
theorem dX9_goThrough_82 : decode cX9_goThrough 82 = .ok (.dup, 1) := by decide +kernel
theorem dX9_goThrough_83 : decode cX9_goThrough 83 = .ok (.getfield 40, 3) := by decide +kernel
theorem dX9_goThrough_86 : decode cX9_goThrough 86 = .ok (.iconst 1, 1) := by decide +kernel
theorem dX9_goThrough_87 : decode cX9_goThrough 87 = .ok (.iadd, 1) := by decide +kernel
theorem dX9_goThrough_88 : decode cX9_goThrough 88 = .ok (.putfield 40, 3) := by decide +kernel
theorem dX9_goThrough_91 : decode cX9_goThrough 91 = .ok (.aload_n 0, 1) := by decide +kernel
theorem dX9_goThrough_92 : decode cX9_goThrough 92 = .ok (.invokevirtual 58, 3) := by decide +kernel
theorem dX9_goThrough_95 : decode cX9_goThrough 95 = .ok (.aload_n 0, 1) := by decide +kernel
theorem dX9_goThrough_96 : decode cX9_goThrough 96 = .ok (.invokevirtual 50, 3) := by decide +kernel
theorem dX9_goThrough_99 : decode cX9_goThrough 99 = .ok (.iinc 4 1, 3) := by decide +kernel
theorem dX9_goThrough_102 : decode cX9_goThrough 102 = .ok (.goto (-50), 3) := by decide +kernel
theorem dX9_goThrough_105 : decode cX9_goThrough 105 = .ok (.aload_n 0, 1) := by decide +kernel
theorem dX9_goThrough_106 : decode cX9_goThrough 106 = .ok (.aload_n 0, 1) := by decide +kernel
theorem dX9_goThrough_107 : decode cX9_goThrough 107 = .ok (.getfield 30, 3) := by decide +kernel
theorem dX9_goThrough_110 : decode cX9_goThrough 110 = .ok (.aload_n 0, 1) := by decide +kernel
theorem dX9_goThrough_111 : decode cX9_goThrough 111 = .ok (.getfield 18, 3) := by decide +kernel
theorem dX9_goThrough_114 : decode cX9_goThrough 114 = .ok (.getfield 53, 3) := by decide +kernel
theorem dX9_goThrough_117 : decode cX9_goThrough 117 = .ok (.if_icmp .ge 7, 3) := by decide +kernel
theorem dX9_goThrough_120 : decode cX9_goThrough 120 = .ok (.iconst 1, 1) := by decide +kernel
theorem dX9_goThrough_121 : decode cX9_goThrough 121 = .ok (.goto 4, 3) := by decide +kernel
theorem dX9_goThrough_124 : decode cX9_goThrough 124 = .ok (.iconst 0, 1) := by decide +kernel
theorem dX9_goThrough_125 : decode cX9_goThrough 125 = .ok (.putfield 61, 3) := by decide +kernel
theorem dX9_goThrough_128 : decode cX9_goThrough 128 = .ok (.return_, 1) := by decide +kernel
noncomputable def f_X9_goThrough_52 (v4 : Int32) (σ : am_H) : Option ((Int32 × am_H) ⊕ (am_H)) :=
  if v4 < 200 then
   (if (σ.1 9 0 3) = 0 then
    ((am_rr 2 (σ.2.2 9 0 0)).bind fun a3 =>
    if (σ.1 9 0 2) < (σ.1 4 a3 4) then
     ((some (am_wI σ 9 0 7 ((σ.1 9 0 7) + 1))).bind fun s5 =>
     (f_X9_doStep s5).bind fun p6 =>
     (f_X9_passEnds p6).bind fun p7 =>
     some (.inl ((v4 + 1), p7)))
    else
    some (.inr σ))
   else
   some (.inr σ))
  else
  some (.inr σ)
set_option maxRecDepth 100000 in
set_option maxHeartbeats 4000000 in
theorem q_X9_goThrough_52 {X : am_X} (hX : am_wC X) {Q : Option Value → am_H → Prop} (v4 : Int32) (σ : am_H) {o : (Int32 × am_H) ⊕ (am_H)} (hf : f_X9_goThrough_52 v4 σ = some o) (hk0 : ∀ s, o = .inl s → am_G X gm_X9_goThrough Q 52 [(0, .ref (am_ad X 9 0)), (4, .int s.1)] [] s.2) (hk1 : ∀ t, o = .inr t → am_G X gm_X9_goThrough Q 105 [(0, .ref (am_ad X 9 0))] [] t) : am_G X gm_X9_goThrough Q 52 [(0, .ref (am_ad X 9 0)), (4, .int v4)] [] σ := by
  unfold f_X9_goThrough_52 at hf
  refine g_iload (pc := 52) 1 rfl dX9_goThrough_52 ?_
  refine g_sipush (pc := 54) (v := 200) dX9_goThrough_54 (by decide) ?_
  refine bi_ge (pc := 57) 105 dX9_goThrough_57 rfl (fun c1 => ?_) (fun c1 => ?_)
  · replace hf := am_ifT c1 hf
    refine g_aload_n (pc := 60) 0 rfl dX9_goThrough_60 rfl ?_
    refine g_getZ (pc := 61) (in_9 hX.1 (by omega)) fr_X9_33 dX9_goThrough_61 ?_
    refine bz_ne (pc := 64) 105 dX9_goThrough_64 rfl (fun c2 => ?_) (fun c2 => ?_)
    · replace hf := am_ifT c2 hf
      refine g_aload_n (pc := 67) 0 rfl dX9_goThrough_67 rfl ?_
      refine g_getI (pc := 68) (in_9 hX.1 (by omega)) fr_X9_30 dX9_goThrough_68 ?_
      refine g_aload_n (pc := 71) 0 rfl dX9_goThrough_71 rfl ?_
      obtain ⟨a3, ha3, hf⟩ := am_bd hf
      obtain ⟨ha3, ga3⟩ := am_rr_in ha3
      refine g_getM (pc := 72) (in_9 hX.1 (by omega)) fr_X9_18 ha3 dX9_goThrough_72 ?_
      refine g_getI (pc := 75) (in_4 hX.1 (by omega)) fr_X9_53 dX9_goThrough_75 ?_
      refine bi_ge (pc := 78) 105 dX9_goThrough_78 rfl (fun c4 => ?_) (fun c4 => ?_)
      · replace hf := am_ifT c4 hf
        refine g_aload_n (pc := 81) 0 rfl dX9_goThrough_81 rfl ?_
        refine g_dup (pc := 82) dX9_goThrough_82 rfl ?_
        refine g_getI (pc := 83) (in_9 hX.1 (by omega)) fr_X9_40 dX9_goThrough_83 ?_
        refine g_iconst (pc := 86) (v := 1) dX9_goThrough_86 (by decide) ?_
        refine g_iadd (pc := 87) dX9_goThrough_87 ?_
        obtain ⟨s5, hs5, hf⟩ := am_bd hf
        refine g_setI (pc := 88) (in_9 hX.1 (by omega)) fr_X9_40 dX9_goThrough_88 (Option.some.inj hs5) ?_
        refine g_aload_n (pc := 91) 0 rfl dX9_goThrough_91 rfl ?_
        obtain ⟨p6, hp6, hf⟩ := am_bd hf
        refine g_cV (pc := 92) (As := []) (st := []) (st1 := []) (in_9 hX.1 (by omega)) kk_9 mV_X9_doStep ln_X9_58 rfl (Nat.le_of_ble_eq_true rfl) (Nat.le_of_ble_eq_true rfl) (k_X9_doStep hX s5 hp6) dX9_goThrough_92 rfl rfl ?_
        refine g_aload_n (pc := 95) 0 rfl dX9_goThrough_95 rfl ?_
        obtain ⟨p7, hp7, hf⟩ := am_bd hf
        refine g_cV (pc := 96) (As := []) (st := []) (st1 := []) (in_9 hX.1 (by omega)) kk_9 mV_X9_passEnds ln_X9_50 rfl (Nat.le_of_ble_eq_true rfl) (Nat.le_of_ble_eq_true rfl) (k_X9_passEnds hX p6 hp7) dX9_goThrough_96 rfl rfl ?_
        refine g_iinc (pc := 99) (v := (v4 + 1)) 1 [(4, .int (v4 + 1)), (0, .ref (am_ad X 9 0))] dX9_goThrough_99 rfl rfl (Nat.le_of_ble_eq_true rfl) rfl ?_
        refine g_goto (pc := 102) 52 dX9_goThrough_102 rfl ?_
        have hz := hk0 _ (Option.some.inj hf).symm
        exact am_sub [1, 0] rfl hz
      replace hf := am_ifF c4 hf
      have hz := hk1 _ (Option.some.inj hf).symm
      exact am_sub [0] rfl hz
    replace hf := am_ifF c2 hf
    have hz := hk1 _ (Option.some.inj hf).symm
    exact am_sub [0] rfl hz
  replace hf := am_ifF c1 hf
  have hz := hk1 _ (Option.some.inj hf).symm
  exact am_sub [0] rfl hz
set_option maxRecDepth 100000 in
set_option maxHeartbeats 4000000 in
theorem l_X9_goThrough_52 {X : am_X} (hX : am_wC X) {Q : Option Value → am_H → Prop} (σ : am_H) (s : Int32 × am_H) {o : am_H} (hf : am_loop (fun s => f_X9_goThrough_52 s.1 s.2) s = some o) (hk1 : ∀ t, o = t → am_G X gm_X9_goThrough Q 105 [(0, .ref (am_ad X 9 0))] [] t) : am_G X gm_X9_goThrough Q 52 [(0, .ref (am_ad X 9 0)), (4, .int s.1)] [] s.2 := by
  refine am_loop_ind (P := fun s => am_G X gm_X9_goThrough Q 52 [(0, .ref (am_ad X 9 0)), (4, .int s.1)] [] s.2) (K := fun r => r = o) ?_ hf rfl
  intro s o1 hb hi hr
  exact q_X9_goThrough_52 hX s.1  s.2 hb hi (fun t e => hk1 t (hr _ e).symm)
noncomputable def f_X9_goThrough_125 (k1 : Bool) (σ : am_H) : Option (am_H) :=
  (some (am_wI σ 9 0 11 (am_b k1))).bind fun s1 =>
  some s1
set_option maxRecDepth 100000 in
set_option maxHeartbeats 4000000 in
theorem q_X9_goThrough_125 {X : am_X} (hX : am_wC X) {Q : Option Value → am_H → Prop} (k1 : Bool) (σ : am_H) {o : am_H} (hf : f_X9_goThrough_125 k1 σ = some o) (hk : Q none o) : am_G X gm_X9_goThrough Q 125 [] [.int (am_b k1), .ref (am_ad X 9 0)] σ := by
  unfold f_X9_goThrough_125 at hf
  obtain ⟨s1, hs1, hf⟩ := am_bd hf
  refine g_setZ (x := k1) (pc := 125) (in_9 hX.1 (by omega)) fr_X9_61 dX9_goThrough_125 (Option.some.inj hs1) ?_
  have ho := Option.some.inj hf
  subst ho
  exact g_vreturn (pc := 128) (st := []) rfl dX9_goThrough_128 hk
noncomputable def f_X9_goThrough (r1 : Nat) (r2 : Nat) (v3 : Int32) (σ : am_H) : Option (am_H) :=
  (some (am_wR σ 9 0 0 (some r1))).bind fun s1 =>
  (some (am_wR s1 9 0 1 (some r2))).bind fun s2 =>
  (some (am_wI s2 9 0 6 v3)).bind fun s3 =>
  (some (am_wI s3 9 0 2 0)).bind fun s4 =>
  (some (am_wI s4 9 0 3 (am_b false))).bind fun s5 =>
  (some (am_wI s5 9 0 5 (am_b true))).bind fun s6 =>
  (some (am_wI s6 9 0 7 0)).bind fun s7 =>
  (some (am_wL s7 9 0 8 0)).bind fun s8 =>
  (some (am_wI s8 9 0 9 0)).bind fun s9 =>
  (f_X9_passEnds s9).bind fun p10 =>
  (am_loop (fun s => f_X9_goThrough_52 s.1 s.2) (0, p10)).bind fun w11 =>
  (am_rr 2 (w11.2.2 9 0 0)).bind fun a12 =>
  if (w11.1 9 0 2) < (w11.1 4 a12 4) then
   (f_X9_goThrough_125 true w11)
  else
  f_X9_goThrough_125 false w11
set_option maxRecDepth 100000 in
set_option maxHeartbeats 4000000 in
theorem q_X9_goThrough {X : am_X} (hX : am_wC X) {Q : Option Value → am_H → Prop} (r1 : Nat) (r2 : Nat) (v3 : Int32) (hr1 : r1 < 2) (hr2 : r2 < 3) (σ : am_H) {o : am_H} (hf : f_X9_goThrough r1 r2 v3 σ = some o) (hk : Q none o) : am_G X gm_X9_goThrough Q 0 [(0, .ref (am_ad X 9 0)), (1, .ref (am_ad X 4 r1)), (2, .ref (am_ad X 3 r2)), (3, .int v3)] [] σ := by
  unfold f_X9_goThrough at hf
  refine g_aload_n (pc := 0) 0 rfl dX9_goThrough_0 rfl ?_
  refine g_aload_n (pc := 1) 1 rfl dX9_goThrough_1 rfl ?_
  obtain ⟨s1, hs1, hf⟩ := am_bd hf
  refine g_setM (pc := 2) (in_9 hX.1 (by omega)) fr_X9_18 dX9_goThrough_2 (Option.some.inj hs1) ?_
  refine g_aload_n (pc := 5) 0 rfl dX9_goThrough_5 rfl ?_
  refine g_aload_n (pc := 6) 2 rfl dX9_goThrough_6 rfl ?_
  obtain ⟨s2, hs2, hf⟩ := am_bd hf
  refine g_setM (pc := 7) (in_9 hX.1 (by omega)) fr_X9_22 dX9_goThrough_7 (Option.some.inj hs2) ?_
  refine g_aload_n (pc := 10) 0 rfl dX9_goThrough_10 rfl ?_
  refine g_iload_n (pc := 11) 3 rfl dX9_goThrough_11 rfl ?_
  obtain ⟨s3, hs3, hf⟩ := am_bd hf
  refine g_setI (pc := 12) (in_9 hX.1 (by omega)) fr_X9_26 dX9_goThrough_12 (Option.some.inj hs3) ?_
  refine g_aload_n (pc := 15) 0 rfl dX9_goThrough_15 rfl ?_
  refine g_iconst (pc := 16) (v := 0) dX9_goThrough_16 (by decide) ?_
  obtain ⟨s4, hs4, hf⟩ := am_bd hf
  refine g_setI (pc := 17) (in_9 hX.1 (by omega)) fr_X9_30 dX9_goThrough_17 (Option.some.inj hs4) ?_
  refine g_aload_n (pc := 20) 0 rfl dX9_goThrough_20 rfl ?_
  refine g_iconst (pc := 21) (v := 0) dX9_goThrough_21 (by decide) ?_
  obtain ⟨s5, hs5, hf⟩ := am_bd hf
  refine g_setZ (x := false) (pc := 22) (in_9 hX.1 (by omega)) fr_X9_33 dX9_goThrough_22 (Option.some.inj hs5) ?_
  refine g_aload_n (pc := 25) 0 rfl dX9_goThrough_25 rfl ?_
  refine g_iconst (pc := 26) (v := 1) dX9_goThrough_26 (by decide) ?_
  obtain ⟨s6, hs6, hf⟩ := am_bd hf
  refine g_setZ (x := true) (pc := 27) (in_9 hX.1 (by omega)) fr_X9_37 dX9_goThrough_27 (Option.some.inj hs6) ?_
  refine g_aload_n (pc := 30) 0 rfl dX9_goThrough_30 rfl ?_
  refine g_iconst (pc := 31) (v := 0) dX9_goThrough_31 (by decide) ?_
  obtain ⟨s7, hs7, hf⟩ := am_bd hf
  refine g_setI (pc := 32) (in_9 hX.1 (by omega)) fr_X9_40 dX9_goThrough_32 (Option.some.inj hs7) ?_
  refine g_aload_n (pc := 35) 0 rfl dX9_goThrough_35 rfl ?_
  refine g_lconst (pc := 36) (v := 0) dX9_goThrough_36 (by decide) ?_
  obtain ⟨s8, hs8, hf⟩ := am_bd hf
  refine g_setJ (pc := 37) (in_9 hX.1 (by omega)) fr_X9_43 dX9_goThrough_37 (Option.some.inj hs8) ?_
  refine g_aload_n (pc := 40) 0 rfl dX9_goThrough_40 rfl ?_
  refine g_iconst (pc := 41) (v := 0) dX9_goThrough_41 (by decide) ?_
  obtain ⟨s9, hs9, hf⟩ := am_bd hf
  refine g_setI (pc := 42) (in_9 hX.1 (by omega)) fr_X9_47 dX9_goThrough_42 (Option.some.inj hs9) ?_
  refine g_aload_n (pc := 45) 0 rfl dX9_goThrough_45 rfl ?_
  obtain ⟨p10, hp10, hf⟩ := am_bd hf
  refine g_cV (pc := 46) (As := []) (st := []) (st1 := []) (in_9 hX.1 (by omega)) kk_9 mV_X9_passEnds ln_X9_50 rfl (Nat.le_of_ble_eq_true rfl) (Nat.le_of_ble_eq_true rfl) (k_X9_passEnds hX s9 hp10) dX9_goThrough_46 rfl rfl ?_
  refine g_iconst (pc := 49) (v := 0) dX9_goThrough_49 (by decide) ?_
  refine g_istore (pc := 50) [(4, .int 0), (0, .ref (am_ad X 9 0)), (1, .ref (am_ad X 4 r1)), (2, .ref (am_ad X 3 r2)), (3, .int v3)] dX9_goThrough_50 (Nat.le_of_ble_eq_true rfl) rfl ?_
  obtain ⟨w11, hw11, hf⟩ := am_bd hf
  refine am_sub [1, 0] rfl (l_X9_goThrough_52 hX  p10 (0, p10) hw11 ?_)
  intro t e
  subst e
  refine g_aload_n (pc := 105) 0 rfl dX9_goThrough_105 rfl ?_
  refine g_aload_n (pc := 106) 0 rfl dX9_goThrough_106 rfl ?_
  refine g_getI (pc := 107) (in_9 hX.1 (by omega)) fr_X9_30 dX9_goThrough_107 ?_
  refine g_aload_n (pc := 110) 0 rfl dX9_goThrough_110 rfl ?_
  obtain ⟨a12, ha12, hf⟩ := am_bd hf
  obtain ⟨ha12, ga12⟩ := am_rr_in ha12
  refine g_getM (pc := 111) (in_9 hX.1 (by omega)) fr_X9_18 ha12 dX9_goThrough_111 ?_
  refine g_getI (pc := 114) (in_4 hX.1 (by omega)) fr_X9_53 dX9_goThrough_114 ?_
  refine bi_ge (pc := 117) 124 dX9_goThrough_117 rfl (fun c13 => ?_) (fun c13 => ?_)
  · replace hf := am_ifT c13 hf
    refine g_iconst (pc := 120) (v := 1) dX9_goThrough_120 (by decide) ?_
    refine g_goto (pc := 121) 125 dX9_goThrough_121 rfl ?_
    exact am_sub [] rfl (q_X9_goThrough_125 hX true w11 hf hk)
  replace hf := am_ifF c13 hf
  refine g_iconst (pc := 124) (v := 0) dX9_goThrough_124 (by decide) ?_
  exact am_sub [] rfl (q_X9_goThrough_125 hX false w11 hf hk)
theorem k_X9_goThrough {X : am_X} (hX : am_wC X) (r1 : Nat) (r2 : Nat) (v3 : Int32) (hr1 : r1 < 2) (hr2 : r2 < 3) (σ : am_H) {o : am_H} (hf : f_X9_goThrough r1 r2 v3 σ = some o) : am_C X gm_X9_goThrough [.ref (am_ad X 9 0), .ref (am_ad X 4 r1), .ref (am_ad X 3 r2), .int v3] σ (am_is none o) :=
  am_ofG rfl (Nat.le_of_ble_eq_true rfl) rfl (q_X9_goThrough hX r1 r2 v3 hr1 hr2 σ hf ⟨rfl, rfl⟩)
theorem dX10_wearOf_0 : decode cX10_wearOf 0 = .ok (.iload_n 2, 1) := by decide +kernel
theorem dX10_wearOf_1 : decode cX10_wearOf 1 = .ok (.i2l, 1) := by decide +kernel
theorem dX10_wearOf_2 : decode cX10_wearOf 2 = .ok (.aload_n 0, 1) := by decide +kernel
theorem dX10_wearOf_3 : decode cX10_wearOf 3 = .ok (.getfield 18, 3) := by decide +kernel
theorem dX10_wearOf_6 : decode cX10_wearOf 6 = .ok (.iconst 0, 1) := by decide +kernel
theorem dX10_wearOf_7 : decode cX10_wearOf 7 = .ok (.iaload, 1) := by decide +kernel
theorem dX10_wearOf_8 : decode cX10_wearOf 8 = .ok (.i2l, 1) := by decide +kernel
theorem dX10_wearOf_9 : decode cX10_wearOf 9 = .ok (.lmul, 1) := by decide +kernel
theorem dX10_wearOf_10 : decode cX10_wearOf 10 = .ok (.lstore_n 3, 1) := by decide +kernel
theorem dX10_wearOf_11 : decode cX10_wearOf 11 = .ok (.iload_n 1, 1) := by decide +kernel
theorem dX10_wearOf_12 : decode cX10_wearOf 12 = .ok (.iconst 2, 1) := by decide +kernel
theorem dX10_wearOf_13 : decode cX10_wearOf 13 = .ok (.if_icmp .ge 10, 3) := by decide +kernel
theorem dX10_wearOf_16 : decode cX10_wearOf 16 = .ok (.lload_n 3, 1) := by decide +kernel
theorem dX10_wearOf_17 : decode cX10_wearOf 17 = .ok (.ldc2_w 44, 3) := by decide +kernel
theorem dX10_wearOf_20 : decode cX10_wearOf 20 = .ok (.ldiv, 1) := by decide +kernel
theorem dX10_wearOf_21 : decode cX10_wearOf 21 = .ok (.l2i, 1) := by decide +kernel
theorem dX10_wearOf_22 : decode cX10_wearOf 22 = .ok (.ireturn, 1) := by decide +kernel
theorem dX10_wearOf_23 : decode cX10_wearOf 23 = .ok (.ldc2_w 44, 3) := by decide +kernel
theorem dX10_wearOf_26 : decode cX10_wearOf 26 = .ok (.aload_n 0, 1) := by decide +kernel
theorem dX10_wearOf_27 : decode cX10_wearOf 27 = .ok (.getfield 18, 3) := by decide +kernel
theorem dX10_wearOf_30 : decode cX10_wearOf 30 = .ok (.iconst 1, 1) := by decide +kernel
theorem dX10_wearOf_31 : decode cX10_wearOf 31 = .ok (.iaload, 1) := by decide +kernel
theorem dX10_wearOf_32 : decode cX10_wearOf 32 = .ok (.i2l, 1) := by decide +kernel
theorem dX10_wearOf_33 : decode cX10_wearOf 33 = .ok (.lmul, 1) := by decide +kernel
theorem dX10_wearOf_34 : decode cX10_wearOf 34 = .ok (.lstore 5, 2) := by decide +kernel
theorem dX10_wearOf_36 : decode cX10_wearOf 36 = .ok (.lload 5, 2) := by decide +kernel
theorem dX10_wearOf_38 : decode cX10_wearOf 38 = .ok (.lconst 0, 1) := by decide +kernel
theorem dX10_wearOf_39 : decode cX10_wearOf 39 = .ok (.lcmp, 1) := by decide +kernel
theorem dX10_wearOf_40 : decode cX10_wearOf 40 = .ok (.ifCond .gt 7, 3) := by decide +kernel
theorem dX10_wearOf_43 : decode cX10_wearOf 43 = .ok (.iconst 0, 1) := by decide +kernel
theorem dX10_wearOf_44 : decode cX10_wearOf 44 = .ok (.goto 16, 3) := by decide +kernel
theorem dX10_wearOf_47 : decode cX10_wearOf 47 = .ok (.lload_n 3, 1) := by decide +kernel
theorem dX10_wearOf_48 : decode cX10_wearOf 48 = .ok (.aload_n 0, 1) := by decide +kernel
theorem dX10_wearOf_49 : decode cX10_wearOf 49 = .ok (.getfield 18, 3) := by decide +kernel
theorem dX10_wearOf_52 : decode cX10_wearOf 52 = .ok (.iconst 2, 1) := by decide +kernel
theorem dX10_wearOf_53 : decode cX10_wearOf 53 = .ok (.iaload, 1) := by decide +kernel
theorem dX10_wearOf_54 : decode cX10_wearOf 54 = .ok (.i2l, 1) := by decide +kernel
theorem dX10_wearOf_55 : decode cX10_wearOf 55 = .ok (.lmul, 1) := by decide +kernel
theorem dX10_wearOf_56 : decode cX10_wearOf 56 = .ok (.lload 5, 2) := by decide +kernel
theorem dX10_wearOf_58 : decode cX10_wearOf 58 = .ok (.ldiv, 1) := by decide +kernel
theorem dX10_wearOf_59 : decode cX10_wearOf 59 = .ok (.l2i, 1) := by decide +kernel
theorem dX10_wearOf_60 : decode cX10_wearOf 60 = .ok (.ireturn, 1) := by decide +kernel
noncomputable def f_X10_wearOf (r0 : Nat) (v1 : Int32) (v2 : Int32) (σ : am_H) : Option (Int32) :=
  (am_ix 4 0).bind fun j1 =>
  if v1 < 2 then
   (some (Int64.toInt32 (((Int32.toInt64 v2) * (Int32.toInt64 (σ.1 1106 r0 j1))) / 24)))
  else
  (am_ix 4 1).bind fun j3 =>
  if 0 < (24 * (Int32.toInt64 (σ.1 1106 r0 j3))) then
   ((am_ix 4 2).bind fun j5 =>
   if (24 * (Int32.toInt64 (σ.1 1106 r0 j3))) = 0 then none else
   some (Int64.toInt32 ((((Int32.toInt64 v2) * (Int32.toInt64 (σ.1 1106 r0 j1))) * (Int32.toInt64 (σ.1 1106 r0 j5))) / (24 * (Int32.toInt64 (σ.1 1106 r0 j3))))))
  else
  some 0
set_option maxRecDepth 100000 in
set_option maxHeartbeats 4000000 in
theorem q_X10_wearOf {X : am_X} (hX : am_wC X) {Q : Option Value → am_H → Prop} (r0 : Nat) (v1 : Int32) (v2 : Int32) (hr0 : r0 < 18) (σ : am_H) {o : Int32} (hf : f_X10_wearOf r0 v1 v2 σ = some o) (hk : Q (some (.int o)) σ) : am_G X gm_X10_wearOf Q 0 [(0, .ref (am_ad X 10 r0)), (1, .int v1), (2, .int v2)] [] σ := by
  unfold f_X10_wearOf at hf
  refine g_iload_n (pc := 0) 2 rfl dX10_wearOf_0 rfl ?_
  refine g_i2l (pc := 1) dX10_wearOf_1 ?_
  refine g_aload_n (pc := 2) 0 rfl dX10_wearOf_2 rfl ?_
  refine g_getC (pc := 3) (e := r0) (in_10 hX.1 (by omega)) fr_X10_18 dX10_wearOf_3 rfl ?_
  refine g_iconst (pc := 6) (v := 0) dX10_wearOf_6 (by decide) ?_
  obtain ⟨j1, hj1, hf⟩ := am_bd hf
  have gj1 := am_ix_lt hj1
  refine g_aI (pc := 7) (in_1106 hX.1 (by omega)) ak_1106 hj1 dX10_wearOf_7 ?_
  refine g_i2l (pc := 8) dX10_wearOf_8 ?_
  refine g_lmul (pc := 9) dX10_wearOf_9 ?_
  refine g_lstore_n (pc := 10) [(3, .long ((Int32.toInt64 v2) * (Int32.toInt64 (σ.1 1106 r0 j1)))), (0, .ref (am_ad X 10 r0)), (1, .int v1), (2, .int v2)] dX10_wearOf_10 rfl (Nat.le_of_ble_eq_true rfl) rfl ?_
  refine g_iload_n (pc := 11) 2 rfl dX10_wearOf_11 rfl ?_
  refine g_iconst (pc := 12) (v := 2) dX10_wearOf_12 (by decide) ?_
  refine bi_ge (pc := 13) 23 dX10_wearOf_13 rfl (fun c2 => ?_) (fun c2 => ?_)
  · replace hf := am_ifT c2 hf
    refine g_lload_n (pc := 16) 0 rfl dX10_wearOf_16 rfl ?_
    refine g_ldc2 (pc := 17) (v := 24) (tb_4 (List.mem_of_getElem? (i := 181) (by decide +kernel))) dX10_wearOf_17 ?_
    refine g_ldiv (pc := 20) dX10_wearOf_20 (by decide) ?_
    refine g_l2i (pc := 21) dX10_wearOf_21 ?_
    have ho := Option.some.inj hf
    subst ho
    exact g_ireturn (pc := 22) (st := []) rfl dX10_wearOf_22 hk
  replace hf := am_ifF c2 hf
  refine g_ldc2 (pc := 23) (v := 24) (tb_4 (List.mem_of_getElem? (i := 181) (by decide +kernel))) dX10_wearOf_23 ?_
  refine g_aload_n (pc := 26) 1 rfl dX10_wearOf_26 rfl ?_
  refine g_getC (pc := 27) (e := r0) (in_10 hX.1 (by omega)) fr_X10_18 dX10_wearOf_27 rfl ?_
  refine g_iconst (pc := 30) (v := 1) dX10_wearOf_30 (by decide) ?_
  obtain ⟨j3, hj3, hf⟩ := am_bd hf
  have gj3 := am_ix_lt hj3
  refine g_aI (pc := 31) (in_1106 hX.1 (by omega)) ak_1106 hj3 dX10_wearOf_31 ?_
  refine g_i2l (pc := 32) dX10_wearOf_32 ?_
  refine g_lmul (pc := 33) dX10_wearOf_33 ?_
  refine g_lstore (pc := 34) [(5, .long (24 * (Int32.toInt64 (σ.1 1106 r0 j3)))), (3, .long ((Int32.toInt64 v2) * (Int32.toInt64 (σ.1 1106 r0 j1)))), (0, .ref (am_ad X 10 r0)), (1, .int v1), (2, .int v2)] dX10_wearOf_34 (Nat.le_of_ble_eq_true rfl) rfl ?_
  refine g_lload (pc := 36) 0 rfl dX10_wearOf_36 ?_
  refine g_lconst (pc := 38) (v := 0) dX10_wearOf_38 (by decide) ?_
  refine g_lcm (pc := 39) dX10_wearOf_39 ?_
  refine bl_gt (pc := 40) 47 dX10_wearOf_40 rfl (fun c4 => ?_) (fun c4 => ?_)
  · replace hf := am_ifT c4 hf
    refine g_lload_n (pc := 47) 1 rfl dX10_wearOf_47 rfl ?_
    refine g_aload_n (pc := 48) 2 rfl dX10_wearOf_48 rfl ?_
    refine g_getC (pc := 49) (e := r0) (in_10 hX.1 (by omega)) fr_X10_18 dX10_wearOf_49 rfl ?_
    refine g_iconst (pc := 52) (v := 2) dX10_wearOf_52 (by decide) ?_
    obtain ⟨j5, hj5, hf⟩ := am_bd hf
    have gj5 := am_ix_lt hj5
    refine g_aI (pc := 53) (in_1106 hX.1 (by omega)) ak_1106 hj5 dX10_wearOf_53 ?_
    refine g_i2l (pc := 54) dX10_wearOf_54 ?_
    refine g_lmul (pc := 55) dX10_wearOf_55 ?_
    refine g_lload (pc := 56) 0 rfl dX10_wearOf_56 ?_
    by_cases z6 : (24 * (Int32.toInt64 (σ.1 1106 r0 j3))) = 0
    · exact absurd (am_ifT z6 hf) (by simp)
    replace hf := am_ifF z6 hf
    refine g_ldiv (pc := 58) dX10_wearOf_58 z6 ?_
    refine g_l2i (pc := 59) dX10_wearOf_59 ?_
    have ho := Option.some.inj hf
    subst ho
    exact g_ireturn (pc := 60) (st := []) rfl dX10_wearOf_60 hk
  replace hf := am_ifF c4 hf
  refine g_iconst (pc := 43) (v := 0) dX10_wearOf_43 (by decide) ?_
  refine g_goto (pc := 44) 60 dX10_wearOf_44 rfl ?_
  have ho := Option.some.inj hf
  subst ho
  exact g_ireturn (pc := 60) (st := []) rfl dX10_wearOf_60 hk
theorem k_X10_wearOf {X : am_X} (hX : am_wC X) (r0 : Nat) (v1 : Int32) (v2 : Int32) (hr0 : r0 < 18) (σ : am_H) {o : Int32} (hf : f_X10_wearOf r0 v1 v2 σ = some o) : am_C X gm_X10_wearOf [.ref (am_ad X 10 r0), .int v1, .int v2] σ (am_is (some (.int o)) σ) :=
  am_ofG rfl (Nat.le_of_ble_eq_true rfl) rfl (q_X10_wearOf hX r0 v1 v2 hr0 σ hf ⟨rfl, rfl⟩)
theorem dX11_status_0 : decode cX11_status 0 = .ok (.aload_n 0, 1) := by decide +kernel
theorem dX11_status_1 : decode cX11_status 1 = .ok (.getfield 9, 3) := by decide +kernel
theorem dX11_status_4 : decode cX11_status 4 = .ok (.ireturn, 1) := by decide +kernel
noncomputable def f_X11_status (σ : am_H) : Option (Int32) :=
  some (σ.1 11 0 0)
set_option maxRecDepth 100000 in
set_option maxHeartbeats 4000000 in
theorem q_X11_status {X : am_X} (hX : am_wC X) {Q : Option Value → am_H → Prop} (σ : am_H) {o : Int32} (hf : f_X11_status σ = some o) (hk : Q (some (.int o)) σ) : am_G X gm_X11_status Q 0 [(0, .ref (am_ad X 11 0))] [] σ := by
  unfold f_X11_status at hf
  refine g_aload_n (pc := 0) 0 rfl dX11_status_0 rfl ?_
  refine g_getI (pc := 1) (in_11 hX.1 (by omega)) fr_X11_9 dX11_status_1 ?_
  have ho := Option.some.inj hf
  subst ho
  exact g_ireturn (pc := 4) (st := []) rfl dX11_status_4 hk
theorem k_X11_status {X : am_X} (hX : am_wC X) (σ : am_H) {o : Int32} (hf : f_X11_status σ = some o) : am_C X gm_X11_status [.ref (am_ad X 11 0)] σ (am_is (some (.int o)) σ) :=
  am_ofG rfl (Nat.le_of_ble_eq_true rfl) rfl (q_X11_status hX σ hf ⟨rfl, rfl⟩)
theorem dX11_top_0 : decode cX11_top 0 = .ok (.aload_n 0, 1) := by decide +kernel
theorem dX11_top_1 : decode cX11_top 1 = .ok (.getfield 13, 3) := by decide +kernel
theorem dX11_top_4 : decode cX11_top 4 = .ok (.lreturn, 1) := by decide +kernel
noncomputable def f_X11_top (σ : am_H) : Option (Int64) :=
  some (σ.2.1 11 0 1)
set_option maxRecDepth 100000 in
set_option maxHeartbeats 4000000 in
theorem q_X11_top {X : am_X} (hX : am_wC X) {Q : Option Value → am_H → Prop} (σ : am_H) {o : Int64} (hf : f_X11_top σ = some o) (hk : Q (some (.long o)) σ) : am_G X gm_X11_top Q 0 [(0, .ref (am_ad X 11 0))] [] σ := by
  unfold f_X11_top at hf
  refine g_aload_n (pc := 0) 0 rfl dX11_top_0 rfl ?_
  refine g_getJ (pc := 1) (in_11 hX.1 (by omega)) fr_X11_13 dX11_top_1 ?_
  have ho := Option.some.inj hf
  subst ho
  exact g_lreturn (pc := 4) (st := []) rfl dX11_top_4 hk
theorem k_X11_top {X : am_X} (hX : am_wC X) (σ : am_H) {o : Int64} (hf : f_X11_top σ = some o) : am_C X gm_X11_top [.ref (am_ad X 11 0)] σ (am_is (some (.long o)) σ) :=
  am_ofG rfl (Nat.le_of_ble_eq_true rfl) rfl (q_X11_top hX σ hf ⟨rfl, rfl⟩)
theorem dX11_bottom_0 : decode cX11_bottom 0 = .ok (.aload_n 0, 1) := by decide +kernel
theorem dX11_bottom_1 : decode cX11_bottom 1 = .ok (.getfield 17, 3) := by decide +kernel
theorem dX11_bottom_4 : decode cX11_bottom 4 = .ok (.lreturn, 1) := by decide +kernel
noncomputable def f_X11_bottom (σ : am_H) : Option (Int64) :=
  some (σ.2.1 11 0 2)
set_option maxRecDepth 100000 in
set_option maxHeartbeats 4000000 in
theorem q_X11_bottom {X : am_X} (hX : am_wC X) {Q : Option Value → am_H → Prop} (σ : am_H) {o : Int64} (hf : f_X11_bottom σ = some o) (hk : Q (some (.long o)) σ) : am_G X gm_X11_bottom Q 0 [(0, .ref (am_ad X 11 0))] [] σ := by
  unfold f_X11_bottom at hf
  refine g_aload_n (pc := 0) 0 rfl dX11_bottom_0 rfl ?_
  refine g_getJ (pc := 1) (in_11 hX.1 (by omega)) fr_X11_17 dX11_bottom_1 ?_
  have ho := Option.some.inj hf
  subst ho
  exact g_lreturn (pc := 4) (st := []) rfl dX11_bottom_4 hk
theorem k_X11_bottom {X : am_X} (hX : am_wC X) (σ : am_H) {o : Int64} (hf : f_X11_bottom σ = some o) : am_C X gm_X11_bottom [.ref (am_ad X 11 0)] σ (am_is (some (.long o)) σ) :=
  am_ofG rfl (Nat.le_of_ble_eq_true rfl) rfl (q_X11_bottom hX σ hf ⟨rfl, rfl⟩)
theorem dX11_trayOf_0 : decode cX11_trayOf 0 = .ok (.iload_n 1, 1) := by decide +kernel
theorem dX11_trayOf_1 : decode cX11_trayOf 1 = .ok (.ifCond .lt 8, 3) := by decide +kernel
theorem dX11_trayOf_4 : decode cX11_trayOf 4 = .ok (.iload_n 1, 1) := by decide +kernel
theorem dX11_trayOf_5 : decode cX11_trayOf 5 = .ok (.iconst 5, 1) := by decide +kernel
theorem dX11_trayOf_6 : decode cX11_trayOf 6 = .ok (.if_icmp .lt 7, 3) := by decide +kernel
theorem dX11_trayOf_9 : decode cX11_trayOf 9 = .ok (.aconst_null, 1) := by decide +kernel
theorem dX11_trayOf_10 : decode cX11_trayOf 10 = .ok (.goto 9, 3) := by decide +kernel
theorem dX11_trayOf_13 : decode cX11_trayOf 13 = .ok (.aload_n 0, 1) := by decide +kernel
theorem dX11_trayOf_14 : decode cX11_trayOf 14 = .ok (.getfield 29, 3) := by decide +kernel
theorem dX11_trayOf_17 : decode cX11_trayOf 17 = .ok (.iload_n 1, 1) := by decide +kernel
theorem dX11_trayOf_18 : decode cX11_trayOf 18 = .ok (.aaload, 1) := by decide +kernel
theorem dX11_trayOf_19 : decode cX11_trayOf 19 = .ok (.areturn, 1) := by decide +kernel
noncomputable def f_X11_trayOf (v1 : Int32) (σ : am_H) : Option (Option Nat) :=
  if v1 < 0 then
   (some none)
  else
  if v1 < 5 then
   ((am_ix 5 v1).bind fun j3 =>
   some (some j3))
  else
  some none
set_option maxRecDepth 100000 in
set_option maxHeartbeats 4000000 in
theorem q_X11_trayOf {X : am_X} (hX : am_wC X) {Q : Option Value → am_H → Prop} (v1 : Int32) (σ : am_H) {o : Option Nat} (hf : f_X11_trayOf v1 σ = some o) (hk : Q (some (va_rf (o.map (am_ad X 8)))) σ) : am_G X gm_X11_trayOf Q 0 [(0, .ref (am_ad X 11 0)), (1, .int v1)] [] σ := by
  unfold f_X11_trayOf at hf
  refine g_iload_n (pc := 0) 1 rfl dX11_trayOf_0 rfl ?_
  refine bz_lt (pc := 1) 9 dX11_trayOf_1 rfl (fun c1 => ?_) (fun c1 => ?_)
  · replace hf := am_ifT c1 hf
    refine g_null (pc := 9) dX11_trayOf_9 ?_
    refine g_goto (pc := 10) 19 dX11_trayOf_10 rfl ?_
    have ho := Option.some.inj hf
    subst ho
    exact g_areturn (pc := 19) (st := []) rfl (Or.inl rfl) dX11_trayOf_19 hk
  replace hf := am_ifF c1 hf
  refine g_iload_n (pc := 4) 1 rfl dX11_trayOf_4 rfl ?_
  refine g_iconst (pc := 5) (v := 5) dX11_trayOf_5 (by decide) ?_
  refine bi_lt (pc := 6) 13 dX11_trayOf_6 rfl (fun c2 => ?_) (fun c2 => ?_)
  · replace hf := am_ifT c2 hf
    refine g_aload_n (pc := 13) 0 rfl dX11_trayOf_13 rfl ?_
    refine g_getC (pc := 14) (e := 0) (in_11 hX.1 (by omega)) fr_X11_29 dX11_trayOf_14 rfl ?_
    refine g_iload_n (pc := 17) 1 rfl dX11_trayOf_17 rfl ?_
    obtain ⟨j3, hj3, hf⟩ := am_bd hf
    have gj3 := am_ix_lt hj3
    refine g_aC (pc := 18) (e := j3) (in_1204 hX.1 (by omega)) ak_1204 hj3 rfl dX11_trayOf_18 ?_
    have ho := Option.some.inj hf
    subst ho
    exact g_areturn (pc := 19) (st := []) rfl (Or.inr ⟨_, rfl⟩) dX11_trayOf_19 hk
  replace hf := am_ifF c2 hf
  refine g_null (pc := 9) dX11_trayOf_9 ?_
  refine g_goto (pc := 10) 19 dX11_trayOf_10 rfl ?_
  have ho := Option.some.inj hf
  subst ho
  exact g_areturn (pc := 19) (st := []) rfl (Or.inl rfl) dX11_trayOf_19 hk
theorem k_X11_trayOf {X : am_X} (hX : am_wC X) (v1 : Int32) (σ : am_H) {o : Option Nat} (hf : f_X11_trayOf v1 σ = some o) : am_C X gm_X11_trayOf [.ref (am_ad X 11 0), .int v1] σ (am_is (some (va_rf (o.map (am_ad X 8)))) σ) :=
  am_ofG rfl (Nat.le_of_ble_eq_true rfl) rfl (q_X11_trayOf hX v1 σ hf ⟨rfl, rfl⟩)
theorem dX11_no_0 : decode cX11_no 0 = .ok (.aload_n 0, 1) := by decide +kernel
theorem dX11_no_1 : decode cX11_no 1 = .ok (.iload_n 1, 1) := by decide +kernel
theorem dX11_no_2 : decode cX11_no 2 = .ok (.putfield 9, 3) := by decide +kernel
theorem dX11_no_5 : decode cX11_no 5 = .ok (.iconst 0, 1) := by decide +kernel
theorem dX11_no_6 : decode cX11_no 6 = .ok (.ireturn, 1) := by decide +kernel
noncomputable def f_X11_no (v1 : Int32) (σ : am_H) : Option (Bool × am_H) :=
  (some (am_wI σ 11 0 0 v1)).bind fun s1 =>
  some (false, s1)
set_option maxRecDepth 100000 in
set_option maxHeartbeats 4000000 in
theorem q_X11_no {X : am_X} (hX : am_wC X) {Q : Option Value → am_H → Prop} (v1 : Int32) (σ : am_H) {o : Bool × am_H} (hf : f_X11_no v1 σ = some o) (hk : Q (some (.int (am_b o.1))) o.2) : am_G X gm_X11_no Q 0 [(0, .ref (am_ad X 11 0)), (1, .int v1)] [] σ := by
  unfold f_X11_no at hf
  refine g_aload_n (pc := 0) 0 rfl dX11_no_0 rfl ?_
  refine g_iload_n (pc := 1) 1 rfl dX11_no_1 rfl ?_
  obtain ⟨s1, hs1, hf⟩ := am_bd hf
  refine g_setI (pc := 2) (in_11 hX.1 (by omega)) fr_X11_9 dX11_no_2 (Option.some.inj hs1) ?_
  refine g_iconst (pc := 5) (v := 0) dX11_no_5 (by decide) ?_
  have ho := Option.some.inj hf
  subst ho
  exact g_zreturn (pc := 6) (st := []) (x := false) rfl dX11_no_6 hk
theorem k_X11_no {X : am_X} (hX : am_wC X) (v1 : Int32) (σ : am_H) {o : Bool × am_H} (hf : f_X11_no v1 σ = some o) : am_C X gm_X11_no [.ref (am_ad X 11 0), .int v1] σ (am_is (some (.int (am_b o.1))) o.2) :=
  am_ofG rfl (Nat.le_of_ble_eq_true rfl) rfl (q_X11_no hX v1 σ hf ⟨rfl, rfl⟩)
theorem dX11_yes_0 : decode cX11_yes 0 = .ok (.aload_n 0, 1) := by decide +kernel
theorem dX11_yes_1 : decode cX11_yes 1 = .ok (.iconst 0, 1) := by decide +kernel
theorem dX11_yes_2 : decode cX11_yes 2 = .ok (.putfield 9, 3) := by decide +kernel
theorem dX11_yes_5 : decode cX11_yes 5 = .ok (.iconst 1, 1) := by decide +kernel
theorem dX11_yes_6 : decode cX11_yes 6 = .ok (.ireturn, 1) := by decide +kernel
noncomputable def f_X11_yes (σ : am_H) : Option (Bool × am_H) :=
  (some (am_wI σ 11 0 0 0)).bind fun s1 =>
  some (true, s1)
set_option maxRecDepth 100000 in
set_option maxHeartbeats 4000000 in
theorem q_X11_yes {X : am_X} (hX : am_wC X) {Q : Option Value → am_H → Prop} (σ : am_H) {o : Bool × am_H} (hf : f_X11_yes σ = some o) (hk : Q (some (.int (am_b o.1))) o.2) : am_G X gm_X11_yes Q 0 [(0, .ref (am_ad X 11 0))] [] σ := by
  unfold f_X11_yes at hf
  refine g_aload_n (pc := 0) 0 rfl dX11_yes_0 rfl ?_
  refine g_iconst (pc := 1) (v := 0) dX11_yes_1 (by decide) ?_
  obtain ⟨s1, hs1, hf⟩ := am_bd hf
  refine g_setI (pc := 2) (in_11 hX.1 (by omega)) fr_X11_9 dX11_yes_2 (Option.some.inj hs1) ?_
  refine g_iconst (pc := 5) (v := 1) dX11_yes_5 (by decide) ?_
  have ho := Option.some.inj hf
  subst ho
  exact g_zreturn (pc := 6) (st := []) (x := true) rfl dX11_yes_6 hk
theorem k_X11_yes {X : am_X} (hX : am_wC X) (σ : am_H) {o : Bool × am_H} (hf : f_X11_yes σ = some o) : am_C X gm_X11_yes [.ref (am_ad X 11 0)] σ (am_is (some (.int (am_b o.1))) o.2) :=
  am_ofG rfl (Nat.le_of_ble_eq_true rfl) rfl (q_X11_yes hX σ hf ⟨rfl, rfl⟩)
theorem dX11_tray_0 : decode cX11_tray 0 = .ok (.aload_n 0, 1) := by decide +kernel
theorem dX11_tray_1 : decode cX11_tray 1 = .ok (.iload_n 1, 1) := by decide +kernel
theorem dX11_tray_2 : decode cX11_tray 2 = .ok (.invokevirtual 100, 3) := by decide +kernel
theorem dX11_tray_5 : decode cX11_tray 5 = .ok (.astore 4, 2) := by decide +kernel
theorem dX11_tray_7 : decode cX11_tray 7 = .ok (.aload 4, 2) := by decide +kernel
theorem dX11_tray_9 : decode cX11_tray 9 = .ok (.ifnull 12, 3) := by decide +kernel
theorem dX11_tray_12 : decode cX11_tray 12 = .ok (.iload_n 2, 1) := by decide +kernel
theorem dX11_tray_13 : decode cX11_tray 13 = .ok (.ifCond .lt 8, 3) := by decide +kernel
theorem dX11_tray_16 : decode cX11_tray 16 = .ok (.iload_n 2, 1) := by decide +kernel
theorem dX11_tray_17 : decode cX11_tray 17 = .ok (.iconst 4, 1) := by decide +kernel
theorem dX11_tray_18 : decode cX11_tray 18 = .ok (.if_icmp .lt 9, 3) := by decide +kernel
theorem dX11_tray_21 : decode cX11_tray 21 = .ok (.aload_n 0, 1) := by decide +kernel
theorem dX11_tray_22 : decode cX11_tray 22 = .ok (.iconst 1, 1) := by decide +kernel
theorem dX11_tray_23 : decode cX11_tray 23 = .ok (.invokevirtual 104, 3) := by decide +kernel
theorem dX11_tray_26 : decode cX11_tray 26 = .ok (.ireturn, 1) := by decide +kernel
theorem dX11_tray_27 : decode cX11_tray 27 = .ok (.iload_n 3, 1) := by decide +kernel
theorem dX11_tray_28 : decode cX11_tray 28 = .ok (.bipush 60, 2) := by decide +kernel
theorem dX11_tray_30 : decode cX11_tray 30 = .ok (.if_icmp .le 9, 3) := by decide +kernel
theorem dX11_tray_33 : decode cX11_tray 33 = .ok (.aload_n 0, 1) := by decide +kernel
theorem dX11_tray_34 : decode cX11_tray 34 = .ok (.iconst 5, 1) := by decide +kernel
theorem dX11_tray_35 : decode cX11_tray 35 = .ok (.invokevirtual 104, 3) := by decide +kernel
theorem dX11_tray_38 : decode cX11_tray 38 = .ok (.ireturn, 1) := by decide +kernel
theorem dX11_tray_39 : decode cX11_tray 39 = .ok (.iload_n 3, 1) := by decide +kernel
theorem dX11_tray_40 : decode cX11_tray 40 = .ok (.ifCond .ge 10, 3) := by decide +kernel
theorem dX11_tray_43 : decode cX11_tray 43 = .ok (.aload_n 0, 1) := by decide +kernel
theorem dX11_tray_44 : decode cX11_tray 44 = .ok (.bipush 6, 2) := by decide +kernel
theorem dX11_tray_46 : decode cX11_tray 46 = .ok (.invokevirtual 104, 3) := by decide +kernel
theorem dX11_tray_49 : decode cX11_tray 49 = .ok (.ireturn, 1) := by decide +kernel
theorem dX11_tray_50 : decode cX11_tray 50 = .ok (.aload 4, 2) := by decide +kernel
theorem dX11_tray_52 : decode cX11_tray 52 = .ok (.iload_n 2, 1) := by decide +kernel
theorem dX11_tray_53 : decode cX11_tray 53 = .ok (.iload_n 3, 1) := by decide +kernel
theorem dX11_tray_54 : decode cX11_tray 54 = .ok (.invokevirtual 108, 3) := by decide +kernel
theorem dX11_tray_57 : decode cX11_tray 57 = .ok (.aload_n 0, 1) := by decide +kernel
theorem dX11_tray_58 : decode cX11_tray 58 = .ok (.invokevirtual 112, 3) := by decide +kernel
theorem dX11_tray_61 : decode cX11_tray 61 = .ok (.ireturn, 1) := by decide +kernel
noncomputable def f_X11_tray_21 (σ : am_H) : Option (Bool × am_H) :=
  (f_X11_no 1 σ).bind fun p1 =>
  some (p1.1, p1.2)
set_option maxRecDepth 100000 in
set_option maxHeartbeats 4000000 in
theorem q_X11_tray_21 {X : am_X} (hX : am_wC X) {Q : Option Value → am_H → Prop} (σ : am_H) {o : Bool × am_H} (hf : f_X11_tray_21 σ = some o) (hk : Q (some (.int (am_b o.1))) o.2) : am_G X gm_X11_tray Q 21 [(0, .ref (am_ad X 11 0))] [] σ := by
  unfold f_X11_tray_21 at hf
  refine g_aload_n (pc := 21) 0 rfl dX11_tray_21 rfl ?_
  refine g_iconst (pc := 22) (v := 1) dX11_tray_22 (by decide) ?_
  obtain ⟨p1, hp1, hf⟩ := am_bd hf
  refine g_cV (pc := 23) (As := [.int 1]) (st := []) (st1 := [.int (am_b p1.1)]) (in_11 hX.1 (by omega)) kk_11 mV_X11_no ln_X11_104 rfl (Nat.le_of_ble_eq_true rfl) (Nat.le_of_ble_eq_true rfl) (k_X11_no hX 1 σ hp1) dX11_tray_23 rfl rfl ?_
  have ho := Option.some.inj hf
  subst ho
  exact g_zreturn (pc := 26) (st := []) (x := p1.1) rfl dX11_tray_26 hk
noncomputable def f_X11_tray (v1 : Int32) (v2 : Int32) (v3 : Int32) (σ : am_H) : Option (Bool × am_H) :=
  (f_X11_trayOf v1 σ).bind fun p1 =>
  am_nn 5 p1
   (f_X11_tray_21 σ)
   (fun a2 =>
   if v2 < 0 then
    (f_X11_tray_21 σ)
   else
   if v2 < 4 then
    (if 60 < v3 then
     ((f_X11_no 5 σ).bind fun p6 =>
     some (p6.1, p6.2))
    else
    if v3 < 0 then
     ((f_X11_no 6 σ).bind fun p8 =>
     some (p8.1, p8.2))
    else
    (f_X8_makeAnew a2 v2 v3 σ).bind fun p9 =>
    (f_X11_yes p9).bind fun p10 =>
    some (p10.1, p10.2))
   else
   f_X11_tray_21 σ)
set_option maxRecDepth 100000 in
set_option maxHeartbeats 4000000 in
theorem q_X11_tray {X : am_X} (hX : am_wC X) {Q : Option Value → am_H → Prop} (v1 : Int32) (v2 : Int32) (v3 : Int32) (σ : am_H) {o : Bool × am_H} (hf : f_X11_tray v1 v2 v3 σ = some o) (hk : Q (some (.int (am_b o.1))) o.2) : am_G X gm_X11_tray Q 0 [(0, .ref (am_ad X 11 0)), (1, .int v1), (2, .int v2), (3, .int v3)] [] σ := by
  unfold f_X11_tray at hf
  refine g_aload_n (pc := 0) 0 rfl dX11_tray_0 rfl ?_
  refine g_iload_n (pc := 1) 1 rfl dX11_tray_1 rfl ?_
  obtain ⟨p1, hp1, hf⟩ := am_bd hf
  have hq := am_nn_c hf
  clear hf
  rcases hq with ⟨ep1, hf⟩ | ⟨a2, ep1, ga2, hf⟩
  · subst ep1
    refine g_cV (pc := 2) (As := [.int v1]) (st := []) (st1 := [.null]) (in_11 hX.1 (by omega)) kk_11 mV_X11_trayOf ln_X11_100 rfl (Nat.le_of_ble_eq_true rfl) (Nat.le_of_ble_eq_true rfl) (k_X11_trayOf hX v1 σ hp1) dX11_tray_2 rfl rfl ?_
    refine g_astoreN (pc := 5) [(4, .null), (0, .ref (am_ad X 11 0)), (1, .int v1), (2, .int v2), (3, .int v3)] dX11_tray_5 (Nat.le_of_ble_eq_true rfl) rfl ?_
    refine g_aloadN (pc := 7) 0 rfl dX11_tray_7 ?_
    refine g_ifnullN (pc := 9) 21 dX11_tray_9 rfl ?_
    exact am_sub [1] rfl (q_X11_tray_21 hX σ hf hk)
  · subst ep1
    refine g_cV (pc := 2) (As := [.int v1]) (st := []) (st1 := [.ref (am_ad X 8 a2)]) (in_11 hX.1 (by omega)) kk_11 mV_X11_trayOf ln_X11_100 rfl (Nat.le_of_ble_eq_true rfl) (Nat.le_of_ble_eq_true rfl) (k_X11_trayOf hX v1 σ hp1) dX11_tray_2 rfl rfl ?_
    refine g_astore (pc := 5) [(4, .ref (am_ad X 8 a2)), (0, .ref (am_ad X 11 0)), (1, .int v1), (2, .int v2), (3, .int v3)] dX11_tray_5 (Nat.le_of_ble_eq_true rfl) rfl ?_
    refine g_aload (pc := 7) 0 rfl dX11_tray_7 ?_
    refine g_ifnull (pc := 9) dX11_tray_9 ?_
    refine g_iload_n (pc := 12) 3 rfl dX11_tray_12 rfl ?_
    refine bz_lt (pc := 13) 21 dX11_tray_13 rfl (fun c3 => ?_) (fun c3 => ?_)
    · replace hf := am_ifT c3 hf
      exact am_sub [1] rfl (q_X11_tray_21 hX σ hf hk)
    replace hf := am_ifF c3 hf
    refine g_iload_n (pc := 16) 3 rfl dX11_tray_16 rfl ?_
    refine g_iconst (pc := 17) (v := 4) dX11_tray_17 (by decide) ?_
    refine bi_lt (pc := 18) 27 dX11_tray_18 rfl (fun c4 => ?_) (fun c4 => ?_)
    · replace hf := am_ifT c4 hf
      refine g_iload_n (pc := 27) 4 rfl dX11_tray_27 rfl ?_
      refine g_bipush (pc := 28) (v := 60) dX11_tray_28 (by decide) ?_
      refine bi_le (pc := 30) 39 dX11_tray_30 rfl (fun c5 => ?_) (fun c5 => ?_)
      · replace hf := am_ifT c5 hf
        refine g_aload_n (pc := 33) 1 rfl dX11_tray_33 rfl ?_
        refine g_iconst (pc := 34) (v := 5) dX11_tray_34 (by decide) ?_
        obtain ⟨p6, hp6, hf⟩ := am_bd hf
        refine g_cV (pc := 35) (As := [.int 5]) (st := []) (st1 := [.int (am_b p6.1)]) (in_11 hX.1 (by omega)) kk_11 mV_X11_no ln_X11_104 rfl (Nat.le_of_ble_eq_true rfl) (Nat.le_of_ble_eq_true rfl) (k_X11_no hX 5 σ hp6) dX11_tray_35 rfl rfl ?_
        have ho := Option.some.inj hf
        subst ho
        exact g_zreturn (pc := 38) (st := []) (x := p6.1) rfl dX11_tray_38 hk
      replace hf := am_ifF c5 hf
      refine g_iload_n (pc := 39) 4 rfl dX11_tray_39 rfl ?_
      refine bz_ge (pc := 40) 50 dX11_tray_40 rfl (fun c7 => ?_) (fun c7 => ?_)
      · replace hf := am_ifT c7 hf
        refine g_aload_n (pc := 43) 1 rfl dX11_tray_43 rfl ?_
        refine g_bipush (pc := 44) (v := 6) dX11_tray_44 (by decide) ?_
        obtain ⟨p8, hp8, hf⟩ := am_bd hf
        refine g_cV (pc := 46) (As := [.int 6]) (st := []) (st1 := [.int (am_b p8.1)]) (in_11 hX.1 (by omega)) kk_11 mV_X11_no ln_X11_104 rfl (Nat.le_of_ble_eq_true rfl) (Nat.le_of_ble_eq_true rfl) (k_X11_no hX 6 σ hp8) dX11_tray_46 rfl rfl ?_
        have ho := Option.some.inj hf
        subst ho
        exact g_zreturn (pc := 49) (st := []) (x := p8.1) rfl dX11_tray_49 hk
      replace hf := am_ifF c7 hf
      refine g_aload (pc := 50) 0 rfl dX11_tray_50 ?_
      refine g_iload_n (pc := 52) 3 rfl dX11_tray_52 rfl ?_
      refine g_iload_n (pc := 53) 4 rfl dX11_tray_53 rfl ?_
      obtain ⟨p9, hp9, hf⟩ := am_bd hf
      refine g_cV (pc := 54) (As := [.int v2, .int v3]) (st := []) (st1 := []) (in_8 hX.1 (by omega)) kk_8 mV_X8_makeAnew ln_X11_108 rfl (Nat.le_of_ble_eq_true rfl) (Nat.le_of_ble_eq_true rfl) (k_X8_makeAnew hX a2 v2 v3 (by omega) σ hp9) dX11_tray_54 rfl rfl ?_
      refine g_aload_n (pc := 57) 1 rfl dX11_tray_57 rfl ?_
      obtain ⟨p10, hp10, hf⟩ := am_bd hf
      refine g_cV (pc := 58) (As := []) (st := []) (st1 := [.int (am_b p10.1)]) (in_11 hX.1 (by omega)) kk_11 mV_X11_yes ln_X11_112 rfl (Nat.le_of_ble_eq_true rfl) (Nat.le_of_ble_eq_true rfl) (k_X11_yes hX p9 hp10) dX11_tray_58 rfl rfl ?_
      have ho := Option.some.inj hf
      subst ho
      exact g_zreturn (pc := 61) (st := []) (x := p10.1) rfl dX11_tray_61 hk
    replace hf := am_ifF c4 hf
    exact am_sub [1] rfl (q_X11_tray_21 hX σ hf hk)
theorem k_X11_tray {X : am_X} (hX : am_wC X) (v1 : Int32) (v2 : Int32) (v3 : Int32) (σ : am_H) {o : Bool × am_H} (hf : f_X11_tray v1 v2 v3 σ = some o) : am_C X gm_X11_tray [.ref (am_ad X 11 0), .int v1, .int v2, .int v3] σ (am_is (some (.int (am_b o.1))) o.2) :=
  am_ofG rfl (Nat.le_of_ble_eq_true rfl) rfl (q_X11_tray hX v1 v2 v3 σ hf ⟨rfl, rfl⟩)
theorem dX11_whyNoPlace_0 : decode cX11_whyNoPlace 0 = .ok (.aload_n 0, 1) := by decide +kernel
theorem dX11_whyNoPlace_1 : decode cX11_whyNoPlace 1 = .ok (.iload_n 1, 1) := by decide +kernel
theorem dX11_whyNoPlace_2 : decode cX11_whyNoPlace 2 = .ok (.invokevirtual 100, 3) := by decide +kernel
theorem dX11_whyNoPlace_5 : decode cX11_whyNoPlace 5 = .ok (.astore_n 3, 1) := by decide +kernel
theorem dX11_whyNoPlace_6 : decode cX11_whyNoPlace 6 = .ok (.aload_n 3, 1) := by decide +kernel
theorem dX11_whyNoPlace_7 : decode cX11_whyNoPlace 7 = .ok (.ifnonnull 5, 3) := by decide +kernel
theorem dX11_whyNoPlace_10 : decode cX11_whyNoPlace 10 = .ok (.iconst 1, 1) := by decide +kernel
theorem dX11_whyNoPlace_11 : decode cX11_whyNoPlace 11 = .ok (.ireturn, 1) := by decide +kernel
theorem dX11_whyNoPlace_12 : decode cX11_whyNoPlace 12 = .ok (.aload_n 3, 1) := by decide +kernel
theorem dX11_whyNoPlace_13 : decode cX11_whyNoPlace 13 = .ok (.invokevirtual 132, 3) := by decide +kernel
theorem dX11_whyNoPlace_16 : decode cX11_whyNoPlace 16 = .ok (.ifCond .eq 5, 3) := by decide +kernel
theorem dX11_whyNoPlace_19 : decode cX11_whyNoPlace 19 = .ok (.iconst 3, 1) := by decide +kernel
theorem dX11_whyNoPlace_20 : decode cX11_whyNoPlace 20 = .ok (.ireturn, 1) := by decide +kernel
theorem dX11_whyNoPlace_21 : decode cX11_whyNoPlace 21 = .ok (.iload_n 2, 1) := by decide +kernel
theorem dX11_whyNoPlace_22 : decode cX11_whyNoPlace 22 = .ok (.ifCond .lt 11, 3) := by decide +kernel
theorem dX11_whyNoPlace_25 : decode cX11_whyNoPlace 25 = .ok (.iload_n 2, 1) := by decide +kernel
theorem dX11_whyNoPlace_26 : decode cX11_whyNoPlace 26 = .ok (.aload_n 3, 1) := by decide +kernel
theorem dX11_whyNoPlace_27 : decode cX11_whyNoPlace 27 = .ok (.getfield 497, 3) := by decide +kernel
theorem dX11_whyNoPlace_30 : decode cX11_whyNoPlace 30 = .ok (.if_icmp .lt 7, 3) := by decide +kernel
theorem dX11_whyNoPlace_33 : decode cX11_whyNoPlace 33 = .ok (.iconst 4, 1) := by decide +kernel
theorem dX11_whyNoPlace_34 : decode cX11_whyNoPlace 34 = .ok (.goto 4, 3) := by decide +kernel
theorem dX11_whyNoPlace_37 : decode cX11_whyNoPlace 37 = .ok (.iconst 0, 1) := by decide +kernel
theorem dX11_whyNoPlace_38 : decode cX11_whyNoPlace 38 = .ok (.ireturn, 1) := by decide +kernel
noncomputable def f_X11_whyNoPlace (v1 : Int32) (v2 : Int32) (σ : am_H) : Option (Int32) :=
  (f_X11_trayOf v1 σ).bind fun p1 =>
  am_nn 5 p1
   (some 1)
   (fun a2 =>
   (f_X8_isMissing a2 σ).bind fun p3 =>
   if p3 = true then
    (some 3)
   else
   if v2 < 0 then
    (some 4)
   else
   if v2 < (σ.1 8 a2 1) then
    (some 0)
   else
   some 4)
set_option maxRecDepth 100000 in
set_option maxHeartbeats 4000000 in
theorem q_X11_whyNoPlace {X : am_X} (hX : am_wC X) {Q : Option Value → am_H → Prop} (v1 : Int32) (v2 : Int32) (σ : am_H) {o : Int32} (hf : f_X11_whyNoPlace v1 v2 σ = some o) (hk : Q (some (.int o)) σ) : am_G X gm_X11_whyNoPlace Q 0 [(0, .ref (am_ad X 11 0)), (1, .int v1), (2, .int v2)] [] σ := by
  unfold f_X11_whyNoPlace at hf
  refine g_aload_n (pc := 0) 0 rfl dX11_whyNoPlace_0 rfl ?_
  refine g_iload_n (pc := 1) 1 rfl dX11_whyNoPlace_1 rfl ?_
  obtain ⟨p1, hp1, hf⟩ := am_bd hf
  have hq := am_nn_c hf
  clear hf
  rcases hq with ⟨ep1, hf⟩ | ⟨a2, ep1, ga2, hf⟩
  · subst ep1
    refine g_cV (pc := 2) (As := [.int v1]) (st := []) (st1 := [.null]) (in_11 hX.1 (by omega)) kk_11 mV_X11_trayOf ln_X11_100 rfl (Nat.le_of_ble_eq_true rfl) (Nat.le_of_ble_eq_true rfl) (k_X11_trayOf hX v1 σ hp1) dX11_whyNoPlace_2 rfl rfl ?_
    refine g_astoreN_n (pc := 5) [(3, .null), (0, .ref (am_ad X 11 0)), (1, .int v1), (2, .int v2)] dX11_whyNoPlace_5 rfl (Nat.le_of_ble_eq_true rfl) rfl ?_
    refine g_aloadN_n (pc := 6) 0 rfl dX11_whyNoPlace_6 rfl ?_
    refine g_ifnonnullN (pc := 7) dX11_whyNoPlace_7 ?_
    refine g_iconst (pc := 10) (v := 1) dX11_whyNoPlace_10 (by decide) ?_
    have ho := Option.some.inj hf
    subst ho
    exact g_ireturn (pc := 11) (st := []) rfl dX11_whyNoPlace_11 hk
  · subst ep1
    refine g_cV (pc := 2) (As := [.int v1]) (st := []) (st1 := [.ref (am_ad X 8 a2)]) (in_11 hX.1 (by omega)) kk_11 mV_X11_trayOf ln_X11_100 rfl (Nat.le_of_ble_eq_true rfl) (Nat.le_of_ble_eq_true rfl) (k_X11_trayOf hX v1 σ hp1) dX11_whyNoPlace_2 rfl rfl ?_
    refine g_astore_n (pc := 5) [(3, .ref (am_ad X 8 a2)), (0, .ref (am_ad X 11 0)), (1, .int v1), (2, .int v2)] dX11_whyNoPlace_5 rfl (Nat.le_of_ble_eq_true rfl) rfl ?_
    refine g_aload_n (pc := 6) 0 rfl dX11_whyNoPlace_6 rfl ?_
    refine g_ifnonnull (pc := 7) 12 dX11_whyNoPlace_7 rfl ?_
    refine g_aload_n (pc := 12) 0 rfl dX11_whyNoPlace_12 rfl ?_
    obtain ⟨p3, hp3, hf⟩ := am_bd hf
    refine g_cV (pc := 13) (As := []) (st := []) (st1 := [.int (am_b p3)]) (in_8 hX.1 (by omega)) kk_8 mV_X8_isMissing ln_X11_132 rfl (Nat.le_of_ble_eq_true rfl) (Nat.le_of_ble_eq_true rfl) (k_X8_isMissing hX a2 (by omega) σ hp3) dX11_whyNoPlace_13 rfl rfl ?_
    refine bt_eq (pc := 16) 21 dX11_whyNoPlace_16 rfl (fun c4 => ?_) (fun c4 => ?_)
    · replace hf := am_ifT c4 hf
      refine g_iconst (pc := 19) (v := 3) dX11_whyNoPlace_19 (by decide) ?_
      have ho := Option.some.inj hf
      subst ho
      exact g_ireturn (pc := 20) (st := []) rfl dX11_whyNoPlace_20 hk
    replace hf := am_ifF c4 hf
    refine g_iload_n (pc := 21) 3 rfl dX11_whyNoPlace_21 rfl ?_
    refine bz_lt (pc := 22) 33 dX11_whyNoPlace_22 rfl (fun c5 => ?_) (fun c5 => ?_)
    · replace hf := am_ifT c5 hf
      refine g_iconst (pc := 33) (v := 4) dX11_whyNoPlace_33 (by decide) ?_
      refine g_goto (pc := 34) 38 dX11_whyNoPlace_34 rfl ?_
      have ho := Option.some.inj hf
      subst ho
      exact g_ireturn (pc := 38) (st := []) rfl dX11_whyNoPlace_38 hk
    replace hf := am_ifF c5 hf
    refine g_iload_n (pc := 25) 3 rfl dX11_whyNoPlace_25 rfl ?_
    refine g_aload_n (pc := 26) 0 rfl dX11_whyNoPlace_26 rfl ?_
    refine g_getI (pc := 27) (in_8 hX.1 (by omega)) fr_X11_497 dX11_whyNoPlace_27 ?_
    refine bi_lt (pc := 30) 37 dX11_whyNoPlace_30 rfl (fun c6 => ?_) (fun c6 => ?_)
    · replace hf := am_ifT c6 hf
      refine g_iconst (pc := 37) (v := 0) dX11_whyNoPlace_37 (by decide) ?_
      have ho := Option.some.inj hf
      subst ho
      exact g_ireturn (pc := 38) (st := []) rfl dX11_whyNoPlace_38 hk
    replace hf := am_ifF c6 hf
    refine g_iconst (pc := 33) (v := 4) dX11_whyNoPlace_33 (by decide) ?_
    refine g_goto (pc := 34) 38 dX11_whyNoPlace_34 rfl ?_
    have ho := Option.some.inj hf
    subst ho
    exact g_ireturn (pc := 38) (st := []) rfl dX11_whyNoPlace_38 hk
theorem k_X11_whyNoPlace {X : am_X} (hX : am_wC X) (v1 : Int32) (v2 : Int32) (σ : am_H) {o : Int32} (hf : f_X11_whyNoPlace v1 v2 σ = some o) : am_C X gm_X11_whyNoPlace [.ref (am_ad X 11 0), .int v1, .int v2] σ (am_is (some (.int o)) σ) :=
  am_ofG rfl (Nat.le_of_ble_eq_true rfl) rfl (q_X11_whyNoPlace hX v1 v2 σ hf ⟨rfl, rfl⟩)
theorem dX11_write_0 : decode cX11_write 0 = .ok (.aload_n 0, 1) := by decide +kernel
theorem dX11_write_1 : decode cX11_write 1 = .ok (.iload_n 1, 1) := by decide +kernel
theorem dX11_write_2 : decode cX11_write 2 = .ok (.iload_n 2, 1) := by decide +kernel
theorem dX11_write_3 : decode cX11_write 3 = .ok (.invokevirtual 116, 3) := by decide +kernel
theorem dX11_write_6 : decode cX11_write 6 = .ok (.istore 5, 2) := by decide +kernel
theorem dX11_write_8 : decode cX11_write 8 = .ok (.iload 5, 2) := by decide +kernel
theorem dX11_write_10 : decode cX11_write 10 = .ok (.ifCond .eq 10, 3) := by decide +kernel
theorem dX11_write_13 : decode cX11_write 13 = .ok (.aload_n 0, 1) := by decide +kernel
theorem dX11_write_14 : decode cX11_write 14 = .ok (.iload 5, 2) := by decide +kernel
theorem dX11_write_16 : decode cX11_write 16 = .ok (.invokevirtual 104, 3) := by decide +kernel
theorem dX11_write_19 : decode cX11_write 19 = .ok (.ireturn, 1) := by decide +kernel
theorem dX11_write_20 : decode cX11_write 20 = .ok (.aload_n 0, 1) := by decide +kernel
theorem dX11_write_21 : decode cX11_write 21 = .ok (.getfield 29, 3) := by decide +kernel
theorem dX11_write_24 : decode cX11_write 24 = .ok (.iload_n 1, 1) := by decide +kernel
theorem dX11_write_25 : decode cX11_write 25 = .ok (.aaload, 1) := by decide +kernel
theorem dX11_write_26 : decode cX11_write 26 = .ok (.iload_n 2, 1) := by decide +kernel
theorem dX11_write_27 : decode cX11_write 27 = .ok (.lload_n 3, 1) := by decide +kernel
theorem dX11_write_28 : decode cX11_write 28 = .ok (.invokevirtual 120, 3) := by decide +kernel
theorem dX11_write_31 : decode cX11_write 31 = .ok (.aload_n 0, 1) := by decide +kernel
theorem dX11_write_32 : decode cX11_write 32 = .ok (.invokevirtual 112, 3) := by decide +kernel
theorem dX11_write_35 : decode cX11_write 35 = .ok (.ireturn, 1) := by decide +kernel
noncomputable def f_X11_write (v1 : Int32) (v2 : Int32) (v3 : Int64) (σ : am_H) : Option (Bool × am_H) :=
  (f_X11_whyNoPlace v1 v2 σ).bind fun p1 =>
  if p1 = 0 then
   ((am_ix 5 v1).bind fun j3 =>
   (f_X8_put j3 v2 v3 σ).bind fun p4 =>
   (f_X11_yes p4).bind fun p5 =>
   some (p5.1, p5.2))
  else
  (f_X11_no p1 σ).bind fun p6 =>
  some (p6.1, p6.2)
set_option maxRecDepth 100000 in
set_option maxHeartbeats 4000000 in
theorem q_X11_write {X : am_X} (hX : am_wC X) {Q : Option Value → am_H → Prop} (v1 : Int32) (v2 : Int32) (v3 : Int64) (σ : am_H) {o : Bool × am_H} (hf : f_X11_write v1 v2 v3 σ = some o) (hk : Q (some (.int (am_b o.1))) o.2) : am_G X gm_X11_write Q 0 [(0, .ref (am_ad X 11 0)), (1, .int v1), (2, .int v2), (3, .long v3)] [] σ := by
  unfold f_X11_write at hf
  refine g_aload_n (pc := 0) 0 rfl dX11_write_0 rfl ?_
  refine g_iload_n (pc := 1) 1 rfl dX11_write_1 rfl ?_
  refine g_iload_n (pc := 2) 2 rfl dX11_write_2 rfl ?_
  obtain ⟨p1, hp1, hf⟩ := am_bd hf
  refine g_cV (pc := 3) (As := [.int v1, .int v2]) (st := []) (st1 := [.int p1]) (in_11 hX.1 (by omega)) kk_11 mV_X11_whyNoPlace ln_X11_116 rfl (Nat.le_of_ble_eq_true rfl) (Nat.le_of_ble_eq_true rfl) (k_X11_whyNoPlace hX v1 v2 σ hp1) dX11_write_3 rfl rfl ?_
  refine g_istore (pc := 6) [(5, .int p1), (0, .ref (am_ad X 11 0)), (1, .int v1), (2, .int v2), (3, .long v3)] dX11_write_6 (Nat.le_of_ble_eq_true rfl) rfl ?_
  refine g_iload (pc := 8) 0 rfl dX11_write_8 ?_
  refine bz_eq (pc := 10) 20 dX11_write_10 rfl (fun c2 => ?_) (fun c2 => ?_)
  · replace hf := am_ifT c2 hf
    refine g_aload_n (pc := 20) 1 rfl dX11_write_20 rfl ?_
    refine g_getC (pc := 21) (e := 0) (in_11 hX.1 (by omega)) fr_X11_29 dX11_write_21 rfl ?_
    refine g_iload_n (pc := 24) 2 rfl dX11_write_24 rfl ?_
    obtain ⟨j3, hj3, hf⟩ := am_bd hf
    have gj3 := am_ix_lt hj3
    refine g_aC (pc := 25) (e := j3) (in_1204 hX.1 (by omega)) ak_1204 hj3 rfl dX11_write_25 ?_
    refine g_iload_n (pc := 26) 3 rfl dX11_write_26 rfl ?_
    refine g_lload_n (pc := 27) 4 rfl dX11_write_27 rfl ?_
    obtain ⟨p4, hp4, hf⟩ := am_bd hf
    refine g_cV (pc := 28) (As := [.int v2, .long v3]) (st := []) (st1 := []) (in_8 hX.1 (by omega)) kk_8 mV_X8_put ln_X11_120 rfl (Nat.le_of_ble_eq_true rfl) (Nat.le_of_ble_eq_true rfl) (k_X8_put hX j3 v2 v3 (by omega) σ hp4) dX11_write_28 rfl rfl ?_
    refine g_aload_n (pc := 31) 1 rfl dX11_write_31 rfl ?_
    obtain ⟨p5, hp5, hf⟩ := am_bd hf
    refine g_cV (pc := 32) (As := []) (st := []) (st1 := [.int (am_b p5.1)]) (in_11 hX.1 (by omega)) kk_11 mV_X11_yes ln_X11_112 rfl (Nat.le_of_ble_eq_true rfl) (Nat.le_of_ble_eq_true rfl) (k_X11_yes hX p4 hp5) dX11_write_32 rfl rfl ?_
    have ho := Option.some.inj hf
    subst ho
    exact g_zreturn (pc := 35) (st := []) (x := p5.1) rfl dX11_write_35 hk
  replace hf := am_ifF c2 hf
  refine g_aload_n (pc := 13) 1 rfl dX11_write_13 rfl ?_
  refine g_iload (pc := 14) 0 rfl dX11_write_14 ?_
  obtain ⟨p6, hp6, hf⟩ := am_bd hf
  refine g_cV (pc := 16) (As := [.int p1]) (st := []) (st1 := [.int (am_b p6.1)]) (in_11 hX.1 (by omega)) kk_11 mV_X11_no ln_X11_104 rfl (Nat.le_of_ble_eq_true rfl) (Nat.le_of_ble_eq_true rfl) (k_X11_no hX p1 σ hp6) dX11_write_16 rfl rfl ?_
  have ho := Option.some.inj hf
  subst ho
  exact g_zreturn (pc := 19) (st := []) (x := p6.1) rfl dX11_write_19 hk
theorem k_X11_write {X : am_X} (hX : am_wC X) (v1 : Int32) (v2 : Int32) (v3 : Int64) (σ : am_H) {o : Bool × am_H} (hf : f_X11_write v1 v2 v3 σ = some o) : am_C X gm_X11_write [.ref (am_ad X 11 0), .int v1, .int v2, .long v3] σ (am_is (some (.int (am_b o.1))) o.2) :=
  am_ofG rfl (Nat.le_of_ble_eq_true rfl) rfl (q_X11_write hX v1 v2 v3 σ hf ⟨rfl, rfl⟩)
theorem dX11_none_0 : decode cX11_none 0 = .ok (.aload_n 0, 1) := by decide +kernel
theorem dX11_none_1 : decode cX11_none 1 = .ok (.iload_n 1, 1) := by decide +kernel
theorem dX11_none_2 : decode cX11_none 2 = .ok (.putfield 9, 3) := by decide +kernel
theorem dX11_none_5 : decode cX11_none 5 = .ok (.iconst (-1), 1) := by decide +kernel
theorem dX11_none_6 : decode cX11_none 6 = .ok (.ireturn, 1) := by decide +kernel
noncomputable def f_X11_none (v1 : Int32) (σ : am_H) : Option (Int32 × am_H) :=
  (some (am_wI σ 11 0 0 v1)).bind fun s1 =>
  some ((-1), s1)
set_option maxRecDepth 100000 in
set_option maxHeartbeats 4000000 in
theorem q_X11_none {X : am_X} (hX : am_wC X) {Q : Option Value → am_H → Prop} (v1 : Int32) (σ : am_H) {o : Int32 × am_H} (hf : f_X11_none v1 σ = some o) (hk : Q (some (.int o.1)) o.2) : am_G X gm_X11_none Q 0 [(0, .ref (am_ad X 11 0)), (1, .int v1)] [] σ := by
  unfold f_X11_none at hf
  refine g_aload_n (pc := 0) 0 rfl dX11_none_0 rfl ?_
  refine g_iload_n (pc := 1) 1 rfl dX11_none_1 rfl ?_
  obtain ⟨s1, hs1, hf⟩ := am_bd hf
  refine g_setI (pc := 2) (in_11 hX.1 (by omega)) fr_X11_9 dX11_none_2 (Option.some.inj hs1) ?_
  refine g_iconst (pc := 5) (v := (-1)) dX11_none_5 (by decide) ?_
  have ho := Option.some.inj hf
  subst ho
  exact g_ireturn (pc := 6) (st := []) rfl dX11_none_6 hk
theorem k_X11_none {X : am_X} (hX : am_wC X) (v1 : Int32) (σ : am_H) {o : Int32 × am_H} (hf : f_X11_none v1 σ = some o) : am_C X gm_X11_none [.ref (am_ad X 11 0), .int v1] σ (am_is (some (.int o.1)) o.2) :=
  am_ofG rfl (Nat.le_of_ble_eq_true rfl) rfl (q_X11_none hX v1 σ hf ⟨rfl, rfl⟩)
theorem dX11_read_0 : decode cX11_read 0 = .ok (.aload_n 0, 1) := by decide +kernel
theorem dX11_read_1 : decode cX11_read 1 = .ok (.iload_n 1, 1) := by decide +kernel
theorem dX11_read_2 : decode cX11_read 2 = .ok (.iload_n 2, 1) := by decide +kernel
theorem dX11_read_3 : decode cX11_read 3 = .ok (.invokevirtual 116, 3) := by decide +kernel
theorem dX11_read_6 : decode cX11_read 6 = .ok (.istore_n 3, 1) := by decide +kernel
theorem dX11_read_7 : decode cX11_read 7 = .ok (.iload_n 3, 1) := by decide +kernel
theorem dX11_read_8 : decode cX11_read 8 = .ok (.ifCond .eq 10, 3) := by decide +kernel
theorem dX11_read_11 : decode cX11_read 11 = .ok (.aload_n 0, 1) := by decide +kernel
theorem dX11_read_12 : decode cX11_read 12 = .ok (.iload_n 3, 1) := by decide +kernel
theorem dX11_read_13 : decode cX11_read 13 = .ok (.invokevirtual 124, 3) := by decide +kernel
theorem dX11_read_16 : decode cX11_read 16 = .ok (.i2l, 1) := by decide +kernel
theorem dX11_read_17 : decode cX11_read 17 = .ok (.lreturn, 1) := by decide +kernel
theorem dX11_read_18 : decode cX11_read 18 = .ok (.aload_n 0, 1) := by decide +kernel
theorem dX11_read_19 : decode cX11_read 19 = .ok (.iconst 0, 1) := by decide +kernel
theorem dX11_read_20 : decode cX11_read 20 = .ok (.putfield 9, 3) := by decide +kernel
theorem dX11_read_23 : decode cX11_read 23 = .ok (.aload_n 0, 1) := by decide +kernel
theorem dX11_read_24 : decode cX11_read 24 = .ok (.getfield 29, 3) := by decide +kernel
theorem dX11_read_27 : decode cX11_read 27 = .ok (.iload_n 1, 1) := by decide +kernel
theorem dX11_read_28 : decode cX11_read 28 = .ok (.aaload, 1) := by decide +kernel
theorem dX11_read_29 : decode cX11_read 29 = .ok (.iload_n 2, 1) := by decide +kernel
theorem dX11_read_30 : decode cX11_read 30 = .ok (.invokevirtual 128, 3) := by decide +kernel
theorem dX11_read_33 : decode cX11_read 33 = .ok (.lreturn, 1) := by decide +kernel
noncomputable def f_X11_read (v1 : Int32) (v2 : Int32) (σ : am_H) : Option (Int64 × am_H) :=
  (f_X11_whyNoPlace v1 v2 σ).bind fun p1 =>
  if p1 = 0 then
   ((some (am_wI σ 11 0 0 0)).bind fun s3 =>
   (am_ix 5 v1).bind fun j4 =>
   (f_X8_at j4 v2 s3).bind fun p5 =>
   some (p5, s3))
  else
  (f_X11_none p1 σ).bind fun p6 =>
  some ((Int32.toInt64 p6.1), p6.2)
set_option maxRecDepth 100000 in
set_option maxHeartbeats 4000000 in
theorem q_X11_read {X : am_X} (hX : am_wC X) {Q : Option Value → am_H → Prop} (v1 : Int32) (v2 : Int32) (σ : am_H) {o : Int64 × am_H} (hf : f_X11_read v1 v2 σ = some o) (hk : Q (some (.long o.1)) o.2) : am_G X gm_X11_read Q 0 [(0, .ref (am_ad X 11 0)), (1, .int v1), (2, .int v2)] [] σ := by
  unfold f_X11_read at hf
  refine g_aload_n (pc := 0) 0 rfl dX11_read_0 rfl ?_
  refine g_iload_n (pc := 1) 1 rfl dX11_read_1 rfl ?_
  refine g_iload_n (pc := 2) 2 rfl dX11_read_2 rfl ?_
  obtain ⟨p1, hp1, hf⟩ := am_bd hf
  refine g_cV (pc := 3) (As := [.int v1, .int v2]) (st := []) (st1 := [.int p1]) (in_11 hX.1 (by omega)) kk_11 mV_X11_whyNoPlace ln_X11_116 rfl (Nat.le_of_ble_eq_true rfl) (Nat.le_of_ble_eq_true rfl) (k_X11_whyNoPlace hX v1 v2 σ hp1) dX11_read_3 rfl rfl ?_
  refine g_istore_n (pc := 6) [(3, .int p1), (0, .ref (am_ad X 11 0)), (1, .int v1), (2, .int v2)] dX11_read_6 rfl (Nat.le_of_ble_eq_true rfl) rfl ?_
  refine g_iload_n (pc := 7) 0 rfl dX11_read_7 rfl ?_
  refine bz_eq (pc := 8) 18 dX11_read_8 rfl (fun c2 => ?_) (fun c2 => ?_)
  · replace hf := am_ifT c2 hf
    refine g_aload_n (pc := 18) 1 rfl dX11_read_18 rfl ?_
    refine g_iconst (pc := 19) (v := 0) dX11_read_19 (by decide) ?_
    obtain ⟨s3, hs3, hf⟩ := am_bd hf
    refine g_setI (pc := 20) (in_11 hX.1 (by omega)) fr_X11_9 dX11_read_20 (Option.some.inj hs3) ?_
    refine g_aload_n (pc := 23) 1 rfl dX11_read_23 rfl ?_
    refine g_getC (pc := 24) (e := 0) (in_11 hX.1 (by omega)) fr_X11_29 dX11_read_24 rfl ?_
    refine g_iload_n (pc := 27) 2 rfl dX11_read_27 rfl ?_
    obtain ⟨j4, hj4, hf⟩ := am_bd hf
    have gj4 := am_ix_lt hj4
    refine g_aC (pc := 28) (e := j4) (in_1204 hX.1 (by omega)) ak_1204 hj4 rfl dX11_read_28 ?_
    refine g_iload_n (pc := 29) 3 rfl dX11_read_29 rfl ?_
    obtain ⟨p5, hp5, hf⟩ := am_bd hf
    refine g_cV (pc := 30) (As := [.int v2]) (st := []) (st1 := [.long p5]) (in_8 hX.1 (by omega)) kk_8 mV_X8_at ln_X11_128 rfl (Nat.le_of_ble_eq_true rfl) (Nat.le_of_ble_eq_true rfl) (k_X8_at hX j4 v2 (by omega) s3 hp5) dX11_read_30 rfl rfl ?_
    have ho := Option.some.inj hf
    subst ho
    exact g_lreturn (pc := 33) (st := []) rfl dX11_read_33 hk
  replace hf := am_ifF c2 hf
  refine g_aload_n (pc := 11) 1 rfl dX11_read_11 rfl ?_
  refine g_iload_n (pc := 12) 0 rfl dX11_read_12 rfl ?_
  obtain ⟨p6, hp6, hf⟩ := am_bd hf
  refine g_cV (pc := 13) (As := [.int p1]) (st := []) (st1 := [.int p6.1]) (in_11 hX.1 (by omega)) kk_11 mV_X11_none ln_X11_124 rfl (Nat.le_of_ble_eq_true rfl) (Nat.le_of_ble_eq_true rfl) (k_X11_none hX p1 σ hp6) dX11_read_13 rfl rfl ?_
  refine g_i2l (pc := 16) dX11_read_16 ?_
  have ho := Option.some.inj hf
  subst ho
  exact g_lreturn (pc := 17) (st := []) rfl dX11_read_17 hk
theorem k_X11_read {X : am_X} (hX : am_wC X) (v1 : Int32) (v2 : Int32) (σ : am_H) {o : Int64 × am_H} (hf : f_X11_read v1 v2 σ = some o) : am_C X gm_X11_read [.ref (am_ad X 11 0), .int v1, .int v2] σ (am_is (some (.long o.1)) o.2) :=
  am_ofG rfl (Nat.le_of_ble_eq_true rfl) rfl (q_X11_read hX v1 v2 σ hf ⟨rfl, rfl⟩)
