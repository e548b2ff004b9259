theorem dX10_firstWornHour_0 : decode cX10_firstWornHour 0 = .ok (.ldc2_w 68, 3) := by decide +kernel
theorem dX10_firstWornHour_3 : decode cX10_firstWornHour 3 = .ok (.lstore_n 2, 1) := by decide +kernel
theorem dX10_firstWornHour_4 : decode cX10_firstWornHour 4 = .ok (.aload_n 0, 1) := by decide +kernel
theorem dX10_firstWornHour_5 : decode cX10_firstWornHour 5 = .ok (.getfield 38, 3) := by decide +kernel
theorem dX10_firstWornHour_8 : decode cX10_firstWornHour 8 = .ok (.ifCond .le 24, 3) := by decide +kernel
theorem dX10_firstWornHour_11 : decode cX10_firstWornHour 11 = .ok (.lload_n 2, 1) := by decide +kernel
theorem dX10_firstWornHour_12 : decode cX10_firstWornHour 12 = .ok (.ldc2_w 44, 3) := by decide +kernel
theorem dX10_firstWornHour_15 : decode cX10_firstWornHour 15 = .ok (.iload_n 1, 1) := by decide +kernel
theorem dX10_firstWornHour_16 : decode cX10_firstWornHour 16 = .ok (.i2l, 1) := by decide +kernel
theorem dX10_firstWornHour_17 : decode cX10_firstWornHour 17 = .ok (.lmul, 1) := by decide +kernel
theorem dX10_firstWornHour_18 : decode cX10_firstWornHour 18 = .ok (.aload_n 0, 1) := by decide +kernel
theorem dX10_firstWornHour_19 : decode cX10_firstWornHour 19 = .ok (.getfield 18, 3) := by decide +kernel
theorem dX10_firstWornHour_22 : decode cX10_firstWornHour 22 = .ok (.iconst 0, 1) := by decide +kernel
theorem dX10_firstWornHour_23 : decode cX10_firstWornHour 23 = .ok (.iaload, 1) := by decide +kernel
theorem dX10_firstWornHour_24 : decode cX10_firstWornHour 24 = .ok (.i2l, 1) := by decide +kernel
theorem dX10_firstWornHour_25 : decode cX10_firstWornHour 25 = .ok (.invokestatic 70, 3) := by decide +kernel
theorem dX10_firstWornHour_28 : decode cX10_firstWornHour 28 = .ok (.invokestatic 74, 3) := by decide +kernel
theorem dX10_firstWornHour_31 : decode cX10_firstWornHour 31 = .ok (.lstore_n 2, 1) := by decide +kernel
theorem dX10_firstWornHour_32 : decode cX10_firstWornHour 32 = .ok (.aload_n 0, 1) := by decide +kernel
theorem dX10_firstWornHour_33 : decode cX10_firstWornHour 33 = .ok (.getfield 38, 3) := by decide +kernel
theorem dX10_firstWornHour_36 : decode cX10_firstWornHour 36 = .ok (.iconst 1, 1) := by decide +kernel
theorem dX10_firstWornHour_37 : decode cX10_firstWornHour 37 = .ok (.if_icmp .le 40, 3) := by decide +kernel
theorem dX10_firstWornHour_40 : decode cX10_firstWornHour 40 = .ok (.lload_n 2, 1) := by decide +kernel
theorem dX10_firstWornHour_41 : decode cX10_firstWornHour 41 = .ok (.ldc2_w 44, 3) := by decide +kernel
theorem dX10_firstWornHour_44 : decode cX10_firstWornHour 44 = .ok (.iload_n 1, 1) := by decide +kernel
theorem dX10_firstWornHour_45 : decode cX10_firstWornHour 45 = .ok (.i2l, 1) := by decide +kernel
theorem dX10_firstWornHour_46 : decode cX10_firstWornHour 46 = .ok (.lmul, 1) := by decide +kernel
theorem dX10_firstWornHour_47 : decode cX10_firstWornHour 47 = .ok (.aload_n 0, 1) := by decide +kernel
theorem dX10_firstWornHour_48 : decode cX10_firstWornHour 48 = .ok (.getfield 18, 3) := by decide +kernel
theorem dX10_firstWornHour_51 : decode cX10_firstWornHour 51 = .ok (.iconst 1, 1) := by decide +kernel
theorem dX10_firstWornHour_52 : decode cX10_firstWornHour 52 = .ok (.iaload, 1) := by decide +kernel
theorem dX10_firstWornHour_53 : decode cX10_firstWornHour 53 = .ok (.i2l, 1) := by decide +kernel
theorem dX10_firstWornHour_54 : decode cX10_firstWornHour 54 = .ok (.lmul, 1) := by decide +kernel
theorem dX10_firstWornHour_55 : decode cX10_firstWornHour 55 = .ok (.aload_n 0, 1) := by decide +kernel
theorem dX10_firstWornHour_56 : decode cX10_firstWornHour 56 = .ok (.getfield 18, 3) := by decide +kernel
theorem dX10_firstWornHour_59 : decode cX10_firstWornHour 59 = .ok (.iconst 0, 1) := by decide +kernel
theorem dX10_firstWornHour_60 : decode cX10_firstWornHour 60 = .ok (.iaload, 1) := by decide +kernel
theorem dX10_firstWornHour_61 : decode cX10_firstWornHour 61 = .ok (.i2l, 1) := by decide +kernel
theorem dX10_firstWornHour_62 : decode cX10_firstWornHour 62 = .ok (.aload_n 0, 1) := by decide +kernel
theorem dX10_firstWornHour_63 : decode cX10_firstWornHour 63 = .ok (.getfield 18, 3) := by decide +kernel
theorem dX10_firstWornHour_66 : decode cX10_firstWornHour 66 = .ok (.iconst 2, 1) := by decide +kernel
theorem dX10_firstWornHour_67 : decode cX10_firstWornHour 67 = .ok (.iaload, 1) := by decide +kernel
theorem dX10_firstWornHour_68 : decode cX10_firstWornHour 68 = .ok (.i2l, 1) := by decide +kernel
theorem dX10_firstWornHour_69 : decode cX10_firstWornHour 69 = .ok (.lmul, 1) := by decide +kernel
theorem dX10_firstWornHour_70 : decode cX10_firstWornHour 70 = .ok (.invokestatic 70, 3) := by decide +kernel
theorem dX10_firstWornHour_73 : decode cX10_firstWornHour 73 = .ok (.invokestatic 74, 3) := by decide +kernel
theorem dX10_firstWornHour_76 : decode cX10_firstWornHour 76 = .ok (.lstore_n 2, 1) := by decide +kernel
theorem dX10_firstWornHour_77 : decode cX10_firstWornHour 77 = .ok (.lload_n 2, 1) := by decide +kernel
theorem dX10_firstWornHour_78 : decode cX10_firstWornHour 78 = .ok (.lreturn, 1) := by decide +kernel
noncomputable def f_X10_firstWornHour_32 (r0 : Nat) (v1 : Int32) (v2 : Int64) (σ : am_H) : Option (Int64) :=
  if 1 < (σ.1 10 r0 5) then
   ((am_ix 4 1).bind fun j2 =>
   (am_ix 4 0).bind fun j3 =>
   (am_ix 4 2).bind fun j4 =>
   (f_X10_roundedUp ((24 * (Int32.toInt64 v1)) * (Int32.toInt64 (σ.1 1106 r0 j2))) ((Int32.toInt64 (σ.1 1106 r0 j3)) * (Int32.toInt64 (σ.1 1106 r0 j4))) σ).bind fun p5 =>
   some (am_mnL v2 p5))
  else
  some v2
set_option maxRecDepth 100000 in
set_option maxHeartbeats 4000000 in
theorem q_X10_firstWornHour_32 {X : am_X} (hX : am_wC X) {Q : Option Value → am_H → Prop} (r0 : Nat) (v1 : Int32) (v2 : Int64) (hr0 : r0 < 18) (σ : am_H) {o : Int64} (hf : f_X10_firstWornHour_32 r0 v1 v2 σ = some o) (hk : Q (some (.long o)) σ) : am_G X gm_X10_firstWornHour Q 32 [(0, .ref (am_ad X 10 r0)), (1, .int v1), (2, .long v2)] [] σ := by
  unfold f_X10_firstWornHour_32 at hf
  refine g_aload_n (pc := 32) 0 rfl dX10_firstWornHour_32 rfl ?_
  refine g_getI (pc := 33) (in_10 hX.1 (by omega)) fr_X10_38 dX10_firstWornHour_33 ?_
  refine g_iconst (pc := 36) (v := 1) dX10_firstWornHour_36 (by decide) ?_
  refine bi_le (pc := 37) 77 dX10_firstWornHour_37 rfl (fun c1 => ?_) (fun c1 => ?_)
  · replace hf := am_ifT c1 hf
    refine g_lload_n (pc := 40) 2 rfl dX10_firstWornHour_40 rfl ?_
    refine g_ldc2 (pc := 41) (v := 24) (tb_4 (List.mem_of_getElem? (i := 181) (by decide +kernel))) dX10_firstWornHour_41 ?_
    refine g_iload_n (pc := 44) 1 rfl dX10_firstWornHour_44 rfl ?_
    refine g_i2l (pc := 45) dX10_firstWornHour_45 ?_
    refine g_lmul (pc := 46) dX10_firstWornHour_46 ?_
    refine g_aload_n (pc := 47) 0 rfl dX10_firstWornHour_47 rfl ?_
    refine g_getC (pc := 48) (e := r0) (in_10 hX.1 (by omega)) fr_X10_18 dX10_firstWornHour_48 rfl ?_
    refine g_iconst (pc := 51) (v := 1) dX10_firstWornHour_51 (by decide) ?_
    obtain ⟨j2, hj2, hf⟩ := am_bd hf
    have gj2 := am_ix_lt hj2
    refine g_aI (pc := 52) (in_1106 hX.1 (by omega)) ak_1106 hj2 dX10_firstWornHour_52 ?_
    refine g_i2l (pc := 53) dX10_firstWornHour_53 ?_
    refine g_lmul (pc := 54) dX10_firstWornHour_54 ?_
    refine g_aload_n (pc := 55) 0 rfl dX10_firstWornHour_55 rfl ?_
    refine g_getC (pc := 56) (e := r0) (in_10 hX.1 (by omega)) fr_X10_18 dX10_firstWornHour_56 rfl ?_
    refine g_iconst (pc := 59) (v := 0) dX10_firstWornHour_59 (by decide) ?_
    obtain ⟨j3, hj3, hf⟩ := am_bd hf
    have gj3 := am_ix_lt hj3
    refine g_aI (pc := 60) (in_1106 hX.1 (by omega)) ak_1106 hj3 dX10_firstWornHour_60 ?_
    refine g_i2l (pc := 61) dX10_firstWornHour_61 ?_
    refine g_aload_n (pc := 62) 0 rfl dX10_firstWornHour_62 rfl ?_
    refine g_getC (pc := 63) (e := r0) (in_10 hX.1 (by omega)) fr_X10_18 dX10_firstWornHour_63 rfl ?_
    refine g_iconst (pc := 66) (v := 2) dX10_firstWornHour_66 (by decide) ?_
    obtain ⟨j4, hj4, hf⟩ := am_bd hf
    have gj4 := am_ix_lt hj4
    refine g_aI (pc := 67) (in_1106 hX.1 (by omega)) ak_1106 hj4 dX10_firstWornHour_67 ?_
    refine g_i2l (pc := 68) dX10_firstWornHour_68 ?_
    refine g_lmul (pc := 69) dX10_firstWornHour_69 ?_
    obtain ⟨p5, hp5, hf⟩ := am_bd hf
    refine g_cS (pc := 70) (As := [.long ((24 * (Int32.toInt64 v1)) * (Int32.toInt64 (σ.1 1106 r0 j2))), .long ((Int32.toInt64 (σ.1 1106 r0 j3)) * (Int32.toInt64 (σ.1 1106 r0 j4)))]) (st := [.long v2]) (st1 := [.long p5, .long v2]) mS_X10_roundedUp ln_X10_70 rfl (Nat.le_of_ble_eq_true rfl) (Nat.le_of_ble_eq_true rfl) (k_X10_roundedUp hX ((24 * (Int32.toInt64 v1)) * (Int32.toInt64 (σ.1 1106 r0 j2))) ((Int32.toInt64 (σ.1 1106 r0 j3)) * (Int32.toInt64 (σ.1 1106 r0 j4))) σ hp5) dX10_firstWornHour_70 rfl rfl ?_
    refine g_mminL (pc := 73) (Nat.le_of_ble_eq_true rfl) (Nat.le_of_ble_eq_true rfl) sp_X10_74 dX10_firstWornHour_73 ?_
    refine g_lstore_n (pc := 76) [(2, .long (am_mnL v2 p5)), (0, .ref (am_ad X 10 r0)), (1, .int v1)] dX10_firstWornHour_76 rfl (Nat.le_of_ble_eq_true rfl) rfl ?_
    refine g_lload_n (pc := 77) 0 rfl dX10_firstWornHour_77 rfl ?_
    have ho := Option.some.inj hf
    subst ho
    exact g_lreturn (pc := 78) (st := []) rfl dX10_firstWornHour_78 hk
  replace hf := am_ifF c1 hf
  refine g_lload_n (pc := 77) 2 rfl dX10_firstWornHour_77 rfl ?_
  have ho := Option.some.inj hf
  subst ho
  exact g_lreturn (pc := 78) (st := []) rfl dX10_firstWornHour_78 hk
noncomputable def f_X10_firstWornHour (r0 : Nat) (v1 : Int32) (σ : am_H) : Option (Int64) :=
  if 0 < (σ.1 10 r0 5) then
   ((am_ix 4 0).bind fun j2 =>
   (f_X10_roundedUp (24 * (Int32.toInt64 v1)) (Int32.toInt64 (σ.1 1106 r0 j2)) σ).bind fun p3 =>
   f_X10_firstWornHour_32 r0 v1 (am_mnL 100000 p3) σ)
  else
  f_X10_firstWornHour_32 r0 v1 100000 σ
set_option maxRecDepth 100000 in
set_option maxHeartbeats 4000000 in
theorem q_X10_firstWornHour {X : am_X} (hX : am_wC X) {Q : Option Value → am_H → Prop} (r0 : Nat) (v1 : Int32) (hr0 : r0 < 18) (σ : am_H) {o : Int64} (hf : f_X10_firstWornHour r0 v1 σ = some o) (hk : Q (some (.long o)) σ) : am_G X gm_X10_firstWornHour Q 0 [(0, .ref (am_ad X 10 r0)), (1, .int v1)] [] σ := by
  unfold f_X10_firstWornHour at hf
  refine g_ldc2 (pc := 0) (v := 100000) (tb_6 (List.mem_of_getElem? (i := 122) (by decide +kernel))) dX10_firstWornHour_0 ?_
  refine g_lstore_n (pc := 3) [(2, .long 100000), (0, .ref (am_ad X 10 r0)), (1, .int v1)] dX10_firstWornHour_3 rfl (Nat.le_of_ble_eq_true rfl) rfl ?_
  refine g_aload_n (pc := 4) 1 rfl dX10_firstWornHour_4 rfl ?_
  refine g_getI (pc := 5) (in_10 hX.1 (by omega)) fr_X10_38 dX10_firstWornHour_5 ?_
  refine bz_le (pc := 8) 32 dX10_firstWornHour_8 rfl (fun c1 => ?_) (fun c1 => ?_)
  · replace hf := am_ifT c1 hf
    refine g_lload_n (pc := 11) 0 rfl dX10_firstWornHour_11 rfl ?_
    refine g_ldc2 (pc := 12) (v := 24) (tb_4 (List.mem_of_getElem? (i := 181) (by decide +kernel))) dX10_firstWornHour_12 ?_
    refine g_iload_n (pc := 15) 2 rfl dX10_firstWornHour_15 rfl ?_
    refine g_i2l (pc := 16) dX10_firstWornHour_16 ?_
    refine g_lmul (pc := 17) dX10_firstWornHour_17 ?_
    refine g_aload_n (pc := 18) 1 rfl dX10_firstWornHour_18 rfl ?_
    refine g_getC (pc := 19) (e := r0) (in_10 hX.1 (by omega)) fr_X10_18 dX10_firstWornHour_19 rfl ?_
    refine g_iconst (pc := 22) (v := 0) dX10_firstWornHour_22 (by decide) ?_
    obtain ⟨j2, hj2, hf⟩ := am_bd hf
    have gj2 := am_ix_lt hj2
    refine g_aI (pc := 23) (in_1106 hX.1 (by omega)) ak_1106 hj2 dX10_firstWornHour_23 ?_
    refine g_i2l (pc := 24) dX10_firstWornHour_24 ?_
    obtain ⟨p3, hp3, hf⟩ := am_bd hf
    refine g_cS (pc := 25) (As := [.long (24 * (Int32.toInt64 v1)), .long (Int32.toInt64 (σ.1 1106 r0 j2))]) (st := [.long 100000]) (st1 := [.long p3, .long 100000]) mS_X10_roundedUp ln_X10_70 rfl (Nat.le_of_ble_eq_true rfl) (Nat.le_of_ble_eq_true rfl) (k_X10_roundedUp hX (24 * (Int32.toInt64 v1)) (Int32.toInt64 (σ.1 1106 r0 j2)) σ hp3) dX10_firstWornHour_25 rfl rfl ?_
    refine g_mminL (pc := 28) (Nat.le_of_ble_eq_true rfl) (Nat.le_of_ble_eq_true rfl) sp_X10_74 dX10_firstWornHour_28 ?_
    refine g_lstore_n (pc := 31) [(2, .long (am_mnL 100000 p3)), (0, .ref (am_ad X 10 r0)), (1, .int v1)] dX10_firstWornHour_31 rfl (Nat.le_of_ble_eq_true rfl) rfl ?_
    exact am_sub [1, 2, 0] rfl (q_X10_firstWornHour_32 hX r0 v1 (am_mnL 100000 p3) (by omega) σ hf hk)
  replace hf := am_ifF c1 hf
  exact am_sub [1, 2, 0] rfl (q_X10_firstWornHour_32 hX r0 v1 100000 (by omega) σ hf hk)
theorem k_X10_firstWornHour {X : am_X} (hX : am_wC X) (r0 : Nat) (v1 : Int32) (hr0 : r0 < 18) (σ : am_H) {o : Int64} (hf : f_X10_firstWornHour r0 v1 σ = some o) : am_C X gm_X10_firstWornHour [.ref (am_ad X 10 r0), .int v1] σ (am_is (some (.long o)) σ) :=
  am_ofG rfl (Nat.le_of_ble_eq_true rfl) rfl (q_X10_firstWornHour hX r0 v1 hr0 σ hf ⟨rfl, rfl⟩)
theorem dX3_firstWornHour_0 : decode cX3_firstWornHour 0 = .ok (.ldc2_w 207, 3) := by decide +kernel
theorem dX3_firstWornHour_3 : decode cX3_firstWornHour 3 = .ok (.lstore_n 2, 1) := by decide +kernel
theorem dX3_firstWornHour_4 : decode cX3_firstWornHour 4 = .ok (.iconst 0, 1) := by decide +kernel
theorem dX3_firstWornHour_5 : decode cX3_firstWornHour 5 = .ok (.istore 4, 2) := by decide +kernel
theorem dX3_firstWornHour_7 : decode cX3_firstWornHour 7 = .ok (.iload 4, 2) := by decide +kernel
theorem dX3_firstWornHour_9 : decode cX3_firstWornHour 9 = .ok (.aload_n 0, 1) := by decide +kernel
theorem dX3_firstWornHour_10 : decode cX3_firstWornHour 10 = .ok (.getfield 32, 3) := by decide +kernel
theorem dX3_firstWornHour_13 : decode cX3_firstWornHour 13 = .ok (.if_icmp .ge 25, 3) := by decide +kernel
theorem dX3_firstWornHour_16 : decode cX3_firstWornHour 16 = .ok (.lload_n 2, 1) := by decide +kernel
theorem dX3_firstWornHour_17 : decode cX3_firstWornHour 17 = .ok (.aload_n 0, 1) := by decide +kernel
theorem dX3_firstWornHour_18 : decode cX3_firstWornHour 18 = .ok (.getfield 27, 3) := by decide +kernel
theorem dX3_firstWornHour_21 : decode cX3_firstWornHour 21 = .ok (.iload 4, 2) := by decide +kernel
theorem dX3_firstWornHour_23 : decode cX3_firstWornHour 23 = .ok (.aaload, 1) := by decide +kernel
theorem dX3_firstWornHour_24 : decode cX3_firstWornHour 24 = .ok (.iload_n 1, 1) := by decide +kernel
theorem dX3_firstWornHour_25 : decode cX3_firstWornHour 25 = .ok (.invokevirtual 209, 3) := by decide +kernel
theorem dX3_firstWornHour_28 : decode cX3_firstWornHour 28 = .ok (.invokestatic 213, 3) := by decide +kernel
theorem dX3_firstWornHour_31 : decode cX3_firstWornHour 31 = .ok (.lstore_n 2, 1) := by decide +kernel
theorem dX3_firstWornHour_32 : decode cX3_firstWornHour 32 = .ok (.iinc 4 1, 3) := by decide +kernel
theorem dX3_firstWornHour_35 : decode cX3_firstWornHour 35 = .ok (.goto (-28), 3) := by decide +kernel
theorem dX3_firstWornHour_38 : decode cX3_firstWornHour 38 = .ok (.lload_n 2, 1) := by decide +kernel
theorem dX3_firstWornHour_39 : decode cX3_firstWornHour 39 = .ok (.lreturn, 1) := by decide +kernel
noncomputable def f_X3_firstWornHour_7 (r0 : Nat) (v1 : Int32) (v2 : Int64) (v4 : Int32) (σ : am_H) : Option ((Int64 × Int32) ⊕ (Int64)) :=
  if v4 < (σ.1 3 r0 1) then
   ((am_ix 6 v4).bind fun j2 =>
   (f_X10_firstWornHour (6 * r0 + j2) v1 σ).bind fun p3 =>
   some (.inl ((am_mnL v2 p3), (v4 + 1))))
  else
  some (.inr v2)
set_option maxRecDepth 100000 in
set_option maxHeartbeats 4000000 in
theorem q_X3_firstWornHour_7 {X : am_X} (hX : am_wC X) {Q : Option Value → am_H → Prop} (r0 : Nat) (v1 : Int32) (v2 : Int64) (v4 : Int32) (hr0 : r0 < 3) (σ : am_H) {o : (Int64 × Int32) ⊕ (Int64)} (hf : f_X3_firstWornHour_7 r0 v1 v2 v4 σ = some o) (hk0 : ∀ s, o = .inl s → am_G X gm_X3_firstWornHour Q 7 [(0, .ref (am_ad X 3 r0)), (1, .int v1), (2, .long s.1), (4, .int s.2)] [] σ) (hk1 : ∀ t, o = .inr t → am_G X gm_X3_firstWornHour Q 38 [(2, .long t)] [] σ) : am_G X gm_X3_firstWornHour Q 7 [(0, .ref (am_ad X 3 r0)), (1, .int v1), (2, .long v2), (4, .int v4)] [] σ := by
  unfold f_X3_firstWornHour_7 at hf
  refine g_iload (pc := 7) 3 rfl dX3_firstWornHour_7 ?_
  refine g_aload_n (pc := 9) 0 rfl dX3_firstWornHour_9 rfl ?_
  refine g_getI (pc := 10) (in_3 hX.1 (by omega)) fr_X3_32 dX3_firstWornHour_10 ?_
  refine bi_ge (pc := 13) 38 dX3_firstWornHour_13 rfl (fun c1 => ?_) (fun c1 => ?_)
  · replace hf := am_ifT c1 hf
    refine g_lload_n (pc := 16) 2 rfl dX3_firstWornHour_16 rfl ?_
    refine g_aload_n (pc := 17) 0 rfl dX3_firstWornHour_17 rfl ?_
    refine g_getC (pc := 18) (e := r0) (in_3 hX.1 (by omega)) fr_X3_27 dX3_firstWornHour_18 rfl ?_
    refine g_iload (pc := 21) 3 rfl dX3_firstWornHour_21 ?_
    obtain ⟨j2, hj2, hf⟩ := am_bd hf
    have gj2 := am_ix_lt hj2
    refine g_aC (pc := 23) (e := (6 * r0 + j2)) (in_400 hX.1 (by omega)) ak_400 hj2 rfl dX3_firstWornHour_23 ?_
    refine g_iload_n (pc := 24) 1 rfl dX3_firstWornHour_24 rfl ?_
    obtain ⟨p3, hp3, hf⟩ := am_bd hf
    refine g_cV (pc := 25) (As := [.int v1]) (st := [.long v2]) (st1 := [.long p3, .long v2]) (in_10 hX.1 (by omega)) kk_10 mV_X10_firstWornHour ln_X3_209 rfl (Nat.le_of_ble_eq_true rfl) (Nat.le_of_ble_eq_true rfl) (k_X10_firstWornHour hX (6 * r0 + j2) v1 (by omega) σ hp3) dX3_firstWornHour_25 rfl rfl ?_
    refine g_mminL (pc := 28) (Nat.le_of_ble_eq_true rfl) (Nat.le_of_ble_eq_true rfl) sp_X3_213 dX3_firstWornHour_28 ?_
    refine g_lstore_n (pc := 31) [(2, .long (am_mnL v2 p3)), (0, .ref (am_ad X 3 r0)), (1, .int v1), (4, .int v4)] dX3_firstWornHour_31 rfl (Nat.le_of_ble_eq_true rfl) rfl ?_
    refine g_iinc (pc := 32) (v := (v4 + 1)) 3 [(4, .int (v4 + 1)), (2, .long (am_mnL v2 p3)), (0, .ref (am_ad X 3 r0)), (1, .int v1)] dX3_firstWornHour_32 rfl rfl (Nat.le_of_ble_eq_true rfl) rfl ?_
    refine g_goto (pc := 35) 7 dX3_firstWornHour_35 rfl ?_
    have hz := hk0 _ (Option.some.inj hf).symm
    exact am_sub [2, 3, 1, 0] rfl hz
  replace hf := am_ifF c1 hf
  have hz := hk1 _ (Option.some.inj hf).symm
  exact am_sub [2] rfl hz
set_option maxRecDepth 100000 in
set_option maxHeartbeats 4000000 in
theorem l_X3_firstWornHour_7 {X : am_X} (hX : am_wC X) {Q : Option Value → am_H → Prop} (r0 : Nat) (v1 : Int32) (hr0 : r0 < 3) (σ : am_H) (s : Int64 × Int32) {o : Int64} (hf : am_loop (fun s => f_X3_firstWornHour_7 r0 v1 s.1 s.2 σ) s = some o) (hk1 : ∀ t, o = t → am_G X gm_X3_firstWornHour Q 38 [(2, .long t)] [] σ) : am_G X gm_X3_firstWornHour Q 7 [(0, .ref (am_ad X 3 r0)), (1, .int v1), (2, .long s.1), (4, .int s.2)] [] σ := by
  refine am_loop_ind (P := fun s => am_G X gm_X3_firstWornHour Q 7 [(0, .ref (am_ad X 3 r0)), (1, .int v1), (2, .long s.1), (4, .int s.2)] [] σ) (K := fun r => r = o) ?_ hf rfl
  intro s o1 hb hi hr
  exact q_X3_firstWornHour_7 hX r0 v1 s.1 s.2  hr0 σ hb hi (fun t e => hk1 t (hr _ e).symm)
noncomputable def f_X3_firstWornHour (r0 : Nat) (v1 : Int32) (σ : am_H) : Option (Int64) :=
  (am_loop (fun s => f_X3_firstWornHour_7 r0 v1 s.1 s.2 σ) (100000, 0)).bind fun w1 =>
  some w1
set_option maxRecDepth 100000 in
set_option maxHeartbeats 4000000 in
theorem q_X3_firstWornHour {X : am_X} (hX : am_wC X) {Q : Option Value → am_H → Prop} (r0 : Nat) (v1 : Int32) (hr0 : r0 < 3) (σ : am_H) {o : Int64} (hf : f_X3_firstWornHour r0 v1 σ = some o) (hk : Q (some (.long o)) σ) : am_G X gm_X3_firstWornHour Q 0 [(0, .ref (am_ad X 3 r0)), (1, .int v1)] [] σ := by
  unfold f_X3_firstWornHour at hf
  refine g_ldc2 (pc := 0) (v := 100000) (tb_6 (List.mem_of_getElem? (i := 117) (by decide +kernel))) dX3_firstWornHour_0 ?_
  refine g_lstore_n (pc := 3) [(2, .long 100000), (0, .ref (am_ad X 3 r0)), (1, .int v1)] dX3_firstWornHour_3 rfl (Nat.le_of_ble_eq_true rfl) rfl ?_
  refine g_iconst (pc := 4) (v := 0) dX3_firstWornHour_4 (by decide) ?_
  refine g_istore (pc := 5) [(4, .int 0), (2, .long 100000), (0, .ref (am_ad X 3 r0)), (1, .int v1)] dX3_firstWornHour_5 (Nat.le_of_ble_eq_true rfl) rfl ?_
  obtain ⟨w1, hw1, hf⟩ := am_bd hf
  refine am_sub [2, 3, 1, 0] rfl (l_X3_firstWornHour_7 hX r0 v1 (by omega) σ (100000, 0) hw1 ?_)
  intro t e
  subst e
  refine g_lload_n (pc := 38) 0 rfl dX3_firstWornHour_38 rfl ?_
  have ho := Option.some.inj hf
  subst ho
  exact g_lreturn (pc := 39) (st := []) rfl dX3_firstWornHour_39 hk
theorem k_X3_firstWornHour {X : am_X} (hX : am_wC X) (r0 : Nat) (v1 : Int32) (hr0 : r0 < 3) (σ : am_H) {o : Int64} (hf : f_X3_firstWornHour r0 v1 σ = some o) : am_C X gm_X3_firstWornHour [.ref (am_ad X 3 r0), .int v1] σ (am_is (some (.long o)) σ) :=
  am_ofG rfl (Nat.le_of_ble_eq_true rfl) rfl (q_X3_firstWornHour hX r0 v1 hr0 σ hf ⟨rfl, rfl⟩)
theorem dX4_readsEnd_0 : decode cX4_readsEnd 0 = .ok (.aload_n 0, 1) := by decide +kernel
theorem dX4_readsEnd_1 : decode cX4_readsEnd 1 = .ok (.getfield 34, 3) := by decide +kernel
theorem dX4_readsEnd_4 : decode cX4_readsEnd 4 = .ok (.ifCond .le 12, 3) := by decide +kernel
theorem dX4_readsEnd_7 : decode cX4_readsEnd 7 = .ok (.aload_n 0, 1) := by decide +kernel
theorem dX4_readsEnd_8 : decode cX4_readsEnd 8 = .ok (.getfield 27, 3) := by decide +kernel
theorem dX4_readsEnd_11 : decode cX4_readsEnd 11 = .ok (.bipush 80, 2) := by decide +kernel
theorem dX4_readsEnd_13 : decode cX4_readsEnd 13 = .ok (.if_icmp .lt 9, 3) := by decide +kernel
theorem dX4_readsEnd_16 : decode cX4_readsEnd 16 = .ok (.aload_n 1, 1) := by decide +kernel
theorem dX4_readsEnd_17 : decode cX4_readsEnd 17 = .ok (.iconst 2, 1) := by decide +kernel
theorem dX4_readsEnd_18 : decode cX4_readsEnd 18 = .ok (.invokevirtual 43, 3) := by decide +kernel
theorem dX4_readsEnd_21 : decode cX4_readsEnd 21 = .ok (.ireturn, 1) := by decide +kernel
theorem dX4_readsEnd_22 : decode cX4_readsEnd 22 = .ok (.aload_n 1, 1) := by decide +kernel
theorem dX4_readsEnd_23 : decode cX4_readsEnd 23 = .ok (.invokevirtual 60, 3) := by decide +kernel
theorem dX4_readsEnd_26 : decode cX4_readsEnd 26 = .ok (.aload_n 0, 1) := by decide +kernel
theorem dX4_readsEnd_27 : decode cX4_readsEnd 27 = .ok (.dup, 1) := by decide +kernel
theorem dX4_readsEnd_28 : decode cX4_readsEnd 28 = .ok (.getfield 34, 3) := by decide +kernel
theorem dX4_readsEnd_31 : decode cX4_readsEnd 31 = .ok (.iconst 1, 1) := by decide +kernel
theorem dX4_readsEnd_32 : decode cX4_readsEnd 32 = .ok (.isub, 1) := by decide +kernel
theorem dX4_readsEnd_33 : decode cX4_readsEnd 33 = .ok (.putfield 34, 3) := by decide +kernel
theorem dX4_readsEnd_36 : decode cX4_readsEnd 36 = .ok (.aload_n 0, 1) := by decide +kernel
theorem dX4_readsEnd_37 : decode cX4_readsEnd 37 = .ok (.getfield 24, 3) := by decide +kernel
theorem dX4_readsEnd_40 : decode cX4_readsEnd 40 = .ok (.aload_n 0, 1) := by decide +kernel
theorem dX4_readsEnd_41 : decode cX4_readsEnd 41 = .ok (.getfield 34, 3) := by decide +kernel
theorem dX4_readsEnd_44 : decode cX4_readsEnd 44 = .ok (.iaload, 1) := by decide +kernel
theorem dX4_readsEnd_45 : decode cX4_readsEnd 45 = .ok (.istore_n 2, 1) := by decide +kernel
theorem dX4_readsEnd_46 : decode cX4_readsEnd 46 = .ok (.aload_n 0, 1) := by decide +kernel
theorem dX4_readsEnd_47 : decode cX4_readsEnd 47 = .ok (.getfield 9, 3) := by decide +kernel
theorem dX4_readsEnd_50 : decode cX4_readsEnd 50 = .ok (.aload_n 0, 1) := by decide +kernel
theorem dX4_readsEnd_51 : decode cX4_readsEnd 51 = .ok (.getfield 27, 3) := by decide +kernel
theorem dX4_readsEnd_54 : decode cX4_readsEnd 54 = .ok (.bipush 6, 2) := by decide +kernel
theorem dX4_readsEnd_56 : decode cX4_readsEnd 56 = .ok (.iastore, 1) := by decide +kernel
theorem dX4_readsEnd_57 : decode cX4_readsEnd 57 = .ok (.aload_n 0, 1) := by decide +kernel
theorem dX4_readsEnd_58 : decode cX4_readsEnd 58 = .ok (.getfield 21, 3) := by decide +kernel
theorem dX4_readsEnd_61 : decode cX4_readsEnd 61 = .ok (.aload_n 0, 1) := by decide +kernel
theorem dX4_readsEnd_62 : decode cX4_readsEnd 62 = .ok (.getfield 27, 3) := by decide +kernel
theorem dX4_readsEnd_65 : decode cX4_readsEnd 65 = .ok (.iload_n 2, 1) := by decide +kernel
theorem dX4_readsEnd_66 : decode cX4_readsEnd 66 = .ok (.iastore, 1) := by decide +kernel
theorem dX4_readsEnd_67 : decode cX4_readsEnd 67 = .ok (.aload_n 0, 1) := by decide +kernel
theorem dX4_readsEnd_68 : decode cX4_readsEnd 68 = .ok (.getfield 21, 3) := by decide +kernel
theorem dX4_readsEnd_71 : decode cX4_readsEnd 71 = .ok (.iload_n 2, 1) := by decide +kernel
theorem dX4_readsEnd_72 : decode cX4_readsEnd 72 = .ok (.aload_n 0, 1) := by decide +kernel
theorem dX4_readsEnd_73 : decode cX4_readsEnd 73 = .ok (.getfield 27, 3) := by decide +kernel
theorem dX4_readsEnd_76 : decode cX4_readsEnd 76 = .ok (.iastore, 1) := by decide +kernel
theorem dX4_readsEnd_77 : decode cX4_readsEnd 77 = .ok (.aload_n 0, 1) := by decide +kernel
theorem dX4_readsEnd_78 : decode cX4_readsEnd 78 = .ok (.dup, 1) := by decide +kernel
theorem dX4_readsEnd_79 : decode cX4_readsEnd 79 = .ok (.getfield 27, 3) := by decide +kernel
theorem dX4_readsEnd_82 : decode cX4_readsEnd 82 = .ok (.iconst 1, 1) := by decide +kernel
theorem dX4_readsEnd_83 : decode cX4_readsEnd 83 = .ok (.iadd, 1) := by decide +kernel
theorem dX4_readsEnd_84 : decode cX4_readsEnd 84 = .ok (.putfield 27, 3) := by decide +kernel
theorem dX4_readsEnd_87 : decode cX4_readsEnd 87 = .ok (.aload_n 1, 1) := by decide +kernel
theorem dX4_readsEnd_88 : decode cX4_readsEnd 88 = .ok (.invokevirtual 63, 3) := by decide +kernel
theorem dX4_readsEnd_91 : decode cX4_readsEnd 91 = .ok (.ireturn, 1) := by decide +kernel
noncomputable def f_X4_readsEnd_16 (σ : am_H) : Option (Bool × am_H) :=
  (f_X5_refuse 2 σ).bind fun p1 =>
  some (p1.1, p1.2)
set_option maxRecDepth 100000 in
set_option maxHeartbeats 4000000 in
theorem q_X4_readsEnd_16 {X : am_X} (hX : am_wC X) {Q : Option Value → am_H → Prop} (σ : am_H) {o : Bool × am_H} (hf : f_X4_readsEnd_16 σ = some o) (hk : Q (some (.int (am_b o.1))) o.2) : am_G X gm_X4_readsEnd Q 16 [(1, .ref (am_ad X 5 0))] [] σ := by
  unfold f_X4_readsEnd_16 at hf
  refine g_aload_n (pc := 16) 0 rfl dX4_readsEnd_16 rfl ?_
  refine g_iconst (pc := 17) (v := 2) dX4_readsEnd_17 (by decide) ?_
  obtain ⟨p1, hp1, hf⟩ := am_bd hf
  refine g_cV (pc := 18) (As := [.int 2]) (st := []) (st1 := [.int (am_b p1.1)]) (in_5 hX.1 (by omega)) kk_5 mV_X5_refuse ln_X4_43 rfl (Nat.le_of_ble_eq_true rfl) (Nat.le_of_ble_eq_true rfl) (k_X5_refuse hX 2 σ hp1) dX4_readsEnd_18 rfl rfl ?_
  have ho := Option.some.inj hf
  subst ho
  exact g_zreturn (pc := 21) (st := []) (x := p1.1) rfl dX4_readsEnd_21 hk
noncomputable def f_X4_readsEnd (r0 : Nat) (σ : am_H) : Option (Bool × am_H) :=
  if 0 < (σ.1 4 r0 7) then
   (if (σ.1 4 r0 4) < 80 then
    ((f_X5_advance σ).bind fun p3 =>
    (some (am_wI p3 4 r0 7 ((p3.1 4 r0 7) - 1))).bind fun s4 =>
    (am_ix 3 (s4.1 4 r0 7)).bind fun j5 =>
    (am_ix 80 (s4.1 4 r0 4)).bind fun j6 =>
    (some (am_wI s4 500 r0 j6 6)).bind fun s7 =>
    (am_ix 80 (s7.1 4 r0 4)).bind fun j8 =>
    (some (am_wI s7 503 r0 j8 (s4.1 506 r0 j5))).bind fun s9 =>
    (am_ix 80 (s4.1 506 r0 j5)).bind fun j10 =>
    (some (am_wI s9 503 r0 j10 (s9.1 4 r0 4))).bind fun s11 =>
    (some (am_wI s11 4 r0 4 ((s11.1 4 r0 4) + 1))).bind fun s12 =>
    (f_X5_takesSign s12).bind fun p13 =>
    some (p13.1, p13.2))
   else
   f_X4_readsEnd_16 σ)
  else
  f_X4_readsEnd_16 σ
set_option maxRecDepth 100000 in
set_option maxHeartbeats 4000000 in
theorem q_X4_readsEnd {X : am_X} (hX : am_wC X) {Q : Option Value → am_H → Prop} (r0 : Nat) (hr0 : r0 < 2) (σ : am_H) {o : Bool × am_H} (hf : f_X4_readsEnd r0 σ = some o) (hk : Q (some (.int (am_b o.1))) o.2) : am_G X gm_X4_readsEnd Q 0 [(0, .ref (am_ad X 4 r0)), (1, .ref (am_ad X 5 0))] [] σ := by
  unfold f_X4_readsEnd at hf
  refine g_aload_n (pc := 0) 0 rfl dX4_readsEnd_0 rfl ?_
  refine g_getI (pc := 1) (in_4 hX.1 (by omega)) fr_X4_34 dX4_readsEnd_1 ?_
  refine bz_le (pc := 4) 16 dX4_readsEnd_4 rfl (fun c1 => ?_) (fun c1 => ?_)
  · replace hf := am_ifT c1 hf
    refine g_aload_n (pc := 7) 0 rfl dX4_readsEnd_7 rfl ?_
    refine g_getI (pc := 8) (in_4 hX.1 (by omega)) fr_X4_27 dX4_readsEnd_8 ?_
    refine g_bipush (pc := 11) (v := 80) dX4_readsEnd_11 (by decide) ?_
    refine bi_lt (pc := 13) 22 dX4_readsEnd_13 rfl (fun c2 => ?_) (fun c2 => ?_)
    · replace hf := am_ifT c2 hf
      refine g_aload_n (pc := 22) 1 rfl dX4_readsEnd_22 rfl ?_
      obtain ⟨p3, hp3, hf⟩ := am_bd hf
      refine g_cV (pc := 23) (As := []) (st := []) (st1 := []) (in_5 hX.1 (by omega)) kk_5 mV_X5_advance ln_X4_60 rfl (Nat.le_of_ble_eq_true rfl) (Nat.le_of_ble_eq_true rfl) (k_X5_advance hX σ hp3) dX4_readsEnd_23 rfl rfl ?_
      refine g_aload_n (pc := 26) 0 rfl dX4_readsEnd_26 rfl ?_
      refine g_dup (pc := 27) dX4_readsEnd_27 rfl ?_
      refine g_getI (pc := 28) (in_4 hX.1 (by omega)) fr_X4_34 dX4_readsEnd_28 ?_
      refine g_iconst (pc := 31) (v := 1) dX4_readsEnd_31 (by decide) ?_
      refine g_isub (pc := 32) dX4_readsEnd_32 ?_
      obtain ⟨s4, hs4, hf⟩ := am_bd hf
      refine g_setI (pc := 33) (in_4 hX.1 (by omega)) fr_X4_34 dX4_readsEnd_33 (Option.some.inj hs4) ?_
      refine g_aload_n (pc := 36) 0 rfl dX4_readsEnd_36 rfl ?_
      refine g_getC (pc := 37) (e := r0) (in_4 hX.1 (by omega)) fr_X4_24 dX4_readsEnd_37 rfl ?_
      refine g_aload_n (pc := 40) 0 rfl dX4_readsEnd_40 rfl ?_
      refine g_getI (pc := 41) (in_4 hX.1 (by omega)) fr_X4_34 dX4_readsEnd_41 ?_
      obtain ⟨j5, hj5, hf⟩ := am_bd hf
      have gj5 := am_ix_lt hj5
      refine g_aI (pc := 44) (in_506 hX.1 (by omega)) ak_506 hj5 dX4_readsEnd_44 ?_
      refine g_istore_n (pc := 45) [(2, .int (s4.1 506 r0 j5)), (0, .ref (am_ad X 4 r0)), (1, .ref (am_ad X 5 0))] dX4_readsEnd_45 rfl (Nat.le_of_ble_eq_true rfl) rfl ?_
      refine g_aload_n (pc := 46) 1 rfl dX4_readsEnd_46 rfl ?_
      refine g_getC (pc := 47) (e := r0) (in_4 hX.1 (by omega)) fr_X4_9 dX4_readsEnd_47 rfl ?_
      refine g_aload_n (pc := 50) 1 rfl dX4_readsEnd_50 rfl ?_
      refine g_getI (pc := 51) (in_4 hX.1 (by omega)) fr_X4_27 dX4_readsEnd_51 ?_
      refine g_bipush (pc := 54) (v := 6) dX4_readsEnd_54 (by decide) ?_
      obtain ⟨j6, hj6, hf⟩ := am_bd hf
      have gj6 := am_ix_lt hj6
      obtain ⟨s7, hs7, hf⟩ := am_bd hf
      refine g_sI (pc := 56) (in_500 hX.1 (by omega)) ak_500 hj6 dX4_readsEnd_56 (Option.some.inj hs7) ?_
      refine g_aload_n (pc := 57) 1 rfl dX4_readsEnd_57 rfl ?_
      refine g_getC (pc := 58) (e := r0) (in_4 hX.1 (by omega)) fr_X4_21 dX4_readsEnd_58 rfl ?_
      refine g_aload_n (pc := 61) 1 rfl dX4_readsEnd_61 rfl ?_
      refine g_getI (pc := 62) (in_4 hX.1 (by omega)) fr_X4_27 dX4_readsEnd_62 ?_
      refine g_iload_n (pc := 65) 0 rfl dX4_readsEnd_65 rfl ?_
      obtain ⟨j8, hj8, hf⟩ := am_bd hf
      have gj8 := am_ix_lt hj8
      obtain ⟨s9, hs9, hf⟩ := am_bd hf
      refine g_sI (pc := 66) (in_503 hX.1 (by omega)) ak_503 hj8 dX4_readsEnd_66 (Option.some.inj hs9) ?_
      refine g_aload_n (pc := 67) 1 rfl dX4_readsEnd_67 rfl ?_
      refine g_getC (pc := 68) (e := r0) (in_4 hX.1 (by omega)) fr_X4_21 dX4_readsEnd_68 rfl ?_
      refine g_iload_n (pc := 71) 0 rfl dX4_readsEnd_71 rfl ?_
      refine g_aload_n (pc := 72) 1 rfl dX4_readsEnd_72 rfl ?_
      refine g_getI (pc := 73) (in_4 hX.1 (by omega)) fr_X4_27 dX4_readsEnd_73 ?_
      obtain ⟨j10, hj10, hf⟩ := am_bd hf
      have gj10 := am_ix_lt hj10
      obtain ⟨s11, hs11, hf⟩ := am_bd hf
      refine g_sI (pc := 76) (in_503 hX.1 (by omega)) ak_503 hj10 dX4_readsEnd_76 (Option.some.inj hs11) ?_
      refine g_aload_n (pc := 77) 1 rfl dX4_readsEnd_77 rfl ?_
      refine g_dup (pc := 78) dX4_readsEnd_78 rfl ?_
      refine g_getI (pc := 79) (in_4 hX.1 (by omega)) fr_X4_27 dX4_readsEnd_79 ?_
      refine g_iconst (pc := 82) (v := 1) dX4_readsEnd_82 (by decide) ?_
      refine g_iadd (pc := 83) dX4_readsEnd_83 ?_
      obtain ⟨s12, hs12, hf⟩ := am_bd hf
      refine g_setI (pc := 84) (in_4 hX.1 (by omega)) fr_X4_27 dX4_readsEnd_84 (Option.some.inj hs12) ?_
      refine g_aload_n (pc := 87) 2 rfl dX4_readsEnd_87 rfl ?_
      obtain ⟨p13, hp13, hf⟩ := am_bd hf
      refine g_cV (pc := 88) (As := []) (st := []) (st1 := [.int (am_b p13.1)]) (in_5 hX.1 (by omega)) kk_5 mV_X5_takesSign ln_X4_63 rfl (Nat.le_of_ble_eq_true rfl) (Nat.le_of_ble_eq_true rfl) (k_X5_takesSign hX s12 hp13) dX4_readsEnd_88 rfl rfl ?_
      have ho := Option.some.inj hf
      subst ho
      exact g_zreturn (pc := 91) (st := []) (x := p13.1) rfl dX4_readsEnd_91 hk
    replace hf := am_ifF c2 hf
    exact am_sub [1] rfl (q_X4_readsEnd_16 hX σ hf hk)
  replace hf := am_ifF c1 hf
  exact am_sub [1] rfl (q_X4_readsEnd_16 hX σ hf hk)
theorem k_X4_readsEnd {X : am_X} (hX : am_wC X) (r0 : Nat) (hr0 : r0 < 2) (σ : am_H) {o : Bool × am_H} (hf : f_X4_readsEnd r0 σ = some o) : am_C X gm_X4_readsEnd [.ref (am_ad X 4 r0), .ref (am_ad X 5 0)] σ (am_is (some (.int (am_b o.1))) o.2) :=
  am_ofG rfl (Nat.le_of_ble_eq_true rfl) rfl (q_X4_readsEnd hX r0 hr0 σ hf ⟨rfl, rfl⟩)
theorem dX4_deedOf_0 : decode cX4_deedOf 0 = .ok (.aload_n 0, 1) := by decide +kernel
theorem dX4_deedOf_1 : decode cX4_deedOf 1 = .ok (.ldc 74, 2) := by decide +kernel
theorem dX4_deedOf_3 : decode cX4_deedOf 3 = .ok (.invokevirtual 49, 3) := by decide +kernel
theorem dX4_deedOf_6 : decode cX4_deedOf 6 = .ok (.ifCond .eq 5, 3) := by decide +kernel
theorem dX4_deedOf_9 : decode cX4_deedOf 9 = .ok (.iconst 0, 1) := by decide +kernel
theorem dX4_deedOf_10 : decode cX4_deedOf 10 = .ok (.ireturn, 1) := by decide +kernel
theorem dX4_deedOf_11 : decode cX4_deedOf 11 = .ok (.aload_n 0, 1) := by decide +kernel
theorem dX4_deedOf_12 : decode cX4_deedOf 12 = .ok (.ldc 76, 2) := by decide +kernel
theorem dX4_deedOf_14 : decode cX4_deedOf 14 = .ok (.invokevirtual 49, 3) := by decide +kernel
theorem dX4_deedOf_17 : decode cX4_deedOf 17 = .ok (.ifCond .eq 5, 3) := by decide +kernel
theorem dX4_deedOf_20 : decode cX4_deedOf 20 = .ok (.iconst 1, 1) := by decide +kernel
theorem dX4_deedOf_21 : decode cX4_deedOf 21 = .ok (.ireturn, 1) := by decide +kernel
theorem dX4_deedOf_22 : decode cX4_deedOf 22 = .ok (.aload_n 0, 1) := by decide +kernel
theorem dX4_deedOf_23 : decode cX4_deedOf 23 = .ok (.ldc 78, 2) := by decide +kernel
theorem dX4_deedOf_25 : decode cX4_deedOf 25 = .ok (.invokevirtual 49, 3) := by decide +kernel
theorem dX4_deedOf_28 : decode cX4_deedOf 28 = .ok (.ifCond .eq 5, 3) := by decide +kernel
theorem dX4_deedOf_31 : decode cX4_deedOf 31 = .ok (.iconst 2, 1) := by decide +kernel
theorem dX4_deedOf_32 : decode cX4_deedOf 32 = .ok (.ireturn, 1) := by decide +kernel
theorem dX4_deedOf_33 : decode cX4_deedOf 33 = .ok (.aload_n 0, 1) := by decide +kernel
theorem dX4_deedOf_34 : decode cX4_deedOf 34 = .ok (.ldc 80, 2) := by decide +kernel
theorem dX4_deedOf_36 : decode cX4_deedOf 36 = .ok (.invokevirtual 49, 3) := by decide +kernel
theorem dX4_deedOf_39 : decode cX4_deedOf 39 = .ok (.ifCond .eq 5, 3) := by decide +kernel
theorem dX4_deedOf_42 : decode cX4_deedOf 42 = .ok (.iconst 3, 1) := by decide +kernel
theorem dX4_deedOf_43 : decode cX4_deedOf 43 = .ok (.ireturn, 1) := by decide +kernel
theorem dX4_deedOf_44 : decode cX4_deedOf 44 = .ok (.aload_n 0, 1) := by decide +kernel
theorem dX4_deedOf_45 : decode cX4_deedOf 45 = .ok (.ldc 82, 2) := by decide +kernel
theorem dX4_deedOf_47 : decode cX4_deedOf 47 = .ok (.invokevirtual 49, 3) := by decide +kernel
theorem dX4_deedOf_50 : decode cX4_deedOf 50 = .ok (.ifCond .eq 5, 3) := by decide +kernel
theorem dX4_deedOf_53 : decode cX4_deedOf 53 = .ok (.iconst 4, 1) := by decide +kernel
theorem dX4_deedOf_54 : decode cX4_deedOf 54 = .ok (.ireturn, 1) := by decide +kernel
theorem dX4_deedOf_55 : decode cX4_deedOf 55 = .ok (.aload_n 0, 1) := by decide +kernel
theorem dX4_deedOf_56 : decode cX4_deedOf 56 = .ok (.ldc 84, 2) := by decide +kernel
theorem dX4_deedOf_58 : decode cX4_deedOf 58 = .ok (.invokevirtual 49, 3) := by decide +kernel
theorem dX4_deedOf_61 : decode cX4_deedOf 61 = .ok (.ifCond .eq 7, 3) := by decide +kernel
theorem dX4_deedOf_64 : decode cX4_deedOf 64 = .ok (.iconst 5, 1) := by decide +kernel
theorem dX4_deedOf_65 : decode cX4_deedOf 65 = .ok (.goto 4, 3) := by decide +kernel
theorem dX4_deedOf_68 : decode cX4_deedOf 68 = .ok (.iconst (-1), 1) := by decide +kernel
theorem dX4_deedOf_69 : decode cX4_deedOf 69 = .ok (.ireturn, 1) := by decide +kernel
noncomputable def f_X4_deedOf (σ : am_H) : Option (Int32) :=
  (f_X5_isWord 11 σ).bind fun p1 =>
  if p1 = true then
   (some 0)
  else
  (f_X5_isWord 12 σ).bind fun p3 =>
  if p3 = true then
   (some 1)
  else
  (f_X5_isWord 13 σ).bind fun p5 =>
  if p5 = true then
   (some 2)
  else
  (f_X5_isWord 14 σ).bind fun p7 =>
  if p7 = true then
   (some 3)
  else
  (f_X5_isWord 15 σ).bind fun p9 =>
  if p9 = true then
   (some 4)
  else
  (f_X5_isWord 16 σ).bind fun p11 =>
  if p11 = true then
   (some 5)
  else
  some (-1)
set_option maxRecDepth 100000 in
set_option maxHeartbeats 4000000 in
theorem q_X4_deedOf {X : am_X} (hX : am_wC X) {Q : Option Value → am_H → Prop} (σ : am_H) {o : Int32} (hf : f_X4_deedOf σ = some o) (hk : Q (some (.int o)) σ) : am_G X gm_X4_deedOf Q 0 [(0, .ref (am_ad X 5 0))] [] σ := by
  unfold f_X4_deedOf at hf
  refine g_aload_n (pc := 0) 0 rfl dX4_deedOf_0 rfl ?_
  refine g_ldcS (pc := 1) 21 hX.2 rfl dX4_deedOf_1 ?_
  obtain ⟨p1, hp1, hf⟩ := am_bd hf
  refine g_cV (pc := 3) (As := [.ref (am_kK X 11)]) (st := []) (st1 := [.int (am_b p1)]) (in_5 hX.1 (by omega)) kk_5 mV_X5_isWord ln_X4_49 rfl (Nat.le_of_ble_eq_true rfl) (Nat.le_of_ble_eq_true rfl) (k_X5_isWord hX 11 (by first | assumption | decide) σ hp1) dX4_deedOf_3 rfl rfl ?_
  refine bt_eq (pc := 6) 11 dX4_deedOf_6 rfl (fun c2 => ?_) (fun c2 => ?_)
  · replace hf := am_ifT c2 hf
    refine g_iconst (pc := 9) (v := 0) dX4_deedOf_9 (by decide) ?_
    have ho := Option.some.inj hf
    subst ho
    exact g_ireturn (pc := 10) (st := []) rfl dX4_deedOf_10 hk
  replace hf := am_ifF c2 hf
  refine g_aload_n (pc := 11) 0 rfl dX4_deedOf_11 rfl ?_
  refine g_ldcS (pc := 12) 22 hX.2 rfl dX4_deedOf_12 ?_
  obtain ⟨p3, hp3, hf⟩ := am_bd hf
  refine g_cV (pc := 14) (As := [.ref (am_kK X 12)]) (st := []) (st1 := [.int (am_b p3)]) (in_5 hX.1 (by omega)) kk_5 mV_X5_isWord ln_X4_49 rfl (Nat.le_of_ble_eq_true rfl) (Nat.le_of_ble_eq_true rfl) (k_X5_isWord hX 12 (by first | assumption | decide) σ hp3) dX4_deedOf_14 rfl rfl ?_
  refine bt_eq (pc := 17) 22 dX4_deedOf_17 rfl (fun c4 => ?_) (fun c4 => ?_)
  · replace hf := am_ifT c4 hf
    refine g_iconst (pc := 20) (v := 1) dX4_deedOf_20 (by decide) ?_
    have ho := Option.some.inj hf
    subst ho
    exact g_ireturn (pc := 21) (st := []) rfl dX4_deedOf_21 hk
  replace hf := am_ifF c4 hf
  refine g_aload_n (pc := 22) 0 rfl dX4_deedOf_22 rfl ?_
  refine g_ldcS (pc := 23) 23 hX.2 rfl dX4_deedOf_23 ?_
  obtain ⟨p5, hp5, hf⟩ := am_bd hf
  refine g_cV (pc := 25) (As := [.ref (am_kK X 13)]) (st := []) (st1 := [.int (am_b p5)]) (in_5 hX.1 (by omega)) kk_5 mV_X5_isWord ln_X4_49 rfl (Nat.le_of_ble_eq_true rfl) (Nat.le_of_ble_eq_true rfl) (k_X5_isWord hX 13 (by first | assumption | decide) σ hp5) dX4_deedOf_25 rfl rfl ?_
  refine bt_eq (pc := 28) 33 dX4_deedOf_28 rfl (fun c6 => ?_) (fun c6 => ?_)
  · replace hf := am_ifT c6 hf
    refine g_iconst (pc := 31) (v := 2) dX4_deedOf_31 (by decide) ?_
    have ho := Option.some.inj hf
    subst ho
    exact g_ireturn (pc := 32) (st := []) rfl dX4_deedOf_32 hk
  replace hf := am_ifF c6 hf
  refine g_aload_n (pc := 33) 0 rfl dX4_deedOf_33 rfl ?_
  refine g_ldcS (pc := 34) 24 hX.2 rfl dX4_deedOf_34 ?_
  obtain ⟨p7, hp7, hf⟩ := am_bd hf
  refine g_cV (pc := 36) (As := [.ref (am_kK X 14)]) (st := []) (st1 := [.int (am_b p7)]) (in_5 hX.1 (by omega)) kk_5 mV_X5_isWord ln_X4_49 rfl (Nat.le_of_ble_eq_true rfl) (Nat.le_of_ble_eq_true rfl) (k_X5_isWord hX 14 (by first | assumption | decide) σ hp7) dX4_deedOf_36 rfl rfl ?_
  refine bt_eq (pc := 39) 44 dX4_deedOf_39 rfl (fun c8 => ?_) (fun c8 => ?_)
  · replace hf := am_ifT c8 hf
    refine g_iconst (pc := 42) (v := 3) dX4_deedOf_42 (by decide) ?_
    have ho := Option.some.inj hf
    subst ho
    exact g_ireturn (pc := 43) (st := []) rfl dX4_deedOf_43 hk
  replace hf := am_ifF c8 hf
  refine g_aload_n (pc := 44) 0 rfl dX4_deedOf_44 rfl ?_
  refine g_ldcS (pc := 45) 25 hX.2 rfl dX4_deedOf_45 ?_
  obtain ⟨p9, hp9, hf⟩ := am_bd hf
  refine g_cV (pc := 47) (As := [.ref (am_kK X 15)]) (st := []) (st1 := [.int (am_b p9)]) (in_5 hX.1 (by omega)) kk_5 mV_X5_isWord ln_X4_49 rfl (Nat.le_of_ble_eq_true rfl) (Nat.le_of_ble_eq_true rfl) (k_X5_isWord hX 15 (by first | assumption | decide) σ hp9) dX4_deedOf_47 rfl rfl ?_
  refine bt_eq (pc := 50) 55 dX4_deedOf_50 rfl (fun c10 => ?_) (fun c10 => ?_)
  · replace hf := am_ifT c10 hf
    refine g_iconst (pc := 53) (v := 4) dX4_deedOf_53 (by decide) ?_
    have ho := Option.some.inj hf
    subst ho
    exact g_ireturn (pc := 54) (st := []) rfl dX4_deedOf_54 hk
  replace hf := am_ifF c10 hf
  refine g_aload_n (pc := 55) 0 rfl dX4_deedOf_55 rfl ?_
  refine g_ldcS (pc := 56) 26 hX.2 rfl dX4_deedOf_56 ?_
  obtain ⟨p11, hp11, hf⟩ := am_bd hf
  refine g_cV (pc := 58) (As := [.ref (am_kK X 16)]) (st := []) (st1 := [.int (am_b p11)]) (in_5 hX.1 (by omega)) kk_5 mV_X5_isWord ln_X4_49 rfl (Nat.le_of_ble_eq_true rfl) (Nat.le_of_ble_eq_true rfl) (k_X5_isWord hX 16 (by first | assumption | decide) σ hp11) dX4_deedOf_58 rfl rfl ?_
  refine bt_eq (pc := 61) 68 dX4_deedOf_61 rfl (fun c12 => ?_) (fun c12 => ?_)
  · replace hf := am_ifT c12 hf
    refine g_iconst (pc := 64) (v := 5) dX4_deedOf_64 (by decide) ?_
    refine g_goto (pc := 65) 69 dX4_deedOf_65 rfl ?_
    have ho := Option.some.inj hf
    subst ho
    exact g_ireturn (pc := 69) (st := []) rfl dX4_deedOf_69 hk
  replace hf := am_ifF c12 hf
  refine g_iconst (pc := 68) (v := (-1)) dX4_deedOf_68 (by decide) ?_
  have ho := Option.some.inj hf
  subst ho
  exact g_ireturn (pc := 69) (st := []) rfl dX4_deedOf_69 hk
theorem k_X4_deedOf {X : am_X} (hX : am_wC X) (σ : am_H) {o : Int32} (hf : f_X4_deedOf σ = some o) : am_C X gm_X4_deedOf [.ref (am_ad X 5 0)] σ (am_is (some (.int o)) σ) :=
  am_ofG rfl (Nat.le_of_ble_eq_true rfl) rfl (q_X4_deedOf hX σ hf ⟨rfl, rfl⟩)
theorem dX4_readsNumber_0 : decode cX4_readsNumber 0 = .ok (.aload_n 1, 1) := by decide +kernel
theorem dX4_readsNumber_1 : decode cX4_readsNumber 1 = .ok (.iload_n 2, 1) := by decide +kernel
theorem dX4_readsNumber_2 : decode cX4_readsNumber 2 = .ok (.iload_n 3, 1) := by decide +kernel
theorem dX4_readsNumber_3 : decode cX4_readsNumber 3 = .ok (.invokevirtual 96, 3) := by decide +kernel
theorem dX4_readsNumber_6 : decode cX4_readsNumber 6 = .ok (.ifCond .ne 5, 3) := by decide +kernel
theorem dX4_readsNumber_9 : decode cX4_readsNumber 9 = .ok (.iconst 0, 1) := by decide +kernel
theorem dX4_readsNumber_10 : decode cX4_readsNumber 10 = .ok (.ireturn, 1) := by decide +kernel
theorem dX4_readsNumber_11 : decode cX4_readsNumber 11 = .ok (.aload_n 0, 1) := by decide +kernel
theorem dX4_readsNumber_12 : decode cX4_readsNumber 12 = .ok (.getfield 18, 3) := by decide +kernel
theorem dX4_readsNumber_15 : decode cX4_readsNumber 15 = .ok (.aload_n 0, 1) := by decide +kernel
theorem dX4_readsNumber_16 : decode cX4_readsNumber 16 = .ok (.getfield 27, 3) := by decide +kernel
theorem dX4_readsNumber_19 : decode cX4_readsNumber 19 = .ok (.aload_n 1, 1) := by decide +kernel
theorem dX4_readsNumber_20 : decode cX4_readsNumber 20 = .ok (.getfield 100, 3) := by decide +kernel
theorem dX4_readsNumber_23 : decode cX4_readsNumber 23 = .ok (.iastore, 1) := by decide +kernel
theorem dX4_readsNumber_24 : decode cX4_readsNumber 24 = .ok (.aload_n 1, 1) := by decide +kernel
theorem dX4_readsNumber_25 : decode cX4_readsNumber 25 = .ok (.invokevirtual 60, 3) := by decide +kernel
theorem dX4_readsNumber_28 : decode cX4_readsNumber 28 = .ok (.iconst 1, 1) := by decide +kernel
theorem dX4_readsNumber_29 : decode cX4_readsNumber 29 = .ok (.ireturn, 1) := by decide +kernel
noncomputable def f_X4_readsNumber (r0 : Nat) (v2 : Int32) (v3 : Int32) (σ : am_H) : Option (Bool × am_H) :=
  (f_X5_standsNumber v2 v3 σ).bind fun p1 =>
  if p1.1 = true then
   ((am_ix 80 (p1.2.1 4 r0 4)).bind fun j3 =>
   (some (am_wI p1.2 502 r0 j3 (p1.2.1 5 0 6))).bind fun s4 =>
   (f_X5_advance s4).bind fun p5 =>
   some (true, p5))
  else
  some (false, p1.2)
set_option maxRecDepth 100000 in
set_option maxHeartbeats 4000000 in
theorem q_X4_readsNumber {X : am_X} (hX : am_wC X) {Q : Option Value → am_H → Prop} (r0 : Nat) (v2 : Int32) (v3 : Int32) (hr0 : r0 < 2) (σ : am_H) {o : Bool × am_H} (hf : f_X4_readsNumber r0 v2 v3 σ = some o) (hk : Q (some (.int (am_b o.1))) o.2) : am_G X gm_X4_readsNumber Q 0 [(0, .ref (am_ad X 4 r0)), (1, .ref (am_ad X 5 0)), (2, .int v2), (3, .int v3)] [] σ := by
  unfold f_X4_readsNumber at hf
  refine g_aload_n (pc := 0) 1 rfl dX4_readsNumber_0 rfl ?_
  refine g_iload_n (pc := 1) 2 rfl dX4_readsNumber_1 rfl ?_
  refine g_iload_n (pc := 2) 3 rfl dX4_readsNumber_2 rfl ?_
  obtain ⟨p1, hp1, hf⟩ := am_bd hf
  refine g_cV (pc := 3) (As := [.int v2, .int v3]) (st := []) (st1 := [.int (am_b p1.1)]) (in_5 hX.1 (by omega)) kk_5 mV_X5_standsNumber ln_X4_96 rfl (Nat.le_of_ble_eq_true rfl) (Nat.le_of_ble_eq_true rfl) (k_X5_standsNumber hX v2 v3 σ hp1) dX4_readsNumber_3 rfl rfl ?_
  refine bt_ne (pc := 6) 11 dX4_readsNumber_6 rfl (fun c2 => ?_) (fun c2 => ?_)
  · replace hf := am_ifT c2 hf
    refine g_aload_n (pc := 11) 0 rfl dX4_readsNumber_11 rfl ?_
    refine g_getC (pc := 12) (e := r0) (in_4 hX.1 (by omega)) fr_X4_18 dX4_readsNumber_12 rfl ?_
    refine g_aload_n (pc := 15) 0 rfl dX4_readsNumber_15 rfl ?_
    refine g_getI (pc := 16) (in_4 hX.1 (by omega)) fr_X4_27 dX4_readsNumber_16 ?_
    refine g_aload_n (pc := 19) 1 rfl dX4_readsNumber_19 rfl ?_
    refine g_getI (pc := 20) (in_5 hX.1 (by omega)) fr_X4_100 dX4_readsNumber_20 ?_
    obtain ⟨j3, hj3, hf⟩ := am_bd hf
    have gj3 := am_ix_lt hj3
    obtain ⟨s4, hs4, hf⟩ := am_bd hf
    refine g_sI (pc := 23) (in_502 hX.1 (by omega)) ak_502 hj3 dX4_readsNumber_23 (Option.some.inj hs4) ?_
    refine g_aload_n (pc := 24) 1 rfl dX4_readsNumber_24 rfl ?_
    obtain ⟨p5, hp5, hf⟩ := am_bd hf
    refine g_cV (pc := 25) (As := []) (st := []) (st1 := []) (in_5 hX.1 (by omega)) kk_5 mV_X5_advance ln_X4_60 rfl (Nat.le_of_ble_eq_true rfl) (Nat.le_of_ble_eq_true rfl) (k_X5_advance hX s4 hp5) dX4_readsNumber_25 rfl rfl ?_
    refine g_iconst (pc := 28) (v := 1) dX4_readsNumber_28 (by decide) ?_
    have ho := Option.some.inj hf
    subst ho
    exact g_zreturn (pc := 29) (st := []) (x := true) rfl dX4_readsNumber_29 hk
  replace hf := am_ifF c2 hf
  refine g_iconst (pc := 9) (v := 0) dX4_readsNumber_9 (by decide) ?_
  have ho := Option.some.inj hf
  subst ho
  exact g_zreturn (pc := 10) (st := []) (x := false) rfl dX4_readsNumber_10 hk
theorem k_X4_readsNumber {X : am_X} (hX : am_wC X) (r0 : Nat) (v2 : Int32) (v3 : Int32) (hr0 : r0 < 2) (σ : am_H) {o : Bool × am_H} (hf : f_X4_readsNumber r0 v2 v3 σ = some o) : am_C X gm_X4_readsNumber [.ref (am_ad X 4 r0), .ref (am_ad X 5 0), .int v2, .int v3] σ (am_is (some (.int (am_b o.1))) o.2) :=
  am_ofG rfl (Nat.le_of_ble_eq_true rfl) rfl (q_X4_readsNumber hX r0 v2 v3 hr0 σ hf ⟨rfl, rfl⟩)
theorem dX4_readsWater_0 : decode cX4_readsWater 0 = .ok (.aload_n 1, 1) := by decide +kernel
theorem dX4_readsWater_1 : decode cX4_readsWater 1 = .ok (.ldc 103, 2) := by decide +kernel
theorem dX4_readsWater_3 : decode cX4_readsWater 3 = .ok (.invokevirtual 49, 3) := by decide +kernel
theorem dX4_readsWater_6 : decode cX4_readsWater 6 = .ok (.istore_n 2, 1) := by decide +kernel
theorem dX4_readsWater_7 : decode cX4_readsWater 7 = .ok (.iload_n 2, 1) := by decide +kernel
theorem dX4_readsWater_8 : decode cX4_readsWater 8 = .ok (.ifCond .ne 14, 3) := by decide +kernel
theorem dX4_readsWater_11 : decode cX4_readsWater 11 = .ok (.aload_n 1, 1) := by decide +kernel
theorem dX4_readsWater_12 : decode cX4_readsWater 12 = .ok (.ldc 105, 2) := by decide +kernel
theorem dX4_readsWater_14 : decode cX4_readsWater 14 = .ok (.invokevirtual 49, 3) := by decide +kernel
theorem dX4_readsWater_17 : decode cX4_readsWater 17 = .ok (.ifCond .ne 5, 3) := by decide +kernel
theorem dX4_readsWater_20 : decode cX4_readsWater 20 = .ok (.iconst 0, 1) := by decide +kernel
theorem dX4_readsWater_21 : decode cX4_readsWater 21 = .ok (.ireturn, 1) := by decide +kernel
theorem dX4_readsWater_22 : decode cX4_readsWater 22 = .ok (.aload_n 0, 1) := by decide +kernel
theorem dX4_readsWater_23 : decode cX4_readsWater 23 = .ok (.getfield 15, 3) := by decide +kernel
theorem dX4_readsWater_26 : decode cX4_readsWater 26 = .ok (.aload_n 0, 1) := by decide +kernel
theorem dX4_readsWater_27 : decode cX4_readsWater 27 = .ok (.getfield 27, 3) := by decide +kernel
theorem dX4_readsWater_30 : decode cX4_readsWater 30 = .ok (.iload_n 2, 1) := by decide +kernel
theorem dX4_readsWater_31 : decode cX4_readsWater 31 = .ok (.ifCond .eq 7, 3) := by decide +kernel
theorem dX4_readsWater_34 : decode cX4_readsWater 34 = .ok (.iconst 1, 1) := by decide +kernel
theorem dX4_readsWater_35 : decode cX4_readsWater 35 = .ok (.goto 4, 3) := by decide +kernel
theorem dX4_readsWater_38 : decode cX4_readsWater 38 = .ok (.iconst 2, 1) := by decide +kernel
theorem dX4_readsWater_39 : decode cX4_readsWater 39 = .ok (.iastore, 1) := by decide +kernel
theorem dX4_readsWater_40 : decode cX4_readsWater 40 = .ok (.aload_n 1, 1) := by decide +kernel
theorem dX4_readsWater_41 : decode cX4_readsWater 41 = .ok (.invokevirtual 60, 3) := by decide +kernel
theorem dX4_readsWater_44 : decode cX4_readsWater 44 = .ok (.iconst 1, 1) := by decide +kernel
theorem dX4_readsWater_45 : decode cX4_readsWater 45 = .ok (.ireturn, 1) := by decide +kernel
noncomputable def f_X4_readsWater_39 (k0 : Nat) (k1 : Int32) (k2 : Int32) (σ : am_H) : Option (Bool × am_H) :=
  (am_ix 80 k1).bind fun j1 =>
  (some (am_wI σ 501 k0 j1 k2)).bind fun s2 =>
  (f_X5_advance s2).bind fun p3 =>
  some (true, p3)
set_option maxRecDepth 100000 in
set_option maxHeartbeats 4000000 in
theorem q_X4_readsWater_39 {X : am_X} (hX : am_wC X) {Q : Option Value → am_H → Prop} (k0 : Nat) (k1 : Int32) (k2 : Int32) (hk0 : k0 < 2) (σ : am_H) {o : Bool × am_H} (hf : f_X4_readsWater_39 k0 k1 k2 σ = some o) (hk : Q (some (.int (am_b o.1))) o.2) : am_G X gm_X4_readsWater Q 39 [(1, .ref (am_ad X 5 0))] [.int k2, .int k1, .ref (am_ad X 501 k0)] σ := by
  unfold f_X4_readsWater_39 at hf
  obtain ⟨j1, hj1, hf⟩ := am_bd hf
  have gj1 := am_ix_lt hj1
  obtain ⟨s2, hs2, hf⟩ := am_bd hf
  refine g_sI (pc := 39) (in_501 hX.1 (by omega)) ak_501 hj1 dX4_readsWater_39 (Option.some.inj hs2) ?_
  refine g_aload_n (pc := 40) 0 rfl dX4_readsWater_40 rfl ?_
  obtain ⟨p3, hp3, hf⟩ := am_bd hf
  refine g_cV (pc := 41) (As := []) (st := []) (st1 := []) (in_5 hX.1 (by omega)) kk_5 mV_X5_advance ln_X4_60 rfl (Nat.le_of_ble_eq_true rfl) (Nat.le_of_ble_eq_true rfl) (k_X5_advance hX s2 hp3) dX4_readsWater_41 rfl rfl ?_
  refine g_iconst (pc := 44) (v := 1) dX4_readsWater_44 (by decide) ?_
  have ho := Option.some.inj hf
  subst ho
  exact g_zreturn (pc := 45) (st := []) (x := true) rfl dX4_readsWater_45 hk
noncomputable def f_X4_readsWater_22 (r0 : Nat) (v2 : Bool) (σ : am_H) : Option (Bool × am_H) :=
  if v2 = true then
   (f_X4_readsWater_39 r0 (σ.1 4 r0 4) 1 σ)
  else
  f_X4_readsWater_39 r0 (σ.1 4 r0 4) 2 σ
set_option maxRecDepth 100000 in
set_option maxHeartbeats 4000000 in
theorem q_X4_readsWater_22 {X : am_X} (hX : am_wC X) {Q : Option Value → am_H → Prop} (r0 : Nat) (v2 : Bool) (hr0 : r0 < 2) (σ : am_H) {o : Bool × am_H} (hf : f_X4_readsWater_22 r0 v2 σ = some o) (hk : Q (some (.int (am_b o.1))) o.2) : am_G X gm_X4_readsWater Q 22 [(0, .ref (am_ad X 4 r0)), (1, .ref (am_ad X 5 0)), (2, .int (am_b v2))] [] σ := by
  unfold f_X4_readsWater_22 at hf
  refine g_aload_n (pc := 22) 0 rfl dX4_readsWater_22 rfl ?_
  refine g_getC (pc := 23) (e := r0) (in_4 hX.1 (by omega)) fr_X4_15 dX4_readsWater_23 rfl ?_
  refine g_aload_n (pc := 26) 0 rfl dX4_readsWater_26 rfl ?_
  refine g_getI (pc := 27) (in_4 hX.1 (by omega)) fr_X4_27 dX4_readsWater_27 ?_
  refine g_iload_n (pc := 30) 2 rfl dX4_readsWater_30 rfl ?_
  refine bt_eq (pc := 31) 38 dX4_readsWater_31 rfl (fun c1 => ?_) (fun c1 => ?_)
  · replace hf := am_ifT c1 hf
    refine g_iconst (pc := 34) (v := 1) dX4_readsWater_34 (by decide) ?_
    refine g_goto (pc := 35) 39 dX4_readsWater_35 rfl ?_
    exact am_sub [1] rfl (q_X4_readsWater_39 hX r0 (σ.1 4 r0 4) 1 (by omega) σ hf hk)
  replace hf := am_ifF c1 hf
  refine g_iconst (pc := 38) (v := 2) dX4_readsWater_38 (by decide) ?_
  exact am_sub [1] rfl (q_X4_readsWater_39 hX r0 (σ.1 4 r0 4) 2 (by omega) σ hf hk)
noncomputable def f_X4_readsWater (r0 : Nat) (σ : am_H) : Option (Bool × am_H) :=
  (f_X5_isWord 17 σ).bind fun p1 =>
  if p1 = true then
   (f_X4_readsWater_22 r0 p1 σ)
  else
  (f_X5_isWord 18 σ).bind fun p3 =>
  if p3 = true then
   (f_X4_readsWater_22 r0 p1 σ)
  else
  some (false, σ)
set_option maxRecDepth 100000 in
set_option maxHeartbeats 4000000 in
theorem q_X4_readsWater {X : am_X} (hX : am_wC X) {Q : Option Value → am_H → Prop} (r0 : Nat) (hr0 : r0 < 2) (σ : am_H) {o : Bool × am_H} (hf : f_X4_readsWater r0 σ = some o) (hk : Q (some (.int (am_b o.1))) o.2) : am_G X gm_X4_readsWater Q 0 [(0, .ref (am_ad X 4 r0)), (1, .ref (am_ad X 5 0))] [] σ := by
  unfold f_X4_readsWater at hf
  refine g_aload_n (pc := 0) 1 rfl dX4_readsWater_0 rfl ?_
  refine g_ldcS (pc := 1) 27 hX.2 rfl dX4_readsWater_1 ?_
  obtain ⟨p1, hp1, hf⟩ := am_bd hf
  refine g_cV (pc := 3) (As := [.ref (am_kK X 17)]) (st := []) (st1 := [.int (am_b p1)]) (in_5 hX.1 (by omega)) kk_5 mV_X5_isWord ln_X4_49 rfl (Nat.le_of_ble_eq_true rfl) (Nat.le_of_ble_eq_true rfl) (k_X5_isWord hX 17 (by first | assumption | decide) σ hp1) dX4_readsWater_3 rfl rfl ?_
  refine g_istore_n (pc := 6) [(2, .int (am_b p1)), (0, .ref (am_ad X 4 r0)), (1, .ref (am_ad X 5 0))] dX4_readsWater_6 rfl (Nat.le_of_ble_eq_true rfl) rfl ?_
  refine g_iload_n (pc := 7) 0 rfl dX4_readsWater_7 rfl ?_
  refine bt_ne (pc := 8) 22 dX4_readsWater_8 rfl (fun c2 => ?_) (fun c2 => ?_)
  · replace hf := am_ifT c2 hf
    exact am_sub [1, 2, 0] rfl (q_X4_readsWater_22 hX r0 p1 (by omega) σ hf hk)
  replace hf := am_ifF c2 hf
  refine g_aload_n (pc := 11) 2 rfl dX4_readsWater_11 rfl ?_
  refine g_ldcS (pc := 12) 28 hX.2 rfl dX4_readsWater_12 ?_
  obtain ⟨p3, hp3, hf⟩ := am_bd hf
  refine g_cV (pc := 14) (As := [.ref (am_kK X 18)]) (st := []) (st1 := [.int (am_b p3)]) (in_5 hX.1 (by omega)) kk_5 mV_X5_isWord ln_X4_49 rfl (Nat.le_of_ble_eq_true rfl) (Nat.le_of_ble_eq_true rfl) (k_X5_isWord hX 18 (by first | assumption | decide) σ hp3) dX4_readsWater_14 rfl rfl ?_
  refine bt_ne (pc := 17) 22 dX4_readsWater_17 rfl (fun c4 => ?_) (fun c4 => ?_)
  · replace hf := am_ifT c4 hf
    exact am_sub [1, 2, 0] rfl (q_X4_readsWater_22 hX r0 p1 (by omega) σ hf hk)
  replace hf := am_ifF c4 hf
  refine g_iconst (pc := 20) (v := 0) dX4_readsWater_20 (by decide) ?_
  have ho := Option.some.inj hf
  subst ho
  exact g_zreturn (pc := 21) (st := []) (x := false) rfl dX4_readsWater_21 hk
theorem k_X4_readsWater {X : am_X} (hX : am_wC X) (r0 : Nat) (hr0 : r0 < 2) (σ : am_H) {o : Bool × am_H} (hf : f_X4_readsWater r0 σ = some o) : am_C X gm_X4_readsWater [.ref (am_ad X 4 r0), .ref (am_ad X 5 0)] σ (am_is (some (.int (am_b o.1))) o.2) :=
  am_ofG rfl (Nat.le_of_ble_eq_true rfl) rfl (q_X4_readsWater hX r0 hr0 σ hf ⟨rfl, rfl⟩)
theorem dX4_readsLevel_0 : decode cX4_readsLevel 0 = .ok (.aload_n 1, 1) := by decide +kernel
theorem dX4_readsLevel_1 : decode cX4_readsLevel 1 = .ok (.ldc 107, 2) := by decide +kernel
theorem dX4_readsLevel_3 : decode cX4_readsLevel 3 = .ok (.invokevirtual 49, 3) := by decide +kernel
theorem dX4_readsLevel_6 : decode cX4_readsLevel 6 = .ok (.istore_n 2, 1) := by decide +kernel
theorem dX4_readsLevel_7 : decode cX4_readsLevel 7 = .ok (.iload_n 2, 1) := by decide +kernel
theorem dX4_readsLevel_8 : decode cX4_readsLevel 8 = .ok (.ifCond .ne 18, 3) := by decide +kernel
theorem dX4_readsLevel_11 : decode cX4_readsLevel 11 = .ok (.aload_n 1, 1) := by decide +kernel
theorem dX4_readsLevel_12 : decode cX4_readsLevel 12 = .ok (.ldc 109, 2) := by decide +kernel
theorem dX4_readsLevel_14 : decode cX4_readsLevel 14 = .ok (.invokevirtual 49, 3) := by decide +kernel
theorem dX4_readsLevel_17 : decode cX4_readsLevel 17 = .ok (.ifCond .ne 9, 3) := by decide +kernel
theorem dX4_readsLevel_20 : decode cX4_readsLevel 20 = .ok (.aload_n 1, 1) := by decide +kernel
theorem dX4_readsLevel_21 : decode cX4_readsLevel 21 = .ok (.iconst 2, 1) := by decide +kernel
theorem dX4_readsLevel_22 : decode cX4_readsLevel 22 = .ok (.invokevirtual 43, 3) := by decide +kernel
theorem dX4_readsLevel_25 : decode cX4_readsLevel 25 = .ok (.ireturn, 1) := by decide +kernel
theorem dX4_readsLevel_26 : decode cX4_readsLevel 26 = .ok (.aload_n 0, 1) := by decide +kernel
theorem dX4_readsLevel_27 : decode cX4_readsLevel 27 = .ok (.getfield 15, 3) := by decide +kernel
theorem dX4_readsLevel_30 : decode cX4_readsLevel 30 = .ok (.aload_n 0, 1) := by decide +kernel
theorem dX4_readsLevel_31 : decode cX4_readsLevel 31 = .ok (.getfield 27, 3) := by decide +kernel
theorem dX4_readsLevel_34 : decode cX4_readsLevel 34 = .ok (.iload_n 2, 1) := by decide +kernel
theorem dX4_readsLevel_35 : decode cX4_readsLevel 35 = .ok (.ifCond .eq 7, 3) := by decide +kernel
theorem dX4_readsLevel_38 : decode cX4_readsLevel 38 = .ok (.iconst 3, 1) := by decide +kernel
theorem dX4_readsLevel_39 : decode cX4_readsLevel 39 = .ok (.goto 4, 3) := by decide +kernel
theorem dX4_readsLevel_42 : decode cX4_readsLevel 42 = .ok (.iconst 4, 1) := by decide +kernel
theorem dX4_readsLevel_43 : decode cX4_readsLevel 43 = .ok (.iastore, 1) := by decide +kernel
theorem dX4_readsLevel_44 : decode cX4_readsLevel 44 = .ok (.aload_n 1, 1) := by decide +kernel
theorem dX4_readsLevel_45 : decode cX4_readsLevel 45 = .ok (.invokevirtual 60, 3) := by decide +kernel
theorem dX4_readsLevel_48 : decode cX4_readsLevel 48 = .ok (.aload_n 1, 1) := by decide +kernel
theorem dX4_readsLevel_49 : decode cX4_readsLevel 49 = .ok (.ldc 111, 2) := by decide +kernel
theorem dX4_readsLevel_51 : decode cX4_readsLevel 51 = .ok (.invokevirtual 49, 3) := by decide +kernel
theorem dX4_readsLevel_54 : decode cX4_readsLevel 54 = .ok (.istore_n 3, 1) := by decide +kernel
theorem dX4_readsLevel_55 : decode cX4_readsLevel 55 = .ok (.iload_n 3, 1) := by decide +kernel
theorem dX4_readsLevel_56 : decode cX4_readsLevel 56 = .ok (.ifCond .eq 7, 3) := by decide +kernel
theorem dX4_readsLevel_59 : decode cX4_readsLevel 59 = .ok (.aload_n 1, 1) := by decide +kernel
theorem dX4_readsLevel_60 : decode cX4_readsLevel 60 = .ok (.invokevirtual 60, 3) := by decide +kernel
theorem dX4_readsLevel_63 : decode cX4_readsLevel 63 = .ok (.aload_n 0, 1) := by decide +kernel
theorem dX4_readsLevel_64 : decode cX4_readsLevel 64 = .ok (.aload_n 1, 1) := by decide +kernel
theorem dX4_readsLevel_65 : decode cX4_readsLevel 65 = .ok (.iconst 0, 1) := by decide +kernel
theorem dX4_readsLevel_66 : decode cX4_readsLevel 66 = .ok (.sipush 9999, 3) := by decide +kernel
theorem dX4_readsLevel_69 : decode cX4_readsLevel 69 = .ok (.invokevirtual 86, 3) := by decide +kernel
theorem dX4_readsLevel_72 : decode cX4_readsLevel 72 = .ok (.ifCond .ne 5, 3) := by decide +kernel
theorem dX4_readsLevel_75 : decode cX4_readsLevel 75 = .ok (.iconst 0, 1) := by decide +kernel
theorem dX4_readsLevel_76 : decode cX4_readsLevel 76 = .ok (.ireturn, 1) := by decide +kernel
theorem dX4_readsLevel_77 : decode cX4_readsLevel 77 = .ok (.aload_n 0, 1) := by decide +kernel
theorem dX4_readsLevel_78 : decode cX4_readsLevel 78 = .ok (.getfield 18, 3) := by decide +kernel
theorem dX4_readsLevel_81 : decode cX4_readsLevel 81 = .ok (.aload_n 0, 1) := by decide +kernel
theorem dX4_readsLevel_82 : decode cX4_readsLevel 82 = .ok (.getfield 27, 3) := by decide +kernel
theorem dX4_readsLevel_85 : decode cX4_readsLevel 85 = .ok (.iload_n 3, 1) := by decide +kernel
theorem dX4_readsLevel_86 : decode cX4_readsLevel 86 = .ok (.ifCond .eq 16, 3) := by decide +kernel
theorem dX4_readsLevel_89 : decode cX4_readsLevel 89 = .ok (.aload_n 0, 1) := by decide +kernel
theorem dX4_readsLevel_90 : decode cX4_readsLevel 90 = .ok (.getfield 18, 3) := by decide +kernel
theorem dX4_readsLevel_93 : decode cX4_readsLevel 93 = .ok (.aload_n 0, 1) := by decide +kernel
theorem dX4_readsLevel_94 : decode cX4_readsLevel 94 = .ok (.getfield 27, 3) := by decide +kernel
theorem dX4_readsLevel_97 : decode cX4_readsLevel 97 = .ok (.iaload, 1) := by decide +kernel
theorem dX4_readsLevel_98 : decode cX4_readsLevel 98 = .ok (.ineg, 1) := by decide +kernel
theorem dX4_readsLevel_99 : decode cX4_readsLevel 99 = .ok (.goto 12, 3) := by decide +kernel
theorem dX4_readsLevel_102 : decode cX4_readsLevel 102 = .ok (.aload_n 0, 1) := by decide +kernel
theorem dX4_readsLevel_103 : decode cX4_readsLevel 103 = .ok (.getfield 18, 3) := by decide +kernel
theorem dX4_readsLevel_106 : decode cX4_readsLevel 106 = .ok (.aload_n 0, 1) := by decide +kernel
theorem dX4_readsLevel_107 : decode cX4_readsLevel 107 = .ok (.getfield 27, 3) := by decide +kernel
theorem dX4_readsLevel_110 : decode cX4_readsLevel 110 = .ok (.iaload, 1) := by decide +kernel
theorem dX4_readsLevel_111 : decode cX4_readsLevel 111 = .ok (.iastore, 1) := by decide +kernel
theorem dX4_readsLevel_112 : decode cX4_readsLevel 112 = .ok (.iconst 1, 1) := by decide +kernel
theorem dX4_readsLevel_113 : decode cX4_readsLevel 113 = .ok (.ireturn, 1) := by decide +kernel
noncomputable def f_X4_readsLevel_111 (k0 : Nat) (k1 : Int32) (k2 : Int32) (σ : am_H) : Option (Bool × am_H) :=
  (am_ix 80 k1).bind fun j1 =>
  (some (am_wI σ 502 k0 j1 k2)).bind fun s2 =>
  some (true, s2)
set_option maxRecDepth 100000 in
set_option maxHeartbeats 4000000 in
theorem q_X4_readsLevel_111 {X : am_X} (hX : am_wC X) {Q : Option Value → am_H → Prop} (k0 : Nat) (k1 : Int32) (k2 : Int32) (hk0 : k0 < 2) (σ : am_H) {o : Bool × am_H} (hf : f_X4_readsLevel_111 k0 k1 k2 σ = some o) (hk : Q (some (.int (am_b o.1))) o.2) : am_G X gm_X4_readsLevel Q 111 [] [.int k2, .int k1, .ref (am_ad X 502 k0)] σ := by
  unfold f_X4_readsLevel_111 at hf
  obtain ⟨j1, hj1, hf⟩ := am_bd hf
  have gj1 := am_ix_lt hj1
  obtain ⟨s2, hs2, hf⟩ := am_bd hf
  refine g_sI (pc := 111) (in_502 hX.1 (by omega)) ak_502 hj1 dX4_readsLevel_111 (Option.some.inj hs2) ?_
  refine g_iconst (pc := 112) (v := 1) dX4_readsLevel_112 (by decide) ?_
  have ho := Option.some.inj hf
  subst ho
  exact g_zreturn (pc := 113) (st := []) (x := true) rfl dX4_readsLevel_113 hk
noncomputable def f_X4_readsLevel_63 (r0 : Nat) (v3 : Bool) (σ : am_H) : Option (Bool × am_H) :=
  (f_X4_readsNumber r0 0 9999 σ).bind fun p1 =>
  if p1.1 = true then
   (if v3 = true then
    ((am_ix 80 (p1.2.1 4 r0 4)).bind fun j4 =>
    f_X4_readsLevel_111 r0 (p1.2.1 4 r0 4) (-(p1.2.1 502 r0 j4)) p1.2)
   else
   (am_ix 80 (p1.2.1 4 r0 4)).bind fun j5 =>
   f_X4_readsLevel_111 r0 (p1.2.1 4 r0 4) (p1.2.1 502 r0 j5) p1.2)
  else
  some (false, p1.2)
set_option maxRecDepth 100000 in
set_option maxHeartbeats 4000000 in
theorem q_X4_readsLevel_63 {X : am_X} (hX : am_wC X) {Q : Option Value → am_H → Prop} (r0 : Nat) (v3 : Bool) (hr0 : r0 < 2) (σ : am_H) {o : Bool × am_H} (hf : f_X4_readsLevel_63 r0 v3 σ = some o) (hk : Q (some (.int (am_b o.1))) o.2) : am_G X gm_X4_readsLevel Q 63 [(0, .ref (am_ad X 4 r0)), (1, .ref (am_ad X 5 0)), (3, .int (am_b v3))] [] σ := by
  unfold f_X4_readsLevel_63 at hf
  refine g_aload_n (pc := 63) 0 rfl dX4_readsLevel_63 rfl ?_
  refine g_aload_n (pc := 64) 1 rfl dX4_readsLevel_64 rfl ?_
  refine g_iconst (pc := 65) (v := 0) dX4_readsLevel_65 (by decide) ?_
  refine g_sipush (pc := 66) (v := 9999) dX4_readsLevel_66 (by decide) ?_
  obtain ⟨p1, hp1, hf⟩ := am_bd hf
  refine g_cV (pc := 69) (As := [.ref (am_ad X 5 0), .int 0, .int 9999]) (st := []) (st1 := [.int (am_b p1.1)]) (in_4 hX.1 (by omega)) kk_4 mV_X4_readsNumber ln_X4_86 rfl (Nat.le_of_ble_eq_true rfl) (Nat.le_of_ble_eq_true rfl) (k_X4_readsNumber hX r0 0 9999 (by omega) σ hp1) dX4_readsLevel_69 rfl rfl ?_
  refine bt_ne (pc := 72) 77 dX4_readsLevel_72 rfl (fun c2 => ?_) (fun c2 => ?_)
  · replace hf := am_ifT c2 hf
    refine g_aload_n (pc := 77) 0 rfl dX4_readsLevel_77 rfl ?_
    refine g_getC (pc := 78) (e := r0) (in_4 hX.1 (by omega)) fr_X4_18 dX4_readsLevel_78 rfl ?_
    refine g_aload_n (pc := 81) 0 rfl dX4_readsLevel_81 rfl ?_
    refine g_getI (pc := 82) (in_4 hX.1 (by omega)) fr_X4_27 dX4_readsLevel_82 ?_
    refine g_iload_n (pc := 85) 2 rfl dX4_readsLevel_85 rfl ?_
    refine bt_eq (pc := 86) 102 dX4_readsLevel_86 rfl (fun c3 => ?_) (fun c3 => ?_)
    · replace hf := am_ifT c3 hf
      refine g_aload_n (pc := 89) 0 rfl dX4_readsLevel_89 rfl ?_
      refine g_getC (pc := 90) (e := r0) (in_4 hX.1 (by omega)) fr_X4_18 dX4_readsLevel_90 rfl ?_
      refine g_aload_n (pc := 93) 0 rfl dX4_readsLevel_93 rfl ?_
      refine g_getI (pc := 94) (in_4 hX.1 (by omega)) fr_X4_27 dX4_readsLevel_94 ?_
      obtain ⟨j4, hj4, hf⟩ := am_bd hf
      have gj4 := am_ix_lt hj4
      refine g_aI (pc := 97) (in_502 hX.1 (by omega)) ak_502 hj4 dX4_readsLevel_97 ?_
      refine g_ineg (pc := 98) dX4_readsLevel_98 ?_
      refine g_goto (pc := 99) 111 dX4_readsLevel_99 rfl ?_
      exact am_sub [] rfl (q_X4_readsLevel_111 hX r0 (p1.2.1 4 r0 4) (-(p1.2.1 502 r0 j4)) (by omega) p1.2 hf hk)
    replace hf := am_ifF c3 hf
    refine g_aload_n (pc := 102) 0 rfl dX4_readsLevel_102 rfl ?_
    refine g_getC (pc := 103) (e := r0) (in_4 hX.1 (by omega)) fr_X4_18 dX4_readsLevel_103 rfl ?_
    refine g_aload_n (pc := 106) 0 rfl dX4_readsLevel_106 rfl ?_
    refine g_getI (pc := 107) (in_4 hX.1 (by omega)) fr_X4_27 dX4_readsLevel_107 ?_
    obtain ⟨j5, hj5, hf⟩ := am_bd hf
    have gj5 := am_ix_lt hj5
    refine g_aI (pc := 110) (in_502 hX.1 (by omega)) ak_502 hj5 dX4_readsLevel_110 ?_
    exact am_sub [] rfl (q_X4_readsLevel_111 hX r0 (p1.2.1 4 r0 4) (p1.2.1 502 r0 j5) (by omega) p1.2 hf hk)
  replace hf := am_ifF c2 hf
  refine g_iconst (pc := 75) (v := 0) dX4_readsLevel_75 (by decide) ?_
  have ho := Option.some.inj hf
  subst ho
  exact g_zreturn (pc := 76) (st := []) (x := false) rfl dX4_readsLevel_76 hk
noncomputable def f_X4_readsLevel_43 (r0 : Nat) (k0 : Nat) (k1 : Int32) (k2 : Int32) (σ : am_H) : Option (Bool × am_H) :=
  (am_ix 80 k1).bind fun j1 =>
  (some (am_wI σ 501 k0 j1 k2)).bind fun s2 =>
  (f_X5_advance s2).bind fun p3 =>
  (f_X5_isWord 21 p3).bind fun p4 =>
  if p4 = true then
   ((f_X5_advance p3).bind fun p6 =>
   f_X4_readsLevel_63 r0 p4 p6)
  else
  f_X4_readsLevel_63 r0 p4 p3
set_option maxRecDepth 100000 in
set_option maxHeartbeats 4000000 in
theorem q_X4_readsLevel_43 {X : am_X} (hX : am_wC X) {Q : Option Value → am_H → Prop} (r0 : Nat) (k0 : Nat) (k1 : Int32) (k2 : Int32) (hr0 : r0 < 2) (hk0 : k0 < 2) (σ : am_H) {o : Bool × am_H} (hf : f_X4_readsLevel_43 r0 k0 k1 k2 σ = some o) (hk : Q (some (.int (am_b o.1))) o.2) : am_G X gm_X4_readsLevel Q 43 [(0, .ref (am_ad X 4 r0)), (1, .ref (am_ad X 5 0))] [.int k2, .int k1, .ref (am_ad X 501 k0)] σ := by
  unfold f_X4_readsLevel_43 at hf
  obtain ⟨j1, hj1, hf⟩ := am_bd hf
  have gj1 := am_ix_lt hj1
  obtain ⟨s2, hs2, hf⟩ := am_bd hf
  refine g_sI (pc := 43) (in_501 hX.1 (by omega)) ak_501 hj1 dX4_readsLevel_43 (Option.some.inj hs2) ?_
  refine g_aload_n (pc := 44) 1 rfl dX4_readsLevel_44 rfl ?_
  obtain ⟨p3, hp3, hf⟩ := am_bd hf
  refine g_cV (pc := 45) (As := []) (st := []) (st1 := []) (in_5 hX.1 (by omega)) kk_5 mV_X5_advance ln_X4_60 rfl (Nat.le_of_ble_eq_true rfl) (Nat.le_of_ble_eq_true rfl) (k_X5_advance hX s2 hp3) dX4_readsLevel_45 rfl rfl ?_
  refine g_aload_n (pc := 48) 1 rfl dX4_readsLevel_48 rfl ?_
  refine g_ldcS (pc := 49) 31 hX.2 rfl dX4_readsLevel_49 ?_
  obtain ⟨p4, hp4, hf⟩ := am_bd hf
  refine g_cV (pc := 51) (As := [.ref (am_kK X 21)]) (st := []) (st1 := [.int (am_b p4)]) (in_5 hX.1 (by omega)) kk_5 mV_X5_isWord ln_X4_49 rfl (Nat.le_of_ble_eq_true rfl) (Nat.le_of_ble_eq_true rfl) (k_X5_isWord hX 21 (by first | assumption | decide) p3 hp4) dX4_readsLevel_51 rfl rfl ?_
  refine g_istore_n (pc := 54) [(3, .int (am_b p4)), (0, .ref (am_ad X 4 r0)), (1, .ref (am_ad X 5 0))] dX4_readsLevel_54 rfl (Nat.le_of_ble_eq_true rfl) rfl ?_
  refine g_iload_n (pc := 55) 0 rfl dX4_readsLevel_55 rfl ?_
  refine bt_eq (pc := 56) 63 dX4_readsLevel_56 rfl (fun c5 => ?_) (fun c5 => ?_)
  · replace hf := am_ifT c5 hf
    refine g_aload_n (pc := 59) 2 rfl dX4_readsLevel_59 rfl ?_
    obtain ⟨p6, hp6, hf⟩ := am_bd hf
    refine g_cV (pc := 60) (As := []) (st := []) (st1 := []) (in_5 hX.1 (by omega)) kk_5 mV_X5_advance ln_X4_60 rfl (Nat.le_of_ble_eq_true rfl) (Nat.le_of_ble_eq_true rfl) (k_X5_advance hX p3 hp6) dX4_readsLevel_60 rfl rfl ?_
    exact am_sub [1, 2, 0] rfl (q_X4_readsLevel_63 hX r0 p4 (by omega) p6 hf hk)
  replace hf := am_ifF c5 hf
  exact am_sub [1, 2, 0] rfl (q_X4_readsLevel_63 hX r0 p4 (by omega) p3 hf hk)
noncomputable def f_X4_readsLevel_26 (r0 : Nat) (v2 : Bool) (σ : am_H) : Option (Bool × am_H) :=
  if v2 = true then
   (f_X4_readsLevel_43 r0 r0 (σ.1 4 r0 4) 3 σ)
  else
  f_X4_readsLevel_43 r0 r0 (σ.1 4 r0 4) 4 σ
set_option maxRecDepth 100000 in
set_option maxHeartbeats 4000000 in
theorem q_X4_readsLevel_26 {X : am_X} (hX : am_wC X) {Q : Option Value → am_H → Prop} (r0 : Nat) (v2 : Bool) (hr0 : r0 < 2) (σ : am_H) {o : Bool × am_H} (hf : f_X4_readsLevel_26 r0 v2 σ = some o) (hk : Q (some (.int (am_b o.1))) o.2) : am_G X gm_X4_readsLevel Q 26 [(0, .ref (am_ad X 4 r0)), (1, .ref (am_ad X 5 0)), (2, .int (am_b v2))] [] σ := by
  unfold f_X4_readsLevel_26 at hf
  refine g_aload_n (pc := 26) 0 rfl dX4_readsLevel_26 rfl ?_
  refine g_getC (pc := 27) (e := r0) (in_4 hX.1 (by omega)) fr_X4_15 dX4_readsLevel_27 rfl ?_
  refine g_aload_n (pc := 30) 0 rfl dX4_readsLevel_30 rfl ?_
  refine g_getI (pc := 31) (in_4 hX.1 (by omega)) fr_X4_27 dX4_readsLevel_31 ?_
  refine g_iload_n (pc := 34) 2 rfl dX4_readsLevel_34 rfl ?_
  refine bt_eq (pc := 35) 42 dX4_readsLevel_35 rfl (fun c1 => ?_) (fun c1 => ?_)
  · replace hf := am_ifT c1 hf
    refine g_iconst (pc := 38) (v := 3) dX4_readsLevel_38 (by decide) ?_
    refine g_goto (pc := 39) 43 dX4_readsLevel_39 rfl ?_
    exact am_sub [0, 1] rfl (q_X4_readsLevel_43 hX r0 r0 (σ.1 4 r0 4) 3 (by omega) (by omega) σ hf hk)
  replace hf := am_ifF c1 hf
  refine g_iconst (pc := 42) (v := 4) dX4_readsLevel_42 (by decide) ?_
  exact am_sub [0, 1] rfl (q_X4_readsLevel_43 hX r0 r0 (σ.1 4 r0 4) 4 (by omega) (by omega) σ hf hk)
noncomputable def f_X4_readsLevel (r0 : Nat) (σ : am_H) : Option (Bool × am_H) :=
  (f_X5_isWord 19 σ).bind fun p1 =>
  if p1 = true then
   (f_X4_readsLevel_26 r0 p1 σ)
  else
  (f_X5_isWord 20 σ).bind fun p3 =>
  if p3 = true then
   (f_X4_readsLevel_26 r0 p1 σ)
  else
  (f_X5_refuse 2 σ).bind fun p5 =>
  some (p5.1, p5.2)
set_option maxRecDepth 100000 in
set_option maxHeartbeats 4000000 in
theorem q_X4_readsLevel {X : am_X} (hX : am_wC X) {Q : Option Value → am_H → Prop} (r0 : Nat) (hr0 : r0 < 2) (σ : am_H) {o : Bool × am_H} (hf : f_X4_readsLevel r0 σ = some o) (hk : Q (some (.int (am_b o.1))) o.2) : am_G X gm_X4_readsLevel Q 0 [(0, .ref (am_ad X 4 r0)), (1, .ref (am_ad X 5 0))] [] σ := by
  unfold f_X4_readsLevel at hf
  refine g_aload_n (pc := 0) 1 rfl dX4_readsLevel_0 rfl ?_
  refine g_ldcS (pc := 1) 29 hX.2 rfl dX4_readsLevel_1 ?_
  obtain ⟨p1, hp1, hf⟩ := am_bd hf
  refine g_cV (pc := 3) (As := [.ref (am_kK X 19)]) (st := []) (st1 := [.int (am_b p1)]) (in_5 hX.1 (by omega)) kk_5 mV_X5_isWord ln_X4_49 rfl (Nat.le_of_ble_eq_true rfl) (Nat.le_of_ble_eq_true rfl) (k_X5_isWord hX 19 (by first | assumption | decide) σ hp1) dX4_readsLevel_3 rfl rfl ?_
  refine g_istore_n (pc := 6) [(2, .int (am_b p1)), (0, .ref (am_ad X 4 r0)), (1, .ref (am_ad X 5 0))] dX4_readsLevel_6 rfl (Nat.le_of_ble_eq_true rfl) rfl ?_
  refine g_iload_n (pc := 7) 0 rfl dX4_readsLevel_7 rfl ?_
  refine bt_ne (pc := 8) 26 dX4_readsLevel_8 rfl (fun c2 => ?_) (fun c2 => ?_)
  · replace hf := am_ifT c2 hf
    exact am_sub [1, 2, 0] rfl (q_X4_readsLevel_26 hX r0 p1 (by omega) σ hf hk)
  replace hf := am_ifF c2 hf
  refine g_aload_n (pc := 11) 2 rfl dX4_readsLevel_11 rfl ?_
  refine g_ldcS (pc := 12) 30 hX.2 rfl dX4_readsLevel_12 ?_
  obtain ⟨p3, hp3, hf⟩ := am_bd hf
  refine g_cV (pc := 14) (As := [.ref (am_kK X 20)]) (st := []) (st1 := [.int (am_b p3)]) (in_5 hX.1 (by omega)) kk_5 mV_X5_isWord ln_X4_49 rfl (Nat.le_of_ble_eq_true rfl) (Nat.le_of_ble_eq_true rfl) (k_X5_isWord hX 20 (by first | assumption | decide) σ hp3) dX4_readsLevel_14 rfl rfl ?_
  refine bt_ne (pc := 17) 26 dX4_readsLevel_17 rfl (fun c4 => ?_) (fun c4 => ?_)
  · replace hf := am_ifT c4 hf
    exact am_sub [1, 2, 0] rfl (q_X4_readsLevel_26 hX r0 p1 (by omega) σ hf hk)
  replace hf := am_ifF c4 hf
  refine g_aload_n (pc := 20) 2 rfl dX4_readsLevel_20 rfl ?_
  refine g_iconst (pc := 21) (v := 2) dX4_readsLevel_21 (by decide) ?_
  obtain ⟨p5, hp5, hf⟩ := am_bd hf
  refine g_cV (pc := 22) (As := [.int 2]) (st := []) (st1 := [.int (am_b p5.1)]) (in_5 hX.1 (by omega)) kk_5 mV_X5_refuse ln_X4_43 rfl (Nat.le_of_ble_eq_true rfl) (Nat.le_of_ble_eq_true rfl) (k_X5_refuse hX 2 σ hp5) dX4_readsLevel_22 rfl rfl ?_
  have ho := Option.some.inj hf
  subst ho
  exact g_zreturn (pc := 25) (st := []) (x := p5.1) rfl dX4_readsLevel_25 hk
theorem k_X4_readsLevel {X : am_X} (hX : am_wC X) (r0 : Nat) (hr0 : r0 < 2) (σ : am_H) {o : Bool × am_H} (hf : f_X4_readsLevel r0 σ = some o) : am_C X gm_X4_readsLevel [.ref (am_ad X 4 r0), .ref (am_ad X 5 0)] σ (am_is (some (.int (am_b o.1))) o.2) :=
  am_ofG rfl (Nat.le_of_ble_eq_true rfl) rfl (q_X4_readsLevel hX r0 hr0 σ hf ⟨rfl, rfl⟩)
theorem dX4_readsRest_0 : decode cX4_readsRest 0 = .ok (.iload_n 2, 1) := by decide +kernel
theorem dX4_readsRest_1 : decode cX4_readsRest 1 = .ok (.tableswitch 86 0 5 #[39, 58, 86, 86, 49, 80], 39) := by decide +kernel
theorem dX4_readsRest_40 : decode cX4_readsRest 40 = .ok (.aload_n 0, 1) := by decide +kernel
theorem dX4_readsRest_41 : decode cX4_readsRest 41 = .ok (.aload_n 1, 1) := by decide +kernel
theorem dX4_readsRest_42 : decode cX4_readsRest 42 = .ok (.iconst 0, 1) := by decide +kernel
theorem dX4_readsRest_43 : decode cX4_readsRest 43 = .ok (.sipush 9999, 3) := by decide +kernel
theorem dX4_readsRest_46 : decode cX4_readsRest 46 = .ok (.invokevirtual 86, 3) := by decide +kernel
theorem dX4_readsRest_49 : decode cX4_readsRest 49 = .ok (.ireturn, 1) := by decide +kernel
theorem dX4_readsRest_50 : decode cX4_readsRest 50 = .ok (.aload_n 0, 1) := by decide +kernel
theorem dX4_readsRest_51 : decode cX4_readsRest 51 = .ok (.aload_n 1, 1) := by decide +kernel
theorem dX4_readsRest_52 : decode cX4_readsRest 52 = .ok (.iconst 1, 1) := by decide +kernel
theorem dX4_readsRest_53 : decode cX4_readsRest 53 = .ok (.bipush 9, 2) := by decide +kernel
theorem dX4_readsRest_55 : decode cX4_readsRest 55 = .ok (.invokevirtual 86, 3) := by decide +kernel
theorem dX4_readsRest_58 : decode cX4_readsRest 58 = .ok (.ireturn, 1) := by decide +kernel
theorem dX4_readsRest_59 : decode cX4_readsRest 59 = .ok (.aload_n 0, 1) := by decide +kernel
theorem dX4_readsRest_60 : decode cX4_readsRest 60 = .ok (.aload_n 1, 1) := by decide +kernel
theorem dX4_readsRest_61 : decode cX4_readsRest 61 = .ok (.invokevirtual 90, 3) := by decide +kernel
theorem dX4_readsRest_64 : decode cX4_readsRest 64 = .ok (.ifCond .ne 11, 3) := by decide +kernel
theorem dX4_readsRest_67 : decode cX4_readsRest 67 = .ok (.aload_n 0, 1) := by decide +kernel
theorem dX4_readsRest_68 : decode cX4_readsRest 68 = .ok (.aload_n 1, 1) := by decide +kernel
theorem dX4_readsRest_69 : decode cX4_readsRest 69 = .ok (.invokevirtual 93, 3) := by decide +kernel
theorem dX4_readsRest_72 : decode cX4_readsRest 72 = .ok (.ifCond .eq 7, 3) := by decide +kernel
theorem dX4_readsRest_75 : decode cX4_readsRest 75 = .ok (.iconst 1, 1) := by decide +kernel
theorem dX4_readsRest_76 : decode cX4_readsRest 76 = .ok (.goto 4, 3) := by decide +kernel
theorem dX4_readsRest_79 : decode cX4_readsRest 79 = .ok (.iconst 0, 1) := by decide +kernel
theorem dX4_readsRest_80 : decode cX4_readsRest 80 = .ok (.ireturn, 1) := by decide +kernel
theorem dX4_readsRest_81 : decode cX4_readsRest 81 = .ok (.aload_n 0, 1) := by decide +kernel
theorem dX4_readsRest_82 : decode cX4_readsRest 82 = .ok (.aload_n 1, 1) := by decide +kernel
theorem dX4_readsRest_83 : decode cX4_readsRest 83 = .ok (.invokevirtual 93, 3) := by decide +kernel
theorem dX4_readsRest_86 : decode cX4_readsRest 86 = .ok (.ireturn, 1) := by decide +kernel
theorem dX4_readsRest_87 : decode cX4_readsRest 87 = .ok (.iconst 1, 1) := by decide +kernel
theorem dX4_readsRest_88 : decode cX4_readsRest 88 = .ok (.ireturn, 1) := by decide +kernel
noncomputable def f_X4_readsRest (r0 : Nat) (v2 : Int32) (σ : am_H) : Option (Bool × am_H) :=
  if v2 = 0 then
   ((f_X4_readsNumber r0 0 9999 σ).bind fun p2 =>
   some (p2.1, p2.2))
  else
  if v2 = 1 then
   ((f_X4_readsWater r0 σ).bind fun p4 =>
   if p4.1 = true then
    (some (true, p4.2))
   else
   (f_X4_readsLevel r0 p4.2).bind fun p6 =>
   if p6.1 = true then
    (some (true, p6.2))
   else
   some (false, p6.2))
  else
  if v2 = 2 then
   (some (true, σ))
  else
  if v2 = 3 then
   (some (true, σ))
  else
  if v2 = 4 then
   ((f_X4_readsNumber r0 1 9 σ).bind fun p11 =>
   some (p11.1, p11.2))
  else
  if v2 = 5 then
   ((f_X4_readsLevel r0 σ).bind fun p13 =>
   some (p13.1, p13.2))
  else
  some (true, σ)
set_option maxRecDepth 100000 in
set_option maxHeartbeats 4000000 in
theorem q_X4_readsRest {X : am_X} (hX : am_wC X) {Q : Option Value → am_H → Prop} (r0 : Nat) (v2 : Int32) (hr0 : r0 < 2) (σ : am_H) {o : Bool × am_H} (hf : f_X4_readsRest r0 v2 σ = some o) (hk : Q (some (.int (am_b o.1))) o.2) : am_G X gm_X4_readsRest Q 0 [(0, .ref (am_ad X 4 r0)), (1, .ref (am_ad X 5 0)), (2, .int v2)] [] σ := by
  unfold f_X4_readsRest at hf
  refine g_iload_n (pc := 0) 2 rfl dX4_readsRest_0 rfl ?_
  by_cases c1 : v2 = 0
  · replace hf := am_ifT c1 hf
    refine g_swE (pc := 1) 40 c1 dX4_readsRest_1 (by decide) (by decide) rfl rfl ?_
    refine g_aload_n (pc := 40) 0 rfl dX4_readsRest_40 rfl ?_
    refine g_aload_n (pc := 41) 1 rfl dX4_readsRest_41 rfl ?_
    refine g_iconst (pc := 42) (v := 0) dX4_readsRest_42 (by decide) ?_
    refine g_sipush (pc := 43) (v := 9999) dX4_readsRest_43 (by decide) ?_
    obtain ⟨p2, hp2, hf⟩ := am_bd hf
    refine g_cV (pc := 46) (As := [.ref (am_ad X 5 0), .int 0, .int 9999]) (st := []) (st1 := [.int (am_b p2.1)]) (in_4 hX.1 (by omega)) kk_4 mV_X4_readsNumber ln_X4_86 rfl (Nat.le_of_ble_eq_true rfl) (Nat.le_of_ble_eq_true rfl) (k_X4_readsNumber hX r0 0 9999 (by omega) σ hp2) dX4_readsRest_46 rfl rfl ?_
    have ho := Option.some.inj hf
    subst ho
    exact g_zreturn (pc := 49) (st := []) (x := p2.1) rfl dX4_readsRest_49 hk
  replace hf := am_ifF c1 hf
  by_cases c3 : v2 = 1
  · replace hf := am_ifT c3 hf
    refine g_swE (pc := 1) 59 c3 dX4_readsRest_1 (by decide) (by decide) rfl rfl ?_
    refine g_aload_n (pc := 59) 0 rfl dX4_readsRest_59 rfl ?_
    refine g_aload_n (pc := 60) 1 rfl dX4_readsRest_60 rfl ?_
    obtain ⟨p4, hp4, hf⟩ := am_bd hf
    refine g_cV (pc := 61) (As := [.ref (am_ad X 5 0)]) (st := []) (st1 := [.int (am_b p4.1)]) (in_4 hX.1 (by omega)) kk_4 mV_X4_readsWater ln_X4_90 rfl (Nat.le_of_ble_eq_true rfl) (Nat.le_of_ble_eq_true rfl) (k_X4_readsWater hX r0 (by omega) σ hp4) dX4_readsRest_61 rfl rfl ?_
    refine bt_ne (pc := 64) 75 dX4_readsRest_64 rfl (fun c5 => ?_) (fun c5 => ?_)
    · replace hf := am_ifT c5 hf
      refine g_iconst (pc := 75) (v := 1) dX4_readsRest_75 (by decide) ?_
      refine g_goto (pc := 76) 80 dX4_readsRest_76 rfl ?_
      have ho := Option.some.inj hf
      subst ho
      exact g_zreturn (pc := 80) (st := []) (x := true) rfl dX4_readsRest_80 hk
    replace hf := am_ifF c5 hf
    refine g_aload_n (pc := 67) 0 rfl dX4_readsRest_67 rfl ?_
    refine g_aload_n (pc := 68) 1 rfl dX4_readsRest_68 rfl ?_
    obtain ⟨p6, hp6, hf⟩ := am_bd hf
    refine g_cV (pc := 69) (As := [.ref (am_ad X 5 0)]) (st := []) (st1 := [.int (am_b p6.1)]) (in_4 hX.1 (by omega)) kk_4 mV_X4_readsLevel ln_X4_93 rfl (Nat.le_of_ble_eq_true rfl) (Nat.le_of_ble_eq_true rfl) (k_X4_readsLevel hX r0 (by omega) p4.2 hp6) dX4_readsRest_69 rfl rfl ?_
    refine bt_eq (pc := 72) 79 dX4_readsRest_72 rfl (fun c7 => ?_) (fun c7 => ?_)
    · replace hf := am_ifT c7 hf
      refine g_iconst (pc := 75) (v := 1) dX4_readsRest_75 (by decide) ?_
      refine g_goto (pc := 76) 80 dX4_readsRest_76 rfl ?_
      have ho := Option.some.inj hf
      subst ho
      exact g_zreturn (pc := 80) (st := []) (x := true) rfl dX4_readsRest_80 hk
    replace hf := am_ifF c7 hf
    refine g_iconst (pc := 79) (v := 0) dX4_readsRest_79 (by decide) ?_
    have ho := Option.some.inj hf
    subst ho
    exact g_zreturn (pc := 80) (st := []) (x := false) rfl dX4_readsRest_80 hk
  replace hf := am_ifF c3 hf
  by_cases c8 : v2 = 2
  · replace hf := am_ifT c8 hf
    refine g_swE (pc := 1) 87 c8 dX4_readsRest_1 (by decide) (by decide) rfl rfl ?_
    refine g_iconst (pc := 87) (v := 1) dX4_readsRest_87 (by decide) ?_
    have ho := Option.some.inj hf
    subst ho
    exact g_zreturn (pc := 88) (st := []) (x := true) rfl dX4_readsRest_88 hk
  replace hf := am_ifF c8 hf
  by_cases c9 : v2 = 3
  · replace hf := am_ifT c9 hf
    refine g_swE (pc := 1) 87 c9 dX4_readsRest_1 (by decide) (by decide) rfl rfl ?_
    refine g_iconst (pc := 87) (v := 1) dX4_readsRest_87 (by decide) ?_
    have ho := Option.some.inj hf
    subst ho
    exact g_zreturn (pc := 88) (st := []) (x := true) rfl dX4_readsRest_88 hk
  replace hf := am_ifF c9 hf
  by_cases c10 : v2 = 4
  · replace hf := am_ifT c10 hf
    refine g_swE (pc := 1) 50 c10 dX4_readsRest_1 (by decide) (by decide) rfl rfl ?_
    refine g_aload_n (pc := 50) 0 rfl dX4_readsRest_50 rfl ?_
    refine g_aload_n (pc := 51) 1 rfl dX4_readsRest_51 rfl ?_
    refine g_iconst (pc := 52) (v := 1) dX4_readsRest_52 (by decide) ?_
    refine g_bipush (pc := 53) (v := 9) dX4_readsRest_53 (by decide) ?_
    obtain ⟨p11, hp11, hf⟩ := am_bd hf
    refine g_cV (pc := 55) (As := [.ref (am_ad X 5 0), .int 1, .int 9]) (st := []) (st1 := [.int (am_b p11.1)]) (in_4 hX.1 (by omega)) kk_4 mV_X4_readsNumber ln_X4_86 rfl (Nat.le_of_ble_eq_true rfl) (Nat.le_of_ble_eq_true rfl) (k_X4_readsNumber hX r0 1 9 (by omega) σ hp11) dX4_readsRest_55 rfl rfl ?_
    have ho := Option.some.inj hf
    subst ho
    exact g_zreturn (pc := 58) (st := []) (x := p11.1) rfl dX4_readsRest_58 hk
  replace hf := am_ifF c10 hf
  by_cases c12 : v2 = 5
  · replace hf := am_ifT c12 hf
    refine g_swE (pc := 1) 81 c12 dX4_readsRest_1 (by decide) (by decide) rfl rfl ?_
    refine g_aload_n (pc := 81) 0 rfl dX4_readsRest_81 rfl ?_
    refine g_aload_n (pc := 82) 1 rfl dX4_readsRest_82 rfl ?_
    obtain ⟨p13, hp13, hf⟩ := am_bd hf
    refine g_cV (pc := 83) (As := [.ref (am_ad X 5 0)]) (st := []) (st1 := [.int (am_b p13.1)]) (in_4 hX.1 (by omega)) kk_4 mV_X4_readsLevel ln_X4_93 rfl (Nat.le_of_ble_eq_true rfl) (Nat.le_of_ble_eq_true rfl) (k_X4_readsLevel hX r0 (by omega) σ hp13) dX4_readsRest_83 rfl rfl ?_
    have ho := Option.some.inj hf
    subst ho
    exact g_zreturn (pc := 86) (st := []) (x := p13.1) rfl dX4_readsRest_86 hk
  replace hf := am_ifF c12 hf
  refine g_tabO (pc := 1) 87 dX4_readsRest_1 (am_sw_out 6 (by decide) ?_) rfl ?_
  · intro k hk
    rcases (by omega : k = 0 ∨ k = 1 ∨ k = 2 ∨ k = 3 ∨ k = 4 ∨ k = 5) with rfl | rfl | rfl | rfl | rfl | rfl
    · exact c1
    · exact c3
    · exact c8
    · exact c9
    · exact c10
    · exact c12
  refine g_iconst (pc := 87) (v := 1) dX4_readsRest_87 (by decide) ?_
  have ho := Option.some.inj hf
  subst ho
  exact g_zreturn (pc := 88) (st := []) (x := true) rfl dX4_readsRest_88 hk
theorem k_X4_readsRest {X : am_X} (hX : am_wC X) (r0 : Nat) (v2 : Int32) (hr0 : r0 < 2) (σ : am_H) {o : Bool × am_H} (hf : f_X4_readsRest r0 v2 σ = some o) : am_C X gm_X4_readsRest [.ref (am_ad X 4 r0), .ref (am_ad X 5 0), .int v2] σ (am_is (some (.int (am_b o.1))) o.2) :=
  am_ofG rfl (Nat.le_of_ble_eq_true rfl) rfl (q_X4_readsRest hX r0 v2 hr0 σ hf ⟨rfl, rfl⟩)
theorem dX4_readsStep_0 : decode cX4_readsStep 0 = .ok (.aload_n 1, 1) := by decide +kernel
theorem dX4_readsStep_1 : decode cX4_readsStep 1 = .ok (.invokestatic 66, 3) := by decide +kernel
theorem dX4_readsStep_4 : decode cX4_readsStep 4 = .ok (.istore_n 2, 1) := by decide +kernel
theorem dX4_readsStep_5 : decode cX4_readsStep 5 = .ok (.iload_n 2, 1) := by decide +kernel
theorem dX4_readsStep_6 : decode cX4_readsStep 6 = .ok (.iconst (-1), 1) := by decide +kernel
theorem dX4_readsStep_7 : decode cX4_readsStep 7 = .ok (.if_icmp .ne 9, 3) := by decide +kernel
theorem dX4_readsStep_10 : decode cX4_readsStep 10 = .ok (.aload_n 1, 1) := by decide +kernel
theorem dX4_readsStep_11 : decode cX4_readsStep 11 = .ok (.iconst 2, 1) := by decide +kernel
theorem dX4_readsStep_12 : decode cX4_readsStep 12 = .ok (.invokevirtual 43, 3) := by decide +kernel
theorem dX4_readsStep_15 : decode cX4_readsStep 15 = .ok (.ireturn, 1) := by decide +kernel
theorem dX4_readsStep_16 : decode cX4_readsStep 16 = .ok (.iload_n 2, 1) := by decide +kernel
theorem dX4_readsStep_17 : decode cX4_readsStep 17 = .ok (.iconst 4, 1) := by decide +kernel
theorem dX4_readsStep_18 : decode cX4_readsStep 18 = .ok (.if_icmp .eq 8, 3) := by decide +kernel
theorem dX4_readsStep_21 : decode cX4_readsStep 21 = .ok (.iload_n 2, 1) := by decide +kernel
theorem dX4_readsStep_22 : decode cX4_readsStep 22 = .ok (.iconst 5, 1) := by decide +kernel
theorem dX4_readsStep_23 : decode cX4_readsStep 23 = .ok (.if_icmp .ne 7, 3) := by decide +kernel
theorem dX4_readsStep_26 : decode cX4_readsStep 26 = .ok (.iconst 1, 1) := by decide +kernel
theorem dX4_readsStep_27 : decode cX4_readsStep 27 = .ok (.goto 4, 3) := by decide +kernel
theorem dX4_readsStep_30 : decode cX4_readsStep 30 = .ok (.iconst 0, 1) := by decide +kernel
theorem dX4_readsStep_31 : decode cX4_readsStep 31 = .ok (.istore_n 3, 1) := by decide +kernel
theorem dX4_readsStep_32 : decode cX4_readsStep 32 = .ok (.iload_n 3, 1) := by decide +kernel
theorem dX4_readsStep_33 : decode cX4_readsStep 33 = .ok (.ifCond .eq 17, 3) := by decide +kernel
theorem dX4_readsStep_36 : decode cX4_readsStep 36 = .ok (.aload_n 0, 1) := by decide +kernel
theorem dX4_readsStep_37 : decode cX4_readsStep 37 = .ok (.getfield 34, 3) := by decide +kernel
theorem dX4_readsStep_40 : decode cX4_readsStep 40 = .ok (.iconst 3, 1) := by decide +kernel
theorem dX4_readsStep_41 : decode cX4_readsStep 41 = .ok (.if_icmp .lt 9, 3) := by decide +kernel
theorem dX4_readsStep_44 : decode cX4_readsStep 44 = .ok (.aload_n 1, 1) := by decide +kernel
theorem dX4_readsStep_45 : decode cX4_readsStep 45 = .ok (.iconst 5, 1) := by decide +kernel
theorem dX4_readsStep_46 : decode cX4_readsStep 46 = .ok (.invokevirtual 43, 3) := by decide +kernel
theorem dX4_readsStep_49 : decode cX4_readsStep 49 = .ok (.ireturn, 1) := by decide +kernel
theorem dX4_readsStep_50 : decode cX4_readsStep 50 = .ok (.aload_n 0, 1) := by decide +kernel
theorem dX4_readsStep_51 : decode cX4_readsStep 51 = .ok (.getfield 31, 3) := by decide +kernel
theorem dX4_readsStep_54 : decode cX4_readsStep 54 = .ok (.bipush 40, 2) := by decide +kernel
theorem dX4_readsStep_56 : decode cX4_readsStep 56 = .ok (.if_icmp .ge 12, 3) := by decide +kernel
theorem dX4_readsStep_59 : decode cX4_readsStep 59 = .ok (.aload_n 0, 1) := by decide +kernel
theorem dX4_readsStep_60 : decode cX4_readsStep 60 = .ok (.getfield 27, 3) := by decide +kernel
theorem dX4_readsStep_63 : decode cX4_readsStep 63 = .ok (.bipush 80, 2) := by decide +kernel
theorem dX4_readsStep_65 : decode cX4_readsStep 65 = .ok (.if_icmp .lt 10, 3) := by decide +kernel
theorem dX4_readsStep_68 : decode cX4_readsStep 68 = .ok (.aload_n 1, 1) := by decide +kernel
theorem dX4_readsStep_69 : decode cX4_readsStep 69 = .ok (.bipush 6, 2) := by decide +kernel
theorem dX4_readsStep_71 : decode cX4_readsStep 71 = .ok (.invokevirtual 43, 3) := by decide +kernel
theorem dX4_readsStep_74 : decode cX4_readsStep 74 = .ok (.ireturn, 1) := by decide +kernel
theorem dX4_readsStep_75 : decode cX4_readsStep 75 = .ok (.aload_n 1, 1) := by decide +kernel
theorem dX4_readsStep_76 : decode cX4_readsStep 76 = .ok (.invokevirtual 60, 3) := by decide +kernel
theorem dX4_readsStep_79 : decode cX4_readsStep 79 = .ok (.aload_n 0, 1) := by decide +kernel
theorem dX4_readsStep_80 : decode cX4_readsStep 80 = .ok (.getfield 9, 3) := by decide +kernel
theorem dX4_readsStep_83 : decode cX4_readsStep 83 = .ok (.aload_n 0, 1) := by decide +kernel
theorem dX4_readsStep_84 : decode cX4_readsStep 84 = .ok (.getfield 27, 3) := by decide +kernel
theorem dX4_readsStep_87 : decode cX4_readsStep 87 = .ok (.iload_n 2, 1) := by decide +kernel
theorem dX4_readsStep_88 : decode cX4_readsStep 88 = .ok (.iastore, 1) := by decide +kernel
theorem dX4_readsStep_89 : decode cX4_readsStep 89 = .ok (.aload_n 0, 1) := by decide +kernel
theorem dX4_readsStep_90 : decode cX4_readsStep 90 = .ok (.getfield 15, 3) := by decide +kernel
theorem dX4_readsStep_93 : decode cX4_readsStep 93 = .ok (.aload_n 0, 1) := by decide +kernel
theorem dX4_readsStep_94 : decode cX4_readsStep 94 = .ok (.getfield 27, 3) := by decide +kernel
theorem dX4_readsStep_97 : decode cX4_readsStep 97 = .ok (.iconst 0, 1) := by decide +kernel
theorem dX4_readsStep_98 : decode cX4_readsStep 98 = .ok (.iastore, 1) := by decide +kernel
theorem dX4_readsStep_99 : decode cX4_readsStep 99 = .ok (.aload_n 0, 1) := by decide +kernel
theorem dX4_readsStep_100 : decode cX4_readsStep 100 = .ok (.getfield 18, 3) := by decide +kernel
theorem dX4_readsStep_103 : decode cX4_readsStep 103 = .ok (.aload_n 0, 1) := by decide +kernel
theorem dX4_readsStep_104 : decode cX4_readsStep 104 = .ok (.getfield 27, 3) := by decide +kernel
theorem dX4_readsStep_107 : decode cX4_readsStep 107 = .ok (.iconst 0, 1) := by decide +kernel
theorem dX4_readsStep_108 : decode cX4_readsStep 108 = .ok (.iastore, 1) := by decide +kernel
theorem dX4_readsStep_109 : decode cX4_readsStep 109 = .ok (.aload_n 0, 1) := by decide +kernel
theorem dX4_readsStep_110 : decode cX4_readsStep 110 = .ok (.aload_n 1, 1) := by decide +kernel
theorem dX4_readsStep_111 : decode cX4_readsStep 111 = .ok (.iload_n 2, 1) := by decide +kernel
theorem dX4_readsStep_112 : decode cX4_readsStep 112 = .ok (.invokevirtual 70, 3) := by decide +kernel
theorem dX4_readsStep_115 : decode cX4_readsStep 115 = .ok (.ifCond .eq 10, 3) := by decide +kernel
theorem dX4_readsStep_118 : decode cX4_readsStep 118 = .ok (.aload_n 1, 1) := by decide +kernel
theorem dX4_readsStep_119 : decode cX4_readsStep 119 = .ok (.invokevirtual 63, 3) := by decide +kernel
theorem dX4_readsStep_122 : decode cX4_readsStep 122 = .ok (.ifCond .ne 5, 3) := by decide +kernel
theorem dX4_readsStep_125 : decode cX4_readsStep 125 = .ok (.iconst 0, 1) := by decide +kernel
theorem dX4_readsStep_126 : decode cX4_readsStep 126 = .ok (.ireturn, 1) := by decide +kernel
theorem dX4_readsStep_127 : decode cX4_readsStep 127 = .ok (.iload_n 3, 1) := by decide +kernel
theorem dX4_readsStep_128 : decode cX4_readsStep 128 = .ok (.ifCond .eq 26, 3) := by decide +kernel
theorem dX4_readsStep_131 : decode cX4_readsStep 131 = .ok (.aload_n 0, 1) := by decide +kernel
theorem dX4_readsStep_132 : decode cX4_readsStep 132 = .ok (.getfield 24, 3) := by decide +kernel
theorem dX4_readsStep_135 : decode cX4_readsStep 135 = .ok (.aload_n 0, 1) := by decide +kernel
theorem dX4_readsStep_136 : decode cX4_readsStep 136 = .ok (.getfield 34, 3) := by decide +kernel
theorem dX4_readsStep_139 : decode cX4_readsStep 139 = .ok (.aload_n 0, 1) := by decide +kernel
theorem dX4_readsStep_140 : decode cX4_readsStep 140 = .ok (.getfield 27, 3) := by decide +kernel
theorem dX4_readsStep_143 : decode cX4_readsStep 143 = .ok (.iastore, 1) := by decide +kernel
theorem dX4_readsStep_144 : decode cX4_readsStep 144 = .ok (.aload_n 0, 1) := by decide +kernel
theorem dX4_readsStep_145 : decode cX4_readsStep 145 = .ok (.dup, 1) := by decide +kernel
theorem dX4_readsStep_146 : decode cX4_readsStep 146 = .ok (.getfield 34, 3) := by decide +kernel
theorem dX4_readsStep_149 : decode cX4_readsStep 149 = .ok (.iconst 1, 1) := by decide +kernel
theorem dX4_readsStep_150 : decode cX4_readsStep 150 = .ok (.iadd, 1) := by decide +kernel
theorem dX4_readsStep_151 : decode cX4_readsStep 151 = .ok (.putfield 34, 3) := by decide +kernel
theorem dX4_readsStep_154 : decode cX4_readsStep 154 = .ok (.aload_n 0, 1) := by decide +kernel
theorem dX4_readsStep_155 : decode cX4_readsStep 155 = .ok (.dup, 1) := by decide +kernel
theorem dX4_readsStep_156 : decode cX4_readsStep 156 = .ok (.getfield 27, 3) := by decide +kernel
theorem dX4_readsStep_159 : decode cX4_readsStep 159 = .ok (.iconst 1, 1) := by decide +kernel
theorem dX4_readsStep_160 : decode cX4_readsStep 160 = .ok (.iadd, 1) := by decide +kernel
theorem dX4_readsStep_161 : decode cX4_readsStep 161 = .ok (.putfield 27, 3) := by decide +kernel
theorem dX4_readsStep_164 : decode cX4_readsStep 164 = .ok (.aload_n 0, 1) := by decide +kernel
theorem dX4_readsStep_165 : decode cX4_readsStep 165 = .ok (.dup, 1) := by decide +kernel
theorem dX4_readsStep_166 : decode cX4_readsStep 166 = .ok (.getfield 31, 3) := by decide +kernel
theorem dX4_readsStep_169 : decode cX4_readsStep 169 = .ok (.iconst 1, 1) := by decide +kernel
theorem dX4_readsStep_170 : decode cX4_readsStep 170 = .ok (.iadd, 1) := by decide +kernel
theorem dX4_readsStep_171 : decode cX4_readsStep 171 = .ok (.putfield 31, 3) := by decide +kernel
theorem dX4_readsStep_174 : decode cX4_readsStep 174 = .ok (.iconst 1, 1) := by decide +kernel
theorem dX4_readsStep_175 : decode cX4_readsStep 175 = .ok (.ireturn, 1) := by decide +kernel
noncomputable def f_X4_readsStep_154 (r0 : Nat) (σ : am_H) : Option (Bool × am_H) :=
  (some (am_wI σ 4 r0 4 ((σ.1 4 r0 4) + 1))).bind fun s1 =>
  (some (am_wI s1 4 r0 5 ((s1.1 4 r0 5) + 1))).bind fun s2 =>
  some (true, s2)
set_option maxRecDepth 100000 in
set_option maxHeartbeats 4000000 in
theorem q_X4_readsStep_154 {X : am_X} (hX : am_wC X) {Q : Option Value → am_H → Prop} (r0 : Nat) (hr0 : r0 < 2) (σ : am_H) {o : Bool × am_H} (hf : f_X4_readsStep_154 r0 σ = some o) (hk : Q (some (.int (am_b o.1))) o.2) : am_G X gm_X4_readsStep Q 154 [(0, .ref (am_ad X 4 r0))] [] σ := by
  unfold f_X4_readsStep_154 at hf
  refine g_aload_n (pc := 154) 0 rfl dX4_readsStep_154 rfl ?_
  refine g_dup (pc := 155) dX4_readsStep_155 rfl ?_
  refine g_getI (pc := 156) (in_4 hX.1 (by omega)) fr_X4_27 dX4_readsStep_156 ?_
  refine g_iconst (pc := 159) (v := 1) dX4_readsStep_159 (by decide) ?_
  refine g_iadd (pc := 160) dX4_readsStep_160 ?_
  obtain ⟨s1, hs1, hf⟩ := am_bd hf
  refine g_setI (pc := 161) (in_4 hX.1 (by omega)) fr_X4_27 dX4_readsStep_161 (Option.some.inj hs1) ?_
  refine g_aload_n (pc := 164) 0 rfl dX4_readsStep_164 rfl ?_
  refine g_dup (pc := 165) dX4_readsStep_165 rfl ?_
  refine g_getI (pc := 166) (in_4 hX.1 (by omega)) fr_X4_31 dX4_readsStep_166 ?_
  refine g_iconst (pc := 169) (v := 1) dX4_readsStep_169 (by decide) ?_
  refine g_iadd (pc := 170) dX4_readsStep_170 ?_
  obtain ⟨s2, hs2, hf⟩ := am_bd hf
  refine g_setI (pc := 171) (in_4 hX.1 (by omega)) fr_X4_31 dX4_readsStep_171 (Option.some.inj hs2) ?_
  refine g_iconst (pc := 174) (v := 1) dX4_readsStep_174 (by decide) ?_
  have ho := Option.some.inj hf
  subst ho
  exact g_zreturn (pc := 175) (st := []) (x := true) rfl dX4_readsStep_175 hk
noncomputable def f_X4_readsStep_68 (σ : am_H) : Option (Bool × am_H) :=
  (f_X5_refuse 6 σ).bind fun p1 =>
  some (p1.1, p1.2)
set_option maxRecDepth 100000 in
set_option maxHeartbeats 4000000 in
theorem q_X4_readsStep_68 {X : am_X} (hX : am_wC X) {Q : Option Value → am_H → Prop} (σ : am_H) {o : Bool × am_H} (hf : f_X4_readsStep_68 σ = some o) (hk : Q (some (.int (am_b o.1))) o.2) : am_G X gm_X4_readsStep Q 68 [(1, .ref (am_ad X 5 0))] [] σ := by
  unfold f_X4_readsStep_68 at hf
  refine g_aload_n (pc := 68) 0 rfl dX4_readsStep_68 rfl ?_
  refine g_bipush (pc := 69) (v := 6) dX4_readsStep_69 (by decide) ?_
  obtain ⟨p1, hp1, hf⟩ := am_bd hf
  refine g_cV (pc := 71) (As := [.int 6]) (st := []) (st1 := [.int (am_b p1.1)]) (in_5 hX.1 (by omega)) kk_5 mV_X5_refuse ln_X4_43 rfl (Nat.le_of_ble_eq_true rfl) (Nat.le_of_ble_eq_true rfl) (k_X5_refuse hX 6 σ hp1) dX4_readsStep_71 rfl rfl ?_
  have ho := Option.some.inj hf
  subst ho
  exact g_zreturn (pc := 74) (st := []) (x := p1.1) rfl dX4_readsStep_74 hk
noncomputable def f_X4_readsStep_50 (r0 : Nat) (v2 : Int32) (v3 : Bool) (σ : am_H) : Option (Bool × am_H) :=
  if (σ.1 4 r0 5) < 40 then
   (if (σ.1 4 r0 4) < 80 then
    ((f_X5_advance σ).bind fun p3 =>
    (am_ix 80 (p3.1 4 r0 4)).bind fun j4 =>
    (some (am_wI p3 500 r0 j4 v2)).bind fun s5 =>
    (am_ix 80 (s5.1 4 r0 4)).bind fun j6 =>
    (some (am_wI s5 501 r0 j6 0)).bind fun s7 =>
    (am_ix 80 (s7.1 4 r0 4)).bind fun j8 =>
    (some (am_wI s7 502 r0 j8 0)).bind fun s9 =>
    (f_X4_readsRest r0 v2 s9).bind fun p10 =>
    if p10.1 = true then
     ((f_X5_takesSign p10.2).bind fun p12 =>
     if p12.1 = true then
      (if v3 = true then
       ((am_ix 3 (p12.2.1 4 r0 7)).bind fun j15 =>
       (some (am_wI p12.2 506 r0 j15 (p12.2.1 4 r0 4))).bind fun s16 =>
       (some (am_wI s16 4 r0 7 ((s16.1 4 r0 7) + 1))).bind fun s17 =>
       f_X4_readsStep_154 r0 s17)
      else
      f_X4_readsStep_154 r0 p12.2)
     else
     some (false, p12.2))
    else
    some (false, p10.2))
   else
   f_X4_readsStep_68 σ)
  else
  f_X4_readsStep_68 σ
set_option maxRecDepth 100000 in
set_option maxHeartbeats 4000000 in
theorem q_X4_readsStep_50 {X : am_X} (hX : am_wC X) {Q : Option Value → am_H → Prop} (r0 : Nat) (v2 : Int32) (v3 : Bool) (hr0 : r0 < 2) (σ : am_H) {o : Bool × am_H} (hf : f_X4_readsStep_50 r0 v2 v3 σ = some o) (hk : Q (some (.int (am_b o.1))) o.2) : am_G X gm_X4_readsStep Q 50 [(0, .ref (am_ad X 4 r0)), (1, .ref (am_ad X 5 0)), (2, .int v2), (3, .int (am_b v3))] [] σ := by
  unfold f_X4_readsStep_50 at hf
  refine g_aload_n (pc := 50) 0 rfl dX4_readsStep_50 rfl ?_
  refine g_getI (pc := 51) (in_4 hX.1 (by omega)) fr_X4_31 dX4_readsStep_51 ?_
  refine g_bipush (pc := 54) (v := 40) dX4_readsStep_54 (by decide) ?_
  refine bi_ge (pc := 56) 68 dX4_readsStep_56 rfl (fun c1 => ?_) (fun c1 => ?_)
  · replace hf := am_ifT c1 hf
    refine g_aload_n (pc := 59) 0 rfl dX4_readsStep_59 rfl ?_
    refine g_getI (pc := 60) (in_4 hX.1 (by omega)) fr_X4_27 dX4_readsStep_60 ?_
    refine g_bipush (pc := 63) (v := 80) dX4_readsStep_63 (by decide) ?_
    refine bi_lt (pc := 65) 75 dX4_readsStep_65 rfl (fun c2 => ?_) (fun c2 => ?_)
    · replace hf := am_ifT c2 hf
      refine g_aload_n (pc := 75) 1 rfl dX4_readsStep_75 rfl ?_
      obtain ⟨p3, hp3, hf⟩ := am_bd hf
      refine g_cV (pc := 76) (As := []) (st := []) (st1 := []) (in_5 hX.1 (by omega)) kk_5 mV_X5_advance ln_X4_60 rfl (Nat.le_of_ble_eq_true rfl) (Nat.le_of_ble_eq_true rfl) (k_X5_advance hX σ hp3) dX4_readsStep_76 rfl rfl ?_
      refine g_aload_n (pc := 79) 0 rfl dX4_readsStep_79 rfl ?_
      refine g_getC (pc := 80) (e := r0) (in_4 hX.1 (by omega)) fr_X4_9 dX4_readsStep_80 rfl ?_
      refine g_aload_n (pc := 83) 0 rfl dX4_readsStep_83 rfl ?_
      refine g_getI (pc := 84) (in_4 hX.1 (by omega)) fr_X4_27 dX4_readsStep_84 ?_
      refine g_iload_n (pc := 87) 2 rfl dX4_readsStep_87 rfl ?_
      obtain ⟨j4, hj4, hf⟩ := am_bd hf
      have gj4 := am_ix_lt hj4
      obtain ⟨s5, hs5, hf⟩ := am_bd hf
      refine g_sI (pc := 88) (in_500 hX.1 (by omega)) ak_500 hj4 dX4_readsStep_88 (Option.some.inj hs5) ?_
      refine g_aload_n (pc := 89) 0 rfl dX4_readsStep_89 rfl ?_
      refine g_getC (pc := 90) (e := r0) (in_4 hX.1 (by omega)) fr_X4_15 dX4_readsStep_90 rfl ?_
      refine g_aload_n (pc := 93) 0 rfl dX4_readsStep_93 rfl ?_
      refine g_getI (pc := 94) (in_4 hX.1 (by omega)) fr_X4_27 dX4_readsStep_94 ?_
      refine g_iconst (pc := 97) (v := 0) dX4_readsStep_97 (by decide) ?_
      obtain ⟨j6, hj6, hf⟩ := am_bd hf
      have gj6 := am_ix_lt hj6
      obtain ⟨s7, hs7, hf⟩ := am_bd hf
      refine g_sI (pc := 98) (in_501 hX.1 (by omega)) ak_501 hj6 dX4_readsStep_98 (Option.some.inj hs7) ?_
      refine g_aload_n (pc := 99) 0 rfl dX4_readsStep_99 rfl ?_
      refine g_getC (pc := 100) (e := r0) (in_4 hX.1 (by omega)) fr_X4_18 dX4_readsStep_100 rfl ?_
      refine g_aload_n (pc := 103) 0 rfl dX4_readsStep_103 rfl ?_
      refine g_getI (pc := 104) (in_4 hX.1 (by omega)) fr_X4_27 dX4_readsStep_104 ?_
      refine g_iconst (pc := 107) (v := 0) dX4_readsStep_107 (by decide) ?_
      obtain ⟨j8, hj8, hf⟩ := am_bd hf
      have gj8 := am_ix_lt hj8
      obtain ⟨s9, hs9, hf⟩ := am_bd hf
      refine g_sI (pc := 108) (in_502 hX.1 (by omega)) ak_502 hj8 dX4_readsStep_108 (Option.some.inj hs9) ?_
      refine g_aload_n (pc := 109) 0 rfl dX4_readsStep_109 rfl ?_
      refine g_aload_n (pc := 110) 1 rfl dX4_readsStep_110 rfl ?_
      refine g_iload_n (pc := 111) 2 rfl dX4_readsStep_111 rfl ?_
      obtain ⟨p10, hp10, hf⟩ := am_bd hf
      refine g_cV (pc := 112) (As := [.ref (am_ad X 5 0), .int v2]) (st := []) (st1 := [.int (am_b p10.1)]) (in_4 hX.1 (by omega)) kk_4 mV_X4_readsRest ln_X4_70 rfl (Nat.le_of_ble_eq_true rfl) (Nat.le_of_ble_eq_true rfl) (k_X4_readsRest hX r0 v2 (by omega) s9 hp10) dX4_readsStep_112 rfl rfl ?_
      refine bt_eq (pc := 115) 125 dX4_readsStep_115 rfl (fun c11 => ?_) (fun c11 => ?_)
      · replace hf := am_ifT c11 hf
        refine g_aload_n (pc := 118) 1 rfl dX4_readsStep_118 rfl ?_
        obtain ⟨p12, hp12, hf⟩ := am_bd hf
        refine g_cV (pc := 119) (As := []) (st := []) (st1 := [.int (am_b p12.1)]) (in_5 hX.1 (by omega)) kk_5 mV_X5_takesSign ln_X4_63 rfl (Nat.le_of_ble_eq_true rfl) (Nat.le_of_ble_eq_true rfl) (k_X5_takesSign hX p10.2 hp12) dX4_readsStep_119 rfl rfl ?_
        refine bt_ne (pc := 122) 127 dX4_readsStep_122 rfl (fun c13 => ?_) (fun c13 => ?_)
        · replace hf := am_ifT c13 hf
          refine g_iload_n (pc := 127) 3 rfl dX4_readsStep_127 rfl ?_
          refine bt_eq (pc := 128) 154 dX4_readsStep_128 rfl (fun c14 => ?_) (fun c14 => ?_)
          · replace hf := am_ifT c14 hf
            refine g_aload_n (pc := 131) 0 rfl dX4_readsStep_131 rfl ?_
            refine g_getC (pc := 132) (e := r0) (in_4 hX.1 (by omega)) fr_X4_24 dX4_readsStep_132 rfl ?_
            refine g_aload_n (pc := 135) 0 rfl dX4_readsStep_135 rfl ?_
            refine g_getI (pc := 136) (in_4 hX.1 (by omega)) fr_X4_34 dX4_readsStep_136 ?_
            refine g_aload_n (pc := 139) 0 rfl dX4_readsStep_139 rfl ?_
            refine g_getI (pc := 140) (in_4 hX.1 (by omega)) fr_X4_27 dX4_readsStep_140 ?_
            obtain ⟨j15, hj15, hf⟩ := am_bd hf
            have gj15 := am_ix_lt hj15
            obtain ⟨s16, hs16, hf⟩ := am_bd hf
            refine g_sI (pc := 143) (in_506 hX.1 (by omega)) ak_506 hj15 dX4_readsStep_143 (Option.some.inj hs16) ?_
            refine g_aload_n (pc := 144) 0 rfl dX4_readsStep_144 rfl ?_
            refine g_dup (pc := 145) dX4_readsStep_145 rfl ?_
            refine g_getI (pc := 146) (in_4 hX.1 (by omega)) fr_X4_34 dX4_readsStep_146 ?_
            refine g_iconst (pc := 149) (v := 1) dX4_readsStep_149 (by decide) ?_
            refine g_iadd (pc := 150) dX4_readsStep_150 ?_
            obtain ⟨s17, hs17, hf⟩ := am_bd hf
            refine g_setI (pc := 151) (in_4 hX.1 (by omega)) fr_X4_34 dX4_readsStep_151 (Option.some.inj hs17) ?_
            exact am_sub [0] rfl (q_X4_readsStep_154 hX r0 (by omega) s17 hf hk)
          replace hf := am_ifF c14 hf
          exact am_sub [0] rfl (q_X4_readsStep_154 hX r0 (by omega) p12.2 hf hk)
        replace hf := am_ifF c13 hf
        refine g_iconst (pc := 125) (v := 0) dX4_readsStep_125 (by decide) ?_
        have ho := Option.some.inj hf
        subst ho
        exact g_zreturn (pc := 126) (st := []) (x := false) rfl dX4_readsStep_126 hk
      replace hf := am_ifF c11 hf
      refine g_iconst (pc := 125) (v := 0) dX4_readsStep_125 (by decide) ?_
      have ho := Option.some.inj hf
      subst ho
      exact g_zreturn (pc := 126) (st := []) (x := false) rfl dX4_readsStep_126 hk
    replace hf := am_ifF c2 hf
    exact am_sub [1] rfl (q_X4_readsStep_68 hX σ hf hk)
  replace hf := am_ifF c1 hf
  exact am_sub [1] rfl (q_X4_readsStep_68 hX σ hf hk)
noncomputable def f_X4_readsStep_31 (r0 : Nat) (v2 : Int32) (k0 : Bool) (σ : am_H) : Option (Bool × am_H) :=
  if k0 = true then
   (if (σ.1 4 r0 7) < 3 then
    (f_X4_readsStep_50 r0 v2 k0 σ)
   else
   (f_X5_refuse 5 σ).bind fun p3 =>
   some (p3.1, p3.2))
  else
  f_X4_readsStep_50 r0 v2 k0 σ
set_option maxRecDepth 100000 in
set_option maxHeartbeats 4000000 in
theorem q_X4_readsStep_31 {X : am_X} (hX : am_wC X) {Q : Option Value → am_H → Prop} (r0 : Nat) (v2 : Int32) (k0 : Bool) (hr0 : r0 < 2) (σ : am_H) {o : Bool × am_H} (hf : f_X4_readsStep_31 r0 v2 k0 σ = some o) (hk : Q (some (.int (am_b o.1))) o.2) : am_G X gm_X4_readsStep Q 31 [(0, .ref (am_ad X 4 r0)), (1, .ref (am_ad X 5 0)), (2, .int v2)] [.int (am_b k0)] σ := by
  unfold f_X4_readsStep_31 at hf
  refine g_istore_n (pc := 31) [(3, .int (am_b k0)), (0, .ref (am_ad X 4 r0)), (1, .ref (am_ad X 5 0)), (2, .int v2)] dX4_readsStep_31 rfl (Nat.le_of_ble_eq_true rfl) rfl ?_
  refine g_iload_n (pc := 32) 0 rfl dX4_readsStep_32 rfl ?_
  refine bt_eq (pc := 33) 50 dX4_readsStep_33 rfl (fun c1 => ?_) (fun c1 => ?_)
  · replace hf := am_ifT c1 hf
    refine g_aload_n (pc := 36) 1 rfl dX4_readsStep_36 rfl ?_
    refine g_getI (pc := 37) (in_4 hX.1 (by omega)) fr_X4_34 dX4_readsStep_37 ?_
    refine g_iconst (pc := 40) (v := 3) dX4_readsStep_40 (by decide) ?_
    refine bi_lt (pc := 41) 50 dX4_readsStep_41 rfl (fun c2 => ?_) (fun c2 => ?_)
    · replace hf := am_ifT c2 hf
      exact am_sub [1, 2, 3, 0] rfl (q_X4_readsStep_50 hX r0 v2 k0 (by omega) σ hf hk)
    replace hf := am_ifF c2 hf
    refine g_aload_n (pc := 44) 2 rfl dX4_readsStep_44 rfl ?_
    refine g_iconst (pc := 45) (v := 5) dX4_readsStep_45 (by decide) ?_
    obtain ⟨p3, hp3, hf⟩ := am_bd hf
    refine g_cV (pc := 46) (As := [.int 5]) (st := []) (st1 := [.int (am_b p3.1)]) (in_5 hX.1 (by omega)) kk_5 mV_X5_refuse ln_X4_43 rfl (Nat.le_of_ble_eq_true rfl) (Nat.le_of_ble_eq_true rfl) (k_X5_refuse hX 5 σ hp3) dX4_readsStep_46 rfl rfl ?_
    have ho := Option.some.inj hf
    subst ho
    exact g_zreturn (pc := 49) (st := []) (x := p3.1) rfl dX4_readsStep_49 hk
  replace hf := am_ifF c1 hf
  exact am_sub [1, 2, 3, 0] rfl (q_X4_readsStep_50 hX r0 v2 k0 (by omega) σ hf hk)
noncomputable def f_X4_readsStep (r0 : Nat) (σ : am_H) : Option (Bool × am_H) :=
  (f_X4_deedOf σ).bind fun p1 =>
  if p1 = (-1) then
   ((f_X5_refuse 2 σ).bind fun p3 =>
   some (p3.1, p3.2))
  else
  if p1 = 4 then
   (f_X4_readsStep_31 r0 p1 true σ)
  else
  if p1 = 5 then
   (f_X4_readsStep_31 r0 p1 true σ)
  else
  f_X4_readsStep_31 r0 p1 false σ
set_option maxRecDepth 100000 in
set_option maxHeartbeats 4000000 in
theorem q_X4_readsStep {X : am_X} (hX : am_wC X) {Q : Option Value → am_H → Prop} (r0 : Nat) (hr0 : r0 < 2) (σ : am_H) {o : Bool × am_H} (hf : f_X4_readsStep r0 σ = some o) (hk : Q (some (.int (am_b o.1))) o.2) : am_G X gm_X4_readsStep Q 0 [(0, .ref (am_ad X 4 r0)), (1, .ref (am_ad X 5 0))] [] σ := by
  unfold f_X4_readsStep at hf
  refine g_aload_n (pc := 0) 1 rfl dX4_readsStep_0 rfl ?_
  obtain ⟨p1, hp1, hf⟩ := am_bd hf
  refine g_cS (pc := 1) (As := [.ref (am_ad X 5 0)]) (st := []) (st1 := [.int p1]) mS_X4_deedOf ln_X4_66 rfl (Nat.le_of_ble_eq_true rfl) (Nat.le_of_ble_eq_true rfl) (k_X4_deedOf hX σ hp1) dX4_readsStep_1 rfl rfl ?_
  refine g_istore_n (pc := 4) [(2, .int p1), (0, .ref (am_ad X 4 r0)), (1, .ref (am_ad X 5 0))] dX4_readsStep_4 rfl (Nat.le_of_ble_eq_true rfl) rfl ?_
  refine g_iload_n (pc := 5) 0 rfl dX4_readsStep_5 rfl ?_
  refine g_iconst (pc := 6) (v := (-1)) dX4_readsStep_6 (by decide) ?_
  refine bi_ne (pc := 7) 16 dX4_readsStep_7 rfl (fun c2 => ?_) (fun c2 => ?_)
  · replace hf := am_ifT c2 hf
    refine g_aload_n (pc := 10) 2 rfl dX4_readsStep_10 rfl ?_
    refine g_iconst (pc := 11) (v := 2) dX4_readsStep_11 (by decide) ?_
    obtain ⟨p3, hp3, hf⟩ := am_bd hf
    refine g_cV (pc := 12) (As := [.int 2]) (st := []) (st1 := [.int (am_b p3.1)]) (in_5 hX.1 (by omega)) kk_5 mV_X5_refuse ln_X4_43 rfl (Nat.le_of_ble_eq_true rfl) (Nat.le_of_ble_eq_true rfl) (k_X5_refuse hX 2 σ hp3) dX4_readsStep_12 rfl rfl ?_
    have ho := Option.some.inj hf
    subst ho
    exact g_zreturn (pc := 15) (st := []) (x := p3.1) rfl dX4_readsStep_15 hk
  replace hf := am_ifF c2 hf
  refine g_iload_n (pc := 16) 0 rfl dX4_readsStep_16 rfl ?_
  refine g_iconst (pc := 17) (v := 4) dX4_readsStep_17 (by decide) ?_
  refine bi_eq (pc := 18) 26 dX4_readsStep_18 rfl (fun c4 => ?_) (fun c4 => ?_)
  · replace hf := am_ifT c4 hf
    refine g_iconst (pc := 26) (v := 1) dX4_readsStep_26 (by decide) ?_
    refine g_goto (pc := 27) 31 dX4_readsStep_27 rfl ?_
    exact am_sub [1, 2, 0] rfl (q_X4_readsStep_31 hX r0 p1 true (by omega) σ hf hk)
  replace hf := am_ifF c4 hf
  refine g_iload_n (pc := 21) 0 rfl dX4_readsStep_21 rfl ?_
  refine g_iconst (pc := 22) (v := 5) dX4_readsStep_22 (by decide) ?_
  refine bi_ne (pc := 23) 30 dX4_readsStep_23 rfl (fun c5 => ?_) (fun c5 => ?_)
  · replace hf := am_ifT c5 hf
    refine g_iconst (pc := 26) (v := 1) dX4_readsStep_26 (by decide) ?_
    refine g_goto (pc := 27) 31 dX4_readsStep_27 rfl ?_
    exact am_sub [1, 2, 0] rfl (q_X4_readsStep_31 hX r0 p1 true (by omega) σ hf hk)
  replace hf := am_ifF c5 hf
  refine g_iconst (pc := 30) (v := 0) dX4_readsStep_30 (by decide) ?_
  exact am_sub [1, 2, 0] rfl (q_X4_readsStep_31 hX r0 p1 false (by omega) σ hf hk)
theorem k_X4_readsStep {X : am_X} (hX : am_wC X) (r0 : Nat) (hr0 : r0 < 2) (σ : am_H) {o : Bool × am_H} (hf : f_X4_readsStep r0 σ = some o) : am_C X gm_X4_readsStep [.ref (am_ad X 4 r0), .ref (am_ad X 5 0)] σ (am_is (some (.int (am_b o.1))) o.2) :=
  am_ofG rfl (Nat.le_of_ble_eq_true rfl) rfl (q_X4_readsStep hX r0 hr0 σ hf ⟨rfl, rfl⟩)
theorem dX4_readFrom_0 : decode cX4_readFrom 0 = .ok (.aload_n 0, 1) := by decide +kernel
theorem dX4_readFrom_1 : decode cX4_readFrom 1 = .ok (.iconst 0, 1) := by decide +kernel
theorem dX4_readFrom_2 : decode cX4_readFrom 2 = .ok (.putfield 27, 3) := by decide +kernel
theorem dX4_readFrom_5 : decode cX4_readFrom 5 = .ok (.aload_n 0, 1) := by decide +kernel
theorem dX4_readFrom_6 : decode cX4_readFrom 6 = .ok (.iconst 0, 1) := by decide +kernel
theorem dX4_readFrom_7 : decode cX4_readFrom 7 = .ok (.putfield 31, 3) := by decide +kernel
theorem dX4_readFrom_10 : decode cX4_readFrom 10 = .ok (.aload_n 0, 1) := by decide +kernel
theorem dX4_readFrom_11 : decode cX4_readFrom 11 = .ok (.iconst 0, 1) := by decide +kernel
theorem dX4_readFrom_12 : decode cX4_readFrom 12 = .ok (.putfield 34, 3) := by decide +kernel
theorem dX4_readFrom_15 : decode cX4_readFrom 15 = .ok (.iconst 0, 1) := by decide +kernel
theorem dX4_readFrom_16 : decode cX4_readFrom 16 = .ok (.istore_n 2, 1) := by decide +kernel
theorem dX4_readFrom_17 : decode cX4_readFrom 17 = .ok (.iload_n 2, 1) := by decide +kernel
theorem dX4_readFrom_18 : decode cX4_readFrom 18 = .ok (.bipush 80, 2) := by decide +kernel
theorem dX4_readFrom_20 : decode cX4_readFrom 20 = .ok (.if_icmp .gt 66, 3) := by decide +kernel
theorem dX4_readFrom_23 : decode cX4_readFrom 23 = .ok (.aload_n 1, 1) := by decide +kernel
theorem dX4_readFrom_24 : decode cX4_readFrom 24 = .ok (.invokevirtual 37, 3) := by decide +kernel
theorem dX4_readFrom_27 : decode cX4_readFrom 27 = .ok (.ifCond .eq 24, 3) := by decide +kernel
theorem dX4_readFrom_30 : decode cX4_readFrom 30 = .ok (.aload_n 0, 1) := by decide +kernel
theorem dX4_readFrom_31 : decode cX4_readFrom 31 = .ok (.getfield 34, 3) := by decide +kernel
theorem dX4_readFrom_34 : decode cX4_readFrom 34 = .ok (.ifCond .eq 11, 3) := by decide +kernel
theorem dX4_readFrom_37 : decode cX4_readFrom 37 = .ok (.aload_n 1, 1) := by decide +kernel
theorem dX4_readFrom_38 : decode cX4_readFrom 38 = .ok (.iconst 2, 1) := by decide +kernel
theorem dX4_readFrom_39 : decode cX4_readFrom 39 = .ok (.invokevirtual 43, 3) := by decide +kernel
theorem dX4_readFrom_42 : decode cX4_readFrom 42 = .ok (.ifCond .eq 7, 3) := by decide +kernel
theorem dX4_readFrom_45 : decode cX4_readFrom 45 = .ok (.iconst 1, 1) := by decide +kernel
theorem dX4_readFrom_46 : decode cX4_readFrom 46 = .ok (.goto 4, 3) := by decide +kernel
theorem dX4_readFrom_49 : decode cX4_readFrom 49 = .ok (.iconst 0, 1) := by decide +kernel
theorem dX4_readFrom_50 : decode cX4_readFrom 50 = .ok (.ireturn, 1) := by decide +kernel
theorem dX4_readFrom_51 : decode cX4_readFrom 51 = .ok (.aload_n 1, 1) := by decide +kernel
theorem dX4_readFrom_52 : decode cX4_readFrom 52 = .ok (.ldc 47, 2) := by decide +kernel
theorem dX4_readFrom_54 : decode cX4_readFrom 54 = .ok (.invokevirtual 49, 3) := by decide +kernel
theorem dX4_readFrom_57 : decode cX4_readFrom 57 = .ok (.ifCond .eq 11, 3) := by decide +kernel
theorem dX4_readFrom_60 : decode cX4_readFrom 60 = .ok (.aload_n 0, 1) := by decide +kernel
theorem dX4_readFrom_61 : decode cX4_readFrom 61 = .ok (.aload_n 1, 1) := by decide +kernel
theorem dX4_readFrom_62 : decode cX4_readFrom 62 = .ok (.invokevirtual 53, 3) := by decide +kernel
theorem dX4_readFrom_65 : decode cX4_readFrom 65 = .ok (.goto 8, 3) := by decide +kernel
theorem dX4_readFrom_68 : decode cX4_readFrom 68 = .ok (.aload_n 0, 1) := by decide +kernel
theorem dX4_readFrom_69 : decode cX4_readFrom 69 = .ok (.aload_n 1, 1) := by decide +kernel
theorem dX4_readFrom_70 : decode cX4_readFrom 70 = .ok (.invokevirtual 57, 3) := by decide +kernel
theorem dX4_readFrom_73 : decode cX4_readFrom 73 = .ok (.istore_n 3, 1) := by decide +kernel
theorem dX4_readFrom_74 : decode cX4_readFrom 74 = .ok (.iload_n 3, 1) := by decide +kernel
theorem dX4_readFrom_75 : decode cX4_readFrom 75 = .ok (.ifCond .ne 5, 3) := by decide +kernel
theorem dX4_readFrom_78 : decode cX4_readFrom 78 = .ok (.iconst 0, 1) := by decide +kernel
theorem dX4_readFrom_79 : decode cX4_readFrom 79 = .ok (.ireturn, 1) := by decide +kernel
theorem dX4_readFrom_80 : decode cX4_readFrom 80 = .ok (.iinc 2 1, 3) := by decide +kernel
theorem dX4_readFrom_83 : decode cX4_readFrom 83 = .ok (.goto (-66), 3) := by decide +kernel
theorem dX4_readFrom_86 : decode cX4_readFrom 86 = .ok (.aload_n 1, 1) := by decide +kernel
theorem dX4_readFrom_87 : decode cX4_readFrom 87 = .ok (.bipush 6, 2) := by decide +kernel
theorem dX4_readFrom_89 : decode cX4_readFrom 89 = .ok (.invokevirtual 43, 3) := by decide +kernel
theorem dX4_readFrom_92 : decode cX4_readFrom 92 = .ok (.ireturn, 1) := by decide +kernel
noncomputable def f_X4_readFrom_73 (r0 : Nat) (v2 : Int32) (k0 : Bool) (σ : am_H) : Option ((Int32 × am_H) ⊕ ((am_H) ⊕ ((am_H) ⊕ (am_H)))) :=
  if k0 = true then
   (some (.inl ((v2 + 1), σ)))
  else
  some (.inr (.inr (.inl σ)))
set_option maxRecDepth 100000 in
set_option maxHeartbeats 4000000 in
theorem q_X4_readFrom_73 {X : am_X} (hX : am_wC X) {Q : Option Value → am_H → Prop} (r0 : Nat) (v2 : Int32) (k0 : Bool) (hr0 : r0 < 2) (σ : am_H) {o : (Int32 × am_H) ⊕ ((am_H) ⊕ ((am_H) ⊕ (am_H)))} (hf : f_X4_readFrom_73 r0 v2 k0 σ = some o) (hk0 : ∀ s, o = .inl s → am_G X gm_X4_readFrom Q 17 [(0, .ref (am_ad X 4 r0)), (1, .ref (am_ad X 5 0)), (2, .int s.1)] [] s.2) (hk1 : ∀ t, o = .inr (.inl t) → am_G X gm_X4_readFrom Q 30 [(0, .ref (am_ad X 4 r0)), (1, .ref (am_ad X 5 0))] [] t) (hk2 : ∀ t, o = .inr (.inr (.inl t)) → am_G X gm_X4_readFrom Q 78 [] [] t) (hk3 : ∀ t, o = .inr (.inr (.inr t)) → am_G X gm_X4_readFrom Q 86 [(1, .ref (am_ad X 5 0))] [] t) : am_G X gm_X4_readFrom Q 73 [(0, .ref (am_ad X 4 r0)), (1, .ref (am_ad X 5 0)), (2, .int v2)] [.int (am_b k0)] σ := by
  unfold f_X4_readFrom_73 at hf
  refine g_istore_n (pc := 73) [(3, .int (am_b k0)), (0, .ref (am_ad X 4 r0)), (1, .ref (am_ad X 5 0)), (2, .int v2)] dX4_readFrom_73 rfl (Nat.le_of_ble_eq_true rfl) rfl ?_
  refine g_iload_n (pc := 74) 0 rfl dX4_readFrom_74 rfl ?_
  refine bt_ne (pc := 75) 80 dX4_readFrom_75 rfl (fun c1 => ?_) (fun c1 => ?_)
  · replace hf := am_ifT c1 hf
    refine g_iinc (pc := 80) (v := (v2 + 1)) 3 [(2, .int (v2 + 1)), (3, .int (am_b k0)), (0, .ref (am_ad X 4 r0)), (1, .ref (am_ad X 5 0))] dX4_readFrom_80 rfl rfl (Nat.le_of_ble_eq_true rfl) rfl ?_
    refine g_goto (pc := 83) 17 dX4_readFrom_83 rfl ?_
    have hz := hk0 _ (Option.some.inj hf).symm
    exact am_sub [2, 3, 0] rfl hz
  replace hf := am_ifF c1 hf
  have hz := hk2 _ (Option.some.inj hf).symm
  exact am_sub [] rfl hz
noncomputable def f_X4_readFrom_17 (r0 : Nat) (v2 : Int32) (σ : am_H) : Option ((Int32 × am_H) ⊕ ((am_H) ⊕ ((am_H) ⊕ (am_H)))) :=
  if 80 < v2 then
   (some (.inr (.inr (.inr σ))))
  else
  (f_X5_isAtEnd σ).bind fun p2 =>
  if p2 = true then
   (some (.inr (.inl σ)))
  else
  (f_X5_isWord 10 σ).bind fun p4 =>
  if p4 = true then
   ((f_X4_readsEnd r0 σ).bind fun p6 =>
   f_X4_readFrom_73 r0 v2 p6.1 p6.2)
  else
  (f_X4_readsStep r0 σ).bind fun p7 =>
  f_X4_readFrom_73 r0 v2 p7.1 p7.2
set_option maxRecDepth 100000 in
set_option maxHeartbeats 4000000 in
theorem q_X4_readFrom_17 {X : am_X} (hX : am_wC X) {Q : Option Value → am_H → Prop} (r0 : Nat) (v2 : Int32) (hr0 : r0 < 2) (σ : am_H) {o : (Int32 × am_H) ⊕ ((am_H) ⊕ ((am_H) ⊕ (am_H)))} (hf : f_X4_readFrom_17 r0 v2 σ = some o) (hk0 : ∀ s, o = .inl s → am_G X gm_X4_readFrom Q 17 [(0, .ref (am_ad X 4 r0)), (1, .ref (am_ad X 5 0)), (2, .int s.1)] [] s.2) (hk1 : ∀ t, o = .inr (.inl t) → am_G X gm_X4_readFrom Q 30 [(0, .ref (am_ad X 4 r0)), (1, .ref (am_ad X 5 0))] [] t) (hk2 : ∀ t, o = .inr (.inr (.inl t)) → am_G X gm_X4_readFrom Q 78 [] [] t) (hk3 : ∀ t, o = .inr (.inr (.inr t)) → am_G X gm_X4_readFrom Q 86 [(1, .ref (am_ad X 5 0))] [] t) : am_G X gm_X4_readFrom Q 17 [(0, .ref (am_ad X 4 r0)), (1, .ref (am_ad X 5 0)), (2, .int v2)] [] σ := by
  unfold f_X4_readFrom_17 at hf
  refine g_iload_n (pc := 17) 2 rfl dX4_readFrom_17 rfl ?_
  refine g_bipush (pc := 18) (v := 80) dX4_readFrom_18 (by decide) ?_
  refine bi_gt (pc := 20) 86 dX4_readFrom_20 rfl (fun c1 => ?_) (fun c1 => ?_)
  · replace hf := am_ifT c1 hf
    have hz := hk3 _ (Option.some.inj hf).symm
    exact am_sub [1] rfl hz
  replace hf := am_ifF c1 hf
  refine g_aload_n (pc := 23) 1 rfl dX4_readFrom_23 rfl ?_
  obtain ⟨p2, hp2, hf⟩ := am_bd hf
  refine g_cV (pc := 24) (As := []) (st := []) (st1 := [.int (am_b p2)]) (in_5 hX.1 (by omega)) kk_5 mV_X5_isAtEnd ln_X4_37 rfl (Nat.le_of_ble_eq_true rfl) (Nat.le_of_ble_eq_true rfl) (k_X5_isAtEnd hX σ hp2) dX4_readFrom_24 rfl rfl ?_
  refine bt_eq (pc := 27) 51 dX4_readFrom_27 rfl (fun c3 => ?_) (fun c3 => ?_)
  · replace hf := am_ifT c3 hf
    have hz := hk1 _ (Option.some.inj hf).symm
    exact am_sub [0, 1] rfl hz
  replace hf := am_ifF c3 hf
  refine g_aload_n (pc := 51) 1 rfl dX4_readFrom_51 rfl ?_
  refine g_ldcS (pc := 52) 20 hX.2 rfl dX4_readFrom_52 ?_
  obtain ⟨p4, hp4, hf⟩ := am_bd hf
  refine g_cV (pc := 54) (As := [.ref (am_kK X 10)]) (st := []) (st1 := [.int (am_b p4)]) (in_5 hX.1 (by omega)) kk_5 mV_X5_isWord ln_X4_49 rfl (Nat.le_of_ble_eq_true rfl) (Nat.le_of_ble_eq_true rfl) (k_X5_isWord hX 10 (by first | assumption | decide) σ hp4) dX4_readFrom_54 rfl rfl ?_
  refine bt_eq (pc := 57) 68 dX4_readFrom_57 rfl (fun c5 => ?_) (fun c5 => ?_)
  · replace hf := am_ifT c5 hf
    refine g_aload_n (pc := 60) 0 rfl dX4_readFrom_60 rfl ?_
    refine g_aload_n (pc := 61) 1 rfl dX4_readFrom_61 rfl ?_
    obtain ⟨p6, hp6, hf⟩ := am_bd hf
    refine g_cV (pc := 62) (As := [.ref (am_ad X 5 0)]) (st := []) (st1 := [.int (am_b p6.1)]) (in_4 hX.1 (by omega)) kk_4 mV_X4_readsEnd ln_X4_53 rfl (Nat.le_of_ble_eq_true rfl) (Nat.le_of_ble_eq_true rfl) (k_X4_readsEnd hX r0 (by omega) σ hp6) dX4_readFrom_62 rfl rfl ?_
    refine g_goto (pc := 65) 73 dX4_readFrom_65 rfl ?_
    exact q_X4_readFrom_73 hX r0 v2 p6.1 (by omega) p6.2 hf hk0 hk1 hk2 hk3
  replace hf := am_ifF c5 hf
  refine g_aload_n (pc := 68) 0 rfl dX4_readFrom_68 rfl ?_
  refine g_aload_n (pc := 69) 1 rfl dX4_readFrom_69 rfl ?_
  obtain ⟨p7, hp7, hf⟩ := am_bd hf
  refine g_cV (pc := 70) (As := [.ref (am_ad X 5 0)]) (st := []) (st1 := [.int (am_b p7.1)]) (in_4 hX.1 (by omega)) kk_4 mV_X4_readsStep ln_X4_57 rfl (Nat.le_of_ble_eq_true rfl) (Nat.le_of_ble_eq_true rfl) (k_X4_readsStep hX r0 (by omega) σ hp7) dX4_readFrom_70 rfl rfl ?_
  exact q_X4_readFrom_73 hX r0 v2 p7.1 (by omega) p7.2 hf hk0 hk1 hk2 hk3
set_option maxRecDepth 100000 in
set_option maxHeartbeats 4000000 in
theorem l_X4_readFrom_17 {X : am_X} (hX : am_wC X) {Q : Option Value → am_H → Prop} (r0 : Nat) (hr0 : r0 < 2) (σ : am_H) (s : Int32 × am_H) {o : (am_H) ⊕ ((am_H) ⊕ (am_H))} (hf : am_loop (fun s => f_X4_readFrom_17 r0 s.1 s.2) s = some o) (hk1 : ∀ t, o = (.inl t) → am_G X gm_X4_readFrom Q 30 [(0, .ref (am_ad X 4 r0)), (1, .ref (am_ad X 5 0))] [] t) (hk2 : ∀ t, o = (.inr (.inl t)) → am_G X gm_X4_readFrom Q 78 [] [] t) (hk3 : ∀ t, o = (.inr (.inr t)) → am_G X gm_X4_readFrom Q 86 [(1, .ref (am_ad X 5 0))] [] t) : am_G X gm_X4_readFrom Q 17 [(0, .ref (am_ad X 4 r0)), (1, .ref (am_ad X 5 0)), (2, .int s.1)] [] s.2 := by
  refine am_loop_ind (P := fun s => am_G X gm_X4_readFrom Q 17 [(0, .ref (am_ad X 4 r0)), (1, .ref (am_ad X 5 0)), (2, .int s.1)] [] s.2) (K := fun r => r = o) ?_ hf rfl
  intro s o1 hb hi hr
  exact q_X4_readFrom_17 hX r0 s.1  hr0 s.2 hb hi (fun t e => hk1 t (hr _ e).symm) (fun t e => hk2 t (hr _ e).symm) (fun t e => hk3 t (hr _ e).symm)
noncomputable def f_X4_readFrom (r0 : Nat) (σ : am_H) : Option (Bool × am_H) :=
  (some (am_wI σ 4 r0 4 0)).bind fun s1 =>
  (some (am_wI s1 4 r0 5 0)).bind fun s2 =>
  (some (am_wI s2 4 r0 7 0)).bind fun s3 =>
  (am_loop (fun s => f_X4_readFrom_17 r0 s.1 s.2) (0, s3)).bind fun w4 =>
  Sum.elim (fun t4_0 =>
   if (t4_0.1 4 r0 7) = 0 then
    (some (true, t4_0))
   else
   (f_X5_refuse 2 t4_0).bind fun p6 =>
   if p6.1 = true then
    (some (true, p6.2))
   else
   some (false, p6.2)) (fun u4_0 =>
   Sum.elim (fun t4_1 =>
    some (false, t4_1)) (fun u4_1 =>
    (f_X5_refuse 6 u4_1).bind fun p8 =>
    some (p8.1, p8.2)) u4_0) w4
set_option maxRecDepth 100000 in
set_option maxHeartbeats 4000000 in
theorem q_X4_readFrom {X : am_X} (hX : am_wC X) {Q : Option Value → am_H → Prop} (r0 : Nat) (hr0 : r0 < 2) (σ : am_H) {o : Bool × am_H} (hf : f_X4_readFrom r0 σ = some o) (hk : Q (some (.int (am_b o.1))) o.2) : am_G X gm_X4_readFrom Q 0 [(0, .ref (am_ad X 4 r0)), (1, .ref (am_ad X 5 0))] [] σ := by
  unfold f_X4_readFrom at hf
  refine g_aload_n (pc := 0) 0 rfl dX4_readFrom_0 rfl ?_
  refine g_iconst (pc := 1) (v := 0) dX4_readFrom_1 (by decide) ?_
  obtain ⟨s1, hs1, hf⟩ := am_bd hf
  refine g_setI (pc := 2) (in_4 hX.1 (by omega)) fr_X4_27 dX4_readFrom_2 (Option.some.inj hs1) ?_
  refine g_aload_n (pc := 5) 0 rfl dX4_readFrom_5 rfl ?_
  refine g_iconst (pc := 6) (v := 0) dX4_readFrom_6 (by decide) ?_
  obtain ⟨s2, hs2, hf⟩ := am_bd hf
  refine g_setI (pc := 7) (in_4 hX.1 (by omega)) fr_X4_31 dX4_readFrom_7 (Option.some.inj hs2) ?_
  refine g_aload_n (pc := 10) 0 rfl dX4_readFrom_10 rfl ?_
  refine g_iconst (pc := 11) (v := 0) dX4_readFrom_11 (by decide) ?_
  obtain ⟨s3, hs3, hf⟩ := am_bd hf
  refine g_setI (pc := 12) (in_4 hX.1 (by omega)) fr_X4_34 dX4_readFrom_12 (Option.some.inj hs3) ?_
  refine g_iconst (pc := 15) (v := 0) dX4_readFrom_15 (by decide) ?_
  refine g_istore_n (pc := 16) [(2, .int 0), (0, .ref (am_ad X 4 r0)), (1, .ref (am_ad X 5 0))] dX4_readFrom_16 rfl (Nat.le_of_ble_eq_true rfl) rfl ?_
  obtain ⟨w4, hw4, hf⟩ := am_bd hf
  refine am_sub [1, 2, 0] rfl (l_X4_readFrom_17 hX r0 (by omega) s3 (0, s3) hw4 ?_ ?_ ?_)
  · intro t4_0 e
    subst e
    replace hf := am_elL hf
    refine g_aload_n (pc := 30) 0 rfl dX4_readFrom_30 rfl ?_
    refine g_getI (pc := 31) (in_4 hX.1 (by omega)) fr_X4_34 dX4_readFrom_31 ?_
    refine bz_eq (pc := 34) 45 dX4_readFrom_34 rfl (fun c5 => ?_) (fun c5 => ?_)
    · replace hf := am_ifT c5 hf
      refine g_iconst (pc := 45) (v := 1) dX4_readFrom_45 (by decide) ?_
      refine g_goto (pc := 46) 50 dX4_readFrom_46 rfl ?_
      have ho := Option.some.inj hf
      subst ho
      exact g_zreturn (pc := 50) (st := []) (x := true) rfl dX4_readFrom_50 hk
    replace hf := am_ifF c5 hf
    refine g_aload_n (pc := 37) 1 rfl dX4_readFrom_37 rfl ?_
    refine g_iconst (pc := 38) (v := 2) dX4_readFrom_38 (by decide) ?_
    obtain ⟨p6, hp6, hf⟩ := am_bd hf
    refine g_cV (pc := 39) (As := [.int 2]) (st := []) (st1 := [.int (am_b p6.1)]) (in_5 hX.1 (by omega)) kk_5 mV_X5_refuse ln_X4_43 rfl (Nat.le_of_ble_eq_true rfl) (Nat.le_of_ble_eq_true rfl) (k_X5_refuse hX 2 t4_0 hp6) dX4_readFrom_39 rfl rfl ?_
    refine bt_eq (pc := 42) 49 dX4_readFrom_42 rfl (fun c7 => ?_) (fun c7 => ?_)
    · replace hf := am_ifT c7 hf
      refine g_iconst (pc := 45) (v := 1) dX4_readFrom_45 (by decide) ?_
      refine g_goto (pc := 46) 50 dX4_readFrom_46 rfl ?_
      have ho := Option.some.inj hf
      subst ho
      exact g_zreturn (pc := 50) (st := []) (x := true) rfl dX4_readFrom_50 hk
    replace hf := am_ifF c7 hf
    refine g_iconst (pc := 49) (v := 0) dX4_readFrom_49 (by decide) ?_
    have ho := Option.some.inj hf
    subst ho
    exact g_zreturn (pc := 50) (st := []) (x := false) rfl dX4_readFrom_50 hk
  · intro t4_1 e
    subst e
    replace hf := am_elR hf
    replace hf := am_elL hf
    refine g_iconst (pc := 78) (v := 0) dX4_readFrom_78 (by decide) ?_
    have ho := Option.some.inj hf
    subst ho
    exact g_zreturn (pc := 79) (st := []) (x := false) rfl dX4_readFrom_79 hk
  · intro u4_1 e
    subst e
    replace hf := am_elR hf
    replace hf := am_elR hf
    refine g_aload_n (pc := 86) 0 rfl dX4_readFrom_86 rfl ?_
    refine g_bipush (pc := 87) (v := 6) dX4_readFrom_87 (by decide) ?_
    obtain ⟨p8, hp8, hf⟩ := am_bd hf
    refine g_cV (pc := 89) (As := [.int 6]) (st := []) (st1 := [.int (am_b p8.1)]) (in_5 hX.1 (by omega)) kk_5 mV_X5_refuse ln_X4_43 rfl (Nat.le_of_ble_eq_true rfl) (Nat.le_of_ble_eq_true rfl) (k_X5_refuse hX 6 u4_1 hp8) dX4_readFrom_89 rfl rfl ?_
    have ho := Option.some.inj hf
    subst ho
    exact g_zreturn (pc := 92) (st := []) (x := p8.1) rfl dX4_readFrom_92 hk
theorem k_X4_readFrom {X : am_X} (hX : am_wC X) (r0 : Nat) (hr0 : r0 < 2) (σ : am_H) {o : Bool × am_H} (hf : f_X4_readFrom r0 σ = some o) : am_C X gm_X4_readFrom [.ref (am_ad X 4 r0), .ref (am_ad X 5 0)] σ (am_is (some (.int (am_b o.1))) o.2) :=
  am_ofG rfl (Nat.le_of_ble_eq_true rfl) rfl (q_X4_readFrom hX r0 hr0 σ hf ⟨rfl, rfl⟩)
theorem dX5_append_0 : decode cX5_append 0 = .ok (.bipush 24, 2) := by decide +kernel
theorem dX5_append_2 : decode cX5_append 2 = .ok (.istore_n 2, 1) := by decide +kernel
theorem dX5_append_3 : decode cX5_append 3 = .ok (.iload_n 2, 1) := by decide +kernel
theorem dX5_append_4 : decode cX5_append 4 = .ok (.ifCond .lt 42, 3) := by decide +kernel
theorem dX5_append_7 : decode cX5_append 7 = .ok (.aload_n 0, 1) := by decide +kernel
theorem dX5_append_8 : decode cX5_append 8 = .ok (.getfield 22, 3) := by decide +kernel
theorem dX5_append_11 : decode cX5_append 11 = .ok (.sipush 600, 3) := by decide +kernel
theorem dX5_append_14 : decode cX5_append 14 = .ok (.if_icmp .ge 26, 3) := by decide +kernel
theorem dX5_append_17 : decode cX5_append 17 = .ok (.aload_n 0, 1) := by decide +kernel
theorem dX5_append_18 : decode cX5_append 18 = .ok (.getfield 9, 3) := by decide +kernel
theorem dX5_append_21 : decode cX5_append 21 = .ok (.aload_n 0, 1) := by decide +kernel
theorem dX5_append_22 : decode cX5_append 22 = .ok (.getfield 22, 3) := by decide +kernel
theorem dX5_append_25 : decode cX5_append 25 = .ok (.iload_n 1, 1) := by decide +kernel
theorem dX5_append_26 : decode cX5_append 26 = .ok (.iload_n 2, 1) := by decide +kernel
theorem dX5_append_27 : decode cX5_append 27 = .ok (.ishr, 1) := by decide +kernel
theorem dX5_append_28 : decode cX5_append 28 = .ok (.i2b, 1) := by decide +kernel
theorem dX5_append_29 : decode cX5_append 29 = .ok (.bastore, 1) := by decide +kernel
theorem dX5_append_30 : decode cX5_append 30 = .ok (.aload_n 0, 1) := by decide +kernel
theorem dX5_append_31 : decode cX5_append 31 = .ok (.dup, 1) := by decide +kernel
theorem dX5_append_32 : decode cX5_append 32 = .ok (.getfield 22, 3) := by decide +kernel
theorem dX5_append_35 : decode cX5_append 35 = .ok (.iconst 1, 1) := by decide +kernel
theorem dX5_append_36 : decode cX5_append 36 = .ok (.iadd, 1) := by decide +kernel
theorem dX5_append_37 : decode cX5_append 37 = .ok (.putfield 22, 3) := by decide +kernel
theorem dX5_append_40 : decode cX5_append 40 = .ok (.iinc 2 (-8), 3) := by decide +kernel
theorem dX5_append_43 : decode cX5_append 43 = .ok (.goto (-40), 3) := by decide +kernel
theorem dX5_append_46 : decode cX5_append 46 = .ok (.return_, 1) := by decide +kernel
noncomputable def f_X5_append_3 (v1 : Int32) (v2 : Int32) (σ : am_H) : Option ((Int32 × am_H) ⊕ (am_H)) :=
  if v2 < 0 then
   (some (.inr σ))
  else
  if (σ.1 5 0 1) < 600 then
   ((am_ix 600 (σ.1 5 0 1)).bind fun j3 =>
   (some (am_wI σ 600 0 j3 (Int8.toInt32 (Int32.toInt8 (Int8.toInt32 (Int32.toInt8 (v1 >>> (v2 &&& 31)))))))).bind fun s4 =>
   (some (am_wI s4 5 0 1 ((s4.1 5 0 1) + 1))).bind fun s5 =>
   some (.inl ((v2 + (-8)), s5)))
  else
  some (.inl ((v2 + (-8)), σ))
set_option maxRecDepth 100000 in
set_option maxHeartbeats 4000000 in
theorem q_X5_append_3 {X : am_X} (hX : am_wC X) {Q : Option Value → am_H → Prop} (v1 : Int32) (v2 : Int32) (σ : am_H) {o : (Int32 × am_H) ⊕ (am_H)} (hf : f_X5_append_3 v1 v2 σ = some o) (hk0 : ∀ s, o = .inl s → am_G X gm_X5_append Q 3 [(0, .ref (am_ad X 5 0)), (1, .int v1), (2, .int s.1)] [] s.2) (hk1 : ∀ t, o = .inr t → am_G X gm_X5_append Q 46 [] [] t) : am_G X gm_X5_append Q 3 [(0, .ref (am_ad X 5 0)), (1, .int v1), (2, .int v2)] [] σ := by
  unfold f_X5_append_3 at hf
  refine g_iload_n (pc := 3) 2 rfl dX5_append_3 rfl ?_
  refine bz_lt (pc := 4) 46 dX5_append_4 rfl (fun c1 => ?_) (fun c1 => ?_)
  · replace hf := am_ifT c1 hf
    have hz := hk1 _ (Option.some.inj hf).symm
    exact am_sub [] rfl hz
  replace hf := am_ifF c1 hf
  refine g_aload_n (pc := 7) 0 rfl dX5_append_7 rfl ?_
  refine g_getI (pc := 8) (in_5 hX.1 (by omega)) fr_X5_22 dX5_append_8 ?_
  refine g_sipush (pc := 11) (v := 600) dX5_append_11 (by decide) ?_
  refine bi_ge (pc := 14) 40 dX5_append_14 rfl (fun c2 => ?_) (fun c2 => ?_)
  · replace hf := am_ifT c2 hf
    refine g_aload_n (pc := 17) 0 rfl dX5_append_17 rfl ?_
    refine g_getC (pc := 18) (e := 0) (in_5 hX.1 (by omega)) fr_X5_9 dX5_append_18 rfl ?_
    refine g_aload_n (pc := 21) 0 rfl dX5_append_21 rfl ?_
    refine g_getI (pc := 22) (in_5 hX.1 (by omega)) fr_X5_22 dX5_append_22 ?_
    refine g_iload_n (pc := 25) 1 rfl dX5_append_25 rfl ?_
    refine g_iload_n (pc := 26) 2 rfl dX5_append_26 rfl ?_
    refine g_ishr (pc := 27) dX5_append_27 ?_
    refine g_i2b (pc := 28) dX5_append_28 ?_
    obtain ⟨j3, hj3, hf⟩ := am_bd hf
    have gj3 := am_ix_lt hj3
    obtain ⟨s4, hs4, hf⟩ := am_bd hf
    refine g_sB (pc := 29) (in_600 hX.1 (by omega)) ak_600 hj3 dX5_append_29 (Option.some.inj hs4) ?_
    refine g_aload_n (pc := 30) 0 rfl dX5_append_30 rfl ?_
    refine g_dup (pc := 31) dX5_append_31 rfl ?_
    refine g_getI (pc := 32) (in_5 hX.1 (by omega)) fr_X5_22 dX5_append_32 ?_
    refine g_iconst (pc := 35) (v := 1) dX5_append_35 (by decide) ?_
    refine g_iadd (pc := 36) dX5_append_36 ?_
    obtain ⟨s5, hs5, hf⟩ := am_bd hf
    refine g_setI (pc := 37) (in_5 hX.1 (by omega)) fr_X5_22 dX5_append_37 (Option.some.inj hs5) ?_
    refine g_iinc (pc := 40) (v := (v2 + (-8))) 2 [(2, .int (v2 + (-8))), (0, .ref (am_ad X 5 0)), (1, .int v1)] dX5_append_40 rfl rfl (Nat.le_of_ble_eq_true rfl) rfl ?_
    refine g_goto (pc := 43) 3 dX5_append_43 rfl ?_
    have hz := hk0 _ (Option.some.inj hf).symm
    exact am_sub [1, 2, 0] rfl hz
  replace hf := am_ifF c2 hf
  refine g_iinc (pc := 40) (v := (v2 + (-8))) 2 [(2, .int (v2 + (-8))), (0, .ref (am_ad X 5 0)), (1, .int v1)] dX5_append_40 rfl rfl (Nat.le_of_ble_eq_true rfl) rfl ?_
  refine g_goto (pc := 43) 3 dX5_append_43 rfl ?_
  have hz := hk0 _ (Option.some.inj hf).symm
  exact am_sub [1, 2, 0] rfl hz
set_option maxRecDepth 100000 in
set_option maxHeartbeats 4000000 in
theorem l_X5_append_3 {X : am_X} (hX : am_wC X) {Q : Option Value → am_H → Prop} (v1 : Int32) (σ : am_H) (s : Int32 × am_H) {o : am_H} (hf : am_loop (fun s => f_X5_append_3 v1 s.1 s.2) s = some o) (hk1 : ∀ t, o = t → am_G X gm_X5_append Q 46 [] [] t) : am_G X gm_X5_append Q 3 [(0, .ref (am_ad X 5 0)), (1, .int v1), (2, .int s.1)] [] s.2 := by
  refine am_loop_ind (P := fun s => am_G X gm_X5_append Q 3 [(0, .ref (am_ad X 5 0)), (1, .int v1), (2, .int s.1)] [] s.2) (K := fun r => r = o) ?_ hf rfl
  intro s o1 hb hi hr
  exact q_X5_append_3 hX v1 s.1  s.2 hb hi (fun t e => hk1 t (hr _ e).symm)
noncomputable def f_X5_append (v1 : Int32) (σ : am_H) : Option (am_H) :=
  (am_loop (fun s => f_X5_append_3 v1 s.1 s.2) (24, σ)).bind fun w1 =>
  some w1
set_option maxRecDepth 100000 in
set_option maxHeartbeats 4000000 in
theorem q_X5_append {X : am_X} (hX : am_wC X) {Q : Option Value → am_H → Prop} (v1 : Int32) (σ : am_H) {o : am_H} (hf : f_X5_append v1 σ = some o) (hk : Q none o) : am_G X gm_X5_append Q 0 [(0, .ref (am_ad X 5 0)), (1, .int v1)] [] σ := by
  unfold f_X5_append at hf
  refine g_bipush (pc := 0) (v := 24) dX5_append_0 (by decide) ?_
  refine g_istore_n (pc := 2) [(2, .int 24), (0, .ref (am_ad X 5 0)), (1, .int v1)] dX5_append_2 rfl (Nat.le_of_ble_eq_true rfl) rfl ?_
  obtain ⟨w1, hw1, hf⟩ := am_bd hf
  refine am_sub [1, 2, 0] rfl (l_X5_append_3 hX v1  σ (24, σ) hw1 ?_)
  intro t e
  subst e
  have ho := Option.some.inj hf
  subst ho
  exact g_vreturn (pc := 46) (st := []) rfl dX5_append_46 hk
theorem k_X5_append {X : am_X} (hX : am_wC X) (v1 : Int32) (σ : am_H) {o : am_H} (hf : f_X5_append v1 σ = some o) : am_C X gm_X5_append [.ref (am_ad X 5 0), .int v1] σ (am_is none o) :=
  am_ofG rfl (Nat.le_of_ble_eq_true rfl) rfl (q_X5_append hX v1 σ hf ⟨rfl, rfl⟩)
theorem dX5_empty_0 : decode cX5_empty 0 = .ok (.aload_n 0, 1) := by decide +kernel
theorem dX5_empty_1 : decode cX5_empty 1 = .ok (.iconst 0, 1) := by decide +kernel
theorem dX5_empty_2 : decode cX5_empty 2 = .ok (.putfield 22, 3) := by decide +kernel
theorem dX5_empty_5 : decode cX5_empty 5 = .ok (.return_, 1) := by decide +kernel
noncomputable def f_X5_empty (σ : am_H) : Option (am_H) :=
  (some (am_wI σ 5 0 1 0)).bind fun s1 =>
  some s1
set_option maxRecDepth 100000 in
set_option maxHeartbeats 4000000 in
theorem q_X5_empty {X : am_X} (hX : am_wC X) {Q : Option Value → am_H → Prop} (σ : am_H) {o : am_H} (hf : f_X5_empty σ = some o) (hk : Q none o) : am_G X gm_X5_empty Q 0 [(0, .ref (am_ad X 5 0))] [] σ := by
  unfold f_X5_empty at hf
  refine g_aload_n (pc := 0) 0 rfl dX5_empty_0 rfl ?_
  refine g_iconst (pc := 1) (v := 0) dX5_empty_1 (by decide) ?_
  obtain ⟨s1, hs1, hf⟩ := am_bd hf
  refine g_setI (pc := 2) (in_5 hX.1 (by omega)) fr_X5_22 dX5_empty_2 (Option.some.inj hs1) ?_
  have ho := Option.some.inj hf
  subst ho
  exact g_vreturn (pc := 5) (st := []) rfl dX5_empty_5 hk
theorem k_X5_empty {X : am_X} (hX : am_wC X) (σ : am_H) {o : am_H} (hf : f_X5_empty σ = some o) : am_C X gm_X5_empty [.ref (am_ad X 5 0)] σ (am_is none o) :=
  am_ofG rfl (Nat.le_of_ble_eq_true rfl) rfl (q_X5_empty hX σ hf ⟨rfl, rfl⟩)
theorem dX5_begin_0 : decode cX5_begin 0 = .ok (.aload_n 0, 1) := by decide +kernel
theorem dX5_begin_1 : decode cX5_begin 1 = .ok (.iconst 0, 1) := by decide +kernel
theorem dX5_begin_2 : decode cX5_begin 2 = .ok (.iload_n 1, 1) := by decide +kernel
theorem dX5_begin_3 : decode cX5_begin 3 = .ok (.aload_n 0, 1) := by decide +kernel
theorem dX5_begin_4 : decode cX5_begin 4 = .ok (.getfield 22, 3) := by decide +kernel
theorem dX5_begin_7 : decode cX5_begin 7 = .ok (.invokestatic 25, 3) := by decide +kernel
theorem dX5_begin_10 : decode cX5_begin 10 = .ok (.invokestatic 31, 3) := by decide +kernel
theorem dX5_begin_13 : decode cX5_begin 13 = .ok (.putfield 34, 3) := by decide +kernel
theorem dX5_begin_16 : decode cX5_begin 16 = .ok (.aload_n 0, 1) := by decide +kernel
theorem dX5_begin_17 : decode cX5_begin 17 = .ok (.iconst 0, 1) := by decide +kernel
theorem dX5_begin_18 : decode cX5_begin 18 = .ok (.putfield 37, 3) := by decide +kernel
theorem dX5_begin_21 : decode cX5_begin 21 = .ok (.aload_n 0, 1) := by decide +kernel
theorem dX5_begin_22 : decode cX5_begin 22 = .ok (.iconst 0, 1) := by decide +kernel
theorem dX5_begin_23 : decode cX5_begin 23 = .ok (.putfield 15, 3) := by decide +kernel
theorem dX5_begin_26 : decode cX5_begin 26 = .ok (.aload_n 0, 1) := by decide +kernel
theorem dX5_begin_27 : decode cX5_begin 27 = .ok (.iconst (-1), 1) := by decide +kernel
theorem dX5_begin_28 : decode cX5_begin 28 = .ok (.putfield 19, 3) := by decide +kernel
theorem dX5_begin_31 : decode cX5_begin 31 = .ok (.aload_n 0, 1) := by decide +kernel
theorem dX5_begin_32 : decode cX5_begin 32 = .ok (.invokevirtual 40, 3) := by decide +kernel
theorem dX5_begin_35 : decode cX5_begin 35 = .ok (.return_, 1) := by decide +kernel
noncomputable def f_X5_begin (v1 : Int32) (σ : am_H) : Option (am_H) :=
  (some (am_wI σ 5 0 2 (am_mx 0 (am_mn v1 (σ.1 5 0 1))))).bind fun s1 =>
  (some (am_wI s1 5 0 5 0)).bind fun s2 =>
  (some (am_wI s2 5 0 7 0)).bind fun s3 =>
  (some (am_wI s3 5 0 8 (-1))).bind fun s4 =>
  (f_X5_advance s4).bind fun p5 =>
  some p5
set_option maxRecDepth 100000 in
set_option maxHeartbeats 4000000 in
theorem q_X5_begin {X : am_X} (hX : am_wC X) {Q : Option Value → am_H → Prop} (v1 : Int32) (σ : am_H) {o : am_H} (hf : f_X5_begin v1 σ = some o) (hk : Q none o) : am_G X gm_X5_begin Q 0 [(0, .ref (am_ad X 5 0)), (1, .int v1)] [] σ := by
  unfold f_X5_begin at hf
  refine g_aload_n (pc := 0) 0 rfl dX5_begin_0 rfl ?_
  refine g_iconst (pc := 1) (v := 0) dX5_begin_1 (by decide) ?_
  refine g_iload_n (pc := 2) 1 rfl dX5_begin_2 rfl ?_
  refine g_aload_n (pc := 3) 0 rfl dX5_begin_3 rfl ?_
  refine g_getI (pc := 4) (in_5 hX.1 (by omega)) fr_X5_22 dX5_begin_4 ?_
  refine g_mmin (pc := 7) (Nat.le_of_ble_eq_true rfl) (Nat.le_of_ble_eq_true rfl) sp_X5_25 dX5_begin_7 ?_
  refine g_mmax (pc := 10) (Nat.le_of_ble_eq_true rfl) (Nat.le_of_ble_eq_true rfl) sp_X5_31 dX5_begin_10 ?_
  obtain ⟨s1, hs1, hf⟩ := am_bd hf
  refine g_setI (pc := 13) (in_5 hX.1 (by omega)) fr_X5_34 dX5_begin_13 (Option.some.inj hs1) ?_
  refine g_aload_n (pc := 16) 0 rfl dX5_begin_16 rfl ?_
  refine g_iconst (pc := 17) (v := 0) dX5_begin_17 (by decide) ?_
  obtain ⟨s2, hs2, hf⟩ := am_bd hf
  refine g_setI (pc := 18) (in_5 hX.1 (by omega)) fr_X5_37 dX5_begin_18 (Option.some.inj hs2) ?_
  refine g_aload_n (pc := 21) 0 rfl dX5_begin_21 rfl ?_
  refine g_iconst (pc := 22) (v := 0) dX5_begin_22 (by decide) ?_
  obtain ⟨s3, hs3, hf⟩ := am_bd hf
  refine g_setI (pc := 23) (in_5 hX.1 (by omega)) fr_X5_15 dX5_begin_23 (Option.some.inj hs3) ?_
  refine g_aload_n (pc := 26) 0 rfl dX5_begin_26 rfl ?_
  refine g_iconst (pc := 27) (v := (-1)) dX5_begin_27 (by decide) ?_
  obtain ⟨s4, hs4, hf⟩ := am_bd hf
  refine g_setI (pc := 28) (in_5 hX.1 (by omega)) fr_X5_19 dX5_begin_28 (Option.some.inj hs4) ?_
  refine g_aload_n (pc := 31) 0 rfl dX5_begin_31 rfl ?_
  obtain ⟨p5, hp5, hf⟩ := am_bd hf
  refine g_cV (pc := 32) (As := []) (st := []) (st1 := []) (in_5 hX.1 (by omega)) kk_5 mV_X5_advance ln_X5_40 rfl (Nat.le_of_ble_eq_true rfl) (Nat.le_of_ble_eq_true rfl) (k_X5_advance hX s4 hp5) dX5_begin_32 rfl rfl ?_
  have ho := Option.some.inj hf
  subst ho
  exact g_vreturn (pc := 35) (st := []) rfl dX5_begin_35 hk
theorem k_X5_begin {X : am_X} (hX : am_wC X) (v1 : Int32) (σ : am_H) {o : am_H} (hf : f_X5_begin v1 σ = some o) : am_C X gm_X5_begin [.ref (am_ad X 5 0), .int v1] σ (am_is none o) :=
  am_ofG rfl (Nat.le_of_ble_eq_true rfl) rfl (q_X5_begin hX v1 σ hf ⟨rfl, rfl⟩)
theorem dX10_hasTrain_0 : decode cX10_hasTrain 0 = .ok (.aload_n 0, 1) := by decide +kernel
theorem dX10_hasTrain_1 : decode cX10_hasTrain 1 = .ok (.getfield 38, 3) := by decide +kernel
theorem dX10_hasTrain_4 : decode cX10_hasTrain 4 = .ok (.ifCond .le 7, 3) := by decide +kernel
theorem dX10_hasTrain_7 : decode cX10_hasTrain 7 = .ok (.iconst 1, 1) := by decide +kernel
theorem dX10_hasTrain_8 : decode cX10_hasTrain 8 = .ok (.goto 4, 3) := by decide +kernel
theorem dX10_hasTrain_11 : decode cX10_hasTrain 11 = .ok (.iconst 0, 1) := by decide +kernel
theorem dX10_hasTrain_12 : decode cX10_hasTrain 12 = .ok (.ireturn, 1) := by decide +kernel
noncomputable def f_X10_hasTrain (r0 : Nat) (σ : am_H) : Option (Bool) :=
  if 0 < (σ.1 10 r0 5) then
   (some true)
  else
  some false
set_option maxRecDepth 100000 in
set_option maxHeartbeats 4000000 in
theorem q_X10_hasTrain {X : am_X} (hX : am_wC X) {Q : Option Value → am_H → Prop} (r0 : Nat) (hr0 : r0 < 18) (σ : am_H) {o : Bool} (hf : f_X10_hasTrain r0 σ = some o) (hk : Q (some (.int (am_b o))) σ) : am_G X gm_X10_hasTrain Q 0 [(0, .ref (am_ad X 10 r0))] [] σ := by
  unfold f_X10_hasTrain at hf
  refine g_aload_n (pc := 0) 0 rfl dX10_hasTrain_0 rfl ?_
  refine g_getI (pc := 1) (in_10 hX.1 (by omega)) fr_X10_38 dX10_hasTrain_1 ?_
  refine bz_le (pc := 4) 11 dX10_hasTrain_4 rfl (fun c1 => ?_) (fun c1 => ?_)
  · replace hf := am_ifT c1 hf
    refine g_iconst (pc := 7) (v := 1) dX10_hasTrain_7 (by decide) ?_
    refine g_goto (pc := 8) 12 dX10_hasTrain_8 rfl ?_
    have ho := Option.some.inj hf
    subst ho
    exact g_zreturn (pc := 12) (st := []) (x := true) rfl dX10_hasTrain_12 hk
  replace hf := am_ifF c1 hf
  refine g_iconst (pc := 11) (v := 0) dX10_hasTrain_11 (by decide) ?_
  have ho := Option.some.inj hf
  subst ho
  exact g_zreturn (pc := 12) (st := []) (x := false) rfl dX10_hasTrain_12 hk
theorem k_X10_hasTrain {X : am_X} (hX : am_wC X) (r0 : Nat) (hr0 : r0 < 18) (σ : am_H) {o : Bool} (hf : f_X10_hasTrain r0 σ = some o) : am_C X gm_X10_hasTrain [.ref (am_ad X 10 r0)] σ (am_is (some (.int (am_b o))) σ) :=
  am_ofG rfl (Nat.le_of_ble_eq_true rfl) rfl (q_X10_hasTrain hX r0 hr0 σ hf ⟨rfl, rfl⟩)
theorem dX10_offBottom_0 : decode cX10_offBottom 0 = .ok (.lload_n 1, 1) := by decide +kernel
theorem dX10_offBottom_1 : decode cX10_offBottom 1 = .ok (.aload_n 0, 1) := by decide +kernel
theorem dX10_offBottom_2 : decode cX10_offBottom 2 = .ok (.getfield 15, 3) := by decide +kernel
theorem dX10_offBottom_5 : decode cX10_offBottom 5 = .ok (.i2l, 1) := by decide +kernel
theorem dX10_offBottom_6 : decode cX10_offBottom 6 = .ok (.lmul, 1) := by decide +kernel
theorem dX10_offBottom_7 : decode cX10_offBottom 7 = .ok (.lreturn, 1) := by decide +kernel
noncomputable def f_X10_offBottom (r0 : Nat) (v1 : Int64) (σ : am_H) : Option (Int64) :=
  some (v1 * (Int32.toInt64 (σ.1 10 r0 2)))
set_option maxRecDepth 100000 in
set_option maxHeartbeats 4000000 in
theorem q_X10_offBottom {X : am_X} (hX : am_wC X) {Q : Option Value → am_H → Prop} (r0 : Nat) (v1 : Int64) (hr0 : r0 < 18) (σ : am_H) {o : Int64} (hf : f_X10_offBottom r0 v1 σ = some o) (hk : Q (some (.long o)) σ) : am_G X gm_X10_offBottom Q 0 [(0, .ref (am_ad X 10 r0)), (1, .long v1)] [] σ := by
  unfold f_X10_offBottom at hf
  refine g_lload_n (pc := 0) 1 rfl dX10_offBottom_0 rfl ?_
  refine g_aload_n (pc := 1) 0 rfl dX10_offBottom_1 rfl ?_
  refine g_getI (pc := 2) (in_10 hX.1 (by omega)) fr_X10_15 dX10_offBottom_2 ?_
  refine g_i2l (pc := 5) dX10_offBottom_5 ?_
  refine g_lmul (pc := 6) dX10_offBottom_6 ?_
  have ho := Option.some.inj hf
  subst ho
  exact g_lreturn (pc := 7) (st := []) rfl dX10_offBottom_7 hk
theorem k_X10_offBottom {X : am_X} (hX : am_wC X) (r0 : Nat) (v1 : Int64) (hr0 : r0 < 18) (σ : am_H) {o : Int64} (hf : f_X10_offBottom r0 v1 σ = some o) : am_C X gm_X10_offBottom [.ref (am_ad X 10 r0), .long v1] σ (am_is (some (.long o)) σ) :=
  am_ofG rfl (Nat.le_of_ble_eq_true rfl) rfl (q_X10_offBottom hX r0 v1 hr0 σ hf ⟨rfl, rfl⟩)
theorem dX10_offTop_0 : decode cX10_offTop 0 = .ok (.ldc2_w 44, 3) := by decide +kernel
theorem dX10_offTop_3 : decode cX10_offTop 3 = .ok (.aload_n 0, 1) := by decide +kernel
theorem dX10_offTop_4 : decode cX10_offTop 4 = .ok (.getfield 9, 3) := by decide +kernel
theorem dX10_offTop_7 : decode cX10_offTop 7 = .ok (.i2l, 1) := by decide +kernel
theorem dX10_offTop_8 : decode cX10_offTop 8 = .ok (.lmul, 1) := by decide +kernel
theorem dX10_offTop_9 : decode cX10_offTop 9 = .ok (.lload_n 3, 1) := by decide +kernel
theorem dX10_offTop_10 : decode cX10_offTop 10 = .ok (.lmul, 1) := by decide +kernel
theorem dX10_offTop_11 : decode cX10_offTop 11 = .ok (.lload_n 1, 1) := by decide +kernel
theorem dX10_offTop_12 : decode cX10_offTop 12 = .ok (.aload_n 0, 1) := by decide +kernel
theorem dX10_offTop_13 : decode cX10_offTop 13 = .ok (.getfield 15, 3) := by decide +kernel
theorem dX10_offTop_16 : decode cX10_offTop 16 = .ok (.i2l, 1) := by decide +kernel
theorem dX10_offTop_17 : decode cX10_offTop 17 = .ok (.lmul, 1) := by decide +kernel
theorem dX10_offTop_18 : decode cX10_offTop 18 = .ok (.lsub, 1) := by decide +kernel
theorem dX10_offTop_19 : decode cX10_offTop 19 = .ok (.invokestatic 54, 3) := by decide +kernel
theorem dX10_offTop_22 : decode cX10_offTop 22 = .ok (.iload 5, 2) := by decide +kernel
theorem dX10_offTop_24 : decode cX10_offTop 24 = .ok (.i2l, 1) := by decide +kernel
theorem dX10_offTop_25 : decode cX10_offTop 25 = .ok (.lmul, 1) := by decide +kernel
theorem dX10_offTop_26 : decode cX10_offTop 26 = .ok (.lreturn, 1) := by decide +kernel
noncomputable def f_X10_offTop (r0 : Nat) (v1 : Int64) (v3 : Int64) (v5 : Int32) (σ : am_H) : Option (Int64) :=
  some ((am_abL (((24 * (Int32.toInt64 (σ.1 10 r0 1))) * v3) - (v1 * (Int32.toInt64 (σ.1 10 r0 2))))) * (Int32.toInt64 v5))
set_option maxRecDepth 100000 in
set_option maxHeartbeats 4000000 in
theorem q_X10_offTop {X : am_X} (hX : am_wC X) {Q : Option Value → am_H → Prop} (r0 : Nat) (v1 : Int64) (v3 : Int64) (v5 : Int32) (hr0 : r0 < 18) (σ : am_H) {o : Int64} (hf : f_X10_offTop r0 v1 v3 v5 σ = some o) (hk : Q (some (.long o)) σ) : am_G X gm_X10_offTop Q 0 [(0, .ref (am_ad X 10 r0)), (1, .long v1), (3, .long v3), (5, .int v5)] [] σ := by
  unfold f_X10_offTop at hf
  refine g_ldc2 (pc := 0) (v := 24) (tb_4 (List.mem_of_getElem? (i := 181) (by decide +kernel))) dX10_offTop_0 ?_
  refine g_aload_n (pc := 3) 0 rfl dX10_offTop_3 rfl ?_
  refine g_getI (pc := 4) (in_10 hX.1 (by omega)) fr_X10_9 dX10_offTop_4 ?_
  refine g_i2l (pc := 7) dX10_offTop_7 ?_
  refine g_lmul (pc := 8) dX10_offTop_8 ?_
  refine g_lload_n (pc := 9) 2 rfl dX10_offTop_9 rfl ?_
  refine g_lmul (pc := 10) dX10_offTop_10 ?_
  refine g_lload_n (pc := 11) 1 rfl dX10_offTop_11 rfl ?_
  refine g_aload_n (pc := 12) 0 rfl dX10_offTop_12 rfl ?_
  refine g_getI (pc := 13) (in_10 hX.1 (by omega)) fr_X10_15 dX10_offTop_13 ?_
  refine g_i2l (pc := 16) dX10_offTop_16 ?_
  refine g_lmul (pc := 17) dX10_offTop_17 ?_
  refine g_lsub (pc := 18) dX10_offTop_18 ?_
  refine g_mabsL (pc := 19) (Nat.le_of_ble_eq_true rfl) (Nat.le_of_ble_eq_true rfl) sp_X10_54 dX10_offTop_19 ?_
  refine g_iload (pc := 22) 3 rfl dX10_offTop_22 ?_
  refine g_i2l (pc := 24) dX10_offTop_24 ?_
  refine g_lmul (pc := 25) dX10_offTop_25 ?_
  have ho := Option.some.inj hf
  subst ho
  exact g_lreturn (pc := 26) (st := []) rfl dX10_offTop_26 hk
theorem k_X10_offTop {X : am_X} (hX : am_wC X) (r0 : Nat) (v1 : Int64) (v3 : Int64) (v5 : Int32) (hr0 : r0 < 18) (σ : am_H) {o : Int64} (hf : f_X10_offTop r0 v1 v3 v5 σ = some o) : am_C X gm_X10_offTop [.ref (am_ad X 10 r0), .long v1, .long v3, .int v5] σ (am_is (some (.long o)) σ) :=
  am_ofG rfl (Nat.le_of_ble_eq_true rfl) rfl (q_X10_offTop hX r0 v1 v3 v5 hr0 σ hf ⟨rfl, rfl⟩)
theorem dX10_offThousandths_0 : decode cX10_offThousandths 0 = .ok (.aload_n 0, 1) := by decide +kernel
theorem dX10_offThousandths_1 : decode cX10_offThousandths 1 = .ok (.lload_n 3, 1) := by decide +kernel
theorem dX10_offThousandths_2 : decode cX10_offThousandths 2 = .ok (.invokevirtual 59, 3) := by decide +kernel
theorem dX10_offThousandths_5 : decode cX10_offThousandths 5 = .ok (.lstore 6, 2) := by decide +kernel
theorem dX10_offThousandths_7 : decode cX10_offThousandths 7 = .ok (.lload 6, 2) := by decide +kernel
theorem dX10_offThousandths_9 : decode cX10_offThousandths 9 = .ok (.lconst 0, 1) := by decide +kernel
theorem dX10_offThousandths_10 : decode cX10_offThousandths 10 = .ok (.lcmp, 1) := by decide +kernel
theorem dX10_offThousandths_11 : decode cX10_offThousandths 11 = .ok (.ifCond .gt 7, 3) := by decide +kernel
theorem dX10_offThousandths_14 : decode cX10_offThousandths 14 = .ok (.lconst 0, 1) := by decide +kernel
theorem dX10_offThousandths_15 : decode cX10_offThousandths 15 = .ok (.goto 18, 3) := by decide +kernel
theorem dX10_offThousandths_18 : decode cX10_offThousandths 18 = .ok (.aload_n 0, 1) := by decide +kernel
theorem dX10_offThousandths_19 : decode cX10_offThousandths 19 = .ok (.lload_n 1, 1) := by decide +kernel
theorem dX10_offThousandths_20 : decode cX10_offThousandths 20 = .ok (.lload_n 3, 1) := by decide +kernel
theorem dX10_offThousandths_21 : decode cX10_offThousandths 21 = .ok (.iload 5, 2) := by decide +kernel
theorem dX10_offThousandths_23 : decode cX10_offThousandths 23 = .ok (.invokevirtual 62, 3) := by decide +kernel
theorem dX10_offThousandths_26 : decode cX10_offThousandths 26 = .ok (.ldc2_w 66, 3) := by decide +kernel
theorem dX10_offThousandths_29 : decode cX10_offThousandths 29 = .ok (.lmul, 1) := by decide +kernel
theorem dX10_offThousandths_30 : decode cX10_offThousandths 30 = .ok (.lload 6, 2) := by decide +kernel
theorem dX10_offThousandths_32 : decode cX10_offThousandths 32 = .ok (.ldiv, 1) := by decide +kernel
theorem dX10_offThousandths_33 : decode cX10_offThousandths 33 = .ok (.lreturn, 1) := by decide +kernel
noncomputable def f_X10_offThousandths (r0 : Nat) (v1 : Int64) (v3 : Int64) (v5 : Int32) (σ : am_H) : Option (Int64) :=
  (f_X10_offBottom r0 v3 σ).bind fun p1 =>
  if 0 < p1 then
   ((f_X10_offTop r0 v1 v3 v5 σ).bind fun p3 =>
   if p1 = 0 then none else
   some ((p3 * 1000) / p1))
  else
  some 0
set_option maxRecDepth 100000 in
set_option maxHeartbeats 4000000 in
theorem q_X10_offThousandths {X : am_X} (hX : am_wC X) {Q : Option Value → am_H → Prop} (r0 : Nat) (v1 : Int64) (v3 : Int64) (v5 : Int32) (hr0 : r0 < 18) (σ : am_H) {o : Int64} (hf : f_X10_offThousandths r0 v1 v3 v5 σ = some o) (hk : Q (some (.long o)) σ) : am_G X gm_X10_offThousandths Q 0 [(0, .ref (am_ad X 10 r0)), (1, .long v1), (3, .long v3), (5, .int v5)] [] σ := by
  unfold f_X10_offThousandths at hf
  refine g_aload_n (pc := 0) 0 rfl dX10_offThousandths_0 rfl ?_
  refine g_lload_n (pc := 1) 2 rfl dX10_offThousandths_1 rfl ?_
  obtain ⟨p1, hp1, hf⟩ := am_bd hf
  refine g_cV (pc := 2) (As := [.long v3]) (st := []) (st1 := [.long p1]) (in_10 hX.1 (by omega)) kk_10 mV_X10_offBottom ln_X10_59 rfl (Nat.le_of_ble_eq_true rfl) (Nat.le_of_ble_eq_true rfl) (k_X10_offBottom hX r0 v3 (by omega) σ hp1) dX10_offThousandths_2 rfl rfl ?_
  refine g_lstore (pc := 5) [(6, .long p1), (0, .ref (am_ad X 10 r0)), (1, .long v1), (3, .long v3), (5, .int v5)] dX10_offThousandths_5 (Nat.le_of_ble_eq_true rfl) rfl ?_
  refine g_lload (pc := 7) 0 rfl dX10_offThousandths_7 ?_
  refine g_lconst (pc := 9) (v := 0) dX10_offThousandths_9 (by decide) ?_
  refine g_lcm (pc := 10) dX10_offThousandths_10 ?_
  refine bl_gt (pc := 11) 18 dX10_offThousandths_11 rfl (fun c2 => ?_) (fun c2 => ?_)
  · replace hf := am_ifT c2 hf
    refine g_aload_n (pc := 18) 1 rfl dX10_offThousandths_18 rfl ?_
    refine g_lload_n (pc := 19) 2 rfl dX10_offThousandths_19 rfl ?_
    refine g_lload_n (pc := 20) 3 rfl dX10_offThousandths_20 rfl ?_
    refine g_iload (pc := 21) 4 rfl dX10_offThousandths_21 ?_
    obtain ⟨p3, hp3, hf⟩ := am_bd hf
    refine g_cV (pc := 23) (As := [.long v1, .long v3, .int v5]) (st := []) (st1 := [.long p3]) (in_10 hX.1 (by omega)) kk_10 mV_X10_offTop ln_X10_62 rfl (Nat.le_of_ble_eq_true rfl) (Nat.le_of_ble_eq_true rfl) (k_X10_offTop hX r0 v1 v3 v5 (by omega) σ hp3) dX10_offThousandths_23 rfl rfl ?_
    refine g_ldc2 (pc := 26) (v := 1000) (tb_6 (List.mem_of_getElem? (i := 154) (by decide +kernel))) dX10_offThousandths_26 ?_
    refine g_lmul (pc := 29) dX10_offThousandths_29 ?_
    refine g_lload (pc := 30) 0 rfl dX10_offThousandths_30 ?_
    by_cases z4 : p1 = 0
    · exact absurd (am_ifT z4 hf) (by simp)
    replace hf := am_ifF z4 hf
    refine g_ldiv (pc := 32) dX10_offThousandths_32 z4 ?_
    have ho := Option.some.inj hf
    subst ho
    exact g_lreturn (pc := 33) (st := []) rfl dX10_offThousandths_33 hk
  replace hf := am_ifF c2 hf
  refine g_lconst (pc := 14) (v := 0) dX10_offThousandths_14 (by decide) ?_
  refine g_goto (pc := 15) 33 dX10_offThousandths_15 rfl ?_
  have ho := Option.some.inj hf
  subst ho
  exact g_lreturn (pc := 33) (st := []) rfl dX10_offThousandths_33 hk
theorem k_X10_offThousandths {X : am_X} (hX : am_wC X) (r0 : Nat) (v1 : Int64) (v3 : Int64) (v5 : Int32) (hr0 : r0 < 18) (σ : am_H) {o : Int64} (hf : f_X10_offThousandths r0 v1 v3 v5 σ = some o) : am_C X gm_X10_offThousandths [.ref (am_ad X 10 r0), .long v1, .long v3, .int v5] σ (am_is (some (.long o)) σ) :=
  am_ofG rfl (Nat.le_of_ble_eq_true rfl) rfl (q_X10_offThousandths hX r0 v1 v3 v5 hr0 σ hf ⟨rfl, rfl⟩)
theorem dX6_offNow_0 : decode cX6_offNow 0 = .ok (.aload_n 1, 1) := by decide +kernel
theorem dX6_offNow_1 : decode cX6_offNow 1 = .ok (.invokevirtual 55, 3) := by decide +kernel
theorem dX6_offNow_4 : decode cX6_offNow 4 = .ok (.ifCond .eq 22, 3) := by decide +kernel
theorem dX6_offNow_7 : decode cX6_offNow 7 = .ok (.aload_n 1, 1) := by decide +kernel
theorem dX6_offNow_8 : decode cX6_offNow 8 = .ok (.aload_n 1, 1) := by decide +kernel
theorem dX6_offNow_9 : decode cX6_offNow 9 = .ok (.getfield 59, 3) := by decide +kernel
theorem dX6_offNow_12 : decode cX6_offNow 12 = .ok (.aload_n 1, 1) := by decide +kernel
theorem dX6_offNow_13 : decode cX6_offNow 13 = .ok (.getfield 62, 3) := by decide +kernel
theorem dX6_offNow_16 : decode cX6_offNow 16 = .ok (.aload_n 0, 1) := by decide +kernel
theorem dX6_offNow_17 : decode cX6_offNow 17 = .ok (.getfield 13, 3) := by decide +kernel
theorem dX6_offNow_20 : decode cX6_offNow 20 = .ok (.invokevirtual 65, 3) := by decide +kernel
theorem dX6_offNow_23 : decode cX6_offNow 23 = .ok (.goto 4, 3) := by decide +kernel
theorem dX6_offNow_26 : decode cX6_offNow 26 = .ok (.lconst 0, 1) := by decide +kernel
theorem dX6_offNow_27 : decode cX6_offNow 27 = .ok (.lreturn, 1) := by decide +kernel
noncomputable def f_X6_offNow (r1 : Nat) (σ : am_H) : Option (Int64) :=
  (f_X10_hasTrain r1 σ).bind fun p1 =>
  if p1 = true then
   ((f_X10_offThousandths r1 (σ.2.1 10 r1 7) (σ.2.1 10 r1 8) (σ.1 6 0 0) σ).bind fun p3 =>
   some p3)
  else
  some 0
set_option maxRecDepth 100000 in
set_option maxHeartbeats 4000000 in
theorem q_X6_offNow {X : am_X} (hX : am_wC X) {Q : Option Value → am_H → Prop} (r1 : Nat) (hr1 : r1 < 18) (σ : am_H) {o : Int64} (hf : f_X6_offNow r1 σ = some o) (hk : Q (some (.long o)) σ) : am_G X gm_X6_offNow Q 0 [(0, .ref (am_ad X 6 0)), (1, .ref (am_ad X 10 r1))] [] σ := by
  unfold f_X6_offNow at hf
  refine g_aload_n (pc := 0) 1 rfl dX6_offNow_0 rfl ?_
  obtain ⟨p1, hp1, hf⟩ := am_bd hf
  refine g_cV (pc := 1) (As := []) (st := []) (st1 := [.int (am_b p1)]) (in_10 hX.1 (by omega)) kk_10 mV_X10_hasTrain ln_X6_55 rfl (Nat.le_of_ble_eq_true rfl) (Nat.le_of_ble_eq_true rfl) (k_X10_hasTrain hX r1 (by omega) σ hp1) dX6_offNow_1 rfl rfl ?_
  refine bt_eq (pc := 4) 26 dX6_offNow_4 rfl (fun c2 => ?_) (fun c2 => ?_)
  · replace hf := am_ifT c2 hf
    refine g_aload_n (pc := 7) 1 rfl dX6_offNow_7 rfl ?_
    refine g_aload_n (pc := 8) 1 rfl dX6_offNow_8 rfl ?_
    refine g_getJ (pc := 9) (in_10 hX.1 (by omega)) fr_X6_59 dX6_offNow_9 ?_
    refine g_aload_n (pc := 12) 1 rfl dX6_offNow_12 rfl ?_
    refine g_getJ (pc := 13) (in_10 hX.1 (by omega)) fr_X6_62 dX6_offNow_13 ?_
    refine g_aload_n (pc := 16) 0 rfl dX6_offNow_16 rfl ?_
    refine g_getI (pc := 17) (in_6 hX.1 (by omega)) fr_X6_13 dX6_offNow_17 ?_
    obtain ⟨p3, hp3, hf⟩ := am_bd hf
    refine g_cV (pc := 20) (As := [.long (σ.2.1 10 r1 7), .long (σ.2.1 10 r1 8), .int (σ.1 6 0 0)]) (st := []) (st1 := [.long p3]) (in_10 hX.1 (by omega)) kk_10 mV_X10_offThousandths ln_X6_65 rfl (Nat.le_of_ble_eq_true rfl) (Nat.le_of_ble_eq_true rfl) (k_X10_offThousandths hX r1 (σ.2.1 10 r1 7) (σ.2.1 10 r1 8) (σ.1 6 0 0) (by omega) σ hp3) dX6_offNow_20 rfl rfl ?_
    refine g_goto (pc := 23) 27 dX6_offNow_23 rfl ?_
    have ho := Option.some.inj hf
    subst ho
    exact g_lreturn (pc := 27) (st := []) rfl dX6_offNow_27 hk
  replace hf := am_ifF c2 hf
  refine g_lconst (pc := 26) (v := 0) dX6_offNow_26 (by decide) ?_
  have ho := Option.some.inj hf
  subst ho
  exact g_lreturn (pc := 27) (st := []) rfl dX6_offNow_27 hk
theorem k_X6_offNow {X : am_X} (hX : am_wC X) (r1 : Nat) (hr1 : r1 < 18) (σ : am_H) {o : Int64} (hf : f_X6_offNow r1 σ = some o) : am_C X gm_X6_offNow [.ref (am_ad X 6 0), .ref (am_ad X 10 r1)] σ (am_is (some (.long o)) σ) :=
  am_ofG rfl (Nat.le_of_ble_eq_true rfl) rfl (q_X6_offNow hX r1 hr1 σ hf ⟨rfl, rfl⟩)
theorem dX6_sumOff_0 : decode cX6_sumOff 0 = .ok (.lconst 0, 1) := by decide +kernel
theorem dX6_sumOff_1 : decode cX6_sumOff 1 = .ok (.lstore_n 2, 1) := by decide +kernel
theorem dX6_sumOff_2 : decode cX6_sumOff 2 = .ok (.iconst 0, 1) := by decide +kernel
theorem dX6_sumOff_3 : decode cX6_sumOff 3 = .ok (.istore 4, 2) := by decide +kernel
theorem dX6_sumOff_5 : decode cX6_sumOff 5 = .ok (.iload 4, 2) := by decide +kernel
theorem dX6_sumOff_7 : decode cX6_sumOff 7 = .ok (.aload_n 1, 1) := by decide +kernel
theorem dX6_sumOff_8 : decode cX6_sumOff 8 = .ok (.getfield 32, 3) := by decide +kernel
theorem dX6_sumOff_11 : decode cX6_sumOff 11 = .ok (.if_icmp .ge 23, 3) := by decide +kernel
theorem dX6_sumOff_14 : decode cX6_sumOff 14 = .ok (.lload_n 2, 1) := by decide +kernel
theorem dX6_sumOff_15 : decode cX6_sumOff 15 = .ok (.aload_n 0, 1) := by decide +kernel
theorem dX6_sumOff_16 : decode cX6_sumOff 16 = .ok (.aload_n 1, 1) := by decide +kernel
theorem dX6_sumOff_17 : decode cX6_sumOff 17 = .ok (.getfield 37, 3) := by decide +kernel
theorem dX6_sumOff_20 : decode cX6_sumOff 20 = .ok (.iload 4, 2) := by decide +kernel
theorem dX6_sumOff_22 : decode cX6_sumOff 22 = .ok (.aaload, 1) := by decide +kernel
theorem dX6_sumOff_23 : decode cX6_sumOff 23 = .ok (.invokevirtual 51, 3) := by decide +kernel
theorem dX6_sumOff_26 : decode cX6_sumOff 26 = .ok (.ladd, 1) := by decide +kernel
theorem dX6_sumOff_27 : decode cX6_sumOff 27 = .ok (.lstore_n 2, 1) := by decide +kernel
theorem dX6_sumOff_28 : decode cX6_sumOff 28 = .ok (.iinc 4 1, 3) := by decide +kernel
theorem dX6_sumOff_31 : decode cX6_sumOff 31 = .ok (.goto (-26), 3) := by decide +kernel
theorem dX6_sumOff_34 : decode cX6_sumOff 34 = .ok (.lload_n 2, 1) := by decide +kernel
theorem dX6_sumOff_35 : decode cX6_sumOff 35 = .ok (.lreturn, 1) := by decide +kernel
noncomputable def f_X6_sumOff_5 (r1 : Nat) (v2 : Int64) (v4 : Int32) (σ : am_H) : Option ((Int64 × Int32) ⊕ (Int64)) :=
  if v4 < (σ.1 3 r1 1) then
   ((am_ix 6 v4).bind fun j2 =>
   (f_X6_offNow (6 * r1 + j2) σ).bind fun p3 =>
   some (.inl ((v2 + p3), (v4 + 1))))
  else
  some (.inr v2)
set_option maxRecDepth 100000 in
set_option maxHeartbeats 4000000 in
theorem q_X6_sumOff_5 {X : am_X} (hX : am_wC X) {Q : Option Value → am_H → Prop} (r1 : Nat) (v2 : Int64) (v4 : Int32) (hr1 : r1 < 3) (σ : am_H) {o : (Int64 × Int32) ⊕ (Int64)} (hf : f_X6_sumOff_5 r1 v2 v4 σ = some o) (hk0 : ∀ s, o = .inl s → am_G X gm_X6_sumOff Q 5 [(0, .ref (am_ad X 6 0)), (1, .ref (am_ad X 3 r1)), (2, .long s.1), (4, .int s.2)] [] σ) (hk1 : ∀ t, o = .inr t → am_G X gm_X6_sumOff Q 34 [(2, .long t)] [] σ) : am_G X gm_X6_sumOff Q 5 [(0, .ref (am_ad X 6 0)), (1, .ref (am_ad X 3 r1)), (2, .long v2), (4, .int v4)] [] σ := by
  unfold f_X6_sumOff_5 at hf
  refine g_iload (pc := 5) 3 rfl dX6_sumOff_5 ?_
  refine g_aload_n (pc := 7) 1 rfl dX6_sumOff_7 rfl ?_
  refine g_getI (pc := 8) (in_3 hX.1 (by omega)) fr_X6_32 dX6_sumOff_8 ?_
  refine bi_ge (pc := 11) 34 dX6_sumOff_11 rfl (fun c1 => ?_) (fun c1 => ?_)
  · replace hf := am_ifT c1 hf
    refine g_lload_n (pc := 14) 2 rfl dX6_sumOff_14 rfl ?_
    refine g_aload_n (pc := 15) 0 rfl dX6_sumOff_15 rfl ?_
    refine g_aload_n (pc := 16) 1 rfl dX6_sumOff_16 rfl ?_
    refine g_getC (pc := 17) (e := r1) (in_3 hX.1 (by omega)) fr_X6_37 dX6_sumOff_17 rfl ?_
    refine g_iload (pc := 20) 3 rfl dX6_sumOff_20 ?_
    obtain ⟨j2, hj2, hf⟩ := am_bd hf
    have gj2 := am_ix_lt hj2
    refine g_aC (pc := 22) (e := (6 * r1 + j2)) (in_400 hX.1 (by omega)) ak_400 hj2 rfl dX6_sumOff_22 ?_
    obtain ⟨p3, hp3, hf⟩ := am_bd hf
    refine g_cV (pc := 23) (As := [.ref (am_ad X 10 (6 * r1 + j2))]) (st := [.long v2]) (st1 := [.long p3, .long v2]) (in_6 hX.1 (by omega)) kk_6 mV_X6_offNow ln_X6_51 rfl (Nat.le_of_ble_eq_true rfl) (Nat.le_of_ble_eq_true rfl) (k_X6_offNow hX (6 * r1 + j2) (by omega) σ hp3) dX6_sumOff_23 rfl rfl ?_
    refine g_ladd (pc := 26) dX6_sumOff_26 ?_
    refine g_lstore_n (pc := 27) [(2, .long (v2 + p3)), (0, .ref (am_ad X 6 0)), (1, .ref (am_ad X 3 r1)), (4, .int v4)] dX6_sumOff_27 rfl (Nat.le_of_ble_eq_true rfl) rfl ?_
    refine g_iinc (pc := 28) (v := (v4 + 1)) 3 [(4, .int (v4 + 1)), (2, .long (v2 + p3)), (0, .ref (am_ad X 6 0)), (1, .ref (am_ad X 3 r1))] dX6_sumOff_28 rfl rfl (Nat.le_of_ble_eq_true rfl) rfl ?_
    refine g_goto (pc := 31) 5 dX6_sumOff_31 rfl ?_
    have hz := hk0 _ (Option.some.inj hf).symm
    exact am_sub [2, 3, 1, 0] rfl hz
  replace hf := am_ifF c1 hf
  have hz := hk1 _ (Option.some.inj hf).symm
  exact am_sub [2] rfl hz
set_option maxRecDepth 100000 in
set_option maxHeartbeats 4000000 in
theorem l_X6_sumOff_5 {X : am_X} (hX : am_wC X) {Q : Option Value → am_H → Prop} (r1 : Nat) (hr1 : r1 < 3) (σ : am_H) (s : Int64 × Int32) {o : Int64} (hf : am_loop (fun s => f_X6_sumOff_5 r1 s.1 s.2 σ) s = some o) (hk1 : ∀ t, o = t → am_G X gm_X6_sumOff Q 34 [(2, .long t)] [] σ) : am_G X gm_X6_sumOff Q 5 [(0, .ref (am_ad X 6 0)), (1, .ref (am_ad X 3 r1)), (2, .long s.1), (4, .int s.2)] [] σ := by
  refine am_loop_ind (P := fun s => am_G X gm_X6_sumOff Q 5 [(0, .ref (am_ad X 6 0)), (1, .ref (am_ad X 3 r1)), (2, .long s.1), (4, .int s.2)] [] σ) (K := fun r => r = o) ?_ hf rfl
  intro s o1 hb hi hr
  exact q_X6_sumOff_5 hX r1 s.1 s.2  hr1 σ hb hi (fun t e => hk1 t (hr _ e).symm)
noncomputable def f_X6_sumOff (r1 : Nat) (σ : am_H) : Option (Int64) :=
  (am_loop (fun s => f_X6_sumOff_5 r1 s.1 s.2 σ) (0, 0)).bind fun w1 =>
  some w1
set_option maxRecDepth 100000 in
set_option maxHeartbeats 4000000 in
theorem q_X6_sumOff {X : am_X} (hX : am_wC X) {Q : Option Value → am_H → Prop} (r1 : Nat) (hr1 : r1 < 3) (σ : am_H) {o : Int64} (hf : f_X6_sumOff r1 σ = some o) (hk : Q (some (.long o)) σ) : am_G X gm_X6_sumOff Q 0 [(0, .ref (am_ad X 6 0)), (1, .ref (am_ad X 3 r1))] [] σ := by
  unfold f_X6_sumOff at hf
  refine g_lconst (pc := 0) (v := 0) dX6_sumOff_0 (by decide) ?_
  refine g_lstore_n (pc := 1) [(2, .long 0), (0, .ref (am_ad X 6 0)), (1, .ref (am_ad X 3 r1))] dX6_sumOff_1 rfl (Nat.le_of_ble_eq_true rfl) rfl ?_
  refine g_iconst (pc := 2) (v := 0) dX6_sumOff_2 (by decide) ?_
  refine g_istore (pc := 3) [(4, .int 0), (2, .long 0), (0, .ref (am_ad X 6 0)), (1, .ref (am_ad X 3 r1))] dX6_sumOff_3 (Nat.le_of_ble_eq_true rfl) rfl ?_
  obtain ⟨w1, hw1, hf⟩ := am_bd hf
  refine am_sub [2, 3, 1, 0] rfl (l_X6_sumOff_5 hX r1 (by omega) σ (0, 0) hw1 ?_)
  intro t e
  subst e
  refine g_lload_n (pc := 34) 0 rfl dX6_sumOff_34 rfl ?_
  have ho := Option.some.inj hf
  subst ho
  exact g_lreturn (pc := 35) (st := []) rfl dX6_sumOff_35 hk
theorem k_X6_sumOff {X : am_X} (hX : am_wC X) (r1 : Nat) (hr1 : r1 < 3) (σ : am_H) {o : Int64} (hf : f_X6_sumOff r1 σ = some o) : am_C X gm_X6_sumOff [.ref (am_ad X 6 0), .ref (am_ad X 3 r1)] σ (am_is (some (.long o)) σ) :=
  am_ofG rfl (Nat.le_of_ble_eq_true rfl) rfl (q_X6_sumOff hX r1 hr1 σ hf ⟨rfl, rfl⟩)
theorem dX6_offWith_0 : decode cX6_offWith 0 = .ok (.aload_n 1, 1) := by decide +kernel
theorem dX6_offWith_1 : decode cX6_offWith 1 = .ok (.aload_n 1, 1) := by decide +kernel
theorem dX6_offWith_2 : decode cX6_offWith 2 = .ok (.iload_n 2, 1) := by decide +kernel
theorem dX6_offWith_3 : decode cX6_offWith 3 = .ok (.iload_n 3, 1) := by decide +kernel
theorem dX6_offWith_4 : decode cX6_offWith 4 = .ok (.invokevirtual 69, 3) := by decide +kernel
theorem dX6_offWith_7 : decode cX6_offWith 7 = .ok (.aload_n 1, 1) := by decide +kernel
theorem dX6_offWith_8 : decode cX6_offWith 8 = .ok (.iload_n 2, 1) := by decide +kernel
theorem dX6_offWith_9 : decode cX6_offWith 9 = .ok (.iload_n 3, 1) := by decide +kernel
theorem dX6_offWith_10 : decode cX6_offWith 10 = .ok (.invokevirtual 73, 3) := by decide +kernel
theorem dX6_offWith_13 : decode cX6_offWith 13 = .ok (.aload_n 0, 1) := by decide +kernel
theorem dX6_offWith_14 : decode cX6_offWith 14 = .ok (.getfield 13, 3) := by decide +kernel
theorem dX6_offWith_17 : decode cX6_offWith 17 = .ok (.invokevirtual 65, 3) := by decide +kernel
theorem dX6_offWith_20 : decode cX6_offWith 20 = .ok (.lreturn, 1) := by decide +kernel
noncomputable def f_X6_offWith (r1 : Nat) (v2 : Int32) (v3 : Int32) (σ : am_H) : Option (Int64) :=
  (f_X10_drivingWith r1 v2 v3 σ).bind fun p1 =>
  (f_X10_drivenWith r1 v2 v3 σ).bind fun p2 =>
  (f_X10_offThousandths r1 p1 p2 (σ.1 6 0 0) σ).bind fun p3 =>
  some p3
set_option maxRecDepth 100000 in
set_option maxHeartbeats 4000000 in
theorem q_X6_offWith {X : am_X} (hX : am_wC X) {Q : Option Value → am_H → Prop} (r1 : Nat) (v2 : Int32) (v3 : Int32) (hr1 : r1 < 18) (σ : am_H) {o : Int64} (hf : f_X6_offWith r1 v2 v3 σ = some o) (hk : Q (some (.long o)) σ) : am_G X gm_X6_offWith Q 0 [(0, .ref (am_ad X 6 0)), (1, .ref (am_ad X 10 r1)), (2, .int v2), (3, .int v3)] [] σ := by
  unfold f_X6_offWith at hf
  refine g_aload_n (pc := 0) 1 rfl dX6_offWith_0 rfl ?_
  refine g_aload_n (pc := 1) 1 rfl dX6_offWith_1 rfl ?_
  refine g_iload_n (pc := 2) 2 rfl dX6_offWith_2 rfl ?_
  refine g_iload_n (pc := 3) 3 rfl dX6_offWith_3 rfl ?_
  obtain ⟨p1, hp1, hf⟩ := am_bd hf
  refine g_cV (pc := 4) (As := [.int v2, .int v3]) (st := [.ref (am_ad X 10 r1)]) (st1 := [.long p1, .ref (am_ad X 10 r1)]) (in_10 hX.1 (by omega)) kk_10 mV_X10_drivingWith ln_X6_69 rfl (Nat.le_of_ble_eq_true rfl) (Nat.le_of_ble_eq_true rfl) (k_X10_drivingWith hX r1 v2 v3 (by omega) σ hp1) dX6_offWith_4 rfl rfl ?_
  refine g_aload_n (pc := 7) 1 rfl dX6_offWith_7 rfl ?_
  refine g_iload_n (pc := 8) 2 rfl dX6_offWith_8 rfl ?_
  refine g_iload_n (pc := 9) 3 rfl dX6_offWith_9 rfl ?_
  obtain ⟨p2, hp2, hf⟩ := am_bd hf
  refine g_cV (pc := 10) (As := [.int v2, .int v3]) (st := [.long p1, .ref (am_ad X 10 r1)]) (st1 := [.long p2, .long p1, .ref (am_ad X 10 r1)]) (in_10 hX.1 (by omega)) kk_10 mV_X10_drivenWith ln_X6_73 rfl (Nat.le_of_ble_eq_true rfl) (Nat.le_of_ble_eq_true rfl) (k_X10_drivenWith hX r1 v2 v3 (by omega) σ hp2) dX6_offWith_10 rfl rfl ?_
  refine g_aload_n (pc := 13) 0 rfl dX6_offWith_13 rfl ?_
  refine g_getI (pc := 14) (in_6 hX.1 (by omega)) fr_X6_13 dX6_offWith_14 ?_
  obtain ⟨p3, hp3, hf⟩ := am_bd hf
  refine g_cV (pc := 17) (As := [.long p1, .long p2, .int (σ.1 6 0 0)]) (st := []) (st1 := [.long p3]) (in_10 hX.1 (by omega)) kk_10 mV_X10_offThousandths ln_X6_65 rfl (Nat.le_of_ble_eq_true rfl) (Nat.le_of_ble_eq_true rfl) (k_X10_offThousandths hX r1 p1 p2 (σ.1 6 0 0) (by omega) σ hp3) dX6_offWith_17 rfl rfl ?_
  have ho := Option.some.inj hf
  subst ho
  exact g_lreturn (pc := 20) (st := []) rfl dX6_offWith_20 hk
theorem k_X6_offWith {X : am_X} (hX : am_wC X) (r1 : Nat) (v2 : Int32) (v3 : Int32) (hr1 : r1 < 18) (σ : am_H) {o : Int64} (hf : f_X6_offWith r1 v2 v3 σ = some o) : am_C X gm_X6_offWith [.ref (am_ad X 6 0), .ref (am_ad X 10 r1), .int v2, .int v3] σ (am_is (some (.long o)) σ) :=
  am_ofG rfl (Nat.le_of_ble_eq_true rfl) rfl (q_X6_offWith hX r1 v2 v3 hr1 σ hf ⟨rfl, rfl⟩)
theorem dX6_tryAll_0 : decode cX6_tryAll 0 = .ok (.aload_n 0, 1) := by decide +kernel
theorem dX6_tryAll_1 : decode cX6_tryAll 1 = .ok (.getfield 21, 3) := by decide +kernel
theorem dX6_tryAll_4 : decode cX6_tryAll 4 = .ok (.aload_n 0, 1) := by decide +kernel
theorem dX6_tryAll_5 : decode cX6_tryAll 5 = .ok (.aload_n 1, 1) := by decide +kernel
theorem dX6_tryAll_6 : decode cX6_tryAll 6 = .ok (.invokevirtual 51, 3) := by decide +kernel
theorem dX6_tryAll_9 : decode cX6_tryAll 9 = .ok (.lsub, 1) := by decide +kernel
theorem dX6_tryAll_10 : decode cX6_tryAll 10 = .ok (.lstore 5, 2) := by decide +kernel
theorem dX6_tryAll_12 : decode cX6_tryAll 12 = .ok (.iconst 0, 1) := by decide +kernel
theorem dX6_tryAll_13 : decode cX6_tryAll 13 = .ok (.istore 7, 2) := by decide +kernel
theorem dX6_tryAll_15 : decode cX6_tryAll 15 = .ok (.iload 7, 2) := by decide +kernel
theorem dX6_tryAll_17 : decode cX6_tryAll 17 = .ok (.aload_n 2, 1) := by decide +kernel
theorem dX6_tryAll_18 : decode cX6_tryAll 18 = .ok (.getfield 32, 3) := by decide +kernel
theorem dX6_tryAll_21 : decode cX6_tryAll 21 = .ok (.if_icmp .ge 138, 3) := by decide +kernel
theorem dX6_tryAll_24 : decode cX6_tryAll 24 = .ok (.aload_n 2, 1) := by decide +kernel
theorem dX6_tryAll_25 : decode cX6_tryAll 25 = .ok (.getfield 37, 3) := by decide +kernel
theorem dX6_tryAll_28 : decode cX6_tryAll 28 = .ok (.iload 7, 2) := by decide +kernel
theorem dX6_tryAll_30 : decode cX6_tryAll 30 = .ok (.aaload, 1) := by decide +kernel
theorem dX6_tryAll_31 : decode cX6_tryAll 31 = .ok (.astore 8, 2) := by decide +kernel
theorem dX6_tryAll_33 : decode cX6_tryAll 33 = .ok (.lload 5, 2) := by decide +kernel
theorem dX6_tryAll_35 : decode cX6_tryAll 35 = .ok (.aload_n 0, 1) := by decide +kernel
theorem dX6_tryAll_36 : decode cX6_tryAll 36 = .ok (.aload 8, 2) := by decide +kernel
theorem dX6_tryAll_38 : decode cX6_tryAll 38 = .ok (.invokevirtual 51, 3) := by decide +kernel
theorem dX6_tryAll_41 : decode cX6_tryAll 41 = .ok (.lsub, 1) := by decide +kernel
theorem dX6_tryAll_42 : decode cX6_tryAll 42 = .ok (.lstore 9, 2) := by decide +kernel
theorem dX6_tryAll_44 : decode cX6_tryAll 44 = .ok (.iconst 0, 1) := by decide +kernel
theorem dX6_tryAll_45 : decode cX6_tryAll 45 = .ok (.istore 11, 2) := by decide +kernel
theorem dX6_tryAll_47 : decode cX6_tryAll 47 = .ok (.iload 11, 2) := by decide +kernel
theorem dX6_tryAll_49 : decode cX6_tryAll 49 = .ok (.aload 8, 2) := by decide +kernel
theorem dX6_tryAll_51 : decode cX6_tryAll 51 = .ok (.invokevirtual 41, 3) := by decide +kernel
theorem dX6_tryAll_54 : decode cX6_tryAll 54 = .ok (.if_icmp .ge 99, 3) := by decide +kernel
theorem dX6_tryAll_57 : decode cX6_tryAll 57 = .ok (.aload_n 0, 1) := by decide +kernel
theorem dX6_tryAll_58 : decode cX6_tryAll 58 = .ok (.aload_n 1, 1) := by decide +kernel
theorem dX6_tryAll_59 : decode cX6_tryAll 59 = .ok (.iload 4, 2) := by decide +kernel
theorem dX6_tryAll_61 : decode cX6_tryAll 61 = .ok (.aload 8, 2) := by decide +kernel
theorem dX6_tryAll_63 : decode cX6_tryAll 63 = .ok (.iload 11, 2) := by decide +kernel
theorem dX6_tryAll_65 : decode cX6_tryAll 65 = .ok (.invokevirtual 76, 3) := by decide +kernel
theorem dX6_tryAll_68 : decode cX6_tryAll 68 = .ok (.invokevirtual 80, 3) := by decide +kernel
theorem dX6_tryAll_71 : decode cX6_tryAll 71 = .ok (.lstore 12, 2) := by decide +kernel
theorem dX6_tryAll_73 : decode cX6_tryAll 73 = .ok (.lload 9, 2) := by decide +kernel
theorem dX6_tryAll_75 : decode cX6_tryAll 75 = .ok (.lload 12, 2) := by decide +kernel
theorem dX6_tryAll_77 : decode cX6_tryAll 77 = .ok (.ladd, 1) := by decide +kernel
theorem dX6_tryAll_78 : decode cX6_tryAll 78 = .ok (.aload_n 0, 1) := by decide +kernel
theorem dX6_tryAll_79 : decode cX6_tryAll 79 = .ok (.aload 8, 2) := by decide +kernel
theorem dX6_tryAll_81 : decode cX6_tryAll 81 = .ok (.iload 11, 2) := by decide +kernel
theorem dX6_tryAll_83 : decode cX6_tryAll 83 = .ok (.aload_n 1, 1) := by decide +kernel
theorem dX6_tryAll_84 : decode cX6_tryAll 84 = .ok (.iload 4, 2) := by decide +kernel
theorem dX6_tryAll_86 : decode cX6_tryAll 86 = .ok (.invokevirtual 76, 3) := by decide +kernel
theorem dX6_tryAll_89 : decode cX6_tryAll 89 = .ok (.invokevirtual 80, 3) := by decide +kernel
theorem dX6_tryAll_92 : decode cX6_tryAll 92 = .ok (.ladd, 1) := by decide +kernel
theorem dX6_tryAll_93 : decode cX6_tryAll 93 = .ok (.lstore 14, 2) := by decide +kernel
theorem dX6_tryAll_95 : decode cX6_tryAll 95 = .ok (.lload 14, 2) := by decide +kernel
theorem dX6_tryAll_97 : decode cX6_tryAll 97 = .ok (.aload_n 0, 1) := by decide +kernel
theorem dX6_tryAll_98 : decode cX6_tryAll 98 = .ok (.getfield 25, 3) := by decide +kernel
theorem dX6_tryAll_101 : decode cX6_tryAll 101 = .ok (.lcmp, 1) := by decide +kernel
theorem dX6_tryAll_102 : decode cX6_tryAll 102 = .ok (.ifCond .ge 45, 3) := by decide +kernel
theorem dX6_tryAll_105 : decode cX6_tryAll 105 = .ok (.aload_n 0, 1) := by decide +kernel
theorem dX6_tryAll_106 : decode cX6_tryAll 106 = .ok (.lload 14, 2) := by decide +kernel
theorem dX6_tryAll_108 : decode cX6_tryAll 108 = .ok (.putfield 25, 3) := by decide +kernel
theorem dX6_tryAll_111 : decode cX6_tryAll 111 = .ok (.aload_n 0, 1) := by decide +kernel
theorem dX6_tryAll_112 : decode cX6_tryAll 112 = .ok (.iconst 1, 1) := by decide +kernel
theorem dX6_tryAll_113 : decode cX6_tryAll 113 = .ok (.putfield 28, 3) := by decide +kernel
theorem dX6_tryAll_116 : decode cX6_tryAll 116 = .ok (.aload_n 0, 1) := by decide +kernel
theorem dX6_tryAll_117 : decode cX6_tryAll 117 = .ok (.getfield 7, 3) := by decide +kernel
theorem dX6_tryAll_120 : decode cX6_tryAll 120 = .ok (.iconst 0, 1) := by decide +kernel
theorem dX6_tryAll_121 : decode cX6_tryAll 121 = .ok (.iload_n 3, 1) := by decide +kernel
theorem dX6_tryAll_122 : decode cX6_tryAll 122 = .ok (.iastore, 1) := by decide +kernel
theorem dX6_tryAll_123 : decode cX6_tryAll 123 = .ok (.aload_n 0, 1) := by decide +kernel
theorem dX6_tryAll_124 : decode cX6_tryAll 124 = .ok (.getfield 7, 3) := by decide +kernel
theorem dX6_tryAll_127 : decode cX6_tryAll 127 = .ok (.iconst 1, 1) := by decide +kernel
theorem dX6_tryAll_128 : decode cX6_tryAll 128 = .ok (.iload 4, 2) := by decide +kernel
theorem dX6_tryAll_130 : decode cX6_tryAll 130 = .ok (.iastore, 1) := by decide +kernel
theorem dX6_tryAll_131 : decode cX6_tryAll 131 = .ok (.aload_n 0, 1) := by decide +kernel
theorem dX6_tryAll_132 : decode cX6_tryAll 132 = .ok (.getfield 7, 3) := by decide +kernel
theorem dX6_tryAll_135 : decode cX6_tryAll 135 = .ok (.iconst 2, 1) := by decide +kernel
theorem dX6_tryAll_136 : decode cX6_tryAll 136 = .ok (.iload 7, 2) := by decide +kernel
theorem dX6_tryAll_138 : decode cX6_tryAll 138 = .ok (.iastore, 1) := by decide +kernel
theorem dX6_tryAll_139 : decode cX6_tryAll 139 = .ok (.aload_n 0, 1) := by decide +kernel
theorem dX6_tryAll_140 : decode cX6_tryAll 140 = .ok (.getfield 7, 3) := by decide +kernel
theorem dX6_tryAll_143 : decode cX6_tryAll 143 = .ok (.iconst 3, 1) := by decide +kernel
theorem dX6_tryAll_144 : decode cX6_tryAll 144 = .ok (.iload 11, 2) := by decide +kernel
theorem dX6_tryAll_146 : decode cX6_tryAll 146 = .ok (.iastore, 1) := by decide +kernel
theorem dX6_tryAll_147 : decode cX6_tryAll 147 = .ok (.iinc 11 1, 3) := by decide +kernel
theorem dX6_tryAll_150 : decode cX6_tryAll 150 = .ok (.goto (-103), 3) := by decide +kernel
theorem dX6_tryAll_153 : decode cX6_tryAll 153 = .ok (.iinc 7 1, 3) := by decide +kernel
theorem dX6_tryAll_156 : decode cX6_tryAll 156 = .ok (.goto (-141), 3) := by decide +kernel
theorem dX6_tryAll_159 : decode cX6_tryAll 159 = .ok (.return_, 1) := by decide +kernel
noncomputable def f_X6_tryAll_47 (r1 : Nat) (r2 : Nat) (v3 : Int32) (v4 : Int32) (v5 : Int64) (v7 : Int32) (r8 : Nat) (v9 : Int64) (v11 : Int32) (σ : am_H) : Option ((Int32 × am_H) ⊕ (am_H)) :=
  (f_X10_wheels r8 σ).bind fun p1 =>
  if v11 < p1 then
   ((f_X10_toothed r8 v11 σ).bind fun p3 =>
   (f_X6_offWith r1 v4 p3 σ).bind fun p4 =>
   (f_X10_toothed r1 v4 σ).bind fun p5 =>
   (f_X6_offWith r8 v11 p5 σ).bind fun p6 =>
   if ((v9 + p4) + p6) < (σ.2.1 6 0 2) then
    ((some (am_wL σ 6 0 2 ((v9 + p4) + p6))).bind fun s8 =>
    (some (am_wI s8 6 0 3 (am_b true))).bind fun s9 =>
    (am_ix 4 0).bind fun j10 =>
    (some (am_wI s9 704 0 j10 v3)).bind fun s11 =>
    (am_ix 4 1).bind fun j12 =>
    (some (am_wI s11 704 0 j12 v4)).bind fun s13 =>
    (am_ix 4 2).bind fun j14 =>
    (some (am_wI s13 704 0 j14 v7)).bind fun s15 =>
    (am_ix 4 3).bind fun j16 =>
    (some (am_wI s15 704 0 j16 v11)).bind fun s17 =>
    some (.inl ((v11 + 1), s17)))
   else
   some (.inl ((v11 + 1), σ)))
  else
  some (.inr σ)
set_option maxRecDepth 100000 in
set_option maxHeartbeats 4000000 in
theorem q_X6_tryAll_47 {X : am_X} (hX : am_wC X) {Q : Option Value → am_H → Prop} (r1 : Nat) (r2 : Nat) (v3 : Int32) (v4 : Int32) (v5 : Int64) (v7 : Int32) (r8 : Nat) (v9 : Int64) (v11 : Int32) (hr1 : r1 < 18) (hr2 : r2 < 3) (hr8 : r8 < 18) (σ : am_H) {o : (Int32 × am_H) ⊕ (am_H)} (hf : f_X6_tryAll_47 r1 r2 v3 v4 v5 v7 r8 v9 v11 σ = some o) (hk0 : ∀ s, o = .inl s → am_G X gm_X6_tryAll Q 47 [(0, .ref (am_ad X 6 0)), (1, .ref (am_ad X 10 r1)), (2, .ref (am_ad X 3 r2)), (3, .int v3), (4, .int v4), (5, .long v5), (7, .int v7), (8, .ref (am_ad X 10 r8)), (9, .long v9), (11, .int s.1)] [] s.2) (hk1 : ∀ t, o = .inr t → am_G X gm_X6_tryAll Q 153 [(0, .ref (am_ad X 6 0)), (1, .ref (am_ad X 10 r1)), (2, .ref (am_ad X 3 r2)), (3, .int v3), (4, .int v4), (5, .long v5), (7, .int v7)] [] t) : am_G X gm_X6_tryAll Q 47 [(0, .ref (am_ad X 6 0)), (1, .ref (am_ad X 10 r1)), (2, .ref (am_ad X 3 r2)), (3, .int v3), (4, .int v4), (5, .long v5), (7, .int v7), (8, .ref (am_ad X 10 r8)), (9, .long v9), (11, .int v11)] [] σ := by
  unfold f_X6_tryAll_47 at hf
  refine g_iload (pc := 47) 9 rfl dX6_tryAll_47 ?_
  refine g_aload (pc := 49) 7 rfl dX6_tryAll_49 ?_
  obtain ⟨p1, hp1, hf⟩ := am_bd hf
  refine g_cV (pc := 51) (As := []) (st := [.int v11]) (st1 := [.int p1, .int v11]) (in_10 hX.1 (by omega)) kk_10 mV_X10_wheels ln_X6_41 rfl (Nat.le_of_ble_eq_true rfl) (Nat.le_of_ble_eq_true rfl) (k_X10_wheels hX r8 (by omega) σ hp1) dX6_tryAll_51 rfl rfl ?_
  refine bi_ge (pc := 54) 153 dX6_tryAll_54 rfl (fun c2 => ?_) (fun c2 => ?_)
  · replace hf := am_ifT c2 hf
    refine g_aload_n (pc := 57) 0 rfl dX6_tryAll_57 rfl ?_
    refine g_aload_n (pc := 58) 1 rfl dX6_tryAll_58 rfl ?_
    refine g_iload (pc := 59) 4 rfl dX6_tryAll_59 ?_
    refine g_aload (pc := 61) 7 rfl dX6_tryAll_61 ?_
    refine g_iload (pc := 63) 9 rfl dX6_tryAll_63 ?_
    obtain ⟨p3, hp3, hf⟩ := am_bd hf
    refine g_cV (pc := 65) (As := [.int v11]) (st := [.int v4, .ref (am_ad X 10 r1), .ref (am_ad X 6 0)]) (st1 := [.int p3, .int v4, .ref (am_ad X 10 r1), .ref (am_ad X 6 0)]) (in_10 hX.1 (by omega)) kk_10 mV_X10_toothed ln_X6_76 rfl (Nat.le_of_ble_eq_true rfl) (Nat.le_of_ble_eq_true rfl) (k_X10_toothed hX r8 v11 (by omega) σ hp3) dX6_tryAll_65 rfl rfl ?_
    obtain ⟨p4, hp4, hf⟩ := am_bd hf
    refine g_cV (pc := 68) (As := [.ref (am_ad X 10 r1), .int v4, .int p3]) (st := []) (st1 := [.long p4]) (in_6 hX.1 (by omega)) kk_6 mV_X6_offWith ln_X6_80 rfl (Nat.le_of_ble_eq_true rfl) (Nat.le_of_ble_eq_true rfl) (k_X6_offWith hX r1 v4 p3 (by omega) σ hp4) dX6_tryAll_68 rfl rfl ?_
    refine g_lstore (pc := 71) [(12, .long p4), (0, .ref (am_ad X 6 0)), (1, .ref (am_ad X 10 r1)), (2, .ref (am_ad X 3 r2)), (3, .int v3), (4, .int v4), (5, .long v5), (7, .int v7), (8, .ref (am_ad X 10 r8)), (9, .long v9), (11, .int v11)] dX6_tryAll_71 (Nat.le_of_ble_eq_true rfl) rfl ?_
    refine g_lload (pc := 73) 9 rfl dX6_tryAll_73 ?_
    refine g_lload (pc := 75) 0 rfl dX6_tryAll_75 ?_
    refine g_ladd (pc := 77) dX6_tryAll_77 ?_
    refine g_aload_n (pc := 78) 1 rfl dX6_tryAll_78 rfl ?_
    refine g_aload (pc := 79) 8 rfl dX6_tryAll_79 ?_
    refine g_iload (pc := 81) 10 rfl dX6_tryAll_81 ?_
    refine g_aload_n (pc := 83) 2 rfl dX6_tryAll_83 rfl ?_
    refine g_iload (pc := 84) 5 rfl dX6_tryAll_84 ?_
    obtain ⟨p5, hp5, hf⟩ := am_bd hf
    refine g_cV (pc := 86) (As := [.int v4]) (st := [.int v11, .ref (am_ad X 10 r8), .ref (am_ad X 6 0), .long (v9 + p4)]) (st1 := [.int p5, .int v11, .ref (am_ad X 10 r8), .ref (am_ad X 6 0), .long (v9 + p4)]) (in_10 hX.1 (by omega)) kk_10 mV_X10_toothed ln_X6_76 rfl (Nat.le_of_ble_eq_true rfl) (Nat.le_of_ble_eq_true rfl) (k_X10_toothed hX r1 v4 (by omega) σ hp5) dX6_tryAll_86 rfl rfl ?_
    obtain ⟨p6, hp6, hf⟩ := am_bd hf
    refine g_cV (pc := 89) (As := [.ref (am_ad X 10 r8), .int v11, .int p5]) (st := [.long (v9 + p4)]) (st1 := [.long p6, .long (v9 + p4)]) (in_6 hX.1 (by omega)) kk_6 mV_X6_offWith ln_X6_80 rfl (Nat.le_of_ble_eq_true rfl) (Nat.le_of_ble_eq_true rfl) (k_X6_offWith hX r8 v11 p5 (by omega) σ hp6) dX6_tryAll_89 rfl rfl ?_
    refine g_ladd (pc := 92) dX6_tryAll_92 ?_
    refine g_lstore (pc := 93) [(14, .long ((v9 + p4) + p6)), (12, .long p4), (0, .ref (am_ad X 6 0)), (1, .ref (am_ad X 10 r1)), (2, .ref (am_ad X 3 r2)), (3, .int v3), (4, .int v4), (5, .long v5), (7, .int v7), (8, .ref (am_ad X 10 r8)), (9, .long v9), (11, .int v11)] dX6_tryAll_93 (Nat.le_of_ble_eq_true rfl) rfl ?_
    refine g_lload (pc := 95) 0 rfl dX6_tryAll_95 ?_
    refine g_aload_n (pc := 97) 2 rfl dX6_tryAll_97 rfl ?_
    refine g_getJ (pc := 98) (in_6 hX.1 (by omega)) fr_X6_25 dX6_tryAll_98 ?_
    refine g_lcm (pc := 101) dX6_tryAll_101 ?_
    refine bl_ge (pc := 102) 147 dX6_tryAll_102 rfl (fun c7 => ?_) (fun c7 => ?_)
    · replace hf := am_ifT c7 hf
      refine g_aload_n (pc := 105) 2 rfl dX6_tryAll_105 rfl ?_
      refine g_lload (pc := 106) 0 rfl dX6_tryAll_106 ?_
      obtain ⟨s8, hs8, hf⟩ := am_bd hf
      refine g_setJ (pc := 108) (in_6 hX.1 (by omega)) fr_X6_25 dX6_tryAll_108 (Option.some.inj hs8) ?_
      refine g_aload_n (pc := 111) 2 rfl dX6_tryAll_111 rfl ?_
      refine g_iconst (pc := 112) (v := 1) dX6_tryAll_112 (by decide) ?_
      obtain ⟨s9, hs9, hf⟩ := am_bd hf
      refine g_setZ (x := true) (pc := 113) (in_6 hX.1 (by omega)) fr_X6_28 dX6_tryAll_113 (Option.some.inj hs9) ?_
      refine g_aload_n (pc := 116) 2 rfl dX6_tryAll_116 rfl ?_
      refine g_getC (pc := 117) (e := 0) (in_6 hX.1 (by omega)) fr_X6_7 dX6_tryAll_117 rfl ?_
      refine g_iconst (pc := 120) (v := 0) dX6_tryAll_120 (by decide) ?_
      refine g_iload_n (pc := 121) 5 rfl dX6_tryAll_121 rfl ?_
      obtain ⟨j10, hj10, hf⟩ := am_bd hf
      have gj10 := am_ix_lt hj10
      obtain ⟨s11, hs11, hf⟩ := am_bd hf
      refine g_sI (pc := 122) (in_704 hX.1 (by omega)) ak_704 hj10 dX6_tryAll_122 (Option.some.inj hs11) ?_
      refine g_aload_n (pc := 123) 2 rfl dX6_tryAll_123 rfl ?_
      refine g_getC (pc := 124) (e := 0) (in_6 hX.1 (by omega)) fr_X6_7 dX6_tryAll_124 rfl ?_
      refine g_iconst (pc := 127) (v := 1) dX6_tryAll_127 (by decide) ?_
      refine g_iload (pc := 128) 6 rfl dX6_tryAll_128 ?_
      obtain ⟨j12, hj12, hf⟩ := am_bd hf
      have gj12 := am_ix_lt hj12
      obtain ⟨s13, hs13, hf⟩ := am_bd hf
      refine g_sI (pc := 130) (in_704 hX.1 (by omega)) ak_704 hj12 dX6_tryAll_130 (Option.some.inj hs13) ?_
      refine g_aload_n (pc := 131) 2 rfl dX6_tryAll_131 rfl ?_
      refine g_getC (pc := 132) (e := 0) (in_6 hX.1 (by omega)) fr_X6_7 dX6_tryAll_132 rfl ?_
      refine g_iconst (pc := 135) (v := 2) dX6_tryAll_135 (by decide) ?_
      refine g_iload (pc := 136) 8 rfl dX6_tryAll_136 ?_
      obtain ⟨j14, hj14, hf⟩ := am_bd hf
      have gj14 := am_ix_lt hj14
      obtain ⟨s15, hs15, hf⟩ := am_bd hf
      refine g_sI (pc := 138) (in_704 hX.1 (by omega)) ak_704 hj14 dX6_tryAll_138 (Option.some.inj hs15) ?_
      refine g_aload_n (pc := 139) 2 rfl dX6_tryAll_139 rfl ?_
      refine g_getC (pc := 140) (e := 0) (in_6 hX.1 (by omega)) fr_X6_7 dX6_tryAll_140 rfl ?_
      refine g_iconst (pc := 143) (v := 3) dX6_tryAll_143 (by decide) ?_
      refine g_iload (pc := 144) 11 rfl dX6_tryAll_144 ?_
      obtain ⟨j16, hj16, hf⟩ := am_bd hf
      have gj16 := am_ix_lt hj16
      obtain ⟨s17, hs17, hf⟩ := am_bd hf
      refine g_sI (pc := 146) (in_704 hX.1 (by omega)) ak_704 hj16 dX6_tryAll_146 (Option.some.inj hs17) ?_
      refine g_iinc (pc := 147) (v := (v11 + 1)) 11 [(11, .int (v11 + 1)), (14, .long ((v9 + p4) + p6)), (12, .long p4), (0, .ref (am_ad X 6 0)), (1, .ref (am_ad X 10 r1)), (2, .ref (am_ad X 3 r2)), (3, .int v3), (4, .int v4), (5, .long v5), (7, .int v7), (8, .ref (am_ad X 10 r8)), (9, .long v9)] dX6_tryAll_147 rfl rfl (Nat.le_of_ble_eq_true rfl) rfl ?_
      refine g_goto (pc := 150) 47 dX6_tryAll_150 rfl ?_
      have hz := hk0 _ (Option.some.inj hf).symm
      exact am_sub [3, 4, 5, 6, 7, 8, 9, 10, 11, 0] rfl hz
    replace hf := am_ifF c7 hf
    refine g_iinc (pc := 147) (v := (v11 + 1)) 11 [(11, .int (v11 + 1)), (14, .long ((v9 + p4) + p6)), (12, .long p4), (0, .ref (am_ad X 6 0)), (1, .ref (am_ad X 10 r1)), (2, .ref (am_ad X 3 r2)), (3, .int v3), (4, .int v4), (5, .long v5), (7, .int v7), (8, .ref (am_ad X 10 r8)), (9, .long v9)] dX6_tryAll_147 rfl rfl (Nat.le_of_ble_eq_true rfl) rfl ?_
    refine g_goto (pc := 150) 47 dX6_tryAll_150 rfl ?_
    have hz := hk0 _ (Option.some.inj hf).symm
    exact am_sub [3, 4, 5, 6, 7, 8, 9, 10, 11, 0] rfl hz
  replace hf := am_ifF c2 hf
  have hz := hk1 _ (Option.some.inj hf).symm
  exact am_sub [0, 1, 2, 3, 4, 5, 6] rfl hz
set_option maxRecDepth 100000 in
set_option maxHeartbeats 4000000 in
theorem l_X6_tryAll_47 {X : am_X} (hX : am_wC X) {Q : Option Value → am_H → Prop} (r1 : Nat) (r2 : Nat) (v3 : Int32) (v4 : Int32) (v5 : Int64) (v7 : Int32) (r8 : Nat) (v9 : Int64) (hr1 : r1 < 18) (hr2 : r2 < 3) (hr8 : r8 < 18) (σ : am_H) (s : Int32 × am_H) {o : am_H} (hf : am_loop (fun s => f_X6_tryAll_47 r1 r2 v3 v4 v5 v7 r8 v9 s.1 s.2) s = some o) (hk1 : ∀ t, o = t → am_G X gm_X6_tryAll Q 153 [(0, .ref (am_ad X 6 0)), (1, .ref (am_ad X 10 r1)), (2, .ref (am_ad X 3 r2)), (3, .int v3), (4, .int v4), (5, .long v5), (7, .int v7)] [] t) : am_G X gm_X6_tryAll Q 47 [(0, .ref (am_ad X 6 0)), (1, .ref (am_ad X 10 r1)), (2, .ref (am_ad X 3 r2)), (3, .int v3), (4, .int v4), (5, .long v5), (7, .int v7), (8, .ref (am_ad X 10 r8)), (9, .long v9), (11, .int s.1)] [] s.2 := by
  refine am_loop_ind (P := fun s => am_G X gm_X6_tryAll Q 47 [(0, .ref (am_ad X 6 0)), (1, .ref (am_ad X 10 r1)), (2, .ref (am_ad X 3 r2)), (3, .int v3), (4, .int v4), (5, .long v5), (7, .int v7), (8, .ref (am_ad X 10 r8)), (9, .long v9), (11, .int s.1)] [] s.2) (K := fun r => r = o) ?_ hf rfl
  intro s o1 hb hi hr
  exact q_X6_tryAll_47 hX r1 r2 v3 v4 v5 v7 r8 v9 s.1  hr1 hr2 hr8 s.2 hb hi (fun t e => hk1 t (hr _ e).symm)
noncomputable def f_X6_tryAll_15 (r1 : Nat) (r2 : Nat) (v3 : Int32) (v4 : Int32) (v5 : Int64) (v7 : Int32) (σ : am_H) : Option ((Int32 × am_H) ⊕ (am_H)) :=
  if v7 < (σ.1 3 r2 1) then
   ((am_ix 6 v7).bind fun j2 =>
   (f_X6_offNow (6 * r2 + j2) σ).bind fun p3 =>
   (am_loop (fun s => f_X6_tryAll_47 r1 r2 v3 v4 v5 v7 (6 * r2 + j2) (v5 - p3) s.1 s.2) (0, σ)).bind fun w4 =>
   some (.inl ((v7 + 1), w4)))
  else
  some (.inr σ)
set_option maxRecDepth 100000 in
set_option maxHeartbeats 4000000 in
theorem q_X6_tryAll_15 {X : am_X} (hX : am_wC X) {Q : Option Value → am_H → Prop} (r1 : Nat) (r2 : Nat) (v3 : Int32) (v4 : Int32) (v5 : Int64) (v7 : Int32) (hr1 : r1 < 18) (hr2 : r2 < 3) (σ : am_H) {o : (Int32 × am_H) ⊕ (am_H)} (hf : f_X6_tryAll_15 r1 r2 v3 v4 v5 v7 σ = some o) (hk0 : ∀ s, o = .inl s → am_G X gm_X6_tryAll Q 15 [(0, .ref (am_ad X 6 0)), (1, .ref (am_ad X 10 r1)), (2, .ref (am_ad X 3 r2)), (3, .int v3), (4, .int v4), (5, .long v5), (7, .int s.1)] [] s.2) (hk1 : ∀ t, o = .inr t → am_G X gm_X6_tryAll Q 159 [] [] t) : am_G X gm_X6_tryAll Q 15 [(0, .ref (am_ad X 6 0)), (1, .ref (am_ad X 10 r1)), (2, .ref (am_ad X 3 r2)), (3, .int v3), (4, .int v4), (5, .long v5), (7, .int v7)] [] σ := by
  unfold f_X6_tryAll_15 at hf
  refine g_iload (pc := 15) 6 rfl dX6_tryAll_15 ?_
  refine g_aload_n (pc := 17) 2 rfl dX6_tryAll_17 rfl ?_
  refine g_getI (pc := 18) (in_3 hX.1 (by omega)) fr_X6_32 dX6_tryAll_18 ?_
  refine bi_ge (pc := 21) 159 dX6_tryAll_21 rfl (fun c1 => ?_) (fun c1 => ?_)
  · replace hf := am_ifT c1 hf
    refine g_aload_n (pc := 24) 2 rfl dX6_tryAll_24 rfl ?_
    refine g_getC (pc := 25) (e := r2) (in_3 hX.1 (by omega)) fr_X6_37 dX6_tryAll_25 rfl ?_
    refine g_iload (pc := 28) 6 rfl dX6_tryAll_28 ?_
    obtain ⟨j2, hj2, hf⟩ := am_bd hf
    have gj2 := am_ix_lt hj2
    refine g_aC (pc := 30) (e := (6 * r2 + j2)) (in_400 hX.1 (by omega)) ak_400 hj2 rfl dX6_tryAll_30 ?_
    refine g_astore (pc := 31) [(8, .ref (am_ad X 10 (6 * r2 + j2))), (0, .ref (am_ad X 6 0)), (1, .ref (am_ad X 10 r1)), (2, .ref (am_ad X 3 r2)), (3, .int v3), (4, .int v4), (5, .long v5), (7, .int v7)] dX6_tryAll_31 (Nat.le_of_ble_eq_true rfl) rfl ?_
    refine g_lload (pc := 33) 6 rfl dX6_tryAll_33 ?_
    refine g_aload_n (pc := 35) 1 rfl dX6_tryAll_35 rfl ?_
    refine g_aload (pc := 36) 0 rfl dX6_tryAll_36 ?_
    obtain ⟨p3, hp3, hf⟩ := am_bd hf
    refine g_cV (pc := 38) (As := [.ref (am_ad X 10 (6 * r2 + j2))]) (st := [.long v5]) (st1 := [.long p3, .long v5]) (in_6 hX.1 (by omega)) kk_6 mV_X6_offNow ln_X6_51 rfl (Nat.le_of_ble_eq_true rfl) (Nat.le_of_ble_eq_true rfl) (k_X6_offNow hX (6 * r2 + j2) (by omega) σ hp3) dX6_tryAll_38 rfl rfl ?_
    refine g_lsub (pc := 41) dX6_tryAll_41 ?_
    refine g_lstore (pc := 42) [(9, .long (v5 - p3)), (8, .ref (am_ad X 10 (6 * r2 + j2))), (0, .ref (am_ad X 6 0)), (1, .ref (am_ad X 10 r1)), (2, .ref (am_ad X 3 r2)), (3, .int v3), (4, .int v4), (5, .long v5), (7, .int v7)] dX6_tryAll_42 (Nat.le_of_ble_eq_true rfl) rfl ?_
    refine g_iconst (pc := 44) (v := 0) dX6_tryAll_44 (by decide) ?_
    refine g_istore (pc := 45) [(11, .int 0), (9, .long (v5 - p3)), (8, .ref (am_ad X 10 (6 * r2 + j2))), (0, .ref (am_ad X 6 0)), (1, .ref (am_ad X 10 r1)), (2, .ref (am_ad X 3 r2)), (3, .int v3), (4, .int v4), (5, .long v5), (7, .int v7)] dX6_tryAll_45 (Nat.le_of_ble_eq_true rfl) rfl ?_
    obtain ⟨w4, hw4, hf⟩ := am_bd hf
    refine am_sub [3, 4, 5, 6, 7, 8, 9, 2, 1, 0] rfl (l_X6_tryAll_47 hX r1 r2 v3 v4 v5 v7 (6 * r2 + j2) (v5 - p3) (by omega) (by omega) (by omega) σ (0, σ) hw4 ?_)
    intro t e
    subst e
    refine g_iinc (pc := 153) (v := (v7 + 1)) 6 [(7, .int (v7 + 1)), (0, .ref (am_ad X 6 0)), (1, .ref (am_ad X 10 r1)), (2, .ref (am_ad X 3 r2)), (3, .int v3), (4, .int v4), (5, .long v5)] dX6_tryAll_153 rfl rfl (Nat.le_of_ble_eq_true rfl) rfl ?_
    refine g_goto (pc := 156) 15 dX6_tryAll_156 rfl ?_
    have hz := hk0 _ (Option.some.inj hf).symm
    exact am_sub [1, 2, 3, 4, 5, 6, 0] rfl hz
  replace hf := am_ifF c1 hf
  have hz := hk1 _ (Option.some.inj hf).symm
  exact am_sub [] rfl hz
set_option maxRecDepth 100000 in
set_option maxHeartbeats 4000000 in
theorem l_X6_tryAll_15 {X : am_X} (hX : am_wC X) {Q : Option Value → am_H → Prop} (r1 : Nat) (r2 : Nat) (v3 : Int32) (v4 : Int32) (v5 : Int64) (hr1 : r1 < 18) (hr2 : r2 < 3) (σ : am_H) (s : Int32 × am_H) {o : am_H} (hf : am_loop (fun s => f_X6_tryAll_15 r1 r2 v3 v4 v5 s.1 s.2) s = some o) (hk1 : ∀ t, o = t → am_G X gm_X6_tryAll Q 159 [] [] t) : am_G X gm_X6_tryAll Q 15 [(0, .ref (am_ad X 6 0)), (1, .ref (am_ad X 10 r1)), (2, .ref (am_ad X 3 r2)), (3, .int v3), (4, .int v4), (5, .long v5), (7, .int s.1)] [] s.2 := by
  refine am_loop_ind (P := fun s => am_G X gm_X6_tryAll Q 15 [(0, .ref (am_ad X 6 0)), (1, .ref (am_ad X 10 r1)), (2, .ref (am_ad X 3 r2)), (3, .int v3), (4, .int v4), (5, .long v5), (7, .int s.1)] [] s.2) (K := fun r => r = o) ?_ hf rfl
  intro s o1 hb hi hr
  exact q_X6_tryAll_15 hX r1 r2 v3 v4 v5 s.1  hr1 hr2 s.2 hb hi (fun t e => hk1 t (hr _ e).symm)
noncomputable def f_X6_tryAll (r1 : Nat) (r2 : Nat) (v3 : Int32) (v4 : Int32) (σ : am_H) : Option (am_H) :=
  (f_X6_offNow r1 σ).bind fun p1 =>
  (am_loop (fun s => f_X6_tryAll_15 r1 r2 v3 v4 ((σ.2.1 6 0 1) - p1) s.1 s.2) (0, σ)).bind fun w2 =>
  some w2
set_option maxRecDepth 100000 in
set_option maxHeartbeats 4000000 in
theorem q_X6_tryAll {X : am_X} (hX : am_wC X) {Q : Option Value → am_H → Prop} (r1 : Nat) (r2 : Nat) (v3 : Int32) (v4 : Int32) (hr1 : r1 < 18) (hr2 : r2 < 3) (σ : am_H) {o : am_H} (hf : f_X6_tryAll r1 r2 v3 v4 σ = some o) (hk : Q none o) : am_G X gm_X6_tryAll Q 0 [(0, .ref (am_ad X 6 0)), (1, .ref (am_ad X 10 r1)), (2, .ref (am_ad X 3 r2)), (3, .int v3), (4, .int v4)] [] σ := by
  unfold f_X6_tryAll at hf
  refine g_aload_n (pc := 0) 0 rfl dX6_tryAll_0 rfl ?_
  refine g_getJ (pc := 1) (in_6 hX.1 (by omega)) fr_X6_21 dX6_tryAll_1 ?_
  refine g_aload_n (pc := 4) 0 rfl dX6_tryAll_4 rfl ?_
  refine g_aload_n (pc := 5) 1 rfl dX6_tryAll_5 rfl ?_
  obtain ⟨p1, hp1, hf⟩ := am_bd hf
  refine g_cV (pc := 6) (As := [.ref (am_ad X 10 r1)]) (st := [.long (σ.2.1 6 0 1)]) (st1 := [.long p1, .long (σ.2.1 6 0 1)]) (in_6 hX.1 (by omega)) kk_6 mV_X6_offNow ln_X6_51 rfl (Nat.le_of_ble_eq_true rfl) (Nat.le_of_ble_eq_true rfl) (k_X6_offNow hX r1 (by omega) σ hp1) dX6_tryAll_6 rfl rfl ?_
  refine g_lsub (pc := 9) dX6_tryAll_9 ?_
  refine g_lstore (pc := 10) [(5, .long ((σ.2.1 6 0 1) - p1)), (0, .ref (am_ad X 6 0)), (1, .ref (am_ad X 10 r1)), (2, .ref (am_ad X 3 r2)), (3, .int v3), (4, .int v4)] dX6_tryAll_10 (Nat.le_of_ble_eq_true rfl) rfl ?_
  refine g_iconst (pc := 12) (v := 0) dX6_tryAll_12 (by decide) ?_
  refine g_istore (pc := 13) [(7, .int 0), (5, .long ((σ.2.1 6 0 1) - p1)), (0, .ref (am_ad X 6 0)), (1, .ref (am_ad X 10 r1)), (2, .ref (am_ad X 3 r2)), (3, .int v3), (4, .int v4)] dX6_tryAll_13 (Nat.le_of_ble_eq_true rfl) rfl ?_
  obtain ⟨w2, hw2, hf⟩ := am_bd hf
  refine am_sub [2, 3, 4, 5, 6, 1, 0] rfl (l_X6_tryAll_15 hX r1 r2 v3 v4 ((σ.2.1 6 0 1) - p1) (by omega) (by omega) σ (0, σ) hw2 ?_)
  intro t e
  subst e
  have ho := Option.some.inj hf
  subst ho
  exact g_vreturn (pc := 159) (st := []) rfl dX6_tryAll_159 hk
theorem k_X6_tryAll {X : am_X} (hX : am_wC X) (r1 : Nat) (r2 : Nat) (v3 : Int32) (v4 : Int32) (hr1 : r1 < 18) (hr2 : r2 < 3) (σ : am_H) {o : am_H} (hf : f_X6_tryAll r1 r2 v3 v4 σ = some o) : am_C X gm_X6_tryAll [.ref (am_ad X 6 0), .ref (am_ad X 10 r1), .ref (am_ad X 3 r2), .int v3, .int v4] σ (am_is none o) :=
  am_ofG rfl (Nat.le_of_ble_eq_true rfl) rfl (q_X6_tryAll hX r1 r2 v3 v4 hr1 hr2 σ hf ⟨rfl, rfl⟩)
