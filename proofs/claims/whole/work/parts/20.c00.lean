theorem dJ6_bitCount_0f7a4_0 : decode cJ6_bitCount_0f7a4 0 = .ok (.iload_n 0, 1) := by decide +kernel
theorem dJ6_bitCount_0f7a4_1 : decode cJ6_bitCount_0f7a4 1 = .ok (.iload_n 0, 1) := by decide +kernel
theorem dJ6_bitCount_0f7a4_2 : decode cJ6_bitCount_0f7a4 2 = .ok (.iconst 1, 1) := by decide +kernel
theorem dJ6_bitCount_0f7a4_3 : decode cJ6_bitCount_0f7a4 3 = .ok (.iushr, 1) := by decide +kernel
theorem dJ6_bitCount_0f7a4_4 : decode cJ6_bitCount_0f7a4 4 = .ok (.ldc_w 265, 3) := by decide +kernel
theorem dJ6_bitCount_0f7a4_7 : decode cJ6_bitCount_0f7a4 7 = .ok (.iand, 1) := by decide +kernel
theorem dJ6_bitCount_0f7a4_8 : decode cJ6_bitCount_0f7a4 8 = .ok (.isub, 1) := by decide +kernel
theorem dJ6_bitCount_0f7a4_9 : decode cJ6_bitCount_0f7a4 9 = .ok (.istore_n 0, 1) := by decide +kernel
theorem dJ6_bitCount_0f7a4_10 : decode cJ6_bitCount_0f7a4 10 = .ok (.iload_n 0, 1) := by decide +kernel
theorem dJ6_bitCount_0f7a4_11 : decode cJ6_bitCount_0f7a4 11 = .ok (.ldc_w 266, 3) := by decide +kernel
theorem dJ6_bitCount_0f7a4_14 : decode cJ6_bitCount_0f7a4 14 = .ok (.iand, 1) := by decide +kernel
theorem dJ6_bitCount_0f7a4_15 : decode cJ6_bitCount_0f7a4 15 = .ok (.iload_n 0, 1) := by decide +kernel
theorem dJ6_bitCount_0f7a4_16 : decode cJ6_bitCount_0f7a4 16 = .ok (.iconst 2, 1) := by decide +kernel
theorem dJ6_bitCount_0f7a4_17 : decode cJ6_bitCount_0f7a4 17 = .ok (.iushr, 1) := by decide +kernel
theorem dJ6_bitCount_0f7a4_18 : decode cJ6_bitCount_0f7a4 18 = .ok (.ldc_w 266, 3) := by decide +kernel
theorem dJ6_bitCount_0f7a4_21 : decode cJ6_bitCount_0f7a4 21 = .ok (.iand, 1) := by decide +kernel
theorem dJ6_bitCount_0f7a4_22 : decode cJ6_bitCount_0f7a4 22 = .ok (.iadd, 1) := by decide +kernel
theorem dJ6_bitCount_0f7a4_23 : decode cJ6_bitCount_0f7a4 23 = .ok (.istore_n 0, 1) := by decide +kernel
theorem dJ6_bitCount_0f7a4_24 : decode cJ6_bitCount_0f7a4 24 = .ok (.iload_n 0, 1) := by decide +kernel
theorem dJ6_bitCount_0f7a4_25 : decode cJ6_bitCount_0f7a4 25 = .ok (.iload_n 0, 1) := by decide +kernel
theorem dJ6_bitCount_0f7a4_26 : decode cJ6_bitCount_0f7a4 26 = .ok (.iconst 4, 1) := by decide +kernel
theorem dJ6_bitCount_0f7a4_27 : decode cJ6_bitCount_0f7a4 27 = .ok (.iushr, 1) := by decide +kernel
theorem dJ6_bitCount_0f7a4_28 : decode cJ6_bitCount_0f7a4 28 = .ok (.iadd, 1) := by decide +kernel
theorem dJ6_bitCount_0f7a4_29 : decode cJ6_bitCount_0f7a4 29 = .ok (.ldc_w 267, 3) := by decide +kernel
theorem dJ6_bitCount_0f7a4_32 : decode cJ6_bitCount_0f7a4 32 = .ok (.iand, 1) := by decide +kernel
theorem dJ6_bitCount_0f7a4_33 : decode cJ6_bitCount_0f7a4 33 = .ok (.istore_n 0, 1) := by decide +kernel
theorem dJ6_bitCount_0f7a4_34 : decode cJ6_bitCount_0f7a4 34 = .ok (.iload_n 0, 1) := by decide +kernel
theorem dJ6_bitCount_0f7a4_35 : decode cJ6_bitCount_0f7a4 35 = .ok (.iload_n 0, 1) := by decide +kernel
theorem dJ6_bitCount_0f7a4_36 : decode cJ6_bitCount_0f7a4 36 = .ok (.bipush 8, 2) := by decide +kernel
theorem dJ6_bitCount_0f7a4_38 : decode cJ6_bitCount_0f7a4 38 = .ok (.iushr, 1) := by decide +kernel
theorem dJ6_bitCount_0f7a4_39 : decode cJ6_bitCount_0f7a4 39 = .ok (.iadd, 1) := by decide +kernel
theorem dJ6_bitCount_0f7a4_40 : decode cJ6_bitCount_0f7a4 40 = .ok (.istore_n 0, 1) := by decide +kernel
theorem dJ6_bitCount_0f7a4_41 : decode cJ6_bitCount_0f7a4 41 = .ok (.iload_n 0, 1) := by decide +kernel
theorem dJ6_bitCount_0f7a4_42 : decode cJ6_bitCount_0f7a4 42 = .ok (.iload_n 0, 1) := by decide +kernel
theorem dJ6_bitCount_0f7a4_43 : decode cJ6_bitCount_0f7a4 43 = .ok (.bipush 16, 2) := by decide +kernel
theorem dJ6_bitCount_0f7a4_45 : decode cJ6_bitCount_0f7a4 45 = .ok (.iushr, 1) := by decide +kernel
theorem dJ6_bitCount_0f7a4_46 : decode cJ6_bitCount_0f7a4 46 = .ok (.iadd, 1) := by decide +kernel
theorem dJ6_bitCount_0f7a4_47 : decode cJ6_bitCount_0f7a4 47 = .ok (.istore_n 0, 1) := by decide +kernel
theorem dJ6_bitCount_0f7a4_48 : decode cJ6_bitCount_0f7a4 48 = .ok (.iload_n 0, 1) := by decide +kernel
theorem dJ6_bitCount_0f7a4_49 : decode cJ6_bitCount_0f7a4 49 = .ok (.bipush 63, 2) := by decide +kernel
theorem dJ6_bitCount_0f7a4_51 : decode cJ6_bitCount_0f7a4 51 = .ok (.iand, 1) := by decide +kernel
theorem dJ6_bitCount_0f7a4_52 : decode cJ6_bitCount_0f7a4 52 = .ok (.ireturn, 1) := by decide +kernel
noncomputable def f_J6_bitCount_0f7a4 (v0 : Int32) (σ : am_H) : Option (Int32) :=
  some ((((((((v0 - ((am_us v0 1) &&& 1431655765)) &&& 858993459) + ((am_us (v0 - ((am_us v0 1) &&& 1431655765)) 2) &&& 858993459)) + (am_us (((v0 - ((am_us v0 1) &&& 1431655765)) &&& 858993459) + ((am_us (v0 - ((am_us v0 1) &&& 1431655765)) 2) &&& 858993459)) 4)) &&& 252645135) + (am_us (((((v0 - ((am_us v0 1) &&& 1431655765)) &&& 858993459) + ((am_us (v0 - ((am_us v0 1) &&& 1431655765)) 2) &&& 858993459)) + (am_us (((v0 - ((am_us v0 1) &&& 1431655765)) &&& 858993459) + ((am_us (v0 - ((am_us v0 1) &&& 1431655765)) 2) &&& 858993459)) 4)) &&& 252645135) 8)) + (am_us ((((((v0 - ((am_us v0 1) &&& 1431655765)) &&& 858993459) + ((am_us (v0 - ((am_us v0 1) &&& 1431655765)) 2) &&& 858993459)) + (am_us (((v0 - ((am_us v0 1) &&& 1431655765)) &&& 858993459) + ((am_us (v0 - ((am_us v0 1) &&& 1431655765)) 2) &&& 858993459)) 4)) &&& 252645135) + (am_us (((((v0 - ((am_us v0 1) &&& 1431655765)) &&& 858993459) + ((am_us (v0 - ((am_us v0 1) &&& 1431655765)) 2) &&& 858993459)) + (am_us (((v0 - ((am_us v0 1) &&& 1431655765)) &&& 858993459) + ((am_us (v0 - ((am_us v0 1) &&& 1431655765)) 2) &&& 858993459)) 4)) &&& 252645135) 8)) 16)) &&& 63)
set_option maxRecDepth 100000 in
set_option maxHeartbeats 4000000 in
theorem q_J6_bitCount_0f7a4 {X : am_X} {Q : Option Value → am_H → Prop} (v0 : Int32) (σ : am_H) {o : Int32} (hf : f_J6_bitCount_0f7a4 v0 σ = some o) (hk : Q (some (.int o)) σ) : am_G X gm_J6_bitCount_0f7a4 Q 0 [(0, .int v0)] [] σ := by
  unfold f_J6_bitCount_0f7a4 at hf
  refine g_iload_n (pc := 0) 0 rfl dJ6_bitCount_0f7a4_0 rfl ?_
  refine g_iload_n (pc := 1) 0 rfl dJ6_bitCount_0f7a4_1 rfl ?_
  refine g_iconst (pc := 2) (v := 1) dJ6_bitCount_0f7a4_2 (by decide) ?_
  refine g_iushr (pc := 3) dJ6_bitCount_0f7a4_3 ?_
  refine g_ldcw (pc := 4) (v := 1431655765) (tb_5 (List.mem_of_getElem? (i := 34) (by decide +kernel))) dJ6_bitCount_0f7a4_4 ?_
  refine g_iand (pc := 7) dJ6_bitCount_0f7a4_7 ?_
  refine g_isub (pc := 8) dJ6_bitCount_0f7a4_8 ?_
  refine g_istore_n (pc := 9) [(0, .int (v0 - ((am_us v0 1) &&& 1431655765)))] dJ6_bitCount_0f7a4_9 rfl (Nat.le_of_ble_eq_true rfl) rfl ?_
  refine g_iload_n (pc := 10) 0 rfl dJ6_bitCount_0f7a4_10 rfl ?_
  refine g_ldcw (pc := 11) (v := 858993459) (tb_5 (List.mem_of_getElem? (i := 35) (by decide +kernel))) dJ6_bitCount_0f7a4_11 ?_
  refine g_iand (pc := 14) dJ6_bitCount_0f7a4_14 ?_
  refine g_iload_n (pc := 15) 0 rfl dJ6_bitCount_0f7a4_15 rfl ?_
  refine g_iconst (pc := 16) (v := 2) dJ6_bitCount_0f7a4_16 (by decide) ?_
  refine g_iushr (pc := 17) dJ6_bitCount_0f7a4_17 ?_
  refine g_ldcw (pc := 18) (v := 858993459) (tb_5 (List.mem_of_getElem? (i := 35) (by decide +kernel))) dJ6_bitCount_0f7a4_18 ?_
  refine g_iand (pc := 21) dJ6_bitCount_0f7a4_21 ?_
  refine g_iadd (pc := 22) dJ6_bitCount_0f7a4_22 ?_
  refine g_istore_n (pc := 23) [(0, .int (((v0 - ((am_us v0 1) &&& 1431655765)) &&& 858993459) + ((am_us (v0 - ((am_us v0 1) &&& 1431655765)) 2) &&& 858993459)))] dJ6_bitCount_0f7a4_23 rfl (Nat.le_of_ble_eq_true rfl) rfl ?_
  refine g_iload_n (pc := 24) 0 rfl dJ6_bitCount_0f7a4_24 rfl ?_
  refine g_iload_n (pc := 25) 0 rfl dJ6_bitCount_0f7a4_25 rfl ?_
  refine g_iconst (pc := 26) (v := 4) dJ6_bitCount_0f7a4_26 (by decide) ?_
  refine g_iushr (pc := 27) dJ6_bitCount_0f7a4_27 ?_
  refine g_iadd (pc := 28) dJ6_bitCount_0f7a4_28 ?_
  refine g_ldcw (pc := 29) (v := 252645135) (tb_5 (List.mem_of_getElem? (i := 36) (by decide +kernel))) dJ6_bitCount_0f7a4_29 ?_
  refine g_iand (pc := 32) dJ6_bitCount_0f7a4_32 ?_
  refine g_istore_n (pc := 33) [(0, .int (((((v0 - ((am_us v0 1) &&& 1431655765)) &&& 858993459) + ((am_us (v0 - ((am_us v0 1) &&& 1431655765)) 2) &&& 858993459)) + (am_us (((v0 - ((am_us v0 1) &&& 1431655765)) &&& 858993459) + ((am_us (v0 - ((am_us v0 1) &&& 1431655765)) 2) &&& 858993459)) 4)) &&& 252645135))] dJ6_bitCount_0f7a4_33 rfl (Nat.le_of_ble_eq_true rfl) rfl ?_
  refine g_iload_n (pc := 34) 0 rfl dJ6_bitCount_0f7a4_34 rfl ?_
  refine g_iload_n (pc := 35) 0 rfl dJ6_bitCount_0f7a4_35 rfl ?_
  refine g_bipush (pc := 36) (v := 8) dJ6_bitCount_0f7a4_36 (by decide) ?_
  refine g_iushr (pc := 38) dJ6_bitCount_0f7a4_38 ?_
  refine g_iadd (pc := 39) dJ6_bitCount_0f7a4_39 ?_
  refine g_istore_n (pc := 40) [(0, .int ((((((v0 - ((am_us v0 1) &&& 1431655765)) &&& 858993459) + ((am_us (v0 - ((am_us v0 1) &&& 1431655765)) 2) &&& 858993459)) + (am_us (((v0 - ((am_us v0 1) &&& 1431655765)) &&& 858993459) + ((am_us (v0 - ((am_us v0 1) &&& 1431655765)) 2) &&& 858993459)) 4)) &&& 252645135) + (am_us (((((v0 - ((am_us v0 1) &&& 1431655765)) &&& 858993459) + ((am_us (v0 - ((am_us v0 1) &&& 1431655765)) 2) &&& 858993459)) + (am_us (((v0 - ((am_us v0 1) &&& 1431655765)) &&& 858993459) + ((am_us (v0 - ((am_us v0 1) &&& 1431655765)) 2) &&& 858993459)) 4)) &&& 252645135) 8)))] dJ6_bitCount_0f7a4_40 rfl (Nat.le_of_ble_eq_true rfl) rfl ?_
  refine g_iload_n (pc := 41) 0 rfl dJ6_bitCount_0f7a4_41 rfl ?_
  refine g_iload_n (pc := 42) 0 rfl dJ6_bitCount_0f7a4_42 rfl ?_
  refine g_bipush (pc := 43) (v := 16) dJ6_bitCount_0f7a4_43 (by decide) ?_
  refine g_iushr (pc := 45) dJ6_bitCount_0f7a4_45 ?_
  refine g_iadd (pc := 46) dJ6_bitCount_0f7a4_46 ?_
  refine g_istore_n (pc := 47) [(0, .int (((((((v0 - ((am_us v0 1) &&& 1431655765)) &&& 858993459) + ((am_us (v0 - ((am_us v0 1) &&& 1431655765)) 2) &&& 858993459)) + (am_us (((v0 - ((am_us v0 1) &&& 1431655765)) &&& 858993459) + ((am_us (v0 - ((am_us v0 1) &&& 1431655765)) 2) &&& 858993459)) 4)) &&& 252645135) + (am_us (((((v0 - ((am_us v0 1) &&& 1431655765)) &&& 858993459) + ((am_us (v0 - ((am_us v0 1) &&& 1431655765)) 2) &&& 858993459)) + (am_us (((v0 - ((am_us v0 1) &&& 1431655765)) &&& 858993459) + ((am_us (v0 - ((am_us v0 1) &&& 1431655765)) 2) &&& 858993459)) 4)) &&& 252645135) 8)) + (am_us ((((((v0 - ((am_us v0 1) &&& 1431655765)) &&& 858993459) + ((am_us (v0 - ((am_us v0 1) &&& 1431655765)) 2) &&& 858993459)) + (am_us (((v0 - ((am_us v0 1) &&& 1431655765)) &&& 858993459) + ((am_us (v0 - ((am_us v0 1) &&& 1431655765)) 2) &&& 858993459)) 4)) &&& 252645135) + (am_us (((((v0 - ((am_us v0 1) &&& 1431655765)) &&& 858993459) + ((am_us (v0 - ((am_us v0 1) &&& 1431655765)) 2) &&& 858993459)) + (am_us (((v0 - ((am_us v0 1) &&& 1431655765)) &&& 858993459) + ((am_us (v0 - ((am_us v0 1) &&& 1431655765)) 2) &&& 858993459)) 4)) &&& 252645135) 8)) 16)))] dJ6_bitCount_0f7a4_47 rfl (Nat.le_of_ble_eq_true rfl) rfl ?_
  refine g_iload_n (pc := 48) 0 rfl dJ6_bitCount_0f7a4_48 rfl ?_
  refine g_bipush (pc := 49) (v := 63) dJ6_bitCount_0f7a4_49 (by decide) ?_
  refine g_iand (pc := 51) dJ6_bitCount_0f7a4_51 ?_
  have ho := Option.some.inj hf
  subst ho
  exact g_ireturn (pc := 52) (st := []) rfl dJ6_bitCount_0f7a4_52 hk
theorem k_J6_bitCount_0f7a4 {X : am_X} (v0 : Int32) (σ : am_H) {o : Int32} (hf : f_J6_bitCount_0f7a4 v0 σ = some o) : am_C X gm_J6_bitCount_0f7a4 [.int v0] σ (am_is (some (.int o)) σ) :=
  am_ofG rfl (Nat.le_of_ble_eq_true rfl) rfl (q_J6_bitCount_0f7a4 v0 σ hf ⟨rfl, rfl⟩)
theorem dJ6_numberOfTrailingZeros_0f7a4_0 : decode cJ6_numberOfTrailingZeros_0f7a4 0 = .ok (.iload_n 0, 1) := by decide +kernel
theorem dJ6_numberOfTrailingZeros_0f7a4_1 : decode cJ6_numberOfTrailingZeros_0f7a4 1 = .ok (.iconst (-1), 1) := by decide +kernel
theorem dJ6_numberOfTrailingZeros_0f7a4_2 : decode cJ6_numberOfTrailingZeros_0f7a4 2 = .ok (.ixor, 1) := by decide +kernel
theorem dJ6_numberOfTrailingZeros_0f7a4_3 : decode cJ6_numberOfTrailingZeros_0f7a4 3 = .ok (.iload_n 0, 1) := by decide +kernel
theorem dJ6_numberOfTrailingZeros_0f7a4_4 : decode cJ6_numberOfTrailingZeros_0f7a4 4 = .ok (.iconst 1, 1) := by decide +kernel
theorem dJ6_numberOfTrailingZeros_0f7a4_5 : decode cJ6_numberOfTrailingZeros_0f7a4 5 = .ok (.isub, 1) := by decide +kernel
theorem dJ6_numberOfTrailingZeros_0f7a4_6 : decode cJ6_numberOfTrailingZeros_0f7a4 6 = .ok (.iand, 1) := by decide +kernel
theorem dJ6_numberOfTrailingZeros_0f7a4_7 : decode cJ6_numberOfTrailingZeros_0f7a4 7 = .ok (.istore_n 0, 1) := by decide +kernel
theorem dJ6_numberOfTrailingZeros_0f7a4_8 : decode cJ6_numberOfTrailingZeros_0f7a4 8 = .ok (.iload_n 0, 1) := by decide +kernel
theorem dJ6_numberOfTrailingZeros_0f7a4_9 : decode cJ6_numberOfTrailingZeros_0f7a4 9 = .ok (.ifCond .gt 8, 3) := by decide +kernel
theorem dJ6_numberOfTrailingZeros_0f7a4_12 : decode cJ6_numberOfTrailingZeros_0f7a4 12 = .ok (.iload_n 0, 1) := by decide +kernel
theorem dJ6_numberOfTrailingZeros_0f7a4_13 : decode cJ6_numberOfTrailingZeros_0f7a4 13 = .ok (.bipush 32, 2) := by decide +kernel
theorem dJ6_numberOfTrailingZeros_0f7a4_15 : decode cJ6_numberOfTrailingZeros_0f7a4 15 = .ok (.iand, 1) := by decide +kernel
theorem dJ6_numberOfTrailingZeros_0f7a4_16 : decode cJ6_numberOfTrailingZeros_0f7a4 16 = .ok (.ireturn, 1) := by decide +kernel
theorem dJ6_numberOfTrailingZeros_0f7a4_17 : decode cJ6_numberOfTrailingZeros_0f7a4 17 = .ok (.iconst 1, 1) := by decide +kernel
theorem dJ6_numberOfTrailingZeros_0f7a4_18 : decode cJ6_numberOfTrailingZeros_0f7a4 18 = .ok (.istore_n 1, 1) := by decide +kernel
theorem dJ6_numberOfTrailingZeros_0f7a4_19 : decode cJ6_numberOfTrailingZeros_0f7a4 19 = .ok (.iload_n 0, 1) := by decide +kernel
theorem dJ6_numberOfTrailingZeros_0f7a4_20 : decode cJ6_numberOfTrailingZeros_0f7a4 20 = .ok (.ldc_w 264, 3) := by decide +kernel
theorem dJ6_numberOfTrailingZeros_0f7a4_23 : decode cJ6_numberOfTrailingZeros_0f7a4 23 = .ok (.if_icmp .le 11, 3) := by decide +kernel
theorem dJ6_numberOfTrailingZeros_0f7a4_26 : decode cJ6_numberOfTrailingZeros_0f7a4 26 = .ok (.iinc 1 16, 3) := by decide +kernel
theorem dJ6_numberOfTrailingZeros_0f7a4_29 : decode cJ6_numberOfTrailingZeros_0f7a4 29 = .ok (.iload_n 0, 1) := by decide +kernel
theorem dJ6_numberOfTrailingZeros_0f7a4_30 : decode cJ6_numberOfTrailingZeros_0f7a4 30 = .ok (.bipush 16, 2) := by decide +kernel
theorem dJ6_numberOfTrailingZeros_0f7a4_32 : decode cJ6_numberOfTrailingZeros_0f7a4 32 = .ok (.iushr, 1) := by decide +kernel
theorem dJ6_numberOfTrailingZeros_0f7a4_33 : decode cJ6_numberOfTrailingZeros_0f7a4 33 = .ok (.istore_n 0, 1) := by decide +kernel
theorem dJ6_numberOfTrailingZeros_0f7a4_34 : decode cJ6_numberOfTrailingZeros_0f7a4 34 = .ok (.iload_n 0, 1) := by decide +kernel
theorem dJ6_numberOfTrailingZeros_0f7a4_35 : decode cJ6_numberOfTrailingZeros_0f7a4 35 = .ok (.sipush 256, 3) := by decide +kernel
theorem dJ6_numberOfTrailingZeros_0f7a4_38 : decode cJ6_numberOfTrailingZeros_0f7a4 38 = .ok (.if_icmp .le 11, 3) := by decide +kernel
theorem dJ6_numberOfTrailingZeros_0f7a4_41 : decode cJ6_numberOfTrailingZeros_0f7a4 41 = .ok (.iinc 1 8, 3) := by decide +kernel
theorem dJ6_numberOfTrailingZeros_0f7a4_44 : decode cJ6_numberOfTrailingZeros_0f7a4 44 = .ok (.iload_n 0, 1) := by decide +kernel
theorem dJ6_numberOfTrailingZeros_0f7a4_45 : decode cJ6_numberOfTrailingZeros_0f7a4 45 = .ok (.bipush 8, 2) := by decide +kernel
theorem dJ6_numberOfTrailingZeros_0f7a4_47 : decode cJ6_numberOfTrailingZeros_0f7a4 47 = .ok (.iushr, 1) := by decide +kernel
theorem dJ6_numberOfTrailingZeros_0f7a4_48 : decode cJ6_numberOfTrailingZeros_0f7a4 48 = .ok (.istore_n 0, 1) := by decide +kernel
theorem dJ6_numberOfTrailingZeros_0f7a4_49 : decode cJ6_numberOfTrailingZeros_0f7a4 49 = .ok (.iload_n 0, 1) := by decide +kernel
theorem dJ6_numberOfTrailingZeros_0f7a4_50 : decode cJ6_numberOfTrailingZeros_0f7a4 50 = .ok (.bipush 16, 2) := by decide +kernel
theorem dJ6_numberOfTrailingZeros_0f7a4_52 : decode cJ6_numberOfTrailingZeros_0f7a4 52 = .ok (.if_icmp .le 10, 3) := by decide +kernel
theorem dJ6_numberOfTrailingZeros_0f7a4_55 : decode cJ6_numberOfTrailingZeros_0f7a4 55 = .ok (.iinc 1 4, 3) := by decide +kernel
theorem dJ6_numberOfTrailingZeros_0f7a4_58 : decode cJ6_numberOfTrailingZeros_0f7a4 58 = .ok (.iload_n 0, 1) := by decide +kernel
theorem dJ6_numberOfTrailingZeros_0f7a4_59 : decode cJ6_numberOfTrailingZeros_0f7a4 59 = .ok (.iconst 4, 1) := by decide +kernel
theorem dJ6_numberOfTrailingZeros_0f7a4_60 : decode cJ6_numberOfTrailingZeros_0f7a4 60 = .ok (.iushr, 1) := by decide +kernel
theorem dJ6_numberOfTrailingZeros_0f7a4_61 : decode cJ6_numberOfTrailingZeros_0f7a4 61 = .ok (.istore_n 0, 1) := by decide +kernel
theorem dJ6_numberOfTrailingZeros_0f7a4_62 : decode cJ6_numberOfTrailingZeros_0f7a4 62 = .ok (.iload_n 0, 1) := by decide +kernel
theorem dJ6_numberOfTrailingZeros_0f7a4_63 : decode cJ6_numberOfTrailingZeros_0f7a4 63 = .ok (.iconst 4, 1) := by decide +kernel
theorem dJ6_numberOfTrailingZeros_0f7a4_64 : decode cJ6_numberOfTrailingZeros_0f7a4 64 = .ok (.if_icmp .le 10, 3) := by decide +kernel
theorem dJ6_numberOfTrailingZeros_0f7a4_67 : decode cJ6_numberOfTrailingZeros_0f7a4 67 = .ok (.iinc 1 2, 3) := by decide +kernel
theorem dJ6_numberOfTrailingZeros_0f7a4_70 : decode cJ6_numberOfTrailingZeros_0f7a4 70 = .ok (.iload_n 0, 1) := by decide +kernel
theorem dJ6_numberOfTrailingZeros_0f7a4_71 : decode cJ6_numberOfTrailingZeros_0f7a4 71 = .ok (.iconst 2, 1) := by decide +kernel
theorem dJ6_numberOfTrailingZeros_0f7a4_72 : decode cJ6_numberOfTrailingZeros_0f7a4 72 = .ok (.iushr, 1) := by decide +kernel
theorem dJ6_numberOfTrailingZeros_0f7a4_73 : decode cJ6_numberOfTrailingZeros_0f7a4 73 = .ok (.istore_n 0, 1) := by decide +kernel
theorem dJ6_numberOfTrailingZeros_0f7a4_74 : decode cJ6_numberOfTrailingZeros_0f7a4 74 = .ok (.iload_n 1, 1) := by decide +kernel
theorem dJ6_numberOfTrailingZeros_0f7a4_75 : decode cJ6_numberOfTrailingZeros_0f7a4 75 = .ok (.iload_n 0, 1) := by decide +kernel
theorem dJ6_numberOfTrailingZeros_0f7a4_76 : decode cJ6_numberOfTrailingZeros_0f7a4 76 = .ok (.iconst 1, 1) := by decide +kernel
theorem dJ6_numberOfTrailingZeros_0f7a4_77 : decode cJ6_numberOfTrailingZeros_0f7a4 77 = .ok (.iushr, 1) := by decide +kernel
theorem dJ6_numberOfTrailingZeros_0f7a4_78 : decode cJ6_numberOfTrailingZeros_0f7a4 78 = .ok (.iadd, 1) := by decide +kernel
theorem dJ6_numberOfTrailingZeros_0f7a4_79 : decode cJ6_numberOfTrailingZeros_0f7a4 79 = .ok (.ireturn, 1) := by decide +kernel
noncomputable def f_J6_numberOfTrailingZeros_0f7a4_74 (v0 : Int32) (v1 : Int32) (σ : am_H) : Option (Int32) :=
  some (v1 + (am_us v0 1))
set_option maxRecDepth 100000 in
set_option maxHeartbeats 4000000 in
theorem q_J6_numberOfTrailingZeros_0f7a4_74 {X : am_X} {Q : Option Value → am_H → Prop} (v0 : Int32) (v1 : Int32) (σ : am_H) {o : Int32} (hf : f_J6_numberOfTrailingZeros_0f7a4_74 v0 v1 σ = some o) (hk : Q (some (.int o)) σ) : am_G X gm_J6_numberOfTrailingZeros_0f7a4 Q 74 [(0, .int v0), (1, .int v1)] [] σ := by
  unfold f_J6_numberOfTrailingZeros_0f7a4_74 at hf
  refine g_iload_n (pc := 74) 1 rfl dJ6_numberOfTrailingZeros_0f7a4_74 rfl ?_
  refine g_iload_n (pc := 75) 0 rfl dJ6_numberOfTrailingZeros_0f7a4_75 rfl ?_
  refine g_iconst (pc := 76) (v := 1) dJ6_numberOfTrailingZeros_0f7a4_76 (by decide) ?_
  refine g_iushr (pc := 77) dJ6_numberOfTrailingZeros_0f7a4_77 ?_
  refine g_iadd (pc := 78) dJ6_numberOfTrailingZeros_0f7a4_78 ?_
  have ho := Option.some.inj hf
  subst ho
  exact g_ireturn (pc := 79) (st := []) rfl dJ6_numberOfTrailingZeros_0f7a4_79 hk
noncomputable def f_J6_numberOfTrailingZeros_0f7a4_62 (v0 : Int32) (v1 : Int32) (σ : am_H) : Option (Int32) :=
  if 4 < v0 then
   (f_J6_numberOfTrailingZeros_0f7a4_74 (am_us v0 2) (v1 + 2) σ)
  else
  f_J6_numberOfTrailingZeros_0f7a4_74 v0 v1 σ
set_option maxRecDepth 100000 in
set_option maxHeartbeats 4000000 in
theorem q_J6_numberOfTrailingZeros_0f7a4_62 {X : am_X} {Q : Option Value → am_H → Prop} (v0 : Int32) (v1 : Int32) (σ : am_H) {o : Int32} (hf : f_J6_numberOfTrailingZeros_0f7a4_62 v0 v1 σ = some o) (hk : Q (some (.int o)) σ) : am_G X gm_J6_numberOfTrailingZeros_0f7a4 Q 62 [(0, .int v0), (1, .int v1)] [] σ := by
  unfold f_J6_numberOfTrailingZeros_0f7a4_62 at hf
  refine g_iload_n (pc := 62) 0 rfl dJ6_numberOfTrailingZeros_0f7a4_62 rfl ?_
  refine g_iconst (pc := 63) (v := 4) dJ6_numberOfTrailingZeros_0f7a4_63 (by decide) ?_
  refine bi_le (pc := 64) 74 dJ6_numberOfTrailingZeros_0f7a4_64 rfl (fun c1 => ?_) (fun c1 => ?_)
  · replace hf := am_ifT c1 hf
    refine g_iinc (pc := 67) (v := (v1 + 2)) 1 [(1, .int (v1 + 2)), (0, .int v0)] dJ6_numberOfTrailingZeros_0f7a4_67 rfl rfl (Nat.le_of_ble_eq_true rfl) rfl ?_
    refine g_iload_n (pc := 70) 1 rfl dJ6_numberOfTrailingZeros_0f7a4_70 rfl ?_
    refine g_iconst (pc := 71) (v := 2) dJ6_numberOfTrailingZeros_0f7a4_71 (by decide) ?_
    refine g_iushr (pc := 72) dJ6_numberOfTrailingZeros_0f7a4_72 ?_
    refine g_istore_n (pc := 73) [(0, .int (am_us v0 2)), (1, .int (v1 + 2))] dJ6_numberOfTrailingZeros_0f7a4_73 rfl (Nat.le_of_ble_eq_true rfl) rfl ?_
    exact q_J6_numberOfTrailingZeros_0f7a4_74 (am_us v0 2) (v1 + 2) σ hf hk
  replace hf := am_ifF c1 hf
  exact q_J6_numberOfTrailingZeros_0f7a4_74 v0 v1 σ hf hk
noncomputable def f_J6_numberOfTrailingZeros_0f7a4_49 (v0 : Int32) (v1 : Int32) (σ : am_H) : Option (Int32) :=
  if 16 < v0 then
   (f_J6_numberOfTrailingZeros_0f7a4_62 (am_us v0 4) (v1 + 4) σ)
  else
  f_J6_numberOfTrailingZeros_0f7a4_62 v0 v1 σ
set_option maxRecDepth 100000 in
set_option maxHeartbeats 4000000 in
theorem q_J6_numberOfTrailingZeros_0f7a4_49 {X : am_X} {Q : Option Value → am_H → Prop} (v0 : Int32) (v1 : Int32) (σ : am_H) {o : Int32} (hf : f_J6_numberOfTrailingZeros_0f7a4_49 v0 v1 σ = some o) (hk : Q (some (.int o)) σ) : am_G X gm_J6_numberOfTrailingZeros_0f7a4 Q 49 [(0, .int v0), (1, .int v1)] [] σ := by
  unfold f_J6_numberOfTrailingZeros_0f7a4_49 at hf
  refine g_iload_n (pc := 49) 0 rfl dJ6_numberOfTrailingZeros_0f7a4_49 rfl ?_
  refine g_bipush (pc := 50) (v := 16) dJ6_numberOfTrailingZeros_0f7a4_50 (by decide) ?_
  refine bi_le (pc := 52) 62 dJ6_numberOfTrailingZeros_0f7a4_52 rfl (fun c1 => ?_) (fun c1 => ?_)
  · replace hf := am_ifT c1 hf
    refine g_iinc (pc := 55) (v := (v1 + 4)) 1 [(1, .int (v1 + 4)), (0, .int v0)] dJ6_numberOfTrailingZeros_0f7a4_55 rfl rfl (Nat.le_of_ble_eq_true rfl) rfl ?_
    refine g_iload_n (pc := 58) 1 rfl dJ6_numberOfTrailingZeros_0f7a4_58 rfl ?_
    refine g_iconst (pc := 59) (v := 4) dJ6_numberOfTrailingZeros_0f7a4_59 (by decide) ?_
    refine g_iushr (pc := 60) dJ6_numberOfTrailingZeros_0f7a4_60 ?_
    refine g_istore_n (pc := 61) [(0, .int (am_us v0 4)), (1, .int (v1 + 4))] dJ6_numberOfTrailingZeros_0f7a4_61 rfl (Nat.le_of_ble_eq_true rfl) rfl ?_
    exact q_J6_numberOfTrailingZeros_0f7a4_62 (am_us v0 4) (v1 + 4) σ hf hk
  replace hf := am_ifF c1 hf
  exact q_J6_numberOfTrailingZeros_0f7a4_62 v0 v1 σ hf hk
noncomputable def f_J6_numberOfTrailingZeros_0f7a4_34 (v0 : Int32) (v1 : Int32) (σ : am_H) : Option (Int32) :=
  if 256 < v0 then
   (f_J6_numberOfTrailingZeros_0f7a4_49 (am_us v0 8) (v1 + 8) σ)
  else
  f_J6_numberOfTrailingZeros_0f7a4_49 v0 v1 σ
set_option maxRecDepth 100000 in
set_option maxHeartbeats 4000000 in
theorem q_J6_numberOfTrailingZeros_0f7a4_34 {X : am_X} {Q : Option Value → am_H → Prop} (v0 : Int32) (v1 : Int32) (σ : am_H) {o : Int32} (hf : f_J6_numberOfTrailingZeros_0f7a4_34 v0 v1 σ = some o) (hk : Q (some (.int o)) σ) : am_G X gm_J6_numberOfTrailingZeros_0f7a4 Q 34 [(0, .int v0), (1, .int v1)] [] σ := by
  unfold f_J6_numberOfTrailingZeros_0f7a4_34 at hf
  refine g_iload_n (pc := 34) 0 rfl dJ6_numberOfTrailingZeros_0f7a4_34 rfl ?_
  refine g_sipush (pc := 35) (v := 256) dJ6_numberOfTrailingZeros_0f7a4_35 (by decide) ?_
  refine bi_le (pc := 38) 49 dJ6_numberOfTrailingZeros_0f7a4_38 rfl (fun c1 => ?_) (fun c1 => ?_)
  · replace hf := am_ifT c1 hf
    refine g_iinc (pc := 41) (v := (v1 + 8)) 1 [(1, .int (v1 + 8)), (0, .int v0)] dJ6_numberOfTrailingZeros_0f7a4_41 rfl rfl (Nat.le_of_ble_eq_true rfl) rfl ?_
    refine g_iload_n (pc := 44) 1 rfl dJ6_numberOfTrailingZeros_0f7a4_44 rfl ?_
    refine g_bipush (pc := 45) (v := 8) dJ6_numberOfTrailingZeros_0f7a4_45 (by decide) ?_
    refine g_iushr (pc := 47) dJ6_numberOfTrailingZeros_0f7a4_47 ?_
    refine g_istore_n (pc := 48) [(0, .int (am_us v0 8)), (1, .int (v1 + 8))] dJ6_numberOfTrailingZeros_0f7a4_48 rfl (Nat.le_of_ble_eq_true rfl) rfl ?_
    exact q_J6_numberOfTrailingZeros_0f7a4_49 (am_us v0 8) (v1 + 8) σ hf hk
  replace hf := am_ifF c1 hf
  exact q_J6_numberOfTrailingZeros_0f7a4_49 v0 v1 σ hf hk
noncomputable def f_J6_numberOfTrailingZeros_0f7a4 (v0 : Int32) (σ : am_H) : Option (Int32) :=
  if 0 < ((v0 ^^^ (-1)) &&& (v0 - 1)) then
   (if 65536 < ((v0 ^^^ (-1)) &&& (v0 - 1)) then
    (f_J6_numberOfTrailingZeros_0f7a4_34 (am_us ((v0 ^^^ (-1)) &&& (v0 - 1)) 16) 17 σ)
   else
   f_J6_numberOfTrailingZeros_0f7a4_34 ((v0 ^^^ (-1)) &&& (v0 - 1)) 1 σ)
  else
  some (((v0 ^^^ (-1)) &&& (v0 - 1)) &&& 32)
set_option maxRecDepth 100000 in
set_option maxHeartbeats 4000000 in
theorem q_J6_numberOfTrailingZeros_0f7a4 {X : am_X} {Q : Option Value → am_H → Prop} (v0 : Int32) (σ : am_H) {o : Int32} (hf : f_J6_numberOfTrailingZeros_0f7a4 v0 σ = some o) (hk : Q (some (.int o)) σ) : am_G X gm_J6_numberOfTrailingZeros_0f7a4 Q 0 [(0, .int v0)] [] σ := by
  unfold f_J6_numberOfTrailingZeros_0f7a4 at hf
  refine g_iload_n (pc := 0) 0 rfl dJ6_numberOfTrailingZeros_0f7a4_0 rfl ?_
  refine g_iconst (pc := 1) (v := (-1)) dJ6_numberOfTrailingZeros_0f7a4_1 (by decide) ?_
  refine g_ixor (pc := 2) dJ6_numberOfTrailingZeros_0f7a4_2 ?_
  refine g_iload_n (pc := 3) 0 rfl dJ6_numberOfTrailingZeros_0f7a4_3 rfl ?_
  refine g_iconst (pc := 4) (v := 1) dJ6_numberOfTrailingZeros_0f7a4_4 (by decide) ?_
  refine g_isub (pc := 5) dJ6_numberOfTrailingZeros_0f7a4_5 ?_
  refine g_iand (pc := 6) dJ6_numberOfTrailingZeros_0f7a4_6 ?_
  refine g_istore_n (pc := 7) [(0, .int ((v0 ^^^ (-1)) &&& (v0 - 1)))] dJ6_numberOfTrailingZeros_0f7a4_7 rfl (Nat.le_of_ble_eq_true rfl) rfl ?_
  refine g_iload_n (pc := 8) 0 rfl dJ6_numberOfTrailingZeros_0f7a4_8 rfl ?_
  refine bz_gt (pc := 9) 17 dJ6_numberOfTrailingZeros_0f7a4_9 rfl (fun c1 => ?_) (fun c1 => ?_)
  · replace hf := am_ifT c1 hf
    refine g_iconst (pc := 17) (v := 1) dJ6_numberOfTrailingZeros_0f7a4_17 (by decide) ?_
    refine g_istore_n (pc := 18) [(1, .int 1), (0, .int ((v0 ^^^ (-1)) &&& (v0 - 1)))] dJ6_numberOfTrailingZeros_0f7a4_18 rfl (Nat.le_of_ble_eq_true rfl) rfl ?_
    refine g_iload_n (pc := 19) 1 rfl dJ6_numberOfTrailingZeros_0f7a4_19 rfl ?_
    refine g_ldcw (pc := 20) (v := 65536) (tb_9 (List.mem_of_getElem? (i := 127) (by decide +kernel))) dJ6_numberOfTrailingZeros_0f7a4_20 ?_
    refine bi_le (pc := 23) 34 dJ6_numberOfTrailingZeros_0f7a4_23 rfl (fun c2 => ?_) (fun c2 => ?_)
    · replace hf := am_ifT c2 hf
      refine g_iinc (pc := 26) (v := 17) 0 [(1, .int 17), (0, .int ((v0 ^^^ (-1)) &&& (v0 - 1)))] dJ6_numberOfTrailingZeros_0f7a4_26 rfl (by decide) (Nat.le_of_ble_eq_true rfl) rfl ?_
      refine g_iload_n (pc := 29) 1 rfl dJ6_numberOfTrailingZeros_0f7a4_29 rfl ?_
      refine g_bipush (pc := 30) (v := 16) dJ6_numberOfTrailingZeros_0f7a4_30 (by decide) ?_
      refine g_iushr (pc := 32) dJ6_numberOfTrailingZeros_0f7a4_32 ?_
      refine g_istore_n (pc := 33) [(0, .int (am_us ((v0 ^^^ (-1)) &&& (v0 - 1)) 16)), (1, .int 17)] dJ6_numberOfTrailingZeros_0f7a4_33 rfl (Nat.le_of_ble_eq_true rfl) rfl ?_
      exact q_J6_numberOfTrailingZeros_0f7a4_34 (am_us ((v0 ^^^ (-1)) &&& (v0 - 1)) 16) 17 σ hf hk
    replace hf := am_ifF c2 hf
    exact am_sub [1, 0] rfl (q_J6_numberOfTrailingZeros_0f7a4_34 ((v0 ^^^ (-1)) &&& (v0 - 1)) 1 σ hf hk)
  replace hf := am_ifF c1 hf
  refine g_iload_n (pc := 12) 0 rfl dJ6_numberOfTrailingZeros_0f7a4_12 rfl ?_
  refine g_bipush (pc := 13) (v := 32) dJ6_numberOfTrailingZeros_0f7a4_13 (by decide) ?_
  refine g_iand (pc := 15) dJ6_numberOfTrailingZeros_0f7a4_15 ?_
  have ho := Option.some.inj hf
  subst ho
  exact g_ireturn (pc := 16) (st := []) rfl dJ6_numberOfTrailingZeros_0f7a4_16 hk
theorem k_J6_numberOfTrailingZeros_0f7a4 {X : am_X} (v0 : Int32) (σ : am_H) {o : Int32} (hf : f_J6_numberOfTrailingZeros_0f7a4 v0 σ = some o) : am_C X gm_J6_numberOfTrailingZeros_0f7a4 [.int v0] σ (am_is (some (.int o)) σ) :=
  am_ofG rfl (Nat.le_of_ble_eq_true rfl) rfl (q_J6_numberOfTrailingZeros_0f7a4 v0 σ hf ⟨rfl, rfl⟩)
theorem dX3_zeroHeight_0 : decode cX3_zeroHeight 0 = .ok (.bipush 12, 2) := by decide +kernel
theorem dX3_zeroHeight_2 : decode cX3_zeroHeight 2 = .ok (.aload_n 0, 1) := by decide +kernel
theorem dX3_zeroHeight_3 : decode cX3_zeroHeight 3 = .ok (.getfield 22, 3) := by decide +kernel
theorem dX3_zeroHeight_6 : decode cX3_zeroHeight 6 = .ok (.iconst 0, 1) := by decide +kernel
theorem dX3_zeroHeight_7 : decode cX3_zeroHeight 7 = .ok (.invokestatic 163, 3) := by decide +kernel
theorem dX3_zeroHeight_10 : decode cX3_zeroHeight 10 = .ok (.imul, 1) := by decide +kernel
theorem dX3_zeroHeight_11 : decode cX3_zeroHeight 11 = .ok (.ireturn, 1) := by decide +kernel
noncomputable def f_X3_zeroHeight (r0 : Nat) (σ : am_H) : Option (Int32) :=
  some (12 * (am_mx (σ.1 3 r0 6) 0))
set_option maxRecDepth 100000 in
set_option maxHeartbeats 4000000 in
theorem q_X3_zeroHeight {X : am_X} (hX : am_wC X) {Q : Option Value → am_H → Prop} (r0 : Nat) (hr0 : r0 < 3) (σ : am_H) {o : Int32} (hf : f_X3_zeroHeight r0 σ = some o) (hk : Q (some (.int o)) σ) : am_G X gm_X3_zeroHeight Q 0 [(0, .ref (am_ad X 3 r0))] [] σ := by
  unfold f_X3_zeroHeight at hf
  refine g_bipush (pc := 0) (v := 12) dX3_zeroHeight_0 (by decide) ?_
  refine g_aload_n (pc := 2) 0 rfl dX3_zeroHeight_2 rfl ?_
  refine g_getI (pc := 3) (in_3 hX.1 (by omega)) fr_X3_22 dX3_zeroHeight_3 ?_
  refine g_iconst (pc := 6) (v := 0) dX3_zeroHeight_6 (by decide) ?_
  refine g_mmax (pc := 7) (Nat.le_of_ble_eq_true rfl) (Nat.le_of_ble_eq_true rfl) sp_X3_163 dX3_zeroHeight_7 ?_
  refine g_imul (pc := 10) dX3_zeroHeight_10 ?_
  have ho := Option.some.inj hf
  subst ho
  exact g_ireturn (pc := 11) (st := []) rfl dX3_zeroHeight_11 hk
theorem k_X3_zeroHeight {X : am_X} (hX : am_wC X) (r0 : Nat) (hr0 : r0 < 3) (σ : am_H) {o : Int32} (hf : f_X3_zeroHeight r0 σ = some o) : am_C X gm_X3_zeroHeight [.ref (am_ad X 3 r0)] σ (am_is (some (.int o)) σ) :=
  am_ofG rfl (Nat.le_of_ble_eq_true rfl) rfl (q_X3_zeroHeight hX r0 hr0 σ hf ⟨rfl, rfl⟩)
theorem dX10_turnedGone_0 : decode cX10_turnedGone 0 = .ok (.lload 4, 2) := by decide +kernel
theorem dX10_turnedGone_2 : decode cX10_turnedGone 2 = .ok (.lconst 0, 1) := by decide +kernel
theorem dX10_turnedGone_3 : decode cX10_turnedGone 3 = .ok (.lcmp, 1) := by decide +kernel
theorem dX10_turnedGone_4 : decode cX10_turnedGone 4 = .ok (.ifCond .gt 7, 3) := by decide +kernel
theorem dX10_turnedGone_7 : decode cX10_turnedGone 7 = .ok (.lconst 0, 1) := by decide +kernel
theorem dX10_turnedGone_8 : decode cX10_turnedGone 8 = .ok (.goto 9, 3) := by decide +kernel
theorem dX10_turnedGone_11 : decode cX10_turnedGone 11 = .ok (.lload_n 0, 1) := by decide +kernel
theorem dX10_turnedGone_12 : decode cX10_turnedGone 12 = .ok (.lload_n 2, 1) := by decide +kernel
theorem dX10_turnedGone_13 : decode cX10_turnedGone 13 = .ok (.lmul, 1) := by decide +kernel
theorem dX10_turnedGone_14 : decode cX10_turnedGone 14 = .ok (.lload 4, 2) := by decide +kernel
theorem dX10_turnedGone_16 : decode cX10_turnedGone 16 = .ok (.ldiv, 1) := by decide +kernel
theorem dX10_turnedGone_17 : decode cX10_turnedGone 17 = .ok (.lreturn, 1) := by decide +kernel
noncomputable def f_X10_turnedGone (v0 : Int64) (v2 : Int64) (v4 : Int64) (σ : am_H) : Option (Int64) :=
  if 0 < v4 then
   (if v4 = 0 then none else
   some ((v0 * v2) / v4))
  else
  some 0
set_option maxRecDepth 100000 in
set_option maxHeartbeats 4000000 in
theorem q_X10_turnedGone {X : am_X} (hX : am_wC X) {Q : Option Value → am_H → Prop} (v0 : Int64) (v2 : Int64) (v4 : Int64) (σ : am_H) {o : Int64} (hf : f_X10_turnedGone v0 v2 v4 σ = some o) (hk : Q (some (.long o)) σ) : am_G X gm_X10_turnedGone Q 0 [(0, .long v0), (2, .long v2), (4, .long v4)] [] σ := by
  unfold f_X10_turnedGone at hf
  refine g_lload (pc := 0) 2 rfl dX10_turnedGone_0 ?_
  refine g_lconst (pc := 2) (v := 0) dX10_turnedGone_2 (by decide) ?_
  refine g_lcm (pc := 3) dX10_turnedGone_3 ?_
  refine bl_gt (pc := 4) 11 dX10_turnedGone_4 rfl (fun c1 => ?_) (fun c1 => ?_)
  · replace hf := am_ifT c1 hf
    refine g_lload_n (pc := 11) 0 rfl dX10_turnedGone_11 rfl ?_
    refine g_lload_n (pc := 12) 1 rfl dX10_turnedGone_12 rfl ?_
    refine g_lmul (pc := 13) dX10_turnedGone_13 ?_
    refine g_lload (pc := 14) 2 rfl dX10_turnedGone_14 ?_
    by_cases z2 : v4 = 0
    · exact absurd (am_ifT z2 hf) (by simp)
    replace hf := am_ifF z2 hf
    refine g_ldiv (pc := 16) dX10_turnedGone_16 z2 ?_
    have ho := Option.some.inj hf
    subst ho
    exact g_lreturn (pc := 17) (st := []) rfl dX10_turnedGone_17 hk
  replace hf := am_ifF c1 hf
  refine g_lconst (pc := 7) (v := 0) dX10_turnedGone_7 (by decide) ?_
  refine g_goto (pc := 8) 17 dX10_turnedGone_8 rfl ?_
  have ho := Option.some.inj hf
  subst ho
  exact g_lreturn (pc := 17) (st := []) rfl dX10_turnedGone_17 hk
theorem k_X10_turnedGone {X : am_X} (hX : am_wC X) (v0 : Int64) (v2 : Int64) (v4 : Int64) (σ : am_H) {o : Int64} (hf : f_X10_turnedGone v0 v2 v4 σ = some o) : am_C X gm_X10_turnedGone [.long v0, .long v2, .long v4] σ (am_is (some (.long o)) σ) :=
  am_ofG rfl (Nat.le_of_ble_eq_true rfl) rfl (q_X10_turnedGone hX v0 v2 v4 σ hf ⟨rfl, rfl⟩)
theorem dX10_trueGone_0 : decode cX10_trueGone 0 = .ok (.aload_n 0, 1) := by decide +kernel
theorem dX10_trueGone_1 : decode cX10_trueGone 1 = .ok (.getfield 15, 3) := by decide +kernel
theorem dX10_trueGone_4 : decode cX10_trueGone 4 = .ok (.ifCond .gt 7, 3) := by decide +kernel
theorem dX10_trueGone_7 : decode cX10_trueGone 7 = .ok (.lconst 0, 1) := by decide +kernel
theorem dX10_trueGone_8 : decode cX10_trueGone 8 = .ok (.goto 20, 3) := by decide +kernel
theorem dX10_trueGone_11 : decode cX10_trueGone 11 = .ok (.ldc2_w 44, 3) := by decide +kernel
theorem dX10_trueGone_14 : decode cX10_trueGone 14 = .ok (.aload_n 0, 1) := by decide +kernel
theorem dX10_trueGone_15 : decode cX10_trueGone 15 = .ok (.getfield 9, 3) := by decide +kernel
theorem dX10_trueGone_18 : decode cX10_trueGone 18 = .ok (.i2l, 1) := by decide +kernel
theorem dX10_trueGone_19 : decode cX10_trueGone 19 = .ok (.lmul, 1) := by decide +kernel
theorem dX10_trueGone_20 : decode cX10_trueGone 20 = .ok (.lload_n 1, 1) := by decide +kernel
theorem dX10_trueGone_21 : decode cX10_trueGone 21 = .ok (.lmul, 1) := by decide +kernel
theorem dX10_trueGone_22 : decode cX10_trueGone 22 = .ok (.aload_n 0, 1) := by decide +kernel
theorem dX10_trueGone_23 : decode cX10_trueGone 23 = .ok (.getfield 15, 3) := by decide +kernel
theorem dX10_trueGone_26 : decode cX10_trueGone 26 = .ok (.i2l, 1) := by decide +kernel
theorem dX10_trueGone_27 : decode cX10_trueGone 27 = .ok (.ldiv, 1) := by decide +kernel
theorem dX10_trueGone_28 : decode cX10_trueGone 28 = .ok (.lreturn, 1) := by decide +kernel
noncomputable def f_X10_trueGone (r0 : Nat) (v1 : Int64) (σ : am_H) : Option (Int64) :=
  if 0 < (σ.1 10 r0 2) then
   (if (Int32.toInt64 (σ.1 10 r0 2)) = 0 then none else
   some (((24 * (Int32.toInt64 (σ.1 10 r0 1))) * v1) / (Int32.toInt64 (σ.1 10 r0 2))))
  else
  some 0
set_option maxRecDepth 100000 in
set_option maxHeartbeats 4000000 in
theorem q_X10_trueGone {X : am_X} (hX : am_wC X) {Q : Option Value → am_H → Prop} (r0 : Nat) (v1 : Int64) (hr0 : r0 < 18) (σ : am_H) {o : Int64} (hf : f_X10_trueGone r0 v1 σ = some o) (hk : Q (some (.long o)) σ) : am_G X gm_X10_trueGone Q 0 [(0, .ref (am_ad X 10 r0)), (1, .long v1)] [] σ := by
  unfold f_X10_trueGone at hf
  refine g_aload_n (pc := 0) 0 rfl dX10_trueGone_0 rfl ?_
  refine g_getI (pc := 1) (in_10 hX.1 (by omega)) fr_X10_15 dX10_trueGone_1 ?_
  refine bz_gt (pc := 4) 11 dX10_trueGone_4 rfl (fun c1 => ?_) (fun c1 => ?_)
  · replace hf := am_ifT c1 hf
    refine g_ldc2 (pc := 11) (v := 24) (tb_4 (List.mem_of_getElem? (i := 181) (by decide +kernel))) dX10_trueGone_11 ?_
    refine g_aload_n (pc := 14) 0 rfl dX10_trueGone_14 rfl ?_
    refine g_getI (pc := 15) (in_10 hX.1 (by omega)) fr_X10_9 dX10_trueGone_15 ?_
    refine g_i2l (pc := 18) dX10_trueGone_18 ?_
    refine g_lmul (pc := 19) dX10_trueGone_19 ?_
    refine g_lload_n (pc := 20) 1 rfl dX10_trueGone_20 rfl ?_
    refine g_lmul (pc := 21) dX10_trueGone_21 ?_
    refine g_aload_n (pc := 22) 0 rfl dX10_trueGone_22 rfl ?_
    refine g_getI (pc := 23) (in_10 hX.1 (by omega)) fr_X10_15 dX10_trueGone_23 ?_
    refine g_i2l (pc := 26) dX10_trueGone_26 ?_
    by_cases z2 : (Int32.toInt64 (σ.1 10 r0 2)) = 0
    · exact absurd (am_ifT z2 hf) (by simp)
    replace hf := am_ifF z2 hf
    refine g_ldiv (pc := 27) dX10_trueGone_27 z2 ?_
    have ho := Option.some.inj hf
    subst ho
    exact g_lreturn (pc := 28) (st := []) rfl dX10_trueGone_28 hk
  replace hf := am_ifF c1 hf
  refine g_lconst (pc := 7) (v := 0) dX10_trueGone_7 (by decide) ?_
  refine g_goto (pc := 8) 28 dX10_trueGone_8 rfl ?_
  have ho := Option.some.inj hf
  subst ho
  exact g_lreturn (pc := 28) (st := []) rfl dX10_trueGone_28 hk
theorem k_X10_trueGone {X : am_X} (hX : am_wC X) (r0 : Nat) (v1 : Int64) (hr0 : r0 < 18) (σ : am_H) {o : Int64} (hf : f_X10_trueGone r0 v1 σ = some o) : am_C X gm_X10_trueGone [.ref (am_ad X 10 r0), .long v1] σ (am_is (some (.long o)) σ) :=
  am_ofG rfl (Nat.le_of_ble_eq_true rfl) rfl (q_X10_trueGone hX r0 v1 hr0 σ hf ⟨rfl, rfl⟩)
theorem dX10_placeAt_0 : decode cX10_placeAt 0 = .ok (.iload_n 3, 1) := by decide +kernel
theorem dX10_placeAt_1 : decode cX10_placeAt 1 = .ok (.ifCond .eq 14, 3) := by decide +kernel
theorem dX10_placeAt_4 : decode cX10_placeAt 4 = .ok (.aload_n 0, 1) := by decide +kernel
theorem dX10_placeAt_5 : decode cX10_placeAt 5 = .ok (.getfield 38, 3) := by decide +kernel
theorem dX10_placeAt_8 : decode cX10_placeAt 8 = .ok (.ifCond .le 7, 3) := by decide +kernel
theorem dX10_placeAt_11 : decode cX10_placeAt 11 = .ok (.iconst 1, 1) := by decide +kernel
theorem dX10_placeAt_12 : decode cX10_placeAt 12 = .ok (.goto 4, 3) := by decide +kernel
theorem dX10_placeAt_15 : decode cX10_placeAt 15 = .ok (.iconst 0, 1) := by decide +kernel
theorem dX10_placeAt_16 : decode cX10_placeAt 16 = .ok (.istore 4, 2) := by decide +kernel
theorem dX10_placeAt_18 : decode cX10_placeAt 18 = .ok (.iload 4, 2) := by decide +kernel
theorem dX10_placeAt_20 : decode cX10_placeAt 20 = .ok (.ifCond .eq 18, 3) := by decide +kernel
theorem dX10_placeAt_23 : decode cX10_placeAt 23 = .ok (.lload_n 1, 1) := by decide +kernel
theorem dX10_placeAt_24 : decode cX10_placeAt 24 = .ok (.aload_n 0, 1) := by decide +kernel
theorem dX10_placeAt_25 : decode cX10_placeAt 25 = .ok (.getfield 22, 3) := by decide +kernel
theorem dX10_placeAt_28 : decode cX10_placeAt 28 = .ok (.aload_n 0, 1) := by decide +kernel
theorem dX10_placeAt_29 : decode cX10_placeAt 29 = .ok (.getfield 26, 3) := by decide +kernel
theorem dX10_placeAt_32 : decode cX10_placeAt 32 = .ok (.invokestatic 46, 3) := by decide +kernel
theorem dX10_placeAt_35 : decode cX10_placeAt 35 = .ok (.goto 8, 3) := by decide +kernel
theorem dX10_placeAt_38 : decode cX10_placeAt 38 = .ok (.aload_n 0, 1) := by decide +kernel
theorem dX10_placeAt_39 : decode cX10_placeAt 39 = .ok (.lload_n 1, 1) := by decide +kernel
theorem dX10_placeAt_40 : decode cX10_placeAt 40 = .ok (.invokevirtual 50, 3) := by decide +kernel
theorem dX10_placeAt_43 : decode cX10_placeAt 43 = .ok (.lstore 5, 2) := by decide +kernel
theorem dX10_placeAt_45 : decode cX10_placeAt 45 = .ok (.aload_n 0, 1) := by decide +kernel
theorem dX10_placeAt_46 : decode cX10_placeAt 46 = .ok (.getfield 35, 3) := by decide +kernel
theorem dX10_placeAt_49 : decode cX10_placeAt 49 = .ok (.i2l, 1) := by decide +kernel
theorem dX10_placeAt_50 : decode cX10_placeAt 50 = .ok (.lload 5, 2) := by decide +kernel
theorem dX10_placeAt_52 : decode cX10_placeAt 52 = .ok (.ladd, 1) := by decide +kernel
theorem dX10_placeAt_53 : decode cX10_placeAt 53 = .ok (.ldc2_w 44, 3) := by decide +kernel
theorem dX10_placeAt_56 : decode cX10_placeAt 56 = .ok (.lrem, 1) := by decide +kernel
theorem dX10_placeAt_57 : decode cX10_placeAt 57 = .ok (.l2i, 1) := by decide +kernel
theorem dX10_placeAt_58 : decode cX10_placeAt 58 = .ok (.ireturn, 1) := by decide +kernel
noncomputable def f_X10_placeAt_43 (r0 : Nat) (k0 : Int64) (σ : am_H) : Option (Int32) :=
  some (Int64.toInt32 (am_lR ((Int32.toInt64 (σ.1 10 r0 4)) + k0) 24))
set_option maxRecDepth 100000 in
set_option maxHeartbeats 4000000 in
theorem q_X10_placeAt_43 {X : am_X} (hX : am_wC X) {Q : Option Value → am_H → Prop} (r0 : Nat) (k0 : Int64) (hr0 : r0 < 18) (σ : am_H) {o : Int32} (hf : f_X10_placeAt_43 r0 k0 σ = some o) (hk : Q (some (.int o)) σ) : am_G X gm_X10_placeAt Q 43 [(0, .ref (am_ad X 10 r0))] [.long k0] σ := by
  unfold f_X10_placeAt_43 at hf
  refine g_lstore (pc := 43) [(5, .long k0), (0, .ref (am_ad X 10 r0))] dX10_placeAt_43 (Nat.le_of_ble_eq_true rfl) rfl ?_
  refine g_aload_n (pc := 45) 1 rfl dX10_placeAt_45 rfl ?_
  refine g_getI (pc := 46) (in_10 hX.1 (by omega)) fr_X10_35 dX10_placeAt_46 ?_
  refine g_i2l (pc := 49) dX10_placeAt_49 ?_
  refine g_lload (pc := 50) 0 rfl dX10_placeAt_50 ?_
  refine g_ladd (pc := 52) dX10_placeAt_52 ?_
  refine g_ldc2 (pc := 53) (v := 24) (tb_4 (List.mem_of_getElem? (i := 181) (by decide +kernel))) dX10_placeAt_53 ?_
  refine g_lrem (pc := 56) dX10_placeAt_56 (by decide) ?_
  refine g_l2i (pc := 57) dX10_placeAt_57 ?_
  have ho := Option.some.inj hf
  subst ho
  exact g_ireturn (pc := 58) (st := []) rfl dX10_placeAt_58 hk
noncomputable def f_X10_placeAt_16 (r0 : Nat) (v1 : Int64) (k0 : Bool) (σ : am_H) : Option (Int32) :=
  if k0 = true then
   ((f_X10_turnedGone v1 (σ.2.1 10 r0 7) (σ.2.1 10 r0 8) σ).bind fun p2 =>
   f_X10_placeAt_43 r0 p2 σ)
  else
  (f_X10_trueGone r0 v1 σ).bind fun p3 =>
  f_X10_placeAt_43 r0 p3 σ
set_option maxRecDepth 100000 in
set_option maxHeartbeats 4000000 in
theorem q_X10_placeAt_16 {X : am_X} (hX : am_wC X) {Q : Option Value → am_H → Prop} (r0 : Nat) (v1 : Int64) (k0 : Bool) (hr0 : r0 < 18) (σ : am_H) {o : Int32} (hf : f_X10_placeAt_16 r0 v1 k0 σ = some o) (hk : Q (some (.int o)) σ) : am_G X gm_X10_placeAt Q 16 [(0, .ref (am_ad X 10 r0)), (1, .long v1)] [.int (am_b k0)] σ := by
  unfold f_X10_placeAt_16 at hf
  refine g_istore (pc := 16) [(4, .int (am_b k0)), (0, .ref (am_ad X 10 r0)), (1, .long v1)] dX10_placeAt_16 (Nat.le_of_ble_eq_true rfl) rfl ?_
  refine g_iload (pc := 18) 0 rfl dX10_placeAt_18 ?_
  refine bt_eq (pc := 20) 38 dX10_placeAt_20 rfl (fun c1 => ?_) (fun c1 => ?_)
  · replace hf := am_ifT c1 hf
    refine g_lload_n (pc := 23) 2 rfl dX10_placeAt_23 rfl ?_
    refine g_aload_n (pc := 24) 1 rfl dX10_placeAt_24 rfl ?_
    refine g_getJ (pc := 25) (in_10 hX.1 (by omega)) fr_X10_22 dX10_placeAt_25 ?_
    refine g_aload_n (pc := 28) 1 rfl dX10_placeAt_28 rfl ?_
    refine g_getJ (pc := 29) (in_10 hX.1 (by omega)) fr_X10_26 dX10_placeAt_29 ?_
    obtain ⟨p2, hp2, hf⟩ := am_bd hf
    refine g_cS (pc := 32) (As := [.long v1, .long (σ.2.1 10 r0 7), .long (σ.2.1 10 r0 8)]) (st := []) (st1 := [.long p2]) mS_X10_turnedGone ln_X10_46 rfl (Nat.le_of_ble_eq_true rfl) (Nat.le_of_ble_eq_true rfl) (k_X10_turnedGone hX v1 (σ.2.1 10 r0 7) (σ.2.1 10 r0 8) σ hp2) dX10_placeAt_32 rfl rfl ?_
    refine g_goto (pc := 35) 43 dX10_placeAt_35 rfl ?_
    exact am_sub [1] rfl (q_X10_placeAt_43 hX r0 p2 (by omega) σ hf hk)
  replace hf := am_ifF c1 hf
  refine g_aload_n (pc := 38) 1 rfl dX10_placeAt_38 rfl ?_
  refine g_lload_n (pc := 39) 2 rfl dX10_placeAt_39 rfl ?_
  obtain ⟨p3, hp3, hf⟩ := am_bd hf
  refine g_cV (pc := 40) (As := [.long v1]) (st := []) (st1 := [.long p3]) (in_10 hX.1 (by omega)) kk_10 mV_X10_trueGone ln_X10_50 rfl (Nat.le_of_ble_eq_true rfl) (Nat.le_of_ble_eq_true rfl) (k_X10_trueGone hX r0 v1 (by omega) σ hp3) dX10_placeAt_40 rfl rfl ?_
  exact am_sub [1] rfl (q_X10_placeAt_43 hX r0 p3 (by omega) σ hf hk)
noncomputable def f_X10_placeAt (r0 : Nat) (v1 : Int64) (v3 : Bool) (σ : am_H) : Option (Int32) :=
  if v3 = true then
   (if 0 < (σ.1 10 r0 5) then
    (f_X10_placeAt_16 r0 v1 true σ)
   else
   f_X10_placeAt_16 r0 v1 false σ)
  else
  f_X10_placeAt_16 r0 v1 false σ
set_option maxRecDepth 100000 in
set_option maxHeartbeats 4000000 in
theorem q_X10_placeAt {X : am_X} (hX : am_wC X) {Q : Option Value → am_H → Prop} (r0 : Nat) (v1 : Int64) (v3 : Bool) (hr0 : r0 < 18) (σ : am_H) {o : Int32} (hf : f_X10_placeAt r0 v1 v3 σ = some o) (hk : Q (some (.int o)) σ) : am_G X gm_X10_placeAt Q 0 [(0, .ref (am_ad X 10 r0)), (1, .long v1), (3, .int (am_b v3))] [] σ := by
  unfold f_X10_placeAt at hf
  refine g_iload_n (pc := 0) 2 rfl dX10_placeAt_0 rfl ?_
  refine bt_eq (pc := 1) 15 dX10_placeAt_1 rfl (fun c1 => ?_) (fun c1 => ?_)
  · replace hf := am_ifT c1 hf
    refine g_aload_n (pc := 4) 0 rfl dX10_placeAt_4 rfl ?_
    refine g_getI (pc := 5) (in_10 hX.1 (by omega)) fr_X10_38 dX10_placeAt_5 ?_
    refine bz_le (pc := 8) 15 dX10_placeAt_8 rfl (fun c2 => ?_) (fun c2 => ?_)
    · replace hf := am_ifT c2 hf
      refine g_iconst (pc := 11) (v := 1) dX10_placeAt_11 (by decide) ?_
      refine g_goto (pc := 12) 16 dX10_placeAt_12 rfl ?_
      exact am_sub [0, 1] rfl (q_X10_placeAt_16 hX r0 v1 true (by omega) σ hf hk)
    replace hf := am_ifF c2 hf
    refine g_iconst (pc := 15) (v := 0) dX10_placeAt_15 (by decide) ?_
    exact am_sub [0, 1] rfl (q_X10_placeAt_16 hX r0 v1 false (by omega) σ hf hk)
  replace hf := am_ifF c1 hf
  refine g_iconst (pc := 15) (v := 0) dX10_placeAt_15 (by decide) ?_
  exact am_sub [0, 1] rfl (q_X10_placeAt_16 hX r0 v1 false (by omega) σ hf hk)
theorem k_X10_placeAt {X : am_X} (hX : am_wC X) (r0 : Nat) (v1 : Int64) (v3 : Bool) (hr0 : r0 < 18) (σ : am_H) {o : Int32} (hf : f_X10_placeAt r0 v1 v3 σ = some o) : am_C X gm_X10_placeAt [.ref (am_ad X 10 r0), .long v1, .int (am_b v3)] σ (am_is (some (.int o)) σ) :=
  am_ofG rfl (Nat.le_of_ble_eq_true rfl) rfl (q_X10_placeAt hX r0 v1 v3 hr0 σ hf ⟨rfl, rfl⟩)
theorem dX11_cosOf_0 : decode cX11_cosOf 0 = .ok (.lload_n 0, 1) := by decide +kernel
theorem dX11_cosOf_1 : decode cX11_cosOf 1 = .ok (.ldc2_w 267, 3) := by decide +kernel
theorem dX11_cosOf_4 : decode cX11_cosOf 4 = .ok (.lrem, 1) := by decide +kernel
theorem dX11_cosOf_5 : decode cX11_cosOf 5 = .ok (.l2i, 1) := by decide +kernel
theorem dX11_cosOf_6 : decode cX11_cosOf 6 = .ok (.istore_n 2, 1) := by decide +kernel
theorem dX11_cosOf_7 : decode cX11_cosOf 7 = .ok (.getstatic 509, 3) := by decide +kernel
theorem dX11_cosOf_10 : decode cX11_cosOf 10 = .ok (.iload_n 2, 1) := by decide +kernel
theorem dX11_cosOf_11 : decode cX11_cosOf 11 = .ok (.ifCond .ge 10, 3) := by decide +kernel
theorem dX11_cosOf_14 : decode cX11_cosOf 14 = .ok (.iload_n 2, 1) := by decide +kernel
theorem dX11_cosOf_15 : decode cX11_cosOf 15 = .ok (.bipush 24, 2) := by decide +kernel
theorem dX11_cosOf_17 : decode cX11_cosOf 17 = .ok (.iadd, 1) := by decide +kernel
theorem dX11_cosOf_18 : decode cX11_cosOf 18 = .ok (.goto 4, 3) := by decide +kernel
theorem dX11_cosOf_21 : decode cX11_cosOf 21 = .ok (.iload_n 2, 1) := by decide +kernel
theorem dX11_cosOf_22 : decode cX11_cosOf 22 = .ok (.iaload, 1) := by decide +kernel
theorem dX11_cosOf_23 : decode cX11_cosOf 23 = .ok (.ireturn, 1) := by decide +kernel
noncomputable def f_X11_cosOf_22 (k1 : Int32) (σ : am_H) : Option (Int32) :=
  (am_ix 24 k1).bind fun j1 =>
  some (am_cosl.getD j1 0)
set_option maxRecDepth 100000 in
set_option maxHeartbeats 4000000 in
theorem q_X11_cosOf_22 {X : am_X} (hX : am_wC X) {Q : Option Value → am_H → Prop} (k1 : Int32) (σ : am_H) {o : Int32} (hf : f_X11_cosOf_22 k1 σ = some o) (hk : Q (some (.int o)) σ) : am_G X gm_X11_cosOf Q 22 [] [.int k1, .ref (am_co X)] σ := by
  unfold f_X11_cosOf_22 at hf
  obtain ⟨j1, hj1, hf⟩ := am_bd hf
  refine g_cosL (pc := 22) hX.2 hj1 dX11_cosOf_22 ?_
  have ho := Option.some.inj hf
  subst ho
  exact g_ireturn (pc := 23) (st := []) rfl dX11_cosOf_23 hk
noncomputable def f_X11_cosOf (v0 : Int64) (σ : am_H) : Option (Int32) :=
  if (Int64.toInt32 (am_lR v0 24)) < 0 then
   (f_X11_cosOf_22 ((Int64.toInt32 (am_lR v0 24)) + 24) σ)
  else
  f_X11_cosOf_22 (Int64.toInt32 (am_lR v0 24)) σ
set_option maxRecDepth 100000 in
set_option maxHeartbeats 4000000 in
theorem q_X11_cosOf {X : am_X} (hX : am_wC X) {Q : Option Value → am_H → Prop} (v0 : Int64) (σ : am_H) {o : Int32} (hf : f_X11_cosOf v0 σ = some o) (hk : Q (some (.int o)) σ) : am_G X gm_X11_cosOf Q 0 [(0, .long v0)] [] σ := by
  unfold f_X11_cosOf at hf
  refine g_lload_n (pc := 0) 0 rfl dX11_cosOf_0 rfl ?_
  refine g_ldc2 (pc := 1) (v := 24) (tb_4 (List.mem_of_getElem? (i := 199) (by decide +kernel))) dX11_cosOf_1 ?_
  refine g_lrem (pc := 4) dX11_cosOf_4 (by decide) ?_
  refine g_l2i (pc := 5) dX11_cosOf_5 ?_
  refine g_istore_n (pc := 6) [(2, .int (Int64.toInt32 (am_lR v0 24))), (0, .long v0)] dX11_cosOf_6 rfl (Nat.le_of_ble_eq_true rfl) rfl ?_
  refine g_cosS (pc := 7) hX.2 (tb_4 (List.mem_of_getElem? (i := 200) (by decide +kernel))) dX11_cosOf_7 ?_
  refine g_iload_n (pc := 10) 0 rfl dX11_cosOf_10 rfl ?_
  refine bz_ge (pc := 11) 21 dX11_cosOf_11 rfl (fun c1 => ?_) (fun c1 => ?_)
  · replace hf := am_ifT c1 hf
    refine g_iload_n (pc := 14) 0 rfl dX11_cosOf_14 rfl ?_
    refine g_bipush (pc := 15) (v := 24) dX11_cosOf_15 (by decide) ?_
    refine g_iadd (pc := 17) dX11_cosOf_17 ?_
    refine g_goto (pc := 18) 22 dX11_cosOf_18 rfl ?_
    exact am_sub [] rfl (q_X11_cosOf_22 hX ((Int64.toInt32 (am_lR v0 24)) + 24) σ hf hk)
  replace hf := am_ifF c1 hf
  refine g_iload_n (pc := 21) 0 rfl dX11_cosOf_21 rfl ?_
  exact am_sub [] rfl (q_X11_cosOf_22 hX (Int64.toInt32 (am_lR v0 24)) σ hf hk)
theorem k_X11_cosOf {X : am_X} (hX : am_wC X) (v0 : Int64) (σ : am_H) {o : Int32} (hf : f_X11_cosOf v0 σ = some o) : am_C X gm_X11_cosOf [.long v0] σ (am_is (some (.int o)) σ) :=
  am_ofG rfl (Nat.le_of_ble_eq_true rfl) rfl (q_X11_cosOf hX v0 σ hf ⟨rfl, rfl⟩)
theorem dX3_heightAt_0 : decode cX3_heightAt 0 = .ok (.aload_n 0, 1) := by decide +kernel
theorem dX3_heightAt_1 : decode cX3_heightAt 1 = .ok (.invokevirtual 169, 3) := by decide +kernel
theorem dX3_heightAt_4 : decode cX3_heightAt 4 = .ok (.istore 4, 2) := by decide +kernel
theorem dX3_heightAt_6 : decode cX3_heightAt 6 = .ok (.iconst 0, 1) := by decide +kernel
theorem dX3_heightAt_7 : decode cX3_heightAt 7 = .ok (.istore 5, 2) := by decide +kernel
theorem dX3_heightAt_9 : decode cX3_heightAt 9 = .ok (.iload 5, 2) := by decide +kernel
theorem dX3_heightAt_11 : decode cX3_heightAt 11 = .ok (.aload_n 0, 1) := by decide +kernel
theorem dX3_heightAt_12 : decode cX3_heightAt 12 = .ok (.getfield 32, 3) := by decide +kernel
theorem dX3_heightAt_15 : decode cX3_heightAt 15 = .ok (.if_icmp .ge 48, 3) := by decide +kernel
theorem dX3_heightAt_18 : decode cX3_heightAt 18 = .ok (.aload_n 0, 1) := by decide +kernel
theorem dX3_heightAt_19 : decode cX3_heightAt 19 = .ok (.getfield 27, 3) := by decide +kernel
theorem dX3_heightAt_22 : decode cX3_heightAt 22 = .ok (.iload 5, 2) := by decide +kernel
theorem dX3_heightAt_24 : decode cX3_heightAt 24 = .ok (.aaload, 1) := by decide +kernel
theorem dX3_heightAt_25 : decode cX3_heightAt 25 = .ok (.astore 6, 2) := by decide +kernel
theorem dX3_heightAt_27 : decode cX3_heightAt 27 = .ok (.aload 6, 2) := by decide +kernel
theorem dX3_heightAt_29 : decode cX3_heightAt 29 = .ok (.getfield 142, 3) := by decide +kernel
theorem dX3_heightAt_32 : decode cX3_heightAt 32 = .ok (.ifCond .eq 25, 3) := by decide +kernel
theorem dX3_heightAt_35 : decode cX3_heightAt 35 = .ok (.iload 4, 2) := by decide +kernel
theorem dX3_heightAt_37 : decode cX3_heightAt 37 = .ok (.aload 6, 2) := by decide +kernel
theorem dX3_heightAt_39 : decode cX3_heightAt 39 = .ok (.getfield 142, 3) := by decide +kernel
theorem dX3_heightAt_42 : decode cX3_heightAt 42 = .ok (.aload 6, 2) := by decide +kernel
theorem dX3_heightAt_44 : decode cX3_heightAt 44 = .ok (.lload_n 1, 1) := by decide +kernel
theorem dX3_heightAt_45 : decode cX3_heightAt 45 = .ok (.iload_n 3, 1) := by decide +kernel
theorem dX3_heightAt_46 : decode cX3_heightAt 46 = .ok (.invokevirtual 173, 3) := by decide +kernel
theorem dX3_heightAt_49 : decode cX3_heightAt 49 = .ok (.i2l, 1) := by decide +kernel
theorem dX3_heightAt_50 : decode cX3_heightAt 50 = .ok (.invokestatic 177, 3) := by decide +kernel
theorem dX3_heightAt_53 : decode cX3_heightAt 53 = .ok (.imul, 1) := by decide +kernel
theorem dX3_heightAt_54 : decode cX3_heightAt 54 = .ok (.iadd, 1) := by decide +kernel
theorem dX3_heightAt_55 : decode cX3_heightAt 55 = .ok (.istore 4, 2) := by decide +kernel
theorem dX3_heightAt_57 : decode cX3_heightAt 57 = .ok (.iinc 5 1, 3) := by decide +kernel
theorem dX3_heightAt_60 : decode cX3_heightAt 60 = .ok (.goto (-51), 3) := by decide +kernel
theorem dX3_heightAt_63 : decode cX3_heightAt 63 = .ok (.iload 4, 2) := by decide +kernel
theorem dX3_heightAt_65 : decode cX3_heightAt 65 = .ok (.ireturn, 1) := by decide +kernel
noncomputable def f_X3_heightAt_9 (r0 : Nat) (v1 : Int64) (v3 : Bool) (v4 : Int32) (v5 : Int32) (σ : am_H) : Option ((Int32 × Int32) ⊕ (Int32)) :=
  if v5 < (σ.1 3 r0 1) then
   ((am_ix 6 v5).bind fun j2 =>
   if (σ.1 10 (6 * r0 + j2) 3) = 0 then
    (some (.inl (v4, (v5 + 1))))
   else
   (f_X10_placeAt (6 * r0 + j2) v1 v3 σ).bind fun p4 =>
   (f_X11_cosOf (Int32.toInt64 p4) σ).bind fun p5 =>
   some (.inl ((v4 + ((σ.1 10 (6 * r0 + j2) 3) * p5)), (v5 + 1))))
  else
  some (.inr v4)
set_option maxRecDepth 100000 in
set_option maxHeartbeats 4000000 in
theorem q_X3_heightAt_9 {X : am_X} (hX : am_wC X) {Q : Option Value → am_H → Prop} (r0 : Nat) (v1 : Int64) (v3 : Bool) (v4 : Int32) (v5 : Int32) (hr0 : r0 < 3) (σ : am_H) {o : (Int32 × Int32) ⊕ (Int32)} (hf : f_X3_heightAt_9 r0 v1 v3 v4 v5 σ = some o) (hk0 : ∀ s, o = .inl s → am_G X gm_X3_heightAt Q 9 [(0, .ref (am_ad X 3 r0)), (1, .long v1), (3, .int (am_b v3)), (4, .int s.1), (5, .int s.2)] [] σ) (hk1 : ∀ t, o = .inr t → am_G X gm_X3_heightAt Q 63 [(4, .int t)] [] σ) : am_G X gm_X3_heightAt Q 9 [(0, .ref (am_ad X 3 r0)), (1, .long v1), (3, .int (am_b v3)), (4, .int v4), (5, .int v5)] [] σ := by
  unfold f_X3_heightAt_9 at hf
  refine g_iload (pc := 9) 4 rfl dX3_heightAt_9 ?_
  refine g_aload_n (pc := 11) 0 rfl dX3_heightAt_11 rfl ?_
  refine g_getI (pc := 12) (in_3 hX.1 (by omega)) fr_X3_32 dX3_heightAt_12 ?_
  refine bi_ge (pc := 15) 63 dX3_heightAt_15 rfl (fun c1 => ?_) (fun c1 => ?_)
  · replace hf := am_ifT c1 hf
    refine g_aload_n (pc := 18) 0 rfl dX3_heightAt_18 rfl ?_
    refine g_getC (pc := 19) (e := r0) (in_3 hX.1 (by omega)) fr_X3_27 dX3_heightAt_19 rfl ?_
    refine g_iload (pc := 22) 4 rfl dX3_heightAt_22 ?_
    obtain ⟨j2, hj2, hf⟩ := am_bd hf
    have gj2 := am_ix_lt hj2
    refine g_aC (pc := 24) (e := (6 * r0 + j2)) (in_400 hX.1 (by omega)) ak_400 hj2 rfl dX3_heightAt_24 ?_
    refine g_astore (pc := 25) [(6, .ref (am_ad X 10 (6 * r0 + j2))), (0, .ref (am_ad X 3 r0)), (1, .long v1), (3, .int (am_b v3)), (4, .int v4), (5, .int v5)] dX3_heightAt_25 (Nat.le_of_ble_eq_true rfl) rfl ?_
    refine g_aload (pc := 27) 0 rfl dX3_heightAt_27 ?_
    refine g_getI (pc := 29) (in_10 hX.1 (by omega)) fr_X3_142 dX3_heightAt_29 ?_
    refine bz_eq (pc := 32) 57 dX3_heightAt_32 rfl (fun c3 => ?_) (fun c3 => ?_)
    · replace hf := am_ifT c3 hf
      refine g_iinc (pc := 57) (v := (v5 + 1)) 5 [(5, .int (v5 + 1)), (6, .ref (am_ad X 10 (6 * r0 + j2))), (0, .ref (am_ad X 3 r0)), (1, .long v1), (3, .int (am_b v3)), (4, .int v4)] dX3_heightAt_57 rfl rfl (Nat.le_of_ble_eq_true rfl) rfl ?_
      refine g_goto (pc := 60) 9 dX3_heightAt_60 rfl ?_
      have hz := hk0 _ (Option.some.inj hf).symm
      exact am_sub [2, 3, 4, 5, 0] rfl hz
    replace hf := am_ifF c3 hf
    refine g_iload (pc := 35) 4 rfl dX3_heightAt_35 ?_
    refine g_aload (pc := 37) 0 rfl dX3_heightAt_37 ?_
    refine g_getI (pc := 39) (in_10 hX.1 (by omega)) fr_X3_142 dX3_heightAt_39 ?_
    refine g_aload (pc := 42) 0 rfl dX3_heightAt_42 ?_
    refine g_lload_n (pc := 44) 2 rfl dX3_heightAt_44 rfl ?_
    refine g_iload_n (pc := 45) 3 rfl dX3_heightAt_45 rfl ?_
    obtain ⟨p4, hp4, hf⟩ := am_bd hf
    refine g_cV (pc := 46) (As := [.long v1, .int (am_b v3)]) (st := [.int (σ.1 10 (6 * r0 + j2) 3), .int v4]) (st1 := [.int p4, .int (σ.1 10 (6 * r0 + j2) 3), .int v4]) (in_10 hX.1 (by omega)) kk_10 mV_X10_placeAt ln_X3_173 rfl (Nat.le_of_ble_eq_true rfl) (Nat.le_of_ble_eq_true rfl) (k_X10_placeAt hX (6 * r0 + j2) v1 v3 (by omega) σ hp4) dX3_heightAt_46 rfl rfl ?_
    refine g_i2l (pc := 49) dX3_heightAt_49 ?_
    obtain ⟨p5, hp5, hf⟩ := am_bd hf
    refine g_cS (pc := 50) (As := [.long (Int32.toInt64 p4)]) (st := [.int (σ.1 10 (6 * r0 + j2) 3), .int v4]) (st1 := [.int p5, .int (σ.1 10 (6 * r0 + j2) 3), .int v4]) mS_X11_cosOf ln_X3_177 rfl (Nat.le_of_ble_eq_true rfl) (Nat.le_of_ble_eq_true rfl) (k_X11_cosOf hX (Int32.toInt64 p4) σ hp5) dX3_heightAt_50 rfl rfl ?_
    refine g_imul (pc := 53) dX3_heightAt_53 ?_
    refine g_iadd (pc := 54) dX3_heightAt_54 ?_
    refine g_istore (pc := 55) [(4, .int (v4 + ((σ.1 10 (6 * r0 + j2) 3) * p5))), (6, .ref (am_ad X 10 (6 * r0 + j2))), (0, .ref (am_ad X 3 r0)), (1, .long v1), (3, .int (am_b v3)), (5, .int v5)] dX3_heightAt_55 (Nat.le_of_ble_eq_true rfl) rfl ?_
    refine g_iinc (pc := 57) (v := (v5 + 1)) 5 [(5, .int (v5 + 1)), (4, .int (v4 + ((σ.1 10 (6 * r0 + j2) 3) * p5))), (6, .ref (am_ad X 10 (6 * r0 + j2))), (0, .ref (am_ad X 3 r0)), (1, .long v1), (3, .int (am_b v3))] dX3_heightAt_57 rfl rfl (Nat.le_of_ble_eq_true rfl) rfl ?_
    refine g_goto (pc := 60) 9 dX3_heightAt_60 rfl ?_
    have hz := hk0 _ (Option.some.inj hf).symm
    exact am_sub [3, 4, 5, 1, 0] rfl hz
  replace hf := am_ifF c1 hf
  have hz := hk1 _ (Option.some.inj hf).symm
  exact am_sub [3] rfl hz
set_option maxRecDepth 100000 in
set_option maxHeartbeats 4000000 in
theorem l_X3_heightAt_9 {X : am_X} (hX : am_wC X) {Q : Option Value → am_H → Prop} (r0 : Nat) (v1 : Int64) (v3 : Bool) (hr0 : r0 < 3) (σ : am_H) (s : Int32 × Int32) {o : Int32} (hf : am_loop (fun s => f_X3_heightAt_9 r0 v1 v3 s.1 s.2 σ) s = some o) (hk1 : ∀ t, o = t → am_G X gm_X3_heightAt Q 63 [(4, .int t)] [] σ) : am_G X gm_X3_heightAt Q 9 [(0, .ref (am_ad X 3 r0)), (1, .long v1), (3, .int (am_b v3)), (4, .int s.1), (5, .int s.2)] [] σ := by
  refine am_loop_ind (P := fun s => am_G X gm_X3_heightAt Q 9 [(0, .ref (am_ad X 3 r0)), (1, .long v1), (3, .int (am_b v3)), (4, .int s.1), (5, .int s.2)] [] σ) (K := fun r => r = o) ?_ hf rfl
  intro s o1 hb hi hr
  exact q_X3_heightAt_9 hX r0 v1 v3 s.1 s.2  hr0 σ hb hi (fun t e => hk1 t (hr _ e).symm)
noncomputable def f_X3_heightAt (r0 : Nat) (v1 : Int64) (v3 : Bool) (σ : am_H) : Option (Int32) :=
  (f_X3_zeroHeight r0 σ).bind fun p1 =>
  (am_loop (fun s => f_X3_heightAt_9 r0 v1 v3 s.1 s.2 σ) (p1, 0)).bind fun w2 =>
  some w2
set_option maxRecDepth 100000 in
set_option maxHeartbeats 4000000 in
theorem q_X3_heightAt {X : am_X} (hX : am_wC X) {Q : Option Value → am_H → Prop} (r0 : Nat) (v1 : Int64) (v3 : Bool) (hr0 : r0 < 3) (σ : am_H) {o : Int32} (hf : f_X3_heightAt r0 v1 v3 σ = some o) (hk : Q (some (.int o)) σ) : am_G X gm_X3_heightAt Q 0 [(0, .ref (am_ad X 3 r0)), (1, .long v1), (3, .int (am_b v3))] [] σ := by
  unfold f_X3_heightAt at hf
  refine g_aload_n (pc := 0) 0 rfl dX3_heightAt_0 rfl ?_
  obtain ⟨p1, hp1, hf⟩ := am_bd hf
  refine g_cV (pc := 1) (As := []) (st := []) (st1 := [.int p1]) (in_3 hX.1 (by omega)) kk_3 mV_X3_zeroHeight ln_X3_169 rfl (Nat.le_of_ble_eq_true rfl) (Nat.le_of_ble_eq_true rfl) (k_X3_zeroHeight hX r0 (by omega) σ hp1) dX3_heightAt_1 rfl rfl ?_
  refine g_istore (pc := 4) [(4, .int p1), (0, .ref (am_ad X 3 r0)), (1, .long v1), (3, .int (am_b v3))] dX3_heightAt_4 (Nat.le_of_ble_eq_true rfl) rfl ?_
  refine g_iconst (pc := 6) (v := 0) dX3_heightAt_6 (by decide) ?_
  refine g_istore (pc := 7) [(5, .int 0), (4, .int p1), (0, .ref (am_ad X 3 r0)), (1, .long v1), (3, .int (am_b v3))] dX3_heightAt_7 (Nat.le_of_ble_eq_true rfl) rfl ?_
  obtain ⟨w2, hw2, hf⟩ := am_bd hf
  refine am_sub [2, 3, 4, 1, 0] rfl (l_X3_heightAt_9 hX r0 v1 v3 (by omega) σ (p1, 0) hw2 ?_)
  intro t e
  subst e
  refine g_iload (pc := 63) 0 rfl dX3_heightAt_63 ?_
  have ho := Option.some.inj hf
  subst ho
  exact g_ireturn (pc := 65) (st := []) rfl dX3_heightAt_65 hk
theorem k_X3_heightAt {X : am_X} (hX : am_wC X) (r0 : Nat) (v1 : Int64) (v3 : Bool) (hr0 : r0 < 3) (σ : am_H) {o : Int32} (hf : f_X3_heightAt r0 v1 v3 σ = some o) : am_C X gm_X3_heightAt [.ref (am_ad X 3 r0), .long v1, .int (am_b v3)] σ (am_is (some (.int o)) σ) :=
  am_ofG rfl (Nat.le_of_ble_eq_true rfl) rfl (q_X3_heightAt hX r0 v1 v3 hr0 σ hf ⟨rfl, rfl⟩)
theorem dX1_isGap_0 : decode cX1_isGap 0 = .ok (.aload_n 0, 1) := by decide +kernel
theorem dX1_isGap_1 : decode cX1_isGap 1 = .ok (.getfield 15, 3) := by decide +kernel
theorem dX1_isGap_4 : decode cX1_isGap 4 = .ok (.iload_n 1, 1) := by decide +kernel
theorem dX1_isGap_5 : decode cX1_isGap 5 = .ok (.iaload, 1) := by decide +kernel
theorem dX1_isGap_6 : decode cX1_isGap 6 = .ok (.sipush 1000, 3) := by decide +kernel
theorem dX1_isGap_9 : decode cX1_isGap 9 = .ok (.if_icmp .ne 7, 3) := by decide +kernel
theorem dX1_isGap_12 : decode cX1_isGap 12 = .ok (.iconst 1, 1) := by decide +kernel
theorem dX1_isGap_13 : decode cX1_isGap 13 = .ok (.goto 4, 3) := by decide +kernel
theorem dX1_isGap_16 : decode cX1_isGap 16 = .ok (.iconst 0, 1) := by decide +kernel
theorem dX1_isGap_17 : decode cX1_isGap 17 = .ok (.ireturn, 1) := by decide +kernel
noncomputable def f_X1_isGap (r0 : Nat) (v1 : Int32) (σ : am_H) : Option (Bool) :=
  (am_ix 24 v1).bind fun j1 =>
  if (σ.1 202 r0 j1) = 1000 then
   (some true)
  else
  some false
set_option maxRecDepth 100000 in
set_option maxHeartbeats 4000000 in
theorem q_X1_isGap {X : am_X} (hX : am_wC X) {Q : Option Value → am_H → Prop} (r0 : Nat) (v1 : Int32) (hr0 : r0 < 2) (σ : am_H) {o : Bool} (hf : f_X1_isGap r0 v1 σ = some o) (hk : Q (some (.int (am_b o))) σ) : am_G X gm_X1_isGap Q 0 [(0, .ref (am_ad X 1 r0)), (1, .int v1)] [] σ := by
  unfold f_X1_isGap at hf
  refine g_aload_n (pc := 0) 0 rfl dX1_isGap_0 rfl ?_
  refine g_getC (pc := 1) (e := r0) (in_1 hX.1 (by omega)) fr_X1_15 dX1_isGap_1 rfl ?_
  refine g_iload_n (pc := 4) 1 rfl dX1_isGap_4 rfl ?_
  obtain ⟨j1, hj1, hf⟩ := am_bd hf
  have gj1 := am_ix_lt hj1
  refine g_aI (pc := 5) (in_202 hX.1 (by omega)) ak_202 hj1 dX1_isGap_5 ?_
  refine g_sipush (pc := 6) (v := 1000) dX1_isGap_6 (by decide) ?_
  refine bi_ne (pc := 9) 16 dX1_isGap_9 rfl (fun c2 => ?_) (fun c2 => ?_)
  · replace hf := am_ifT c2 hf
    refine g_iconst (pc := 12) (v := 1) dX1_isGap_12 (by decide) ?_
    refine g_goto (pc := 13) 17 dX1_isGap_13 rfl ?_
    have ho := Option.some.inj hf
    subst ho
    exact g_zreturn (pc := 17) (st := []) (x := true) rfl dX1_isGap_17 hk
  replace hf := am_ifF c2 hf
  refine g_iconst (pc := 16) (v := 0) dX1_isGap_16 (by decide) ?_
  have ho := Option.some.inj hf
  subst ho
  exact g_zreturn (pc := 17) (st := []) (x := false) rfl dX1_isGap_17 hk
theorem k_X1_isGap {X : am_X} (hX : am_wC X) (r0 : Nat) (v1 : Int32) (hr0 : r0 < 2) (σ : am_H) {o : Bool} (hf : f_X1_isGap r0 v1 σ = some o) : am_C X gm_X1_isGap [.ref (am_ad X 1 r0), .int v1] σ (am_is (some (.int (am_b o))) σ) :=
  am_ofG rfl (Nat.le_of_ble_eq_true rfl) rfl (q_X1_isGap hX r0 v1 hr0 σ hf ⟨rfl, rfl⟩)
theorem dX1_missOf_0 : decode cX1_missOf 0 = .ok (.aload_n 0, 1) := by decide +kernel
theorem dX1_missOf_1 : decode cX1_missOf 1 = .ok (.iload_n 1, 1) := by decide +kernel
theorem dX1_missOf_2 : decode cX1_missOf 2 = .ok (.invokevirtual 53, 3) := by decide +kernel
theorem dX1_missOf_5 : decode cX1_missOf 5 = .ok (.ifCond .eq 7, 3) := by decide +kernel
theorem dX1_missOf_8 : decode cX1_missOf 8 = .ok (.iconst 0, 1) := by decide +kernel
theorem dX1_missOf_9 : decode cX1_missOf 9 = .ok (.goto 14, 3) := by decide +kernel
theorem dX1_missOf_12 : decode cX1_missOf 12 = .ok (.aload_n 0, 1) := by decide +kernel
theorem dX1_missOf_13 : decode cX1_missOf 13 = .ok (.getfield 15, 3) := by decide +kernel
theorem dX1_missOf_16 : decode cX1_missOf 16 = .ok (.iload_n 1, 1) := by decide +kernel
theorem dX1_missOf_17 : decode cX1_missOf 17 = .ok (.iaload, 1) := by decide +kernel
theorem dX1_missOf_18 : decode cX1_missOf 18 = .ok (.iload_n 2, 1) := by decide +kernel
theorem dX1_missOf_19 : decode cX1_missOf 19 = .ok (.isub, 1) := by decide +kernel
theorem dX1_missOf_20 : decode cX1_missOf 20 = .ok (.invokestatic 57, 3) := by decide +kernel
theorem dX1_missOf_23 : decode cX1_missOf 23 = .ok (.ireturn, 1) := by decide +kernel
noncomputable def f_X1_missOf (r0 : Nat) (v1 : Int32) (v2 : Int32) (σ : am_H) : Option (Int32) :=
  (f_X1_isGap r0 v1 σ).bind fun p1 =>
  if p1 = true then
   (some 0)
  else
  (am_ix 24 v1).bind fun j3 =>
  some (am_ab ((σ.1 202 r0 j3) - v2))
set_option maxRecDepth 100000 in
set_option maxHeartbeats 4000000 in
theorem q_X1_missOf {X : am_X} (hX : am_wC X) {Q : Option Value → am_H → Prop} (r0 : Nat) (v1 : Int32) (v2 : Int32) (hr0 : r0 < 2) (σ : am_H) {o : Int32} (hf : f_X1_missOf r0 v1 v2 σ = some o) (hk : Q (some (.int o)) σ) : am_G X gm_X1_missOf Q 0 [(0, .ref (am_ad X 1 r0)), (1, .int v1), (2, .int v2)] [] σ := by
  unfold f_X1_missOf at hf
  refine g_aload_n (pc := 0) 0 rfl dX1_missOf_0 rfl ?_
  refine g_iload_n (pc := 1) 1 rfl dX1_missOf_1 rfl ?_
  obtain ⟨p1, hp1, hf⟩ := am_bd hf
  refine g_cV (pc := 2) (As := [.int v1]) (st := []) (st1 := [.int (am_b p1)]) (in_1 hX.1 (by omega)) kk_1 mV_X1_isGap ln_X1_53 rfl (Nat.le_of_ble_eq_true rfl) (Nat.le_of_ble_eq_true rfl) (k_X1_isGap hX r0 v1 (by omega) σ hp1) dX1_missOf_2 rfl rfl ?_
  refine bt_eq (pc := 5) 12 dX1_missOf_5 rfl (fun c2 => ?_) (fun c2 => ?_)
  · replace hf := am_ifT c2 hf
    refine g_iconst (pc := 8) (v := 0) dX1_missOf_8 (by decide) ?_
    refine g_goto (pc := 9) 23 dX1_missOf_9 rfl ?_
    have ho := Option.some.inj hf
    subst ho
    exact g_ireturn (pc := 23) (st := []) rfl dX1_missOf_23 hk
  replace hf := am_ifF c2 hf
  refine g_aload_n (pc := 12) 0 rfl dX1_missOf_12 rfl ?_
  refine g_getC (pc := 13) (e := r0) (in_1 hX.1 (by omega)) fr_X1_15 dX1_missOf_13 rfl ?_
  refine g_iload_n (pc := 16) 1 rfl dX1_missOf_16 rfl ?_
  obtain ⟨j3, hj3, hf⟩ := am_bd hf
  have gj3 := am_ix_lt hj3
  refine g_aI (pc := 17) (in_202 hX.1 (by omega)) ak_202 hj3 dX1_missOf_17 ?_
  refine g_iload_n (pc := 18) 2 rfl dX1_missOf_18 rfl ?_
  refine g_isub (pc := 19) dX1_missOf_19 ?_
  refine g_mabs (pc := 20) (Nat.le_of_ble_eq_true rfl) (Nat.le_of_ble_eq_true rfl) sp_X1_57 dX1_missOf_20 ?_
  have ho := Option.some.inj hf
  subst ho
  exact g_ireturn (pc := 23) (st := []) rfl dX1_missOf_23 hk
theorem k_X1_missOf {X : am_X} (hX : am_wC X) (r0 : Nat) (v1 : Int32) (v2 : Int32) (hr0 : r0 < 2) (σ : am_H) {o : Int32} (hf : f_X1_missOf r0 v1 v2 σ = some o) : am_C X gm_X1_missOf [.ref (am_ad X 1 r0), .int v1, .int v2] σ (am_is (some (.int o)) σ) :=
  am_ofG rfl (Nat.le_of_ble_eq_true rfl) rfl (q_X1_missOf hX r0 v1 v2 hr0 σ hf ⟨rfl, rfl⟩)
theorem dX0_trySlip_0 : decode cX0_trySlip 0 = .ok (.iconst 0, 1) := by decide +kernel
theorem dX0_trySlip_1 : decode cX0_trySlip 1 = .ok (.istore 5, 2) := by decide +kernel
theorem dX0_trySlip_3 : decode cX0_trySlip 3 = .ok (.iconst 0, 1) := by decide +kernel
theorem dX0_trySlip_4 : decode cX0_trySlip 4 = .ok (.istore 6, 2) := by decide +kernel
theorem dX0_trySlip_6 : decode cX0_trySlip 6 = .ok (.iload 6, 2) := by decide +kernel
theorem dX0_trySlip_8 : decode cX0_trySlip 8 = .ok (.aload_n 2, 1) := by decide +kernel
theorem dX0_trySlip_9 : decode cX0_trySlip 9 = .ok (.getfield 34, 3) := by decide +kernel
theorem dX0_trySlip_12 : decode cX0_trySlip 12 = .ok (.if_icmp .ge 78, 3) := by decide +kernel
theorem dX0_trySlip_15 : decode cX0_trySlip 15 = .ok (.iconst 0, 1) := by decide +kernel
theorem dX0_trySlip_16 : decode cX0_trySlip 16 = .ok (.aload_n 2, 1) := by decide +kernel
theorem dX0_trySlip_17 : decode cX0_trySlip 17 = .ok (.getfield 39, 3) := by decide +kernel
theorem dX0_trySlip_20 : decode cX0_trySlip 20 = .ok (.iload 6, 2) := by decide +kernel
theorem dX0_trySlip_22 : decode cX0_trySlip 22 = .ok (.iaload, 1) := by decide +kernel
theorem dX0_trySlip_23 : decode cX0_trySlip 23 = .ok (.iload 4, 2) := by decide +kernel
theorem dX0_trySlip_25 : decode cX0_trySlip 25 = .ok (.iadd, 1) := by decide +kernel
theorem dX0_trySlip_26 : decode cX0_trySlip 26 = .ok (.invokestatic 66, 3) := by decide +kernel
theorem dX0_trySlip_29 : decode cX0_trySlip 29 = .ok (.istore 7, 2) := by decide +kernel
theorem dX0_trySlip_31 : decode cX0_trySlip 31 = .ok (.aload_n 0, 1) := by decide +kernel
theorem dX0_trySlip_32 : decode cX0_trySlip 32 = .ok (.getfield 18, 3) := by decide +kernel
theorem dX0_trySlip_35 : decode cX0_trySlip 35 = .ok (.iload 6, 2) := by decide +kernel
theorem dX0_trySlip_37 : decode cX0_trySlip 37 = .ok (.aload_n 2, 1) := by decide +kernel
theorem dX0_trySlip_38 : decode cX0_trySlip 38 = .ok (.iload 6, 2) := by decide +kernel
theorem dX0_trySlip_40 : decode cX0_trySlip 40 = .ok (.iload_n 3, 1) := by decide +kernel
theorem dX0_trySlip_41 : decode cX0_trySlip 41 = .ok (.ifCond .eq 17, 3) := by decide +kernel
theorem dX0_trySlip_44 : decode cX0_trySlip 44 = .ok (.aload_n 1, 1) := by decide +kernel
theorem dX0_trySlip_45 : decode cX0_trySlip 45 = .ok (.iload 7, 2) := by decide +kernel
theorem dX0_trySlip_47 : decode cX0_trySlip 47 = .ok (.i2l, 1) := by decide +kernel
theorem dX0_trySlip_48 : decode cX0_trySlip 48 = .ok (.iconst 0, 1) := by decide +kernel
theorem dX0_trySlip_49 : decode cX0_trySlip 49 = .ok (.invokevirtual 42, 3) := by decide +kernel
theorem dX0_trySlip_52 : decode cX0_trySlip 52 = .ok (.bipush 12, 2) := by decide +kernel
theorem dX0_trySlip_54 : decode cX0_trySlip 54 = .ok (.idiv, 1) := by decide +kernel
theorem dX0_trySlip_55 : decode cX0_trySlip 55 = .ok (.goto 13, 3) := by decide +kernel
theorem dX0_trySlip_58 : decode cX0_trySlip 58 = .ok (.aload_n 0, 1) := by decide +kernel
theorem dX0_trySlip_59 : decode cX0_trySlip 59 = .ok (.getfield 9, 3) := by decide +kernel
theorem dX0_trySlip_62 : decode cX0_trySlip 62 = .ok (.iload 6, 2) := by decide +kernel
theorem dX0_trySlip_64 : decode cX0_trySlip 64 = .ok (.iaload, 1) := by decide +kernel
theorem dX0_trySlip_65 : decode cX0_trySlip 65 = .ok (.iload 4, 2) := by decide +kernel
theorem dX0_trySlip_67 : decode cX0_trySlip 67 = .ok (.iadd, 1) := by decide +kernel
theorem dX0_trySlip_68 : decode cX0_trySlip 68 = .ok (.invokevirtual 48, 3) := by decide +kernel
theorem dX0_trySlip_71 : decode cX0_trySlip 71 = .ok (.iastore, 1) := by decide +kernel
theorem dX0_trySlip_72 : decode cX0_trySlip 72 = .ok (.iload 5, 2) := by decide +kernel
theorem dX0_trySlip_74 : decode cX0_trySlip 74 = .ok (.aload_n 0, 1) := by decide +kernel
theorem dX0_trySlip_75 : decode cX0_trySlip 75 = .ok (.getfield 18, 3) := by decide +kernel
theorem dX0_trySlip_78 : decode cX0_trySlip 78 = .ok (.iload 6, 2) := by decide +kernel
theorem dX0_trySlip_80 : decode cX0_trySlip 80 = .ok (.iaload, 1) := by decide +kernel
theorem dX0_trySlip_81 : decode cX0_trySlip 81 = .ok (.iadd, 1) := by decide +kernel
theorem dX0_trySlip_82 : decode cX0_trySlip 82 = .ok (.istore 5, 2) := by decide +kernel
theorem dX0_trySlip_84 : decode cX0_trySlip 84 = .ok (.iinc 6 1, 3) := by decide +kernel
theorem dX0_trySlip_87 : decode cX0_trySlip 87 = .ok (.goto (-81), 3) := by decide +kernel
theorem dX0_trySlip_90 : decode cX0_trySlip 90 = .ok (.iconst 0, 1) := by decide +kernel
theorem dX0_trySlip_91 : decode cX0_trySlip 91 = .ok (.istore 6, 2) := by decide +kernel
theorem dX0_trySlip_93 : decode cX0_trySlip 93 = .ok (.iload 6, 2) := by decide +kernel
theorem dX0_trySlip_95 : decode cX0_trySlip 95 = .ok (.aload_n 2, 1) := by decide +kernel
theorem dX0_trySlip_96 : decode cX0_trySlip 96 = .ok (.getfield 34, 3) := by decide +kernel
theorem dX0_trySlip_99 : decode cX0_trySlip 99 = .ok (.if_icmp .ge 56, 3) := by decide +kernel
theorem dX0_trySlip_102 : decode cX0_trySlip 102 = .ok (.iload 5, 2) := by decide +kernel
theorem dX0_trySlip_104 : decode cX0_trySlip 104 = .ok (.aload_n 0, 1) := by decide +kernel
theorem dX0_trySlip_105 : decode cX0_trySlip 105 = .ok (.getfield 31, 3) := by decide +kernel
theorem dX0_trySlip_108 : decode cX0_trySlip 108 = .ok (.if_icmp .ge 21, 3) := by decide +kernel
theorem dX0_trySlip_111 : decode cX0_trySlip 111 = .ok (.aload_n 0, 1) := by decide +kernel
theorem dX0_trySlip_112 : decode cX0_trySlip 112 = .ok (.iload 5, 2) := by decide +kernel
theorem dX0_trySlip_114 : decode cX0_trySlip 114 = .ok (.putfield 31, 3) := by decide +kernel
theorem dX0_trySlip_117 : decode cX0_trySlip 117 = .ok (.aload_n 0, 1) := by decide +kernel
theorem dX0_trySlip_118 : decode cX0_trySlip 118 = .ok (.iload 6, 2) := by decide +kernel
theorem dX0_trySlip_120 : decode cX0_trySlip 120 = .ok (.putfield 56, 3) := by decide +kernel
theorem dX0_trySlip_123 : decode cX0_trySlip 123 = .ok (.aload_n 0, 1) := by decide +kernel
theorem dX0_trySlip_124 : decode cX0_trySlip 124 = .ok (.iload 4, 2) := by decide +kernel
theorem dX0_trySlip_126 : decode cX0_trySlip 126 = .ok (.putfield 59, 3) := by decide +kernel
theorem dX0_trySlip_129 : decode cX0_trySlip 129 = .ok (.iload 5, 2) := by decide +kernel
theorem dX0_trySlip_131 : decode cX0_trySlip 131 = .ok (.aload_n 0, 1) := by decide +kernel
theorem dX0_trySlip_132 : decode cX0_trySlip 132 = .ok (.getfield 15, 3) := by decide +kernel
theorem dX0_trySlip_135 : decode cX0_trySlip 135 = .ok (.iload 6, 2) := by decide +kernel
theorem dX0_trySlip_137 : decode cX0_trySlip 137 = .ok (.iaload, 1) := by decide +kernel
theorem dX0_trySlip_138 : decode cX0_trySlip 138 = .ok (.aload_n 0, 1) := by decide +kernel
theorem dX0_trySlip_139 : decode cX0_trySlip 139 = .ok (.getfield 18, 3) := by decide +kernel
theorem dX0_trySlip_142 : decode cX0_trySlip 142 = .ok (.iload 6, 2) := by decide +kernel
theorem dX0_trySlip_144 : decode cX0_trySlip 144 = .ok (.iaload, 1) := by decide +kernel
theorem dX0_trySlip_145 : decode cX0_trySlip 145 = .ok (.isub, 1) := by decide +kernel
theorem dX0_trySlip_146 : decode cX0_trySlip 146 = .ok (.iadd, 1) := by decide +kernel
theorem dX0_trySlip_147 : decode cX0_trySlip 147 = .ok (.istore 5, 2) := by decide +kernel
theorem dX0_trySlip_149 : decode cX0_trySlip 149 = .ok (.iinc 6 1, 3) := by decide +kernel
theorem dX0_trySlip_152 : decode cX0_trySlip 152 = .ok (.goto (-59), 3) := by decide +kernel
theorem dX0_trySlip_155 : decode cX0_trySlip 155 = .ok (.return_, 1) := by decide +kernel
noncomputable def f_X0_trySlip_68 (r1 : Nat) (r2 : Nat) (v3 : Bool) (v4 : Int32) (v5 : Int32) (v6 : Int32) (k1 : Int32) (k2 : Nat) (k3 : Int32) (k4 : Int32) (σ : am_H) : Option ((Int32 × Int32 × am_H) ⊕ (Int32 × am_H)) :=
  (f_X1_missOf k2 k3 k4 σ).bind fun p1 =>
  (am_ix 48 k1).bind fun j2 =>
  (some (am_wI σ 102 0 j2 p1)).bind fun s3 =>
  (am_ix 48 v6).bind fun j4 =>
  some (.inl ((v5 + (s3.1 102 0 j4)), (v6 + 1), s3))
set_option maxRecDepth 100000 in
set_option maxHeartbeats 4000000 in
theorem q_X0_trySlip_68 {X : am_X} (hX : am_wC X) {Q : Option Value → am_H → Prop} (r1 : Nat) (r2 : Nat) (v3 : Bool) (v4 : Int32) (v5 : Int32) (v6 : Int32) (k1 : Int32) (k2 : Nat) (k3 : Int32) (k4 : Int32) (hr1 : r1 < 3) (hr2 : r2 < 2) (hk2 : k2 < 2) (σ : am_H) {o : (Int32 × Int32 × am_H) ⊕ (Int32 × am_H)} (hf : f_X0_trySlip_68 r1 r2 v3 v4 v5 v6 k1 k2 k3 k4 σ = some o) (hk0 : ∀ s, o = .inl s → am_G X gm_X0_trySlip Q 6 [(0, .ref (am_ad X 0 0)), (1, .ref (am_ad X 3 r1)), (2, .ref (am_ad X 1 r2)), (3, .int (am_b v3)), (4, .int v4), (5, .int s.1), (6, .int s.2.1)] [] s.2.2) (hk1 : ∀ t, o = .inr t → am_G X gm_X0_trySlip Q 90 [(0, .ref (am_ad X 0 0)), (2, .ref (am_ad X 1 r2)), (4, .int v4), (5, .int t.1)] [] t.2) : am_G X gm_X0_trySlip Q 68 [(0, .ref (am_ad X 0 0)), (1, .ref (am_ad X 3 r1)), (2, .ref (am_ad X 1 r2)), (3, .int (am_b v3)), (4, .int v4), (5, .int v5), (6, .int v6)] [.int k4, .int k3, .ref (am_ad X 1 k2), .int k1, .ref (am_ad X 102 0)] σ := by
  unfold f_X0_trySlip_68 at hf
  obtain ⟨p1, hp1, hf⟩ := am_bd hf
  refine g_cV (pc := 68) (As := [.int k3, .int k4]) (st := [.int k1, .ref (am_ad X 102 0)]) (st1 := [.int p1, .int k1, .ref (am_ad X 102 0)]) (in_1 hX.1 (by omega)) kk_1 mV_X1_missOf ln_X0_48 rfl (Nat.le_of_ble_eq_true rfl) (Nat.le_of_ble_eq_true rfl) (k_X1_missOf hX k2 k3 k4 (by omega) σ hp1) dX0_trySlip_68 rfl rfl ?_
  obtain ⟨j2, hj2, hf⟩ := am_bd hf
  have gj2 := am_ix_lt hj2
  obtain ⟨s3, hs3, hf⟩ := am_bd hf
  refine g_sI (pc := 71) (in_102 hX.1 (by omega)) ak_102 hj2 dX0_trySlip_71 (Option.some.inj hs3) ?_
  refine g_iload (pc := 72) 5 rfl dX0_trySlip_72 ?_
  refine g_aload_n (pc := 74) 0 rfl dX0_trySlip_74 rfl ?_
  refine g_getC (pc := 75) (e := 0) (in_0 hX.1 (by omega)) fr_X0_18 dX0_trySlip_75 rfl ?_
  refine g_iload (pc := 78) 6 rfl dX0_trySlip_78 ?_
  obtain ⟨j4, hj4, hf⟩ := am_bd hf
  have gj4 := am_ix_lt hj4
  refine g_aI (pc := 80) (in_102 hX.1 (by omega)) ak_102 hj4 dX0_trySlip_80 ?_
  refine g_iadd (pc := 81) dX0_trySlip_81 ?_
  refine g_istore (pc := 82) [(5, .int (v5 + (s3.1 102 0 j4))), (0, .ref (am_ad X 0 0)), (1, .ref (am_ad X 3 r1)), (2, .ref (am_ad X 1 r2)), (3, .int (am_b v3)), (4, .int v4), (6, .int v6)] dX0_trySlip_82 (Nat.le_of_ble_eq_true rfl) rfl ?_
  refine g_iinc (pc := 84) (v := (v6 + 1)) 6 [(6, .int (v6 + 1)), (5, .int (v5 + (s3.1 102 0 j4))), (0, .ref (am_ad X 0 0)), (1, .ref (am_ad X 3 r1)), (2, .ref (am_ad X 1 r2)), (3, .int (am_b v3)), (4, .int v4)] dX0_trySlip_84 rfl rfl (Nat.le_of_ble_eq_true rfl) rfl ?_
  refine g_goto (pc := 87) 6 dX0_trySlip_87 rfl ?_
  have hz := hk0 _ (Option.some.inj hf).symm
  exact am_sub [2, 3, 4, 5, 6, 1, 0] rfl hz
noncomputable def f_X0_trySlip_6 (r1 : Nat) (r2 : Nat) (v3 : Bool) (v4 : Int32) (v5 : Int32) (v6 : Int32) (σ : am_H) : Option ((Int32 × Int32 × am_H) ⊕ (Int32 × am_H)) :=
  if v6 < (σ.1 1 r2 0) then
   ((am_ix 24 v6).bind fun j2 =>
   if v3 = true then
    ((f_X3_heightAt r1 (Int32.toInt64 (am_mx 0 ((σ.1 201 r2 j2) + v4))) false σ).bind fun p4 =>
    f_X0_trySlip_68 r1 r2 v3 v4 v5 v6 v6 r2 v6 (p4 / 12) σ)
   else
   (am_ix 48 v6).bind fun j5 =>
   f_X0_trySlip_68 r1 r2 v3 v4 v5 v6 v6 r2 v6 ((σ.1 100 0 j5) + v4) σ)
  else
  some (.inr (v5, σ))
set_option maxRecDepth 100000 in
set_option maxHeartbeats 4000000 in
theorem q_X0_trySlip_6 {X : am_X} (hX : am_wC X) {Q : Option Value → am_H → Prop} (r1 : Nat) (r2 : Nat) (v3 : Bool) (v4 : Int32) (v5 : Int32) (v6 : Int32) (hr1 : r1 < 3) (hr2 : r2 < 2) (σ : am_H) {o : (Int32 × Int32 × am_H) ⊕ (Int32 × am_H)} (hf : f_X0_trySlip_6 r1 r2 v3 v4 v5 v6 σ = some o) (hk0 : ∀ s, o = .inl s → am_G X gm_X0_trySlip Q 6 [(0, .ref (am_ad X 0 0)), (1, .ref (am_ad X 3 r1)), (2, .ref (am_ad X 1 r2)), (3, .int (am_b v3)), (4, .int v4), (5, .int s.1), (6, .int s.2.1)] [] s.2.2) (hk1 : ∀ t, o = .inr t → am_G X gm_X0_trySlip Q 90 [(0, .ref (am_ad X 0 0)), (2, .ref (am_ad X 1 r2)), (4, .int v4), (5, .int t.1)] [] t.2) : am_G X gm_X0_trySlip Q 6 [(0, .ref (am_ad X 0 0)), (1, .ref (am_ad X 3 r1)), (2, .ref (am_ad X 1 r2)), (3, .int (am_b v3)), (4, .int v4), (5, .int v5), (6, .int v6)] [] σ := by
  unfold f_X0_trySlip_6 at hf
  refine g_iload (pc := 6) 6 rfl dX0_trySlip_6 ?_
  refine g_aload_n (pc := 8) 2 rfl dX0_trySlip_8 rfl ?_
  refine g_getI (pc := 9) (in_1 hX.1 (by omega)) fr_X0_34 dX0_trySlip_9 ?_
  refine bi_ge (pc := 12) 90 dX0_trySlip_12 rfl (fun c1 => ?_) (fun c1 => ?_)
  · replace hf := am_ifT c1 hf
    refine g_iconst (pc := 15) (v := 0) dX0_trySlip_15 (by decide) ?_
    refine g_aload_n (pc := 16) 2 rfl dX0_trySlip_16 rfl ?_
    refine g_getC (pc := 17) (e := r2) (in_1 hX.1 (by omega)) fr_X0_39 dX0_trySlip_17 rfl ?_
    refine g_iload (pc := 20) 6 rfl dX0_trySlip_20 ?_
    obtain ⟨j2, hj2, hf⟩ := am_bd hf
    have gj2 := am_ix_lt hj2
    refine g_aI (pc := 22) (in_201 hX.1 (by omega)) ak_201 hj2 dX0_trySlip_22 ?_
    refine g_iload (pc := 23) 4 rfl dX0_trySlip_23 ?_
    refine g_iadd (pc := 25) dX0_trySlip_25 ?_
    refine g_mmax (pc := 26) (Nat.le_of_ble_eq_true rfl) (Nat.le_of_ble_eq_true rfl) sp_X0_66 dX0_trySlip_26 ?_
    refine g_istore (pc := 29) [(7, .int (am_mx 0 ((σ.1 201 r2 j2) + v4))), (0, .ref (am_ad X 0 0)), (1, .ref (am_ad X 3 r1)), (2, .ref (am_ad X 1 r2)), (3, .int (am_b v3)), (4, .int v4), (5, .int v5), (6, .int v6)] dX0_trySlip_29 (Nat.le_of_ble_eq_true rfl) rfl ?_
    refine g_aload_n (pc := 31) 1 rfl dX0_trySlip_31 rfl ?_
    refine g_getC (pc := 32) (e := 0) (in_0 hX.1 (by omega)) fr_X0_18 dX0_trySlip_32 rfl ?_
    refine g_iload (pc := 35) 7 rfl dX0_trySlip_35 ?_
    refine g_aload_n (pc := 37) 3 rfl dX0_trySlip_37 rfl ?_
    refine g_iload (pc := 38) 7 rfl dX0_trySlip_38 ?_
    refine g_iload_n (pc := 40) 4 rfl dX0_trySlip_40 rfl ?_
    refine bt_eq (pc := 41) 58 dX0_trySlip_41 rfl (fun c3 => ?_) (fun c3 => ?_)
    · replace hf := am_ifT c3 hf
      refine g_aload_n (pc := 44) 2 rfl dX0_trySlip_44 rfl ?_
      refine g_iload (pc := 45) 0 rfl dX0_trySlip_45 ?_
      refine g_i2l (pc := 47) dX0_trySlip_47 ?_
      refine g_iconst (pc := 48) (v := 0) dX0_trySlip_48 (by decide) ?_
      obtain ⟨p4, hp4, hf⟩ := am_bd hf
      refine g_cV (pc := 49) (As := [.long (Int32.toInt64 (am_mx 0 ((σ.1 201 r2 j2) + v4))), .int (am_b false)]) (st := [.int v6, .ref (am_ad X 1 r2), .int v6, .ref (am_ad X 102 0)]) (st1 := [.int p4, .int v6, .ref (am_ad X 1 r2), .int v6, .ref (am_ad X 102 0)]) (in_3 hX.1 (by omega)) kk_3 mV_X3_heightAt ln_X0_42 rfl (Nat.le_of_ble_eq_true rfl) (Nat.le_of_ble_eq_true rfl) (k_X3_heightAt hX r1 (Int32.toInt64 (am_mx 0 ((σ.1 201 r2 j2) + v4))) false (by omega) σ hp4) dX0_trySlip_49 rfl rfl ?_
      refine g_bipush (pc := 52) (v := 12) dX0_trySlip_52 (by decide) ?_
      refine g_idiv (pc := 54) dX0_trySlip_54 (by decide) ?_
      refine g_goto (pc := 55) 68 dX0_trySlip_55 rfl ?_
      exact am_sub [1, 2, 3, 4, 5, 6, 7] rfl (q_X0_trySlip_68 hX r1 r2 v3 v4 v5 v6 v6 r2 v6 (p4 / 12) (by omega) (by omega) (by omega) σ hf hk0 hk1)
    replace hf := am_ifF c3 hf
    refine g_aload_n (pc := 58) 1 rfl dX0_trySlip_58 rfl ?_
    refine g_getC (pc := 59) (e := 0) (in_0 hX.1 (by omega)) fr_X0_9 dX0_trySlip_59 rfl ?_
    refine g_iload (pc := 62) 7 rfl dX0_trySlip_62 ?_
    obtain ⟨j5, hj5, hf⟩ := am_bd hf
    have gj5 := am_ix_lt hj5
    refine g_aI (pc := 64) (in_100 hX.1 (by omega)) ak_100 hj5 dX0_trySlip_64 ?_
    refine g_iload (pc := 65) 5 rfl dX0_trySlip_65 ?_
    refine g_iadd (pc := 67) dX0_trySlip_67 ?_
    exact am_sub [1, 2, 3, 4, 5, 6, 7] rfl (q_X0_trySlip_68 hX r1 r2 v3 v4 v5 v6 v6 r2 v6 ((σ.1 100 0 j5) + v4) (by omega) (by omega) (by omega) σ hf hk0 hk1)
  replace hf := am_ifF c1 hf
  have hz := hk1 _ (Option.some.inj hf).symm
  exact am_sub [0, 2, 4, 5] rfl hz
set_option maxRecDepth 100000 in
set_option maxHeartbeats 4000000 in
theorem l_X0_trySlip_6 {X : am_X} (hX : am_wC X) {Q : Option Value → am_H → Prop} (r1 : Nat) (r2 : Nat) (v3 : Bool) (v4 : Int32) (hr1 : r1 < 3) (hr2 : r2 < 2) (σ : am_H) (s : Int32 × Int32 × am_H) {o : Int32 × am_H} (hf : am_loop (fun s => f_X0_trySlip_6 r1 r2 v3 v4 s.1 s.2.1 s.2.2) s = some o) (hk1 : ∀ t, o = t → am_G X gm_X0_trySlip Q 90 [(0, .ref (am_ad X 0 0)), (2, .ref (am_ad X 1 r2)), (4, .int v4), (5, .int t.1)] [] t.2) : am_G X gm_X0_trySlip Q 6 [(0, .ref (am_ad X 0 0)), (1, .ref (am_ad X 3 r1)), (2, .ref (am_ad X 1 r2)), (3, .int (am_b v3)), (4, .int v4), (5, .int s.1), (6, .int s.2.1)] [] s.2.2 := by
  refine am_loop_ind (P := fun s => am_G X gm_X0_trySlip Q 6 [(0, .ref (am_ad X 0 0)), (1, .ref (am_ad X 3 r1)), (2, .ref (am_ad X 1 r2)), (3, .int (am_b v3)), (4, .int v4), (5, .int s.1), (6, .int s.2.1)] [] s.2.2) (K := fun r => r = o) ?_ hf rfl
  intro s o1 hb hi hr
  exact q_X0_trySlip_6 hX r1 r2 v3 v4 s.1 s.2.1  hr1 hr2 s.2.2 hb hi (fun t e => hk1 t (hr _ e).symm)
noncomputable def f_X0_trySlip_129 (r2 : Nat) (v4 : Int32) (v5 : Int32) (v6 : Int32) (σ : am_H) : Option ((Int32 × Int32 × am_H) ⊕ (am_H)) :=
  (am_ix 24 v6).bind fun j1 =>
  (am_ix 48 v6).bind fun j2 =>
  some (.inl ((v5 + ((σ.1 101 0 j1) - (σ.1 102 0 j2))), (v6 + 1), σ))
set_option maxRecDepth 100000 in
set_option maxHeartbeats 4000000 in
theorem q_X0_trySlip_129 {X : am_X} (hX : am_wC X) {Q : Option Value → am_H → Prop} (r2 : Nat) (v4 : Int32) (v5 : Int32) (v6 : Int32) (hr2 : r2 < 2) (σ : am_H) {o : (Int32 × Int32 × am_H) ⊕ (am_H)} (hf : f_X0_trySlip_129 r2 v4 v5 v6 σ = some o) (hk0 : ∀ s, o = .inl s → am_G X gm_X0_trySlip Q 93 [(0, .ref (am_ad X 0 0)), (2, .ref (am_ad X 1 r2)), (4, .int v4), (5, .int s.1), (6, .int s.2.1)] [] s.2.2) (hk1 : ∀ t, o = .inr t → am_G X gm_X0_trySlip Q 155 [] [] t) : am_G X gm_X0_trySlip Q 129 [(0, .ref (am_ad X 0 0)), (2, .ref (am_ad X 1 r2)), (4, .int v4), (5, .int v5), (6, .int v6)] [] σ := by
  unfold f_X0_trySlip_129 at hf
  refine g_iload (pc := 129) 3 rfl dX0_trySlip_129 ?_
  refine g_aload_n (pc := 131) 0 rfl dX0_trySlip_131 rfl ?_
  refine g_getC (pc := 132) (e := 0) (in_0 hX.1 (by omega)) fr_X0_15 dX0_trySlip_132 rfl ?_
  refine g_iload (pc := 135) 4 rfl dX0_trySlip_135 ?_
  obtain ⟨j1, hj1, hf⟩ := am_bd hf
  have gj1 := am_ix_lt hj1
  refine g_aI (pc := 137) (in_101 hX.1 (by omega)) ak_101 hj1 dX0_trySlip_137 ?_
  refine g_aload_n (pc := 138) 0 rfl dX0_trySlip_138 rfl ?_
  refine g_getC (pc := 139) (e := 0) (in_0 hX.1 (by omega)) fr_X0_18 dX0_trySlip_139 rfl ?_
  refine g_iload (pc := 142) 4 rfl dX0_trySlip_142 ?_
  obtain ⟨j2, hj2, hf⟩ := am_bd hf
  have gj2 := am_ix_lt hj2
  refine g_aI (pc := 144) (in_102 hX.1 (by omega)) ak_102 hj2 dX0_trySlip_144 ?_
  refine g_isub (pc := 145) dX0_trySlip_145 ?_
  refine g_iadd (pc := 146) dX0_trySlip_146 ?_
  refine g_istore (pc := 147) [(5, .int (v5 + ((σ.1 101 0 j1) - (σ.1 102 0 j2)))), (0, .ref (am_ad X 0 0)), (2, .ref (am_ad X 1 r2)), (4, .int v4), (6, .int v6)] dX0_trySlip_147 (Nat.le_of_ble_eq_true rfl) rfl ?_
  refine g_iinc (pc := 149) (v := (v6 + 1)) 4 [(6, .int (v6 + 1)), (5, .int (v5 + ((σ.1 101 0 j1) - (σ.1 102 0 j2)))), (0, .ref (am_ad X 0 0)), (2, .ref (am_ad X 1 r2)), (4, .int v4)] dX0_trySlip_149 rfl rfl (Nat.le_of_ble_eq_true rfl) rfl ?_
  refine g_goto (pc := 152) 93 dX0_trySlip_152 rfl ?_
  have hz := hk0 _ (Option.some.inj hf).symm
  exact am_sub [2, 3, 4, 1, 0] rfl hz
noncomputable def f_X0_trySlip_93 (r2 : Nat) (v4 : Int32) (v5 : Int32) (v6 : Int32) (σ : am_H) : Option ((Int32 × Int32 × am_H) ⊕ (am_H)) :=
  if v6 < (σ.1 1 r2 0) then
   (if v5 < (σ.1 0 0 3) then
    ((some (am_wI σ 0 0 3 v5)).bind fun s3 =>
    (some (am_wI s3 0 0 5 v6)).bind fun s4 =>
    (some (am_wI s4 0 0 6 v4)).bind fun s5 =>
    f_X0_trySlip_129 r2 v4 v5 v6 s5)
   else
   f_X0_trySlip_129 r2 v4 v5 v6 σ)
  else
  some (.inr σ)
set_option maxRecDepth 100000 in
set_option maxHeartbeats 4000000 in
theorem q_X0_trySlip_93 {X : am_X} (hX : am_wC X) {Q : Option Value → am_H → Prop} (r2 : Nat) (v4 : Int32) (v5 : Int32) (v6 : Int32) (hr2 : r2 < 2) (σ : am_H) {o : (Int32 × Int32 × am_H) ⊕ (am_H)} (hf : f_X0_trySlip_93 r2 v4 v5 v6 σ = some o) (hk0 : ∀ s, o = .inl s → am_G X gm_X0_trySlip Q 93 [(0, .ref (am_ad X 0 0)), (2, .ref (am_ad X 1 r2)), (4, .int v4), (5, .int s.1), (6, .int s.2.1)] [] s.2.2) (hk1 : ∀ t, o = .inr t → am_G X gm_X0_trySlip Q 155 [] [] t) : am_G X gm_X0_trySlip Q 93 [(0, .ref (am_ad X 0 0)), (2, .ref (am_ad X 1 r2)), (4, .int v4), (5, .int v5), (6, .int v6)] [] σ := by
  unfold f_X0_trySlip_93 at hf
  refine g_iload (pc := 93) 4 rfl dX0_trySlip_93 ?_
  refine g_aload_n (pc := 95) 1 rfl dX0_trySlip_95 rfl ?_
  refine g_getI (pc := 96) (in_1 hX.1 (by omega)) fr_X0_34 dX0_trySlip_96 ?_
  refine bi_ge (pc := 99) 155 dX0_trySlip_99 rfl (fun c1 => ?_) (fun c1 => ?_)
  · replace hf := am_ifT c1 hf
    refine g_iload (pc := 102) 3 rfl dX0_trySlip_102 ?_
    refine g_aload_n (pc := 104) 0 rfl dX0_trySlip_104 rfl ?_
    refine g_getI (pc := 105) (in_0 hX.1 (by omega)) fr_X0_31 dX0_trySlip_105 ?_
    refine bi_ge (pc := 108) 129 dX0_trySlip_108 rfl (fun c2 => ?_) (fun c2 => ?_)
    · replace hf := am_ifT c2 hf
      refine g_aload_n (pc := 111) 0 rfl dX0_trySlip_111 rfl ?_
      refine g_iload (pc := 112) 3 rfl dX0_trySlip_112 ?_
      obtain ⟨s3, hs3, hf⟩ := am_bd hf
      refine g_setI (pc := 114) (in_0 hX.1 (by omega)) fr_X0_31 dX0_trySlip_114 (Option.some.inj hs3) ?_
      refine g_aload_n (pc := 117) 0 rfl dX0_trySlip_117 rfl ?_
      refine g_iload (pc := 118) 4 rfl dX0_trySlip_118 ?_
      obtain ⟨s4, hs4, hf⟩ := am_bd hf
      refine g_setI (pc := 120) (in_0 hX.1 (by omega)) fr_X0_56 dX0_trySlip_120 (Option.some.inj hs4) ?_
      refine g_aload_n (pc := 123) 0 rfl dX0_trySlip_123 rfl ?_
      refine g_iload (pc := 124) 2 rfl dX0_trySlip_124 ?_
      obtain ⟨s5, hs5, hf⟩ := am_bd hf
      refine g_setI (pc := 126) (in_0 hX.1 (by omega)) fr_X0_59 dX0_trySlip_126 (Option.some.inj hs5) ?_
      exact q_X0_trySlip_129 hX r2 v4 v5 v6 (by omega) s5 hf hk0 hk1
    replace hf := am_ifF c2 hf
    exact q_X0_trySlip_129 hX r2 v4 v5 v6 (by omega) σ hf hk0 hk1
  replace hf := am_ifF c1 hf
  have hz := hk1 _ (Option.some.inj hf).symm
  exact am_sub [] rfl hz
set_option maxRecDepth 100000 in
set_option maxHeartbeats 4000000 in
theorem l_X0_trySlip_93 {X : am_X} (hX : am_wC X) {Q : Option Value → am_H → Prop} (r2 : Nat) (v4 : Int32) (hr2 : r2 < 2) (σ : am_H) (s : Int32 × Int32 × am_H) {o : am_H} (hf : am_loop (fun s => f_X0_trySlip_93 r2 v4 s.1 s.2.1 s.2.2) s = some o) (hk1 : ∀ t, o = t → am_G X gm_X0_trySlip Q 155 [] [] t) : am_G X gm_X0_trySlip Q 93 [(0, .ref (am_ad X 0 0)), (2, .ref (am_ad X 1 r2)), (4, .int v4), (5, .int s.1), (6, .int s.2.1)] [] s.2.2 := by
  refine am_loop_ind (P := fun s => am_G X gm_X0_trySlip Q 93 [(0, .ref (am_ad X 0 0)), (2, .ref (am_ad X 1 r2)), (4, .int v4), (5, .int s.1), (6, .int s.2.1)] [] s.2.2) (K := fun r => r = o) ?_ hf rfl
  intro s o1 hb hi hr
  exact q_X0_trySlip_93 hX r2 v4 s.1 s.2.1  hr2 s.2.2 hb hi (fun t e => hk1 t (hr _ e).symm)
noncomputable def f_X0_trySlip (r1 : Nat) (r2 : Nat) (v3 : Bool) (v4 : Int32) (σ : am_H) : Option (am_H) :=
  (am_loop (fun s => f_X0_trySlip_6 r1 r2 v3 v4 s.1 s.2.1 s.2.2) (0, 0, σ)).bind fun w1 =>
  (am_loop (fun s => f_X0_trySlip_93 r2 v4 s.1 s.2.1 s.2.2) (w1.1, 0, w1.2)).bind fun w2 =>
  some w2
set_option maxRecDepth 100000 in
set_option maxHeartbeats 4000000 in
theorem q_X0_trySlip {X : am_X} (hX : am_wC X) {Q : Option Value → am_H → Prop} (r1 : Nat) (r2 : Nat) (v3 : Bool) (v4 : Int32) (hr1 : r1 < 3) (hr2 : r2 < 2) (σ : am_H) {o : am_H} (hf : f_X0_trySlip r1 r2 v3 v4 σ = some o) (hk : Q none o) : am_G X gm_X0_trySlip Q 0 [(0, .ref (am_ad X 0 0)), (1, .ref (am_ad X 3 r1)), (2, .ref (am_ad X 1 r2)), (3, .int (am_b v3)), (4, .int v4)] [] σ := by
  unfold f_X0_trySlip at hf
  refine g_iconst (pc := 0) (v := 0) dX0_trySlip_0 (by decide) ?_
  refine g_istore (pc := 1) [(5, .int 0), (0, .ref (am_ad X 0 0)), (1, .ref (am_ad X 3 r1)), (2, .ref (am_ad X 1 r2)), (3, .int (am_b v3)), (4, .int v4)] dX0_trySlip_1 (Nat.le_of_ble_eq_true rfl) rfl ?_
  refine g_iconst (pc := 3) (v := 0) dX0_trySlip_3 (by decide) ?_
  refine g_istore (pc := 4) [(6, .int 0), (5, .int 0), (0, .ref (am_ad X 0 0)), (1, .ref (am_ad X 3 r1)), (2, .ref (am_ad X 1 r2)), (3, .int (am_b v3)), (4, .int v4)] dX0_trySlip_4 (Nat.le_of_ble_eq_true rfl) rfl ?_
  obtain ⟨w1, hw1, hf⟩ := am_bd hf
  refine am_sub [2, 3, 4, 5, 6, 1, 0] rfl (l_X0_trySlip_6 hX r1 r2 v3 v4 (by omega) (by omega) σ (0, 0, σ) hw1 ?_)
  intro t e
  subst e
  refine g_iconst (pc := 90) (v := 0) dX0_trySlip_90 (by decide) ?_
  refine g_istore (pc := 91) [(6, .int 0), (0, .ref (am_ad X 0 0)), (2, .ref (am_ad X 1 r2)), (4, .int v4), (5, .int w1.1)] dX0_trySlip_91 (Nat.le_of_ble_eq_true rfl) rfl ?_
  obtain ⟨w2, hw2, hf⟩ := am_bd hf
  refine am_sub [1, 2, 3, 4, 0] rfl (l_X0_trySlip_93 hX r2 v4 (by omega) w1.2 (w1.1, 0, w1.2) hw2 ?_)
  intro t e
  subst e
  have ho := Option.some.inj hf
  subst ho
  exact g_vreturn (pc := 155) (st := []) rfl dX0_trySlip_155 hk
theorem k_X0_trySlip {X : am_X} (hX : am_wC X) (r1 : Nat) (r2 : Nat) (v3 : Bool) (v4 : Int32) (hr1 : r1 < 3) (hr2 : r2 < 2) (σ : am_H) {o : am_H} (hf : f_X0_trySlip r1 r2 v3 v4 σ = some o) : am_C X gm_X0_trySlip [.ref (am_ad X 0 0), .ref (am_ad X 3 r1), .ref (am_ad X 1 r2), .int (am_b v3), .int v4] σ (am_is none o) :=
  am_ofG rfl (Nat.le_of_ble_eq_true rfl) rfl (q_X0_trySlip hX r1 r2 v3 v4 hr1 hr2 σ hf ⟨rfl, rfl⟩)
theorem dX0_findSlip_0 : decode cX0_findSlip 0 = .ok (.aload_n 0, 1) := by decide +kernel
theorem dX0_findSlip_1 : decode cX0_findSlip 1 = .ok (.iconst 0, 1) := by decide +kernel
theorem dX0_findSlip_2 : decode cX0_findSlip 2 = .ok (.putfield 31, 3) := by decide +kernel
theorem dX0_findSlip_5 : decode cX0_findSlip 5 = .ok (.iconst 0, 1) := by decide +kernel
theorem dX0_findSlip_6 : decode cX0_findSlip 6 = .ok (.istore 4, 2) := by decide +kernel
theorem dX0_findSlip_8 : decode cX0_findSlip 8 = .ok (.iload 4, 2) := by decide +kernel
theorem dX0_findSlip_10 : decode cX0_findSlip 10 = .ok (.aload_n 2, 1) := by decide +kernel
theorem dX0_findSlip_11 : decode cX0_findSlip 11 = .ok (.getfield 34, 3) := by decide +kernel
theorem dX0_findSlip_14 : decode cX0_findSlip 14 = .ok (.if_icmp .ge 68, 3) := by decide +kernel
theorem dX0_findSlip_17 : decode cX0_findSlip 17 = .ok (.aload_n 0, 1) := by decide +kernel
theorem dX0_findSlip_18 : decode cX0_findSlip 18 = .ok (.getfield 9, 3) := by decide +kernel
theorem dX0_findSlip_21 : decode cX0_findSlip 21 = .ok (.iload 4, 2) := by decide +kernel
theorem dX0_findSlip_23 : decode cX0_findSlip 23 = .ok (.aload_n 1, 1) := by decide +kernel
theorem dX0_findSlip_24 : decode cX0_findSlip 24 = .ok (.aload_n 2, 1) := by decide +kernel
theorem dX0_findSlip_25 : decode cX0_findSlip 25 = .ok (.getfield 39, 3) := by decide +kernel
theorem dX0_findSlip_28 : decode cX0_findSlip 28 = .ok (.iload 4, 2) := by decide +kernel
theorem dX0_findSlip_30 : decode cX0_findSlip 30 = .ok (.iaload, 1) := by decide +kernel
theorem dX0_findSlip_31 : decode cX0_findSlip 31 = .ok (.i2l, 1) := by decide +kernel
theorem dX0_findSlip_32 : decode cX0_findSlip 32 = .ok (.iconst 0, 1) := by decide +kernel
theorem dX0_findSlip_33 : decode cX0_findSlip 33 = .ok (.invokevirtual 42, 3) := by decide +kernel
theorem dX0_findSlip_36 : decode cX0_findSlip 36 = .ok (.bipush 12, 2) := by decide +kernel
theorem dX0_findSlip_38 : decode cX0_findSlip 38 = .ok (.idiv, 1) := by decide +kernel
theorem dX0_findSlip_39 : decode cX0_findSlip 39 = .ok (.iastore, 1) := by decide +kernel
theorem dX0_findSlip_40 : decode cX0_findSlip 40 = .ok (.aload_n 0, 1) := by decide +kernel
theorem dX0_findSlip_41 : decode cX0_findSlip 41 = .ok (.getfield 15, 3) := by decide +kernel
theorem dX0_findSlip_44 : decode cX0_findSlip 44 = .ok (.iload 4, 2) := by decide +kernel
theorem dX0_findSlip_46 : decode cX0_findSlip 46 = .ok (.aload_n 2, 1) := by decide +kernel
theorem dX0_findSlip_47 : decode cX0_findSlip 47 = .ok (.iload 4, 2) := by decide +kernel
theorem dX0_findSlip_49 : decode cX0_findSlip 49 = .ok (.aload_n 0, 1) := by decide +kernel
theorem dX0_findSlip_50 : decode cX0_findSlip 50 = .ok (.getfield 9, 3) := by decide +kernel
theorem dX0_findSlip_53 : decode cX0_findSlip 53 = .ok (.iload 4, 2) := by decide +kernel
theorem dX0_findSlip_55 : decode cX0_findSlip 55 = .ok (.iaload, 1) := by decide +kernel
theorem dX0_findSlip_56 : decode cX0_findSlip 56 = .ok (.invokevirtual 48, 3) := by decide +kernel
theorem dX0_findSlip_59 : decode cX0_findSlip 59 = .ok (.iastore, 1) := by decide +kernel
theorem dX0_findSlip_60 : decode cX0_findSlip 60 = .ok (.aload_n 0, 1) := by decide +kernel
theorem dX0_findSlip_61 : decode cX0_findSlip 61 = .ok (.dup, 1) := by decide +kernel
theorem dX0_findSlip_62 : decode cX0_findSlip 62 = .ok (.getfield 31, 3) := by decide +kernel
theorem dX0_findSlip_65 : decode cX0_findSlip 65 = .ok (.aload_n 0, 1) := by decide +kernel
theorem dX0_findSlip_66 : decode cX0_findSlip 66 = .ok (.getfield 15, 3) := by decide +kernel
theorem dX0_findSlip_69 : decode cX0_findSlip 69 = .ok (.iload 4, 2) := by decide +kernel
theorem dX0_findSlip_71 : decode cX0_findSlip 71 = .ok (.iaload, 1) := by decide +kernel
theorem dX0_findSlip_72 : decode cX0_findSlip 72 = .ok (.iadd, 1) := by decide +kernel
theorem dX0_findSlip_73 : decode cX0_findSlip 73 = .ok (.putfield 31, 3) := by decide +kernel
theorem dX0_findSlip_76 : decode cX0_findSlip 76 = .ok (.iinc 4 1, 3) := by decide +kernel
theorem dX0_findSlip_79 : decode cX0_findSlip 79 = .ok (.goto (-71), 3) := by decide +kernel
theorem dX0_findSlip_82 : decode cX0_findSlip 82 = .ok (.aload_n 0, 1) := by decide +kernel
theorem dX0_findSlip_83 : decode cX0_findSlip 83 = .ok (.iconst 1, 1) := by decide +kernel
theorem dX0_findSlip_84 : decode cX0_findSlip 84 = .ok (.putfield 52, 3) := by decide +kernel
theorem dX0_findSlip_87 : decode cX0_findSlip 87 = .ok (.aload_n 0, 1) := by decide +kernel
theorem dX0_findSlip_88 : decode cX0_findSlip 88 = .ok (.iconst 0, 1) := by decide +kernel
theorem dX0_findSlip_89 : decode cX0_findSlip 89 = .ok (.putfield 56, 3) := by decide +kernel
theorem dX0_findSlip_92 : decode cX0_findSlip 92 = .ok (.aload_n 0, 1) := by decide +kernel
theorem dX0_findSlip_93 : decode cX0_findSlip 93 = .ok (.iconst 0, 1) := by decide +kernel
theorem dX0_findSlip_94 : decode cX0_findSlip 94 = .ok (.putfield 59, 3) := by decide +kernel
theorem dX0_findSlip_97 : decode cX0_findSlip 97 = .ok (.iload_n 3, 1) := by decide +kernel
theorem dX0_findSlip_98 : decode cX0_findSlip 98 = .ok (.ifCond .eq 7, 3) := by decide +kernel
theorem dX0_findSlip_101 : decode cX0_findSlip 101 = .ok (.iconst 5, 1) := by decide +kernel
theorem dX0_findSlip_102 : decode cX0_findSlip 102 = .ok (.goto 5, 3) := by decide +kernel
theorem dX0_findSlip_105 : decode cX0_findSlip 105 = .ok (.bipush 50, 2) := by decide +kernel
theorem dX0_findSlip_107 : decode cX0_findSlip 107 = .ok (.istore 4, 2) := by decide +kernel
theorem dX0_findSlip_109 : decode cX0_findSlip 109 = .ok (.iconst 1, 1) := by decide +kernel
theorem dX0_findSlip_110 : decode cX0_findSlip 110 = .ok (.istore 5, 2) := by decide +kernel
theorem dX0_findSlip_112 : decode cX0_findSlip 112 = .ok (.iload 5, 2) := by decide +kernel
theorem dX0_findSlip_114 : decode cX0_findSlip 114 = .ok (.iload 4, 2) := by decide +kernel
theorem dX0_findSlip_116 : decode cX0_findSlip 116 = .ok (.if_icmp .gt 28, 3) := by decide +kernel
theorem dX0_findSlip_119 : decode cX0_findSlip 119 = .ok (.aload_n 0, 1) := by decide +kernel
theorem dX0_findSlip_120 : decode cX0_findSlip 120 = .ok (.aload_n 1, 1) := by decide +kernel
theorem dX0_findSlip_121 : decode cX0_findSlip 121 = .ok (.aload_n 2, 1) := by decide +kernel
theorem dX0_findSlip_122 : decode cX0_findSlip 122 = .ok (.iload_n 3, 1) := by decide +kernel
theorem dX0_findSlip_123 : decode cX0_findSlip 123 = .ok (.iload 5, 2) := by decide +kernel
theorem dX0_findSlip_125 : decode cX0_findSlip 125 = .ok (.ineg, 1) := by decide +kernel
theorem dX0_findSlip_126 : decode cX0_findSlip 126 = .ok (.invokevirtual 62, 3) := by decide +kernel
theorem dX0_findSlip_129 : decode cX0_findSlip 129 = .ok (.aload_n 0, 1) := by decide +kernel
theorem dX0_findSlip_130 : decode cX0_findSlip 130 = .ok (.aload_n 1, 1) := by decide +kernel
theorem dX0_findSlip_131 : decode cX0_findSlip 131 = .ok (.aload_n 2, 1) := by decide +kernel
theorem dX0_findSlip_132 : decode cX0_findSlip 132 = .ok (.iload_n 3, 1) := by decide +kernel
theorem dX0_findSlip_133 : decode cX0_findSlip 133 = .ok (.iload 5, 2) := by decide +kernel
theorem dX0_findSlip_135 : decode cX0_findSlip 135 = .ok (.invokevirtual 62, 3) := by decide +kernel
theorem dX0_findSlip_138 : decode cX0_findSlip 138 = .ok (.iinc 5 1, 3) := by decide +kernel
theorem dX0_findSlip_141 : decode cX0_findSlip 141 = .ok (.goto (-29), 3) := by decide +kernel
theorem dX0_findSlip_144 : decode cX0_findSlip 144 = .ok (.return_, 1) := by decide +kernel
noncomputable def f_X0_findSlip_8 (r1 : Nat) (r2 : Nat) (v3 : Bool) (v4 : Int32) (σ : am_H) : Option ((Int32 × am_H) ⊕ (am_H)) :=
  if v4 < (σ.1 1 r2 0) then
   ((am_ix 24 v4).bind fun j2 =>
   (f_X3_heightAt r1 (Int32.toInt64 (σ.1 201 r2 j2)) false σ).bind fun p3 =>
   (am_ix 48 v4).bind fun j4 =>
   (some (am_wI σ 100 0 j4 (p3 / 12))).bind fun s5 =>
   (am_ix 48 v4).bind fun j6 =>
   (f_X1_missOf r2 v4 (s5.1 100 0 j6) s5).bind fun p7 =>
   (am_ix 24 v4).bind fun j8 =>
   (some (am_wI s5 101 0 j8 p7)).bind fun s9 =>
   (am_ix 24 v4).bind fun j10 =>
   (some (am_wI s9 0 0 3 ((s9.1 0 0 3) + (s9.1 101 0 j10)))).bind fun s11 =>
   some (.inl ((v4 + 1), s11)))
  else
  some (.inr σ)
set_option maxRecDepth 100000 in
set_option maxHeartbeats 4000000 in
theorem q_X0_findSlip_8 {X : am_X} (hX : am_wC X) {Q : Option Value → am_H → Prop} (r1 : Nat) (r2 : Nat) (v3 : Bool) (v4 : Int32) (hr1 : r1 < 3) (hr2 : r2 < 2) (σ : am_H) {o : (Int32 × am_H) ⊕ (am_H)} (hf : f_X0_findSlip_8 r1 r2 v3 v4 σ = some o) (hk0 : ∀ s, o = .inl s → am_G X gm_X0_findSlip Q 8 [(0, .ref (am_ad X 0 0)), (1, .ref (am_ad X 3 r1)), (2, .ref (am_ad X 1 r2)), (3, .int (am_b v3)), (4, .int s.1)] [] s.2) (hk1 : ∀ t, o = .inr t → am_G X gm_X0_findSlip Q 82 [(0, .ref (am_ad X 0 0)), (1, .ref (am_ad X 3 r1)), (2, .ref (am_ad X 1 r2)), (3, .int (am_b v3))] [] t) : am_G X gm_X0_findSlip Q 8 [(0, .ref (am_ad X 0 0)), (1, .ref (am_ad X 3 r1)), (2, .ref (am_ad X 1 r2)), (3, .int (am_b v3)), (4, .int v4)] [] σ := by
  unfold f_X0_findSlip_8 at hf
  refine g_iload (pc := 8) 4 rfl dX0_findSlip_8 ?_
  refine g_aload_n (pc := 10) 2 rfl dX0_findSlip_10 rfl ?_
  refine g_getI (pc := 11) (in_1 hX.1 (by omega)) fr_X0_34 dX0_findSlip_11 ?_
  refine bi_ge (pc := 14) 82 dX0_findSlip_14 rfl (fun c1 => ?_) (fun c1 => ?_)
  · replace hf := am_ifT c1 hf
    refine g_aload_n (pc := 17) 0 rfl dX0_findSlip_17 rfl ?_
    refine g_getC (pc := 18) (e := 0) (in_0 hX.1 (by omega)) fr_X0_9 dX0_findSlip_18 rfl ?_
    refine g_iload (pc := 21) 4 rfl dX0_findSlip_21 ?_
    refine g_aload_n (pc := 23) 1 rfl dX0_findSlip_23 rfl ?_
    refine g_aload_n (pc := 24) 2 rfl dX0_findSlip_24 rfl ?_
    refine g_getC (pc := 25) (e := r2) (in_1 hX.1 (by omega)) fr_X0_39 dX0_findSlip_25 rfl ?_
    refine g_iload (pc := 28) 4 rfl dX0_findSlip_28 ?_
    obtain ⟨j2, hj2, hf⟩ := am_bd hf
    have gj2 := am_ix_lt hj2
    refine g_aI (pc := 30) (in_201 hX.1 (by omega)) ak_201 hj2 dX0_findSlip_30 ?_
    refine g_i2l (pc := 31) dX0_findSlip_31 ?_
    refine g_iconst (pc := 32) (v := 0) dX0_findSlip_32 (by decide) ?_
    obtain ⟨p3, hp3, hf⟩ := am_bd hf
    refine g_cV (pc := 33) (As := [.long (Int32.toInt64 (σ.1 201 r2 j2)), .int (am_b false)]) (st := [.int v4, .ref (am_ad X 100 0)]) (st1 := [.int p3, .int v4, .ref (am_ad X 100 0)]) (in_3 hX.1 (by omega)) kk_3 mV_X3_heightAt ln_X0_42 rfl (Nat.le_of_ble_eq_true rfl) (Nat.le_of_ble_eq_true rfl) (k_X3_heightAt hX r1 (Int32.toInt64 (σ.1 201 r2 j2)) false (by omega) σ hp3) dX0_findSlip_33 rfl rfl ?_
    refine g_bipush (pc := 36) (v := 12) dX0_findSlip_36 (by decide) ?_
    refine g_idiv (pc := 38) dX0_findSlip_38 (by decide) ?_
    obtain ⟨j4, hj4, hf⟩ := am_bd hf
    have gj4 := am_ix_lt hj4
    obtain ⟨s5, hs5, hf⟩ := am_bd hf
    refine g_sI (pc := 39) (in_100 hX.1 (by omega)) ak_100 hj4 dX0_findSlip_39 (Option.some.inj hs5) ?_
    refine g_aload_n (pc := 40) 0 rfl dX0_findSlip_40 rfl ?_
    refine g_getC (pc := 41) (e := 0) (in_0 hX.1 (by omega)) fr_X0_15 dX0_findSlip_41 rfl ?_
    refine g_iload (pc := 44) 4 rfl dX0_findSlip_44 ?_
    refine g_aload_n (pc := 46) 2 rfl dX0_findSlip_46 rfl ?_
    refine g_iload (pc := 47) 4 rfl dX0_findSlip_47 ?_
    refine g_aload_n (pc := 49) 0 rfl dX0_findSlip_49 rfl ?_
    refine g_getC (pc := 50) (e := 0) (in_0 hX.1 (by omega)) fr_X0_9 dX0_findSlip_50 rfl ?_
    refine g_iload (pc := 53) 4 rfl dX0_findSlip_53 ?_
    obtain ⟨j6, hj6, hf⟩ := am_bd hf
    have gj6 := am_ix_lt hj6
    refine g_aI (pc := 55) (in_100 hX.1 (by omega)) ak_100 hj6 dX0_findSlip_55 ?_
    obtain ⟨p7, hp7, hf⟩ := am_bd hf
    refine g_cV (pc := 56) (As := [.int v4, .int (s5.1 100 0 j6)]) (st := [.int v4, .ref (am_ad X 101 0)]) (st1 := [.int p7, .int v4, .ref (am_ad X 101 0)]) (in_1 hX.1 (by omega)) kk_1 mV_X1_missOf ln_X0_48 rfl (Nat.le_of_ble_eq_true rfl) (Nat.le_of_ble_eq_true rfl) (k_X1_missOf hX r2 v4 (s5.1 100 0 j6) (by omega) s5 hp7) dX0_findSlip_56 rfl rfl ?_
    obtain ⟨j8, hj8, hf⟩ := am_bd hf
    have gj8 := am_ix_lt hj8
    obtain ⟨s9, hs9, hf⟩ := am_bd hf
    refine g_sI (pc := 59) (in_101 hX.1 (by omega)) ak_101 hj8 dX0_findSlip_59 (Option.some.inj hs9) ?_
    refine g_aload_n (pc := 60) 0 rfl dX0_findSlip_60 rfl ?_
    refine g_dup (pc := 61) dX0_findSlip_61 rfl ?_
    refine g_getI (pc := 62) (in_0 hX.1 (by omega)) fr_X0_31 dX0_findSlip_62 ?_
    refine g_aload_n (pc := 65) 0 rfl dX0_findSlip_65 rfl ?_
    refine g_getC (pc := 66) (e := 0) (in_0 hX.1 (by omega)) fr_X0_15 dX0_findSlip_66 rfl ?_
    refine g_iload (pc := 69) 4 rfl dX0_findSlip_69 ?_
    obtain ⟨j10, hj10, hf⟩ := am_bd hf
    have gj10 := am_ix_lt hj10
    refine g_aI (pc := 71) (in_101 hX.1 (by omega)) ak_101 hj10 dX0_findSlip_71 ?_
    refine g_iadd (pc := 72) dX0_findSlip_72 ?_
    obtain ⟨s11, hs11, hf⟩ := am_bd hf
    refine g_setI (pc := 73) (in_0 hX.1 (by omega)) fr_X0_31 dX0_findSlip_73 (Option.some.inj hs11) ?_
    refine g_iinc (pc := 76) (v := (v4 + 1)) 4 [(4, .int (v4 + 1)), (0, .ref (am_ad X 0 0)), (1, .ref (am_ad X 3 r1)), (2, .ref (am_ad X 1 r2)), (3, .int (am_b v3))] dX0_findSlip_76 rfl rfl (Nat.le_of_ble_eq_true rfl) rfl ?_
    refine g_goto (pc := 79) 8 dX0_findSlip_79 rfl ?_
    have hz := hk0 _ (Option.some.inj hf).symm
    exact am_sub [1, 2, 3, 4, 0] rfl hz
  replace hf := am_ifF c1 hf
  have hz := hk1 _ (Option.some.inj hf).symm
  exact am_sub [0, 1, 2, 3] rfl hz
set_option maxRecDepth 100000 in
set_option maxHeartbeats 4000000 in
theorem l_X0_findSlip_8 {X : am_X} (hX : am_wC X) {Q : Option Value → am_H → Prop} (r1 : Nat) (r2 : Nat) (v3 : Bool) (hr1 : r1 < 3) (hr2 : r2 < 2) (σ : am_H) (s : Int32 × am_H) {o : am_H} (hf : am_loop (fun s => f_X0_findSlip_8 r1 r2 v3 s.1 s.2) s = some o) (hk1 : ∀ t, o = t → am_G X gm_X0_findSlip Q 82 [(0, .ref (am_ad X 0 0)), (1, .ref (am_ad X 3 r1)), (2, .ref (am_ad X 1 r2)), (3, .int (am_b v3))] [] t) : am_G X gm_X0_findSlip Q 8 [(0, .ref (am_ad X 0 0)), (1, .ref (am_ad X 3 r1)), (2, .ref (am_ad X 1 r2)), (3, .int (am_b v3)), (4, .int s.1)] [] s.2 := by
  refine am_loop_ind (P := fun s => am_G X gm_X0_findSlip Q 8 [(0, .ref (am_ad X 0 0)), (1, .ref (am_ad X 3 r1)), (2, .ref (am_ad X 1 r2)), (3, .int (am_b v3)), (4, .int s.1)] [] s.2) (K := fun r => r = o) ?_ hf rfl
  intro s o1 hb hi hr
  exact q_X0_findSlip_8 hX r1 r2 v3 s.1  hr1 hr2 s.2 hb hi (fun t e => hk1 t (hr _ e).symm)
noncomputable def f_X0_findSlip_112 (r1 : Nat) (r2 : Nat) (v3 : Bool) (v4 : Int32) (v5 : Int32) (σ : am_H) : Option ((Int32 × am_H) ⊕ (am_H)) :=
  if v4 < v5 then
   (some (.inr σ))
  else
  (f_X0_trySlip r1 r2 v3 (-v5) σ).bind fun p2 =>
  (f_X0_trySlip r1 r2 v3 v5 p2).bind fun p3 =>
  some (.inl ((v5 + 1), p3))
set_option maxRecDepth 100000 in
set_option maxHeartbeats 4000000 in
theorem q_X0_findSlip_112 {X : am_X} (hX : am_wC X) {Q : Option Value → am_H → Prop} (r1 : Nat) (r2 : Nat) (v3 : Bool) (v4 : Int32) (v5 : Int32) (hr1 : r1 < 3) (hr2 : r2 < 2) (σ : am_H) {o : (Int32 × am_H) ⊕ (am_H)} (hf : f_X0_findSlip_112 r1 r2 v3 v4 v5 σ = some o) (hk0 : ∀ s, o = .inl s → am_G X gm_X0_findSlip Q 112 [(0, .ref (am_ad X 0 0)), (1, .ref (am_ad X 3 r1)), (2, .ref (am_ad X 1 r2)), (3, .int (am_b v3)), (4, .int v4), (5, .int s.1)] [] s.2) (hk1 : ∀ t, o = .inr t → am_G X gm_X0_findSlip Q 144 [] [] t) : am_G X gm_X0_findSlip Q 112 [(0, .ref (am_ad X 0 0)), (1, .ref (am_ad X 3 r1)), (2, .ref (am_ad X 1 r2)), (3, .int (am_b v3)), (4, .int v4), (5, .int v5)] [] σ := by
  unfold f_X0_findSlip_112 at hf
  refine g_iload (pc := 112) 5 rfl dX0_findSlip_112 ?_
  refine g_iload (pc := 114) 4 rfl dX0_findSlip_114 ?_
  refine bi_gt (pc := 116) 144 dX0_findSlip_116 rfl (fun c1 => ?_) (fun c1 => ?_)
  · replace hf := am_ifT c1 hf
    have hz := hk1 _ (Option.some.inj hf).symm
    exact am_sub [] rfl hz
  replace hf := am_ifF c1 hf
  refine g_aload_n (pc := 119) 0 rfl dX0_findSlip_119 rfl ?_
  refine g_aload_n (pc := 120) 1 rfl dX0_findSlip_120 rfl ?_
  refine g_aload_n (pc := 121) 2 rfl dX0_findSlip_121 rfl ?_
  refine g_iload_n (pc := 122) 3 rfl dX0_findSlip_122 rfl ?_
  refine g_iload (pc := 123) 5 rfl dX0_findSlip_123 ?_
  refine g_ineg (pc := 125) dX0_findSlip_125 ?_
  obtain ⟨p2, hp2, hf⟩ := am_bd hf
  refine g_cV (pc := 126) (As := [.ref (am_ad X 3 r1), .ref (am_ad X 1 r2), .int (am_b v3), .int (-v5)]) (st := []) (st1 := []) (in_0 hX.1 (by omega)) kk_0 mV_X0_trySlip ln_X0_62 rfl (Nat.le_of_ble_eq_true rfl) (Nat.le_of_ble_eq_true rfl) (k_X0_trySlip hX r1 r2 v3 (-v5) (by omega) (by omega) σ hp2) dX0_findSlip_126 rfl rfl ?_
  refine g_aload_n (pc := 129) 0 rfl dX0_findSlip_129 rfl ?_
  refine g_aload_n (pc := 130) 1 rfl dX0_findSlip_130 rfl ?_
  refine g_aload_n (pc := 131) 2 rfl dX0_findSlip_131 rfl ?_
  refine g_iload_n (pc := 132) 3 rfl dX0_findSlip_132 rfl ?_
  refine g_iload (pc := 133) 5 rfl dX0_findSlip_133 ?_
  obtain ⟨p3, hp3, hf⟩ := am_bd hf
  refine g_cV (pc := 135) (As := [.ref (am_ad X 3 r1), .ref (am_ad X 1 r2), .int (am_b v3), .int v5]) (st := []) (st1 := []) (in_0 hX.1 (by omega)) kk_0 mV_X0_trySlip ln_X0_62 rfl (Nat.le_of_ble_eq_true rfl) (Nat.le_of_ble_eq_true rfl) (k_X0_trySlip hX r1 r2 v3 v5 (by omega) (by omega) p2 hp3) dX0_findSlip_135 rfl rfl ?_
  refine g_iinc (pc := 138) (v := (v5 + 1)) 5 [(5, .int (v5 + 1)), (0, .ref (am_ad X 0 0)), (1, .ref (am_ad X 3 r1)), (2, .ref (am_ad X 1 r2)), (3, .int (am_b v3)), (4, .int v4)] dX0_findSlip_138 rfl rfl (Nat.le_of_ble_eq_true rfl) rfl ?_
  refine g_goto (pc := 141) 112 dX0_findSlip_141 rfl ?_
  have hz := hk0 _ (Option.some.inj hf).symm
  exact am_sub [1, 2, 3, 4, 5, 0] rfl hz
set_option maxRecDepth 100000 in
set_option maxHeartbeats 4000000 in
theorem l_X0_findSlip_112 {X : am_X} (hX : am_wC X) {Q : Option Value → am_H → Prop} (r1 : Nat) (r2 : Nat) (v3 : Bool) (v4 : Int32) (hr1 : r1 < 3) (hr2 : r2 < 2) (σ : am_H) (s : Int32 × am_H) {o : am_H} (hf : am_loop (fun s => f_X0_findSlip_112 r1 r2 v3 v4 s.1 s.2) s = some o) (hk1 : ∀ t, o = t → am_G X gm_X0_findSlip Q 144 [] [] t) : am_G X gm_X0_findSlip Q 112 [(0, .ref (am_ad X 0 0)), (1, .ref (am_ad X 3 r1)), (2, .ref (am_ad X 1 r2)), (3, .int (am_b v3)), (4, .int v4), (5, .int s.1)] [] s.2 := by
  refine am_loop_ind (P := fun s => am_G X gm_X0_findSlip Q 112 [(0, .ref (am_ad X 0 0)), (1, .ref (am_ad X 3 r1)), (2, .ref (am_ad X 1 r2)), (3, .int (am_b v3)), (4, .int v4), (5, .int s.1)] [] s.2) (K := fun r => r = o) ?_ hf rfl
  intro s o1 hb hi hr
  exact q_X0_findSlip_112 hX r1 r2 v3 v4 s.1  hr1 hr2 s.2 hb hi (fun t e => hk1 t (hr _ e).symm)
noncomputable def f_X0_findSlip (r1 : Nat) (r2 : Nat) (v3 : Bool) (σ : am_H) : Option (am_H) :=
  (some (am_wI σ 0 0 3 0)).bind fun s1 =>
  (am_loop (fun s => f_X0_findSlip_8 r1 r2 v3 s.1 s.2) (0, s1)).bind fun w2 =>
  (some (am_wI w2 0 0 4 (am_b true))).bind fun s3 =>
  (some (am_wI s3 0 0 5 0)).bind fun s4 =>
  (some (am_wI s4 0 0 6 0)).bind fun s5 =>
  if v3 = true then
   ((am_loop (fun s => f_X0_findSlip_112 r1 r2 v3 5 s.1 s.2) (1, s5)).bind fun w7 =>
   some w7)
  else
  (am_loop (fun s => f_X0_findSlip_112 r1 r2 v3 50 s.1 s.2) (1, s5)).bind fun w8 =>
  some w8
set_option maxRecDepth 100000 in
set_option maxHeartbeats 4000000 in
theorem q_X0_findSlip {X : am_X} (hX : am_wC X) {Q : Option Value → am_H → Prop} (r1 : Nat) (r2 : Nat) (v3 : Bool) (hr1 : r1 < 3) (hr2 : r2 < 2) (σ : am_H) {o : am_H} (hf : f_X0_findSlip r1 r2 v3 σ = some o) (hk : Q none o) : am_G X gm_X0_findSlip Q 0 [(0, .ref (am_ad X 0 0)), (1, .ref (am_ad X 3 r1)), (2, .ref (am_ad X 1 r2)), (3, .int (am_b v3))] [] σ := by
  unfold f_X0_findSlip at hf
  refine g_aload_n (pc := 0) 0 rfl dX0_findSlip_0 rfl ?_
  refine g_iconst (pc := 1) (v := 0) dX0_findSlip_1 (by decide) ?_
  obtain ⟨s1, hs1, hf⟩ := am_bd hf
  refine g_setI (pc := 2) (in_0 hX.1 (by omega)) fr_X0_31 dX0_findSlip_2 (Option.some.inj hs1) ?_
  refine g_iconst (pc := 5) (v := 0) dX0_findSlip_5 (by decide) ?_
  refine g_istore (pc := 6) [(4, .int 0), (0, .ref (am_ad X 0 0)), (1, .ref (am_ad X 3 r1)), (2, .ref (am_ad X 1 r2)), (3, .int (am_b v3))] dX0_findSlip_6 (Nat.le_of_ble_eq_true rfl) rfl ?_
  obtain ⟨w2, hw2, hf⟩ := am_bd hf
  refine am_sub [1, 2, 3, 4, 0] rfl (l_X0_findSlip_8 hX r1 r2 v3 (by omega) (by omega) s1 (0, s1) hw2 ?_)
  intro t e
  subst e
  refine g_aload_n (pc := 82) 0 rfl dX0_findSlip_82 rfl ?_
  refine g_iconst (pc := 83) (v := 1) dX0_findSlip_83 (by decide) ?_
  obtain ⟨s3, hs3, hf⟩ := am_bd hf
  refine g_setZ (x := true) (pc := 84) (in_0 hX.1 (by omega)) fr_X0_52 dX0_findSlip_84 (Option.some.inj hs3) ?_
  refine g_aload_n (pc := 87) 0 rfl dX0_findSlip_87 rfl ?_
  refine g_iconst (pc := 88) (v := 0) dX0_findSlip_88 (by decide) ?_
  obtain ⟨s4, hs4, hf⟩ := am_bd hf
  refine g_setI (pc := 89) (in_0 hX.1 (by omega)) fr_X0_56 dX0_findSlip_89 (Option.some.inj hs4) ?_
  refine g_aload_n (pc := 92) 0 rfl dX0_findSlip_92 rfl ?_
  refine g_iconst (pc := 93) (v := 0) dX0_findSlip_93 (by decide) ?_
  obtain ⟨s5, hs5, hf⟩ := am_bd hf
  refine g_setI (pc := 94) (in_0 hX.1 (by omega)) fr_X0_59 dX0_findSlip_94 (Option.some.inj hs5) ?_
  refine g_iload_n (pc := 97) 3 rfl dX0_findSlip_97 rfl ?_
  refine bt_eq (pc := 98) 105 dX0_findSlip_98 rfl (fun c6 => ?_) (fun c6 => ?_)
  · replace hf := am_ifT c6 hf
    refine g_iconst (pc := 101) (v := 5) dX0_findSlip_101 (by decide) ?_
    refine g_goto (pc := 102) 107 dX0_findSlip_102 rfl ?_
    refine g_istore (pc := 107) [(4, .int 5), (0, .ref (am_ad X 0 0)), (1, .ref (am_ad X 3 r1)), (2, .ref (am_ad X 1 r2)), (3, .int (am_b v3))] dX0_findSlip_107 (Nat.le_of_ble_eq_true rfl) rfl ?_
    refine g_iconst (pc := 109) (v := 1) dX0_findSlip_109 (by decide) ?_
    refine g_istore (pc := 110) [(5, .int 1), (4, .int 5), (0, .ref (am_ad X 0 0)), (1, .ref (am_ad X 3 r1)), (2, .ref (am_ad X 1 r2)), (3, .int (am_b v3))] dX0_findSlip_110 (Nat.le_of_ble_eq_true rfl) rfl ?_
    obtain ⟨w7, hw7, hf⟩ := am_bd hf
    refine am_sub [2, 3, 4, 5, 1, 0] rfl (l_X0_findSlip_112 hX r1 r2 v3 5 (by omega) (by omega) s5 (1, s5) hw7 ?_)
    intro t e
    subst e
    have ho := Option.some.inj hf
    subst ho
    exact g_vreturn (pc := 144) (st := []) rfl dX0_findSlip_144 hk
  replace hf := am_ifF c6 hf
  refine g_bipush (pc := 105) (v := 50) dX0_findSlip_105 (by decide) ?_
  refine g_istore (pc := 107) [(4, .int 50), (0, .ref (am_ad X 0 0)), (1, .ref (am_ad X 3 r1)), (2, .ref (am_ad X 1 r2)), (3, .int (am_b v3))] dX0_findSlip_107 (Nat.le_of_ble_eq_true rfl) rfl ?_
  refine g_iconst (pc := 109) (v := 1) dX0_findSlip_109 (by decide) ?_
  refine g_istore (pc := 110) [(5, .int 1), (4, .int 50), (0, .ref (am_ad X 0 0)), (1, .ref (am_ad X 3 r1)), (2, .ref (am_ad X 1 r2)), (3, .int (am_b v3))] dX0_findSlip_110 (Nat.le_of_ble_eq_true rfl) rfl ?_
  obtain ⟨w8, hw8, hf⟩ := am_bd hf
  refine am_sub [2, 3, 4, 5, 1, 0] rfl (l_X0_findSlip_112 hX r1 r2 v3 50 (by omega) (by omega) s5 (1, s5) hw8 ?_)
  intro t e
  subst e
  have ho := Option.some.inj hf
  subst ho
  exact g_vreturn (pc := 144) (st := []) rfl dX0_findSlip_144 hk
theorem k_X0_findSlip {X : am_X} (hX : am_wC X) (r1 : Nat) (r2 : Nat) (v3 : Bool) (hr1 : r1 < 3) (hr2 : r2 < 2) (σ : am_H) {o : am_H} (hf : f_X0_findSlip r1 r2 v3 σ = some o) : am_C X gm_X0_findSlip [.ref (am_ad X 0 0), .ref (am_ad X 3 r1), .ref (am_ad X 1 r2), .int (am_b v3)] σ (am_is none o) :=
  am_ofG rfl (Nat.le_of_ble_eq_true rfl) rfl (q_X0_findSlip hX r1 r2 v3 hr1 hr2 σ hf ⟨rfl, rfl⟩)
theorem dX3_laggedHeightAt_0 : decode cX3_laggedHeightAt 0 = .ok (.iconst 0, 1) := by decide +kernel
theorem dX3_laggedHeightAt_1 : decode cX3_laggedHeightAt 1 = .ok (.istore 4, 2) := by decide +kernel
theorem dX3_laggedHeightAt_3 : decode cX3_laggedHeightAt 3 = .ok (.iconst 0, 1) := by decide +kernel
theorem dX3_laggedHeightAt_4 : decode cX3_laggedHeightAt 4 = .ok (.istore 5, 2) := by decide +kernel
theorem dX3_laggedHeightAt_6 : decode cX3_laggedHeightAt 6 = .ok (.iload 5, 2) := by decide +kernel
theorem dX3_laggedHeightAt_8 : decode cX3_laggedHeightAt 8 = .ok (.aload_n 0, 1) := by decide +kernel
theorem dX3_laggedHeightAt_9 : decode cX3_laggedHeightAt 9 = .ok (.getfield 32, 3) := by decide +kernel
theorem dX3_laggedHeightAt_12 : decode cX3_laggedHeightAt 12 = .ok (.if_icmp .ge 42, 3) := by decide +kernel
theorem dX3_laggedHeightAt_15 : decode cX3_laggedHeightAt 15 = .ok (.aload_n 0, 1) := by decide +kernel
theorem dX3_laggedHeightAt_16 : decode cX3_laggedHeightAt 16 = .ok (.getfield 27, 3) := by decide +kernel
theorem dX3_laggedHeightAt_19 : decode cX3_laggedHeightAt 19 = .ok (.iload 5, 2) := by decide +kernel
theorem dX3_laggedHeightAt_21 : decode cX3_laggedHeightAt 21 = .ok (.aaload, 1) := by decide +kernel
theorem dX3_laggedHeightAt_22 : decode cX3_laggedHeightAt 22 = .ok (.astore 6, 2) := by decide +kernel
theorem dX3_laggedHeightAt_24 : decode cX3_laggedHeightAt 24 = .ok (.iload 4, 2) := by decide +kernel
theorem dX3_laggedHeightAt_26 : decode cX3_laggedHeightAt 26 = .ok (.aload 6, 2) := by decide +kernel
theorem dX3_laggedHeightAt_28 : decode cX3_laggedHeightAt 28 = .ok (.getfield 142, 3) := by decide +kernel
theorem dX3_laggedHeightAt_31 : decode cX3_laggedHeightAt 31 = .ok (.aload 6, 2) := by decide +kernel
theorem dX3_laggedHeightAt_33 : decode cX3_laggedHeightAt 33 = .ok (.lload_n 1, 1) := by decide +kernel
theorem dX3_laggedHeightAt_34 : decode cX3_laggedHeightAt 34 = .ok (.iconst 0, 1) := by decide +kernel
theorem dX3_laggedHeightAt_35 : decode cX3_laggedHeightAt 35 = .ok (.invokevirtual 173, 3) := by decide +kernel
theorem dX3_laggedHeightAt_38 : decode cX3_laggedHeightAt 38 = .ok (.iload_n 3, 1) := by decide +kernel
theorem dX3_laggedHeightAt_39 : decode cX3_laggedHeightAt 39 = .ok (.isub, 1) := by decide +kernel
theorem dX3_laggedHeightAt_40 : decode cX3_laggedHeightAt 40 = .ok (.i2l, 1) := by decide +kernel
theorem dX3_laggedHeightAt_41 : decode cX3_laggedHeightAt 41 = .ok (.invokestatic 177, 3) := by decide +kernel
theorem dX3_laggedHeightAt_44 : decode cX3_laggedHeightAt 44 = .ok (.imul, 1) := by decide +kernel
theorem dX3_laggedHeightAt_45 : decode cX3_laggedHeightAt 45 = .ok (.iadd, 1) := by decide +kernel
theorem dX3_laggedHeightAt_46 : decode cX3_laggedHeightAt 46 = .ok (.istore 4, 2) := by decide +kernel
theorem dX3_laggedHeightAt_48 : decode cX3_laggedHeightAt 48 = .ok (.iinc 5 1, 3) := by decide +kernel
theorem dX3_laggedHeightAt_51 : decode cX3_laggedHeightAt 51 = .ok (.goto (-45), 3) := by decide +kernel
theorem dX3_laggedHeightAt_54 : decode cX3_laggedHeightAt 54 = .ok (.iload 4, 2) := by decide +kernel
theorem dX3_laggedHeightAt_56 : decode cX3_laggedHeightAt 56 = .ok (.ireturn, 1) := by decide +kernel
noncomputable def f_X3_laggedHeightAt_6 (r0 : Nat) (v1 : Int64) (v3 : Int32) (v4 : Int32) (v5 : Int32) (σ : am_H) : Option ((Int32 × Int32) ⊕ (Int32)) :=
  if v5 < (σ.1 3 r0 1) then
   ((am_ix 6 v5).bind fun j2 =>
   (f_X10_placeAt (6 * r0 + j2) v1 false σ).bind fun p3 =>
   (f_X11_cosOf (Int32.toInt64 (p3 - v3)) σ).bind fun p4 =>
   some (.inl ((v4 + ((σ.1 10 (6 * r0 + j2) 3) * p4)), (v5 + 1))))
  else
  some (.inr v4)
set_option maxRecDepth 100000 in
set_option maxHeartbeats 4000000 in
theorem q_X3_laggedHeightAt_6 {X : am_X} (hX : am_wC X) {Q : Option Value → am_H → Prop} (r0 : Nat) (v1 : Int64) (v3 : Int32) (v4 : Int32) (v5 : Int32) (hr0 : r0 < 3) (σ : am_H) {o : (Int32 × Int32) ⊕ (Int32)} (hf : f_X3_laggedHeightAt_6 r0 v1 v3 v4 v5 σ = some o) (hk0 : ∀ s, o = .inl s → am_G X gm_X3_laggedHeightAt Q 6 [(0, .ref (am_ad X 3 r0)), (1, .long v1), (3, .int v3), (4, .int s.1), (5, .int s.2)] [] σ) (hk1 : ∀ t, o = .inr t → am_G X gm_X3_laggedHeightAt Q 54 [(4, .int t)] [] σ) : am_G X gm_X3_laggedHeightAt Q 6 [(0, .ref (am_ad X 3 r0)), (1, .long v1), (3, .int v3), (4, .int v4), (5, .int v5)] [] σ := by
  unfold f_X3_laggedHeightAt_6 at hf
  refine g_iload (pc := 6) 4 rfl dX3_laggedHeightAt_6 ?_
  refine g_aload_n (pc := 8) 0 rfl dX3_laggedHeightAt_8 rfl ?_
  refine g_getI (pc := 9) (in_3 hX.1 (by omega)) fr_X3_32 dX3_laggedHeightAt_9 ?_
  refine bi_ge (pc := 12) 54 dX3_laggedHeightAt_12 rfl (fun c1 => ?_) (fun c1 => ?_)
  · replace hf := am_ifT c1 hf
    refine g_aload_n (pc := 15) 0 rfl dX3_laggedHeightAt_15 rfl ?_
    refine g_getC (pc := 16) (e := r0) (in_3 hX.1 (by omega)) fr_X3_27 dX3_laggedHeightAt_16 rfl ?_
    refine g_iload (pc := 19) 4 rfl dX3_laggedHeightAt_19 ?_
    obtain ⟨j2, hj2, hf⟩ := am_bd hf
    have gj2 := am_ix_lt hj2
    refine g_aC (pc := 21) (e := (6 * r0 + j2)) (in_400 hX.1 (by omega)) ak_400 hj2 rfl dX3_laggedHeightAt_21 ?_
    refine g_astore (pc := 22) [(6, .ref (am_ad X 10 (6 * r0 + j2))), (0, .ref (am_ad X 3 r0)), (1, .long v1), (3, .int v3), (4, .int v4), (5, .int v5)] dX3_laggedHeightAt_22 (Nat.le_of_ble_eq_true rfl) rfl ?_
    refine g_iload (pc := 24) 4 rfl dX3_laggedHeightAt_24 ?_
    refine g_aload (pc := 26) 0 rfl dX3_laggedHeightAt_26 ?_
    refine g_getI (pc := 28) (in_10 hX.1 (by omega)) fr_X3_142 dX3_laggedHeightAt_28 ?_
    refine g_aload (pc := 31) 0 rfl dX3_laggedHeightAt_31 ?_
    refine g_lload_n (pc := 33) 2 rfl dX3_laggedHeightAt_33 rfl ?_
    refine g_iconst (pc := 34) (v := 0) dX3_laggedHeightAt_34 (by decide) ?_
    obtain ⟨p3, hp3, hf⟩ := am_bd hf
    refine g_cV (pc := 35) (As := [.long v1, .int (am_b false)]) (st := [.int (σ.1 10 (6 * r0 + j2) 3), .int v4]) (st1 := [.int p3, .int (σ.1 10 (6 * r0 + j2) 3), .int v4]) (in_10 hX.1 (by omega)) kk_10 mV_X10_placeAt ln_X3_173 rfl (Nat.le_of_ble_eq_true rfl) (Nat.le_of_ble_eq_true rfl) (k_X10_placeAt hX (6 * r0 + j2) v1 false (by omega) σ hp3) dX3_laggedHeightAt_35 rfl rfl ?_
    refine g_iload_n (pc := 38) 3 rfl dX3_laggedHeightAt_38 rfl ?_
    refine g_isub (pc := 39) dX3_laggedHeightAt_39 ?_
    refine g_i2l (pc := 40) dX3_laggedHeightAt_40 ?_
    obtain ⟨p4, hp4, hf⟩ := am_bd hf
    refine g_cS (pc := 41) (As := [.long (Int32.toInt64 (p3 - v3))]) (st := [.int (σ.1 10 (6 * r0 + j2) 3), .int v4]) (st1 := [.int p4, .int (σ.1 10 (6 * r0 + j2) 3), .int v4]) mS_X11_cosOf ln_X3_177 rfl (Nat.le_of_ble_eq_true rfl) (Nat.le_of_ble_eq_true rfl) (k_X11_cosOf hX (Int32.toInt64 (p3 - v3)) σ hp4) dX3_laggedHeightAt_41 rfl rfl ?_
    refine g_imul (pc := 44) dX3_laggedHeightAt_44 ?_
    refine g_iadd (pc := 45) dX3_laggedHeightAt_45 ?_
    refine g_istore (pc := 46) [(4, .int (v4 + ((σ.1 10 (6 * r0 + j2) 3) * p4))), (6, .ref (am_ad X 10 (6 * r0 + j2))), (0, .ref (am_ad X 3 r0)), (1, .long v1), (3, .int v3), (5, .int v5)] dX3_laggedHeightAt_46 (Nat.le_of_ble_eq_true rfl) rfl ?_
    refine g_iinc (pc := 48) (v := (v5 + 1)) 5 [(5, .int (v5 + 1)), (4, .int (v4 + ((σ.1 10 (6 * r0 + j2) 3) * p4))), (6, .ref (am_ad X 10 (6 * r0 + j2))), (0, .ref (am_ad X 3 r0)), (1, .long v1), (3, .int v3)] dX3_laggedHeightAt_48 rfl rfl (Nat.le_of_ble_eq_true rfl) rfl ?_
    refine g_goto (pc := 51) 6 dX3_laggedHeightAt_51 rfl ?_
    have hz := hk0 _ (Option.some.inj hf).symm
    exact am_sub [3, 4, 5, 1, 0] rfl hz
  replace hf := am_ifF c1 hf
  have hz := hk1 _ (Option.some.inj hf).symm
  exact am_sub [3] rfl hz
set_option maxRecDepth 100000 in
set_option maxHeartbeats 4000000 in
theorem l_X3_laggedHeightAt_6 {X : am_X} (hX : am_wC X) {Q : Option Value → am_H → Prop} (r0 : Nat) (v1 : Int64) (v3 : Int32) (hr0 : r0 < 3) (σ : am_H) (s : Int32 × Int32) {o : Int32} (hf : am_loop (fun s => f_X3_laggedHeightAt_6 r0 v1 v3 s.1 s.2 σ) s = some o) (hk1 : ∀ t, o = t → am_G X gm_X3_laggedHeightAt Q 54 [(4, .int t)] [] σ) : am_G X gm_X3_laggedHeightAt Q 6 [(0, .ref (am_ad X 3 r0)), (1, .long v1), (3, .int v3), (4, .int s.1), (5, .int s.2)] [] σ := by
  refine am_loop_ind (P := fun s => am_G X gm_X3_laggedHeightAt Q 6 [(0, .ref (am_ad X 3 r0)), (1, .long v1), (3, .int v3), (4, .int s.1), (5, .int s.2)] [] σ) (K := fun r => r = o) ?_ hf rfl
  intro s o1 hb hi hr
  exact q_X3_laggedHeightAt_6 hX r0 v1 v3 s.1 s.2  hr0 σ hb hi (fun t e => hk1 t (hr _ e).symm)
noncomputable def f_X3_laggedHeightAt (r0 : Nat) (v1 : Int64) (v3 : Int32) (σ : am_H) : Option (Int32) :=
  (am_loop (fun s => f_X3_laggedHeightAt_6 r0 v1 v3 s.1 s.2 σ) (0, 0)).bind fun w1 =>
  some w1
set_option maxRecDepth 100000 in
set_option maxHeartbeats 4000000 in
theorem q_X3_laggedHeightAt {X : am_X} (hX : am_wC X) {Q : Option Value → am_H → Prop} (r0 : Nat) (v1 : Int64) (v3 : Int32) (hr0 : r0 < 3) (σ : am_H) {o : Int32} (hf : f_X3_laggedHeightAt r0 v1 v3 σ = some o) (hk : Q (some (.int o)) σ) : am_G X gm_X3_laggedHeightAt Q 0 [(0, .ref (am_ad X 3 r0)), (1, .long v1), (3, .int v3)] [] σ := by
  unfold f_X3_laggedHeightAt at hf
  refine g_iconst (pc := 0) (v := 0) dX3_laggedHeightAt_0 (by decide) ?_
  refine g_istore (pc := 1) [(4, .int 0), (0, .ref (am_ad X 3 r0)), (1, .long v1), (3, .int v3)] dX3_laggedHeightAt_1 (Nat.le_of_ble_eq_true rfl) rfl ?_
  refine g_iconst (pc := 3) (v := 0) dX3_laggedHeightAt_3 (by decide) ?_
  refine g_istore (pc := 4) [(5, .int 0), (4, .int 0), (0, .ref (am_ad X 3 r0)), (1, .long v1), (3, .int v3)] dX3_laggedHeightAt_4 (Nat.le_of_ble_eq_true rfl) rfl ?_
  obtain ⟨w1, hw1, hf⟩ := am_bd hf
  refine am_sub [2, 3, 4, 1, 0] rfl (l_X3_laggedHeightAt_6 hX r0 v1 v3 (by omega) σ (0, 0) hw1 ?_)
  intro t e
  subst e
  refine g_iload (pc := 54) 0 rfl dX3_laggedHeightAt_54 ?_
  have ho := Option.some.inj hf
  subst ho
  exact g_ireturn (pc := 56) (st := []) rfl dX3_laggedHeightAt_56 hk
theorem k_X3_laggedHeightAt {X : am_X} (hX : am_wC X) (r0 : Nat) (v1 : Int64) (v3 : Int32) (hr0 : r0 < 3) (σ : am_H) {o : Int32} (hf : f_X3_laggedHeightAt r0 v1 v3 σ = some o) : am_C X gm_X3_laggedHeightAt [.ref (am_ad X 3 r0), .long v1, .int v3] σ (am_is (some (.int o)) σ) :=
  am_ofG rfl (Nat.le_of_ble_eq_true rfl) rfl (q_X3_laggedHeightAt hX r0 v1 v3 hr0 σ hf ⟨rfl, rfl⟩)
theorem dX0_weighNeighbour_0 : decode cX0_weighNeighbour 0 = .ok (.iconst 0, 1) := by decide +kernel
theorem dX0_weighNeighbour_1 : decode cX0_weighNeighbour 1 = .ok (.istore 4, 2) := by decide +kernel
theorem dX0_weighNeighbour_3 : decode cX0_weighNeighbour 3 = .ok (.iconst 0, 1) := by decide +kernel
theorem dX0_weighNeighbour_4 : decode cX0_weighNeighbour 4 = .ok (.istore 5, 2) := by decide +kernel
theorem dX0_weighNeighbour_6 : decode cX0_weighNeighbour 6 = .ok (.iload 5, 2) := by decide +kernel
theorem dX0_weighNeighbour_8 : decode cX0_weighNeighbour 8 = .ok (.aload_n 1, 1) := by decide +kernel
theorem dX0_weighNeighbour_9 : decode cX0_weighNeighbour 9 = .ok (.getfield 34, 3) := by decide +kernel
theorem dX0_weighNeighbour_12 : decode cX0_weighNeighbour 12 = .ok (.if_icmp .ge 33, 3) := by decide +kernel
theorem dX0_weighNeighbour_15 : decode cX0_weighNeighbour 15 = .ok (.iload 4, 2) := by decide +kernel
theorem dX0_weighNeighbour_17 : decode cX0_weighNeighbour 17 = .ok (.aload_n 1, 1) := by decide +kernel
theorem dX0_weighNeighbour_18 : decode cX0_weighNeighbour 18 = .ok (.iload 5, 2) := by decide +kernel
theorem dX0_weighNeighbour_20 : decode cX0_weighNeighbour 20 = .ok (.aload_n 0, 1) := by decide +kernel
theorem dX0_weighNeighbour_21 : decode cX0_weighNeighbour 21 = .ok (.getfield 9, 3) := by decide +kernel
theorem dX0_weighNeighbour_24 : decode cX0_weighNeighbour 24 = .ok (.iload 5, 2) := by decide +kernel
theorem dX0_weighNeighbour_26 : decode cX0_weighNeighbour 26 = .ok (.iaload, 1) := by decide +kernel
theorem dX0_weighNeighbour_27 : decode cX0_weighNeighbour 27 = .ok (.iload_n 3, 1) := by decide +kernel
theorem dX0_weighNeighbour_28 : decode cX0_weighNeighbour 28 = .ok (.imul, 1) := by decide +kernel
theorem dX0_weighNeighbour_29 : decode cX0_weighNeighbour 29 = .ok (.sipush 144, 3) := by decide +kernel
theorem dX0_weighNeighbour_32 : decode cX0_weighNeighbour 32 = .ok (.idiv, 1) := by decide +kernel
theorem dX0_weighNeighbour_33 : decode cX0_weighNeighbour 33 = .ok (.invokevirtual 48, 3) := by decide +kernel
theorem dX0_weighNeighbour_36 : decode cX0_weighNeighbour 36 = .ok (.iadd, 1) := by decide +kernel
theorem dX0_weighNeighbour_37 : decode cX0_weighNeighbour 37 = .ok (.istore 4, 2) := by decide +kernel
theorem dX0_weighNeighbour_39 : decode cX0_weighNeighbour 39 = .ok (.iinc 5 1, 3) := by decide +kernel
theorem dX0_weighNeighbour_42 : decode cX0_weighNeighbour 42 = .ok (.goto (-36), 3) := by decide +kernel
theorem dX0_weighNeighbour_45 : decode cX0_weighNeighbour 45 = .ok (.aload_n 0, 1) := by decide +kernel
theorem dX0_weighNeighbour_46 : decode cX0_weighNeighbour 46 = .ok (.getfield 21, 3) := by decide +kernel
theorem dX0_weighNeighbour_49 : decode cX0_weighNeighbour 49 = .ok (.iconst (-1), 1) := by decide +kernel
theorem dX0_weighNeighbour_50 : decode cX0_weighNeighbour 50 = .ok (.if_icmp .eq 29, 3) := by decide +kernel
theorem dX0_weighNeighbour_53 : decode cX0_weighNeighbour 53 = .ok (.iload 4, 2) := by decide +kernel
theorem dX0_weighNeighbour_55 : decode cX0_weighNeighbour 55 = .ok (.aload_n 0, 1) := by decide +kernel
theorem dX0_weighNeighbour_56 : decode cX0_weighNeighbour 56 = .ok (.getfield 31, 3) := by decide +kernel
theorem dX0_weighNeighbour_59 : decode cX0_weighNeighbour 59 = .ok (.if_icmp .lt 20, 3) := by decide +kernel
theorem dX0_weighNeighbour_62 : decode cX0_weighNeighbour 62 = .ok (.iload 4, 2) := by decide +kernel
theorem dX0_weighNeighbour_64 : decode cX0_weighNeighbour 64 = .ok (.aload_n 0, 1) := by decide +kernel
theorem dX0_weighNeighbour_65 : decode cX0_weighNeighbour 65 = .ok (.getfield 31, 3) := by decide +kernel
theorem dX0_weighNeighbour_68 : decode cX0_weighNeighbour 68 = .ok (.if_icmp .ne 27, 3) := by decide +kernel
theorem dX0_weighNeighbour_71 : decode cX0_weighNeighbour 71 = .ok (.iload_n 3, 1) := by decide +kernel
theorem dX0_weighNeighbour_72 : decode cX0_weighNeighbour 72 = .ok (.aload_n 0, 1) := by decide +kernel
theorem dX0_weighNeighbour_73 : decode cX0_weighNeighbour 73 = .ok (.getfield 21, 3) := by decide +kernel
theorem dX0_weighNeighbour_76 : decode cX0_weighNeighbour 76 = .ok (.if_icmp .ge 19, 3) := by decide +kernel
theorem dX0_weighNeighbour_79 : decode cX0_weighNeighbour 79 = .ok (.aload_n 0, 1) := by decide +kernel
theorem dX0_weighNeighbour_80 : decode cX0_weighNeighbour 80 = .ok (.iload 4, 2) := by decide +kernel
theorem dX0_weighNeighbour_82 : decode cX0_weighNeighbour 82 = .ok (.putfield 31, 3) := by decide +kernel
theorem dX0_weighNeighbour_85 : decode cX0_weighNeighbour 85 = .ok (.aload_n 0, 1) := by decide +kernel
theorem dX0_weighNeighbour_86 : decode cX0_weighNeighbour 86 = .ok (.iload_n 3, 1) := by decide +kernel
theorem dX0_weighNeighbour_87 : decode cX0_weighNeighbour 87 = .ok (.putfield 21, 3) := by decide +kernel
theorem dX0_weighNeighbour_90 : decode cX0_weighNeighbour 90 = .ok (.aload_n 0, 1) := by decide +kernel
theorem dX0_weighNeighbour_91 : decode cX0_weighNeighbour 91 = .ok (.iload_n 2, 1) := by decide +kernel
theorem dX0_weighNeighbour_92 : decode cX0_weighNeighbour 92 = .ok (.putfield 79, 3) := by decide +kernel
theorem dX0_weighNeighbour_95 : decode cX0_weighNeighbour 95 = .ok (.return_, 1) := by decide +kernel
noncomputable def f_X0_weighNeighbour_6 (r1 : Nat) (v2 : Int32) (v3 : Int32) (v4 : Int32) (v5 : Int32) (σ : am_H) : Option ((Int32 × Int32) ⊕ (Int32)) :=
  if v5 < (σ.1 1 r1 0) then
   ((am_ix 48 v5).bind fun j2 =>
   (f_X1_missOf r1 v5 (((σ.1 100 0 j2) * v3) / 144) σ).bind fun p3 =>
   some (.inl ((v4 + p3), (v5 + 1))))
  else
  some (.inr v4)
set_option maxRecDepth 100000 in
set_option maxHeartbeats 4000000 in
theorem q_X0_weighNeighbour_6 {X : am_X} (hX : am_wC X) {Q : Option Value → am_H → Prop} (r1 : Nat) (v2 : Int32) (v3 : Int32) (v4 : Int32) (v5 : Int32) (hr1 : r1 < 2) (σ : am_H) {o : (Int32 × Int32) ⊕ (Int32)} (hf : f_X0_weighNeighbour_6 r1 v2 v3 v4 v5 σ = some o) (hk0 : ∀ s, o = .inl s → am_G X gm_X0_weighNeighbour Q 6 [(0, .ref (am_ad X 0 0)), (1, .ref (am_ad X 1 r1)), (2, .int v2), (3, .int v3), (4, .int s.1), (5, .int s.2)] [] σ) (hk1 : ∀ t, o = .inr t → am_G X gm_X0_weighNeighbour Q 45 [(0, .ref (am_ad X 0 0)), (2, .int v2), (3, .int v3), (4, .int t)] [] σ) : am_G X gm_X0_weighNeighbour Q 6 [(0, .ref (am_ad X 0 0)), (1, .ref (am_ad X 1 r1)), (2, .int v2), (3, .int v3), (4, .int v4), (5, .int v5)] [] σ := by
  unfold f_X0_weighNeighbour_6 at hf
  refine g_iload (pc := 6) 5 rfl dX0_weighNeighbour_6 ?_
  refine g_aload_n (pc := 8) 1 rfl dX0_weighNeighbour_8 rfl ?_
  refine g_getI (pc := 9) (in_1 hX.1 (by omega)) fr_X0_34 dX0_weighNeighbour_9 ?_
  refine bi_ge (pc := 12) 45 dX0_weighNeighbour_12 rfl (fun c1 => ?_) (fun c1 => ?_)
  · replace hf := am_ifT c1 hf
    refine g_iload (pc := 15) 4 rfl dX0_weighNeighbour_15 ?_
    refine g_aload_n (pc := 17) 1 rfl dX0_weighNeighbour_17 rfl ?_
    refine g_iload (pc := 18) 5 rfl dX0_weighNeighbour_18 ?_
    refine g_aload_n (pc := 20) 0 rfl dX0_weighNeighbour_20 rfl ?_
    refine g_getC (pc := 21) (e := 0) (in_0 hX.1 (by omega)) fr_X0_9 dX0_weighNeighbour_21 rfl ?_
    refine g_iload (pc := 24) 5 rfl dX0_weighNeighbour_24 ?_
    obtain ⟨j2, hj2, hf⟩ := am_bd hf
    have gj2 := am_ix_lt hj2
    refine g_aI (pc := 26) (in_100 hX.1 (by omega)) ak_100 hj2 dX0_weighNeighbour_26 ?_
    refine g_iload_n (pc := 27) 3 rfl dX0_weighNeighbour_27 rfl ?_
    refine g_imul (pc := 28) dX0_weighNeighbour_28 ?_
    refine g_sipush (pc := 29) (v := 144) dX0_weighNeighbour_29 (by decide) ?_
    refine g_idiv (pc := 32) dX0_weighNeighbour_32 (by decide) ?_
    obtain ⟨p3, hp3, hf⟩ := am_bd hf
    refine g_cV (pc := 33) (As := [.int v5, .int (((σ.1 100 0 j2) * v3) / 144)]) (st := [.int v4]) (st1 := [.int p3, .int v4]) (in_1 hX.1 (by omega)) kk_1 mV_X1_missOf ln_X0_48 rfl (Nat.le_of_ble_eq_true rfl) (Nat.le_of_ble_eq_true rfl) (k_X1_missOf hX r1 v5 (((σ.1 100 0 j2) * v3) / 144) (by omega) σ hp3) dX0_weighNeighbour_33 rfl rfl ?_
    refine g_iadd (pc := 36) dX0_weighNeighbour_36 ?_
    refine g_istore (pc := 37) [(4, .int (v4 + p3)), (0, .ref (am_ad X 0 0)), (1, .ref (am_ad X 1 r1)), (2, .int v2), (3, .int v3), (5, .int v5)] dX0_weighNeighbour_37 (Nat.le_of_ble_eq_true rfl) rfl ?_
    refine g_iinc (pc := 39) (v := (v5 + 1)) 5 [(5, .int (v5 + 1)), (4, .int (v4 + p3)), (0, .ref (am_ad X 0 0)), (1, .ref (am_ad X 1 r1)), (2, .int v2), (3, .int v3)] dX0_weighNeighbour_39 rfl rfl (Nat.le_of_ble_eq_true rfl) rfl ?_
    refine g_goto (pc := 42) 6 dX0_weighNeighbour_42 rfl ?_
    have hz := hk0 _ (Option.some.inj hf).symm
    exact am_sub [2, 3, 4, 5, 1, 0] rfl hz
  replace hf := am_ifF c1 hf
  have hz := hk1 _ (Option.some.inj hf).symm
  exact am_sub [0, 2, 3, 4] rfl hz
set_option maxRecDepth 100000 in
set_option maxHeartbeats 4000000 in
theorem l_X0_weighNeighbour_6 {X : am_X} (hX : am_wC X) {Q : Option Value → am_H → Prop} (r1 : Nat) (v2 : Int32) (v3 : Int32) (hr1 : r1 < 2) (σ : am_H) (s : Int32 × Int32) {o : Int32} (hf : am_loop (fun s => f_X0_weighNeighbour_6 r1 v2 v3 s.1 s.2 σ) s = some o) (hk1 : ∀ t, o = t → am_G X gm_X0_weighNeighbour Q 45 [(0, .ref (am_ad X 0 0)), (2, .int v2), (3, .int v3), (4, .int t)] [] σ) : am_G X gm_X0_weighNeighbour Q 6 [(0, .ref (am_ad X 0 0)), (1, .ref (am_ad X 1 r1)), (2, .int v2), (3, .int v3), (4, .int s.1), (5, .int s.2)] [] σ := by
  refine am_loop_ind (P := fun s => am_G X gm_X0_weighNeighbour Q 6 [(0, .ref (am_ad X 0 0)), (1, .ref (am_ad X 1 r1)), (2, .int v2), (3, .int v3), (4, .int s.1), (5, .int s.2)] [] σ) (K := fun r => r = o) ?_ hf rfl
  intro s o1 hb hi hr
  exact q_X0_weighNeighbour_6 hX r1 v2 v3 s.1 s.2  hr1 σ hb hi (fun t e => hk1 t (hr _ e).symm)
noncomputable def f_X0_weighNeighbour_79 (v2 : Int32) (v3 : Int32) (v4 : Int32) (σ : am_H) : Option (am_H) :=
  (some (am_wI σ 0 0 3 v4)).bind fun s1 =>
  (some (am_wI s1 0 0 7 v3)).bind fun s2 =>
  (some (am_wI s2 0 0 8 v2)).bind fun s3 =>
  some s3
set_option maxRecDepth 100000 in
set_option maxHeartbeats 4000000 in
theorem q_X0_weighNeighbour_79 {X : am_X} (hX : am_wC X) {Q : Option Value → am_H → Prop} (v2 : Int32) (v3 : Int32) (v4 : Int32) (σ : am_H) {o : am_H} (hf : f_X0_weighNeighbour_79 v2 v3 v4 σ = some o) (hk : Q none o) : am_G X gm_X0_weighNeighbour Q 79 [(0, .ref (am_ad X 0 0)), (2, .int v2), (3, .int v3), (4, .int v4)] [] σ := by
  unfold f_X0_weighNeighbour_79 at hf
  refine g_aload_n (pc := 79) 0 rfl dX0_weighNeighbour_79 rfl ?_
  refine g_iload (pc := 80) 3 rfl dX0_weighNeighbour_80 ?_
  obtain ⟨s1, hs1, hf⟩ := am_bd hf
  refine g_setI (pc := 82) (in_0 hX.1 (by omega)) fr_X0_31 dX0_weighNeighbour_82 (Option.some.inj hs1) ?_
  refine g_aload_n (pc := 85) 0 rfl dX0_weighNeighbour_85 rfl ?_
  refine g_iload_n (pc := 86) 2 rfl dX0_weighNeighbour_86 rfl ?_
  obtain ⟨s2, hs2, hf⟩ := am_bd hf
  refine g_setI (pc := 87) (in_0 hX.1 (by omega)) fr_X0_21 dX0_weighNeighbour_87 (Option.some.inj hs2) ?_
  refine g_aload_n (pc := 90) 0 rfl dX0_weighNeighbour_90 rfl ?_
  refine g_iload_n (pc := 91) 1 rfl dX0_weighNeighbour_91 rfl ?_
  obtain ⟨s3, hs3, hf⟩ := am_bd hf
  refine g_setI (pc := 92) (in_0 hX.1 (by omega)) fr_X0_79 dX0_weighNeighbour_92 (Option.some.inj hs3) ?_
  have ho := Option.some.inj hf
  subst ho
  exact g_vreturn (pc := 95) (st := []) rfl dX0_weighNeighbour_95 hk
noncomputable def f_X0_weighNeighbour (r1 : Nat) (v2 : Int32) (v3 : Int32) (σ : am_H) : Option (am_H) :=
  (am_loop (fun s => f_X0_weighNeighbour_6 r1 v2 v3 s.1 s.2 σ) (0, 0)).bind fun w1 =>
  if (σ.1 0 0 7) = (-1) then
   (f_X0_weighNeighbour_79 v2 v3 w1 σ)
  else
  if w1 < (σ.1 0 0 3) then
   (f_X0_weighNeighbour_79 v2 v3 w1 σ)
  else
  if w1 = (σ.1 0 0 3) then
   (if v3 < (σ.1 0 0 7) then
    (f_X0_weighNeighbour_79 v2 v3 w1 σ)
   else
   some σ)
  else
  some σ
set_option maxRecDepth 100000 in
set_option maxHeartbeats 4000000 in
theorem q_X0_weighNeighbour {X : am_X} (hX : am_wC X) {Q : Option Value → am_H → Prop} (r1 : Nat) (v2 : Int32) (v3 : Int32) (hr1 : r1 < 2) (σ : am_H) {o : am_H} (hf : f_X0_weighNeighbour r1 v2 v3 σ = some o) (hk : Q none o) : am_G X gm_X0_weighNeighbour Q 0 [(0, .ref (am_ad X 0 0)), (1, .ref (am_ad X 1 r1)), (2, .int v2), (3, .int v3)] [] σ := by
  unfold f_X0_weighNeighbour at hf
  refine g_iconst (pc := 0) (v := 0) dX0_weighNeighbour_0 (by decide) ?_
  refine g_istore (pc := 1) [(4, .int 0), (0, .ref (am_ad X 0 0)), (1, .ref (am_ad X 1 r1)), (2, .int v2), (3, .int v3)] dX0_weighNeighbour_1 (Nat.le_of_ble_eq_true rfl) rfl ?_
  refine g_iconst (pc := 3) (v := 0) dX0_weighNeighbour_3 (by decide) ?_
  refine g_istore (pc := 4) [(5, .int 0), (4, .int 0), (0, .ref (am_ad X 0 0)), (1, .ref (am_ad X 1 r1)), (2, .int v2), (3, .int v3)] dX0_weighNeighbour_4 (Nat.le_of_ble_eq_true rfl) rfl ?_
  obtain ⟨w1, hw1, hf⟩ := am_bd hf
  refine am_sub [2, 3, 4, 5, 1, 0] rfl (l_X0_weighNeighbour_6 hX r1 v2 v3 (by omega) σ (0, 0) hw1 ?_)
  intro t e
  subst e
  refine g_aload_n (pc := 45) 0 rfl dX0_weighNeighbour_45 rfl ?_
  refine g_getI (pc := 46) (in_0 hX.1 (by omega)) fr_X0_21 dX0_weighNeighbour_46 ?_
  refine g_iconst (pc := 49) (v := (-1)) dX0_weighNeighbour_49 (by decide) ?_
  refine bi_eq (pc := 50) 79 dX0_weighNeighbour_50 rfl (fun c2 => ?_) (fun c2 => ?_)
  · replace hf := am_ifT c2 hf
    exact q_X0_weighNeighbour_79 hX v2 v3 w1 σ hf hk
  replace hf := am_ifF c2 hf
  refine g_iload (pc := 53) 3 rfl dX0_weighNeighbour_53 ?_
  refine g_aload_n (pc := 55) 0 rfl dX0_weighNeighbour_55 rfl ?_
  refine g_getI (pc := 56) (in_0 hX.1 (by omega)) fr_X0_31 dX0_weighNeighbour_56 ?_
  refine bi_lt (pc := 59) 79 dX0_weighNeighbour_59 rfl (fun c3 => ?_) (fun c3 => ?_)
  · replace hf := am_ifT c3 hf
    exact q_X0_weighNeighbour_79 hX v2 v3 w1 σ hf hk
  replace hf := am_ifF c3 hf
  refine g_iload (pc := 62) 3 rfl dX0_weighNeighbour_62 ?_
  refine g_aload_n (pc := 64) 0 rfl dX0_weighNeighbour_64 rfl ?_
  refine g_getI (pc := 65) (in_0 hX.1 (by omega)) fr_X0_31 dX0_weighNeighbour_65 ?_
  refine bi_ne (pc := 68) 95 dX0_weighNeighbour_68 rfl (fun c4 => ?_) (fun c4 => ?_)
  · replace hf := am_ifT c4 hf
    refine g_iload_n (pc := 71) 2 rfl dX0_weighNeighbour_71 rfl ?_
    refine g_aload_n (pc := 72) 0 rfl dX0_weighNeighbour_72 rfl ?_
    refine g_getI (pc := 73) (in_0 hX.1 (by omega)) fr_X0_21 dX0_weighNeighbour_73 ?_
    refine bi_ge (pc := 76) 95 dX0_weighNeighbour_76 rfl (fun c5 => ?_) (fun c5 => ?_)
    · replace hf := am_ifT c5 hf
      exact q_X0_weighNeighbour_79 hX v2 v3 w1 σ hf hk
    replace hf := am_ifF c5 hf
    have ho := Option.some.inj hf
    subst ho
    exact g_vreturn (pc := 95) (st := []) rfl dX0_weighNeighbour_95 hk
  replace hf := am_ifF c4 hf
  have ho := Option.some.inj hf
  subst ho
  exact g_vreturn (pc := 95) (st := []) rfl dX0_weighNeighbour_95 hk
theorem k_X0_weighNeighbour {X : am_X} (hX : am_wC X) (r1 : Nat) (v2 : Int32) (v3 : Int32) (hr1 : r1 < 2) (σ : am_H) {o : am_H} (hf : f_X0_weighNeighbour r1 v2 v3 σ = some o) : am_C X gm_X0_weighNeighbour [.ref (am_ad X 0 0), .ref (am_ad X 1 r1), .int v2, .int v3] σ (am_is none o) :=
  am_ofG rfl (Nat.le_of_ble_eq_true rfl) rfl (q_X0_weighNeighbour hX r1 v2 v3 hr1 σ hf ⟨rfl, rfl⟩)
theorem dX0_findNeighbour_0 : decode cX0_findNeighbour 0 = .ok (.aload_n 0, 1) := by decide +kernel
theorem dX0_findNeighbour_1 : decode cX0_findNeighbour 1 = .ok (.iconst (-1), 1) := by decide +kernel
theorem dX0_findNeighbour_2 : decode cX0_findNeighbour 2 = .ok (.putfield 21, 3) := by decide +kernel
theorem dX0_findNeighbour_5 : decode cX0_findNeighbour 5 = .ok (.iconst 0, 1) := by decide +kernel
theorem dX0_findNeighbour_6 : decode cX0_findNeighbour 6 = .ok (.istore_n 3, 1) := by decide +kernel
theorem dX0_findNeighbour_7 : decode cX0_findNeighbour 7 = .ok (.iload_n 3, 1) := by decide +kernel
theorem dX0_findNeighbour_8 : decode cX0_findNeighbour 8 = .ok (.bipush 24, 2) := by decide +kernel
theorem dX0_findNeighbour_10 : decode cX0_findNeighbour 10 = .ok (.if_icmp .ge 71, 3) := by decide +kernel
theorem dX0_findNeighbour_13 : decode cX0_findNeighbour 13 = .ok (.iconst 0, 1) := by decide +kernel
theorem dX0_findNeighbour_14 : decode cX0_findNeighbour 14 = .ok (.istore 4, 2) := by decide +kernel
theorem dX0_findNeighbour_16 : decode cX0_findNeighbour 16 = .ok (.iload 4, 2) := by decide +kernel
theorem dX0_findNeighbour_18 : decode cX0_findNeighbour 18 = .ok (.aload_n 2, 1) := by decide +kernel
theorem dX0_findNeighbour_19 : decode cX0_findNeighbour 19 = .ok (.getfield 34, 3) := by decide +kernel
theorem dX0_findNeighbour_22 : decode cX0_findNeighbour 22 = .ok (.if_icmp .ge 29, 3) := by decide +kernel
theorem dX0_findNeighbour_25 : decode cX0_findNeighbour 25 = .ok (.aload_n 0, 1) := by decide +kernel
theorem dX0_findNeighbour_26 : decode cX0_findNeighbour 26 = .ok (.getfield 9, 3) := by decide +kernel
theorem dX0_findNeighbour_29 : decode cX0_findNeighbour 29 = .ok (.iload 4, 2) := by decide +kernel
theorem dX0_findNeighbour_31 : decode cX0_findNeighbour 31 = .ok (.aload_n 1, 1) := by decide +kernel
theorem dX0_findNeighbour_32 : decode cX0_findNeighbour 32 = .ok (.aload_n 2, 1) := by decide +kernel
theorem dX0_findNeighbour_33 : decode cX0_findNeighbour 33 = .ok (.getfield 39, 3) := by decide +kernel
theorem dX0_findNeighbour_36 : decode cX0_findNeighbour 36 = .ok (.iload 4, 2) := by decide +kernel
theorem dX0_findNeighbour_38 : decode cX0_findNeighbour 38 = .ok (.iaload, 1) := by decide +kernel
theorem dX0_findNeighbour_39 : decode cX0_findNeighbour 39 = .ok (.i2l, 1) := by decide +kernel
theorem dX0_findNeighbour_40 : decode cX0_findNeighbour 40 = .ok (.iload_n 3, 1) := by decide +kernel
theorem dX0_findNeighbour_41 : decode cX0_findNeighbour 41 = .ok (.invokevirtual 71, 3) := by decide +kernel
theorem dX0_findNeighbour_44 : decode cX0_findNeighbour 44 = .ok (.iastore, 1) := by decide +kernel
theorem dX0_findNeighbour_45 : decode cX0_findNeighbour 45 = .ok (.iinc 4 1, 3) := by decide +kernel
theorem dX0_findNeighbour_48 : decode cX0_findNeighbour 48 = .ok (.goto (-32), 3) := by decide +kernel
theorem dX0_findNeighbour_51 : decode cX0_findNeighbour 51 = .ok (.iconst 1, 1) := by decide +kernel
theorem dX0_findNeighbour_52 : decode cX0_findNeighbour 52 = .ok (.istore 4, 2) := by decide +kernel
theorem dX0_findNeighbour_54 : decode cX0_findNeighbour 54 = .ok (.iload 4, 2) := by decide +kernel
theorem dX0_findNeighbour_56 : decode cX0_findNeighbour 56 = .ok (.bipush 24, 2) := by decide +kernel
theorem dX0_findNeighbour_58 : decode cX0_findNeighbour 58 = .ok (.if_icmp .gt 17, 3) := by decide +kernel
theorem dX0_findNeighbour_61 : decode cX0_findNeighbour 61 = .ok (.aload_n 0, 1) := by decide +kernel
theorem dX0_findNeighbour_62 : decode cX0_findNeighbour 62 = .ok (.aload_n 2, 1) := by decide +kernel
theorem dX0_findNeighbour_63 : decode cX0_findNeighbour 63 = .ok (.iload_n 3, 1) := by decide +kernel
theorem dX0_findNeighbour_64 : decode cX0_findNeighbour 64 = .ok (.iload 4, 2) := by decide +kernel
theorem dX0_findNeighbour_66 : decode cX0_findNeighbour 66 = .ok (.invokevirtual 75, 3) := by decide +kernel
theorem dX0_findNeighbour_69 : decode cX0_findNeighbour 69 = .ok (.iinc 4 1, 3) := by decide +kernel
theorem dX0_findNeighbour_72 : decode cX0_findNeighbour 72 = .ok (.goto (-18), 3) := by decide +kernel
theorem dX0_findNeighbour_75 : decode cX0_findNeighbour 75 = .ok (.iinc 3 1, 3) := by decide +kernel
theorem dX0_findNeighbour_78 : decode cX0_findNeighbour 78 = .ok (.goto (-71), 3) := by decide +kernel
theorem dX0_findNeighbour_81 : decode cX0_findNeighbour 81 = .ok (.return_, 1) := by decide +kernel
noncomputable def f_X0_findNeighbour_16 (r1 : Nat) (r2 : Nat) (v3 : Int32) (v4 : Int32) (σ : am_H) : Option ((Int32 × am_H) ⊕ (am_H)) :=
  if v4 < (σ.1 1 r2 0) then
   ((am_ix 24 v4).bind fun j2 =>
   (f_X3_laggedHeightAt r1 (Int32.toInt64 (σ.1 201 r2 j2)) v3 σ).bind fun p3 =>
   (am_ix 48 v4).bind fun j4 =>
   (some (am_wI σ 100 0 j4 p3)).bind fun s5 =>
   some (.inl ((v4 + 1), s5)))
  else
  some (.inr σ)
set_option maxRecDepth 100000 in
set_option maxHeartbeats 4000000 in
theorem q_X0_findNeighbour_16 {X : am_X} (hX : am_wC X) {Q : Option Value → am_H → Prop} (r1 : Nat) (r2 : Nat) (v3 : Int32) (v4 : Int32) (hr1 : r1 < 3) (hr2 : r2 < 2) (σ : am_H) {o : (Int32 × am_H) ⊕ (am_H)} (hf : f_X0_findNeighbour_16 r1 r2 v3 v4 σ = some o) (hk0 : ∀ s, o = .inl s → am_G X gm_X0_findNeighbour Q 16 [(0, .ref (am_ad X 0 0)), (1, .ref (am_ad X 3 r1)), (2, .ref (am_ad X 1 r2)), (3, .int v3), (4, .int s.1)] [] s.2) (hk1 : ∀ t, o = .inr t → am_G X gm_X0_findNeighbour Q 51 [(0, .ref (am_ad X 0 0)), (1, .ref (am_ad X 3 r1)), (2, .ref (am_ad X 1 r2)), (3, .int v3)] [] t) : am_G X gm_X0_findNeighbour Q 16 [(0, .ref (am_ad X 0 0)), (1, .ref (am_ad X 3 r1)), (2, .ref (am_ad X 1 r2)), (3, .int v3), (4, .int v4)] [] σ := by
  unfold f_X0_findNeighbour_16 at hf
  refine g_iload (pc := 16) 4 rfl dX0_findNeighbour_16 ?_
  refine g_aload_n (pc := 18) 2 rfl dX0_findNeighbour_18 rfl ?_
  refine g_getI (pc := 19) (in_1 hX.1 (by omega)) fr_X0_34 dX0_findNeighbour_19 ?_
  refine bi_ge (pc := 22) 51 dX0_findNeighbour_22 rfl (fun c1 => ?_) (fun c1 => ?_)
  · replace hf := am_ifT c1 hf
    refine g_aload_n (pc := 25) 0 rfl dX0_findNeighbour_25 rfl ?_
    refine g_getC (pc := 26) (e := 0) (in_0 hX.1 (by omega)) fr_X0_9 dX0_findNeighbour_26 rfl ?_
    refine g_iload (pc := 29) 4 rfl dX0_findNeighbour_29 ?_
    refine g_aload_n (pc := 31) 1 rfl dX0_findNeighbour_31 rfl ?_
    refine g_aload_n (pc := 32) 2 rfl dX0_findNeighbour_32 rfl ?_
    refine g_getC (pc := 33) (e := r2) (in_1 hX.1 (by omega)) fr_X0_39 dX0_findNeighbour_33 rfl ?_
    refine g_iload (pc := 36) 4 rfl dX0_findNeighbour_36 ?_
    obtain ⟨j2, hj2, hf⟩ := am_bd hf
    have gj2 := am_ix_lt hj2
    refine g_aI (pc := 38) (in_201 hX.1 (by omega)) ak_201 hj2 dX0_findNeighbour_38 ?_
    refine g_i2l (pc := 39) dX0_findNeighbour_39 ?_
    refine g_iload_n (pc := 40) 3 rfl dX0_findNeighbour_40 rfl ?_
    obtain ⟨p3, hp3, hf⟩ := am_bd hf
    refine g_cV (pc := 41) (As := [.long (Int32.toInt64 (σ.1 201 r2 j2)), .int v3]) (st := [.int v4, .ref (am_ad X 100 0)]) (st1 := [.int p3, .int v4, .ref (am_ad X 100 0)]) (in_3 hX.1 (by omega)) kk_3 mV_X3_laggedHeightAt ln_X0_71 rfl (Nat.le_of_ble_eq_true rfl) (Nat.le_of_ble_eq_true rfl) (k_X3_laggedHeightAt hX r1 (Int32.toInt64 (σ.1 201 r2 j2)) v3 (by omega) σ hp3) dX0_findNeighbour_41 rfl rfl ?_
    obtain ⟨j4, hj4, hf⟩ := am_bd hf
    have gj4 := am_ix_lt hj4
    obtain ⟨s5, hs5, hf⟩ := am_bd hf
    refine g_sI (pc := 44) (in_100 hX.1 (by omega)) ak_100 hj4 dX0_findNeighbour_44 (Option.some.inj hs5) ?_
    refine g_iinc (pc := 45) (v := (v4 + 1)) 4 [(4, .int (v4 + 1)), (0, .ref (am_ad X 0 0)), (1, .ref (am_ad X 3 r1)), (2, .ref (am_ad X 1 r2)), (3, .int v3)] dX0_findNeighbour_45 rfl rfl (Nat.le_of_ble_eq_true rfl) rfl ?_
    refine g_goto (pc := 48) 16 dX0_findNeighbour_48 rfl ?_
    have hz := hk0 _ (Option.some.inj hf).symm
    exact am_sub [1, 2, 3, 4, 0] rfl hz
  replace hf := am_ifF c1 hf
  have hz := hk1 _ (Option.some.inj hf).symm
  exact am_sub [0, 1, 2, 3] rfl hz
set_option maxRecDepth 100000 in
set_option maxHeartbeats 4000000 in
theorem l_X0_findNeighbour_16 {X : am_X} (hX : am_wC X) {Q : Option Value → am_H → Prop} (r1 : Nat) (r2 : Nat) (v3 : Int32) (hr1 : r1 < 3) (hr2 : r2 < 2) (σ : am_H) (s : Int32 × am_H) {o : am_H} (hf : am_loop (fun s => f_X0_findNeighbour_16 r1 r2 v3 s.1 s.2) s = some o) (hk1 : ∀ t, o = t → am_G X gm_X0_findNeighbour Q 51 [(0, .ref (am_ad X 0 0)), (1, .ref (am_ad X 3 r1)), (2, .ref (am_ad X 1 r2)), (3, .int v3)] [] t) : am_G X gm_X0_findNeighbour Q 16 [(0, .ref (am_ad X 0 0)), (1, .ref (am_ad X 3 r1)), (2, .ref (am_ad X 1 r2)), (3, .int v3), (4, .int s.1)] [] s.2 := by
  refine am_loop_ind (P := fun s => am_G X gm_X0_findNeighbour Q 16 [(0, .ref (am_ad X 0 0)), (1, .ref (am_ad X 3 r1)), (2, .ref (am_ad X 1 r2)), (3, .int v3), (4, .int s.1)] [] s.2) (K := fun r => r = o) ?_ hf rfl
  intro s o1 hb hi hr
  exact q_X0_findNeighbour_16 hX r1 r2 v3 s.1  hr1 hr2 s.2 hb hi (fun t e => hk1 t (hr _ e).symm)
noncomputable def f_X0_findNeighbour_54 (r1 : Nat) (r2 : Nat) (v3 : Int32) (v4 : Int32) (σ : am_H) : Option ((Int32 × am_H) ⊕ (am_H)) :=
  if 24 < v4 then
   (some (.inr σ))
  else
  (f_X0_weighNeighbour r2 v3 v4 σ).bind fun p2 =>
  some (.inl ((v4 + 1), p2))
set_option maxRecDepth 100000 in
set_option maxHeartbeats 4000000 in
theorem q_X0_findNeighbour_54 {X : am_X} (hX : am_wC X) {Q : Option Value → am_H → Prop} (r1 : Nat) (r2 : Nat) (v3 : Int32) (v4 : Int32) (hr1 : r1 < 3) (hr2 : r2 < 2) (σ : am_H) {o : (Int32 × am_H) ⊕ (am_H)} (hf : f_X0_findNeighbour_54 r1 r2 v3 v4 σ = some o) (hk0 : ∀ s, o = .inl s → am_G X gm_X0_findNeighbour Q 54 [(0, .ref (am_ad X 0 0)), (1, .ref (am_ad X 3 r1)), (2, .ref (am_ad X 1 r2)), (3, .int v3), (4, .int s.1)] [] s.2) (hk1 : ∀ t, o = .inr t → am_G X gm_X0_findNeighbour Q 75 [(0, .ref (am_ad X 0 0)), (1, .ref (am_ad X 3 r1)), (2, .ref (am_ad X 1 r2)), (3, .int v3)] [] t) : am_G X gm_X0_findNeighbour Q 54 [(0, .ref (am_ad X 0 0)), (1, .ref (am_ad X 3 r1)), (2, .ref (am_ad X 1 r2)), (3, .int v3), (4, .int v4)] [] σ := by
  unfold f_X0_findNeighbour_54 at hf
  refine g_iload (pc := 54) 4 rfl dX0_findNeighbour_54 ?_
  refine g_bipush (pc := 56) (v := 24) dX0_findNeighbour_56 (by decide) ?_
  refine bi_gt (pc := 58) 75 dX0_findNeighbour_58 rfl (fun c1 => ?_) (fun c1 => ?_)
  · replace hf := am_ifT c1 hf
    have hz := hk1 _ (Option.some.inj hf).symm
    exact am_sub [0, 1, 2, 3] rfl hz
  replace hf := am_ifF c1 hf
  refine g_aload_n (pc := 61) 0 rfl dX0_findNeighbour_61 rfl ?_
  refine g_aload_n (pc := 62) 2 rfl dX0_findNeighbour_62 rfl ?_
  refine g_iload_n (pc := 63) 3 rfl dX0_findNeighbour_63 rfl ?_
  refine g_iload (pc := 64) 4 rfl dX0_findNeighbour_64 ?_
  obtain ⟨p2, hp2, hf⟩ := am_bd hf
  refine g_cV (pc := 66) (As := [.ref (am_ad X 1 r2), .int v3, .int v4]) (st := []) (st1 := []) (in_0 hX.1 (by omega)) kk_0 mV_X0_weighNeighbour ln_X0_75 rfl (Nat.le_of_ble_eq_true rfl) (Nat.le_of_ble_eq_true rfl) (k_X0_weighNeighbour hX r2 v3 v4 (by omega) σ hp2) dX0_findNeighbour_66 rfl rfl ?_
  refine g_iinc (pc := 69) (v := (v4 + 1)) 4 [(4, .int (v4 + 1)), (0, .ref (am_ad X 0 0)), (1, .ref (am_ad X 3 r1)), (2, .ref (am_ad X 1 r2)), (3, .int v3)] dX0_findNeighbour_69 rfl rfl (Nat.le_of_ble_eq_true rfl) rfl ?_
  refine g_goto (pc := 72) 54 dX0_findNeighbour_72 rfl ?_
  have hz := hk0 _ (Option.some.inj hf).symm
  exact am_sub [1, 2, 3, 4, 0] rfl hz
set_option maxRecDepth 100000 in
set_option maxHeartbeats 4000000 in
theorem l_X0_findNeighbour_54 {X : am_X} (hX : am_wC X) {Q : Option Value → am_H → Prop} (r1 : Nat) (r2 : Nat) (v3 : Int32) (hr1 : r1 < 3) (hr2 : r2 < 2) (σ : am_H) (s : Int32 × am_H) {o : am_H} (hf : am_loop (fun s => f_X0_findNeighbour_54 r1 r2 v3 s.1 s.2) s = some o) (hk1 : ∀ t, o = t → am_G X gm_X0_findNeighbour Q 75 [(0, .ref (am_ad X 0 0)), (1, .ref (am_ad X 3 r1)), (2, .ref (am_ad X 1 r2)), (3, .int v3)] [] t) : am_G X gm_X0_findNeighbour Q 54 [(0, .ref (am_ad X 0 0)), (1, .ref (am_ad X 3 r1)), (2, .ref (am_ad X 1 r2)), (3, .int v3), (4, .int s.1)] [] s.2 := by
  refine am_loop_ind (P := fun s => am_G X gm_X0_findNeighbour Q 54 [(0, .ref (am_ad X 0 0)), (1, .ref (am_ad X 3 r1)), (2, .ref (am_ad X 1 r2)), (3, .int v3), (4, .int s.1)] [] s.2) (K := fun r => r = o) ?_ hf rfl
  intro s o1 hb hi hr
  exact q_X0_findNeighbour_54 hX r1 r2 v3 s.1  hr1 hr2 s.2 hb hi (fun t e => hk1 t (hr _ e).symm)
noncomputable def f_X0_findNeighbour_7 (r1 : Nat) (r2 : Nat) (v3 : Int32) (σ : am_H) : Option ((Int32 × am_H) ⊕ (am_H)) :=
  if v3 < 24 then
   ((am_loop (fun s => f_X0_findNeighbour_16 r1 r2 v3 s.1 s.2) (0, σ)).bind fun w2 =>
   (am_loop (fun s => f_X0_findNeighbour_54 r1 r2 v3 s.1 s.2) (1, w2)).bind fun w3 =>
   some (.inl ((v3 + 1), w3)))
  else
  some (.inr σ)
set_option maxRecDepth 100000 in
set_option maxHeartbeats 4000000 in
theorem q_X0_findNeighbour_7 {X : am_X} (hX : am_wC X) {Q : Option Value → am_H → Prop} (r1 : Nat) (r2 : Nat) (v3 : Int32) (hr1 : r1 < 3) (hr2 : r2 < 2) (σ : am_H) {o : (Int32 × am_H) ⊕ (am_H)} (hf : f_X0_findNeighbour_7 r1 r2 v3 σ = some o) (hk0 : ∀ s, o = .inl s → am_G X gm_X0_findNeighbour Q 7 [(0, .ref (am_ad X 0 0)), (1, .ref (am_ad X 3 r1)), (2, .ref (am_ad X 1 r2)), (3, .int s.1)] [] s.2) (hk1 : ∀ t, o = .inr t → am_G X gm_X0_findNeighbour Q 81 [] [] t) : am_G X gm_X0_findNeighbour Q 7 [(0, .ref (am_ad X 0 0)), (1, .ref (am_ad X 3 r1)), (2, .ref (am_ad X 1 r2)), (3, .int v3)] [] σ := by
  unfold f_X0_findNeighbour_7 at hf
  refine g_iload_n (pc := 7) 3 rfl dX0_findNeighbour_7 rfl ?_
  refine g_bipush (pc := 8) (v := 24) dX0_findNeighbour_8 (by decide) ?_
  refine bi_ge (pc := 10) 81 dX0_findNeighbour_10 rfl (fun c1 => ?_) (fun c1 => ?_)
  · replace hf := am_ifT c1 hf
    refine g_iconst (pc := 13) (v := 0) dX0_findNeighbour_13 (by decide) ?_
    refine g_istore (pc := 14) [(4, .int 0), (0, .ref (am_ad X 0 0)), (1, .ref (am_ad X 3 r1)), (2, .ref (am_ad X 1 r2)), (3, .int v3)] dX0_findNeighbour_14 (Nat.le_of_ble_eq_true rfl) rfl ?_
    obtain ⟨w2, hw2, hf⟩ := am_bd hf
    refine am_sub [1, 2, 3, 4, 0] rfl (l_X0_findNeighbour_16 hX r1 r2 v3 (by omega) (by omega) σ (0, σ) hw2 ?_)
    intro t e
    subst e
    refine g_iconst (pc := 51) (v := 1) dX0_findNeighbour_51 (by decide) ?_
    refine g_istore (pc := 52) [(4, .int 1), (0, .ref (am_ad X 0 0)), (1, .ref (am_ad X 3 r1)), (2, .ref (am_ad X 1 r2)), (3, .int v3)] dX0_findNeighbour_52 (Nat.le_of_ble_eq_true rfl) rfl ?_
    obtain ⟨w3, hw3, hf⟩ := am_bd hf
    refine am_sub [1, 2, 3, 4, 0] rfl (l_X0_findNeighbour_54 hX r1 r2 v3 (by omega) (by omega) w2 (1, w2) hw3 ?_)
    intro t e
    subst e
    refine g_iinc (pc := 75) (v := (v3 + 1)) 3 [(3, .int (v3 + 1)), (0, .ref (am_ad X 0 0)), (1, .ref (am_ad X 3 r1)), (2, .ref (am_ad X 1 r2))] dX0_findNeighbour_75 rfl rfl (Nat.le_of_ble_eq_true rfl) rfl ?_
    refine g_goto (pc := 78) 7 dX0_findNeighbour_78 rfl ?_
    have hz := hk0 _ (Option.some.inj hf).symm
    exact am_sub [1, 2, 3, 0] rfl hz
  replace hf := am_ifF c1 hf
  have hz := hk1 _ (Option.some.inj hf).symm
  exact am_sub [] rfl hz
set_option maxRecDepth 100000 in
set_option maxHeartbeats 4000000 in
theorem l_X0_findNeighbour_7 {X : am_X} (hX : am_wC X) {Q : Option Value → am_H → Prop} (r1 : Nat) (r2 : Nat) (hr1 : r1 < 3) (hr2 : r2 < 2) (σ : am_H) (s : Int32 × am_H) {o : am_H} (hf : am_loop (fun s => f_X0_findNeighbour_7 r1 r2 s.1 s.2) s = some o) (hk1 : ∀ t, o = t → am_G X gm_X0_findNeighbour Q 81 [] [] t) : am_G X gm_X0_findNeighbour Q 7 [(0, .ref (am_ad X 0 0)), (1, .ref (am_ad X 3 r1)), (2, .ref (am_ad X 1 r2)), (3, .int s.1)] [] s.2 := by
  refine am_loop_ind (P := fun s => am_G X gm_X0_findNeighbour Q 7 [(0, .ref (am_ad X 0 0)), (1, .ref (am_ad X 3 r1)), (2, .ref (am_ad X 1 r2)), (3, .int s.1)] [] s.2) (K := fun r => r = o) ?_ hf rfl
  intro s o1 hb hi hr
  exact q_X0_findNeighbour_7 hX r1 r2 s.1  hr1 hr2 s.2 hb hi (fun t e => hk1 t (hr _ e).symm)
noncomputable def f_X0_findNeighbour (r1 : Nat) (r2 : Nat) (σ : am_H) : Option (am_H) :=
  (some (am_wI σ 0 0 7 (-1))).bind fun s1 =>
  (am_loop (fun s => f_X0_findNeighbour_7 r1 r2 s.1 s.2) (0, s1)).bind fun w2 =>
  some w2
set_option maxRecDepth 100000 in
set_option maxHeartbeats 4000000 in
theorem q_X0_findNeighbour {X : am_X} (hX : am_wC X) {Q : Option Value → am_H → Prop} (r1 : Nat) (r2 : Nat) (hr1 : r1 < 3) (hr2 : r2 < 2) (σ : am_H) {o : am_H} (hf : f_X0_findNeighbour r1 r2 σ = some o) (hk : Q none o) : am_G X gm_X0_findNeighbour Q 0 [(0, .ref (am_ad X 0 0)), (1, .ref (am_ad X 3 r1)), (2, .ref (am_ad X 1 r2))] [] σ := by
  unfold f_X0_findNeighbour at hf
  refine g_aload_n (pc := 0) 0 rfl dX0_findNeighbour_0 rfl ?_
  refine g_iconst (pc := 1) (v := (-1)) dX0_findNeighbour_1 (by decide) ?_
  obtain ⟨s1, hs1, hf⟩ := am_bd hf
  refine g_setI (pc := 2) (in_0 hX.1 (by omega)) fr_X0_21 dX0_findNeighbour_2 (Option.some.inj hs1) ?_
  refine g_iconst (pc := 5) (v := 0) dX0_findNeighbour_5 (by decide) ?_
  refine g_istore_n (pc := 6) [(3, .int 0), (0, .ref (am_ad X 0 0)), (1, .ref (am_ad X 3 r1)), (2, .ref (am_ad X 1 r2))] dX0_findNeighbour_6 rfl (Nat.le_of_ble_eq_true rfl) rfl ?_
  obtain ⟨w2, hw2, hf⟩ := am_bd hf
  refine am_sub [1, 2, 3, 0] rfl (l_X0_findNeighbour_7 hX r1 r2 (by omega) (by omega) s1 (0, s1) hw2 ?_)
  intro t e
  subst e
  have ho := Option.some.inj hf
  subst ho
  exact g_vreturn (pc := 81) (st := []) rfl dX0_findNeighbour_81 hk
theorem k_X0_findNeighbour {X : am_X} (hX : am_wC X) (r1 : Nat) (r2 : Nat) (hr1 : r1 < 3) (hr2 : r2 < 2) (σ : am_H) {o : am_H} (hf : f_X0_findNeighbour r1 r2 σ = some o) : am_C X gm_X0_findNeighbour [.ref (am_ad X 0 0), .ref (am_ad X 3 r1), .ref (am_ad X 1 r2)] σ (am_is none o) :=
  am_ofG rfl (Nat.le_of_ble_eq_true rfl) rfl (q_X0_findNeighbour hX r1 r2 hr1 hr2 σ hf ⟨rfl, rfl⟩)
theorem dX10_wheels_0 : decode cX10_wheels 0 = .ok (.iconst 2, 1) := by decide +kernel
theorem dX10_wheels_1 : decode cX10_wheels 1 = .ok (.aload_n 0, 1) := by decide +kernel
theorem dX10_wheels_2 : decode cX10_wheels 2 = .ok (.getfield 38, 3) := by decide +kernel
theorem dX10_wheels_5 : decode cX10_wheels 5 = .ok (.imul, 1) := by decide +kernel
theorem dX10_wheels_6 : decode cX10_wheels 6 = .ok (.ireturn, 1) := by decide +kernel
noncomputable def f_X10_wheels (r0 : Nat) (σ : am_H) : Option (Int32) :=
  some (2 * (σ.1 10 r0 5))
set_option maxRecDepth 100000 in
set_option maxHeartbeats 4000000 in
theorem q_X10_wheels {X : am_X} (hX : am_wC X) {Q : Option Value → am_H → Prop} (r0 : Nat) (hr0 : r0 < 18) (σ : am_H) {o : Int32} (hf : f_X10_wheels r0 σ = some o) (hk : Q (some (.int o)) σ) : am_G X gm_X10_wheels Q 0 [(0, .ref (am_ad X 10 r0))] [] σ := by
  unfold f_X10_wheels at hf
  refine g_iconst (pc := 0) (v := 2) dX10_wheels_0 (by decide) ?_
  refine g_aload_n (pc := 1) 0 rfl dX10_wheels_1 rfl ?_
  refine g_getI (pc := 2) (in_10 hX.1 (by omega)) fr_X10_38 dX10_wheels_2 ?_
  refine g_imul (pc := 5) dX10_wheels_5 ?_
  have ho := Option.some.inj hf
  subst ho
  exact g_ireturn (pc := 6) (st := []) rfl dX10_wheels_6 hk
theorem k_X10_wheels {X : am_X} (hX : am_wC X) (r0 : Nat) (hr0 : r0 < 18) (σ : am_H) {o : Int32} (hf : f_X10_wheels r0 σ = some o) : am_C X gm_X10_wheels [.ref (am_ad X 10 r0)] σ (am_is (some (.int o)) σ) :=
  am_ofG rfl (Nat.le_of_ble_eq_true rfl) rfl (q_X10_wheels hX r0 hr0 σ hf ⟨rfl, rfl⟩)
theorem dX10_toothed_0 : decode cX10_toothed 0 = .ok (.iload_n 1, 1) := by decide +kernel
theorem dX10_toothed_1 : decode cX10_toothed 1 = .ok (.ifCond .lt 8, 3) := by decide +kernel
theorem dX10_toothed_4 : decode cX10_toothed 4 = .ok (.iload_n 1, 1) := by decide +kernel
theorem dX10_toothed_5 : decode cX10_toothed 5 = .ok (.iconst 4, 1) := by decide +kernel
theorem dX10_toothed_6 : decode cX10_toothed 6 = .ok (.if_icmp .lt 7, 3) := by decide +kernel
theorem dX10_toothed_9 : decode cX10_toothed 9 = .ok (.iconst 1, 1) := by decide +kernel
theorem dX10_toothed_10 : decode cX10_toothed 10 = .ok (.goto 9, 3) := by decide +kernel
theorem dX10_toothed_13 : decode cX10_toothed 13 = .ok (.aload_n 0, 1) := by decide +kernel
theorem dX10_toothed_14 : decode cX10_toothed 14 = .ok (.getfield 18, 3) := by decide +kernel
theorem dX10_toothed_17 : decode cX10_toothed 17 = .ok (.iload_n 1, 1) := by decide +kernel
theorem dX10_toothed_18 : decode cX10_toothed 18 = .ok (.iaload, 1) := by decide +kernel
theorem dX10_toothed_19 : decode cX10_toothed 19 = .ok (.ireturn, 1) := by decide +kernel
noncomputable def f_X10_toothed (r0 : Nat) (v1 : Int32) (σ : am_H) : Option (Int32) :=
  if v1 < 0 then
   (some 1)
  else
  if v1 < 4 then
   ((am_ix 4 v1).bind fun j3 =>
   some (σ.1 1106 r0 j3))
  else
  some 1
set_option maxRecDepth 100000 in
set_option maxHeartbeats 4000000 in
theorem q_X10_toothed {X : am_X} (hX : am_wC X) {Q : Option Value → am_H → Prop} (r0 : Nat) (v1 : Int32) (hr0 : r0 < 18) (σ : am_H) {o : Int32} (hf : f_X10_toothed r0 v1 σ = some o) (hk : Q (some (.int o)) σ) : am_G X gm_X10_toothed Q 0 [(0, .ref (am_ad X 10 r0)), (1, .int v1)] [] σ := by
  unfold f_X10_toothed at hf
  refine g_iload_n (pc := 0) 1 rfl dX10_toothed_0 rfl ?_
  refine bz_lt (pc := 1) 9 dX10_toothed_1 rfl (fun c1 => ?_) (fun c1 => ?_)
  · replace hf := am_ifT c1 hf
    refine g_iconst (pc := 9) (v := 1) dX10_toothed_9 (by decide) ?_
    refine g_goto (pc := 10) 19 dX10_toothed_10 rfl ?_
    have ho := Option.some.inj hf
    subst ho
    exact g_ireturn (pc := 19) (st := []) rfl dX10_toothed_19 hk
  replace hf := am_ifF c1 hf
  refine g_iload_n (pc := 4) 1 rfl dX10_toothed_4 rfl ?_
  refine g_iconst (pc := 5) (v := 4) dX10_toothed_5 (by decide) ?_
  refine bi_lt (pc := 6) 13 dX10_toothed_6 rfl (fun c2 => ?_) (fun c2 => ?_)
  · replace hf := am_ifT c2 hf
    refine g_aload_n (pc := 13) 0 rfl dX10_toothed_13 rfl ?_
    refine g_getC (pc := 14) (e := r0) (in_10 hX.1 (by omega)) fr_X10_18 dX10_toothed_14 rfl ?_
    refine g_iload_n (pc := 17) 1 rfl dX10_toothed_17 rfl ?_
    obtain ⟨j3, hj3, hf⟩ := am_bd hf
    have gj3 := am_ix_lt hj3
    refine g_aI (pc := 18) (in_1106 hX.1 (by omega)) ak_1106 hj3 dX10_toothed_18 ?_
    have ho := Option.some.inj hf
    subst ho
    exact g_ireturn (pc := 19) (st := []) rfl dX10_toothed_19 hk
  replace hf := am_ifF c2 hf
  refine g_iconst (pc := 9) (v := 1) dX10_toothed_9 (by decide) ?_
  refine g_goto (pc := 10) 19 dX10_toothed_10 rfl ?_
  have ho := Option.some.inj hf
  subst ho
  exact g_ireturn (pc := 19) (st := []) rfl dX10_toothed_19 hk
theorem k_X10_toothed {X : am_X} (hX : am_wC X) (r0 : Nat) (v1 : Int32) (hr0 : r0 < 18) (σ : am_H) {o : Int32} (hf : f_X10_toothed r0 v1 σ = some o) : am_C X gm_X10_toothed [.ref (am_ad X 10 r0), .int v1] σ (am_is (some (.int o)) σ) :=
  am_ofG rfl (Nat.le_of_ble_eq_true rfl) rfl (q_X10_toothed hX r0 v1 hr0 σ hf ⟨rfl, rfl⟩)
theorem dX10_drivingWith_0 : decode cX10_drivingWith 0 = .ok (.iload_n 1, 1) := by decide +kernel
theorem dX10_drivingWith_1 : decode cX10_drivingWith 1 = .ok (.ifCond .ne 7, 3) := by decide +kernel
theorem dX10_drivingWith_4 : decode cX10_drivingWith 4 = .ok (.iload_n 2, 1) := by decide +kernel
theorem dX10_drivingWith_5 : decode cX10_drivingWith 5 = .ok (.goto 9, 3) := by decide +kernel
theorem dX10_drivingWith_8 : decode cX10_drivingWith 8 = .ok (.aload_n 0, 1) := by decide +kernel
theorem dX10_drivingWith_9 : decode cX10_drivingWith 9 = .ok (.getfield 18, 3) := by decide +kernel
theorem dX10_drivingWith_12 : decode cX10_drivingWith 12 = .ok (.iconst 0, 1) := by decide +kernel
theorem dX10_drivingWith_13 : decode cX10_drivingWith 13 = .ok (.iaload, 1) := by decide +kernel
theorem dX10_drivingWith_14 : decode cX10_drivingWith 14 = .ok (.i2l, 1) := by decide +kernel
theorem dX10_drivingWith_15 : decode cX10_drivingWith 15 = .ok (.iload_n 1, 1) := by decide +kernel
theorem dX10_drivingWith_16 : decode cX10_drivingWith 16 = .ok (.iconst 2, 1) := by decide +kernel
theorem dX10_drivingWith_17 : decode cX10_drivingWith 17 = .ok (.if_icmp .ne 7, 3) := by decide +kernel
theorem dX10_drivingWith_20 : decode cX10_drivingWith 20 = .ok (.iload_n 2, 1) := by decide +kernel
theorem dX10_drivingWith_21 : decode cX10_drivingWith 21 = .ok (.goto 9, 3) := by decide +kernel
theorem dX10_drivingWith_24 : decode cX10_drivingWith 24 = .ok (.aload_n 0, 1) := by decide +kernel
theorem dX10_drivingWith_25 : decode cX10_drivingWith 25 = .ok (.getfield 18, 3) := by decide +kernel
theorem dX10_drivingWith_28 : decode cX10_drivingWith 28 = .ok (.iconst 2, 1) := by decide +kernel
theorem dX10_drivingWith_29 : decode cX10_drivingWith 29 = .ok (.iaload, 1) := by decide +kernel
theorem dX10_drivingWith_30 : decode cX10_drivingWith 30 = .ok (.i2l, 1) := by decide +kernel
theorem dX10_drivingWith_31 : decode cX10_drivingWith 31 = .ok (.lmul, 1) := by decide +kernel
theorem dX10_drivingWith_32 : decode cX10_drivingWith 32 = .ok (.lreturn, 1) := by decide +kernel
noncomputable def f_X10_drivingWith_14 (r0 : Nat) (v1 : Int32) (v2 : Int32) (k0 : Int32) (σ : am_H) : Option (Int64) :=
  if v1 = 2 then
   (some ((Int32.toInt64 k0) * (Int32.toInt64 v2)))
  else
  (am_ix 4 2).bind fun j2 =>
  some ((Int32.toInt64 k0) * (Int32.toInt64 (σ.1 1106 r0 j2)))
set_option maxRecDepth 100000 in
set_option maxHeartbeats 4000000 in
theorem q_X10_drivingWith_14 {X : am_X} (hX : am_wC X) {Q : Option Value → am_H → Prop} (r0 : Nat) (v1 : Int32) (v2 : Int32) (k0 : Int32) (hr0 : r0 < 18) (σ : am_H) {o : Int64} (hf : f_X10_drivingWith_14 r0 v1 v2 k0 σ = some o) (hk : Q (some (.long o)) σ) : am_G X gm_X10_drivingWith Q 14 [(0, .ref (am_ad X 10 r0)), (1, .int v1), (2, .int v2)] [.int k0] σ := by
  unfold f_X10_drivingWith_14 at hf
  refine g_i2l (pc := 14) dX10_drivingWith_14 ?_
  refine g_iload_n (pc := 15) 1 rfl dX10_drivingWith_15 rfl ?_
  refine g_iconst (pc := 16) (v := 2) dX10_drivingWith_16 (by decide) ?_
  refine bi_ne (pc := 17) 24 dX10_drivingWith_17 rfl (fun c1 => ?_) (fun c1 => ?_)
  · replace hf := am_ifT c1 hf
    refine g_iload_n (pc := 20) 2 rfl dX10_drivingWith_20 rfl ?_
    refine g_goto (pc := 21) 30 dX10_drivingWith_21 rfl ?_
    refine g_i2l (pc := 30) dX10_drivingWith_30 ?_
    refine g_lmul (pc := 31) dX10_drivingWith_31 ?_
    have ho := Option.some.inj hf
    subst ho
    exact g_lreturn (pc := 32) (st := []) rfl dX10_drivingWith_32 hk
  replace hf := am_ifF c1 hf
  refine g_aload_n (pc := 24) 0 rfl dX10_drivingWith_24 rfl ?_
  refine g_getC (pc := 25) (e := r0) (in_10 hX.1 (by omega)) fr_X10_18 dX10_drivingWith_25 rfl ?_
  refine g_iconst (pc := 28) (v := 2) dX10_drivingWith_28 (by decide) ?_
  obtain ⟨j2, hj2, hf⟩ := am_bd hf
  have gj2 := am_ix_lt hj2
  refine g_aI (pc := 29) (in_1106 hX.1 (by omega)) ak_1106 hj2 dX10_drivingWith_29 ?_
  refine g_i2l (pc := 30) dX10_drivingWith_30 ?_
  refine g_lmul (pc := 31) dX10_drivingWith_31 ?_
  have ho := Option.some.inj hf
  subst ho
  exact g_lreturn (pc := 32) (st := []) rfl dX10_drivingWith_32 hk
noncomputable def f_X10_drivingWith (r0 : Nat) (v1 : Int32) (v2 : Int32) (σ : am_H) : Option (Int64) :=
  if v1 = 0 then
   (f_X10_drivingWith_14 r0 v1 v2 v2 σ)
  else
  (am_ix 4 0).bind fun j2 =>
  f_X10_drivingWith_14 r0 v1 v2 (σ.1 1106 r0 j2) σ
set_option maxRecDepth 100000 in
set_option maxHeartbeats 4000000 in
theorem q_X10_drivingWith {X : am_X} (hX : am_wC X) {Q : Option Value → am_H → Prop} (r0 : Nat) (v1 : Int32) (v2 : Int32) (hr0 : r0 < 18) (σ : am_H) {o : Int64} (hf : f_X10_drivingWith r0 v1 v2 σ = some o) (hk : Q (some (.long o)) σ) : am_G X gm_X10_drivingWith Q 0 [(0, .ref (am_ad X 10 r0)), (1, .int v1), (2, .int v2)] [] σ := by
  unfold f_X10_drivingWith at hf
  refine g_iload_n (pc := 0) 1 rfl dX10_drivingWith_0 rfl ?_
  refine bz_ne (pc := 1) 8 dX10_drivingWith_1 rfl (fun c1 => ?_) (fun c1 => ?_)
  · replace hf := am_ifT c1 hf
    refine g_iload_n (pc := 4) 2 rfl dX10_drivingWith_4 rfl ?_
    refine g_goto (pc := 5) 14 dX10_drivingWith_5 rfl ?_
    exact q_X10_drivingWith_14 hX r0 v1 v2 v2 (by omega) σ hf hk
  replace hf := am_ifF c1 hf
  refine g_aload_n (pc := 8) 0 rfl dX10_drivingWith_8 rfl ?_
  refine g_getC (pc := 9) (e := r0) (in_10 hX.1 (by omega)) fr_X10_18 dX10_drivingWith_9 rfl ?_
  refine g_iconst (pc := 12) (v := 0) dX10_drivingWith_12 (by decide) ?_
  obtain ⟨j2, hj2, hf⟩ := am_bd hf
  have gj2 := am_ix_lt hj2
  refine g_aI (pc := 13) (in_1106 hX.1 (by omega)) ak_1106 hj2 dX10_drivingWith_13 ?_
  exact q_X10_drivingWith_14 hX r0 v1 v2 (σ.1 1106 r0 j2) (by omega) σ hf hk
theorem k_X10_drivingWith {X : am_X} (hX : am_wC X) (r0 : Nat) (v1 : Int32) (v2 : Int32) (hr0 : r0 < 18) (σ : am_H) {o : Int64} (hf : f_X10_drivingWith r0 v1 v2 σ = some o) : am_C X gm_X10_drivingWith [.ref (am_ad X 10 r0), .int v1, .int v2] σ (am_is (some (.long o)) σ) :=
  am_ofG rfl (Nat.le_of_ble_eq_true rfl) rfl (q_X10_drivingWith hX r0 v1 v2 hr0 σ hf ⟨rfl, rfl⟩)
theorem dX10_drivenWith_0 : decode cX10_drivenWith 0 = .ok (.iload_n 1, 1) := by decide +kernel
theorem dX10_drivenWith_1 : decode cX10_drivenWith 1 = .ok (.iconst 1, 1) := by decide +kernel
theorem dX10_drivenWith_2 : decode cX10_drivenWith 2 = .ok (.if_icmp .ne 7, 3) := by decide +kernel
theorem dX10_drivenWith_5 : decode cX10_drivenWith 5 = .ok (.iload_n 2, 1) := by decide +kernel
theorem dX10_drivenWith_6 : decode cX10_drivenWith 6 = .ok (.goto 9, 3) := by decide +kernel
theorem dX10_drivenWith_9 : decode cX10_drivenWith 9 = .ok (.aload_n 0, 1) := by decide +kernel
theorem dX10_drivenWith_10 : decode cX10_drivenWith 10 = .ok (.getfield 18, 3) := by decide +kernel
theorem dX10_drivenWith_13 : decode cX10_drivenWith 13 = .ok (.iconst 1, 1) := by decide +kernel
theorem dX10_drivenWith_14 : decode cX10_drivenWith 14 = .ok (.iaload, 1) := by decide +kernel
theorem dX10_drivenWith_15 : decode cX10_drivenWith 15 = .ok (.i2l, 1) := by decide +kernel
theorem dX10_drivenWith_16 : decode cX10_drivenWith 16 = .ok (.iload_n 1, 1) := by decide +kernel
theorem dX10_drivenWith_17 : decode cX10_drivenWith 17 = .ok (.iconst 3, 1) := by decide +kernel
theorem dX10_drivenWith_18 : decode cX10_drivenWith 18 = .ok (.if_icmp .ne 7, 3) := by decide +kernel
theorem dX10_drivenWith_21 : decode cX10_drivenWith 21 = .ok (.iload_n 2, 1) := by decide +kernel
theorem dX10_drivenWith_22 : decode cX10_drivenWith 22 = .ok (.goto 9, 3) := by decide +kernel
theorem dX10_drivenWith_25 : decode cX10_drivenWith 25 = .ok (.aload_n 0, 1) := by decide +kernel
theorem dX10_drivenWith_26 : decode cX10_drivenWith 26 = .ok (.getfield 18, 3) := by decide +kernel
theorem dX10_drivenWith_29 : decode cX10_drivenWith 29 = .ok (.iconst 3, 1) := by decide +kernel
theorem dX10_drivenWith_30 : decode cX10_drivenWith 30 = .ok (.iaload, 1) := by decide +kernel
theorem dX10_drivenWith_31 : decode cX10_drivenWith 31 = .ok (.i2l, 1) := by decide +kernel
theorem dX10_drivenWith_32 : decode cX10_drivenWith 32 = .ok (.lmul, 1) := by decide +kernel
theorem dX10_drivenWith_33 : decode cX10_drivenWith 33 = .ok (.lreturn, 1) := by decide +kernel
noncomputable def f_X10_drivenWith_15 (r0 : Nat) (v1 : Int32) (v2 : Int32) (k0 : Int32) (σ : am_H) : Option (Int64) :=
  if v1 = 3 then
   (some ((Int32.toInt64 k0) * (Int32.toInt64 v2)))
  else
  (am_ix 4 3).bind fun j2 =>
  some ((Int32.toInt64 k0) * (Int32.toInt64 (σ.1 1106 r0 j2)))
set_option maxRecDepth 100000 in
set_option maxHeartbeats 4000000 in
theorem q_X10_drivenWith_15 {X : am_X} (hX : am_wC X) {Q : Option Value → am_H → Prop} (r0 : Nat) (v1 : Int32) (v2 : Int32) (k0 : Int32) (hr0 : r0 < 18) (σ : am_H) {o : Int64} (hf : f_X10_drivenWith_15 r0 v1 v2 k0 σ = some o) (hk : Q (some (.long o)) σ) : am_G X gm_X10_drivenWith Q 15 [(0, .ref (am_ad X 10 r0)), (1, .int v1), (2, .int v2)] [.int k0] σ := by
  unfold f_X10_drivenWith_15 at hf
  refine g_i2l (pc := 15) dX10_drivenWith_15 ?_
  refine g_iload_n (pc := 16) 1 rfl dX10_drivenWith_16 rfl ?_
  refine g_iconst (pc := 17) (v := 3) dX10_drivenWith_17 (by decide) ?_
  refine bi_ne (pc := 18) 25 dX10_drivenWith_18 rfl (fun c1 => ?_) (fun c1 => ?_)
  · replace hf := am_ifT c1 hf
    refine g_iload_n (pc := 21) 2 rfl dX10_drivenWith_21 rfl ?_
    refine g_goto (pc := 22) 31 dX10_drivenWith_22 rfl ?_
    refine g_i2l (pc := 31) dX10_drivenWith_31 ?_
    refine g_lmul (pc := 32) dX10_drivenWith_32 ?_
    have ho := Option.some.inj hf
    subst ho
    exact g_lreturn (pc := 33) (st := []) rfl dX10_drivenWith_33 hk
  replace hf := am_ifF c1 hf
  refine g_aload_n (pc := 25) 0 rfl dX10_drivenWith_25 rfl ?_
  refine g_getC (pc := 26) (e := r0) (in_10 hX.1 (by omega)) fr_X10_18 dX10_drivenWith_26 rfl ?_
  refine g_iconst (pc := 29) (v := 3) dX10_drivenWith_29 (by decide) ?_
  obtain ⟨j2, hj2, hf⟩ := am_bd hf
  have gj2 := am_ix_lt hj2
  refine g_aI (pc := 30) (in_1106 hX.1 (by omega)) ak_1106 hj2 dX10_drivenWith_30 ?_
  refine g_i2l (pc := 31) dX10_drivenWith_31 ?_
  refine g_lmul (pc := 32) dX10_drivenWith_32 ?_
  have ho := Option.some.inj hf
  subst ho
  exact g_lreturn (pc := 33) (st := []) rfl dX10_drivenWith_33 hk
noncomputable def f_X10_drivenWith (r0 : Nat) (v1 : Int32) (v2 : Int32) (σ : am_H) : Option (Int64) :=
  if v1 = 1 then
   (f_X10_drivenWith_15 r0 v1 v2 v2 σ)
  else
  (am_ix 4 1).bind fun j2 =>
  f_X10_drivenWith_15 r0 v1 v2 (σ.1 1106 r0 j2) σ
set_option maxRecDepth 100000 in
set_option maxHeartbeats 4000000 in
theorem q_X10_drivenWith {X : am_X} (hX : am_wC X) {Q : Option Value → am_H → Prop} (r0 : Nat) (v1 : Int32) (v2 : Int32) (hr0 : r0 < 18) (σ : am_H) {o : Int64} (hf : f_X10_drivenWith r0 v1 v2 σ = some o) (hk : Q (some (.long o)) σ) : am_G X gm_X10_drivenWith Q 0 [(0, .ref (am_ad X 10 r0)), (1, .int v1), (2, .int v2)] [] σ := by
  unfold f_X10_drivenWith at hf
  refine g_iload_n (pc := 0) 1 rfl dX10_drivenWith_0 rfl ?_
  refine g_iconst (pc := 1) (v := 1) dX10_drivenWith_1 (by decide) ?_
  refine bi_ne (pc := 2) 9 dX10_drivenWith_2 rfl (fun c1 => ?_) (fun c1 => ?_)
  · replace hf := am_ifT c1 hf
    refine g_iload_n (pc := 5) 2 rfl dX10_drivenWith_5 rfl ?_
    refine g_goto (pc := 6) 15 dX10_drivenWith_6 rfl ?_
    exact q_X10_drivenWith_15 hX r0 v1 v2 v2 (by omega) σ hf hk
  replace hf := am_ifF c1 hf
  refine g_aload_n (pc := 9) 0 rfl dX10_drivenWith_9 rfl ?_
  refine g_getC (pc := 10) (e := r0) (in_10 hX.1 (by omega)) fr_X10_18 dX10_drivenWith_10 rfl ?_
  refine g_iconst (pc := 13) (v := 1) dX10_drivenWith_13 (by decide) ?_
  obtain ⟨j2, hj2, hf⟩ := am_bd hf
  have gj2 := am_ix_lt hj2
  refine g_aI (pc := 14) (in_1106 hX.1 (by omega)) ak_1106 hj2 dX10_drivenWith_14 ?_
  exact q_X10_drivenWith_15 hX r0 v1 v2 (σ.1 1106 r0 j2) (by omega) σ hf hk
theorem k_X10_drivenWith {X : am_X} (hX : am_wC X) (r0 : Nat) (v1 : Int32) (v2 : Int32) (hr0 : r0 < 18) (σ : am_H) {o : Int64} (hf : f_X10_drivenWith r0 v1 v2 σ = some o) : am_C X gm_X10_drivenWith [.ref (am_ad X 10 r0), .int v1, .int v2] σ (am_is (some (.long o)) σ) :=
  am_ofG rfl (Nat.le_of_ble_eq_true rfl) rfl (q_X10_drivenWith hX r0 v1 v2 hr0 σ hf ⟨rfl, rfl⟩)
theorem dX0_tryTooth_0 : decode cX0_tryTooth 0 = .ok (.aload_n 1, 1) := by decide +kernel
theorem dX0_tryTooth_1 : decode cX0_tryTooth 1 = .ok (.iload 4, 2) := by decide +kernel
theorem dX0_tryTooth_3 : decode cX0_tryTooth 3 = .ok (.invokevirtual 99, 3) := by decide +kernel
theorem dX0_tryTooth_6 : decode cX0_tryTooth 6 = .ok (.iload 5, 2) := by decide +kernel
theorem dX0_tryTooth_8 : decode cX0_tryTooth 8 = .ok (.ifCond .eq 7, 3) := by decide +kernel
theorem dX0_tryTooth_11 : decode cX0_tryTooth 11 = .ok (.iconst 1, 1) := by decide +kernel
theorem dX0_tryTooth_12 : decode cX0_tryTooth 12 = .ok (.goto 4, 3) := by decide +kernel
theorem dX0_tryTooth_15 : decode cX0_tryTooth 15 = .ok (.iconst (-1), 1) := by decide +kernel
theorem dX0_tryTooth_16 : decode cX0_tryTooth 16 = .ok (.iadd, 1) := by decide +kernel
theorem dX0_tryTooth_17 : decode cX0_tryTooth 17 = .ok (.istore 6, 2) := by decide +kernel
theorem dX0_tryTooth_19 : decode cX0_tryTooth 19 = .ok (.aload_n 1, 1) := by decide +kernel
theorem dX0_tryTooth_20 : decode cX0_tryTooth 20 = .ok (.iload 4, 2) := by decide +kernel
theorem dX0_tryTooth_22 : decode cX0_tryTooth 22 = .ok (.iload 6, 2) := by decide +kernel
theorem dX0_tryTooth_24 : decode cX0_tryTooth 24 = .ok (.invokevirtual 103, 3) := by decide +kernel
theorem dX0_tryTooth_27 : decode cX0_tryTooth 27 = .ok (.lstore 7, 2) := by decide +kernel
theorem dX0_tryTooth_29 : decode cX0_tryTooth 29 = .ok (.aload_n 1, 1) := by decide +kernel
theorem dX0_tryTooth_30 : decode cX0_tryTooth 30 = .ok (.iload 4, 2) := by decide +kernel
theorem dX0_tryTooth_32 : decode cX0_tryTooth 32 = .ok (.iload 6, 2) := by decide +kernel
theorem dX0_tryTooth_34 : decode cX0_tryTooth 34 = .ok (.invokevirtual 107, 3) := by decide +kernel
theorem dX0_tryTooth_37 : decode cX0_tryTooth 37 = .ok (.lstore 9, 2) := by decide +kernel
theorem dX0_tryTooth_39 : decode cX0_tryTooth 39 = .ok (.iconst 0, 1) := by decide +kernel
theorem dX0_tryTooth_40 : decode cX0_tryTooth 40 = .ok (.istore 11, 2) := by decide +kernel
theorem dX0_tryTooth_42 : decode cX0_tryTooth 42 = .ok (.iconst 0, 1) := by decide +kernel
theorem dX0_tryTooth_43 : decode cX0_tryTooth 43 = .ok (.istore 12, 2) := by decide +kernel
theorem dX0_tryTooth_45 : decode cX0_tryTooth 45 = .ok (.iload 12, 2) := by decide +kernel
theorem dX0_tryTooth_47 : decode cX0_tryTooth 47 = .ok (.aload_n 2, 1) := by decide +kernel
theorem dX0_tryTooth_48 : decode cX0_tryTooth 48 = .ok (.getfield 34, 3) := by decide +kernel
theorem dX0_tryTooth_51 : decode cX0_tryTooth 51 = .ok (.if_icmp .ge 86, 3) := by decide +kernel
theorem dX0_tryTooth_54 : decode cX0_tryTooth 54 = .ok (.aload_n 1, 1) := by decide +kernel
theorem dX0_tryTooth_55 : decode cX0_tryTooth 55 = .ok (.aload_n 2, 1) := by decide +kernel
theorem dX0_tryTooth_56 : decode cX0_tryTooth 56 = .ok (.getfield 39, 3) := by decide +kernel
theorem dX0_tryTooth_59 : decode cX0_tryTooth 59 = .ok (.iload 12, 2) := by decide +kernel
theorem dX0_tryTooth_61 : decode cX0_tryTooth 61 = .ok (.iaload, 1) := by decide +kernel
theorem dX0_tryTooth_62 : decode cX0_tryTooth 62 = .ok (.i2l, 1) := by decide +kernel
theorem dX0_tryTooth_63 : decode cX0_tryTooth 63 = .ok (.iconst 1, 1) := by decide +kernel
theorem dX0_tryTooth_64 : decode cX0_tryTooth 64 = .ok (.invokevirtual 110, 3) := by decide +kernel
theorem dX0_tryTooth_67 : decode cX0_tryTooth 67 = .ok (.i2l, 1) := by decide +kernel
theorem dX0_tryTooth_68 : decode cX0_tryTooth 68 = .ok (.invokestatic 113, 3) := by decide +kernel
theorem dX0_tryTooth_71 : decode cX0_tryTooth 71 = .ok (.istore 13, 2) := by decide +kernel
theorem dX0_tryTooth_73 : decode cX0_tryTooth 73 = .ok (.aload_n 1, 1) := by decide +kernel
theorem dX0_tryTooth_74 : decode cX0_tryTooth 74 = .ok (.getfield 117, 3) := by decide +kernel
theorem dX0_tryTooth_77 : decode cX0_tryTooth 77 = .ok (.i2l, 1) := by decide +kernel
theorem dX0_tryTooth_78 : decode cX0_tryTooth 78 = .ok (.aload_n 2, 1) := by decide +kernel
theorem dX0_tryTooth_79 : decode cX0_tryTooth 79 = .ok (.getfield 39, 3) := by decide +kernel
theorem dX0_tryTooth_82 : decode cX0_tryTooth 82 = .ok (.iload 12, 2) := by decide +kernel
theorem dX0_tryTooth_84 : decode cX0_tryTooth 84 = .ok (.iaload, 1) := by decide +kernel
theorem dX0_tryTooth_85 : decode cX0_tryTooth 85 = .ok (.i2l, 1) := by decide +kernel
theorem dX0_tryTooth_86 : decode cX0_tryTooth 86 = .ok (.lload 7, 2) := by decide +kernel
theorem dX0_tryTooth_88 : decode cX0_tryTooth 88 = .ok (.lload 9, 2) := by decide +kernel
theorem dX0_tryTooth_90 : decode cX0_tryTooth 90 = .ok (.invokestatic 120, 3) := by decide +kernel
theorem dX0_tryTooth_93 : decode cX0_tryTooth 93 = .ok (.ladd, 1) := by decide +kernel
theorem dX0_tryTooth_94 : decode cX0_tryTooth 94 = .ok (.invokestatic 113, 3) := by decide +kernel
theorem dX0_tryTooth_97 : decode cX0_tryTooth 97 = .ok (.istore 14, 2) := by decide +kernel
theorem dX0_tryTooth_99 : decode cX0_tryTooth 99 = .ok (.iload 11, 2) := by decide +kernel
theorem dX0_tryTooth_101 : decode cX0_tryTooth 101 = .ok (.aload_n 2, 1) := by decide +kernel
theorem dX0_tryTooth_102 : decode cX0_tryTooth 102 = .ok (.iload 12, 2) := by decide +kernel
theorem dX0_tryTooth_104 : decode cX0_tryTooth 104 = .ok (.aload_n 0, 1) := by decide +kernel
theorem dX0_tryTooth_105 : decode cX0_tryTooth 105 = .ok (.getfield 9, 3) := by decide +kernel
theorem dX0_tryTooth_108 : decode cX0_tryTooth 108 = .ok (.iload 12, 2) := by decide +kernel
theorem dX0_tryTooth_110 : decode cX0_tryTooth 110 = .ok (.iaload, 1) := by decide +kernel
theorem dX0_tryTooth_111 : decode cX0_tryTooth 111 = .ok (.aload_n 1, 1) := by decide +kernel
theorem dX0_tryTooth_112 : decode cX0_tryTooth 112 = .ok (.getfield 124, 3) := by decide +kernel
theorem dX0_tryTooth_115 : decode cX0_tryTooth 115 = .ok (.iload 14, 2) := by decide +kernel
theorem dX0_tryTooth_117 : decode cX0_tryTooth 117 = .ok (.iload 13, 2) := by decide +kernel
theorem dX0_tryTooth_119 : decode cX0_tryTooth 119 = .ok (.isub, 1) := by decide +kernel
theorem dX0_tryTooth_120 : decode cX0_tryTooth 120 = .ok (.imul, 1) := by decide +kernel
theorem dX0_tryTooth_121 : decode cX0_tryTooth 121 = .ok (.iadd, 1) := by decide +kernel
theorem dX0_tryTooth_122 : decode cX0_tryTooth 122 = .ok (.bipush 12, 2) := by decide +kernel
theorem dX0_tryTooth_124 : decode cX0_tryTooth 124 = .ok (.idiv, 1) := by decide +kernel
theorem dX0_tryTooth_125 : decode cX0_tryTooth 125 = .ok (.invokevirtual 48, 3) := by decide +kernel
theorem dX0_tryTooth_128 : decode cX0_tryTooth 128 = .ok (.iadd, 1) := by decide +kernel
theorem dX0_tryTooth_129 : decode cX0_tryTooth 129 = .ok (.istore 11, 2) := by decide +kernel
theorem dX0_tryTooth_131 : decode cX0_tryTooth 131 = .ok (.iinc 12 1, 3) := by decide +kernel
theorem dX0_tryTooth_134 : decode cX0_tryTooth 134 = .ok (.goto (-89), 3) := by decide +kernel
theorem dX0_tryTooth_137 : decode cX0_tryTooth 137 = .ok (.iload 11, 2) := by decide +kernel
theorem dX0_tryTooth_139 : decode cX0_tryTooth 139 = .ok (.aload_n 0, 1) := by decide +kernel
theorem dX0_tryTooth_140 : decode cX0_tryTooth 140 = .ok (.getfield 31, 3) := by decide +kernel
theorem dX0_tryTooth_143 : decode cX0_tryTooth 143 = .ok (.if_icmp .ge 26, 3) := by decide +kernel
theorem dX0_tryTooth_146 : decode cX0_tryTooth 146 = .ok (.aload_n 0, 1) := by decide +kernel
theorem dX0_tryTooth_147 : decode cX0_tryTooth 147 = .ok (.iload 11, 2) := by decide +kernel
theorem dX0_tryTooth_149 : decode cX0_tryTooth 149 = .ok (.putfield 31, 3) := by decide +kernel
theorem dX0_tryTooth_152 : decode cX0_tryTooth 152 = .ok (.aload_n 0, 1) := by decide +kernel
theorem dX0_tryTooth_153 : decode cX0_tryTooth 153 = .ok (.iload_n 3, 1) := by decide +kernel
theorem dX0_tryTooth_154 : decode cX0_tryTooth 154 = .ok (.putfield 25, 3) := by decide +kernel
theorem dX0_tryTooth_157 : decode cX0_tryTooth 157 = .ok (.aload_n 0, 1) := by decide +kernel
theorem dX0_tryTooth_158 : decode cX0_tryTooth 158 = .ok (.iload 4, 2) := by decide +kernel
theorem dX0_tryTooth_160 : decode cX0_tryTooth 160 = .ok (.putfield 127, 3) := by decide +kernel
theorem dX0_tryTooth_163 : decode cX0_tryTooth 163 = .ok (.aload_n 0, 1) := by decide +kernel
theorem dX0_tryTooth_164 : decode cX0_tryTooth 164 = .ok (.iload 5, 2) := by decide +kernel
theorem dX0_tryTooth_166 : decode cX0_tryTooth 166 = .ok (.putfield 130, 3) := by decide +kernel
theorem dX0_tryTooth_169 : decode cX0_tryTooth 169 = .ok (.return_, 1) := by decide +kernel
noncomputable def f_X0_tryTooth_45 (r1 : Nat) (r2 : Nat) (v3 : Int32) (v4 : Int32) (v5 : Bool) (v7 : Int64) (v9 : Int64) (v11 : Int32) (v12 : Int32) (σ : am_H) : Option ((Int32 × Int32) ⊕ (Int32)) :=
  if v12 < (σ.1 1 r2 0) then
   ((am_ix 24 v12).bind fun j2 =>
   (f_X10_placeAt r1 (Int32.toInt64 (σ.1 201 r2 j2)) true σ).bind fun p3 =>
   (f_X11_cosOf (Int32.toInt64 p3) σ).bind fun p4 =>
   (am_ix 24 v12).bind fun j5 =>
   (f_X10_turnedGone (Int32.toInt64 (σ.1 201 r2 j5)) v7 v9 σ).bind fun p6 =>
   (f_X11_cosOf ((Int32.toInt64 (σ.1 10 r1 4)) + p6) σ).bind fun p7 =>
   (am_ix 48 v12).bind fun j8 =>
   (f_X1_missOf r2 v12 (((σ.1 100 0 j8) + ((σ.1 10 r1 3) * (p7 - p4))) / 12) σ).bind fun p9 =>
   some (.inl ((v11 + p9), (v12 + 1))))
  else
  some (.inr v11)
set_option maxRecDepth 100000 in
set_option maxHeartbeats 4000000 in
theorem q_X0_tryTooth_45 {X : am_X} (hX : am_wC X) {Q : Option Value → am_H → Prop} (r1 : Nat) (r2 : Nat) (v3 : Int32) (v4 : Int32) (v5 : Bool) (v7 : Int64) (v9 : Int64) (v11 : Int32) (v12 : Int32) (hr1 : r1 < 18) (hr2 : r2 < 2) (σ : am_H) {o : (Int32 × Int32) ⊕ (Int32)} (hf : f_X0_tryTooth_45 r1 r2 v3 v4 v5 v7 v9 v11 v12 σ = some o) (hk0 : ∀ s, o = .inl s → am_G X gm_X0_tryTooth Q 45 [(0, .ref (am_ad X 0 0)), (1, .ref (am_ad X 10 r1)), (2, .ref (am_ad X 1 r2)), (3, .int v3), (4, .int v4), (5, .int (am_b v5)), (7, .long v7), (9, .long v9), (11, .int s.1), (12, .int s.2)] [] σ) (hk1 : ∀ t, o = .inr t → am_G X gm_X0_tryTooth Q 137 [(0, .ref (am_ad X 0 0)), (3, .int v3), (4, .int v4), (5, .int (am_b v5)), (11, .int t)] [] σ) : am_G X gm_X0_tryTooth Q 45 [(0, .ref (am_ad X 0 0)), (1, .ref (am_ad X 10 r1)), (2, .ref (am_ad X 1 r2)), (3, .int v3), (4, .int v4), (5, .int (am_b v5)), (7, .long v7), (9, .long v9), (11, .int v11), (12, .int v12)] [] σ := by
  unfold f_X0_tryTooth_45 at hf
  refine g_iload (pc := 45) 9 rfl dX0_tryTooth_45 ?_
  refine g_aload_n (pc := 47) 2 rfl dX0_tryTooth_47 rfl ?_
  refine g_getI (pc := 48) (in_1 hX.1 (by omega)) fr_X0_34 dX0_tryTooth_48 ?_
  refine bi_ge (pc := 51) 137 dX0_tryTooth_51 rfl (fun c1 => ?_) (fun c1 => ?_)
  · replace hf := am_ifT c1 hf
    refine g_aload_n (pc := 54) 1 rfl dX0_tryTooth_54 rfl ?_
    refine g_aload_n (pc := 55) 2 rfl dX0_tryTooth_55 rfl ?_
    refine g_getC (pc := 56) (e := r2) (in_1 hX.1 (by omega)) fr_X0_39 dX0_tryTooth_56 rfl ?_
    refine g_iload (pc := 59) 9 rfl dX0_tryTooth_59 ?_
    obtain ⟨j2, hj2, hf⟩ := am_bd hf
    have gj2 := am_ix_lt hj2
    refine g_aI (pc := 61) (in_201 hX.1 (by omega)) ak_201 hj2 dX0_tryTooth_61 ?_
    refine g_i2l (pc := 62) dX0_tryTooth_62 ?_
    refine g_iconst (pc := 63) (v := 1) dX0_tryTooth_63 (by decide) ?_
    obtain ⟨p3, hp3, hf⟩ := am_bd hf
    refine g_cV (pc := 64) (As := [.long (Int32.toInt64 (σ.1 201 r2 j2)), .int (am_b true)]) (st := []) (st1 := [.int p3]) (in_10 hX.1 (by omega)) kk_10 mV_X10_placeAt ln_X0_110 rfl (Nat.le_of_ble_eq_true rfl) (Nat.le_of_ble_eq_true rfl) (k_X10_placeAt hX r1 (Int32.toInt64 (σ.1 201 r2 j2)) true (by omega) σ hp3) dX0_tryTooth_64 rfl rfl ?_
    refine g_i2l (pc := 67) dX0_tryTooth_67 ?_
    obtain ⟨p4, hp4, hf⟩ := am_bd hf
    refine g_cS (pc := 68) (As := [.long (Int32.toInt64 p3)]) (st := []) (st1 := [.int p4]) mS_X11_cosOf ln_X0_113 rfl (Nat.le_of_ble_eq_true rfl) (Nat.le_of_ble_eq_true rfl) (k_X11_cosOf hX (Int32.toInt64 p3) σ hp4) dX0_tryTooth_68 rfl rfl ?_
    refine g_istore (pc := 71) [(13, .int p4), (0, .ref (am_ad X 0 0)), (1, .ref (am_ad X 10 r1)), (2, .ref (am_ad X 1 r2)), (3, .int v3), (4, .int v4), (5, .int (am_b v5)), (7, .long v7), (9, .long v9), (11, .int v11), (12, .int v12)] dX0_tryTooth_71 (Nat.le_of_ble_eq_true rfl) rfl ?_
    refine g_aload_n (pc := 73) 2 rfl dX0_tryTooth_73 rfl ?_
    refine g_getI (pc := 74) (in_10 hX.1 (by omega)) fr_X0_117 dX0_tryTooth_74 ?_
    refine g_i2l (pc := 77) dX0_tryTooth_77 ?_
    refine g_aload_n (pc := 78) 3 rfl dX0_tryTooth_78 rfl ?_
    refine g_getC (pc := 79) (e := r2) (in_1 hX.1 (by omega)) fr_X0_39 dX0_tryTooth_79 rfl ?_
    refine g_iload (pc := 82) 10 rfl dX0_tryTooth_82 ?_
    obtain ⟨j5, hj5, hf⟩ := am_bd hf
    have gj5 := am_ix_lt hj5
    refine g_aI (pc := 84) (in_201 hX.1 (by omega)) ak_201 hj5 dX0_tryTooth_84 ?_
    refine g_i2l (pc := 85) dX0_tryTooth_85 ?_
    refine g_lload (pc := 86) 7 rfl dX0_tryTooth_86 ?_
    refine g_lload (pc := 88) 8 rfl dX0_tryTooth_88 ?_
    obtain ⟨p6, hp6, hf⟩ := am_bd hf
    refine g_cS (pc := 90) (As := [.long (Int32.toInt64 (σ.1 201 r2 j5)), .long v7, .long v9]) (st := [.long (Int32.toInt64 (σ.1 10 r1 4))]) (st1 := [.long p6, .long (Int32.toInt64 (σ.1 10 r1 4))]) mS_X10_turnedGone ln_X0_120 rfl (Nat.le_of_ble_eq_true rfl) (Nat.le_of_ble_eq_true rfl) (k_X10_turnedGone hX (Int32.toInt64 (σ.1 201 r2 j5)) v7 v9 σ hp6) dX0_tryTooth_90 rfl rfl ?_
    refine g_ladd (pc := 93) dX0_tryTooth_93 ?_
    obtain ⟨p7, hp7, hf⟩ := am_bd hf
    refine g_cS (pc := 94) (As := [.long ((Int32.toInt64 (σ.1 10 r1 4)) + p6)]) (st := []) (st1 := [.int p7]) mS_X11_cosOf ln_X0_113 rfl (Nat.le_of_ble_eq_true rfl) (Nat.le_of_ble_eq_true rfl) (k_X11_cosOf hX ((Int32.toInt64 (σ.1 10 r1 4)) + p6) σ hp7) dX0_tryTooth_94 rfl rfl ?_
    refine g_istore (pc := 97) [(14, .int p7), (13, .int p4), (0, .ref (am_ad X 0 0)), (1, .ref (am_ad X 10 r1)), (2, .ref (am_ad X 1 r2)), (3, .int v3), (4, .int v4), (5, .int (am_b v5)), (7, .long v7), (9, .long v9), (11, .int v11), (12, .int v12)] dX0_tryTooth_97 (Nat.le_of_ble_eq_true rfl) rfl ?_
    refine g_iload (pc := 99) 10 rfl dX0_tryTooth_99 ?_
    refine g_aload_n (pc := 101) 4 rfl dX0_tryTooth_101 rfl ?_
    refine g_iload (pc := 102) 11 rfl dX0_tryTooth_102 ?_
    refine g_aload_n (pc := 104) 2 rfl dX0_tryTooth_104 rfl ?_
    refine g_getC (pc := 105) (e := 0) (in_0 hX.1 (by omega)) fr_X0_9 dX0_tryTooth_105 rfl ?_
    refine g_iload (pc := 108) 11 rfl dX0_tryTooth_108 ?_
    obtain ⟨j8, hj8, hf⟩ := am_bd hf
    have gj8 := am_ix_lt hj8
    refine g_aI (pc := 110) (in_100 hX.1 (by omega)) ak_100 hj8 dX0_tryTooth_110 ?_
    refine g_aload_n (pc := 111) 3 rfl dX0_tryTooth_111 rfl ?_
    refine g_getI (pc := 112) (in_10 hX.1 (by omega)) fr_X0_124 dX0_tryTooth_112 ?_
    refine g_iload (pc := 115) 0 rfl dX0_tryTooth_115 ?_
    refine g_iload (pc := 117) 1 rfl dX0_tryTooth_117 ?_
    refine g_isub (pc := 119) dX0_tryTooth_119 ?_
    refine g_imul (pc := 120) dX0_tryTooth_120 ?_
    refine g_iadd (pc := 121) dX0_tryTooth_121 ?_
    refine g_bipush (pc := 122) (v := 12) dX0_tryTooth_122 (by decide) ?_
    refine g_idiv (pc := 124) dX0_tryTooth_124 (by decide) ?_
    obtain ⟨p9, hp9, hf⟩ := am_bd hf
    refine g_cV (pc := 125) (As := [.int v12, .int (((σ.1 100 0 j8) + ((σ.1 10 r1 3) * (p7 - p4))) / 12)]) (st := [.int v11]) (st1 := [.int p9, .int v11]) (in_1 hX.1 (by omega)) kk_1 mV_X1_missOf ln_X0_48 rfl (Nat.le_of_ble_eq_true rfl) (Nat.le_of_ble_eq_true rfl) (k_X1_missOf hX r2 v12 (((σ.1 100 0 j8) + ((σ.1 10 r1 3) * (p7 - p4))) / 12) (by omega) σ hp9) dX0_tryTooth_125 rfl rfl ?_
    refine g_iadd (pc := 128) dX0_tryTooth_128 ?_
    refine g_istore (pc := 129) [(11, .int (v11 + p9)), (14, .int p7), (13, .int p4), (0, .ref (am_ad X 0 0)), (1, .ref (am_ad X 10 r1)), (2, .ref (am_ad X 1 r2)), (3, .int v3), (4, .int v4), (5, .int (am_b v5)), (7, .long v7), (9, .long v9), (12, .int v12)] dX0_tryTooth_129 (Nat.le_of_ble_eq_true rfl) rfl ?_
    refine g_iinc (pc := 131) (v := (v12 + 1)) 11 [(12, .int (v12 + 1)), (11, .int (v11 + p9)), (14, .int p7), (13, .int p4), (0, .ref (am_ad X 0 0)), (1, .ref (am_ad X 10 r1)), (2, .ref (am_ad X 1 r2)), (3, .int v3), (4, .int v4), (5, .int (am_b v5)), (7, .long v7), (9, .long v9)] dX0_tryTooth_131 rfl rfl (Nat.le_of_ble_eq_true rfl) rfl ?_
    refine g_goto (pc := 134) 45 dX0_tryTooth_134 rfl ?_
    have hz := hk0 _ (Option.some.inj hf).symm
    exact am_sub [4, 5, 6, 7, 8, 9, 10, 11, 1, 0] rfl hz
  replace hf := am_ifF c1 hf
  have hz := hk1 _ (Option.some.inj hf).symm
  exact am_sub [0, 3, 4, 5, 8] rfl hz
set_option maxRecDepth 100000 in
set_option maxHeartbeats 4000000 in
theorem l_X0_tryTooth_45 {X : am_X} (hX : am_wC X) {Q : Option Value → am_H → Prop} (r1 : Nat) (r2 : Nat) (v3 : Int32) (v4 : Int32) (v5 : Bool) (v7 : Int64) (v9 : Int64) (hr1 : r1 < 18) (hr2 : r2 < 2) (σ : am_H) (s : Int32 × Int32) {o : Int32} (hf : am_loop (fun s => f_X0_tryTooth_45 r1 r2 v3 v4 v5 v7 v9 s.1 s.2 σ) s = some o) (hk1 : ∀ t, o = t → am_G X gm_X0_tryTooth Q 137 [(0, .ref (am_ad X 0 0)), (3, .int v3), (4, .int v4), (5, .int (am_b v5)), (11, .int t)] [] σ) : am_G X gm_X0_tryTooth Q 45 [(0, .ref (am_ad X 0 0)), (1, .ref (am_ad X 10 r1)), (2, .ref (am_ad X 1 r2)), (3, .int v3), (4, .int v4), (5, .int (am_b v5)), (7, .long v7), (9, .long v9), (11, .int s.1), (12, .int s.2)] [] σ := by
  refine am_loop_ind (P := fun s => am_G X gm_X0_tryTooth Q 45 [(0, .ref (am_ad X 0 0)), (1, .ref (am_ad X 10 r1)), (2, .ref (am_ad X 1 r2)), (3, .int v3), (4, .int v4), (5, .int (am_b v5)), (7, .long v7), (9, .long v9), (11, .int s.1), (12, .int s.2)] [] σ) (K := fun r => r = o) ?_ hf rfl
  intro s o1 hb hi hr
  exact q_X0_tryTooth_45 hX r1 r2 v3 v4 v5 v7 v9 s.1 s.2  hr1 hr2 σ hb hi (fun t e => hk1 t (hr _ e).symm)
noncomputable def f_X0_tryTooth_16 (r1 : Nat) (r2 : Nat) (v3 : Int32) (v4 : Int32) (v5 : Bool) (k0 : Int32) (k1 : Int32) (σ : am_H) : Option (am_H) :=
  (f_X10_drivingWith r1 v4 (k0 + k1) σ).bind fun p1 =>
  (f_X10_drivenWith r1 v4 (k0 + k1) σ).bind fun p2 =>
  (am_loop (fun s => f_X0_tryTooth_45 r1 r2 v3 v4 v5 p1 p2 s.1 s.2 σ) (0, 0)).bind fun w3 =>
  if w3 < (σ.1 0 0 3) then
   ((some (am_wI σ 0 0 3 w3)).bind fun s5 =>
   (some (am_wI s5 0 0 9 v3)).bind fun s6 =>
   (some (am_wI s6 0 0 10 v4)).bind fun s7 =>
   (some (am_wI s7 0 0 11 (am_b v5))).bind fun s8 =>
   some s8)
  else
  some σ
set_option maxRecDepth 100000 in
set_option maxHeartbeats 4000000 in
theorem q_X0_tryTooth_16 {X : am_X} (hX : am_wC X) {Q : Option Value → am_H → Prop} (r1 : Nat) (r2 : Nat) (v3 : Int32) (v4 : Int32) (v5 : Bool) (k0 : Int32) (k1 : Int32) (hr1 : r1 < 18) (hr2 : r2 < 2) (σ : am_H) {o : am_H} (hf : f_X0_tryTooth_16 r1 r2 v3 v4 v5 k0 k1 σ = some o) (hk : Q none o) : am_G X gm_X0_tryTooth Q 16 [(0, .ref (am_ad X 0 0)), (1, .ref (am_ad X 10 r1)), (2, .ref (am_ad X 1 r2)), (3, .int v3), (4, .int v4), (5, .int (am_b v5))] [.int k1, .int k0] σ := by
  unfold f_X0_tryTooth_16 at hf
  refine g_iadd (pc := 16) dX0_tryTooth_16 ?_
  refine g_istore (pc := 17) [(6, .int (k0 + k1)), (0, .ref (am_ad X 0 0)), (1, .ref (am_ad X 10 r1)), (2, .ref (am_ad X 1 r2)), (3, .int v3), (4, .int v4), (5, .int (am_b v5))] dX0_tryTooth_17 (Nat.le_of_ble_eq_true rfl) rfl ?_
  refine g_aload_n (pc := 19) 2 rfl dX0_tryTooth_19 rfl ?_
  refine g_iload (pc := 20) 5 rfl dX0_tryTooth_20 ?_
  refine g_iload (pc := 22) 0 rfl dX0_tryTooth_22 ?_
  obtain ⟨p1, hp1, hf⟩ := am_bd hf
  refine g_cV (pc := 24) (As := [.int v4, .int (k0 + k1)]) (st := []) (st1 := [.long p1]) (in_10 hX.1 (by omega)) kk_10 mV_X10_drivingWith ln_X0_103 rfl (Nat.le_of_ble_eq_true rfl) (Nat.le_of_ble_eq_true rfl) (k_X10_drivingWith hX r1 v4 (k0 + k1) (by omega) σ hp1) dX0_tryTooth_24 rfl rfl ?_
  refine g_lstore (pc := 27) [(7, .long p1), (6, .int (k0 + k1)), (0, .ref (am_ad X 0 0)), (1, .ref (am_ad X 10 r1)), (2, .ref (am_ad X 1 r2)), (3, .int v3), (4, .int v4), (5, .int (am_b v5))] dX0_tryTooth_27 (Nat.le_of_ble_eq_true rfl) rfl ?_
  refine g_aload_n (pc := 29) 3 rfl dX0_tryTooth_29 rfl ?_
  refine g_iload (pc := 30) 6 rfl dX0_tryTooth_30 ?_
  refine g_iload (pc := 32) 1 rfl dX0_tryTooth_32 ?_
  obtain ⟨p2, hp2, hf⟩ := am_bd hf
  refine g_cV (pc := 34) (As := [.int v4, .int (k0 + k1)]) (st := []) (st1 := [.long p2]) (in_10 hX.1 (by omega)) kk_10 mV_X10_drivenWith ln_X0_107 rfl (Nat.le_of_ble_eq_true rfl) (Nat.le_of_ble_eq_true rfl) (k_X10_drivenWith hX r1 v4 (k0 + k1) (by omega) σ hp2) dX0_tryTooth_34 rfl rfl ?_
  refine g_lstore (pc := 37) [(9, .long p2), (7, .long p1), (6, .int (k0 + k1)), (0, .ref (am_ad X 0 0)), (1, .ref (am_ad X 10 r1)), (2, .ref (am_ad X 1 r2)), (3, .int v3), (4, .int v4), (5, .int (am_b v5))] dX0_tryTooth_37 (Nat.le_of_ble_eq_true rfl) rfl ?_
  refine g_iconst (pc := 39) (v := 0) dX0_tryTooth_39 (by decide) ?_
  refine g_istore (pc := 40) [(11, .int 0), (9, .long p2), (7, .long p1), (6, .int (k0 + k1)), (0, .ref (am_ad X 0 0)), (1, .ref (am_ad X 10 r1)), (2, .ref (am_ad X 1 r2)), (3, .int v3), (4, .int v4), (5, .int (am_b v5))] dX0_tryTooth_40 (Nat.le_of_ble_eq_true rfl) rfl ?_
  refine g_iconst (pc := 42) (v := 0) dX0_tryTooth_42 (by decide) ?_
  refine g_istore (pc := 43) [(12, .int 0), (11, .int 0), (9, .long p2), (7, .long p1), (6, .int (k0 + k1)), (0, .ref (am_ad X 0 0)), (1, .ref (am_ad X 10 r1)), (2, .ref (am_ad X 1 r2)), (3, .int v3), (4, .int v4), (5, .int (am_b v5))] dX0_tryTooth_43 (Nat.le_of_ble_eq_true rfl) rfl ?_
  obtain ⟨w3, hw3, hf⟩ := am_bd hf
  refine am_sub [5, 6, 7, 8, 9, 10, 3, 2, 1, 0] rfl (l_X0_tryTooth_45 hX r1 r2 v3 v4 v5 p1 p2 (by omega) (by omega) σ (0, 0) hw3 ?_)
  intro t e
  subst e
  refine g_iload (pc := 137) 4 rfl dX0_tryTooth_137 ?_
  refine g_aload_n (pc := 139) 0 rfl dX0_tryTooth_139 rfl ?_
  refine g_getI (pc := 140) (in_0 hX.1 (by omega)) fr_X0_31 dX0_tryTooth_140 ?_
  refine bi_ge (pc := 143) 169 dX0_tryTooth_143 rfl (fun c4 => ?_) (fun c4 => ?_)
  · replace hf := am_ifT c4 hf
    refine g_aload_n (pc := 146) 0 rfl dX0_tryTooth_146 rfl ?_
    refine g_iload (pc := 147) 4 rfl dX0_tryTooth_147 ?_
    obtain ⟨s5, hs5, hf⟩ := am_bd hf
    refine g_setI (pc := 149) (in_0 hX.1 (by omega)) fr_X0_31 dX0_tryTooth_149 (Option.some.inj hs5) ?_
    refine g_aload_n (pc := 152) 0 rfl dX0_tryTooth_152 rfl ?_
    refine g_iload_n (pc := 153) 1 rfl dX0_tryTooth_153 rfl ?_
    obtain ⟨s6, hs6, hf⟩ := am_bd hf
    refine g_setI (pc := 154) (in_0 hX.1 (by omega)) fr_X0_25 dX0_tryTooth_154 (Option.some.inj hs6) ?_
    refine g_aload_n (pc := 157) 0 rfl dX0_tryTooth_157 rfl ?_
    refine g_iload (pc := 158) 2 rfl dX0_tryTooth_158 ?_
    obtain ⟨s7, hs7, hf⟩ := am_bd hf
    refine g_setI (pc := 160) (in_0 hX.1 (by omega)) fr_X0_127 dX0_tryTooth_160 (Option.some.inj hs7) ?_
    refine g_aload_n (pc := 163) 0 rfl dX0_tryTooth_163 rfl ?_
    refine g_iload (pc := 164) 3 rfl dX0_tryTooth_164 ?_
    obtain ⟨s8, hs8, hf⟩ := am_bd hf
    refine g_setZ (x := v5) (pc := 166) (in_0 hX.1 (by omega)) fr_X0_130 dX0_tryTooth_166 (Option.some.inj hs8) ?_
    have ho := Option.some.inj hf
    subst ho
    exact g_vreturn (pc := 169) (st := []) rfl dX0_tryTooth_169 hk
  replace hf := am_ifF c4 hf
  have ho := Option.some.inj hf
  subst ho
  exact g_vreturn (pc := 169) (st := []) rfl dX0_tryTooth_169 hk
noncomputable def f_X0_tryTooth (r1 : Nat) (r2 : Nat) (v3 : Int32) (v4 : Int32) (v5 : Bool) (σ : am_H) : Option (am_H) :=
  (f_X10_toothed r1 v4 σ).bind fun p1 =>
  if v5 = true then
   (f_X0_tryTooth_16 r1 r2 v3 v4 v5 p1 1 σ)
  else
  f_X0_tryTooth_16 r1 r2 v3 v4 v5 p1 (-1) σ
set_option maxRecDepth 100000 in
set_option maxHeartbeats 4000000 in
theorem q_X0_tryTooth {X : am_X} (hX : am_wC X) {Q : Option Value → am_H → Prop} (r1 : Nat) (r2 : Nat) (v3 : Int32) (v4 : Int32) (v5 : Bool) (hr1 : r1 < 18) (hr2 : r2 < 2) (σ : am_H) {o : am_H} (hf : f_X0_tryTooth r1 r2 v3 v4 v5 σ = some o) (hk : Q none o) : am_G X gm_X0_tryTooth Q 0 [(0, .ref (am_ad X 0 0)), (1, .ref (am_ad X 10 r1)), (2, .ref (am_ad X 1 r2)), (3, .int v3), (4, .int v4), (5, .int (am_b v5))] [] σ := by
  unfold f_X0_tryTooth at hf
  refine g_aload_n (pc := 0) 1 rfl dX0_tryTooth_0 rfl ?_
  refine g_iload (pc := 1) 4 rfl dX0_tryTooth_1 ?_
  obtain ⟨p1, hp1, hf⟩ := am_bd hf
  refine g_cV (pc := 3) (As := [.int v4]) (st := []) (st1 := [.int p1]) (in_10 hX.1 (by omega)) kk_10 mV_X10_toothed ln_X0_99 rfl (Nat.le_of_ble_eq_true rfl) (Nat.le_of_ble_eq_true rfl) (k_X10_toothed hX r1 v4 (by omega) σ hp1) dX0_tryTooth_3 rfl rfl ?_
  refine g_iload (pc := 6) 5 rfl dX0_tryTooth_6 ?_
  refine bt_eq (pc := 8) 15 dX0_tryTooth_8 rfl (fun c2 => ?_) (fun c2 => ?_)
  · replace hf := am_ifT c2 hf
    refine g_iconst (pc := 11) (v := 1) dX0_tryTooth_11 (by decide) ?_
    refine g_goto (pc := 12) 16 dX0_tryTooth_12 rfl ?_
    exact q_X0_tryTooth_16 hX r1 r2 v3 v4 v5 p1 1 (by omega) (by omega) σ hf hk
  replace hf := am_ifF c2 hf
  refine g_iconst (pc := 15) (v := (-1)) dX0_tryTooth_15 (by decide) ?_
  exact q_X0_tryTooth_16 hX r1 r2 v3 v4 v5 p1 (-1) (by omega) (by omega) σ hf hk
theorem k_X0_tryTooth {X : am_X} (hX : am_wC X) (r1 : Nat) (r2 : Nat) (v3 : Int32) (v4 : Int32) (v5 : Bool) (hr1 : r1 < 18) (hr2 : r2 < 2) (σ : am_H) {o : am_H} (hf : f_X0_tryTooth r1 r2 v3 v4 v5 σ = some o) : am_C X gm_X0_tryTooth [.ref (am_ad X 0 0), .ref (am_ad X 10 r1), .ref (am_ad X 1 r2), .int v3, .int v4, .int (am_b v5)] σ (am_is none o) :=
  am_ofG rfl (Nat.le_of_ble_eq_true rfl) rfl (q_X0_tryTooth hX r1 r2 v3 v4 v5 hr1 hr2 σ hf ⟨rfl, rfl⟩)
