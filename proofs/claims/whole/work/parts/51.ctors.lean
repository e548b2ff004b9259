def am_tz (c : Nat → ClassId) : List (ClassId × FieldType) := [(c 0, .int), (c 1, .long), (c 2, .byte), (c 3, .boolean), (c 4, .object RX8), (c 5, .object RX3), (c 6, .object RX10)]
theorem hu_int : ∀ (s : State) (cA cB : ClassId), va_RA s cA .int → va_RA s cB .int → cA = cB := fun s a b h1 h2 => Option.some.inj ((va_nm_int h1).symm.trans (va_nm_int h2))
theorem aw_int : Cond.arrayClass (.int) ∈ lw_tbl := by decide +kernel
theorem hu_long : ∀ (s : State) (cA cB : ClassId), va_RA s cA .long → va_RA s cB .long → cA = cB := fun s a b h1 h2 => Option.some.inj ((va_nm_long h1).symm.trans (va_nm_long h2))
theorem aw_long : Cond.arrayClass (.long) ∈ lw_tbl := by decide +kernel
theorem hu_byte : ∀ (s : State) (cA cB : ClassId), va_RA s cA .byte → va_RA s cB .byte → cA = cB := fun s a b h1 h2 => Option.some.inj ((va_nm_byte h1).symm.trans (va_nm_byte h2))
theorem aw_byte : Cond.arrayClass (.byte) ∈ lw_tbl := by decide +kernel
theorem hu_boolean : ∀ (s : State) (cA cB : ClassId), va_RA s cA .boolean → va_RA s cB .boolean → cA = cB := fun s a b h1 h2 => Option.some.inj ((va_nm_boolean h1).symm.trans (va_nm_boolean h2))
theorem aw_boolean : Cond.arrayClass (.boolean) ∈ lw_tbl := by decide +kernel
theorem ow_8 : Cond.arrayOver (.object RX8) ∈ lw_tbl := (tb_1 (List.mem_of_getElem? (i := 70) (by decide +kernel)))
theorem oa_8 : ∀ U, am_AO U → va_AO RX8 U := fun U h => h.1
theorem ow_3 : Cond.arrayOver (.object RX3) ∈ lw_tbl := (tb_1 (List.mem_of_getElem? (i := 91) (by decide +kernel)))
theorem oa_3 : ∀ U, am_AO U → va_AO RX3 U := fun U h => h.2.1
theorem ow_10 : Cond.arrayOver (.object RX10) ∈ lw_tbl := (tb_1 (List.mem_of_getElem? (i := 98) (by decide +kernel)))
theorem oa_10 : ∀ U, am_AO U → va_AO RX10 U := fun U h => h.2.2
theorem dI10_0 : decode cX10_init 0 = .ok (.aload_n 0, 1) := by decide +kernel
theorem dI10_1 : decode cX10_init 1 = .ok (.invokespecial 3, 3) := by decide +kernel
theorem dI10_4 : decode cX10_init 4 = .ok (.aload_n 0, 1) := by decide +kernel
theorem dI10_5 : decode cX10_init 5 = .ok (.iconst 1, 1) := by decide +kernel
theorem dI10_6 : decode cX10_init 6 = .ok (.putfield 9, 3) := by decide +kernel
theorem dI10_9 : decode cX10_init 9 = .ok (.aload_n 0, 1) := by decide +kernel
theorem dI10_10 : decode cX10_init 10 = .ok (.iconst 1, 1) := by decide +kernel
theorem dI10_11 : decode cX10_init 11 = .ok (.putfield 15, 3) := by decide +kernel
theorem dI10_14 : decode cX10_init 14 = .ok (.aload_n 0, 1) := by decide +kernel
theorem dI10_15 : decode cX10_init 15 = .ok (.iconst 4, 1) := by decide +kernel
theorem dI10_16 : decode cX10_init 16 = .ok (.newarray .int, 2) := by decide +kernel
theorem dI10_18 : decode cX10_init 18 = .ok (.dup, 1) := by decide +kernel
theorem dI10_19 : decode cX10_init 19 = .ok (.iconst 0, 1) := by decide +kernel
theorem dI10_20 : decode cX10_init 20 = .ok (.iconst 1, 1) := by decide +kernel
theorem dI10_21 : decode cX10_init 21 = .ok (.iastore, 1) := by decide +kernel
theorem dI10_22 : decode cX10_init 22 = .ok (.dup, 1) := by decide +kernel
theorem dI10_23 : decode cX10_init 23 = .ok (.iconst 1, 1) := by decide +kernel
theorem dI10_24 : decode cX10_init 24 = .ok (.iconst 1, 1) := by decide +kernel
theorem dI10_25 : decode cX10_init 25 = .ok (.iastore, 1) := by decide +kernel
theorem dI10_26 : decode cX10_init 26 = .ok (.dup, 1) := by decide +kernel
theorem dI10_27 : decode cX10_init 27 = .ok (.iconst 2, 1) := by decide +kernel
theorem dI10_28 : decode cX10_init 28 = .ok (.iconst 1, 1) := by decide +kernel
theorem dI10_29 : decode cX10_init 29 = .ok (.iastore, 1) := by decide +kernel
theorem dI10_30 : decode cX10_init 30 = .ok (.dup, 1) := by decide +kernel
theorem dI10_31 : decode cX10_init 31 = .ok (.iconst 3, 1) := by decide +kernel
theorem dI10_32 : decode cX10_init 32 = .ok (.iconst 1, 1) := by decide +kernel
theorem dI10_33 : decode cX10_init 33 = .ok (.iastore, 1) := by decide +kernel
theorem dI10_34 : decode cX10_init 34 = .ok (.putfield 18, 3) := by decide +kernel
theorem dI10_37 : decode cX10_init 37 = .ok (.aload_n 0, 1) := by decide +kernel
theorem dI10_38 : decode cX10_init 38 = .ok (.lconst 1, 1) := by decide +kernel
theorem dI10_39 : decode cX10_init 39 = .ok (.putfield 22, 3) := by decide +kernel
theorem dI10_42 : decode cX10_init 42 = .ok (.aload_n 0, 1) := by decide +kernel
theorem dI10_43 : decode cX10_init 43 = .ok (.lconst 1, 1) := by decide +kernel
theorem dI10_44 : decode cX10_init 44 = .ok (.putfield 26, 3) := by decide +kernel
theorem dI10_47 : decode cX10_init 47 = .ok (.return_, 1) := by decide +kernel
theorem cd_I10 : Cond.code yX10_init cX10_init 1 none ∈ lw_tbl := (tb_1 (List.mem_of_getElem? (i := 102) (by decide +kernel)))
theorem pd_I10 : (parseMethodDescriptor yX10_init.desc).map (fun d => d.parameters.length) = some 0 := by decide +kernel
theorem iw_I10 : Cond.instanceMethod yX10_init ∈ lw_tbl := (tb_1 (List.mem_of_getElem? (i := 101) (by decide +kernel)))
abbrev gm_I10 : am_M := (yX10_init, cX10_init, 1, none, 1)
theorem fp_10_9 : am_fp RX10 9 10 1 false .int := ⟨_, _, _, kd_10, by decide, (tb_1 (List.mem_of_getElem? (i := 106) (by decide +kernel))), rfl, rfl, rfl⟩
theorem fp_10_15 : am_fp RX10 15 10 2 false .int := ⟨_, _, _, kd_10, by decide, (tb_1 (List.mem_of_getElem? (i := 109) (by decide +kernel))), rfl, rfl, rfl⟩
theorem fp_10_18 : am_fp RX10 18 10 6 true (.array .int) := ⟨_, _, _, kd_10, by decide, (tb_1 (List.mem_of_getElem? (i := 122) (by decide +kernel))), rfl, rfl, rfl⟩
theorem fp_10_22 : am_fp RX10 22 10 7 false .long := ⟨_, _, _, kd_10, by decide, (tb_1 (List.mem_of_getElem? (i := 124) (by decide +kernel))), rfl, rfl, rfl⟩
theorem fp_10_26 : am_fp RX10 26 10 8 false .long := ⟨_, _, _, kd_10, by decide, (tb_1 (List.mem_of_getElem? (i := 127) (by decide +kernel))), rfl, rfl, rfl⟩
set_option maxRecDepth 100000 in
set_option maxHeartbeats 4000000 in
theorem ci_10 (l : Launch) (D : va_G) (c : Nat → ClassId) (h0 : Nat) : am_NC (l, D, am_tz c) gm_I10 1 4 h0 (.inr (10, [.long 0, .int 0, .int 0, .int 0, .int 0, .int 0, .null, .long 0, .long 0])) (fun ws => ∃ q1 : Nat, ws = [(q1, .inl (c 0, 4, .inl (upd (upd (upd (upd (fun _ => 0) 0 1) 1 1) 2 1) 3 1))), (h0, .inr (10, [.long 0, .int 1, .int 1, .int 0, .int 0, .int 0, .ref q1, .long 1, .long 1]))]) := by
  refine am_ofN (by decide) rfl (Nat.le_of_ble_eq_true rfl) ?_
  refine n_aload_n (pc := 0) 0 rfl dI10_0 rfl ?_
  refine n_obj (pc := 1) (tb_1 (List.mem_of_getElem? (i := 103) (by decide +kernel))) (Nat.le_of_ble_eq_true rfl) (Nat.le_of_ble_eq_true rfl) dI10_1 ?_
  refine n_aload_n (pc := 4) 0 rfl dI10_4 rfl ?_
  refine n_iconst (pc := 5) (v := 1) dI10_5 (by decide) ?_
  refine n_put (pc := 6) (i := 0) (v := .int 1) (f' := [(h0, .inr (10, [.long 0, .int 1, .int 0, .int 0, .int 0, .int 0, .null, .long 0, .long 0]))]) rfl fp_10_9 rfl rfl (Nat.le_of_ble_eq_true rfl) rfl dI10_6 ?_
  refine n_aload_n (pc := 9) 0 rfl dI10_9 rfl ?_
  refine n_iconst (pc := 10) (v := 1) dI10_10 (by decide) ?_
  refine n_put (pc := 11) (i := 0) (v := .int 1) (f' := [(h0, .inr (10, [.long 0, .int 1, .int 1, .int 0, .int 0, .int 0, .null, .long 0, .long 0]))]) rfl fp_10_15 rfl rfl (Nat.le_of_ble_eq_true rfl) rfl dI10_11 ?_
  refine n_aload_n (pc := 14) 0 rfl dI10_14 rfl ?_
  refine n_iconst (pc := 15) (v := 4) dI10_15 (by decide) ?_
  refine n_newa (pc := 16) (atype := .int) (N' := 4) (ty := .int) (cI := c 0) (a0 := (4, .inl (fun _ => 0))) (t0 := 0) rfl hu_int aw_int rfl (fun _ => rfl) (by decide) (by decide) (by decide) (Nat.le_of_ble_eq_true rfl) (Nat.le_of_ble_eq_true rfl) dI10_16 (fun q1 => ?_)
  refine n_dup (pc := 18) dI10_18 rfl ?_
  refine n_iconst (pc := 19) (v := 0) dI10_19 (by decide) ?_
  refine n_iconst (pc := 20) (v := 1) dI10_20 (by decide) ?_
  refine n_iast (pc := 21) (i := 0) (t0 := 0) (f' := [(q1, .inl (c 0, 4, .inl (upd (fun _ => 0) 0 1))), (h0, .inr (10, [.long 0, .int 1, .int 1, .int 0, .int 0, .int 0, .null, .long 0, .long 0]))]) rfl rfl (by unfold vp_in; decide) rfl dI10_21 ?_
  refine n_dup (pc := 22) dI10_22 rfl ?_
  refine n_iconst (pc := 23) (v := 1) dI10_23 (by decide) ?_
  refine n_iconst (pc := 24) (v := 1) dI10_24 (by decide) ?_
  refine n_iast (pc := 25) (i := 0) (t0 := 0) (f' := [(q1, .inl (c 0, 4, .inl (upd (upd (fun _ => 0) 0 1) 1 1))), (h0, .inr (10, [.long 0, .int 1, .int 1, .int 0, .int 0, .int 0, .null, .long 0, .long 0]))]) rfl rfl (by unfold vp_in; decide) rfl dI10_25 ?_
  refine n_dup (pc := 26) dI10_26 rfl ?_
  refine n_iconst (pc := 27) (v := 2) dI10_27 (by decide) ?_
  refine n_iconst (pc := 28) (v := 1) dI10_28 (by decide) ?_
  refine n_iast (pc := 29) (i := 0) (t0 := 0) (f' := [(q1, .inl (c 0, 4, .inl (upd (upd (upd (fun _ => 0) 0 1) 1 1) 2 1))), (h0, .inr (10, [.long 0, .int 1, .int 1, .int 0, .int 0, .int 0, .null, .long 0, .long 0]))]) rfl rfl (by unfold vp_in; decide) rfl dI10_29 ?_
  refine n_dup (pc := 30) dI10_30 rfl ?_
  refine n_iconst (pc := 31) (v := 3) dI10_31 (by decide) ?_
  refine n_iconst (pc := 32) (v := 1) dI10_32 (by decide) ?_
  refine n_iast (pc := 33) (i := 0) (t0 := 0) (f' := [(q1, .inl (c 0, 4, .inl (upd (upd (upd (upd (fun _ => 0) 0 1) 1 1) 2 1) 3 1))), (h0, .inr (10, [.long 0, .int 1, .int 1, .int 0, .int 0, .int 0, .null, .long 0, .long 0]))]) rfl rfl (by unfold vp_in; decide) rfl dI10_33 ?_
  refine n_put (pc := 34) (i := 1) (v := .ref q1) (f' := [(q1, .inl (c 0, 4, .inl (upd (upd (upd (upd (fun _ => 0) 0 1) 1 1) 2 1) 3 1))), (h0, .inr (10, [.long 0, .int 1, .int 1, .int 0, .int 0, .int 0, .ref q1, .long 0, .long 0]))]) rfl fp_10_18 rfl rfl (Nat.le_of_ble_eq_true rfl) rfl dI10_34 ?_
  refine n_aload_n (pc := 37) 0 rfl dI10_37 rfl ?_
  refine n_lconst (pc := 38) (v := 1) dI10_38 (by decide) ?_
  refine n_put (pc := 39) (i := 1) (v := .long 1) (f' := [(q1, .inl (c 0, 4, .inl (upd (upd (upd (upd (fun _ => 0) 0 1) 1 1) 2 1) 3 1))), (h0, .inr (10, [.long 0, .int 1, .int 1, .int 0, .int 0, .int 0, .ref q1, .long 1, .long 0]))]) rfl fp_10_22 rfl rfl (Nat.le_of_ble_eq_true rfl) rfl dI10_39 ?_
  refine n_aload_n (pc := 42) 0 rfl dI10_42 rfl ?_
  refine n_lconst (pc := 43) (v := 1) dI10_43 (by decide) ?_
  refine n_put (pc := 44) (i := 1) (v := .long 1) (f' := [(q1, .inl (c 0, 4, .inl (upd (upd (upd (upd (fun _ => 0) 0 1) 1 1) 2 1) 3 1))), (h0, .inr (10, [.long 0, .int 1, .int 1, .int 0, .int 0, .int 0, .ref q1, .long 1, .long 1]))]) rfl fp_10_26 rfl rfl (Nat.le_of_ble_eq_true rfl) rfl dI10_44 ?_
  exact n_ret (pc := 47) dI10_47 (Nat.le_refl _) (Nat.le_refl _) ⟨_, ⟨q1, rfl⟩, List.Perm.refl _⟩
theorem dI8_0 : decode cX8_init 0 = .ok (.aload_n 0, 1) := by decide +kernel
theorem dI8_1 : decode cX8_init 1 = .ok (.invokespecial 3, 3) := by decide +kernel
theorem dI8_4 : decode cX8_init 4 = .ok (.aload_n 0, 1) := by decide +kernel
theorem dI8_5 : decode cX8_init 5 = .ok (.iconst (-1), 1) := by decide +kernel
theorem dI8_6 : decode cX8_init 6 = .ok (.putfield 9, 3) := by decide +kernel
theorem dI8_9 : decode cX8_init 9 = .ok (.aload_n 0, 1) := by decide +kernel
theorem dI8_10 : decode cX8_init 10 = .ok (.bipush 60, 2) := by decide +kernel
theorem dI8_12 : decode cX8_init 12 = .ok (.newarray .long, 2) := by decide +kernel
theorem dI8_14 : decode cX8_init 14 = .ok (.putfield 15, 3) := by decide +kernel
theorem dI8_17 : decode cX8_init 17 = .ok (.return_, 1) := by decide +kernel
theorem cd_I8 : Cond.code yX8_init cX8_init 1 none ∈ lw_tbl := (tb_1 (List.mem_of_getElem? (i := 74) (by decide +kernel)))
theorem pd_I8 : (parseMethodDescriptor yX8_init.desc).map (fun d => d.parameters.length) = some 0 := by decide +kernel
theorem iw_I8 : Cond.instanceMethod yX8_init ∈ lw_tbl := (tb_1 (List.mem_of_getElem? (i := 73) (by decide +kernel)))
abbrev gm_I8 : am_M := (yX8_init, cX8_init, 1, none, 1)
theorem fp_8_9 : am_fp RX8 9 8 0 false .int := ⟨_, _, _, kd_8, by decide, (tb_1 (List.mem_of_getElem? (i := 76) (by decide +kernel))), rfl, rfl, rfl⟩
theorem fp_8_15 : am_fp RX8 15 8 2 true (.array .long) := ⟨_, _, _, kd_8, by decide, (tb_1 (List.mem_of_getElem? (i := 80) (by decide +kernel))), rfl, rfl, rfl⟩
set_option maxRecDepth 100000 in
set_option maxHeartbeats 4000000 in
theorem ci_8 (l : Launch) (D : va_G) (c : Nat → ClassId) (h0 : Nat) : am_NC (l, D, am_tz c) gm_I8 1 60 h0 (.inr (8, [.int 0, .int 0, .null])) (fun ws => ∃ q1 : Nat, ws = [(q1, .inl (c 1, 60, .inr (.inl (fun _ => 0)))), (h0, .inr (8, [.int (-1), .int 0, .ref q1]))]) := by
  refine am_ofN (by decide) rfl (Nat.le_of_ble_eq_true rfl) ?_
  refine n_aload_n (pc := 0) 0 rfl dI8_0 rfl ?_
  refine n_obj (pc := 1) (tb_1 (List.mem_of_getElem? (i := 75) (by decide +kernel))) (Nat.le_of_ble_eq_true rfl) (Nat.le_of_ble_eq_true rfl) dI8_1 ?_
  refine n_aload_n (pc := 4) 0 rfl dI8_4 rfl ?_
  refine n_iconst (pc := 5) (v := (-1)) dI8_5 (by decide) ?_
  refine n_put (pc := 6) (i := 0) (v := .int (-1)) (f' := [(h0, .inr (8, [.int (-1), .int 0, .null]))]) rfl fp_8_9 rfl rfl (Nat.le_of_ble_eq_true rfl) rfl dI8_6 ?_
  refine n_aload_n (pc := 9) 0 rfl dI8_9 rfl ?_
  refine n_bipush (pc := 10) (v := 60) dI8_10 (by decide) ?_
  refine n_newa (pc := 12) (atype := .long) (N' := 60) (ty := .long) (cI := c 1) (a0 := (60, .inr (.inl (fun _ => 0)))) (t0 := 1) rfl hu_long aw_long rfl (fun _ => rfl) (by decide) (by decide) (by decide) (Nat.le_of_ble_eq_true rfl) (Nat.le_of_ble_eq_true rfl) dI8_12 (fun q1 => ?_)
  refine n_put (pc := 14) (i := 1) (v := .ref q1) (f' := [(q1, .inl (c 1, 60, .inr (.inl (fun _ => 0)))), (h0, .inr (8, [.int (-1), .int 0, .ref q1]))]) rfl fp_8_15 rfl rfl (Nat.le_of_ble_eq_true rfl) rfl dI8_14 ?_
  exact n_ret (pc := 17) dI8_17 (Nat.le_refl _) (Nat.le_refl _) ⟨_, ⟨q1, rfl⟩, List.Perm.refl _⟩
theorem dI5_0 : decode cX5_init 0 = .ok (.aload_n 0, 1) := by decide +kernel
theorem dI5_1 : decode cX5_init 1 = .ok (.invokespecial 3, 3) := by decide +kernel
theorem dI5_4 : decode cX5_init 4 = .ok (.aload_n 0, 1) := by decide +kernel
theorem dI5_5 : decode cX5_init 5 = .ok (.sipush 600, 3) := by decide +kernel
theorem dI5_8 : decode cX5_init 8 = .ok (.newarray .byte, 2) := by decide +kernel
theorem dI5_10 : decode cX5_init 10 = .ok (.putfield 9, 3) := by decide +kernel
theorem dI5_13 : decode cX5_init 13 = .ok (.aload_n 0, 1) := by decide +kernel
theorem dI5_14 : decode cX5_init 14 = .ok (.iconst (-1), 1) := by decide +kernel
theorem dI5_15 : decode cX5_init 15 = .ok (.putfield 15, 3) := by decide +kernel
theorem dI5_18 : decode cX5_init 18 = .ok (.aload_n 0, 1) := by decide +kernel
theorem dI5_19 : decode cX5_init 19 = .ok (.iconst (-1), 1) := by decide +kernel
theorem dI5_20 : decode cX5_init 20 = .ok (.putfield 19, 3) := by decide +kernel
theorem dI5_23 : decode cX5_init 23 = .ok (.return_, 1) := by decide +kernel
theorem cd_I5 : Cond.code yX5_init cX5_init 1 none ∈ lw_tbl := (tb_1 (List.mem_of_getElem? (i := 33) (by decide +kernel)))
theorem pd_I5 : (parseMethodDescriptor yX5_init.desc).map (fun d => d.parameters.length) = some 0 := by decide +kernel
theorem iw_I5 : Cond.instanceMethod yX5_init ∈ lw_tbl := (tb_1 (List.mem_of_getElem? (i := 32) (by decide +kernel)))
abbrev gm_I5 : am_M := (yX5_init, cX5_init, 1, none, 1)
theorem fp_5_9 : am_fp RX5 9 5 0 true (.array .byte) := ⟨_, _, _, kd_5, by decide, (tb_1 (List.mem_of_getElem? (i := 35) (by decide +kernel))), rfl, rfl, rfl⟩
theorem fp_5_15 : am_fp RX5 15 5 7 false .int := ⟨_, _, _, kd_5, by decide, (tb_1 (List.mem_of_getElem? (i := 45) (by decide +kernel))), rfl, rfl, rfl⟩
theorem fp_5_19 : am_fp RX5 19 5 8 false .int := ⟨_, _, _, kd_5, by decide, (tb_1 (List.mem_of_getElem? (i := 47) (by decide +kernel))), rfl, rfl, rfl⟩
set_option maxRecDepth 100000 in
set_option maxHeartbeats 4000000 in
theorem ci_5 (l : Launch) (D : va_G) (c : Nat → ClassId) (h0 : Nat) : am_NC (l, D, am_tz c) gm_I5 1 600 h0 (.inr (5, [.null, .int 0, .int 0, .int 0, .int 0, .int 0, .int 0, .int 0, .int 0])) (fun ws => ∃ q1 : Nat, ws = [(q1, .inl (c 2, 600, .inl (fun _ => 0))), (h0, .inr (5, [.ref q1, .int 0, .int 0, .int 0, .int 0, .int 0, .int 0, .int (-1), .int (-1)]))]) := by
  refine am_ofN (by decide) rfl (Nat.le_of_ble_eq_true rfl) ?_
  refine n_aload_n (pc := 0) 0 rfl dI5_0 rfl ?_
  refine n_obj (pc := 1) (tb_1 (List.mem_of_getElem? (i := 34) (by decide +kernel))) (Nat.le_of_ble_eq_true rfl) (Nat.le_of_ble_eq_true rfl) dI5_1 ?_
  refine n_aload_n (pc := 4) 0 rfl dI5_4 rfl ?_
  refine n_sipush (pc := 5) (v := 600) dI5_5 (by decide) ?_
  refine n_newa (pc := 8) (atype := .byte) (N' := 600) (ty := .byte) (cI := c 2) (a0 := (600, .inl (fun _ => 0))) (t0 := 2) rfl hu_byte aw_byte rfl (fun _ => rfl) (by decide) (by decide) (by decide) (Nat.le_of_ble_eq_true rfl) (Nat.le_of_ble_eq_true rfl) dI5_8 (fun q1 => ?_)
  refine n_put (pc := 10) (i := 1) (v := .ref q1) (f' := [(q1, .inl (c 2, 600, .inl (fun _ => 0))), (h0, .inr (5, [.ref q1, .int 0, .int 0, .int 0, .int 0, .int 0, .int 0, .int 0, .int 0]))]) rfl fp_5_9 rfl rfl (Nat.le_of_ble_eq_true rfl) rfl dI5_10 ?_
  refine n_aload_n (pc := 13) 0 rfl dI5_13 rfl ?_
  refine n_iconst (pc := 14) (v := (-1)) dI5_14 (by decide) ?_
  refine n_put (pc := 15) (i := 1) (v := .int (-1)) (f' := [(q1, .inl (c 2, 600, .inl (fun _ => 0))), (h0, .inr (5, [.ref q1, .int 0, .int 0, .int 0, .int 0, .int 0, .int 0, .int (-1), .int 0]))]) rfl fp_5_15 rfl rfl (Nat.le_of_ble_eq_true rfl) rfl dI5_15 ?_
  refine n_aload_n (pc := 18) 0 rfl dI5_18 rfl ?_
  refine n_iconst (pc := 19) (v := (-1)) dI5_19 (by decide) ?_
  refine n_put (pc := 20) (i := 1) (v := .int (-1)) (f' := [(q1, .inl (c 2, 600, .inl (fun _ => 0))), (h0, .inr (5, [.ref q1, .int 0, .int 0, .int 0, .int 0, .int 0, .int 0, .int (-1), .int (-1)]))]) rfl fp_5_19 rfl rfl (Nat.le_of_ble_eq_true rfl) rfl dI5_20 ?_
  exact n_ret (pc := 23) dI5_23 (Nat.le_refl _) (Nat.le_refl _) ⟨_, ⟨q1, rfl⟩, List.Perm.refl _⟩
theorem dI3_0 : decode cX3_init 0 = .ok (.aload_n 0, 1) := by decide +kernel
theorem dI3_1 : decode cX3_init 1 = .ok (.invokespecial 3, 3) := by decide +kernel
theorem dI3_4 : decode cX3_init 4 = .ok (.aload_n 0, 1) := by decide +kernel
theorem dI3_5 : decode cX3_init 5 = .ok (.bipush 10, 2) := by decide +kernel
theorem dI3_7 : decode cX3_init 7 = .ok (.newarray .int, 2) := by decide +kernel
theorem dI3_9 : decode cX3_init 9 = .ok (.putfield 9, 3) := by decide +kernel
theorem dI3_12 : decode cX3_init 12 = .ok (.aload_n 0, 1) := by decide +kernel
theorem dI3_13 : decode cX3_init 13 = .ok (.bipush 10, 2) := by decide +kernel
theorem dI3_15 : decode cX3_init 15 = .ok (.newarray .int, 2) := by decide +kernel
theorem dI3_17 : decode cX3_init 17 = .ok (.putfield 15, 3) := by decide +kernel
theorem dI3_20 : decode cX3_init 20 = .ok (.aload_n 0, 1) := by decide +kernel
theorem dI3_21 : decode cX3_init 21 = .ok (.iconst (-1), 1) := by decide +kernel
theorem dI3_22 : decode cX3_init 22 = .ok (.putfield 18, 3) := by decide +kernel
theorem dI3_25 : decode cX3_init 25 = .ok (.aload_n 0, 1) := by decide +kernel
theorem dI3_26 : decode cX3_init 26 = .ok (.iconst (-1), 1) := by decide +kernel
theorem dI3_27 : decode cX3_init 27 = .ok (.putfield 22, 3) := by decide +kernel
theorem dI3_30 : decode cX3_init 30 = .ok (.aload_n 0, 1) := by decide +kernel
theorem dI3_31 : decode cX3_init 31 = .ok (.bipush 6, 2) := by decide +kernel
theorem dI3_33 : decode cX3_init 33 = .ok (.anewarray 25, 3) := by decide +kernel
theorem dI3_36 : decode cX3_init 36 = .ok (.putfield 27, 3) := by decide +kernel
theorem dI3_39 : decode cX3_init 39 = .ok (.iconst 0, 1) := by decide +kernel
theorem dI3_40 : decode cX3_init 40 = .ok (.istore_n 1, 1) := by decide +kernel
theorem dI3_41 : decode cX3_init 41 = .ok (.iload_n 1, 1) := by decide +kernel
theorem dI3_42 : decode cX3_init 42 = .ok (.bipush 6, 2) := by decide +kernel
theorem dI3_44 : decode cX3_init 44 = .ok (.if_icmp .ge 22, 3) := by decide +kernel
theorem dI3_47 : decode cX3_init 47 = .ok (.aload_n 0, 1) := by decide +kernel
theorem dI3_48 : decode cX3_init 48 = .ok (.getfield 27, 3) := by decide +kernel
theorem dI3_51 : decode cX3_init 51 = .ok (.iload_n 1, 1) := by decide +kernel
theorem dI3_52 : decode cX3_init 52 = .ok (.new 25, 3) := by decide +kernel
theorem dI3_55 : decode cX3_init 55 = .ok (.dup, 1) := by decide +kernel
theorem dI3_56 : decode cX3_init 56 = .ok (.invokespecial 31, 3) := by decide +kernel
theorem dI3_59 : decode cX3_init 59 = .ok (.aastore, 1) := by decide +kernel
theorem dI3_60 : decode cX3_init 60 = .ok (.iinc 1 1, 3) := by decide +kernel
theorem dI3_63 : decode cX3_init 63 = .ok (.goto (-22), 3) := by decide +kernel
theorem dI3_66 : decode cX3_init 66 = .ok (.return_, 1) := by decide +kernel
theorem cd_I3 : Cond.code yX3_init cX3_init 2 none ∈ lw_tbl := (tb_1 (List.mem_of_getElem? (i := 95) (by decide +kernel)))
theorem pd_I3 : (parseMethodDescriptor yX3_init.desc).map (fun d => d.parameters.length) = some 0 := by decide +kernel
theorem iw_I3 : Cond.instanceMethod yX3_init ∈ lw_tbl := (tb_1 (List.mem_of_getElem? (i := 94) (by decide +kernel)))
abbrev gm_I3 : am_M := (yX3_init, cX3_init, 2, none, 2)
theorem fp_3_9 : am_fp RX3 9 3 2 true (.array .int) := ⟨_, _, _, kd_3, by decide, (tb_1 (List.mem_of_getElem? (i := 159) (by decide +kernel))), rfl, rfl, rfl⟩
theorem fp_3_15 : am_fp RX3 15 3 3 true (.array .int) := ⟨_, _, _, kd_3, by decide, (tb_1 (List.mem_of_getElem? (i := 161) (by decide +kernel))), rfl, rfl, rfl⟩
theorem fp_3_18 : am_fp RX3 18 3 5 false .int := ⟨_, _, _, kd_3, by decide, (tb_1 (List.mem_of_getElem? (i := 166) (by decide +kernel))), rfl, rfl, rfl⟩
theorem fp_3_22 : am_fp RX3 22 3 6 false .int := ⟨_, _, _, kd_3, by decide, (tb_1 (List.mem_of_getElem? (i := 168) (by decide +kernel))), rfl, rfl, rfl⟩
theorem fp_3_27 : am_fp RX3 27 3 0 true (.array (.object "TideDiscs$Wave")) := ⟨_, _, _, kd_3, by decide, (tb_1 (List.mem_of_getElem? (i := 150) (by decide +kernel))), rfl, rfl, rfl⟩
set_option maxRecDepth 100000 in
set_option maxHeartbeats 4000000 in
theorem ci_3 (l : Launch) (D : va_G) (c : Nat → ClassId) (h0 : Nat) : am_NC (l, D, am_tz c) gm_I3 15 104 h0 (.inr (3, [.null, .int 0, .null, .null, .int 0, .int 0, .int 0])) (fun ws => ∃ q1 q2 q3 q4 q5 q6 q7 q8 q9 q10 q11 q12 q13 q14 q15 : Nat, ws = [(q3, .inl (c 6, 6, .inr (.inr (.inr (.inr (va_up (va_up (va_up (va_up (va_up (va_up (fun _ => none) 0 (some q4)) 1 (some q6)) 2 (some q8)) 3 (some q10)) 4 (some q12)) 5 (some q14))))))), (q2, .inl (c 0, 10, .inl (fun _ => 0))), (q1, .inl (c 0, 10, .inl (fun _ => 0))), (h0, .inr (3, [.ref q3, .int 0, .ref q1, .ref q2, .int 0, .int (-1), .int (-1)])), (q15, .inl (c 0, 4, .inl (upd (upd (upd (upd (fun _ => 0) 0 1) 1 1) 2 1) 3 1))), (q14, .inr (10, [.long 0, .int 1, .int 1, .int 0, .int 0, .int 0, .ref q15, .long 1, .long 1])), (q13, .inl (c 0, 4, .inl (upd (upd (upd (upd (fun _ => 0) 0 1) 1 1) 2 1) 3 1))), (q12, .inr (10, [.long 0, .int 1, .int 1, .int 0, .int 0, .int 0, .ref q13, .long 1, .long 1])), (q11, .inl (c 0, 4, .inl (upd (upd (upd (upd (fun _ => 0) 0 1) 1 1) 2 1) 3 1))), (q10, .inr (10, [.long 0, .int 1, .int 1, .int 0, .int 0, .int 0, .ref q11, .long 1, .long 1])), (q9, .inl (c 0, 4, .inl (upd (upd (upd (upd (fun _ => 0) 0 1) 1 1) 2 1) 3 1))), (q8, .inr (10, [.long 0, .int 1, .int 1, .int 0, .int 0, .int 0, .ref q9, .long 1, .long 1])), (q7, .inl (c 0, 4, .inl (upd (upd (upd (upd (fun _ => 0) 0 1) 1 1) 2 1) 3 1))), (q6, .inr (10, [.long 0, .int 1, .int 1, .int 0, .int 0, .int 0, .ref q7, .long 1, .long 1])), (q5, .inl (c 0, 4, .inl (upd (upd (upd (upd (fun _ => 0) 0 1) 1 1) 2 1) 3 1))), (q4, .inr (10, [.long 0, .int 1, .int 1, .int 0, .int 0, .int 0, .ref q5, .long 1, .long 1]))]) := by
  refine am_ofN (by decide) rfl (Nat.le_of_ble_eq_true rfl) ?_
  refine n_aload_n (pc := 0) 0 rfl dI3_0 rfl ?_
  refine n_obj (pc := 1) (tb_1 (List.mem_of_getElem? (i := 96) (by decide +kernel))) (Nat.le_of_ble_eq_true rfl) (Nat.le_of_ble_eq_true rfl) dI3_1 ?_
  refine n_aload_n (pc := 4) 0 rfl dI3_4 rfl ?_
  refine n_bipush (pc := 5) (v := 10) dI3_5 (by decide) ?_
  refine n_newa (pc := 7) (atype := .int) (N' := 10) (ty := .int) (cI := c 0) (a0 := (10, .inl (fun _ => 0))) (t0 := 0) rfl hu_int aw_int rfl (fun _ => rfl) (by decide) (by decide) (by decide) (Nat.le_of_ble_eq_true rfl) (Nat.le_of_ble_eq_true rfl) dI3_7 (fun q1 => ?_)
  refine n_put (pc := 9) (i := 1) (v := .ref q1) (f' := [(q1, .inl (c 0, 10, .inl (fun _ => 0))), (h0, .inr (3, [.null, .int 0, .ref q1, .null, .int 0, .int 0, .int 0]))]) rfl fp_3_9 rfl rfl (Nat.le_of_ble_eq_true rfl) rfl dI3_9 ?_
  refine n_aload_n (pc := 12) 0 rfl dI3_12 rfl ?_
  refine n_bipush (pc := 13) (v := 10) dI3_13 (by decide) ?_
  refine n_newa (pc := 15) (atype := .int) (N' := 10) (ty := .int) (cI := c 0) (a0 := (10, .inl (fun _ => 0))) (t0 := 0) rfl hu_int aw_int rfl (fun _ => rfl) (by decide) (by decide) (by decide) (Nat.le_of_ble_eq_true rfl) (Nat.le_of_ble_eq_true rfl) dI3_15 (fun q2 => ?_)
  refine n_put (pc := 17) (i := 2) (v := .ref q2) (f' := [(q2, .inl (c 0, 10, .inl (fun _ => 0))), (q1, .inl (c 0, 10, .inl (fun _ => 0))), (h0, .inr (3, [.null, .int 0, .ref q1, .ref q2, .int 0, .int 0, .int 0]))]) rfl fp_3_15 rfl rfl (Nat.le_of_ble_eq_true rfl) rfl dI3_17 ?_
  refine n_aload_n (pc := 20) 0 rfl dI3_20 rfl ?_
  refine n_iconst (pc := 21) (v := (-1)) dI3_21 (by decide) ?_
  refine n_put (pc := 22) (i := 2) (v := .int (-1)) (f' := [(q2, .inl (c 0, 10, .inl (fun _ => 0))), (q1, .inl (c 0, 10, .inl (fun _ => 0))), (h0, .inr (3, [.null, .int 0, .ref q1, .ref q2, .int 0, .int (-1), .int 0]))]) rfl fp_3_18 rfl rfl (Nat.le_of_ble_eq_true rfl) rfl dI3_22 ?_
  refine n_aload_n (pc := 25) 0 rfl dI3_25 rfl ?_
  refine n_iconst (pc := 26) (v := (-1)) dI3_26 (by decide) ?_
  refine n_put (pc := 27) (i := 2) (v := .int (-1)) (f' := [(q2, .inl (c 0, 10, .inl (fun _ => 0))), (q1, .inl (c 0, 10, .inl (fun _ => 0))), (h0, .inr (3, [.null, .int 0, .ref q1, .ref q2, .int 0, .int (-1), .int (-1)]))]) rfl fp_3_22 rfl rfl (Nat.le_of_ble_eq_true rfl) rfl dI3_27 ?_
  refine n_aload_n (pc := 30) 0 rfl dI3_30 rfl ?_
  refine n_bipush (pc := 31) (v := 6) dI3_31 (by decide) ?_
  refine n_newq (pc := 33) (N' := 6) (cI := c 6) (t0 := 6) (C := RX10) rfl (tb_1 (List.mem_of_getElem? (i := 97) (by decide +kernel))) oa_10 (by decide) (by decide) (by decide) (Nat.le_of_ble_eq_true rfl) (Nat.le_of_ble_eq_true rfl) dI3_33 (fun q3 => ?_)
  refine n_put (pc := 36) (i := 3) (v := .ref q3) (f' := [(q3, .inl (c 6, 6, .inr (.inr (.inr (.inr (fun _ => none)))))), (q2, .inl (c 0, 10, .inl (fun _ => 0))), (q1, .inl (c 0, 10, .inl (fun _ => 0))), (h0, .inr (3, [.ref q3, .int 0, .ref q1, .ref q2, .int 0, .int (-1), .int (-1)]))]) rfl fp_3_27 rfl rfl (Nat.le_of_ble_eq_true rfl) rfl dI3_36 ?_
  refine n_iconst (pc := 39) (v := 0) dI3_39 (by decide) ?_
  refine n_istore_n (pc := 40) [(1, .int 0), (0, .ref h0)] dI3_40 rfl (Nat.le_of_ble_eq_true rfl) rfl ?_
  refine n_iload_n (pc := 41) 0 rfl dI3_41 rfl ?_
  refine n_bipush (pc := 42) (v := 6) dI3_42 (by decide) ?_
  refine n_geF (pc := 44) 66 (by decide) dI3_44 rfl ?_
  refine n_aload_n (pc := 47) 1 rfl dI3_47 rfl ?_
  refine n_get (pc := 48) (i := 3) (v := .ref q3) rfl fp_3_27 rfl dI3_48 ?_
  refine n_iload_n (pc := 51) 0 rfl dI3_51 rfl ?_
  refine n_new (pc := 52) (fs := [.long 0, .int 0, .int 0, .int 0, .int 0, .int 0, .null, .long 0, .long 0]) kd_10 (tb_1 (List.mem_of_getElem? (i := 97) (by decide +kernel))) (tb_1 (List.mem_of_getElem? (i := 99) (by decide +kernel))) (tb_1 (List.mem_of_getElem? (i := 5) (by decide +kernel))) rfl (Nat.le_of_ble_eq_true rfl) (Nat.le_of_ble_eq_true rfl) dI3_52 (fun q4 => ?_)
  refine n_dup (pc := 55) dI3_55 rfl ?_
  refine n_init (pc := 56) (f0 := [(q3, .inl (c 6, 6, .inr (.inr (.inr (.inr (fun _ => none)))))), (q2, .inl (c 0, 10, .inl (fun _ => 0))), (q1, .inl (c 0, 10, .inl (fun _ => 0))), (h0, .inr (3, [.ref q3, .int 0, .ref q1, .ref q2, .int 0, .int (-1), .int (-1)]))]) (ci_10 l D c q4) rfl cd_I10 ini_RX10 nh_RX10 pd_I10 (Nat.le_of_ble_eq_true rfl) rfl iw_I10 (Or.inr ⟨"TideDiscs", (tb_1 (List.mem_of_getElem? (i := 100) (by decide +kernel)))⟩) (Nat.le_of_ble_eq_true rfl) (Nat.le_of_ble_eq_true rfl) (Nat.le_of_ble_eq_true rfl) (Nat.le_of_ble_eq_true rfl) dI3_56 ?_
  intro w1 hQ
  obtain ⟨q5, rfl⟩ := hQ
  refine n_aast (pc := 59) (i := 0) (t0 := 6) (ci := 10) (rc := (RX10, TX10, 9)) (f' := [(q3, .inl (c 6, 6, .inr (.inr (.inr (.inr (va_up (fun _ => none) 0 (some q4))))))), (q2, .inl (c 0, 10, .inl (fun _ => 0))), (q1, .inl (c 0, 10, .inl (fun _ => 0))), (h0, .inr (3, [.ref q3, .int 0, .ref q1, .ref q2, .int 0, .int (-1), .int (-1)]))]) rfl rfl (List.mem_append_right _ (List.mem_append_left _ (List.mem_of_getElem? (i := 1) rfl))) rfl (by unfold vp_in; decide) rfl dI3_59 ?_
  refine n_iinc (pc := 60) (v := 1) 0 [(1, .int 1), (0, .ref h0)] dI3_60 rfl (by decide) (Nat.le_of_ble_eq_true rfl) rfl ?_
  refine n_goto (pc := 63) 41 dI3_63 rfl ?_
  refine n_iload_n (pc := 41) 0 rfl dI3_41 rfl ?_
  refine n_bipush (pc := 42) (v := 6) dI3_42 (by decide) ?_
  refine n_geF (pc := 44) 66 (by decide) dI3_44 rfl ?_
  refine n_aload_n (pc := 47) 1 rfl dI3_47 rfl ?_
  refine n_get (pc := 48) (i := 3) (v := .ref q3) rfl fp_3_27 rfl dI3_48 ?_
  refine n_iload_n (pc := 51) 0 rfl dI3_51 rfl ?_
  refine n_new (pc := 52) (fs := [.long 0, .int 0, .int 0, .int 0, .int 0, .int 0, .null, .long 0, .long 0]) kd_10 (tb_1 (List.mem_of_getElem? (i := 97) (by decide +kernel))) (tb_1 (List.mem_of_getElem? (i := 99) (by decide +kernel))) (tb_1 (List.mem_of_getElem? (i := 5) (by decide +kernel))) rfl (Nat.le_of_ble_eq_true rfl) (Nat.le_of_ble_eq_true rfl) dI3_52 (fun q6 => ?_)
  refine n_dup (pc := 55) dI3_55 rfl ?_
  refine n_init (pc := 56) (f0 := [(q3, .inl (c 6, 6, .inr (.inr (.inr (.inr (va_up (fun _ => none) 0 (some q4))))))), (q2, .inl (c 0, 10, .inl (fun _ => 0))), (q1, .inl (c 0, 10, .inl (fun _ => 0))), (h0, .inr (3, [.ref q3, .int 0, .ref q1, .ref q2, .int 0, .int (-1), .int (-1)]))]) (ci_10 l D c q6) rfl cd_I10 ini_RX10 nh_RX10 pd_I10 (Nat.le_of_ble_eq_true rfl) rfl iw_I10 (Or.inr ⟨"TideDiscs", (tb_1 (List.mem_of_getElem? (i := 100) (by decide +kernel)))⟩) (Nat.le_of_ble_eq_true rfl) (Nat.le_of_ble_eq_true rfl) (Nat.le_of_ble_eq_true rfl) (Nat.le_of_ble_eq_true rfl) dI3_56 ?_
  intro w1 hQ
  obtain ⟨q7, rfl⟩ := hQ
  refine n_aast (pc := 59) (i := 0) (t0 := 6) (ci := 10) (rc := (RX10, TX10, 9)) (f' := [(q3, .inl (c 6, 6, .inr (.inr (.inr (.inr (va_up (va_up (fun _ => none) 0 (some q4)) 1 (some q6))))))), (q2, .inl (c 0, 10, .inl (fun _ => 0))), (q1, .inl (c 0, 10, .inl (fun _ => 0))), (h0, .inr (3, [.ref q3, .int 0, .ref q1, .ref q2, .int 0, .int (-1), .int (-1)]))]) rfl rfl (List.mem_append_right _ (List.mem_append_left _ (List.mem_of_getElem? (i := 1) rfl))) rfl (by unfold vp_in; decide) rfl dI3_59 ?_
  refine n_iinc (pc := 60) (v := 2) 0 [(1, .int 2), (0, .ref h0)] dI3_60 rfl (by decide) (Nat.le_of_ble_eq_true rfl) rfl ?_
  refine n_goto (pc := 63) 41 dI3_63 rfl ?_
  refine n_iload_n (pc := 41) 0 rfl dI3_41 rfl ?_
  refine n_bipush (pc := 42) (v := 6) dI3_42 (by decide) ?_
  refine n_geF (pc := 44) 66 (by decide) dI3_44 rfl ?_
  refine n_aload_n (pc := 47) 1 rfl dI3_47 rfl ?_
  refine n_get (pc := 48) (i := 3) (v := .ref q3) rfl fp_3_27 rfl dI3_48 ?_
  refine n_iload_n (pc := 51) 0 rfl dI3_51 rfl ?_
  refine n_new (pc := 52) (fs := [.long 0, .int 0, .int 0, .int 0, .int 0, .int 0, .null, .long 0, .long 0]) kd_10 (tb_1 (List.mem_of_getElem? (i := 97) (by decide +kernel))) (tb_1 (List.mem_of_getElem? (i := 99) (by decide +kernel))) (tb_1 (List.mem_of_getElem? (i := 5) (by decide +kernel))) rfl (Nat.le_of_ble_eq_true rfl) (Nat.le_of_ble_eq_true rfl) dI3_52 (fun q8 => ?_)
  refine n_dup (pc := 55) dI3_55 rfl ?_
  refine n_init (pc := 56) (f0 := [(q3, .inl (c 6, 6, .inr (.inr (.inr (.inr (va_up (va_up (fun _ => none) 0 (some q4)) 1 (some q6))))))), (q2, .inl (c 0, 10, .inl (fun _ => 0))), (q1, .inl (c 0, 10, .inl (fun _ => 0))), (h0, .inr (3, [.ref q3, .int 0, .ref q1, .ref q2, .int 0, .int (-1), .int (-1)]))]) (ci_10 l D c q8) rfl cd_I10 ini_RX10 nh_RX10 pd_I10 (Nat.le_of_ble_eq_true rfl) rfl iw_I10 (Or.inr ⟨"TideDiscs", (tb_1 (List.mem_of_getElem? (i := 100) (by decide +kernel)))⟩) (Nat.le_of_ble_eq_true rfl) (Nat.le_of_ble_eq_true rfl) (Nat.le_of_ble_eq_true rfl) (Nat.le_of_ble_eq_true rfl) dI3_56 ?_
  intro w1 hQ
  obtain ⟨q9, rfl⟩ := hQ
  refine n_aast (pc := 59) (i := 0) (t0 := 6) (ci := 10) (rc := (RX10, TX10, 9)) (f' := [(q3, .inl (c 6, 6, .inr (.inr (.inr (.inr (va_up (va_up (va_up (fun _ => none) 0 (some q4)) 1 (some q6)) 2 (some q8))))))), (q2, .inl (c 0, 10, .inl (fun _ => 0))), (q1, .inl (c 0, 10, .inl (fun _ => 0))), (h0, .inr (3, [.ref q3, .int 0, .ref q1, .ref q2, .int 0, .int (-1), .int (-1)]))]) rfl rfl (List.mem_append_right _ (List.mem_append_left _ (List.mem_of_getElem? (i := 1) rfl))) rfl (by unfold vp_in; decide) rfl dI3_59 ?_
  refine n_iinc (pc := 60) (v := 3) 0 [(1, .int 3), (0, .ref h0)] dI3_60 rfl (by decide) (Nat.le_of_ble_eq_true rfl) rfl ?_
  refine n_goto (pc := 63) 41 dI3_63 rfl ?_
  refine n_iload_n (pc := 41) 0 rfl dI3_41 rfl ?_
  refine n_bipush (pc := 42) (v := 6) dI3_42 (by decide) ?_
  refine n_geF (pc := 44) 66 (by decide) dI3_44 rfl ?_
  refine n_aload_n (pc := 47) 1 rfl dI3_47 rfl ?_
  refine n_get (pc := 48) (i := 3) (v := .ref q3) rfl fp_3_27 rfl dI3_48 ?_
  refine n_iload_n (pc := 51) 0 rfl dI3_51 rfl ?_
  refine n_new (pc := 52) (fs := [.long 0, .int 0, .int 0, .int 0, .int 0, .int 0, .null, .long 0, .long 0]) kd_10 (tb_1 (List.mem_of_getElem? (i := 97) (by decide +kernel))) (tb_1 (List.mem_of_getElem? (i := 99) (by decide +kernel))) (tb_1 (List.mem_of_getElem? (i := 5) (by decide +kernel))) rfl (Nat.le_of_ble_eq_true rfl) (Nat.le_of_ble_eq_true rfl) dI3_52 (fun q10 => ?_)
  refine n_dup (pc := 55) dI3_55 rfl ?_
  refine n_init (pc := 56) (f0 := [(q3, .inl (c 6, 6, .inr (.inr (.inr (.inr (va_up (va_up (va_up (fun _ => none) 0 (some q4)) 1 (some q6)) 2 (some q8))))))), (q2, .inl (c 0, 10, .inl (fun _ => 0))), (q1, .inl (c 0, 10, .inl (fun _ => 0))), (h0, .inr (3, [.ref q3, .int 0, .ref q1, .ref q2, .int 0, .int (-1), .int (-1)]))]) (ci_10 l D c q10) rfl cd_I10 ini_RX10 nh_RX10 pd_I10 (Nat.le_of_ble_eq_true rfl) rfl iw_I10 (Or.inr ⟨"TideDiscs", (tb_1 (List.mem_of_getElem? (i := 100) (by decide +kernel)))⟩) (Nat.le_of_ble_eq_true rfl) (Nat.le_of_ble_eq_true rfl) (Nat.le_of_ble_eq_true rfl) (Nat.le_of_ble_eq_true rfl) dI3_56 ?_
  intro w1 hQ
  obtain ⟨q11, rfl⟩ := hQ
  refine n_aast (pc := 59) (i := 0) (t0 := 6) (ci := 10) (rc := (RX10, TX10, 9)) (f' := [(q3, .inl (c 6, 6, .inr (.inr (.inr (.inr (va_up (va_up (va_up (va_up (fun _ => none) 0 (some q4)) 1 (some q6)) 2 (some q8)) 3 (some q10))))))), (q2, .inl (c 0, 10, .inl (fun _ => 0))), (q1, .inl (c 0, 10, .inl (fun _ => 0))), (h0, .inr (3, [.ref q3, .int 0, .ref q1, .ref q2, .int 0, .int (-1), .int (-1)]))]) rfl rfl (List.mem_append_right _ (List.mem_append_left _ (List.mem_of_getElem? (i := 1) rfl))) rfl (by unfold vp_in; decide) rfl dI3_59 ?_
  refine n_iinc (pc := 60) (v := 4) 0 [(1, .int 4), (0, .ref h0)] dI3_60 rfl (by decide) (Nat.le_of_ble_eq_true rfl) rfl ?_
  refine n_goto (pc := 63) 41 dI3_63 rfl ?_
  refine n_iload_n (pc := 41) 0 rfl dI3_41 rfl ?_
  refine n_bipush (pc := 42) (v := 6) dI3_42 (by decide) ?_
  refine n_geF (pc := 44) 66 (by decide) dI3_44 rfl ?_
  refine n_aload_n (pc := 47) 1 rfl dI3_47 rfl ?_
  refine n_get (pc := 48) (i := 3) (v := .ref q3) rfl fp_3_27 rfl dI3_48 ?_
  refine n_iload_n (pc := 51) 0 rfl dI3_51 rfl ?_
  refine n_new (pc := 52) (fs := [.long 0, .int 0, .int 0, .int 0, .int 0, .int 0, .null, .long 0, .long 0]) kd_10 (tb_1 (List.mem_of_getElem? (i := 97) (by decide +kernel))) (tb_1 (List.mem_of_getElem? (i := 99) (by decide +kernel))) (tb_1 (List.mem_of_getElem? (i := 5) (by decide +kernel))) rfl (Nat.le_of_ble_eq_true rfl) (Nat.le_of_ble_eq_true rfl) dI3_52 (fun q12 => ?_)
  refine n_dup (pc := 55) dI3_55 rfl ?_
  refine n_init (pc := 56) (f0 := [(q3, .inl (c 6, 6, .inr (.inr (.inr (.inr (va_up (va_up (va_up (va_up (fun _ => none) 0 (some q4)) 1 (some q6)) 2 (some q8)) 3 (some q10))))))), (q2, .inl (c 0, 10, .inl (fun _ => 0))), (q1, .inl (c 0, 10, .inl (fun _ => 0))), (h0, .inr (3, [.ref q3, .int 0, .ref q1, .ref q2, .int 0, .int (-1), .int (-1)]))]) (ci_10 l D c q12) rfl cd_I10 ini_RX10 nh_RX10 pd_I10 (Nat.le_of_ble_eq_true rfl) rfl iw_I10 (Or.inr ⟨"TideDiscs", (tb_1 (List.mem_of_getElem? (i := 100) (by decide +kernel)))⟩) (Nat.le_of_ble_eq_true rfl) (Nat.le_of_ble_eq_true rfl) (Nat.le_of_ble_eq_true rfl) (Nat.le_of_ble_eq_true rfl) dI3_56 ?_
  intro w1 hQ
  obtain ⟨q13, rfl⟩ := hQ
  refine n_aast (pc := 59) (i := 0) (t0 := 6) (ci := 10) (rc := (RX10, TX10, 9)) (f' := [(q3, .inl (c 6, 6, .inr (.inr (.inr (.inr (va_up (va_up (va_up (va_up (va_up (fun _ => none) 0 (some q4)) 1 (some q6)) 2 (some q8)) 3 (some q10)) 4 (some q12))))))), (q2, .inl (c 0, 10, .inl (fun _ => 0))), (q1, .inl (c 0, 10, .inl (fun _ => 0))), (h0, .inr (3, [.ref q3, .int 0, .ref q1, .ref q2, .int 0, .int (-1), .int (-1)]))]) rfl rfl (List.mem_append_right _ (List.mem_append_left _ (List.mem_of_getElem? (i := 1) rfl))) rfl (by unfold vp_in; decide) rfl dI3_59 ?_
  refine n_iinc (pc := 60) (v := 5) 0 [(1, .int 5), (0, .ref h0)] dI3_60 rfl (by decide) (Nat.le_of_ble_eq_true rfl) rfl ?_
  refine n_goto (pc := 63) 41 dI3_63 rfl ?_
  refine n_iload_n (pc := 41) 0 rfl dI3_41 rfl ?_
  refine n_bipush (pc := 42) (v := 6) dI3_42 (by decide) ?_
  refine n_geF (pc := 44) 66 (by decide) dI3_44 rfl ?_
  refine n_aload_n (pc := 47) 1 rfl dI3_47 rfl ?_
  refine n_get (pc := 48) (i := 3) (v := .ref q3) rfl fp_3_27 rfl dI3_48 ?_
  refine n_iload_n (pc := 51) 0 rfl dI3_51 rfl ?_
  refine n_new (pc := 52) (fs := [.long 0, .int 0, .int 0, .int 0, .int 0, .int 0, .null, .long 0, .long 0]) kd_10 (tb_1 (List.mem_of_getElem? (i := 97) (by decide +kernel))) (tb_1 (List.mem_of_getElem? (i := 99) (by decide +kernel))) (tb_1 (List.mem_of_getElem? (i := 5) (by decide +kernel))) rfl (Nat.le_of_ble_eq_true rfl) (Nat.le_of_ble_eq_true rfl) dI3_52 (fun q14 => ?_)
  refine n_dup (pc := 55) dI3_55 rfl ?_
  refine n_init (pc := 56) (f0 := [(q3, .inl (c 6, 6, .inr (.inr (.inr (.inr (va_up (va_up (va_up (va_up (va_up (fun _ => none) 0 (some q4)) 1 (some q6)) 2 (some q8)) 3 (some q10)) 4 (some q12))))))), (q2, .inl (c 0, 10, .inl (fun _ => 0))), (q1, .inl (c 0, 10, .inl (fun _ => 0))), (h0, .inr (3, [.ref q3, .int 0, .ref q1, .ref q2, .int 0, .int (-1), .int (-1)]))]) (ci_10 l D c q14) rfl cd_I10 ini_RX10 nh_RX10 pd_I10 (Nat.le_of_ble_eq_true rfl) rfl iw_I10 (Or.inr ⟨"TideDiscs", (tb_1 (List.mem_of_getElem? (i := 100) (by decide +kernel)))⟩) (Nat.le_of_ble_eq_true rfl) (Nat.le_of_ble_eq_true rfl) (Nat.le_of_ble_eq_true rfl) (Nat.le_of_ble_eq_true rfl) dI3_56 ?_
  intro w1 hQ
  obtain ⟨q15, rfl⟩ := hQ
  refine n_aast (pc := 59) (i := 0) (t0 := 6) (ci := 10) (rc := (RX10, TX10, 9)) (f' := [(q3, .inl (c 6, 6, .inr (.inr (.inr (.inr (va_up (va_up (va_up (va_up (va_up (va_up (fun _ => none) 0 (some q4)) 1 (some q6)) 2 (some q8)) 3 (some q10)) 4 (some q12)) 5 (some q14))))))), (q2, .inl (c 0, 10, .inl (fun _ => 0))), (q1, .inl (c 0, 10, .inl (fun _ => 0))), (h0, .inr (3, [.ref q3, .int 0, .ref q1, .ref q2, .int 0, .int (-1), .int (-1)]))]) rfl rfl (List.mem_append_right _ (List.mem_append_left _ (List.mem_of_getElem? (i := 1) rfl))) rfl (by unfold vp_in; decide) rfl dI3_59 ?_
  refine n_iinc (pc := 60) (v := 6) 0 [(1, .int 6), (0, .ref h0)] dI3_60 rfl (by decide) (Nat.le_of_ble_eq_true rfl) rfl ?_
  refine n_goto (pc := 63) 41 dI3_63 rfl ?_
  refine n_iload_n (pc := 41) 0 rfl dI3_41 rfl ?_
  refine n_bipush (pc := 42) (v := 6) dI3_42 (by decide) ?_
  refine n_geT (pc := 44) 66 (by decide) dI3_44 rfl ?_
  exact n_ret (pc := 66) dI3_66 (Nat.le_refl _) (Nat.le_refl _) ⟨_, ⟨q1, q2, q3, q4, q5, q6, q7, q8, q9, q10, q11, q12, q13, q14, q15, rfl⟩, List.Perm.refl _⟩
theorem dI4_0 : decode cX4_init 0 = .ok (.aload_n 0, 1) := by decide +kernel
theorem dI4_1 : decode cX4_init 1 = .ok (.invokespecial 3, 3) := by decide +kernel
theorem dI4_4 : decode cX4_init 4 = .ok (.aload_n 0, 1) := by decide +kernel
theorem dI4_5 : decode cX4_init 5 = .ok (.bipush 80, 2) := by decide +kernel
theorem dI4_7 : decode cX4_init 7 = .ok (.newarray .int, 2) := by decide +kernel
theorem dI4_9 : decode cX4_init 9 = .ok (.putfield 9, 3) := by decide +kernel
theorem dI4_12 : decode cX4_init 12 = .ok (.aload_n 0, 1) := by decide +kernel
theorem dI4_13 : decode cX4_init 13 = .ok (.bipush 80, 2) := by decide +kernel
theorem dI4_15 : decode cX4_init 15 = .ok (.newarray .int, 2) := by decide +kernel
theorem dI4_17 : decode cX4_init 17 = .ok (.putfield 15, 3) := by decide +kernel
theorem dI4_20 : decode cX4_init 20 = .ok (.aload_n 0, 1) := by decide +kernel
theorem dI4_21 : decode cX4_init 21 = .ok (.bipush 80, 2) := by decide +kernel
theorem dI4_23 : decode cX4_init 23 = .ok (.newarray .int, 2) := by decide +kernel
theorem dI4_25 : decode cX4_init 25 = .ok (.putfield 18, 3) := by decide +kernel
theorem dI4_28 : decode cX4_init 28 = .ok (.aload_n 0, 1) := by decide +kernel
theorem dI4_29 : decode cX4_init 29 = .ok (.bipush 80, 2) := by decide +kernel
theorem dI4_31 : decode cX4_init 31 = .ok (.newarray .int, 2) := by decide +kernel
theorem dI4_33 : decode cX4_init 33 = .ok (.putfield 21, 3) := by decide +kernel
theorem dI4_36 : decode cX4_init 36 = .ok (.aload_n 0, 1) := by decide +kernel
theorem dI4_37 : decode cX4_init 37 = .ok (.iconst 3, 1) := by decide +kernel
theorem dI4_38 : decode cX4_init 38 = .ok (.newarray .int, 2) := by decide +kernel
theorem dI4_40 : decode cX4_init 40 = .ok (.putfield 24, 3) := by decide +kernel
theorem dI4_43 : decode cX4_init 43 = .ok (.return_, 1) := by decide +kernel
theorem cd_I4 : Cond.code yX4_init cX4_init 1 none ∈ lw_tbl := (tb_1 (List.mem_of_getElem? (i := 189) (by decide +kernel)))
theorem pd_I4 : (parseMethodDescriptor yX4_init.desc).map (fun d => d.parameters.length) = some 0 := by decide +kernel
theorem iw_I4 : Cond.instanceMethod yX4_init ∈ lw_tbl := (tb_1 (List.mem_of_getElem? (i := 188) (by decide +kernel)))
abbrev gm_I4 : am_M := (yX4_init, cX4_init, 1, none, 1)
theorem fp_4_9 : am_fp RX4 9 4 0 true (.array .int) := ⟨_, _, _, kd_4, by decide, (tb_1 (List.mem_of_getElem? (i := 191) (by decide +kernel))), rfl, rfl, rfl⟩
theorem fp_4_15 : am_fp RX4 15 4 1 true (.array .int) := ⟨_, _, _, kd_4, by decide, (tb_1 (List.mem_of_getElem? (i := 193) (by decide +kernel))), rfl, rfl, rfl⟩
theorem fp_4_18 : am_fp RX4 18 4 2 true (.array .int) := ⟨_, _, _, kd_4, by decide, (tb_1 (List.mem_of_getElem? (i := 195) (by decide +kernel))), rfl, rfl, rfl⟩
theorem fp_4_21 : am_fp RX4 21 4 3 true (.array .int) := ⟨_, _, _, kd_4, by decide, (tb_1 (List.mem_of_getElem? (i := 197) (by decide +kernel))), rfl, rfl, rfl⟩
theorem fp_4_24 : am_fp RX4 24 4 6 true (.array .int) := ⟨_, _, _, kd_4, by decide, (tb_1 (List.mem_of_getElem? (i := 203) (by decide +kernel))), rfl, rfl, rfl⟩
set_option maxRecDepth 100000 in
set_option maxHeartbeats 4000000 in
theorem ci_4 (l : Launch) (D : va_G) (c : Nat → ClassId) (h0 : Nat) : am_NC (l, D, am_tz c) gm_I4 5 323 h0 (.inr (4, [.null, .null, .null, .null, .int 0, .int 0, .null, .int 0])) (fun ws => ∃ q1 q2 q3 q4 q5 : Nat, ws = [(q5, .inl (c 0, 3, .inl (fun _ => 0))), (q4, .inl (c 0, 80, .inl (fun _ => 0))), (q3, .inl (c 0, 80, .inl (fun _ => 0))), (q2, .inl (c 0, 80, .inl (fun _ => 0))), (q1, .inl (c 0, 80, .inl (fun _ => 0))), (h0, .inr (4, [.ref q1, .ref q2, .ref q3, .ref q4, .int 0, .int 0, .ref q5, .int 0]))]) := by
  refine am_ofN (by decide) rfl (Nat.le_of_ble_eq_true rfl) ?_
  refine n_aload_n (pc := 0) 0 rfl dI4_0 rfl ?_
  refine n_obj (pc := 1) (tb_1 (List.mem_of_getElem? (i := 190) (by decide +kernel))) (Nat.le_of_ble_eq_true rfl) (Nat.le_of_ble_eq_true rfl) dI4_1 ?_
  refine n_aload_n (pc := 4) 0 rfl dI4_4 rfl ?_
  refine n_bipush (pc := 5) (v := 80) dI4_5 (by decide) ?_
  refine n_newa (pc := 7) (atype := .int) (N' := 80) (ty := .int) (cI := c 0) (a0 := (80, .inl (fun _ => 0))) (t0 := 0) rfl hu_int aw_int rfl (fun _ => rfl) (by decide) (by decide) (by decide) (Nat.le_of_ble_eq_true rfl) (Nat.le_of_ble_eq_true rfl) dI4_7 (fun q1 => ?_)
  refine n_put (pc := 9) (i := 1) (v := .ref q1) (f' := [(q1, .inl (c 0, 80, .inl (fun _ => 0))), (h0, .inr (4, [.ref q1, .null, .null, .null, .int 0, .int 0, .null, .int 0]))]) rfl fp_4_9 rfl rfl (Nat.le_of_ble_eq_true rfl) rfl dI4_9 ?_
  refine n_aload_n (pc := 12) 0 rfl dI4_12 rfl ?_
  refine n_bipush (pc := 13) (v := 80) dI4_13 (by decide) ?_
  refine n_newa (pc := 15) (atype := .int) (N' := 80) (ty := .int) (cI := c 0) (a0 := (80, .inl (fun _ => 0))) (t0 := 0) rfl hu_int aw_int rfl (fun _ => rfl) (by decide) (by decide) (by decide) (Nat.le_of_ble_eq_true rfl) (Nat.le_of_ble_eq_true rfl) dI4_15 (fun q2 => ?_)
  refine n_put (pc := 17) (i := 2) (v := .ref q2) (f' := [(q2, .inl (c 0, 80, .inl (fun _ => 0))), (q1, .inl (c 0, 80, .inl (fun _ => 0))), (h0, .inr (4, [.ref q1, .ref q2, .null, .null, .int 0, .int 0, .null, .int 0]))]) rfl fp_4_15 rfl rfl (Nat.le_of_ble_eq_true rfl) rfl dI4_17 ?_
  refine n_aload_n (pc := 20) 0 rfl dI4_20 rfl ?_
  refine n_bipush (pc := 21) (v := 80) dI4_21 (by decide) ?_
  refine n_newa (pc := 23) (atype := .int) (N' := 80) (ty := .int) (cI := c 0) (a0 := (80, .inl (fun _ => 0))) (t0 := 0) rfl hu_int aw_int rfl (fun _ => rfl) (by decide) (by decide) (by decide) (Nat.le_of_ble_eq_true rfl) (Nat.le_of_ble_eq_true rfl) dI4_23 (fun q3 => ?_)
  refine n_put (pc := 25) (i := 3) (v := .ref q3) (f' := [(q3, .inl (c 0, 80, .inl (fun _ => 0))), (q2, .inl (c 0, 80, .inl (fun _ => 0))), (q1, .inl (c 0, 80, .inl (fun _ => 0))), (h0, .inr (4, [.ref q1, .ref q2, .ref q3, .null, .int 0, .int 0, .null, .int 0]))]) rfl fp_4_18 rfl rfl (Nat.le_of_ble_eq_true rfl) rfl dI4_25 ?_
  refine n_aload_n (pc := 28) 0 rfl dI4_28 rfl ?_
  refine n_bipush (pc := 29) (v := 80) dI4_29 (by decide) ?_
  refine n_newa (pc := 31) (atype := .int) (N' := 80) (ty := .int) (cI := c 0) (a0 := (80, .inl (fun _ => 0))) (t0 := 0) rfl hu_int aw_int rfl (fun _ => rfl) (by decide) (by decide) (by decide) (Nat.le_of_ble_eq_true rfl) (Nat.le_of_ble_eq_true rfl) dI4_31 (fun q4 => ?_)
  refine n_put (pc := 33) (i := 4) (v := .ref q4) (f' := [(q4, .inl (c 0, 80, .inl (fun _ => 0))), (q3, .inl (c 0, 80, .inl (fun _ => 0))), (q2, .inl (c 0, 80, .inl (fun _ => 0))), (q1, .inl (c 0, 80, .inl (fun _ => 0))), (h0, .inr (4, [.ref q1, .ref q2, .ref q3, .ref q4, .int 0, .int 0, .null, .int 0]))]) rfl fp_4_21 rfl rfl (Nat.le_of_ble_eq_true rfl) rfl dI4_33 ?_
  refine n_aload_n (pc := 36) 0 rfl dI4_36 rfl ?_
  refine n_iconst (pc := 37) (v := 3) dI4_37 (by decide) ?_
  refine n_newa (pc := 38) (atype := .int) (N' := 3) (ty := .int) (cI := c 0) (a0 := (3, .inl (fun _ => 0))) (t0 := 0) rfl hu_int aw_int rfl (fun _ => rfl) (by decide) (by decide) (by decide) (Nat.le_of_ble_eq_true rfl) (Nat.le_of_ble_eq_true rfl) dI4_38 (fun q5 => ?_)
  refine n_put (pc := 40) (i := 5) (v := .ref q5) (f' := [(q5, .inl (c 0, 3, .inl (fun _ => 0))), (q4, .inl (c 0, 80, .inl (fun _ => 0))), (q3, .inl (c 0, 80, .inl (fun _ => 0))), (q2, .inl (c 0, 80, .inl (fun _ => 0))), (q1, .inl (c 0, 80, .inl (fun _ => 0))), (h0, .inr (4, [.ref q1, .ref q2, .ref q3, .ref q4, .int 0, .int 0, .ref q5, .int 0]))]) rfl fp_4_24 rfl rfl (Nat.le_of_ble_eq_true rfl) rfl dI4_40 ?_
  exact n_ret (pc := 43) dI4_43 (Nat.le_refl _) (Nat.le_refl _) ⟨_, ⟨q1, q2, q3, q4, q5, rfl⟩, List.Perm.refl _⟩
theorem dI9_0 : decode cX9_init 0 = .ok (.aload_n 0, 1) := by decide +kernel
theorem dI9_1 : decode cX9_init 1 = .ok (.invokespecial 3, 3) := by decide +kernel
theorem dI9_4 : decode cX9_init 4 = .ok (.aload_n 0, 1) := by decide +kernel
theorem dI9_5 : decode cX9_init 5 = .ok (.bipush 80, 2) := by decide +kernel
theorem dI9_7 : decode cX9_init 7 = .ok (.newarray .int, 2) := by decide +kernel
theorem dI9_9 : decode cX9_init 9 = .ok (.putfield 9, 3) := by decide +kernel
theorem dI9_12 : decode cX9_init 12 = .ok (.aload_n 0, 1) := by decide +kernel
theorem dI9_13 : decode cX9_init 13 = .ok (.bipush 30, 2) := by decide +kernel
theorem dI9_15 : decode cX9_init 15 = .ok (.newarray .int, 2) := by decide +kernel
theorem dI9_17 : decode cX9_init 17 = .ok (.putfield 15, 3) := by decide +kernel
theorem dI9_20 : decode cX9_init 20 = .ok (.return_, 1) := by decide +kernel
theorem cd_I9 : Cond.code yX9_init cX9_init 1 none ∈ lw_tbl := (tb_1 (List.mem_of_getElem? (i := 226) (by decide +kernel)))
theorem pd_I9 : (parseMethodDescriptor yX9_init.desc).map (fun d => d.parameters.length) = some 0 := by decide +kernel
theorem iw_I9 : Cond.instanceMethod yX9_init ∈ lw_tbl := (tb_1 (List.mem_of_getElem? (i := 225) (by decide +kernel)))
abbrev gm_I9 : am_M := (yX9_init, cX9_init, 1, none, 1)
theorem fp_9_9 : am_fp RX9 9 9 4 true (.array .int) := ⟨_, _, _, kd_9, by decide, (tb_1 (List.mem_of_getElem? (i := 232) (by decide +kernel))), rfl, rfl, rfl⟩
theorem fp_9_15 : am_fp RX9 15 9 10 true (.array .int) := ⟨_, _, _, kd_9, by decide, (tb_2 (List.mem_of_getElem? (i := 3) (by decide +kernel))), rfl, rfl, rfl⟩
set_option maxRecDepth 100000 in
set_option maxHeartbeats 4000000 in
theorem ci_9 (l : Launch) (D : va_G) (c : Nat → ClassId) (h0 : Nat) : am_NC (l, D, am_tz c) gm_I9 2 110 h0 (.inr (9, [.null, .null, .int 0, .int 0, .null, .int 0, .int 0, .int 0, .long 0, .int 0, .null, .int 0])) (fun ws => ∃ q1 q2 : Nat, ws = [(q2, .inl (c 0, 30, .inl (fun _ => 0))), (q1, .inl (c 0, 80, .inl (fun _ => 0))), (h0, .inr (9, [.null, .null, .int 0, .int 0, .ref q1, .int 0, .int 0, .int 0, .long 0, .int 0, .ref q2, .int 0]))]) := by
  refine am_ofN (by decide) rfl (Nat.le_of_ble_eq_true rfl) ?_
  refine n_aload_n (pc := 0) 0 rfl dI9_0 rfl ?_
  refine n_obj (pc := 1) (tb_1 (List.mem_of_getElem? (i := 227) (by decide +kernel))) (Nat.le_of_ble_eq_true rfl) (Nat.le_of_ble_eq_true rfl) dI9_1 ?_
  refine n_aload_n (pc := 4) 0 rfl dI9_4 rfl ?_
  refine n_bipush (pc := 5) (v := 80) dI9_5 (by decide) ?_
  refine n_newa (pc := 7) (atype := .int) (N' := 80) (ty := .int) (cI := c 0) (a0 := (80, .inl (fun _ => 0))) (t0 := 0) rfl hu_int aw_int rfl (fun _ => rfl) (by decide) (by decide) (by decide) (Nat.le_of_ble_eq_true rfl) (Nat.le_of_ble_eq_true rfl) dI9_7 (fun q1 => ?_)
  refine n_put (pc := 9) (i := 1) (v := .ref q1) (f' := [(q1, .inl (c 0, 80, .inl (fun _ => 0))), (h0, .inr (9, [.null, .null, .int 0, .int 0, .ref q1, .int 0, .int 0, .int 0, .long 0, .int 0, .null, .int 0]))]) rfl fp_9_9 rfl rfl (Nat.le_of_ble_eq_true rfl) rfl dI9_9 ?_
  refine n_aload_n (pc := 12) 0 rfl dI9_12 rfl ?_
  refine n_bipush (pc := 13) (v := 30) dI9_13 (by decide) ?_
  refine n_newa (pc := 15) (atype := .int) (N' := 30) (ty := .int) (cI := c 0) (a0 := (30, .inl (fun _ => 0))) (t0 := 0) rfl hu_int aw_int rfl (fun _ => rfl) (by decide) (by decide) (by decide) (Nat.le_of_ble_eq_true rfl) (Nat.le_of_ble_eq_true rfl) dI9_15 (fun q2 => ?_)
  refine n_put (pc := 17) (i := 2) (v := .ref q2) (f' := [(q2, .inl (c 0, 30, .inl (fun _ => 0))), (q1, .inl (c 0, 80, .inl (fun _ => 0))), (h0, .inr (9, [.null, .null, .int 0, .int 0, .ref q1, .int 0, .int 0, .int 0, .long 0, .int 0, .ref q2, .int 0]))]) rfl fp_9_15 rfl rfl (Nat.le_of_ble_eq_true rfl) rfl dI9_17 ?_
  exact n_ret (pc := 20) dI9_20 (Nat.le_refl _) (Nat.le_refl _) ⟨_, ⟨q1, q2, rfl⟩, List.Perm.refl _⟩
theorem dI7_0 : decode cX7_init 0 = .ok (.aload_n 0, 1) := by decide +kernel
theorem dI7_1 : decode cX7_init 1 = .ok (.invokespecial 3, 3) := by decide +kernel
theorem dI7_4 : decode cX7_init 4 = .ok (.aload_n 0, 1) := by decide +kernel
theorem dI7_5 : decode cX7_init 5 = .ok (.bipush 10, 2) := by decide +kernel
theorem dI7_7 : decode cX7_init 7 = .ok (.newarray .int, 2) := by decide +kernel
theorem dI7_9 : decode cX7_init 9 = .ok (.putfield 9, 3) := by decide +kernel
theorem dI7_12 : decode cX7_init 12 = .ok (.aload_n 0, 1) := by decide +kernel
theorem dI7_13 : decode cX7_init 13 = .ok (.bipush 6, 2) := by decide +kernel
theorem dI7_15 : decode cX7_init 15 = .ok (.newarray .int, 2) := by decide +kernel
theorem dI7_17 : decode cX7_init 17 = .ok (.putfield 15, 3) := by decide +kernel
theorem dI7_20 : decode cX7_init 20 = .ok (.aload_n 0, 1) := by decide +kernel
theorem dI7_21 : decode cX7_init 21 = .ok (.bipush 6, 2) := by decide +kernel
theorem dI7_23 : decode cX7_init 23 = .ok (.newarray .int, 2) := by decide +kernel
theorem dI7_25 : decode cX7_init 25 = .ok (.putfield 18, 3) := by decide +kernel
theorem dI7_28 : decode cX7_init 28 = .ok (.aload_n 0, 1) := by decide +kernel
theorem dI7_29 : decode cX7_init 29 = .ok (.sipush 300, 3) := by decide +kernel
theorem dI7_32 : decode cX7_init 32 = .ok (.newarray .boolean, 2) := by decide +kernel
theorem dI7_34 : decode cX7_init 34 = .ok (.putfield 21, 3) := by decide +kernel
theorem dI7_37 : decode cX7_init 37 = .ok (.aload_n 0, 1) := by decide +kernel
theorem dI7_38 : decode cX7_init 38 = .ok (.iconst 4, 1) := by decide +kernel
theorem dI7_39 : decode cX7_init 39 = .ok (.newarray .int, 2) := by decide +kernel
theorem dI7_41 : decode cX7_init 41 = .ok (.putfield 25, 3) := by decide +kernel
theorem dI7_44 : decode cX7_init 44 = .ok (.aload_n 0, 1) := by decide +kernel
theorem dI7_45 : decode cX7_init 45 = .ok (.iconst 4, 1) := by decide +kernel
theorem dI7_46 : decode cX7_init 46 = .ok (.newarray .int, 2) := by decide +kernel
theorem dI7_48 : decode cX7_init 48 = .ok (.putfield 28, 3) := by decide +kernel
theorem dI7_51 : decode cX7_init 51 = .ok (.aload_n 0, 1) := by decide +kernel
theorem dI7_52 : decode cX7_init 52 = .ok (.bipush 6, 2) := by decide +kernel
theorem dI7_54 : decode cX7_init 54 = .ok (.newarray .int, 2) := by decide +kernel
theorem dI7_56 : decode cX7_init 56 = .ok (.putfield 31, 3) := by decide +kernel
theorem dI7_59 : decode cX7_init 59 = .ok (.return_, 1) := by decide +kernel
theorem cd_I7 : Cond.code yX7_init cX7_init 1 none ∈ lw_tbl := (tb_2 (List.mem_of_getElem? (i := 36) (by decide +kernel)))
theorem pd_I7 : (parseMethodDescriptor yX7_init.desc).map (fun d => d.parameters.length) = some 0 := by decide +kernel
theorem iw_I7 : Cond.instanceMethod yX7_init ∈ lw_tbl := (tb_2 (List.mem_of_getElem? (i := 35) (by decide +kernel)))
abbrev gm_I7 : am_M := (yX7_init, cX7_init, 1, none, 1)
theorem fp_7_9 : am_fp RX7 9 7 3 true (.array .int) := ⟨_, _, _, kd_7, by decide, (tb_2 (List.mem_of_getElem? (i := 41) (by decide +kernel))), rfl, rfl, rfl⟩
theorem fp_7_15 : am_fp RX7 15 7 4 true (.array .int) := ⟨_, _, _, kd_7, by decide, (tb_2 (List.mem_of_getElem? (i := 42) (by decide +kernel))), rfl, rfl, rfl⟩
theorem fp_7_18 : am_fp RX7 18 7 5 true (.array .int) := ⟨_, _, _, kd_7, by decide, (tb_2 (List.mem_of_getElem? (i := 43) (by decide +kernel))), rfl, rfl, rfl⟩
theorem fp_7_21 : am_fp RX7 21 7 6 true (.array .boolean) := ⟨_, _, _, kd_7, by decide, (tb_2 (List.mem_of_getElem? (i := 44) (by decide +kernel))), rfl, rfl, rfl⟩
theorem fp_7_25 : am_fp RX7 25 7 7 true (.array .int) := ⟨_, _, _, kd_7, by decide, (tb_2 (List.mem_of_getElem? (i := 45) (by decide +kernel))), rfl, rfl, rfl⟩
theorem fp_7_28 : am_fp RX7 28 7 11 true (.array .int) := ⟨_, _, _, kd_7, by decide, (tb_2 (List.mem_of_getElem? (i := 52) (by decide +kernel))), rfl, rfl, rfl⟩
theorem fp_7_31 : am_fp RX7 31 7 13 true (.array .int) := ⟨_, _, _, kd_7, by decide, (tb_2 (List.mem_of_getElem? (i := 56) (by decide +kernel))), rfl, rfl, rfl⟩
set_option maxRecDepth 100000 in
set_option maxHeartbeats 4000000 in
theorem ci_7 (l : Launch) (D : va_G) (c : Nat → ClassId) (h0 : Nat) : am_NC (l, D, am_tz c) gm_I7 7 336 h0 (.inr (7, [.null, .null, .int 0, .null, .null, .null, .null, .null, .int 0, .long 0, .long 0, .null, .int 0, .null, .int 0])) (fun ws => ∃ q1 q2 q3 q4 q5 q6 q7 : Nat, ws = [(q7, .inl (c 0, 6, .inl (fun _ => 0))), (q6, .inl (c 0, 4, .inl (fun _ => 0))), (q5, .inl (c 0, 4, .inl (fun _ => 0))), (q4, .inl (c 3, 300, .inl (fun _ => 0))), (q3, .inl (c 0, 6, .inl (fun _ => 0))), (q2, .inl (c 0, 6, .inl (fun _ => 0))), (q1, .inl (c 0, 10, .inl (fun _ => 0))), (h0, .inr (7, [.null, .null, .int 0, .ref q1, .ref q2, .ref q3, .ref q4, .ref q5, .int 0, .long 0, .long 0, .ref q6, .int 0, .ref q7, .int 0]))]) := by
  refine am_ofN (by decide) rfl (Nat.le_of_ble_eq_true rfl) ?_
  refine n_aload_n (pc := 0) 0 rfl dI7_0 rfl ?_
  refine n_obj (pc := 1) (tb_2 (List.mem_of_getElem? (i := 37) (by decide +kernel))) (Nat.le_of_ble_eq_true rfl) (Nat.le_of_ble_eq_true rfl) dI7_1 ?_
  refine n_aload_n (pc := 4) 0 rfl dI7_4 rfl ?_
  refine n_bipush (pc := 5) (v := 10) dI7_5 (by decide) ?_
  refine n_newa (pc := 7) (atype := .int) (N' := 10) (ty := .int) (cI := c 0) (a0 := (10, .inl (fun _ => 0))) (t0 := 0) rfl hu_int aw_int rfl (fun _ => rfl) (by decide) (by decide) (by decide) (Nat.le_of_ble_eq_true rfl) (Nat.le_of_ble_eq_true rfl) dI7_7 (fun q1 => ?_)
  refine n_put (pc := 9) (i := 1) (v := .ref q1) (f' := [(q1, .inl (c 0, 10, .inl (fun _ => 0))), (h0, .inr (7, [.null, .null, .int 0, .ref q1, .null, .null, .null, .null, .int 0, .long 0, .long 0, .null, .int 0, .null, .int 0]))]) rfl fp_7_9 rfl rfl (Nat.le_of_ble_eq_true rfl) rfl dI7_9 ?_
  refine n_aload_n (pc := 12) 0 rfl dI7_12 rfl ?_
  refine n_bipush (pc := 13) (v := 6) dI7_13 (by decide) ?_
  refine n_newa (pc := 15) (atype := .int) (N' := 6) (ty := .int) (cI := c 0) (a0 := (6, .inl (fun _ => 0))) (t0 := 0) rfl hu_int aw_int rfl (fun _ => rfl) (by decide) (by decide) (by decide) (Nat.le_of_ble_eq_true rfl) (Nat.le_of_ble_eq_true rfl) dI7_15 (fun q2 => ?_)
  refine n_put (pc := 17) (i := 2) (v := .ref q2) (f' := [(q2, .inl (c 0, 6, .inl (fun _ => 0))), (q1, .inl (c 0, 10, .inl (fun _ => 0))), (h0, .inr (7, [.null, .null, .int 0, .ref q1, .ref q2, .null, .null, .null, .int 0, .long 0, .long 0, .null, .int 0, .null, .int 0]))]) rfl fp_7_15 rfl rfl (Nat.le_of_ble_eq_true rfl) rfl dI7_17 ?_
  refine n_aload_n (pc := 20) 0 rfl dI7_20 rfl ?_
  refine n_bipush (pc := 21) (v := 6) dI7_21 (by decide) ?_
  refine n_newa (pc := 23) (atype := .int) (N' := 6) (ty := .int) (cI := c 0) (a0 := (6, .inl (fun _ => 0))) (t0 := 0) rfl hu_int aw_int rfl (fun _ => rfl) (by decide) (by decide) (by decide) (Nat.le_of_ble_eq_true rfl) (Nat.le_of_ble_eq_true rfl) dI7_23 (fun q3 => ?_)
  refine n_put (pc := 25) (i := 3) (v := .ref q3) (f' := [(q3, .inl (c 0, 6, .inl (fun _ => 0))), (q2, .inl (c 0, 6, .inl (fun _ => 0))), (q1, .inl (c 0, 10, .inl (fun _ => 0))), (h0, .inr (7, [.null, .null, .int 0, .ref q1, .ref q2, .ref q3, .null, .null, .int 0, .long 0, .long 0, .null, .int 0, .null, .int 0]))]) rfl fp_7_18 rfl rfl (Nat.le_of_ble_eq_true rfl) rfl dI7_25 ?_
  refine n_aload_n (pc := 28) 0 rfl dI7_28 rfl ?_
  refine n_sipush (pc := 29) (v := 300) dI7_29 (by decide) ?_
  refine n_newa (pc := 32) (atype := .boolean) (N' := 300) (ty := .boolean) (cI := c 3) (a0 := (300, .inl (fun _ => 0))) (t0 := 3) rfl hu_boolean aw_boolean rfl (fun _ => rfl) (by decide) (by decide) (by decide) (Nat.le_of_ble_eq_true rfl) (Nat.le_of_ble_eq_true rfl) dI7_32 (fun q4 => ?_)
  refine n_put (pc := 34) (i := 4) (v := .ref q4) (f' := [(q4, .inl (c 3, 300, .inl (fun _ => 0))), (q3, .inl (c 0, 6, .inl (fun _ => 0))), (q2, .inl (c 0, 6, .inl (fun _ => 0))), (q1, .inl (c 0, 10, .inl (fun _ => 0))), (h0, .inr (7, [.null, .null, .int 0, .ref q1, .ref q2, .ref q3, .ref q4, .null, .int 0, .long 0, .long 0, .null, .int 0, .null, .int 0]))]) rfl fp_7_21 rfl rfl (Nat.le_of_ble_eq_true rfl) rfl dI7_34 ?_
  refine n_aload_n (pc := 37) 0 rfl dI7_37 rfl ?_
  refine n_iconst (pc := 38) (v := 4) dI7_38 (by decide) ?_
  refine n_newa (pc := 39) (atype := .int) (N' := 4) (ty := .int) (cI := c 0) (a0 := (4, .inl (fun _ => 0))) (t0 := 0) rfl hu_int aw_int rfl (fun _ => rfl) (by decide) (by decide) (by decide) (Nat.le_of_ble_eq_true rfl) (Nat.le_of_ble_eq_true rfl) dI7_39 (fun q5 => ?_)
  refine n_put (pc := 41) (i := 5) (v := .ref q5) (f' := [(q5, .inl (c 0, 4, .inl (fun _ => 0))), (q4, .inl (c 3, 300, .inl (fun _ => 0))), (q3, .inl (c 0, 6, .inl (fun _ => 0))), (q2, .inl (c 0, 6, .inl (fun _ => 0))), (q1, .inl (c 0, 10, .inl (fun _ => 0))), (h0, .inr (7, [.null, .null, .int 0, .ref q1, .ref q2, .ref q3, .ref q4, .ref q5, .int 0, .long 0, .long 0, .null, .int 0, .null, .int 0]))]) rfl fp_7_25 rfl rfl (Nat.le_of_ble_eq_true rfl) rfl dI7_41 ?_
  refine n_aload_n (pc := 44) 0 rfl dI7_44 rfl ?_
  refine n_iconst (pc := 45) (v := 4) dI7_45 (by decide) ?_
  refine n_newa (pc := 46) (atype := .int) (N' := 4) (ty := .int) (cI := c 0) (a0 := (4, .inl (fun _ => 0))) (t0 := 0) rfl hu_int aw_int rfl (fun _ => rfl) (by decide) (by decide) (by decide) (Nat.le_of_ble_eq_true rfl) (Nat.le_of_ble_eq_true rfl) dI7_46 (fun q6 => ?_)
  refine n_put (pc := 48) (i := 6) (v := .ref q6) (f' := [(q6, .inl (c 0, 4, .inl (fun _ => 0))), (q5, .inl (c 0, 4, .inl (fun _ => 0))), (q4, .inl (c 3, 300, .inl (fun _ => 0))), (q3, .inl (c 0, 6, .inl (fun _ => 0))), (q2, .inl (c 0, 6, .inl (fun _ => 0))), (q1, .inl (c 0, 10, .inl (fun _ => 0))), (h0, .inr (7, [.null, .null, .int 0, .ref q1, .ref q2, .ref q3, .ref q4, .ref q5, .int 0, .long 0, .long 0, .ref q6, .int 0, .null, .int 0]))]) rfl fp_7_28 rfl rfl (Nat.le_of_ble_eq_true rfl) rfl dI7_48 ?_
  refine n_aload_n (pc := 51) 0 rfl dI7_51 rfl ?_
  refine n_bipush (pc := 52) (v := 6) dI7_52 (by decide) ?_
  refine n_newa (pc := 54) (atype := .int) (N' := 6) (ty := .int) (cI := c 0) (a0 := (6, .inl (fun _ => 0))) (t0 := 0) rfl hu_int aw_int rfl (fun _ => rfl) (by decide) (by decide) (by decide) (Nat.le_of_ble_eq_true rfl) (Nat.le_of_ble_eq_true rfl) dI7_54 (fun q7 => ?_)
  refine n_put (pc := 56) (i := 7) (v := .ref q7) (f' := [(q7, .inl (c 0, 6, .inl (fun _ => 0))), (q6, .inl (c 0, 4, .inl (fun _ => 0))), (q5, .inl (c 0, 4, .inl (fun _ => 0))), (q4, .inl (c 3, 300, .inl (fun _ => 0))), (q3, .inl (c 0, 6, .inl (fun _ => 0))), (q2, .inl (c 0, 6, .inl (fun _ => 0))), (q1, .inl (c 0, 10, .inl (fun _ => 0))), (h0, .inr (7, [.null, .null, .int 0, .ref q1, .ref q2, .ref q3, .ref q4, .ref q5, .int 0, .long 0, .long 0, .ref q6, .int 0, .ref q7, .int 0]))]) rfl fp_7_31 rfl rfl (Nat.le_of_ble_eq_true rfl) rfl dI7_56 ?_
  exact n_ret (pc := 59) dI7_59 (Nat.le_refl _) (Nat.le_refl _) ⟨_, ⟨q1, q2, q3, q4, q5, q6, q7, rfl⟩, List.Perm.refl _⟩
theorem dI6_0 : decode cX6_init 0 = .ok (.aload_n 0, 1) := by decide +kernel
theorem dI6_1 : decode cX6_init 1 = .ok (.invokespecial 1, 3) := by decide +kernel
theorem dI6_4 : decode cX6_init 4 = .ok (.aload_n 0, 1) := by decide +kernel
theorem dI6_5 : decode cX6_init 5 = .ok (.iconst 4, 1) := by decide +kernel
theorem dI6_6 : decode cX6_init 6 = .ok (.newarray .int, 2) := by decide +kernel
theorem dI6_8 : decode cX6_init 8 = .ok (.putfield 7, 3) := by decide +kernel
theorem dI6_11 : decode cX6_init 11 = .ok (.return_, 1) := by decide +kernel
theorem cd_I6 : Cond.code yX6_init cX6_init 1 none ∈ lw_tbl := (tb_2 (List.mem_of_getElem? (i := 96) (by decide +kernel)))
theorem pd_I6 : (parseMethodDescriptor yX6_init.desc).map (fun d => d.parameters.length) = some 0 := by decide +kernel
theorem iw_I6 : Cond.instanceMethod yX6_init ∈ lw_tbl := (tb_2 (List.mem_of_getElem? (i := 95) (by decide +kernel)))
abbrev gm_I6 : am_M := (yX6_init, cX6_init, 1, none, 1)
theorem fp_6_7 : am_fp RX6 7 6 4 true (.array .int) := ⟨_, _, _, kd_6, by decide, (tb_2 (List.mem_of_getElem? (i := 104) (by decide +kernel))), rfl, rfl, rfl⟩
set_option maxRecDepth 100000 in
set_option maxHeartbeats 4000000 in
theorem ci_6 (l : Launch) (D : va_G) (c : Nat → ClassId) (h0 : Nat) : am_NC (l, D, am_tz c) gm_I6 1 4 h0 (.inr (6, [.int 0, .long 0, .long 0, .int 0, .null])) (fun ws => ∃ q1 : Nat, ws = [(q1, .inl (c 0, 4, .inl (fun _ => 0))), (h0, .inr (6, [.int 0, .long 0, .long 0, .int 0, .ref q1]))]) := by
  refine am_ofN (by decide) rfl (Nat.le_of_ble_eq_true rfl) ?_
  refine n_aload_n (pc := 0) 0 rfl dI6_0 rfl ?_
  refine n_obj (pc := 1) (tb_2 (List.mem_of_getElem? (i := 97) (by decide +kernel))) (Nat.le_of_ble_eq_true rfl) (Nat.le_of_ble_eq_true rfl) dI6_1 ?_
  refine n_aload_n (pc := 4) 0 rfl dI6_4 rfl ?_
  refine n_iconst (pc := 5) (v := 4) dI6_5 (by decide) ?_
  refine n_newa (pc := 6) (atype := .int) (N' := 4) (ty := .int) (cI := c 0) (a0 := (4, .inl (fun _ => 0))) (t0 := 0) rfl hu_int aw_int rfl (fun _ => rfl) (by decide) (by decide) (by decide) (Nat.le_of_ble_eq_true rfl) (Nat.le_of_ble_eq_true rfl) dI6_6 (fun q1 => ?_)
  refine n_put (pc := 8) (i := 1) (v := .ref q1) (f' := [(q1, .inl (c 0, 4, .inl (fun _ => 0))), (h0, .inr (6, [.int 0, .long 0, .long 0, .int 0, .ref q1]))]) rfl fp_6_7 rfl rfl (Nat.le_of_ble_eq_true rfl) rfl dI6_8 ?_
  exact n_ret (pc := 11) dI6_11 (Nat.le_refl _) (Nat.le_refl _) ⟨_, ⟨q1, rfl⟩, List.Perm.refl _⟩
theorem dI1_0 : decode cX1_init 0 = .ok (.aload_n 0, 1) := by decide +kernel
theorem dI1_1 : decode cX1_init 1 = .ok (.invokespecial 3, 3) := by decide +kernel
theorem dI1_4 : decode cX1_init 4 = .ok (.aload_n 0, 1) := by decide +kernel
theorem dI1_5 : decode cX1_init 5 = .ok (.bipush 24, 2) := by decide +kernel
theorem dI1_7 : decode cX1_init 7 = .ok (.newarray .int, 2) := by decide +kernel
theorem dI1_9 : decode cX1_init 9 = .ok (.putfield 9, 3) := by decide +kernel
theorem dI1_12 : decode cX1_init 12 = .ok (.aload_n 0, 1) := by decide +kernel
theorem dI1_13 : decode cX1_init 13 = .ok (.bipush 24, 2) := by decide +kernel
theorem dI1_15 : decode cX1_init 15 = .ok (.newarray .int, 2) := by decide +kernel
theorem dI1_17 : decode cX1_init 17 = .ok (.putfield 15, 3) := by decide +kernel
theorem dI1_20 : decode cX1_init 20 = .ok (.aload_n 0, 1) := by decide +kernel
theorem dI1_21 : decode cX1_init 21 = .ok (.iconst 5, 1) := by decide +kernel
theorem dI1_22 : decode cX1_init 22 = .ok (.newarray .long, 2) := by decide +kernel
theorem dI1_24 : decode cX1_init 24 = .ok (.putfield 18, 3) := by decide +kernel
theorem dI1_27 : decode cX1_init 27 = .ok (.aload_n 0, 1) := by decide +kernel
theorem dI1_28 : decode cX1_init 28 = .ok (.bipush 25, 2) := by decide +kernel
theorem dI1_30 : decode cX1_init 30 = .ok (.newarray .long, 2) := by decide +kernel
theorem dI1_32 : decode cX1_init 32 = .ok (.putfield 22, 3) := by decide +kernel
theorem dI1_35 : decode cX1_init 35 = .ok (.aload_n 0, 1) := by decide +kernel
theorem dI1_36 : decode cX1_init 36 = .ok (.iconst 5, 1) := by decide +kernel
theorem dI1_37 : decode cX1_init 37 = .ok (.newarray .long, 2) := by decide +kernel
theorem dI1_39 : decode cX1_init 39 = .ok (.putfield 25, 3) := by decide +kernel
theorem dI1_42 : decode cX1_init 42 = .ok (.return_, 1) := by decide +kernel
theorem cd_I1 : Cond.code yX1_init cX1_init 1 none ∈ lw_tbl := (tb_2 (List.mem_of_getElem? (i := 121) (by decide +kernel)))
theorem pd_I1 : (parseMethodDescriptor yX1_init.desc).map (fun d => d.parameters.length) = some 0 := by decide +kernel
theorem iw_I1 : Cond.instanceMethod yX1_init ∈ lw_tbl := (tb_2 (List.mem_of_getElem? (i := 120) (by decide +kernel)))
abbrev gm_I1 : am_M := (yX1_init, cX1_init, 1, none, 1)
theorem fp_1_9 : am_fp RX1 9 1 1 true (.array .int) := ⟨_, _, _, kd_1, by decide, (tb_2 (List.mem_of_getElem? (i := 125) (by decide +kernel))), rfl, rfl, rfl⟩
theorem fp_1_15 : am_fp RX1 15 1 2 true (.array .int) := ⟨_, _, _, kd_1, by decide, (tb_2 (List.mem_of_getElem? (i := 127) (by decide +kernel))), rfl, rfl, rfl⟩
theorem fp_1_18 : am_fp RX1 18 1 4 true (.array .long) := ⟨_, _, _, kd_1, by decide, (tb_2 (List.mem_of_getElem? (i := 129) (by decide +kernel))), rfl, rfl, rfl⟩
theorem fp_1_22 : am_fp RX1 22 1 5 true (.array .long) := ⟨_, _, _, kd_1, by decide, (tb_2 (List.mem_of_getElem? (i := 130) (by decide +kernel))), rfl, rfl, rfl⟩
theorem fp_1_25 : am_fp RX1 25 1 6 true (.array .long) := ⟨_, _, _, kd_1, by decide, (tb_2 (List.mem_of_getElem? (i := 131) (by decide +kernel))), rfl, rfl, rfl⟩
set_option maxRecDepth 100000 in
set_option maxHeartbeats 4000000 in
theorem ci_1 (l : Launch) (D : va_G) (c : Nat → ClassId) (h0 : Nat) : am_NC (l, D, am_tz c) gm_I1 5 83 h0 (.inr (1, [.int 0, .null, .null, .int 0, .null, .null, .null, .long 0])) (fun ws => ∃ q1 q2 q3 q4 q5 : Nat, ws = [(q5, .inl (c 1, 5, .inr (.inl (fun _ => 0)))), (q4, .inl (c 1, 25, .inr (.inl (fun _ => 0)))), (q3, .inl (c 1, 5, .inr (.inl (fun _ => 0)))), (q2, .inl (c 0, 24, .inl (fun _ => 0))), (q1, .inl (c 0, 24, .inl (fun _ => 0))), (h0, .inr (1, [.int 0, .ref q1, .ref q2, .int 0, .ref q3, .ref q4, .ref q5, .long 0]))]) := by
  refine am_ofN (by decide) rfl (Nat.le_of_ble_eq_true rfl) ?_
  refine n_aload_n (pc := 0) 0 rfl dI1_0 rfl ?_
  refine n_obj (pc := 1) (tb_2 (List.mem_of_getElem? (i := 122) (by decide +kernel))) (Nat.le_of_ble_eq_true rfl) (Nat.le_of_ble_eq_true rfl) dI1_1 ?_
  refine n_aload_n (pc := 4) 0 rfl dI1_4 rfl ?_
  refine n_bipush (pc := 5) (v := 24) dI1_5 (by decide) ?_
  refine n_newa (pc := 7) (atype := .int) (N' := 24) (ty := .int) (cI := c 0) (a0 := (24, .inl (fun _ => 0))) (t0 := 0) rfl hu_int aw_int rfl (fun _ => rfl) (by decide) (by decide) (by decide) (Nat.le_of_ble_eq_true rfl) (Nat.le_of_ble_eq_true rfl) dI1_7 (fun q1 => ?_)
  refine n_put (pc := 9) (i := 1) (v := .ref q1) (f' := [(q1, .inl (c 0, 24, .inl (fun _ => 0))), (h0, .inr (1, [.int 0, .ref q1, .null, .int 0, .null, .null, .null, .long 0]))]) rfl fp_1_9 rfl rfl (Nat.le_of_ble_eq_true rfl) rfl dI1_9 ?_
  refine n_aload_n (pc := 12) 0 rfl dI1_12 rfl ?_
  refine n_bipush (pc := 13) (v := 24) dI1_13 (by decide) ?_
  refine n_newa (pc := 15) (atype := .int) (N' := 24) (ty := .int) (cI := c 0) (a0 := (24, .inl (fun _ => 0))) (t0 := 0) rfl hu_int aw_int rfl (fun _ => rfl) (by decide) (by decide) (by decide) (Nat.le_of_ble_eq_true rfl) (Nat.le_of_ble_eq_true rfl) dI1_15 (fun q2 => ?_)
  refine n_put (pc := 17) (i := 2) (v := .ref q2) (f' := [(q2, .inl (c 0, 24, .inl (fun _ => 0))), (q1, .inl (c 0, 24, .inl (fun _ => 0))), (h0, .inr (1, [.int 0, .ref q1, .ref q2, .int 0, .null, .null, .null, .long 0]))]) rfl fp_1_15 rfl rfl (Nat.le_of_ble_eq_true rfl) rfl dI1_17 ?_
  refine n_aload_n (pc := 20) 0 rfl dI1_20 rfl ?_
  refine n_iconst (pc := 21) (v := 5) dI1_21 (by decide) ?_
  refine n_newa (pc := 22) (atype := .long) (N' := 5) (ty := .long) (cI := c 1) (a0 := (5, .inr (.inl (fun _ => 0)))) (t0 := 1) rfl hu_long aw_long rfl (fun _ => rfl) (by decide) (by decide) (by decide) (Nat.le_of_ble_eq_true rfl) (Nat.le_of_ble_eq_true rfl) dI1_22 (fun q3 => ?_)
  refine n_put (pc := 24) (i := 3) (v := .ref q3) (f' := [(q3, .inl (c 1, 5, .inr (.inl (fun _ => 0)))), (q2, .inl (c 0, 24, .inl (fun _ => 0))), (q1, .inl (c 0, 24, .inl (fun _ => 0))), (h0, .inr (1, [.int 0, .ref q1, .ref q2, .int 0, .ref q3, .null, .null, .long 0]))]) rfl fp_1_18 rfl rfl (Nat.le_of_ble_eq_true rfl) rfl dI1_24 ?_
  refine n_aload_n (pc := 27) 0 rfl dI1_27 rfl ?_
  refine n_bipush (pc := 28) (v := 25) dI1_28 (by decide) ?_
  refine n_newa (pc := 30) (atype := .long) (N' := 25) (ty := .long) (cI := c 1) (a0 := (25, .inr (.inl (fun _ => 0)))) (t0 := 1) rfl hu_long aw_long rfl (fun _ => rfl) (by decide) (by decide) (by decide) (Nat.le_of_ble_eq_true rfl) (Nat.le_of_ble_eq_true rfl) dI1_30 (fun q4 => ?_)
  refine n_put (pc := 32) (i := 4) (v := .ref q4) (f' := [(q4, .inl (c 1, 25, .inr (.inl (fun _ => 0)))), (q3, .inl (c 1, 5, .inr (.inl (fun _ => 0)))), (q2, .inl (c 0, 24, .inl (fun _ => 0))), (q1, .inl (c 0, 24, .inl (fun _ => 0))), (h0, .inr (1, [.int 0, .ref q1, .ref q2, .int 0, .ref q3, .ref q4, .null, .long 0]))]) rfl fp_1_22 rfl rfl (Nat.le_of_ble_eq_true rfl) rfl dI1_32 ?_
  refine n_aload_n (pc := 35) 0 rfl dI1_35 rfl ?_
  refine n_iconst (pc := 36) (v := 5) dI1_36 (by decide) ?_
  refine n_newa (pc := 37) (atype := .long) (N' := 5) (ty := .long) (cI := c 1) (a0 := (5, .inr (.inl (fun _ => 0)))) (t0 := 1) rfl hu_long aw_long rfl (fun _ => rfl) (by decide) (by decide) (by decide) (Nat.le_of_ble_eq_true rfl) (Nat.le_of_ble_eq_true rfl) dI1_37 (fun q5 => ?_)
  refine n_put (pc := 39) (i := 5) (v := .ref q5) (f' := [(q5, .inl (c 1, 5, .inr (.inl (fun _ => 0)))), (q4, .inl (c 1, 25, .inr (.inl (fun _ => 0)))), (q3, .inl (c 1, 5, .inr (.inl (fun _ => 0)))), (q2, .inl (c 0, 24, .inl (fun _ => 0))), (q1, .inl (c 0, 24, .inl (fun _ => 0))), (h0, .inr (1, [.int 0, .ref q1, .ref q2, .int 0, .ref q3, .ref q4, .ref q5, .long 0]))]) rfl fp_1_25 rfl rfl (Nat.le_of_ble_eq_true rfl) rfl dI1_39 ?_
  exact n_ret (pc := 42) dI1_42 (Nat.le_refl _) (Nat.le_refl _) ⟨_, ⟨q1, q2, q3, q4, q5, rfl⟩, List.Perm.refl _⟩
theorem dI0_0 : decode cX0_init 0 = .ok (.aload_n 0, 1) := by decide +kernel
theorem dI0_1 : decode cX0_init 1 = .ok (.invokespecial 3, 3) := by decide +kernel
theorem dI0_4 : decode cX0_init 4 = .ok (.aload_n 0, 1) := by decide +kernel
theorem dI0_5 : decode cX0_init 5 = .ok (.bipush 48, 2) := by decide +kernel
theorem dI0_7 : decode cX0_init 7 = .ok (.newarray .int, 2) := by decide +kernel
theorem dI0_9 : decode cX0_init 9 = .ok (.putfield 9, 3) := by decide +kernel
theorem dI0_12 : decode cX0_init 12 = .ok (.aload_n 0, 1) := by decide +kernel
theorem dI0_13 : decode cX0_init 13 = .ok (.bipush 24, 2) := by decide +kernel
theorem dI0_15 : decode cX0_init 15 = .ok (.newarray .int, 2) := by decide +kernel
theorem dI0_17 : decode cX0_init 17 = .ok (.putfield 15, 3) := by decide +kernel
theorem dI0_20 : decode cX0_init 20 = .ok (.aload_n 0, 1) := by decide +kernel
theorem dI0_21 : decode cX0_init 21 = .ok (.bipush 48, 2) := by decide +kernel
theorem dI0_23 : decode cX0_init 23 = .ok (.newarray .int, 2) := by decide +kernel
theorem dI0_25 : decode cX0_init 25 = .ok (.putfield 18, 3) := by decide +kernel
theorem dI0_28 : decode cX0_init 28 = .ok (.aload_n 0, 1) := by decide +kernel
theorem dI0_29 : decode cX0_init 29 = .ok (.iconst (-1), 1) := by decide +kernel
theorem dI0_30 : decode cX0_init 30 = .ok (.putfield 21, 3) := by decide +kernel
theorem dI0_33 : decode cX0_init 33 = .ok (.aload_n 0, 1) := by decide +kernel
theorem dI0_34 : decode cX0_init 34 = .ok (.iconst (-1), 1) := by decide +kernel
theorem dI0_35 : decode cX0_init 35 = .ok (.putfield 25, 3) := by decide +kernel
theorem dI0_38 : decode cX0_init 38 = .ok (.aload_n 0, 1) := by decide +kernel
theorem dI0_39 : decode cX0_init 39 = .ok (.iconst (-1), 1) := by decide +kernel
theorem dI0_40 : decode cX0_init 40 = .ok (.putfield 28, 3) := by decide +kernel
theorem dI0_43 : decode cX0_init 43 = .ok (.return_, 1) := by decide +kernel
theorem cd_I0 : Cond.code yX0_init cX0_init 1 none ∈ lw_tbl := (tb_2 (List.mem_of_getElem? (i := 155) (by decide +kernel)))
theorem pd_I0 : (parseMethodDescriptor yX0_init.desc).map (fun d => d.parameters.length) = some 0 := by decide +kernel
theorem iw_I0 : Cond.instanceMethod yX0_init ∈ lw_tbl := (tb_2 (List.mem_of_getElem? (i := 154) (by decide +kernel)))
abbrev gm_I0 : am_M := (yX0_init, cX0_init, 1, none, 1)
theorem fp_0_9 : am_fp RX0 9 0 0 true (.array .int) := ⟨_, _, _, kd_0, by decide, (tb_2 (List.mem_of_getElem? (i := 157) (by decide +kernel))), rfl, rfl, rfl⟩
theorem fp_0_15 : am_fp RX0 15 0 1 true (.array .int) := ⟨_, _, _, kd_0, by decide, (tb_2 (List.mem_of_getElem? (i := 158) (by decide +kernel))), rfl, rfl, rfl⟩
theorem fp_0_18 : am_fp RX0 18 0 2 true (.array .int) := ⟨_, _, _, kd_0, by decide, (tb_2 (List.mem_of_getElem? (i := 159) (by decide +kernel))), rfl, rfl, rfl⟩
theorem fp_0_21 : am_fp RX0 21 0 7 false .int := ⟨_, _, _, kd_0, by decide, (tb_2 (List.mem_of_getElem? (i := 167) (by decide +kernel))), rfl, rfl, rfl⟩
theorem fp_0_25 : am_fp RX0 25 0 9 false .int := ⟨_, _, _, kd_0, by decide, (tb_2 (List.mem_of_getElem? (i := 171) (by decide +kernel))), rfl, rfl, rfl⟩
theorem fp_0_28 : am_fp RX0 28 0 13 false .int := ⟨_, _, _, kd_0, by decide, (tb_2 (List.mem_of_getElem? (i := 179) (by decide +kernel))), rfl, rfl, rfl⟩
set_option maxRecDepth 100000 in
set_option maxHeartbeats 4000000 in
theorem ci_0 (l : Launch) (D : va_G) (c : Nat → ClassId) (h0 : Nat) : am_NC (l, D, am_tz c) gm_I0 3 120 h0 (.inr (0, [.null, .null, .null, .int 0, .int 0, .int 0, .int 0, .int 0, .int 0, .int 0, .int 0, .int 0, .int 0, .int 0, .int 0, .int 0, .int 0])) (fun ws => ∃ q1 q2 q3 : Nat, ws = [(q3, .inl (c 0, 48, .inl (fun _ => 0))), (q2, .inl (c 0, 24, .inl (fun _ => 0))), (q1, .inl (c 0, 48, .inl (fun _ => 0))), (h0, .inr (0, [.ref q1, .ref q2, .ref q3, .int 0, .int 0, .int 0, .int 0, .int (-1), .int 0, .int (-1), .int 0, .int 0, .int 0, .int (-1), .int 0, .int 0, .int 0]))]) := by
  refine am_ofN (by decide) rfl (Nat.le_of_ble_eq_true rfl) ?_
  refine n_aload_n (pc := 0) 0 rfl dI0_0 rfl ?_
  refine n_obj (pc := 1) (tb_2 (List.mem_of_getElem? (i := 156) (by decide +kernel))) (Nat.le_of_ble_eq_true rfl) (Nat.le_of_ble_eq_true rfl) dI0_1 ?_
  refine n_aload_n (pc := 4) 0 rfl dI0_4 rfl ?_
  refine n_bipush (pc := 5) (v := 48) dI0_5 (by decide) ?_
  refine n_newa (pc := 7) (atype := .int) (N' := 48) (ty := .int) (cI := c 0) (a0 := (48, .inl (fun _ => 0))) (t0 := 0) rfl hu_int aw_int rfl (fun _ => rfl) (by decide) (by decide) (by decide) (Nat.le_of_ble_eq_true rfl) (Nat.le_of_ble_eq_true rfl) dI0_7 (fun q1 => ?_)
  refine n_put (pc := 9) (i := 1) (v := .ref q1) (f' := [(q1, .inl (c 0, 48, .inl (fun _ => 0))), (h0, .inr (0, [.ref q1, .null, .null, .int 0, .int 0, .int 0, .int 0, .int 0, .int 0, .int 0, .int 0, .int 0, .int 0, .int 0, .int 0, .int 0, .int 0]))]) rfl fp_0_9 rfl rfl (Nat.le_of_ble_eq_true rfl) rfl dI0_9 ?_
  refine n_aload_n (pc := 12) 0 rfl dI0_12 rfl ?_
  refine n_bipush (pc := 13) (v := 24) dI0_13 (by decide) ?_
  refine n_newa (pc := 15) (atype := .int) (N' := 24) (ty := .int) (cI := c 0) (a0 := (24, .inl (fun _ => 0))) (t0 := 0) rfl hu_int aw_int rfl (fun _ => rfl) (by decide) (by decide) (by decide) (Nat.le_of_ble_eq_true rfl) (Nat.le_of_ble_eq_true rfl) dI0_15 (fun q2 => ?_)
  refine n_put (pc := 17) (i := 2) (v := .ref q2) (f' := [(q2, .inl (c 0, 24, .inl (fun _ => 0))), (q1, .inl (c 0, 48, .inl (fun _ => 0))), (h0, .inr (0, [.ref q1, .ref q2, .null, .int 0, .int 0, .int 0, .int 0, .int 0, .int 0, .int 0, .int 0, .int 0, .int 0, .int 0, .int 0, .int 0, .int 0]))]) rfl fp_0_15 rfl rfl (Nat.le_of_ble_eq_true rfl) rfl dI0_17 ?_
  refine n_aload_n (pc := 20) 0 rfl dI0_20 rfl ?_
  refine n_bipush (pc := 21) (v := 48) dI0_21 (by decide) ?_
  refine n_newa (pc := 23) (atype := .int) (N' := 48) (ty := .int) (cI := c 0) (a0 := (48, .inl (fun _ => 0))) (t0 := 0) rfl hu_int aw_int rfl (fun _ => rfl) (by decide) (by decide) (by decide) (Nat.le_of_ble_eq_true rfl) (Nat.le_of_ble_eq_true rfl) dI0_23 (fun q3 => ?_)
  refine n_put (pc := 25) (i := 3) (v := .ref q3) (f' := [(q3, .inl (c 0, 48, .inl (fun _ => 0))), (q2, .inl (c 0, 24, .inl (fun _ => 0))), (q1, .inl (c 0, 48, .inl (fun _ => 0))), (h0, .inr (0, [.ref q1, .ref q2, .ref q3, .int 0, .int 0, .int 0, .int 0, .int 0, .int 0, .int 0, .int 0, .int 0, .int 0, .int 0, .int 0, .int 0, .int 0]))]) rfl fp_0_18 rfl rfl (Nat.le_of_ble_eq_true rfl) rfl dI0_25 ?_
  refine n_aload_n (pc := 28) 0 rfl dI0_28 rfl ?_
  refine n_iconst (pc := 29) (v := (-1)) dI0_29 (by decide) ?_
  refine n_put (pc := 30) (i := 3) (v := .int (-1)) (f' := [(q3, .inl (c 0, 48, .inl (fun _ => 0))), (q2, .inl (c 0, 24, .inl (fun _ => 0))), (q1, .inl (c 0, 48, .inl (fun _ => 0))), (h0, .inr (0, [.ref q1, .ref q2, .ref q3, .int 0, .int 0, .int 0, .int 0, .int (-1), .int 0, .int 0, .int 0, .int 0, .int 0, .int 0, .int 0, .int 0, .int 0]))]) rfl fp_0_21 rfl rfl (Nat.le_of_ble_eq_true rfl) rfl dI0_30 ?_
  refine n_aload_n (pc := 33) 0 rfl dI0_33 rfl ?_
  refine n_iconst (pc := 34) (v := (-1)) dI0_34 (by decide) ?_
  refine n_put (pc := 35) (i := 3) (v := .int (-1)) (f' := [(q3, .inl (c 0, 48, .inl (fun _ => 0))), (q2, .inl (c 0, 24, .inl (fun _ => 0))), (q1, .inl (c 0, 48, .inl (fun _ => 0))), (h0, .inr (0, [.ref q1, .ref q2, .ref q3, .int 0, .int 0, .int 0, .int 0, .int (-1), .int 0, .int (-1), .int 0, .int 0, .int 0, .int 0, .int 0, .int 0, .int 0]))]) rfl fp_0_25 rfl rfl (Nat.le_of_ble_eq_true rfl) rfl dI0_35 ?_
  refine n_aload_n (pc := 38) 0 rfl dI0_38 rfl ?_
  refine n_iconst (pc := 39) (v := (-1)) dI0_39 (by decide) ?_
  refine n_put (pc := 40) (i := 3) (v := .int (-1)) (f' := [(q3, .inl (c 0, 48, .inl (fun _ => 0))), (q2, .inl (c 0, 24, .inl (fun _ => 0))), (q1, .inl (c 0, 48, .inl (fun _ => 0))), (h0, .inr (0, [.ref q1, .ref q2, .ref q3, .int 0, .int 0, .int 0, .int 0, .int (-1), .int 0, .int (-1), .int 0, .int 0, .int 0, .int (-1), .int 0, .int 0, .int 0]))]) rfl fp_0_28 rfl rfl (Nat.le_of_ble_eq_true rfl) rfl dI0_40 ?_
  exact n_ret (pc := 43) dI0_43 (Nat.le_refl _) (Nat.le_refl _) ⟨_, ⟨q1, q2, q3, rfl⟩, List.Perm.refl _⟩
theorem dI2_0 : decode cX2_init 0 = .ok (.aload_n 0, 1) := by decide +kernel
theorem dI2_1 : decode cX2_init 1 = .ok (.invokespecial 3, 3) := by decide +kernel
theorem dI2_4 : decode cX2_init 4 = .ok (.aload_n 0, 1) := by decide +kernel
theorem dI2_5 : decode cX2_init 5 = .ok (.iconst (-1), 1) := by decide +kernel
theorem dI2_6 : decode cX2_init 6 = .ok (.putfield 9, 3) := by decide +kernel
theorem dI2_9 : decode cX2_init 9 = .ok (.aload_n 0, 1) := by decide +kernel
theorem dI2_10 : decode cX2_init 10 = .ok (.bipush 23, 2) := by decide +kernel
theorem dI2_12 : decode cX2_init 12 = .ok (.putfield 15, 3) := by decide +kernel
theorem dI2_15 : decode cX2_init 15 = .ok (.return_, 1) := by decide +kernel
theorem cd_I2 : Cond.code yX2_init cX2_init 1 none ∈ lw_tbl := (tb_2 (List.mem_of_getElem? (i := 226) (by decide +kernel)))
theorem pd_I2 : (parseMethodDescriptor yX2_init.desc).map (fun d => d.parameters.length) = some 0 := by decide +kernel
theorem iw_I2 : Cond.instanceMethod yX2_init ∈ lw_tbl := (tb_2 (List.mem_of_getElem? (i := 225) (by decide +kernel)))
abbrev gm_I2 : am_M := (yX2_init, cX2_init, 1, none, 1)
theorem fp_2_9 : am_fp RX2 9 2 4 false .int := ⟨_, _, _, kd_2, by decide, (tb_2 (List.mem_of_getElem? (i := 236) (by decide +kernel))), rfl, rfl, rfl⟩
theorem fp_2_15 : am_fp RX2 15 2 7 false .int := ⟨_, _, _, kd_2, by decide, (tb_3 (List.mem_of_getElem? (i := 2) (by decide +kernel))), rfl, rfl, rfl⟩
set_option maxRecDepth 100000 in
set_option maxHeartbeats 4000000 in
theorem ci_2 (l : Launch) (D : va_G) (c : Nat → ClassId) (h0 : Nat) : am_NC (l, D, am_tz c) gm_I2 0 0 h0 (.inr (2, [.int 0, .int 0, .int 0, .int 0, .int 0, .int 0, .int 0, .int 0])) (fun ws => ws = [(h0, .inr (2, [.int 0, .int 0, .int 0, .int 0, .int (-1), .int 0, .int 0, .int 23]))]) := by
  refine am_ofN (by decide) rfl (Nat.le_of_ble_eq_true rfl) ?_
  refine n_aload_n (pc := 0) 0 rfl dI2_0 rfl ?_
  refine n_obj (pc := 1) (tb_2 (List.mem_of_getElem? (i := 227) (by decide +kernel))) (Nat.le_of_ble_eq_true rfl) (Nat.le_of_ble_eq_true rfl) dI2_1 ?_
  refine n_aload_n (pc := 4) 0 rfl dI2_4 rfl ?_
  refine n_iconst (pc := 5) (v := (-1)) dI2_5 (by decide) ?_
  refine n_put (pc := 6) (i := 0) (v := .int (-1)) (f' := [(h0, .inr (2, [.int 0, .int 0, .int 0, .int 0, .int (-1), .int 0, .int 0, .int 0]))]) rfl fp_2_9 rfl rfl (Nat.le_of_ble_eq_true rfl) rfl dI2_6 ?_
  refine n_aload_n (pc := 9) 0 rfl dI2_9 rfl ?_
  refine n_bipush (pc := 10) (v := 23) dI2_10 (by decide) ?_
  refine n_put (pc := 12) (i := 0) (v := .int 23) (f' := [(h0, .inr (2, [.int 0, .int 0, .int 0, .int 0, .int (-1), .int 0, .int 0, .int 23]))]) rfl fp_2_15 rfl rfl (Nat.le_of_ble_eq_true rfl) rfl dI2_12 ?_
  exact n_ret (pc := 15) dI2_15 (Nat.le_refl _) (Nat.le_refl _) ⟨_, rfl, List.Perm.refl _⟩
theorem dI11_0 : decode cX11_init 0 = .ok (.aload_n 0, 1) := by decide +kernel
theorem dI11_1 : decode cX11_init 1 = .ok (.invokespecial 1, 3) := by decide +kernel
theorem dI11_4 : decode cX11_init 4 = .ok (.aload_n 0, 1) := by decide +kernel
theorem dI11_5 : decode cX11_init 5 = .ok (.iconst 0, 1) := by decide +kernel
theorem dI11_6 : decode cX11_init 6 = .ok (.putfield 9, 3) := by decide +kernel
theorem dI11_9 : decode cX11_init 9 = .ok (.aload_n 0, 1) := by decide +kernel
theorem dI11_10 : decode cX11_init 10 = .ok (.lconst 0, 1) := by decide +kernel
theorem dI11_11 : decode cX11_init 11 = .ok (.putfield 13, 3) := by decide +kernel
theorem dI11_14 : decode cX11_init 14 = .ok (.aload_n 0, 1) := by decide +kernel
theorem dI11_15 : decode cX11_init 15 = .ok (.lconst 1, 1) := by decide +kernel
theorem dI11_16 : decode cX11_init 16 = .ok (.putfield 17, 3) := by decide +kernel
theorem dI11_19 : decode cX11_init 19 = .ok (.aload_n 0, 1) := by decide +kernel
theorem dI11_20 : decode cX11_init 20 = .ok (.new 20, 3) := by decide +kernel
theorem dI11_23 : decode cX11_init 23 = .ok (.dup, 1) := by decide +kernel
theorem dI11_24 : decode cX11_init 24 = .ok (.invokespecial 22, 3) := by decide +kernel
theorem dI11_27 : decode cX11_init 27 = .ok (.putfield 23, 3) := by decide +kernel
theorem dI11_30 : decode cX11_init 30 = .ok (.aload_n 0, 1) := by decide +kernel
theorem dI11_31 : decode cX11_init 31 = .ok (.iconst 5, 1) := by decide +kernel
theorem dI11_32 : decode cX11_init 32 = .ok (.anewarray 27, 3) := by decide +kernel
theorem dI11_35 : decode cX11_init 35 = .ok (.putfield 29, 3) := by decide +kernel
theorem dI11_38 : decode cX11_init 38 = .ok (.iconst 0, 1) := by decide +kernel
theorem dI11_39 : decode cX11_init 39 = .ok (.istore_n 1, 1) := by decide +kernel
theorem dI11_40 : decode cX11_init 40 = .ok (.iload_n 1, 1) := by decide +kernel
theorem dI11_41 : decode cX11_init 41 = .ok (.iconst 5, 1) := by decide +kernel
theorem dI11_42 : decode cX11_init 42 = .ok (.if_icmp .ge 22, 3) := by decide +kernel
theorem dI11_45 : decode cX11_init 45 = .ok (.aload_n 0, 1) := by decide +kernel
theorem dI11_46 : decode cX11_init 46 = .ok (.getfield 29, 3) := by decide +kernel
theorem dI11_49 : decode cX11_init 49 = .ok (.iload_n 1, 1) := by decide +kernel
theorem dI11_50 : decode cX11_init 50 = .ok (.new 27, 3) := by decide +kernel
theorem dI11_53 : decode cX11_init 53 = .ok (.dup, 1) := by decide +kernel
theorem dI11_54 : decode cX11_init 54 = .ok (.invokespecial 33, 3) := by decide +kernel
theorem dI11_57 : decode cX11_init 57 = .ok (.aastore, 1) := by decide +kernel
theorem dI11_58 : decode cX11_init 58 = .ok (.iinc 1 1, 3) := by decide +kernel
theorem dI11_61 : decode cX11_init 61 = .ok (.goto (-21), 3) := by decide +kernel
theorem dI11_64 : decode cX11_init 64 = .ok (.aload_n 0, 1) := by decide +kernel
theorem dI11_65 : decode cX11_init 65 = .ok (.iconst 2, 1) := by decide +kernel
theorem dI11_66 : decode cX11_init 66 = .ok (.anewarray 34, 3) := by decide +kernel
theorem dI11_69 : decode cX11_init 69 = .ok (.putfield 36, 3) := by decide +kernel
theorem dI11_72 : decode cX11_init 72 = .ok (.aload_n 0, 1) := by decide +kernel
theorem dI11_73 : decode cX11_init 73 = .ok (.getfield 36, 3) := by decide +kernel
theorem dI11_76 : decode cX11_init 76 = .ok (.iconst 0, 1) := by decide +kernel
theorem dI11_77 : decode cX11_init 77 = .ok (.new 34, 3) := by decide +kernel
theorem dI11_80 : decode cX11_init 80 = .ok (.dup, 1) := by decide +kernel
theorem dI11_81 : decode cX11_init 81 = .ok (.invokespecial 40, 3) := by decide +kernel
theorem dI11_84 : decode cX11_init 84 = .ok (.aastore, 1) := by decide +kernel
theorem dI11_85 : decode cX11_init 85 = .ok (.aload_n 0, 1) := by decide +kernel
theorem dI11_86 : decode cX11_init 86 = .ok (.getfield 36, 3) := by decide +kernel
theorem dI11_89 : decode cX11_init 89 = .ok (.iconst 1, 1) := by decide +kernel
theorem dI11_90 : decode cX11_init 90 = .ok (.new 34, 3) := by decide +kernel
theorem dI11_93 : decode cX11_init 93 = .ok (.dup, 1) := by decide +kernel
theorem dI11_94 : decode cX11_init 94 = .ok (.invokespecial 40, 3) := by decide +kernel
theorem dI11_97 : decode cX11_init 97 = .ok (.aastore, 1) := by decide +kernel
theorem dI11_98 : decode cX11_init 98 = .ok (.aload_n 0, 1) := by decide +kernel
theorem dI11_99 : decode cX11_init 99 = .ok (.new 34, 3) := by decide +kernel
theorem dI11_102 : decode cX11_init 102 = .ok (.dup, 1) := by decide +kernel
theorem dI11_103 : decode cX11_init 103 = .ok (.invokespecial 40, 3) := by decide +kernel
theorem dI11_106 : decode cX11_init 106 = .ok (.putfield 41, 3) := by decide +kernel
theorem dI11_109 : decode cX11_init 109 = .ok (.aload_n 0, 1) := by decide +kernel
theorem dI11_110 : decode cX11_init 110 = .ok (.new 45, 3) := by decide +kernel
theorem dI11_113 : decode cX11_init 113 = .ok (.dup, 1) := by decide +kernel
theorem dI11_114 : decode cX11_init 114 = .ok (.invokespecial 47, 3) := by decide +kernel
theorem dI11_117 : decode cX11_init 117 = .ok (.putfield 48, 3) := by decide +kernel
theorem dI11_120 : decode cX11_init 120 = .ok (.aload_n 0, 1) := by decide +kernel
theorem dI11_121 : decode cX11_init 121 = .ok (.new 45, 3) := by decide +kernel
theorem dI11_124 : decode cX11_init 124 = .ok (.dup, 1) := by decide +kernel
theorem dI11_125 : decode cX11_init 125 = .ok (.invokespecial 47, 3) := by decide +kernel
theorem dI11_128 : decode cX11_init 128 = .ok (.putfield 52, 3) := by decide +kernel
theorem dI11_131 : decode cX11_init 131 = .ok (.aload_n 0, 1) := by decide +kernel
theorem dI11_132 : decode cX11_init 132 = .ok (.new 55, 3) := by decide +kernel
theorem dI11_135 : decode cX11_init 135 = .ok (.dup, 1) := by decide +kernel
theorem dI11_136 : decode cX11_init 136 = .ok (.invokespecial 57, 3) := by decide +kernel
theorem dI11_139 : decode cX11_init 139 = .ok (.putfield 58, 3) := by decide +kernel
theorem dI11_142 : decode cX11_init 142 = .ok (.aload_n 0, 1) := by decide +kernel
theorem dI11_143 : decode cX11_init 143 = .ok (.new 62, 3) := by decide +kernel
theorem dI11_146 : decode cX11_init 146 = .ok (.dup, 1) := by decide +kernel
theorem dI11_147 : decode cX11_init 147 = .ok (.invokespecial 64, 3) := by decide +kernel
theorem dI11_150 : decode cX11_init 150 = .ok (.putfield 65, 3) := by decide +kernel
theorem dI11_153 : decode cX11_init 153 = .ok (.aload_n 0, 1) := by decide +kernel
theorem dI11_154 : decode cX11_init 154 = .ok (.new 69, 3) := by decide +kernel
theorem dI11_157 : decode cX11_init 157 = .ok (.dup, 1) := by decide +kernel
theorem dI11_158 : decode cX11_init 158 = .ok (.invokespecial 71, 3) := by decide +kernel
theorem dI11_161 : decode cX11_init 161 = .ok (.putfield 72, 3) := by decide +kernel
theorem dI11_164 : decode cX11_init 164 = .ok (.aload_n 0, 1) := by decide +kernel
theorem dI11_165 : decode cX11_init 165 = .ok (.new 76, 3) := by decide +kernel
theorem dI11_168 : decode cX11_init 168 = .ok (.dup, 1) := by decide +kernel
theorem dI11_169 : decode cX11_init 169 = .ok (.invokespecial 78, 3) := by decide +kernel
theorem dI11_172 : decode cX11_init 172 = .ok (.putfield 79, 3) := by decide +kernel
theorem dI11_175 : decode cX11_init 175 = .ok (.aload_n 0, 1) := by decide +kernel
theorem dI11_176 : decode cX11_init 176 = .ok (.new 76, 3) := by decide +kernel
theorem dI11_179 : decode cX11_init 179 = .ok (.dup, 1) := by decide +kernel
theorem dI11_180 : decode cX11_init 180 = .ok (.invokespecial 78, 3) := by decide +kernel
theorem dI11_183 : decode cX11_init 183 = .ok (.putfield 83, 3) := by decide +kernel
theorem dI11_186 : decode cX11_init 186 = .ok (.aload_n 0, 1) := by decide +kernel
theorem dI11_187 : decode cX11_init 187 = .ok (.new 86, 3) := by decide +kernel
theorem dI11_190 : decode cX11_init 190 = .ok (.dup, 1) := by decide +kernel
theorem dI11_191 : decode cX11_init 191 = .ok (.invokespecial 88, 3) := by decide +kernel
theorem dI11_194 : decode cX11_init 194 = .ok (.putfield 89, 3) := by decide +kernel
theorem dI11_197 : decode cX11_init 197 = .ok (.aload_n 0, 1) := by decide +kernel
theorem dI11_198 : decode cX11_init 198 = .ok (.new 93, 3) := by decide +kernel
theorem dI11_201 : decode cX11_init 201 = .ok (.dup, 1) := by decide +kernel
theorem dI11_202 : decode cX11_init 202 = .ok (.invokespecial 95, 3) := by decide +kernel
theorem dI11_205 : decode cX11_init 205 = .ok (.putfield 96, 3) := by decide +kernel
theorem dI11_208 : decode cX11_init 208 = .ok (.return_, 1) := by decide +kernel
theorem cd_I11 : Cond.code yX11_init cX11_init 2 none ∈ lw_tbl := (tb_1 (List.mem_of_getElem? (i := 25) (by decide +kernel)))
theorem pd_I11 : (parseMethodDescriptor yX11_init.desc).map (fun d => d.parameters.length) = some 0 := by decide +kernel
theorem iw_I11 : Cond.instanceMethod yX11_init ∈ lw_tbl := (tb_1 (List.mem_of_getElem? (i := 24) (by decide +kernel)))
abbrev gm_I11 : am_M := (yX11_init, cX11_init, 2, none, 3)
theorem fp_11_9 : am_fp RX11 9 11 0 false .int := ⟨_, _, _, kd_11, by decide, (tb_3 (List.mem_of_getElem? (i := 21) (by decide +kernel))), rfl, rfl, rfl⟩
theorem fp_11_13 : am_fp RX11 13 11 1 false .long := ⟨_, _, _, kd_11, by decide, (tb_3 (List.mem_of_getElem? (i := 22) (by decide +kernel))), rfl, rfl, rfl⟩
theorem fp_11_17 : am_fp RX11 17 11 2 false .long := ⟨_, _, _, kd_11, by decide, (tb_3 (List.mem_of_getElem? (i := 23) (by decide +kernel))), rfl, rfl, rfl⟩
theorem fp_11_23 : am_fp RX11 23 11 3 true (.object "TideDiscs$Tokens") := ⟨_, _, _, kd_11, by decide, (tb_3 (List.mem_of_getElem? (i := 24) (by decide +kernel))), rfl, rfl, rfl⟩
theorem fp_11_29 : am_fp RX11 29 11 4 true (.array (.object "TideDiscs$Tray")) := ⟨_, _, _, kd_11, by decide, (tb_3 (List.mem_of_getElem? (i := 25) (by decide +kernel))), rfl, rfl, rfl⟩
theorem fp_11_36 : am_fp RX11 36 11 5 true (.array (.object "TideDiscs$Machine")) := ⟨_, _, _, kd_11, by decide, (tb_3 (List.mem_of_getElem? (i := 26) (by decide +kernel))), rfl, rfl, rfl⟩
theorem fp_11_41 : am_fp RX11 41 11 6 false (.object "TideDiscs$Machine") := ⟨_, _, _, kd_11, by decide, (tb_3 (List.mem_of_getElem? (i := 27) (by decide +kernel))), rfl, rfl, rfl⟩
theorem fp_11_48 : am_fp RX11 48 11 7 false (.object "TideDiscs$Orders") := ⟨_, _, _, kd_11, by decide, (tb_3 (List.mem_of_getElem? (i := 28) (by decide +kernel))), rfl, rfl, rfl⟩
theorem fp_11_52 : am_fp RX11 52 11 8 false (.object "TideDiscs$Orders") := ⟨_, _, _, kd_11, by decide, (tb_3 (List.mem_of_getElem? (i := 29) (by decide +kernel))), rfl, rfl, rfl⟩
theorem fp_11_58 : am_fp RX11 58 11 9 true (.object "TideDiscs$Walk") := ⟨_, _, _, kd_11, by decide, (tb_3 (List.mem_of_getElem? (i := 30) (by decide +kernel))), rfl, rfl, rfl⟩
theorem fp_11_65 : am_fp RX11 65 11 10 true (.object "TideDiscs$Trains") := ⟨_, _, _, kd_11, by decide, (tb_3 (List.mem_of_getElem? (i := 31) (by decide +kernel))), rfl, rfl, rfl⟩
theorem fp_11_72 : am_fp RX11 72 11 11 true (.object "TideDiscs$Trading") := ⟨_, _, _, kd_11, by decide, (tb_3 (List.mem_of_getElem? (i := 32) (by decide +kernel))), rfl, rfl, rfl⟩
theorem fp_11_79 : am_fp RX11 79 11 12 true (.object "TideDiscs$Gauge") := ⟨_, _, _, kd_11, by decide, (tb_3 (List.mem_of_getElem? (i := 33) (by decide +kernel))), rfl, rfl, rfl⟩
theorem fp_11_83 : am_fp RX11 83 11 13 true (.object "TideDiscs$Gauge") := ⟨_, _, _, kd_11, by decide, (tb_3 (List.mem_of_getElem? (i := 34) (by decide +kernel))), rfl, rfl, rfl⟩
theorem fp_11_89 : am_fp RX11 89 11 14 true (.object "TideDiscs$Findings") := ⟨_, _, _, kd_11, by decide, (tb_3 (List.mem_of_getElem? (i := 35) (by decide +kernel))), rfl, rfl, rfl⟩
theorem fp_11_96 : am_fp RX11 96 11 15 true (.object "TideDiscs$Landing") := ⟨_, _, _, kd_11, by decide, (tb_3 (List.mem_of_getElem? (i := 36) (by decide +kernel))), rfl, rfl, rfl⟩
set_option maxRecDepth 100000 in
set_option maxHeartbeats 4000000 in
theorem ci_11 (l : Launch) (D : va_G) (c : Nat → ClassId) (h0 : Nat) : am_NC (l, D, am_tz c) gm_I11 104 2735 h0 (.inr (11, [.int 0, .long 0, .long 0, .null, .null, .null, .null, .null, .null, .null, .null, .null, .null, .null, .null, .null])) (fun ws => ∃ q1 q2 q3 q4 q5 q6 q7 q8 q9 q10 q11 q12 q13 q14 q15 q16 q17 q18 q19 q20 q21 q22 q23 q24 q25 q26 q27 q28 q29 q30 q31 q32 q33 q34 q35 q36 q37 q38 q39 q40 q41 q42 q43 q44 q45 q46 q47 q48 q49 q50 q51 q52 q53 q54 q55 q56 q57 q58 q59 q60 q61 q62 q63 q64 q65 q66 q67 q68 q69 q70 q71 q72 q73 q74 q75 q76 q77 q78 q79 q80 q81 q82 q83 q84 q85 q86 q87 q88 q89 q90 q91 q92 q93 q94 q95 q96 q97 q98 q99 q100 q101 q102 q103 q104 : Nat, ws = [(q14, .inl (c 5, 2, .inr (.inr (.inr (.inr (va_up (va_up (fun _ => none) 0 (some q15)) 1 (some q31))))))), (q3, .inl (c 4, 5, .inr (.inr (.inr (.inr (va_up (va_up (va_up (va_up (va_up (fun _ => none) 0 (some q4)) 1 (some q6)) 2 (some q8)) 3 (some q10)) 4 (some q12))))))), (h0, .inr (11, [.int 0, .long 0, .long 1, .ref q1, .ref q3, .ref q14, .ref q47, .ref q63, .ref q69, .ref q75, .ref q78, .ref q86, .ref q88, .ref q94, .ref q100, .ref q104])), (q104, .inr (2, [.int 0, .int 0, .int 0, .int 0, .int (-1), .int 0, .int 0, .int 23])), (q103, .inl (c 0, 48, .inl (fun _ => 0))), (q102, .inl (c 0, 24, .inl (fun _ => 0))), (q101, .inl (c 0, 48, .inl (fun _ => 0))), (q100, .inr (0, [.ref q101, .ref q102, .ref q103, .int 0, .int 0, .int 0, .int 0, .int (-1), .int 0, .int (-1), .int 0, .int 0, .int 0, .int (-1), .int 0, .int 0, .int 0])), (q99, .inl (c 1, 5, .inr (.inl (fun _ => 0)))), (q98, .inl (c 1, 25, .inr (.inl (fun _ => 0)))), (q97, .inl (c 1, 5, .inr (.inl (fun _ => 0)))), (q96, .inl (c 0, 24, .inl (fun _ => 0))), (q95, .inl (c 0, 24, .inl (fun _ => 0))), (q94, .inr (1, [.int 0, .ref q95, .ref q96, .int 0, .ref q97, .ref q98, .ref q99, .long 0])), (q93, .inl (c 1, 5, .inr (.inl (fun _ => 0)))), (q92, .inl (c 1, 25, .inr (.inl (fun _ => 0)))), (q91, .inl (c 1, 5, .inr (.inl (fun _ => 0)))), (q90, .inl (c 0, 24, .inl (fun _ => 0))), (q89, .inl (c 0, 24, .inl (fun _ => 0))), (q88, .inr (1, [.int 0, .ref q89, .ref q90, .int 0, .ref q91, .ref q92, .ref q93, .long 0])), (q87, .inl (c 0, 4, .inl (fun _ => 0))), (q86, .inr (6, [.int 0, .long 0, .long 0, .int 0, .ref q87])), (q85, .inl (c 0, 6, .inl (fun _ => 0))), (q84, .inl (c 0, 4, .inl (fun _ => 0))), (q83, .inl (c 0, 4, .inl (fun _ => 0))), (q82, .inl (c 3, 300, .inl (fun _ => 0))), (q81, .inl (c 0, 6, .inl (fun _ => 0))), (q80, .inl (c 0, 6, .inl (fun _ => 0))), (q79, .inl (c 0, 10, .inl (fun _ => 0))), (q78, .inr (7, [.null, .null, .int 0, .ref q79, .ref q80, .ref q81, .ref q82, .ref q83, .int 0, .long 0, .long 0, .ref q84, .int 0, .ref q85, .int 0])), (q77, .inl (c 0, 30, .inl (fun _ => 0))), (q76, .inl (c 0, 80, .inl (fun _ => 0))), (q75, .inr (9, [.null, .null, .int 0, .int 0, .ref q76, .int 0, .int 0, .int 0, .long 0, .int 0, .ref q77, .int 0])), (q74, .inl (c 0, 3, .inl (fun _ => 0))), (q73, .inl (c 0, 80, .inl (fun _ => 0))), (q72, .inl (c 0, 80, .inl (fun _ => 0))), (q71, .inl (c 0, 80, .inl (fun _ => 0))), (q70, .inl (c 0, 80, .inl (fun _ => 0))), (q69, .inr (4, [.ref q70, .ref q71, .ref q72, .ref q73, .int 0, .int 0, .ref q74, .int 0])), (q68, .inl (c 0, 3, .inl (fun _ => 0))), (q67, .inl (c 0, 80, .inl (fun _ => 0))), (q66, .inl (c 0, 80, .inl (fun _ => 0))), (q65, .inl (c 0, 80, .inl (fun _ => 0))), (q64, .inl (c 0, 80, .inl (fun _ => 0))), (q63, .inr (4, [.ref q64, .ref q65, .ref q66, .ref q67, .int 0, .int 0, .ref q68, .int 0])), (q50, .inl (c 6, 6, .inr (.inr (.inr (.inr (va_up (va_up (va_up (va_up (va_up (va_up (fun _ => none) 0 (some q51)) 1 (some q53)) 2 (some q55)) 3 (some q57)) 4 (some q59)) 5 (some q61))))))), (q49, .inl (c 0, 10, .inl (fun _ => 0))), (q48, .inl (c 0, 10, .inl (fun _ => 0))), (q47, .inr (3, [.ref q50, .int 0, .ref q48, .ref q49, .int 0, .int (-1), .int (-1)])), (q62, .inl (c 0, 4, .inl (upd (upd (upd (upd (fun _ => 0) 0 1) 1 1) 2 1) 3 1))), (q61, .inr (10, [.long 0, .int 1, .int 1, .int 0, .int 0, .int 0, .ref q62, .long 1, .long 1])), (q60, .inl (c 0, 4, .inl (upd (upd (upd (upd (fun _ => 0) 0 1) 1 1) 2 1) 3 1))), (q59, .inr (10, [.long 0, .int 1, .int 1, .int 0, .int 0, .int 0, .ref q60, .long 1, .long 1])), (q58, .inl (c 0, 4, .inl (upd (upd (upd (upd (fun _ => 0) 0 1) 1 1) 2 1) 3 1))), (q57, .inr (10, [.long 0, .int 1, .int 1, .int 0, .int 0, .int 0, .ref q58, .long 1, .long 1])), (q56, .inl (c 0, 4, .inl (upd (upd (upd (upd (fun _ => 0) 0 1) 1 1) 2 1) 3 1))), (q55, .inr (10, [.long 0, .int 1, .int 1, .int 0, .int 0, .int 0, .ref q56, .long 1, .long 1])), (q54, .inl (c 0, 4, .inl (upd (upd (upd (upd (fun _ => 0) 0 1) 1 1) 2 1) 3 1))), (q53, .inr (10, [.long 0, .int 1, .int 1, .int 0, .int 0, .int 0, .ref q54, .long 1, .long 1])), (q52, .inl (c 0, 4, .inl (upd (upd (upd (upd (fun _ => 0) 0 1) 1 1) 2 1) 3 1))), (q51, .inr (10, [.long 0, .int 1, .int 1, .int 0, .int 0, .int 0, .ref q52, .long 1, .long 1])), (q34, .inl (c 6, 6, .inr (.inr (.inr (.inr (va_up (va_up (va_up (va_up (va_up (va_up (fun _ => none) 0 (some q35)) 1 (some q37)) 2 (some q39)) 3 (some q41)) 4 (some q43)) 5 (some q45))))))), (q33, .inl (c 0, 10, .inl (fun _ => 0))), (q32, .inl (c 0, 10, .inl (fun _ => 0))), (q31, .inr (3, [.ref q34, .int 0, .ref q32, .ref q33, .int 0, .int (-1), .int (-1)])), (q46, .inl (c 0, 4, .inl (upd (upd (upd (upd (fun _ => 0) 0 1) 1 1) 2 1) 3 1))), (q45, .inr (10, [.long 0, .int 1, .int 1, .int 0, .int 0, .int 0, .ref q46, .long 1, .long 1])), (q44, .inl (c 0, 4, .inl (upd (upd (upd (upd (fun _ => 0) 0 1) 1 1) 2 1) 3 1))), (q43, .inr (10, [.long 0, .int 1, .int 1, .int 0, .int 0, .int 0, .ref q44, .long 1, .long 1])), (q42, .inl (c 0, 4, .inl (upd (upd (upd (upd (fun _ => 0) 0 1) 1 1) 2 1) 3 1))), (q41, .inr (10, [.long 0, .int 1, .int 1, .int 0, .int 0, .int 0, .ref q42, .long 1, .long 1])), (q40, .inl (c 0, 4, .inl (upd (upd (upd (upd (fun _ => 0) 0 1) 1 1) 2 1) 3 1))), (q39, .inr (10, [.long 0, .int 1, .int 1, .int 0, .int 0, .int 0, .ref q40, .long 1, .long 1])), (q38, .inl (c 0, 4, .inl (upd (upd (upd (upd (fun _ => 0) 0 1) 1 1) 2 1) 3 1))), (q37, .inr (10, [.long 0, .int 1, .int 1, .int 0, .int 0, .int 0, .ref q38, .long 1, .long 1])), (q36, .inl (c 0, 4, .inl (upd (upd (upd (upd (fun _ => 0) 0 1) 1 1) 2 1) 3 1))), (q35, .inr (10, [.long 0, .int 1, .int 1, .int 0, .int 0, .int 0, .ref q36, .long 1, .long 1])), (q18, .inl (c 6, 6, .inr (.inr (.inr (.inr (va_up (va_up (va_up (va_up (va_up (va_up (fun _ => none) 0 (some q19)) 1 (some q21)) 2 (some q23)) 3 (some q25)) 4 (some q27)) 5 (some q29))))))), (q17, .inl (c 0, 10, .inl (fun _ => 0))), (q16, .inl (c 0, 10, .inl (fun _ => 0))), (q15, .inr (3, [.ref q18, .int 0, .ref q16, .ref q17, .int 0, .int (-1), .int (-1)])), (q30, .inl (c 0, 4, .inl (upd (upd (upd (upd (fun _ => 0) 0 1) 1 1) 2 1) 3 1))), (q29, .inr (10, [.long 0, .int 1, .int 1, .int 0, .int 0, .int 0, .ref q30, .long 1, .long 1])), (q28, .inl (c 0, 4, .inl (upd (upd (upd (upd (fun _ => 0) 0 1) 1 1) 2 1) 3 1))), (q27, .inr (10, [.long 0, .int 1, .int 1, .int 0, .int 0, .int 0, .ref q28, .long 1, .long 1])), (q26, .inl (c 0, 4, .inl (upd (upd (upd (upd (fun _ => 0) 0 1) 1 1) 2 1) 3 1))), (q25, .inr (10, [.long 0, .int 1, .int 1, .int 0, .int 0, .int 0, .ref q26, .long 1, .long 1])), (q24, .inl (c 0, 4, .inl (upd (upd (upd (upd (fun _ => 0) 0 1) 1 1) 2 1) 3 1))), (q23, .inr (10, [.long 0, .int 1, .int 1, .int 0, .int 0, .int 0, .ref q24, .long 1, .long 1])), (q22, .inl (c 0, 4, .inl (upd (upd (upd (upd (fun _ => 0) 0 1) 1 1) 2 1) 3 1))), (q21, .inr (10, [.long 0, .int 1, .int 1, .int 0, .int 0, .int 0, .ref q22, .long 1, .long 1])), (q20, .inl (c 0, 4, .inl (upd (upd (upd (upd (fun _ => 0) 0 1) 1 1) 2 1) 3 1))), (q19, .inr (10, [.long 0, .int 1, .int 1, .int 0, .int 0, .int 0, .ref q20, .long 1, .long 1])), (q13, .inl (c 1, 60, .inr (.inl (fun _ => 0)))), (q12, .inr (8, [.int (-1), .int 0, .ref q13])), (q11, .inl (c 1, 60, .inr (.inl (fun _ => 0)))), (q10, .inr (8, [.int (-1), .int 0, .ref q11])), (q9, .inl (c 1, 60, .inr (.inl (fun _ => 0)))), (q8, .inr (8, [.int (-1), .int 0, .ref q9])), (q7, .inl (c 1, 60, .inr (.inl (fun _ => 0)))), (q6, .inr (8, [.int (-1), .int 0, .ref q7])), (q5, .inl (c 1, 60, .inr (.inl (fun _ => 0)))), (q4, .inr (8, [.int (-1), .int 0, .ref q5])), (q2, .inl (c 2, 600, .inl (fun _ => 0))), (q1, .inr (5, [.ref q2, .int 0, .int 0, .int 0, .int 0, .int 0, .int 0, .int (-1), .int (-1)]))]) := by
  refine am_ofN (by decide) rfl (Nat.le_of_ble_eq_true rfl) ?_
  refine n_aload_n (pc := 0) 0 rfl dI11_0 rfl ?_
  refine n_obj (pc := 1) (tb_1 (List.mem_of_getElem? (i := 26) (by decide +kernel))) (Nat.le_of_ble_eq_true rfl) (Nat.le_of_ble_eq_true rfl) dI11_1 ?_
  refine n_aload_n (pc := 4) 0 rfl dI11_4 rfl ?_
  refine n_iconst (pc := 5) (v := 0) dI11_5 (by decide) ?_
  refine n_put (pc := 6) (i := 0) (v := .int 0) (f' := [(h0, .inr (11, [.int 0, .long 0, .long 0, .null, .null, .null, .null, .null, .null, .null, .null, .null, .null, .null, .null, .null]))]) rfl fp_11_9 rfl rfl (Nat.le_of_ble_eq_true rfl) rfl dI11_6 ?_
  refine n_aload_n (pc := 9) 0 rfl dI11_9 rfl ?_
  refine n_lconst (pc := 10) (v := 0) dI11_10 (by decide) ?_
  refine n_put (pc := 11) (i := 0) (v := .long 0) (f' := [(h0, .inr (11, [.int 0, .long 0, .long 0, .null, .null, .null, .null, .null, .null, .null, .null, .null, .null, .null, .null, .null]))]) rfl fp_11_13 rfl rfl (Nat.le_of_ble_eq_true rfl) rfl dI11_11 ?_
  refine n_aload_n (pc := 14) 0 rfl dI11_14 rfl ?_
  refine n_lconst (pc := 15) (v := 1) dI11_15 (by decide) ?_
  refine n_put (pc := 16) (i := 0) (v := .long 1) (f' := [(h0, .inr (11, [.int 0, .long 0, .long 1, .null, .null, .null, .null, .null, .null, .null, .null, .null, .null, .null, .null, .null]))]) rfl fp_11_17 rfl rfl (Nat.le_of_ble_eq_true rfl) rfl dI11_16 ?_
  refine n_aload_n (pc := 19) 0 rfl dI11_19 rfl ?_
  refine n_new (pc := 20) (fs := [.null, .int 0, .int 0, .int 0, .int 0, .int 0, .int 0, .int 0, .int 0]) kd_5 (tb_1 (List.mem_of_getElem? (i := 29) (by decide +kernel))) (tb_1 (List.mem_of_getElem? (i := 30) (by decide +kernel))) (tb_1 (List.mem_of_getElem? (i := 2) (by decide +kernel))) rfl (Nat.le_of_ble_eq_true rfl) (Nat.le_of_ble_eq_true rfl) dI11_20 (fun q1 => ?_)
  refine n_dup (pc := 23) dI11_23 rfl ?_
  refine n_init (pc := 24) (f0 := [(h0, .inr (11, [.int 0, .long 0, .long 1, .null, .null, .null, .null, .null, .null, .null, .null, .null, .null, .null, .null, .null]))]) (ci_5 l D c q1) rfl cd_I5 ini_RX5 nh_RX5 pd_I5 (Nat.le_of_ble_eq_true rfl) rfl iw_I5 (Or.inr ⟨"TideDiscs", (tb_1 (List.mem_of_getElem? (i := 31) (by decide +kernel)))⟩) (Nat.le_of_ble_eq_true rfl) (Nat.le_of_ble_eq_true rfl) (Nat.le_of_ble_eq_true rfl) (Nat.le_of_ble_eq_true rfl) dI11_24 ?_
  intro w1 hQ
  obtain ⟨q2, rfl⟩ := hQ
  refine n_put (pc := 27) (i := 0) (v := .ref q1) (f' := [(h0, .inr (11, [.int 0, .long 0, .long 1, .ref q1, .null, .null, .null, .null, .null, .null, .null, .null, .null, .null, .null, .null]))]) rfl fp_11_23 rfl rfl (Nat.le_of_ble_eq_true rfl) rfl dI11_27 ?_
  refine n_aload_n (pc := 30) 0 rfl dI11_30 rfl ?_
  refine n_iconst (pc := 31) (v := 5) dI11_31 (by decide) ?_
  refine n_newq (pc := 32) (N' := 5) (cI := c 4) (t0 := 4) (C := RX8) rfl (tb_1 (List.mem_of_getElem? (i := 69) (by decide +kernel))) oa_8 (by decide) (by decide) (by decide) (Nat.le_of_ble_eq_true rfl) (Nat.le_of_ble_eq_true rfl) dI11_32 (fun q3 => ?_)
  refine n_put (pc := 35) (i := 1) (v := .ref q3) (f' := [(q3, .inl (c 4, 5, .inr (.inr (.inr (.inr (fun _ => none)))))), (h0, .inr (11, [.int 0, .long 0, .long 1, .ref q1, .ref q3, .null, .null, .null, .null, .null, .null, .null, .null, .null, .null, .null]))]) rfl fp_11_29 rfl rfl (Nat.le_of_ble_eq_true rfl) rfl dI11_35 ?_
  refine n_iconst (pc := 38) (v := 0) dI11_38 (by decide) ?_
  refine n_istore_n (pc := 39) [(1, .int 0), (0, .ref h0)] dI11_39 rfl (Nat.le_of_ble_eq_true rfl) rfl ?_
  refine n_iload_n (pc := 40) 0 rfl dI11_40 rfl ?_
  refine n_iconst (pc := 41) (v := 5) dI11_41 (by decide) ?_
  refine n_geF (pc := 42) 64 (by decide) dI11_42 rfl ?_
  refine n_aload_n (pc := 45) 1 rfl dI11_45 rfl ?_
  refine n_get (pc := 46) (i := 1) (v := .ref q3) rfl fp_11_29 rfl dI11_46 ?_
  refine n_iload_n (pc := 49) 0 rfl dI11_49 rfl ?_
  refine n_new (pc := 50) (fs := [.int 0, .int 0, .null]) kd_8 (tb_1 (List.mem_of_getElem? (i := 69) (by decide +kernel))) (tb_1 (List.mem_of_getElem? (i := 71) (by decide +kernel))) (tb_1 (List.mem_of_getElem? (i := 3) (by decide +kernel))) rfl (Nat.le_of_ble_eq_true rfl) (Nat.le_of_ble_eq_true rfl) dI11_50 (fun q4 => ?_)
  refine n_dup (pc := 53) dI11_53 rfl ?_
  refine n_init (pc := 54) (f0 := [(q3, .inl (c 4, 5, .inr (.inr (.inr (.inr (fun _ => none)))))), (h0, .inr (11, [.int 0, .long 0, .long 1, .ref q1, .ref q3, .null, .null, .null, .null, .null, .null, .null, .null, .null, .null, .null]))]) (ci_8 l D c q4) rfl cd_I8 ini_RX8 nh_RX8 pd_I8 (Nat.le_of_ble_eq_true rfl) rfl iw_I8 (Or.inr ⟨"TideDiscs", (tb_1 (List.mem_of_getElem? (i := 72) (by decide +kernel)))⟩) (Nat.le_of_ble_eq_true rfl) (Nat.le_of_ble_eq_true rfl) (Nat.le_of_ble_eq_true rfl) (Nat.le_of_ble_eq_true rfl) dI11_54 ?_
  intro w1 hQ
  obtain ⟨q5, rfl⟩ := hQ
  refine n_aast (pc := 57) (i := 0) (t0 := 4) (ci := 8) (rc := (RX8, TX8, 3)) (f' := [(q3, .inl (c 4, 5, .inr (.inr (.inr (.inr (va_up (fun _ => none) 0 (some q4))))))), (h0, .inr (11, [.int 0, .long 0, .long 1, .ref q1, .ref q3, .null, .null, .null, .null, .null, .null, .null, .null, .null, .null, .null]))]) rfl rfl (List.mem_append_right _ (List.mem_append_left _ (List.mem_of_getElem? (i := 1) rfl))) rfl (by unfold vp_in; decide) rfl dI11_57 ?_
  refine n_iinc (pc := 58) (v := 1) 0 [(1, .int 1), (0, .ref h0)] dI11_58 rfl (by decide) (Nat.le_of_ble_eq_true rfl) rfl ?_
  refine n_goto (pc := 61) 40 dI11_61 rfl ?_
  refine n_iload_n (pc := 40) 0 rfl dI11_40 rfl ?_
  refine n_iconst (pc := 41) (v := 5) dI11_41 (by decide) ?_
  refine n_geF (pc := 42) 64 (by decide) dI11_42 rfl ?_
  refine n_aload_n (pc := 45) 1 rfl dI11_45 rfl ?_
  refine n_get (pc := 46) (i := 1) (v := .ref q3) rfl fp_11_29 rfl dI11_46 ?_
  refine n_iload_n (pc := 49) 0 rfl dI11_49 rfl ?_
  refine n_new (pc := 50) (fs := [.int 0, .int 0, .null]) kd_8 (tb_1 (List.mem_of_getElem? (i := 69) (by decide +kernel))) (tb_1 (List.mem_of_getElem? (i := 71) (by decide +kernel))) (tb_1 (List.mem_of_getElem? (i := 3) (by decide +kernel))) rfl (Nat.le_of_ble_eq_true rfl) (Nat.le_of_ble_eq_true rfl) dI11_50 (fun q6 => ?_)
  refine n_dup (pc := 53) dI11_53 rfl ?_
  refine n_init (pc := 54) (f0 := [(q3, .inl (c 4, 5, .inr (.inr (.inr (.inr (va_up (fun _ => none) 0 (some q4))))))), (h0, .inr (11, [.int 0, .long 0, .long 1, .ref q1, .ref q3, .null, .null, .null, .null, .null, .null, .null, .null, .null, .null, .null]))]) (ci_8 l D c q6) rfl cd_I8 ini_RX8 nh_RX8 pd_I8 (Nat.le_of_ble_eq_true rfl) rfl iw_I8 (Or.inr ⟨"TideDiscs", (tb_1 (List.mem_of_getElem? (i := 72) (by decide +kernel)))⟩) (Nat.le_of_ble_eq_true rfl) (Nat.le_of_ble_eq_true rfl) (Nat.le_of_ble_eq_true rfl) (Nat.le_of_ble_eq_true rfl) dI11_54 ?_
  intro w1 hQ
  obtain ⟨q7, rfl⟩ := hQ
  refine n_aast (pc := 57) (i := 0) (t0 := 4) (ci := 8) (rc := (RX8, TX8, 3)) (f' := [(q3, .inl (c 4, 5, .inr (.inr (.inr (.inr (va_up (va_up (fun _ => none) 0 (some q4)) 1 (some q6))))))), (h0, .inr (11, [.int 0, .long 0, .long 1, .ref q1, .ref q3, .null, .null, .null, .null, .null, .null, .null, .null, .null, .null, .null]))]) rfl rfl (List.mem_append_right _ (List.mem_append_left _ (List.mem_of_getElem? (i := 1) rfl))) rfl (by unfold vp_in; decide) rfl dI11_57 ?_
  refine n_iinc (pc := 58) (v := 2) 0 [(1, .int 2), (0, .ref h0)] dI11_58 rfl (by decide) (Nat.le_of_ble_eq_true rfl) rfl ?_
  refine n_goto (pc := 61) 40 dI11_61 rfl ?_
  refine n_iload_n (pc := 40) 0 rfl dI11_40 rfl ?_
  refine n_iconst (pc := 41) (v := 5) dI11_41 (by decide) ?_
  refine n_geF (pc := 42) 64 (by decide) dI11_42 rfl ?_
  refine n_aload_n (pc := 45) 1 rfl dI11_45 rfl ?_
  refine n_get (pc := 46) (i := 1) (v := .ref q3) rfl fp_11_29 rfl dI11_46 ?_
  refine n_iload_n (pc := 49) 0 rfl dI11_49 rfl ?_
  refine n_new (pc := 50) (fs := [.int 0, .int 0, .null]) kd_8 (tb_1 (List.mem_of_getElem? (i := 69) (by decide +kernel))) (tb_1 (List.mem_of_getElem? (i := 71) (by decide +kernel))) (tb_1 (List.mem_of_getElem? (i := 3) (by decide +kernel))) rfl (Nat.le_of_ble_eq_true rfl) (Nat.le_of_ble_eq_true rfl) dI11_50 (fun q8 => ?_)
  refine n_dup (pc := 53) dI11_53 rfl ?_
  refine n_init (pc := 54) (f0 := [(q3, .inl (c 4, 5, .inr (.inr (.inr (.inr (va_up (va_up (fun _ => none) 0 (some q4)) 1 (some q6))))))), (h0, .inr (11, [.int 0, .long 0, .long 1, .ref q1, .ref q3, .null, .null, .null, .null, .null, .null, .null, .null, .null, .null, .null]))]) (ci_8 l D c q8) rfl cd_I8 ini_RX8 nh_RX8 pd_I8 (Nat.le_of_ble_eq_true rfl) rfl iw_I8 (Or.inr ⟨"TideDiscs", (tb_1 (List.mem_of_getElem? (i := 72) (by decide +kernel)))⟩) (Nat.le_of_ble_eq_true rfl) (Nat.le_of_ble_eq_true rfl) (Nat.le_of_ble_eq_true rfl) (Nat.le_of_ble_eq_true rfl) dI11_54 ?_
  intro w1 hQ
  obtain ⟨q9, rfl⟩ := hQ
  refine n_aast (pc := 57) (i := 0) (t0 := 4) (ci := 8) (rc := (RX8, TX8, 3)) (f' := [(q3, .inl (c 4, 5, .inr (.inr (.inr (.inr (va_up (va_up (va_up (fun _ => none) 0 (some q4)) 1 (some q6)) 2 (some q8))))))), (h0, .inr (11, [.int 0, .long 0, .long 1, .ref q1, .ref q3, .null, .null, .null, .null, .null, .null, .null, .null, .null, .null, .null]))]) rfl rfl (List.mem_append_right _ (List.mem_append_left _ (List.mem_of_getElem? (i := 1) rfl))) rfl (by unfold vp_in; decide) rfl dI11_57 ?_
  refine n_iinc (pc := 58) (v := 3) 0 [(1, .int 3), (0, .ref h0)] dI11_58 rfl (by decide) (Nat.le_of_ble_eq_true rfl) rfl ?_
  refine n_goto (pc := 61) 40 dI11_61 rfl ?_
  refine n_iload_n (pc := 40) 0 rfl dI11_40 rfl ?_
  refine n_iconst (pc := 41) (v := 5) dI11_41 (by decide) ?_
  refine n_geF (pc := 42) 64 (by decide) dI11_42 rfl ?_
  refine n_aload_n (pc := 45) 1 rfl dI11_45 rfl ?_
  refine n_get (pc := 46) (i := 1) (v := .ref q3) rfl fp_11_29 rfl dI11_46 ?_
  refine n_iload_n (pc := 49) 0 rfl dI11_49 rfl ?_
  refine n_new (pc := 50) (fs := [.int 0, .int 0, .null]) kd_8 (tb_1 (List.mem_of_getElem? (i := 69) (by decide +kernel))) (tb_1 (List.mem_of_getElem? (i := 71) (by decide +kernel))) (tb_1 (List.mem_of_getElem? (i := 3) (by decide +kernel))) rfl (Nat.le_of_ble_eq_true rfl) (Nat.le_of_ble_eq_true rfl) dI11_50 (fun q10 => ?_)
  refine n_dup (pc := 53) dI11_53 rfl ?_
  refine n_init (pc := 54) (f0 := [(q3, .inl (c 4, 5, .inr (.inr (.inr (.inr (va_up (va_up (va_up (fun _ => none) 0 (some q4)) 1 (some q6)) 2 (some q8))))))), (h0, .inr (11, [.int 0, .long 0, .long 1, .ref q1, .ref q3, .null, .null, .null, .null, .null, .null, .null, .null, .null, .null, .null]))]) (ci_8 l D c q10) rfl cd_I8 ini_RX8 nh_RX8 pd_I8 (Nat.le_of_ble_eq_true rfl) rfl iw_I8 (Or.inr ⟨"TideDiscs", (tb_1 (List.mem_of_getElem? (i := 72) (by decide +kernel)))⟩) (Nat.le_of_ble_eq_true rfl) (Nat.le_of_ble_eq_true rfl) (Nat.le_of_ble_eq_true rfl) (Nat.le_of_ble_eq_true rfl) dI11_54 ?_
  intro w1 hQ
  obtain ⟨q11, rfl⟩ := hQ
  refine n_aast (pc := 57) (i := 0) (t0 := 4) (ci := 8) (rc := (RX8, TX8, 3)) (f' := [(q3, .inl (c 4, 5, .inr (.inr (.inr (.inr (va_up (va_up (va_up (va_up (fun _ => none) 0 (some q4)) 1 (some q6)) 2 (some q8)) 3 (some q10))))))), (h0, .inr (11, [.int 0, .long 0, .long 1, .ref q1, .ref q3, .null, .null, .null, .null, .null, .null, .null, .null, .null, .null, .null]))]) rfl rfl (List.mem_append_right _ (List.mem_append_left _ (List.mem_of_getElem? (i := 1) rfl))) rfl (by unfold vp_in; decide) rfl dI11_57 ?_
  refine n_iinc (pc := 58) (v := 4) 0 [(1, .int 4), (0, .ref h0)] dI11_58 rfl (by decide) (Nat.le_of_ble_eq_true rfl) rfl ?_
  refine n_goto (pc := 61) 40 dI11_61 rfl ?_
  refine n_iload_n (pc := 40) 0 rfl dI11_40 rfl ?_
  refine n_iconst (pc := 41) (v := 5) dI11_41 (by decide) ?_
  refine n_geF (pc := 42) 64 (by decide) dI11_42 rfl ?_
  refine n_aload_n (pc := 45) 1 rfl dI11_45 rfl ?_
  refine n_get (pc := 46) (i := 1) (v := .ref q3) rfl fp_11_29 rfl dI11_46 ?_
  refine n_iload_n (pc := 49) 0 rfl dI11_49 rfl ?_
  refine n_new (pc := 50) (fs := [.int 0, .int 0, .null]) kd_8 (tb_1 (List.mem_of_getElem? (i := 69) (by decide +kernel))) (tb_1 (List.mem_of_getElem? (i := 71) (by decide +kernel))) (tb_1 (List.mem_of_getElem? (i := 3) (by decide +kernel))) rfl (Nat.le_of_ble_eq_true rfl) (Nat.le_of_ble_eq_true rfl) dI11_50 (fun q12 => ?_)
  refine n_dup (pc := 53) dI11_53 rfl ?_
  refine n_init (pc := 54) (f0 := [(q3, .inl (c 4, 5, .inr (.inr (.inr (.inr (va_up (va_up (va_up (va_up (fun _ => none) 0 (some q4)) 1 (some q6)) 2 (some q8)) 3 (some q10))))))), (h0, .inr (11, [.int 0, .long 0, .long 1, .ref q1, .ref q3, .null, .null, .null, .null, .null, .null, .null, .null, .null, .null, .null]))]) (ci_8 l D c q12) rfl cd_I8 ini_RX8 nh_RX8 pd_I8 (Nat.le_of_ble_eq_true rfl) rfl iw_I8 (Or.inr ⟨"TideDiscs", (tb_1 (List.mem_of_getElem? (i := 72) (by decide +kernel)))⟩) (Nat.le_of_ble_eq_true rfl) (Nat.le_of_ble_eq_true rfl) (Nat.le_of_ble_eq_true rfl) (Nat.le_of_ble_eq_true rfl) dI11_54 ?_
  intro w1 hQ
  obtain ⟨q13, rfl⟩ := hQ
  refine n_aast (pc := 57) (i := 0) (t0 := 4) (ci := 8) (rc := (RX8, TX8, 3)) (f' := [(q3, .inl (c 4, 5, .inr (.inr (.inr (.inr (va_up (va_up (va_up (va_up (va_up (fun _ => none) 0 (some q4)) 1 (some q6)) 2 (some q8)) 3 (some q10)) 4 (some q12))))))), (h0, .inr (11, [.int 0, .long 0, .long 1, .ref q1, .ref q3, .null, .null, .null, .null, .null, .null, .null, .null, .null, .null, .null]))]) rfl rfl (List.mem_append_right _ (List.mem_append_left _ (List.mem_of_getElem? (i := 1) rfl))) rfl (by unfold vp_in; decide) rfl dI11_57 ?_
  refine n_iinc (pc := 58) (v := 5) 0 [(1, .int 5), (0, .ref h0)] dI11_58 rfl (by decide) (Nat.le_of_ble_eq_true rfl) rfl ?_
  refine n_goto (pc := 61) 40 dI11_61 rfl ?_
  refine n_iload_n (pc := 40) 0 rfl dI11_40 rfl ?_
  refine n_iconst (pc := 41) (v := 5) dI11_41 (by decide) ?_
  refine n_geT (pc := 42) 64 (by decide) dI11_42 rfl ?_
  refine n_aload_n (pc := 64) 1 rfl dI11_64 rfl ?_
  refine n_iconst (pc := 65) (v := 2) dI11_65 (by decide) ?_
  refine n_newq (pc := 66) (N' := 2) (cI := c 5) (t0 := 5) (C := RX3) rfl (tb_1 (List.mem_of_getElem? (i := 90) (by decide +kernel))) oa_3 (by decide) (by decide) (by decide) (Nat.le_of_ble_eq_true rfl) (Nat.le_of_ble_eq_true rfl) dI11_66 (fun q14 => ?_)
  refine n_put (pc := 69) (i := 2) (v := .ref q14) (f' := [(q14, .inl (c 5, 2, .inr (.inr (.inr (.inr (fun _ => none)))))), (q3, .inl (c 4, 5, .inr (.inr (.inr (.inr (va_up (va_up (va_up (va_up (va_up (fun _ => none) 0 (some q4)) 1 (some q6)) 2 (some q8)) 3 (some q10)) 4 (some q12))))))), (h0, .inr (11, [.int 0, .long 0, .long 1, .ref q1, .ref q3, .ref q14, .null, .null, .null, .null, .null, .null, .null, .null, .null, .null]))]) rfl fp_11_36 rfl rfl (Nat.le_of_ble_eq_true rfl) rfl dI11_69 ?_
  refine n_aload_n (pc := 72) 1 rfl dI11_72 rfl ?_
  refine n_get (pc := 73) (i := 2) (v := .ref q14) rfl fp_11_36 rfl dI11_73 ?_
  refine n_iconst (pc := 76) (v := 0) dI11_76 (by decide) ?_
  refine n_new (pc := 77) (fs := [.null, .int 0, .null, .null, .int 0, .int 0, .int 0]) kd_3 (tb_1 (List.mem_of_getElem? (i := 90) (by decide +kernel))) (tb_1 (List.mem_of_getElem? (i := 92) (by decide +kernel))) (tb_1 (List.mem_of_getElem? (i := 4) (by decide +kernel))) rfl (Nat.le_of_ble_eq_true rfl) (Nat.le_of_ble_eq_true rfl) dI11_77 (fun q15 => ?_)
  refine n_dup (pc := 80) dI11_80 rfl ?_
  refine n_init (pc := 81) (f0 := [(q14, .inl (c 5, 2, .inr (.inr (.inr (.inr (fun _ => none)))))), (q3, .inl (c 4, 5, .inr (.inr (.inr (.inr (va_up (va_up (va_up (va_up (va_up (fun _ => none) 0 (some q4)) 1 (some q6)) 2 (some q8)) 3 (some q10)) 4 (some q12))))))), (h0, .inr (11, [.int 0, .long 0, .long 1, .ref q1, .ref q3, .ref q14, .null, .null, .null, .null, .null, .null, .null, .null, .null, .null]))]) (ci_3 l D c q15) rfl cd_I3 ini_RX3 nh_RX3 pd_I3 (Nat.le_of_ble_eq_true rfl) rfl iw_I3 (Or.inl (tb_1 (List.mem_of_getElem? (i := 93) (by decide +kernel)))) (Nat.le_of_ble_eq_true rfl) (Nat.le_of_ble_eq_true rfl) (Nat.le_of_ble_eq_true rfl) (Nat.le_of_ble_eq_true rfl) dI11_81 ?_
  intro w1 hQ
  obtain ⟨q16, q17, q18, q19, q20, q21, q22, q23, q24, q25, q26, q27, q28, q29, q30, rfl⟩ := hQ
  refine n_aast (pc := 84) (i := 0) (t0 := 5) (ci := 3) (rc := (RX3, TX3, 7)) (f' := [(q14, .inl (c 5, 2, .inr (.inr (.inr (.inr (va_up (fun _ => none) 0 (some q15))))))), (q3, .inl (c 4, 5, .inr (.inr (.inr (.inr (va_up (va_up (va_up (va_up (va_up (fun _ => none) 0 (some q4)) 1 (some q6)) 2 (some q8)) 3 (some q10)) 4 (some q12))))))), (h0, .inr (11, [.int 0, .long 0, .long 1, .ref q1, .ref q3, .ref q14, .null, .null, .null, .null, .null, .null, .null, .null, .null, .null]))]) rfl rfl (List.mem_append_right _ (List.mem_append_left _ (List.mem_of_getElem? (i := 3) rfl))) rfl (by unfold vp_in; decide) rfl dI11_84 ?_
  refine n_aload_n (pc := 85) 1 rfl dI11_85 rfl ?_
  refine n_get (pc := 86) (i := 2) (v := .ref q14) rfl fp_11_36 rfl dI11_86 ?_
  refine n_iconst (pc := 89) (v := 1) dI11_89 (by decide) ?_
  refine n_new (pc := 90) (fs := [.null, .int 0, .null, .null, .int 0, .int 0, .int 0]) kd_3 (tb_1 (List.mem_of_getElem? (i := 90) (by decide +kernel))) (tb_1 (List.mem_of_getElem? (i := 92) (by decide +kernel))) (tb_1 (List.mem_of_getElem? (i := 4) (by decide +kernel))) rfl (Nat.le_of_ble_eq_true rfl) (Nat.le_of_ble_eq_true rfl) dI11_90 (fun q31 => ?_)
  refine n_dup (pc := 93) dI11_93 rfl ?_
  refine n_init (pc := 94) (f0 := [(q14, .inl (c 5, 2, .inr (.inr (.inr (.inr (va_up (fun _ => none) 0 (some q15))))))), (q3, .inl (c 4, 5, .inr (.inr (.inr (.inr (va_up (va_up (va_up (va_up (va_up (fun _ => none) 0 (some q4)) 1 (some q6)) 2 (some q8)) 3 (some q10)) 4 (some q12))))))), (h0, .inr (11, [.int 0, .long 0, .long 1, .ref q1, .ref q3, .ref q14, .null, .null, .null, .null, .null, .null, .null, .null, .null, .null]))]) (ci_3 l D c q31) rfl cd_I3 ini_RX3 nh_RX3 pd_I3 (Nat.le_of_ble_eq_true rfl) rfl iw_I3 (Or.inl (tb_1 (List.mem_of_getElem? (i := 93) (by decide +kernel)))) (Nat.le_of_ble_eq_true rfl) (Nat.le_of_ble_eq_true rfl) (Nat.le_of_ble_eq_true rfl) (Nat.le_of_ble_eq_true rfl) dI11_94 ?_
  intro w1 hQ
  obtain ⟨q32, q33, q34, q35, q36, q37, q38, q39, q40, q41, q42, q43, q44, q45, q46, rfl⟩ := hQ
  refine n_aast (pc := 97) (i := 0) (t0 := 5) (ci := 3) (rc := (RX3, TX3, 7)) (f' := [(q14, .inl (c 5, 2, .inr (.inr (.inr (.inr (va_up (va_up (fun _ => none) 0 (some q15)) 1 (some q31))))))), (q3, .inl (c 4, 5, .inr (.inr (.inr (.inr (va_up (va_up (va_up (va_up (va_up (fun _ => none) 0 (some q4)) 1 (some q6)) 2 (some q8)) 3 (some q10)) 4 (some q12))))))), (h0, .inr (11, [.int 0, .long 0, .long 1, .ref q1, .ref q3, .ref q14, .null, .null, .null, .null, .null, .null, .null, .null, .null, .null]))]) rfl rfl (List.mem_append_right _ (List.mem_append_left _ (List.mem_of_getElem? (i := 3) rfl))) rfl (by unfold vp_in; decide) rfl dI11_97 ?_
  refine n_aload_n (pc := 98) 1 rfl dI11_98 rfl ?_
  refine n_new (pc := 99) (fs := [.null, .int 0, .null, .null, .int 0, .int 0, .int 0]) kd_3 (tb_1 (List.mem_of_getElem? (i := 90) (by decide +kernel))) (tb_1 (List.mem_of_getElem? (i := 92) (by decide +kernel))) (tb_1 (List.mem_of_getElem? (i := 4) (by decide +kernel))) rfl (Nat.le_of_ble_eq_true rfl) (Nat.le_of_ble_eq_true rfl) dI11_99 (fun q47 => ?_)
  refine n_dup (pc := 102) dI11_102 rfl ?_
  refine n_init (pc := 103) (f0 := [(q14, .inl (c 5, 2, .inr (.inr (.inr (.inr (va_up (va_up (fun _ => none) 0 (some q15)) 1 (some q31))))))), (q3, .inl (c 4, 5, .inr (.inr (.inr (.inr (va_up (va_up (va_up (va_up (va_up (fun _ => none) 0 (some q4)) 1 (some q6)) 2 (some q8)) 3 (some q10)) 4 (some q12))))))), (h0, .inr (11, [.int 0, .long 0, .long 1, .ref q1, .ref q3, .ref q14, .null, .null, .null, .null, .null, .null, .null, .null, .null, .null]))]) (ci_3 l D c q47) rfl cd_I3 ini_RX3 nh_RX3 pd_I3 (Nat.le_of_ble_eq_true rfl) rfl iw_I3 (Or.inl (tb_1 (List.mem_of_getElem? (i := 93) (by decide +kernel)))) (Nat.le_of_ble_eq_true rfl) (Nat.le_of_ble_eq_true rfl) (Nat.le_of_ble_eq_true rfl) (Nat.le_of_ble_eq_true rfl) dI11_103 ?_
  intro w1 hQ
  obtain ⟨q48, q49, q50, q51, q52, q53, q54, q55, q56, q57, q58, q59, q60, q61, q62, rfl⟩ := hQ
  refine n_put (pc := 106) (i := 2) (v := .ref q47) (f' := [(q14, .inl (c 5, 2, .inr (.inr (.inr (.inr (va_up (va_up (fun _ => none) 0 (some q15)) 1 (some q31))))))), (q3, .inl (c 4, 5, .inr (.inr (.inr (.inr (va_up (va_up (va_up (va_up (va_up (fun _ => none) 0 (some q4)) 1 (some q6)) 2 (some q8)) 3 (some q10)) 4 (some q12))))))), (h0, .inr (11, [.int 0, .long 0, .long 1, .ref q1, .ref q3, .ref q14, .ref q47, .null, .null, .null, .null, .null, .null, .null, .null, .null]))]) rfl fp_11_41 rfl rfl (Nat.le_of_ble_eq_true rfl) rfl dI11_106 ?_
  refine n_aload_n (pc := 109) 1 rfl dI11_109 rfl ?_
  refine n_new (pc := 110) (fs := [.null, .null, .null, .null, .int 0, .int 0, .null, .int 0]) kd_4 (tb_1 (List.mem_of_getElem? (i := 185) (by decide +kernel))) (tb_1 (List.mem_of_getElem? (i := 186) (by decide +kernel))) (tb_1 (List.mem_of_getElem? (i := 6) (by decide +kernel))) rfl (Nat.le_of_ble_eq_true rfl) (Nat.le_of_ble_eq_true rfl) dI11_110 (fun q63 => ?_)
  refine n_dup (pc := 113) dI11_113 rfl ?_
  refine n_init (pc := 114) (f0 := [(q14, .inl (c 5, 2, .inr (.inr (.inr (.inr (va_up (va_up (fun _ => none) 0 (some q15)) 1 (some q31))))))), (q3, .inl (c 4, 5, .inr (.inr (.inr (.inr (va_up (va_up (va_up (va_up (va_up (fun _ => none) 0 (some q4)) 1 (some q6)) 2 (some q8)) 3 (some q10)) 4 (some q12))))))), (h0, .inr (11, [.int 0, .long 0, .long 1, .ref q1, .ref q3, .ref q14, .ref q47, .null, .null, .null, .null, .null, .null, .null, .null, .null]))]) (ci_4 l D c q63) rfl cd_I4 ini_RX4 nh_RX4 pd_I4 (Nat.le_of_ble_eq_true rfl) rfl iw_I4 (Or.inr ⟨"TideDiscs", (tb_1 (List.mem_of_getElem? (i := 187) (by decide +kernel)))⟩) (Nat.le_of_ble_eq_true rfl) (Nat.le_of_ble_eq_true rfl) (Nat.le_of_ble_eq_true rfl) (Nat.le_of_ble_eq_true rfl) dI11_114 ?_
  intro w1 hQ
  obtain ⟨q64, q65, q66, q67, q68, rfl⟩ := hQ
  refine n_put (pc := 117) (i := 2) (v := .ref q63) (f' := [(q14, .inl (c 5, 2, .inr (.inr (.inr (.inr (va_up (va_up (fun _ => none) 0 (some q15)) 1 (some q31))))))), (q3, .inl (c 4, 5, .inr (.inr (.inr (.inr (va_up (va_up (va_up (va_up (va_up (fun _ => none) 0 (some q4)) 1 (some q6)) 2 (some q8)) 3 (some q10)) 4 (some q12))))))), (h0, .inr (11, [.int 0, .long 0, .long 1, .ref q1, .ref q3, .ref q14, .ref q47, .ref q63, .null, .null, .null, .null, .null, .null, .null, .null]))]) rfl fp_11_48 rfl rfl (Nat.le_of_ble_eq_true rfl) rfl dI11_117 ?_
  refine n_aload_n (pc := 120) 1 rfl dI11_120 rfl ?_
  refine n_new (pc := 121) (fs := [.null, .null, .null, .null, .int 0, .int 0, .null, .int 0]) kd_4 (tb_1 (List.mem_of_getElem? (i := 185) (by decide +kernel))) (tb_1 (List.mem_of_getElem? (i := 186) (by decide +kernel))) (tb_1 (List.mem_of_getElem? (i := 6) (by decide +kernel))) rfl (Nat.le_of_ble_eq_true rfl) (Nat.le_of_ble_eq_true rfl) dI11_121 (fun q69 => ?_)
  refine n_dup (pc := 124) dI11_124 rfl ?_
  refine n_init (pc := 125) (f0 := [(q14, .inl (c 5, 2, .inr (.inr (.inr (.inr (va_up (va_up (fun _ => none) 0 (some q15)) 1 (some q31))))))), (q3, .inl (c 4, 5, .inr (.inr (.inr (.inr (va_up (va_up (va_up (va_up (va_up (fun _ => none) 0 (some q4)) 1 (some q6)) 2 (some q8)) 3 (some q10)) 4 (some q12))))))), (h0, .inr (11, [.int 0, .long 0, .long 1, .ref q1, .ref q3, .ref q14, .ref q47, .ref q63, .null, .null, .null, .null, .null, .null, .null, .null]))]) (ci_4 l D c q69) rfl cd_I4 ini_RX4 nh_RX4 pd_I4 (Nat.le_of_ble_eq_true rfl) rfl iw_I4 (Or.inr ⟨"TideDiscs", (tb_1 (List.mem_of_getElem? (i := 187) (by decide +kernel)))⟩) (Nat.le_of_ble_eq_true rfl) (Nat.le_of_ble_eq_true rfl) (Nat.le_of_ble_eq_true rfl) (Nat.le_of_ble_eq_true rfl) dI11_125 ?_
  intro w1 hQ
  obtain ⟨q70, q71, q72, q73, q74, rfl⟩ := hQ
  refine n_put (pc := 128) (i := 2) (v := .ref q69) (f' := [(q14, .inl (c 5, 2, .inr (.inr (.inr (.inr (va_up (va_up (fun _ => none) 0 (some q15)) 1 (some q31))))))), (q3, .inl (c 4, 5, .inr (.inr (.inr (.inr (va_up (va_up (va_up (va_up (va_up (fun _ => none) 0 (some q4)) 1 (some q6)) 2 (some q8)) 3 (some q10)) 4 (some q12))))))), (h0, .inr (11, [.int 0, .long 0, .long 1, .ref q1, .ref q3, .ref q14, .ref q47, .ref q63, .ref q69, .null, .null, .null, .null, .null, .null, .null]))]) rfl fp_11_52 rfl rfl (Nat.le_of_ble_eq_true rfl) rfl dI11_128 ?_
  refine n_aload_n (pc := 131) 1 rfl dI11_131 rfl ?_
  refine n_new (pc := 132) (fs := [.null, .null, .int 0, .int 0, .null, .int 0, .int 0, .int 0, .long 0, .int 0, .null, .int 0]) kd_9 (tb_1 (List.mem_of_getElem? (i := 222) (by decide +kernel))) (tb_1 (List.mem_of_getElem? (i := 223) (by decide +kernel))) (tb_1 (List.mem_of_getElem? (i := 7) (by decide +kernel))) rfl (Nat.le_of_ble_eq_true rfl) (Nat.le_of_ble_eq_true rfl) dI11_132 (fun q75 => ?_)
  refine n_dup (pc := 135) dI11_135 rfl ?_
  refine n_init (pc := 136) (f0 := [(q14, .inl (c 5, 2, .inr (.inr (.inr (.inr (va_up (va_up (fun _ => none) 0 (some q15)) 1 (some q31))))))), (q3, .inl (c 4, 5, .inr (.inr (.inr (.inr (va_up (va_up (va_up (va_up (va_up (fun _ => none) 0 (some q4)) 1 (some q6)) 2 (some q8)) 3 (some q10)) 4 (some q12))))))), (h0, .inr (11, [.int 0, .long 0, .long 1, .ref q1, .ref q3, .ref q14, .ref q47, .ref q63, .ref q69, .null, .null, .null, .null, .null, .null, .null]))]) (ci_9 l D c q75) rfl cd_I9 ini_RX9 nh_RX9 pd_I9 (Nat.le_of_ble_eq_true rfl) rfl iw_I9 (Or.inr ⟨"TideDiscs", (tb_1 (List.mem_of_getElem? (i := 224) (by decide +kernel)))⟩) (Nat.le_of_ble_eq_true rfl) (Nat.le_of_ble_eq_true rfl) (Nat.le_of_ble_eq_true rfl) (Nat.le_of_ble_eq_true rfl) dI11_136 ?_
  intro w1 hQ
  obtain ⟨q76, q77, rfl⟩ := hQ
  refine n_put (pc := 139) (i := 2) (v := .ref q75) (f' := [(q14, .inl (c 5, 2, .inr (.inr (.inr (.inr (va_up (va_up (fun _ => none) 0 (some q15)) 1 (some q31))))))), (q3, .inl (c 4, 5, .inr (.inr (.inr (.inr (va_up (va_up (va_up (va_up (va_up (fun _ => none) 0 (some q4)) 1 (some q6)) 2 (some q8)) 3 (some q10)) 4 (some q12))))))), (h0, .inr (11, [.int 0, .long 0, .long 1, .ref q1, .ref q3, .ref q14, .ref q47, .ref q63, .ref q69, .ref q75, .null, .null, .null, .null, .null, .null]))]) rfl fp_11_58 rfl rfl (Nat.le_of_ble_eq_true rfl) rfl dI11_139 ?_
  refine n_aload_n (pc := 142) 1 rfl dI11_142 rfl ?_
  refine n_new (pc := 143) (fs := [.null, .null, .int 0, .null, .null, .null, .null, .null, .int 0, .long 0, .long 0, .null, .int 0, .null, .int 0]) kd_7 (tb_2 (List.mem_of_getElem? (i := 32) (by decide +kernel))) (tb_2 (List.mem_of_getElem? (i := 33) (by decide +kernel))) (tb_1 (List.mem_of_getElem? (i := 8) (by decide +kernel))) rfl (Nat.le_of_ble_eq_true rfl) (Nat.le_of_ble_eq_true rfl) dI11_143 (fun q78 => ?_)
  refine n_dup (pc := 146) dI11_146 rfl ?_
  refine n_init (pc := 147) (f0 := [(q14, .inl (c 5, 2, .inr (.inr (.inr (.inr (va_up (va_up (fun _ => none) 0 (some q15)) 1 (some q31))))))), (q3, .inl (c 4, 5, .inr (.inr (.inr (.inr (va_up (va_up (va_up (va_up (va_up (fun _ => none) 0 (some q4)) 1 (some q6)) 2 (some q8)) 3 (some q10)) 4 (some q12))))))), (h0, .inr (11, [.int 0, .long 0, .long 1, .ref q1, .ref q3, .ref q14, .ref q47, .ref q63, .ref q69, .ref q75, .null, .null, .null, .null, .null, .null]))]) (ci_7 l D c q78) rfl cd_I7 ini_RX7 nh_RX7 pd_I7 (Nat.le_of_ble_eq_true rfl) rfl iw_I7 (Or.inr ⟨"TideDiscs", (tb_2 (List.mem_of_getElem? (i := 34) (by decide +kernel)))⟩) (Nat.le_of_ble_eq_true rfl) (Nat.le_of_ble_eq_true rfl) (Nat.le_of_ble_eq_true rfl) (Nat.le_of_ble_eq_true rfl) dI11_147 ?_
  intro w1 hQ
  obtain ⟨q79, q80, q81, q82, q83, q84, q85, rfl⟩ := hQ
  refine n_put (pc := 150) (i := 2) (v := .ref q78) (f' := [(q14, .inl (c 5, 2, .inr (.inr (.inr (.inr (va_up (va_up (fun _ => none) 0 (some q15)) 1 (some q31))))))), (q3, .inl (c 4, 5, .inr (.inr (.inr (.inr (va_up (va_up (va_up (va_up (va_up (fun _ => none) 0 (some q4)) 1 (some q6)) 2 (some q8)) 3 (some q10)) 4 (some q12))))))), (h0, .inr (11, [.int 0, .long 0, .long 1, .ref q1, .ref q3, .ref q14, .ref q47, .ref q63, .ref q69, .ref q75, .ref q78, .null, .null, .null, .null, .null]))]) rfl fp_11_65 rfl rfl (Nat.le_of_ble_eq_true rfl) rfl dI11_150 ?_
  refine n_aload_n (pc := 153) 1 rfl dI11_153 rfl ?_
  refine n_new (pc := 154) (fs := [.int 0, .long 0, .long 0, .int 0, .null]) kd_6 (tb_2 (List.mem_of_getElem? (i := 92) (by decide +kernel))) (tb_2 (List.mem_of_getElem? (i := 93) (by decide +kernel))) (tb_1 (List.mem_of_getElem? (i := 9) (by decide +kernel))) rfl (Nat.le_of_ble_eq_true rfl) (Nat.le_of_ble_eq_true rfl) dI11_154 (fun q86 => ?_)
  refine n_dup (pc := 157) dI11_157 rfl ?_
  refine n_init (pc := 158) (f0 := [(q14, .inl (c 5, 2, .inr (.inr (.inr (.inr (va_up (va_up (fun _ => none) 0 (some q15)) 1 (some q31))))))), (q3, .inl (c 4, 5, .inr (.inr (.inr (.inr (va_up (va_up (va_up (va_up (va_up (fun _ => none) 0 (some q4)) 1 (some q6)) 2 (some q8)) 3 (some q10)) 4 (some q12))))))), (h0, .inr (11, [.int 0, .long 0, .long 1, .ref q1, .ref q3, .ref q14, .ref q47, .ref q63, .ref q69, .ref q75, .ref q78, .null, .null, .null, .null, .null]))]) (ci_6 l D c q86) rfl cd_I6 ini_RX6 nh_RX6 pd_I6 (Nat.le_of_ble_eq_true rfl) rfl iw_I6 (Or.inr ⟨"TideDiscs", (tb_2 (List.mem_of_getElem? (i := 94) (by decide +kernel)))⟩) (Nat.le_of_ble_eq_true rfl) (Nat.le_of_ble_eq_true rfl) (Nat.le_of_ble_eq_true rfl) (Nat.le_of_ble_eq_true rfl) dI11_158 ?_
  intro w1 hQ
  obtain ⟨q87, rfl⟩ := hQ
  refine n_put (pc := 161) (i := 2) (v := .ref q86) (f' := [(q14, .inl (c 5, 2, .inr (.inr (.inr (.inr (va_up (va_up (fun _ => none) 0 (some q15)) 1 (some q31))))))), (q3, .inl (c 4, 5, .inr (.inr (.inr (.inr (va_up (va_up (va_up (va_up (va_up (fun _ => none) 0 (some q4)) 1 (some q6)) 2 (some q8)) 3 (some q10)) 4 (some q12))))))), (h0, .inr (11, [.int 0, .long 0, .long 1, .ref q1, .ref q3, .ref q14, .ref q47, .ref q63, .ref q69, .ref q75, .ref q78, .ref q86, .null, .null, .null, .null]))]) rfl fp_11_72 rfl rfl (Nat.le_of_ble_eq_true rfl) rfl dI11_161 ?_
  refine n_aload_n (pc := 164) 1 rfl dI11_164 rfl ?_
  refine n_new (pc := 165) (fs := [.int 0, .null, .null, .int 0, .null, .null, .null, .long 0]) kd_1 (tb_2 (List.mem_of_getElem? (i := 117) (by decide +kernel))) (tb_2 (List.mem_of_getElem? (i := 118) (by decide +kernel))) (tb_1 (List.mem_of_getElem? (i := 10) (by decide +kernel))) rfl (Nat.le_of_ble_eq_true rfl) (Nat.le_of_ble_eq_true rfl) dI11_165 (fun q88 => ?_)
  refine n_dup (pc := 168) dI11_168 rfl ?_
  refine n_init (pc := 169) (f0 := [(q14, .inl (c 5, 2, .inr (.inr (.inr (.inr (va_up (va_up (fun _ => none) 0 (some q15)) 1 (some q31))))))), (q3, .inl (c 4, 5, .inr (.inr (.inr (.inr (va_up (va_up (va_up (va_up (va_up (fun _ => none) 0 (some q4)) 1 (some q6)) 2 (some q8)) 3 (some q10)) 4 (some q12))))))), (h0, .inr (11, [.int 0, .long 0, .long 1, .ref q1, .ref q3, .ref q14, .ref q47, .ref q63, .ref q69, .ref q75, .ref q78, .ref q86, .null, .null, .null, .null]))]) (ci_1 l D c q88) rfl cd_I1 ini_RX1 nh_RX1 pd_I1 (Nat.le_of_ble_eq_true rfl) rfl iw_I1 (Or.inr ⟨"TideDiscs", (tb_2 (List.mem_of_getElem? (i := 119) (by decide +kernel)))⟩) (Nat.le_of_ble_eq_true rfl) (Nat.le_of_ble_eq_true rfl) (Nat.le_of_ble_eq_true rfl) (Nat.le_of_ble_eq_true rfl) dI11_169 ?_
  intro w1 hQ
  obtain ⟨q89, q90, q91, q92, q93, rfl⟩ := hQ
  refine n_put (pc := 172) (i := 2) (v := .ref q88) (f' := [(q14, .inl (c 5, 2, .inr (.inr (.inr (.inr (va_up (va_up (fun _ => none) 0 (some q15)) 1 (some q31))))))), (q3, .inl (c 4, 5, .inr (.inr (.inr (.inr (va_up (va_up (va_up (va_up (va_up (fun _ => none) 0 (some q4)) 1 (some q6)) 2 (some q8)) 3 (some q10)) 4 (some q12))))))), (h0, .inr (11, [.int 0, .long 0, .long 1, .ref q1, .ref q3, .ref q14, .ref q47, .ref q63, .ref q69, .ref q75, .ref q78, .ref q86, .ref q88, .null, .null, .null]))]) rfl fp_11_79 rfl rfl (Nat.le_of_ble_eq_true rfl) rfl dI11_172 ?_
  refine n_aload_n (pc := 175) 1 rfl dI11_175 rfl ?_
  refine n_new (pc := 176) (fs := [.int 0, .null, .null, .int 0, .null, .null, .null, .long 0]) kd_1 (tb_2 (List.mem_of_getElem? (i := 117) (by decide +kernel))) (tb_2 (List.mem_of_getElem? (i := 118) (by decide +kernel))) (tb_1 (List.mem_of_getElem? (i := 10) (by decide +kernel))) rfl (Nat.le_of_ble_eq_true rfl) (Nat.le_of_ble_eq_true rfl) dI11_176 (fun q94 => ?_)
  refine n_dup (pc := 179) dI11_179 rfl ?_
  refine n_init (pc := 180) (f0 := [(q14, .inl (c 5, 2, .inr (.inr (.inr (.inr (va_up (va_up (fun _ => none) 0 (some q15)) 1 (some q31))))))), (q3, .inl (c 4, 5, .inr (.inr (.inr (.inr (va_up (va_up (va_up (va_up (va_up (fun _ => none) 0 (some q4)) 1 (some q6)) 2 (some q8)) 3 (some q10)) 4 (some q12))))))), (h0, .inr (11, [.int 0, .long 0, .long 1, .ref q1, .ref q3, .ref q14, .ref q47, .ref q63, .ref q69, .ref q75, .ref q78, .ref q86, .ref q88, .null, .null, .null]))]) (ci_1 l D c q94) rfl cd_I1 ini_RX1 nh_RX1 pd_I1 (Nat.le_of_ble_eq_true rfl) rfl iw_I1 (Or.inr ⟨"TideDiscs", (tb_2 (List.mem_of_getElem? (i := 119) (by decide +kernel)))⟩) (Nat.le_of_ble_eq_true rfl) (Nat.le_of_ble_eq_true rfl) (Nat.le_of_ble_eq_true rfl) (Nat.le_of_ble_eq_true rfl) dI11_180 ?_
  intro w1 hQ
  obtain ⟨q95, q96, q97, q98, q99, rfl⟩ := hQ
  refine n_put (pc := 183) (i := 2) (v := .ref q94) (f' := [(q14, .inl (c 5, 2, .inr (.inr (.inr (.inr (va_up (va_up (fun _ => none) 0 (some q15)) 1 (some q31))))))), (q3, .inl (c 4, 5, .inr (.inr (.inr (.inr (va_up (va_up (va_up (va_up (va_up (fun _ => none) 0 (some q4)) 1 (some q6)) 2 (some q8)) 3 (some q10)) 4 (some q12))))))), (h0, .inr (11, [.int 0, .long 0, .long 1, .ref q1, .ref q3, .ref q14, .ref q47, .ref q63, .ref q69, .ref q75, .ref q78, .ref q86, .ref q88, .ref q94, .null, .null]))]) rfl fp_11_83 rfl rfl (Nat.le_of_ble_eq_true rfl) rfl dI11_183 ?_
  refine n_aload_n (pc := 186) 1 rfl dI11_186 rfl ?_
  refine n_new (pc := 187) (fs := [.null, .null, .null, .int 0, .int 0, .int 0, .int 0, .int 0, .int 0, .int 0, .int 0, .int 0, .int 0, .int 0, .int 0, .int 0, .int 0]) kd_0 (tb_2 (List.mem_of_getElem? (i := 151) (by decide +kernel))) (tb_2 (List.mem_of_getElem? (i := 152) (by decide +kernel))) (tb_1 (List.mem_of_getElem? (i := 11) (by decide +kernel))) rfl (Nat.le_of_ble_eq_true rfl) (Nat.le_of_ble_eq_true rfl) dI11_187 (fun q100 => ?_)
  refine n_dup (pc := 190) dI11_190 rfl ?_
  refine n_init (pc := 191) (f0 := [(q14, .inl (c 5, 2, .inr (.inr (.inr (.inr (va_up (va_up (fun _ => none) 0 (some q15)) 1 (some q31))))))), (q3, .inl (c 4, 5, .inr (.inr (.inr (.inr (va_up (va_up (va_up (va_up (va_up (fun _ => none) 0 (some q4)) 1 (some q6)) 2 (some q8)) 3 (some q10)) 4 (some q12))))))), (h0, .inr (11, [.int 0, .long 0, .long 1, .ref q1, .ref q3, .ref q14, .ref q47, .ref q63, .ref q69, .ref q75, .ref q78, .ref q86, .ref q88, .ref q94, .null, .null]))]) (ci_0 l D c q100) rfl cd_I0 ini_RX0 nh_RX0 pd_I0 (Nat.le_of_ble_eq_true rfl) rfl iw_I0 (Or.inr ⟨"TideDiscs", (tb_2 (List.mem_of_getElem? (i := 153) (by decide +kernel)))⟩) (Nat.le_of_ble_eq_true rfl) (Nat.le_of_ble_eq_true rfl) (Nat.le_of_ble_eq_true rfl) (Nat.le_of_ble_eq_true rfl) dI11_191 ?_
  intro w1 hQ
  obtain ⟨q101, q102, q103, rfl⟩ := hQ
  refine n_put (pc := 194) (i := 2) (v := .ref q100) (f' := [(q14, .inl (c 5, 2, .inr (.inr (.inr (.inr (va_up (va_up (fun _ => none) 0 (some q15)) 1 (some q31))))))), (q3, .inl (c 4, 5, .inr (.inr (.inr (.inr (va_up (va_up (va_up (va_up (va_up (fun _ => none) 0 (some q4)) 1 (some q6)) 2 (some q8)) 3 (some q10)) 4 (some q12))))))), (h0, .inr (11, [.int 0, .long 0, .long 1, .ref q1, .ref q3, .ref q14, .ref q47, .ref q63, .ref q69, .ref q75, .ref q78, .ref q86, .ref q88, .ref q94, .ref q100, .null]))]) rfl fp_11_89 rfl rfl (Nat.le_of_ble_eq_true rfl) rfl dI11_194 ?_
  refine n_aload_n (pc := 197) 1 rfl dI11_197 rfl ?_
  refine n_new (pc := 198) (fs := [.int 0, .int 0, .int 0, .int 0, .int 0, .int 0, .int 0, .int 0]) kd_2 (tb_2 (List.mem_of_getElem? (i := 222) (by decide +kernel))) (tb_2 (List.mem_of_getElem? (i := 223) (by decide +kernel))) (tb_1 (List.mem_of_getElem? (i := 12) (by decide +kernel))) rfl (Nat.le_of_ble_eq_true rfl) (Nat.le_of_ble_eq_true rfl) dI11_198 (fun q104 => ?_)
  refine n_dup (pc := 201) dI11_201 rfl ?_
  refine n_init (pc := 202) (f0 := [(q14, .inl (c 5, 2, .inr (.inr (.inr (.inr (va_up (va_up (fun _ => none) 0 (some q15)) 1 (some q31))))))), (q3, .inl (c 4, 5, .inr (.inr (.inr (.inr (va_up (va_up (va_up (va_up (va_up (fun _ => none) 0 (some q4)) 1 (some q6)) 2 (some q8)) 3 (some q10)) 4 (some q12))))))), (h0, .inr (11, [.int 0, .long 0, .long 1, .ref q1, .ref q3, .ref q14, .ref q47, .ref q63, .ref q69, .ref q75, .ref q78, .ref q86, .ref q88, .ref q94, .ref q100, .null]))]) (ci_2 l D c q104) rfl cd_I2 ini_RX2 nh_RX2 pd_I2 (Nat.le_of_ble_eq_true rfl) rfl iw_I2 (Or.inr ⟨"TideDiscs", (tb_2 (List.mem_of_getElem? (i := 224) (by decide +kernel)))⟩) (Nat.le_of_ble_eq_true rfl) (Nat.le_of_ble_eq_true rfl) (Nat.le_of_ble_eq_true rfl) (Nat.le_of_ble_eq_true rfl) dI11_202 ?_
  intro w1 hQ
  obtain ⟨rfl⟩ := hQ
  refine n_put (pc := 205) (i := 2) (v := .ref q104) (f' := [(q14, .inl (c 5, 2, .inr (.inr (.inr (.inr (va_up (va_up (fun _ => none) 0 (some q15)) 1 (some q31))))))), (q3, .inl (c 4, 5, .inr (.inr (.inr (.inr (va_up (va_up (va_up (va_up (va_up (fun _ => none) 0 (some q4)) 1 (some q6)) 2 (some q8)) 3 (some q10)) 4 (some q12))))))), (h0, .inr (11, [.int 0, .long 0, .long 1, .ref q1, .ref q3, .ref q14, .ref q47, .ref q63, .ref q69, .ref q75, .ref q78, .ref q86, .ref q88, .ref q94, .ref q100, .ref q104]))]) rfl fp_11_96 rfl rfl (Nat.le_of_ble_eq_true rfl) rfl dI11_205 ?_
  exact n_ret (pc := 208) dI11_208 (Nat.le_refl _) (Nat.le_refl _) ⟨_, ⟨q1, q2, q3, q4, q5, q6, q7, q8, q9, q10, q11, q12, q13, q14, q15, q16, q17, q18, q19, q20, q21, q22, q23, q24, q25, q26, q27, q28, q29, q30, q31, q32, q33, q34, q35, q36, q37, q38, q39, q40, q41, q42, q43, q44, q45, q46, q47, q48, q49, q50, q51, q52, q53, q54, q55, q56, q57, q58, q59, q60, q61, q62, q63, q64, q65, q66, q67, q68, q69, q70, q71, q72, q73, q74, q75, q76, q77, q78, q79, q80, q81, q82, q83, q84, q85, q86, q87, q88, q89, q90, q91, q92, q93, q94, q95, q96, q97, q98, q99, q100, q101, q102, q103, q104, rfl⟩, List.Perm.refl _⟩
theorem dI12_0 : decode cX12_init 0 = .ok (.aload_n 0, 1) := by decide +kernel
theorem dI12_1 : decode cX12_init 1 = .ok (.invokespecial 1, 3) := by decide +kernel
theorem dI12_4 : decode cX12_init 4 = .ok (.aload_n 0, 1) := by decide +kernel
theorem dI12_5 : decode cX12_init 5 = .ok (.lconst 1, 1) := by decide +kernel
theorem dI12_6 : decode cX12_init 6 = .ok (.putfield 7, 3) := by decide +kernel
theorem dI12_9 : decode cX12_init 9 = .ok (.aload_n 0, 1) := by decide +kernel
theorem dI12_10 : decode cX12_init 10 = .ok (.iconst 5, 1) := by decide +kernel
theorem dI12_11 : decode cX12_init 11 = .ok (.newarray .int, 2) := by decide +kernel
theorem dI12_13 : decode cX12_init 13 = .ok (.putfield 13, 3) := by decide +kernel
theorem dI12_16 : decode cX12_init 16 = .ok (.aload_n 0, 1) := by decide +kernel
theorem dI12_17 : decode cX12_init 17 = .ok (.iconst 5, 1) := by decide +kernel
theorem dI12_18 : decode cX12_init 18 = .ok (.newarray .int, 2) := by decide +kernel
theorem dI12_20 : decode cX12_init 20 = .ok (.putfield 17, 3) := by decide +kernel
theorem dI12_23 : decode cX12_init 23 = .ok (.aload_n 0, 1) := by decide +kernel
theorem dI12_24 : decode cX12_init 24 = .ok (.sipush 300, 3) := by decide +kernel
theorem dI12_27 : decode cX12_init 27 = .ok (.newarray .long, 2) := by decide +kernel
theorem dI12_29 : decode cX12_init 29 = .ok (.putfield 20, 3) := by decide +kernel
theorem dI12_32 : decode cX12_init 32 = .ok (.aload_n 0, 1) := by decide +kernel
theorem dI12_33 : decode cX12_init 33 = .ok (.sipush 600, 3) := by decide +kernel
theorem dI12_36 : decode cX12_init 36 = .ok (.newarray .byte, 2) := by decide +kernel
theorem dI12_38 : decode cX12_init 38 = .ok (.putfield 24, 3) := by decide +kernel
theorem dI12_41 : decode cX12_init 41 = .ok (.aload_n 0, 1) := by decide +kernel
theorem dI12_42 : decode cX12_init 42 = .ok (.iconst (-1), 1) := by decide +kernel
theorem dI12_43 : decode cX12_init 43 = .ok (.putfield 28, 3) := by decide +kernel
theorem dI12_46 : decode cX12_init 46 = .ok (.aload_n 0, 1) := by decide +kernel
theorem dI12_47 : decode cX12_init 47 = .ok (.iconst (-1), 1) := by decide +kernel
theorem dI12_48 : decode cX12_init 48 = .ok (.putfield 32, 3) := by decide +kernel
theorem dI12_51 : decode cX12_init 51 = .ok (.aload_n 0, 1) := by decide +kernel
theorem dI12_52 : decode cX12_init 52 = .ok (.iconst 3, 1) := by decide +kernel
theorem dI12_53 : decode cX12_init 53 = .ok (.newarray .int, 2) := by decide +kernel
theorem dI12_55 : decode cX12_init 55 = .ok (.putfield 35, 3) := by decide +kernel
theorem dI12_58 : decode cX12_init 58 = .ok (.aload_n 0, 1) := by decide +kernel
theorem dI12_59 : decode cX12_init 59 = .ok (.iconst 3, 1) := by decide +kernel
theorem dI12_60 : decode cX12_init 60 = .ok (.newarray .int, 2) := by decide +kernel
theorem dI12_62 : decode cX12_init 62 = .ok (.putfield 38, 3) := by decide +kernel
theorem dI12_65 : decode cX12_init 65 = .ok (.aload_n 0, 1) := by decide +kernel
theorem dI12_66 : decode cX12_init 66 = .ok (.iconst 3, 1) := by decide +kernel
theorem dI12_67 : decode cX12_init 67 = .ok (.newarray .int, 2) := by decide +kernel
theorem dI12_69 : decode cX12_init 69 = .ok (.putfield 41, 3) := by decide +kernel
theorem dI12_72 : decode cX12_init 72 = .ok (.aload_n 0, 1) := by decide +kernel
theorem dI12_73 : decode cX12_init 73 = .ok (.iconst 3, 1) := by decide +kernel
theorem dI12_74 : decode cX12_init 74 = .ok (.newarray .int, 2) := by decide +kernel
theorem dI12_76 : decode cX12_init 76 = .ok (.putfield 44, 3) := by decide +kernel
theorem dI12_79 : decode cX12_init 79 = .ok (.aload_n 0, 1) := by decide +kernel
theorem dI12_80 : decode cX12_init 80 = .ok (.sipush 162, 3) := by decide +kernel
theorem dI12_83 : decode cX12_init 83 = .ok (.newarray .int, 2) := by decide +kernel
theorem dI12_85 : decode cX12_init 85 = .ok (.putfield 47, 3) := by decide +kernel
theorem dI12_88 : decode cX12_init 88 = .ok (.aload_n 0, 1) := by decide +kernel
theorem dI12_89 : decode cX12_init 89 = .ok (.bipush 60, 2) := by decide +kernel
theorem dI12_91 : decode cX12_init 91 = .ok (.newarray .int, 2) := by decide +kernel
theorem dI12_93 : decode cX12_init 93 = .ok (.putfield 50, 3) := by decide +kernel
theorem dI12_96 : decode cX12_init 96 = .ok (.aload_n 0, 1) := by decide +kernel
theorem dI12_97 : decode cX12_init 97 = .ok (.bipush 6, 2) := by decide +kernel
theorem dI12_99 : decode cX12_init 99 = .ok (.newarray .long, 2) := by decide +kernel
theorem dI12_101 : decode cX12_init 101 = .ok (.putfield 53, 3) := by decide +kernel
theorem dI12_104 : decode cX12_init 104 = .ok (.aload_n 0, 1) := by decide +kernel
theorem dI12_105 : decode cX12_init 105 = .ok (.iconst (-1), 1) := by decide +kernel
theorem dI12_106 : decode cX12_init 106 = .ok (.putfield 56, 3) := by decide +kernel
theorem dI12_109 : decode cX12_init 109 = .ok (.aload_n 0, 1) := by decide +kernel
theorem dI12_110 : decode cX12_init 110 = .ok (.iconst (-1), 1) := by decide +kernel
theorem dI12_111 : decode cX12_init 111 = .ok (.putfield 59, 3) := by decide +kernel
theorem dI12_114 : decode cX12_init 114 = .ok (.aload_n 0, 1) := by decide +kernel
theorem dI12_115 : decode cX12_init 115 = .ok (.iconst 4, 1) := by decide +kernel
theorem dI12_116 : decode cX12_init 116 = .ok (.newarray .int, 2) := by decide +kernel
theorem dI12_118 : decode cX12_init 118 = .ok (.putfield 62, 3) := by decide +kernel
theorem dI12_121 : decode cX12_init 121 = .ok (.aload_n 0, 1) := by decide +kernel
theorem dI12_122 : decode cX12_init 122 = .ok (.bipush 6, 2) := by decide +kernel
theorem dI12_124 : decode cX12_init 124 = .ok (.newarray .int, 2) := by decide +kernel
theorem dI12_126 : decode cX12_init 126 = .ok (.putfield 65, 3) := by decide +kernel
theorem dI12_129 : decode cX12_init 129 = .ok (.aload_n 0, 1) := by decide +kernel
theorem dI12_130 : decode cX12_init 130 = .ok (.iconst (-1), 1) := by decide +kernel
theorem dI12_131 : decode cX12_init 131 = .ok (.putfield 68, 3) := by decide +kernel
theorem dI12_134 : decode cX12_init 134 = .ok (.aload_n 0, 1) := by decide +kernel
theorem dI12_135 : decode cX12_init 135 = .ok (.bipush 23, 2) := by decide +kernel
theorem dI12_137 : decode cX12_init 137 = .ok (.putfield 71, 3) := by decide +kernel
theorem dI12_140 : decode cX12_init 140 = .ok (.aload_n 0, 1) := by decide +kernel
theorem dI12_141 : decode cX12_init 141 = .ok (.iconst (-1), 1) := by decide +kernel
theorem dI12_142 : decode cX12_init 142 = .ok (.putfield 74, 3) := by decide +kernel
theorem dI12_145 : decode cX12_init 145 = .ok (.aload_n 0, 1) := by decide +kernel
theorem dI12_146 : decode cX12_init 146 = .ok (.bipush 40, 2) := by decide +kernel
theorem dI12_148 : decode cX12_init 148 = .ok (.newarray .int, 2) := by decide +kernel
theorem dI12_150 : decode cX12_init 150 = .ok (.putfield 77, 3) := by decide +kernel
theorem dI12_153 : decode cX12_init 153 = .ok (.aload_n 0, 1) := by decide +kernel
theorem dI12_154 : decode cX12_init 154 = .ok (.bipush 40, 2) := by decide +kernel
theorem dI12_156 : decode cX12_init 156 = .ok (.newarray .int, 2) := by decide +kernel
theorem dI12_158 : decode cX12_init 158 = .ok (.putfield 80, 3) := by decide +kernel
theorem dI12_161 : decode cX12_init 161 = .ok (.aload_n 0, 1) := by decide +kernel
theorem dI12_162 : decode cX12_init 162 = .ok (.bipush 40, 2) := by decide +kernel
theorem dI12_164 : decode cX12_init 164 = .ok (.newarray .int, 2) := by decide +kernel
theorem dI12_166 : decode cX12_init 166 = .ok (.putfield 83, 3) := by decide +kernel
theorem dI12_169 : decode cX12_init 169 = .ok (.aload_n 0, 1) := by decide +kernel
theorem dI12_170 : decode cX12_init 170 = .ok (.bipush 40, 2) := by decide +kernel
theorem dI12_172 : decode cX12_init 172 = .ok (.newarray .int, 2) := by decide +kernel
theorem dI12_174 : decode cX12_init 174 = .ok (.putfield 86, 3) := by decide +kernel
theorem dI12_177 : decode cX12_init 177 = .ok (.aload_n 0, 1) := by decide +kernel
theorem dI12_178 : decode cX12_init 178 = .ok (.bipush 40, 2) := by decide +kernel
theorem dI12_180 : decode cX12_init 180 = .ok (.newarray .int, 2) := by decide +kernel
theorem dI12_182 : decode cX12_init 182 = .ok (.putfield 89, 3) := by decide +kernel
theorem dI12_185 : decode cX12_init 185 = .ok (.aload_n 0, 1) := by decide +kernel
theorem dI12_186 : decode cX12_init 186 = .ok (.bipush 40, 2) := by decide +kernel
theorem dI12_188 : decode cX12_init 188 = .ok (.newarray .int, 2) := by decide +kernel
theorem dI12_190 : decode cX12_init 190 = .ok (.putfield 92, 3) := by decide +kernel
theorem dI12_193 : decode cX12_init 193 = .ok (.aload_n 0, 1) := by decide +kernel
theorem dI12_194 : decode cX12_init 194 = .ok (.bipush 40, 2) := by decide +kernel
theorem dI12_196 : decode cX12_init 196 = .ok (.newarray .int, 2) := by decide +kernel
theorem dI12_198 : decode cX12_init 198 = .ok (.putfield 95, 3) := by decide +kernel
theorem dI12_201 : decode cX12_init 201 = .ok (.aload_n 0, 1) := by decide +kernel
theorem dI12_202 : decode cX12_init 202 = .ok (.bipush 40, 2) := by decide +kernel
theorem dI12_204 : decode cX12_init 204 = .ok (.newarray .int, 2) := by decide +kernel
theorem dI12_206 : decode cX12_init 206 = .ok (.putfield 98, 3) := by decide +kernel
theorem dI12_209 : decode cX12_init 209 = .ok (.aload_n 0, 1) := by decide +kernel
theorem dI12_210 : decode cX12_init 210 = .ok (.bipush 30, 2) := by decide +kernel
theorem dI12_212 : decode cX12_init 212 = .ok (.newarray .int, 2) := by decide +kernel
theorem dI12_214 : decode cX12_init 214 = .ok (.putfield 101, 3) := by decide +kernel
theorem dI12_217 : decode cX12_init 217 = .ok (.aload_n 0, 1) := by decide +kernel
theorem dI12_218 : decode cX12_init 218 = .ok (.bipush 6, 2) := by decide +kernel
theorem dI12_220 : decode cX12_init 220 = .ok (.newarray .int, 2) := by decide +kernel
theorem dI12_222 : decode cX12_init 222 = .ok (.putfield 104, 3) := by decide +kernel
theorem dI12_225 : decode cX12_init 225 = .ok (.aload_n 0, 1) := by decide +kernel
theorem dI12_226 : decode cX12_init 226 = .ok (.bipush 25, 2) := by decide +kernel
theorem dI12_228 : decode cX12_init 228 = .ok (.newarray .long, 2) := by decide +kernel
theorem dI12_230 : decode cX12_init 230 = .ok (.putfield 107, 3) := by decide +kernel
theorem dI12_233 : decode cX12_init 233 = .ok (.aload_n 0, 1) := by decide +kernel
theorem dI12_234 : decode cX12_init 234 = .ok (.iconst 5, 1) := by decide +kernel
theorem dI12_235 : decode cX12_init 235 = .ok (.newarray .long, 2) := by decide +kernel
theorem dI12_237 : decode cX12_init 237 = .ok (.putfield 110, 3) := by decide +kernel
theorem dI12_240 : decode cX12_init 240 = .ok (.aload_n 0, 1) := by decide +kernel
theorem dI12_241 : decode cX12_init 241 = .ok (.iconst 5, 1) := by decide +kernel
theorem dI12_242 : decode cX12_init 242 = .ok (.newarray .int, 2) := by decide +kernel
theorem dI12_244 : decode cX12_init 244 = .ok (.putfield 113, 3) := by decide +kernel
theorem dI12_247 : decode cX12_init 247 = .ok (.aload_n 0, 1) := by decide +kernel
theorem dI12_248 : decode cX12_init 248 = .ok (.iconst 5, 1) := by decide +kernel
theorem dI12_249 : decode cX12_init 249 = .ok (.newarray .long, 2) := by decide +kernel
theorem dI12_251 : decode cX12_init 251 = .ok (.putfield 116, 3) := by decide +kernel
theorem dI12_254 : decode cX12_init 254 = .ok (.aload_n 0, 1) := by decide +kernel
theorem dI12_255 : decode cX12_init 255 = .ok (.bipush 48, 2) := by decide +kernel
theorem dI12_257 : decode cX12_init 257 = .ok (.newarray .int, 2) := by decide +kernel
theorem dI12_259 : decode cX12_init 259 = .ok (.putfield 119, 3) := by decide +kernel
theorem dI12_262 : decode cX12_init 262 = .ok (.iconst 0, 1) := by decide +kernel
theorem dI12_263 : decode cX12_init 263 = .ok (.istore_n 1, 1) := by decide +kernel
theorem dI12_264 : decode cX12_init 264 = .ok (.iload_n 1, 1) := by decide +kernel
theorem dI12_265 : decode cX12_init 265 = .ok (.iconst 5, 1) := by decide +kernel
theorem dI12_266 : decode cX12_init 266 = .ok (.if_icmp .ge 16, 3) := by decide +kernel
theorem dI12_269 : decode cX12_init 269 = .ok (.aload_n 0, 1) := by decide +kernel
theorem dI12_270 : decode cX12_init 270 = .ok (.getfield 17, 3) := by decide +kernel
theorem dI12_273 : decode cX12_init 273 = .ok (.iload_n 1, 1) := by decide +kernel
theorem dI12_274 : decode cX12_init 274 = .ok (.iconst (-1), 1) := by decide +kernel
theorem dI12_275 : decode cX12_init 275 = .ok (.iastore, 1) := by decide +kernel
theorem dI12_276 : decode cX12_init 276 = .ok (.iinc 1 1, 3) := by decide +kernel
theorem dI12_279 : decode cX12_init 279 = .ok (.goto (-15), 3) := by decide +kernel
theorem dI12_282 : decode cX12_init 282 = .ok (.return_, 1) := by decide +kernel
theorem cd_I12 : Cond.code yX12_init cX12_init 2 none ∈ lw_tbl := (tb_7 (List.mem_of_getElem? (i := 46) (by decide +kernel)))
theorem pd_I12 : (parseMethodDescriptor yX12_init.desc).map (fun d => d.parameters.length) = some 0 := by decide +kernel
theorem iw_I12 : Cond.instanceMethod yX12_init ∈ lw_tbl := (tb_7 (List.mem_of_getElem? (i := 45) (by decide +kernel)))
abbrev gm_I12 : am_M := (yX12_init, cX12_init, 2, none, 1)
theorem fp_12_7 : am_fp RX12 7 12 3 false .long := ⟨_, _, _, kd_12, by decide, (tb_7 (List.mem_of_getElem? (i := 51) (by decide +kernel))), rfl, rfl, rfl⟩
theorem fp_12_13 : am_fp RX12 13 12 4 true (.array .int) := ⟨_, _, _, kd_12, by decide, (tb_7 (List.mem_of_getElem? (i := 52) (by decide +kernel))), rfl, rfl, rfl⟩
theorem fp_12_17 : am_fp RX12 17 12 5 true (.array .int) := ⟨_, _, _, kd_12, by decide, (tb_7 (List.mem_of_getElem? (i := 53) (by decide +kernel))), rfl, rfl, rfl⟩
theorem fp_12_20 : am_fp RX12 20 12 6 true (.array .long) := ⟨_, _, _, kd_12, by decide, (tb_7 (List.mem_of_getElem? (i := 54) (by decide +kernel))), rfl, rfl, rfl⟩
theorem fp_12_24 : am_fp RX12 24 12 7 true (.array .byte) := ⟨_, _, _, kd_12, by decide, (tb_7 (List.mem_of_getElem? (i := 55) (by decide +kernel))), rfl, rfl, rfl⟩
theorem fp_12_28 : am_fp RX12 28 12 10 false .int := ⟨_, _, _, kd_12, by decide, (tb_7 (List.mem_of_getElem? (i := 58) (by decide +kernel))), rfl, rfl, rfl⟩
theorem fp_12_32 : am_fp RX12 32 12 11 false .int := ⟨_, _, _, kd_12, by decide, (tb_7 (List.mem_of_getElem? (i := 59) (by decide +kernel))), rfl, rfl, rfl⟩
theorem fp_12_35 : am_fp RX12 35 12 20 true (.array .int) := ⟨_, _, _, kd_12, by decide, (tb_7 (List.mem_of_getElem? (i := 68) (by decide +kernel))), rfl, rfl, rfl⟩
theorem fp_12_38 : am_fp RX12 38 12 21 true (.array .int) := ⟨_, _, _, kd_12, by decide, (tb_7 (List.mem_of_getElem? (i := 69) (by decide +kernel))), rfl, rfl, rfl⟩
theorem fp_12_41 : am_fp RX12 41 12 22 true (.array .int) := ⟨_, _, _, kd_12, by decide, (tb_7 (List.mem_of_getElem? (i := 70) (by decide +kernel))), rfl, rfl, rfl⟩
theorem fp_12_44 : am_fp RX12 44 12 23 true (.array .int) := ⟨_, _, _, kd_12, by decide, (tb_7 (List.mem_of_getElem? (i := 71) (by decide +kernel))), rfl, rfl, rfl⟩
theorem fp_12_47 : am_fp RX12 47 12 24 true (.array .int) := ⟨_, _, _, kd_12, by decide, (tb_7 (List.mem_of_getElem? (i := 72) (by decide +kernel))), rfl, rfl, rfl⟩
theorem fp_12_50 : am_fp RX12 50 12 25 true (.array .int) := ⟨_, _, _, kd_12, by decide, (tb_7 (List.mem_of_getElem? (i := 73) (by decide +kernel))), rfl, rfl, rfl⟩
theorem fp_12_53 : am_fp RX12 53 12 26 true (.array .long) := ⟨_, _, _, kd_12, by decide, (tb_7 (List.mem_of_getElem? (i := 74) (by decide +kernel))), rfl, rfl, rfl⟩
theorem fp_12_56 : am_fp RX12 56 12 32 false .int := ⟨_, _, _, kd_12, by decide, (tb_7 (List.mem_of_getElem? (i := 80) (by decide +kernel))), rfl, rfl, rfl⟩
theorem fp_12_59 : am_fp RX12 59 12 42 false .int := ⟨_, _, _, kd_12, by decide, (tb_7 (List.mem_of_getElem? (i := 90) (by decide +kernel))), rfl, rfl, rfl⟩
theorem fp_12_62 : am_fp RX12 62 12 44 true (.array .int) := ⟨_, _, _, kd_12, by decide, (tb_7 (List.mem_of_getElem? (i := 92) (by decide +kernel))), rfl, rfl, rfl⟩
theorem fp_12_65 : am_fp RX12 65 12 45 true (.array .int) := ⟨_, _, _, kd_12, by decide, (tb_7 (List.mem_of_getElem? (i := 93) (by decide +kernel))), rfl, rfl, rfl⟩
theorem fp_12_68 : am_fp RX12 68 12 49 false .int := ⟨_, _, _, kd_12, by decide, (tb_7 (List.mem_of_getElem? (i := 97) (by decide +kernel))), rfl, rfl, rfl⟩
theorem fp_12_71 : am_fp RX12 71 12 52 false .int := ⟨_, _, _, kd_12, by decide, (tb_7 (List.mem_of_getElem? (i := 100) (by decide +kernel))), rfl, rfl, rfl⟩
theorem fp_12_74 : am_fp RX12 74 12 60 false .int := ⟨_, _, _, kd_12, by decide, (tb_7 (List.mem_of_getElem? (i := 108) (by decide +kernel))), rfl, rfl, rfl⟩
theorem fp_12_77 : am_fp RX12 77 12 68 true (.array .int) := ⟨_, _, _, kd_12, by decide, (tb_7 (List.mem_of_getElem? (i := 116) (by decide +kernel))), rfl, rfl, rfl⟩
theorem fp_12_80 : am_fp RX12 80 12 69 true (.array .int) := ⟨_, _, _, kd_12, by decide, (tb_7 (List.mem_of_getElem? (i := 117) (by decide +kernel))), rfl, rfl, rfl⟩
theorem fp_12_83 : am_fp RX12 83 12 70 true (.array .int) := ⟨_, _, _, kd_12, by decide, (tb_7 (List.mem_of_getElem? (i := 118) (by decide +kernel))), rfl, rfl, rfl⟩
theorem fp_12_86 : am_fp RX12 86 12 71 true (.array .int) := ⟨_, _, _, kd_12, by decide, (tb_7 (List.mem_of_getElem? (i := 119) (by decide +kernel))), rfl, rfl, rfl⟩
theorem fp_12_89 : am_fp RX12 89 12 72 true (.array .int) := ⟨_, _, _, kd_12, by decide, (tb_7 (List.mem_of_getElem? (i := 120) (by decide +kernel))), rfl, rfl, rfl⟩
theorem fp_12_92 : am_fp RX12 92 12 73 true (.array .int) := ⟨_, _, _, kd_12, by decide, (tb_7 (List.mem_of_getElem? (i := 121) (by decide +kernel))), rfl, rfl, rfl⟩
theorem fp_12_95 : am_fp RX12 95 12 74 true (.array .int) := ⟨_, _, _, kd_12, by decide, (tb_7 (List.mem_of_getElem? (i := 122) (by decide +kernel))), rfl, rfl, rfl⟩
theorem fp_12_98 : am_fp RX12 98 12 75 true (.array .int) := ⟨_, _, _, kd_12, by decide, (tb_7 (List.mem_of_getElem? (i := 123) (by decide +kernel))), rfl, rfl, rfl⟩
theorem fp_12_101 : am_fp RX12 101 12 76 true (.array .int) := ⟨_, _, _, kd_12, by decide, (tb_7 (List.mem_of_getElem? (i := 124) (by decide +kernel))), rfl, rfl, rfl⟩
theorem fp_12_104 : am_fp RX12 104 12 77 true (.array .int) := ⟨_, _, _, kd_12, by decide, (tb_7 (List.mem_of_getElem? (i := 125) (by decide +kernel))), rfl, rfl, rfl⟩
theorem fp_12_107 : am_fp RX12 107 12 79 true (.array .long) := ⟨_, _, _, kd_12, by decide, (tb_7 (List.mem_of_getElem? (i := 127) (by decide +kernel))), rfl, rfl, rfl⟩
theorem fp_12_110 : am_fp RX12 110 12 80 true (.array .long) := ⟨_, _, _, kd_12, by decide, (tb_7 (List.mem_of_getElem? (i := 128) (by decide +kernel))), rfl, rfl, rfl⟩
theorem fp_12_113 : am_fp RX12 113 12 83 true (.array .int) := ⟨_, _, _, kd_12, by decide, (tb_7 (List.mem_of_getElem? (i := 131) (by decide +kernel))), rfl, rfl, rfl⟩
theorem fp_12_116 : am_fp RX12 116 12 84 true (.array .long) := ⟨_, _, _, kd_12, by decide, (tb_7 (List.mem_of_getElem? (i := 132) (by decide +kernel))), rfl, rfl, rfl⟩
theorem fp_12_119 : am_fp RX12 119 12 85 true (.array .int) := ⟨_, _, _, kd_12, by decide, (tb_7 (List.mem_of_getElem? (i := 133) (by decide +kernel))), rfl, rfl, rfl⟩
set_option maxRecDepth 100000 in
set_option maxHeartbeats 4000000 in
theorem ci_12 (l : Launch) (D : va_G) (c : Nat → ClassId) (h0 : Nat) : am_NC (l, D, am_tz c) gm_I12 28 1604 h0 (.inr (12, [.int 0, .int 0, .long 0, .long 0, .null, .null, .null, .null, .int 0, .int 0, .int 0, .int 0, .int 0, .int 0, .int 0, .int 0, .int 0, .int 0, .int 0, .long 0, .null, .null, .null, .null, .null, .null, .null, .int 0, .int 0, .int 0, .int 0, .int 0, .int 0, .int 0, .int 0, .int 0, .int 0, .int 0, .int 0, .int 0, .int 0, .int 0, .int 0, .long 0, .null, .null, .int 0, .int 0, .int 0, .int 0, .int 0, .int 0, .int 0, .int 0, .int 0, .int 0, .int 0, .int 0, .int 0, .int 0, .int 0, .int 0, .int 0, .int 0, .long 0, .int 0, .int 0, .int 0, .null, .null, .null, .null, .null, .null, .null, .null, .null, .null, .int 0, .null, .null, .int 0, .long 0, .null, .null, .null])) (fun ws => ∃ q1 q2 q3 q4 q5 q6 q7 q8 q9 q10 q11 q12 q13 q14 q15 q16 q17 q18 q19 q20 q21 q22 q23 q24 q25 q26 q27 q28 : Nat, ws = [(q28, .inl (c 0, 48, .inl (fun _ => 0))), (q27, .inl (c 1, 5, .inr (.inl (fun _ => 0)))), (q26, .inl (c 0, 5, .inl (fun _ => 0))), (q25, .inl (c 1, 5, .inr (.inl (fun _ => 0)))), (q24, .inl (c 1, 25, .inr (.inl (fun _ => 0)))), (q23, .inl (c 0, 6, .inl (fun _ => 0))), (q22, .inl (c 0, 30, .inl (fun _ => 0))), (q21, .inl (c 0, 40, .inl (fun _ => 0))), (q20, .inl (c 0, 40, .inl (fun _ => 0))), (q19, .inl (c 0, 40, .inl (fun _ => 0))), (q18, .inl (c 0, 40, .inl (fun _ => 0))), (q17, .inl (c 0, 40, .inl (fun _ => 0))), (q16, .inl (c 0, 40, .inl (fun _ => 0))), (q15, .inl (c 0, 40, .inl (fun _ => 0))), (q14, .inl (c 0, 40, .inl (fun _ => 0))), (q13, .inl (c 0, 6, .inl (fun _ => 0))), (q12, .inl (c 0, 4, .inl (fun _ => 0))), (q11, .inl (c 1, 6, .inr (.inl (fun _ => 0)))), (q10, .inl (c 0, 60, .inl (fun _ => 0))), (q9, .inl (c 0, 162, .inl (fun _ => 0))), (q8, .inl (c 0, 3, .inl (fun _ => 0))), (q7, .inl (c 0, 3, .inl (fun _ => 0))), (q6, .inl (c 0, 3, .inl (fun _ => 0))), (q5, .inl (c 0, 3, .inl (fun _ => 0))), (q4, .inl (c 2, 600, .inl (fun _ => 0))), (q3, .inl (c 1, 300, .inr (.inl (fun _ => 0)))), (q2, .inl (c 0, 5, .inl (upd (upd (upd (upd (upd (fun _ => 0) 0 (-1)) 1 (-1)) 2 (-1)) 3 (-1)) 4 (-1)))), (q1, .inl (c 0, 5, .inl (fun _ => 0))), (h0, .inr (12, [.int 0, .int 0, .long 0, .long 1, .ref q1, .ref q2, .ref q3, .ref q4, .int 0, .int 0, .int (-1), .int (-1), .int 0, .int 0, .int 0, .int 0, .int 0, .int 0, .int 0, .long 0, .ref q5, .ref q6, .ref q7, .ref q8, .ref q9, .ref q10, .ref q11, .int 0, .int 0, .int 0, .int 0, .int 0, .int (-1), .int 0, .int 0, .int 0, .int 0, .int 0, .int 0, .int 0, .int 0, .int 0, .int (-1), .long 0, .ref q12, .ref q13, .int 0, .int 0, .int 0, .int (-1), .int 0, .int 0, .int 23, .int 0, .int 0, .int 0, .int 0, .int 0, .int 0, .int 0, .int (-1), .int 0, .int 0, .int 0, .long 0, .int 0, .int 0, .int 0, .ref q14, .ref q15, .ref q16, .ref q17, .ref q18, .ref q19, .ref q20, .ref q21, .ref q22, .ref q23, .int 0, .ref q24, .ref q25, .int 0, .long 0, .ref q26, .ref q27, .ref q28]))]) := by
  refine am_ofN (by decide) rfl (Nat.le_of_ble_eq_true rfl) ?_
  refine n_aload_n (pc := 0) 0 rfl dI12_0 rfl ?_
  refine n_obj (pc := 1) (tb_7 (List.mem_of_getElem? (i := 47) (by decide +kernel))) (Nat.le_of_ble_eq_true rfl) (Nat.le_of_ble_eq_true rfl) dI12_1 ?_
  refine n_aload_n (pc := 4) 0 rfl dI12_4 rfl ?_
  refine n_lconst (pc := 5) (v := 1) dI12_5 (by decide) ?_
  refine n_put (pc := 6) (i := 0) (v := .long 1) (f' := [(h0, .inr (12, [.int 0, .int 0, .long 0, .long 1, .null, .null, .null, .null, .int 0, .int 0, .int 0, .int 0, .int 0, .int 0, .int 0, .int 0, .int 0, .int 0, .int 0, .long 0, .null, .null, .null, .null, .null, .null, .null, .int 0, .int 0, .int 0, .int 0, .int 0, .int 0, .int 0, .int 0, .int 0, .int 0, .int 0, .int 0, .int 0, .int 0, .int 0, .int 0, .long 0, .null, .null, .int 0, .int 0, .int 0, .int 0, .int 0, .int 0, .int 0, .int 0, .int 0, .int 0, .int 0, .int 0, .int 0, .int 0, .int 0, .int 0, .int 0, .int 0, .long 0, .int 0, .int 0, .int 0, .null, .null, .null, .null, .null, .null, .null, .null, .null, .null, .int 0, .null, .null, .int 0, .long 0, .null, .null, .null]))]) rfl fp_12_7 rfl rfl (Nat.le_of_ble_eq_true rfl) rfl dI12_6 ?_
  refine n_aload_n (pc := 9) 0 rfl dI12_9 rfl ?_
  refine n_iconst (pc := 10) (v := 5) dI12_10 (by decide) ?_
  refine n_newa (pc := 11) (atype := .int) (N' := 5) (ty := .int) (cI := c 0) (a0 := (5, .inl (fun _ => 0))) (t0 := 0) rfl hu_int aw_int rfl (fun _ => rfl) (by decide) (by decide) (by decide) (Nat.le_of_ble_eq_true rfl) (Nat.le_of_ble_eq_true rfl) dI12_11 (fun q1 => ?_)
  refine n_put (pc := 13) (i := 1) (v := .ref q1) (f' := [(q1, .inl (c 0, 5, .inl (fun _ => 0))), (h0, .inr (12, [.int 0, .int 0, .long 0, .long 1, .ref q1, .null, .null, .null, .int 0, .int 0, .int 0, .int 0, .int 0, .int 0, .int 0, .int 0, .int 0, .int 0, .int 0, .long 0, .null, .null, .null, .null, .null, .null, .null, .int 0, .int 0, .int 0, .int 0, .int 0, .int 0, .int 0, .int 0, .int 0, .int 0, .int 0, .int 0, .int 0, .int 0, .int 0, .int 0, .long 0, .null, .null, .int 0, .int 0, .int 0, .int 0, .int 0, .int 0, .int 0, .int 0, .int 0, .int 0, .int 0, .int 0, .int 0, .int 0, .int 0, .int 0, .int 0, .int 0, .long 0, .int 0, .int 0, .int 0, .null, .null, .null, .null, .null, .null, .null, .null, .null, .null, .int 0, .null, .null, .int 0, .long 0, .null, .null, .null]))]) rfl fp_12_13 rfl rfl (Nat.le_of_ble_eq_true rfl) rfl dI12_13 ?_
  refine n_aload_n (pc := 16) 0 rfl dI12_16 rfl ?_
  refine n_iconst (pc := 17) (v := 5) dI12_17 (by decide) ?_
  refine n_newa (pc := 18) (atype := .int) (N' := 5) (ty := .int) (cI := c 0) (a0 := (5, .inl (fun _ => 0))) (t0 := 0) rfl hu_int aw_int rfl (fun _ => rfl) (by decide) (by decide) (by decide) (Nat.le_of_ble_eq_true rfl) (Nat.le_of_ble_eq_true rfl) dI12_18 (fun q2 => ?_)
  refine n_put (pc := 20) (i := 2) (v := .ref q2) (f' := [(q2, .inl (c 0, 5, .inl (fun _ => 0))), (q1, .inl (c 0, 5, .inl (fun _ => 0))), (h0, .inr (12, [.int 0, .int 0, .long 0, .long 1, .ref q1, .ref q2, .null, .null, .int 0, .int 0, .int 0, .int 0, .int 0, .int 0, .int 0, .int 0, .int 0, .int 0, .int 0, .long 0, .null, .null, .null, .null, .null, .null, .null, .int 0, .int 0, .int 0, .int 0, .int 0, .int 0, .int 0, .int 0, .int 0, .int 0, .int 0, .int 0, .int 0, .int 0, .int 0, .int 0, .long 0, .null, .null, .int 0, .int 0, .int 0, .int 0, .int 0, .int 0, .int 0, .int 0, .int 0, .int 0, .int 0, .int 0, .int 0, .int 0, .int 0, .int 0, .int 0, .int 0, .long 0, .int 0, .int 0, .int 0, .null, .null, .null, .null, .null, .null, .null, .null, .null, .null, .int 0, .null, .null, .int 0, .long 0, .null, .null, .null]))]) rfl fp_12_17 rfl rfl (Nat.le_of_ble_eq_true rfl) rfl dI12_20 ?_
  refine n_aload_n (pc := 23) 0 rfl dI12_23 rfl ?_
  refine n_sipush (pc := 24) (v := 300) dI12_24 (by decide) ?_
  refine n_newa (pc := 27) (atype := .long) (N' := 300) (ty := .long) (cI := c 1) (a0 := (300, .inr (.inl (fun _ => 0)))) (t0 := 1) rfl hu_long aw_long rfl (fun _ => rfl) (by decide) (by decide) (by decide) (Nat.le_of_ble_eq_true rfl) (Nat.le_of_ble_eq_true rfl) dI12_27 (fun q3 => ?_)
  refine n_put (pc := 29) (i := 3) (v := .ref q3) (f' := [(q3, .inl (c 1, 300, .inr (.inl (fun _ => 0)))), (q2, .inl (c 0, 5, .inl (fun _ => 0))), (q1, .inl (c 0, 5, .inl (fun _ => 0))), (h0, .inr (12, [.int 0, .int 0, .long 0, .long 1, .ref q1, .ref q2, .ref q3, .null, .int 0, .int 0, .int 0, .int 0, .int 0, .int 0, .int 0, .int 0, .int 0, .int 0, .int 0, .long 0, .null, .null, .null, .null, .null, .null, .null, .int 0, .int 0, .int 0, .int 0, .int 0, .int 0, .int 0, .int 0, .int 0, .int 0, .int 0, .int 0, .int 0, .int 0, .int 0, .int 0, .long 0, .null, .null, .int 0, .int 0, .int 0, .int 0, .int 0, .int 0, .int 0, .int 0, .int 0, .int 0, .int 0, .int 0, .int 0, .int 0, .int 0, .int 0, .int 0, .int 0, .long 0, .int 0, .int 0, .int 0, .null, .null, .null, .null, .null, .null, .null, .null, .null, .null, .int 0, .null, .null, .int 0, .long 0, .null, .null, .null]))]) rfl fp_12_20 rfl rfl (Nat.le_of_ble_eq_true rfl) rfl dI12_29 ?_
  refine n_aload_n (pc := 32) 0 rfl dI12_32 rfl ?_
  refine n_sipush (pc := 33) (v := 600) dI12_33 (by decide) ?_
  refine n_newa (pc := 36) (atype := .byte) (N' := 600) (ty := .byte) (cI := c 2) (a0 := (600, .inl (fun _ => 0))) (t0 := 2) rfl hu_byte aw_byte rfl (fun _ => rfl) (by decide) (by decide) (by decide) (Nat.le_of_ble_eq_true rfl) (Nat.le_of_ble_eq_true rfl) dI12_36 (fun q4 => ?_)
  refine n_put (pc := 38) (i := 4) (v := .ref q4) (f' := [(q4, .inl (c 2, 600, .inl (fun _ => 0))), (q3, .inl (c 1, 300, .inr (.inl (fun _ => 0)))), (q2, .inl (c 0, 5, .inl (fun _ => 0))), (q1, .inl (c 0, 5, .inl (fun _ => 0))), (h0, .inr (12, [.int 0, .int 0, .long 0, .long 1, .ref q1, .ref q2, .ref q3, .ref q4, .int 0, .int 0, .int 0, .int 0, .int 0, .int 0, .int 0, .int 0, .int 0, .int 0, .int 0, .long 0, .null, .null, .null, .null, .null, .null, .null, .int 0, .int 0, .int 0, .int 0, .int 0, .int 0, .int 0, .int 0, .int 0, .int 0, .int 0, .int 0, .int 0, .int 0, .int 0, .int 0, .long 0, .null, .null, .int 0, .int 0, .int 0, .int 0, .int 0, .int 0, .int 0, .int 0, .int 0, .int 0, .int 0, .int 0, .int 0, .int 0, .int 0, .int 0, .int 0, .int 0, .long 0, .int 0, .int 0, .int 0, .null, .null, .null, .null, .null, .null, .null, .null, .null, .null, .int 0, .null, .null, .int 0, .long 0, .null, .null, .null]))]) rfl fp_12_24 rfl rfl (Nat.le_of_ble_eq_true rfl) rfl dI12_38 ?_
  refine n_aload_n (pc := 41) 0 rfl dI12_41 rfl ?_
  refine n_iconst (pc := 42) (v := (-1)) dI12_42 (by decide) ?_
  refine n_put (pc := 43) (i := 4) (v := .int (-1)) (f' := [(q4, .inl (c 2, 600, .inl (fun _ => 0))), (q3, .inl (c 1, 300, .inr (.inl (fun _ => 0)))), (q2, .inl (c 0, 5, .inl (fun _ => 0))), (q1, .inl (c 0, 5, .inl (fun _ => 0))), (h0, .inr (12, [.int 0, .int 0, .long 0, .long 1, .ref q1, .ref q2, .ref q3, .ref q4, .int 0, .int 0, .int (-1), .int 0, .int 0, .int 0, .int 0, .int 0, .int 0, .int 0, .int 0, .long 0, .null, .null, .null, .null, .null, .null, .null, .int 0, .int 0, .int 0, .int 0, .int 0, .int 0, .int 0, .int 0, .int 0, .int 0, .int 0, .int 0, .int 0, .int 0, .int 0, .int 0, .long 0, .null, .null, .int 0, .int 0, .int 0, .int 0, .int 0, .int 0, .int 0, .int 0, .int 0, .int 0, .int 0, .int 0, .int 0, .int 0, .int 0, .int 0, .int 0, .int 0, .long 0, .int 0, .int 0, .int 0, .null, .null, .null, .null, .null, .null, .null, .null, .null, .null, .int 0, .null, .null, .int 0, .long 0, .null, .null, .null]))]) rfl fp_12_28 rfl rfl (Nat.le_of_ble_eq_true rfl) rfl dI12_43 ?_
  refine n_aload_n (pc := 46) 0 rfl dI12_46 rfl ?_
  refine n_iconst (pc := 47) (v := (-1)) dI12_47 (by decide) ?_
  refine n_put (pc := 48) (i := 4) (v := .int (-1)) (f' := [(q4, .inl (c 2, 600, .inl (fun _ => 0))), (q3, .inl (c 1, 300, .inr (.inl (fun _ => 0)))), (q2, .inl (c 0, 5, .inl (fun _ => 0))), (q1, .inl (c 0, 5, .inl (fun _ => 0))), (h0, .inr (12, [.int 0, .int 0, .long 0, .long 1, .ref q1, .ref q2, .ref q3, .ref q4, .int 0, .int 0, .int (-1), .int (-1), .int 0, .int 0, .int 0, .int 0, .int 0, .int 0, .int 0, .long 0, .null, .null, .null, .null, .null, .null, .null, .int 0, .int 0, .int 0, .int 0, .int 0, .int 0, .int 0, .int 0, .int 0, .int 0, .int 0, .int 0, .int 0, .int 0, .int 0, .int 0, .long 0, .null, .null, .int 0, .int 0, .int 0, .int 0, .int 0, .int 0, .int 0, .int 0, .int 0, .int 0, .int 0, .int 0, .int 0, .int 0, .int 0, .int 0, .int 0, .int 0, .long 0, .int 0, .int 0, .int 0, .null, .null, .null, .null, .null, .null, .null, .null, .null, .null, .int 0, .null, .null, .int 0, .long 0, .null, .null, .null]))]) rfl fp_12_32 rfl rfl (Nat.le_of_ble_eq_true rfl) rfl dI12_48 ?_
  refine n_aload_n (pc := 51) 0 rfl dI12_51 rfl ?_
  refine n_iconst (pc := 52) (v := 3) dI12_52 (by decide) ?_
  refine n_newa (pc := 53) (atype := .int) (N' := 3) (ty := .int) (cI := c 0) (a0 := (3, .inl (fun _ => 0))) (t0 := 0) rfl hu_int aw_int rfl (fun _ => rfl) (by decide) (by decide) (by decide) (Nat.le_of_ble_eq_true rfl) (Nat.le_of_ble_eq_true rfl) dI12_53 (fun q5 => ?_)
  refine n_put (pc := 55) (i := 5) (v := .ref q5) (f' := [(q5, .inl (c 0, 3, .inl (fun _ => 0))), (q4, .inl (c 2, 600, .inl (fun _ => 0))), (q3, .inl (c 1, 300, .inr (.inl (fun _ => 0)))), (q2, .inl (c 0, 5, .inl (fun _ => 0))), (q1, .inl (c 0, 5, .inl (fun _ => 0))), (h0, .inr (12, [.int 0, .int 0, .long 0, .long 1, .ref q1, .ref q2, .ref q3, .ref q4, .int 0, .int 0, .int (-1), .int (-1), .int 0, .int 0, .int 0, .int 0, .int 0, .int 0, .int 0, .long 0, .ref q5, .null, .null, .null, .null, .null, .null, .int 0, .int 0, .int 0, .int 0, .int 0, .int 0, .int 0, .int 0, .int 0, .int 0, .int 0, .int 0, .int 0, .int 0, .int 0, .int 0, .long 0, .null, .null, .int 0, .int 0, .int 0, .int 0, .int 0, .int 0, .int 0, .int 0, .int 0, .int 0, .int 0, .int 0, .int 0, .int 0, .int 0, .int 0, .int 0, .int 0, .long 0, .int 0, .int 0, .int 0, .null, .null, .null, .null, .null, .null, .null, .null, .null, .null, .int 0, .null, .null, .int 0, .long 0, .null, .null, .null]))]) rfl fp_12_35 rfl rfl (Nat.le_of_ble_eq_true rfl) rfl dI12_55 ?_
  refine n_aload_n (pc := 58) 0 rfl dI12_58 rfl ?_
  refine n_iconst (pc := 59) (v := 3) dI12_59 (by decide) ?_
  refine n_newa (pc := 60) (atype := .int) (N' := 3) (ty := .int) (cI := c 0) (a0 := (3, .inl (fun _ => 0))) (t0 := 0) rfl hu_int aw_int rfl (fun _ => rfl) (by decide) (by decide) (by decide) (Nat.le_of_ble_eq_true rfl) (Nat.le_of_ble_eq_true rfl) dI12_60 (fun q6 => ?_)
  refine n_put (pc := 62) (i := 6) (v := .ref q6) (f' := [(q6, .inl (c 0, 3, .inl (fun _ => 0))), (q5, .inl (c 0, 3, .inl (fun _ => 0))), (q4, .inl (c 2, 600, .inl (fun _ => 0))), (q3, .inl (c 1, 300, .inr (.inl (fun _ => 0)))), (q2, .inl (c 0, 5, .inl (fun _ => 0))), (q1, .inl (c 0, 5, .inl (fun _ => 0))), (h0, .inr (12, [.int 0, .int 0, .long 0, .long 1, .ref q1, .ref q2, .ref q3, .ref q4, .int 0, .int 0, .int (-1), .int (-1), .int 0, .int 0, .int 0, .int 0, .int 0, .int 0, .int 0, .long 0, .ref q5, .ref q6, .null, .null, .null, .null, .null, .int 0, .int 0, .int 0, .int 0, .int 0, .int 0, .int 0, .int 0, .int 0, .int 0, .int 0, .int 0, .int 0, .int 0, .int 0, .int 0, .long 0, .null, .null, .int 0, .int 0, .int 0, .int 0, .int 0, .int 0, .int 0, .int 0, .int 0, .int 0, .int 0, .int 0, .int 0, .int 0, .int 0, .int 0, .int 0, .int 0, .long 0, .int 0, .int 0, .int 0, .null, .null, .null, .null, .null, .null, .null, .null, .null, .null, .int 0, .null, .null, .int 0, .long 0, .null, .null, .null]))]) rfl fp_12_38 rfl rfl (Nat.le_of_ble_eq_true rfl) rfl dI12_62 ?_
  refine n_aload_n (pc := 65) 0 rfl dI12_65 rfl ?_
  refine n_iconst (pc := 66) (v := 3) dI12_66 (by decide) ?_
  refine n_newa (pc := 67) (atype := .int) (N' := 3) (ty := .int) (cI := c 0) (a0 := (3, .inl (fun _ => 0))) (t0 := 0) rfl hu_int aw_int rfl (fun _ => rfl) (by decide) (by decide) (by decide) (Nat.le_of_ble_eq_true rfl) (Nat.le_of_ble_eq_true rfl) dI12_67 (fun q7 => ?_)
  refine n_put (pc := 69) (i := 7) (v := .ref q7) (f' := [(q7, .inl (c 0, 3, .inl (fun _ => 0))), (q6, .inl (c 0, 3, .inl (fun _ => 0))), (q5, .inl (c 0, 3, .inl (fun _ => 0))), (q4, .inl (c 2, 600, .inl (fun _ => 0))), (q3, .inl (c 1, 300, .inr (.inl (fun _ => 0)))), (q2, .inl (c 0, 5, .inl (fun _ => 0))), (q1, .inl (c 0, 5, .inl (fun _ => 0))), (h0, .inr (12, [.int 0, .int 0, .long 0, .long 1, .ref q1, .ref q2, .ref q3, .ref q4, .int 0, .int 0, .int (-1), .int (-1), .int 0, .int 0, .int 0, .int 0, .int 0, .int 0, .int 0, .long 0, .ref q5, .ref q6, .ref q7, .null, .null, .null, .null, .int 0, .int 0, .int 0, .int 0, .int 0, .int 0, .int 0, .int 0, .int 0, .int 0, .int 0, .int 0, .int 0, .int 0, .int 0, .int 0, .long 0, .null, .null, .int 0, .int 0, .int 0, .int 0, .int 0, .int 0, .int 0, .int 0, .int 0, .int 0, .int 0, .int 0, .int 0, .int 0, .int 0, .int 0, .int 0, .int 0, .long 0, .int 0, .int 0, .int 0, .null, .null, .null, .null, .null, .null, .null, .null, .null, .null, .int 0, .null, .null, .int 0, .long 0, .null, .null, .null]))]) rfl fp_12_41 rfl rfl (Nat.le_of_ble_eq_true rfl) rfl dI12_69 ?_
  refine n_aload_n (pc := 72) 0 rfl dI12_72 rfl ?_
  refine n_iconst (pc := 73) (v := 3) dI12_73 (by decide) ?_
  refine n_newa (pc := 74) (atype := .int) (N' := 3) (ty := .int) (cI := c 0) (a0 := (3, .inl (fun _ => 0))) (t0 := 0) rfl hu_int aw_int rfl (fun _ => rfl) (by decide) (by decide) (by decide) (Nat.le_of_ble_eq_true rfl) (Nat.le_of_ble_eq_true rfl) dI12_74 (fun q8 => ?_)
  refine n_put (pc := 76) (i := 8) (v := .ref q8) (f' := [(q8, .inl (c 0, 3, .inl (fun _ => 0))), (q7, .inl (c 0, 3, .inl (fun _ => 0))), (q6, .inl (c 0, 3, .inl (fun _ => 0))), (q5, .inl (c 0, 3, .inl (fun _ => 0))), (q4, .inl (c 2, 600, .inl (fun _ => 0))), (q3, .inl (c 1, 300, .inr (.inl (fun _ => 0)))), (q2, .inl (c 0, 5, .inl (fun _ => 0))), (q1, .inl (c 0, 5, .inl (fun _ => 0))), (h0, .inr (12, [.int 0, .int 0, .long 0, .long 1, .ref q1, .ref q2, .ref q3, .ref q4, .int 0, .int 0, .int (-1), .int (-1), .int 0, .int 0, .int 0, .int 0, .int 0, .int 0, .int 0, .long 0, .ref q5, .ref q6, .ref q7, .ref q8, .null, .null, .null, .int 0, .int 0, .int 0, .int 0, .int 0, .int 0, .int 0, .int 0, .int 0, .int 0, .int 0, .int 0, .int 0, .int 0, .int 0, .int 0, .long 0, .null, .null, .int 0, .int 0, .int 0, .int 0, .int 0, .int 0, .int 0, .int 0, .int 0, .int 0, .int 0, .int 0, .int 0, .int 0, .int 0, .int 0, .int 0, .int 0, .long 0, .int 0, .int 0, .int 0, .null, .null, .null, .null, .null, .null, .null, .null, .null, .null, .int 0, .null, .null, .int 0, .long 0, .null, .null, .null]))]) rfl fp_12_44 rfl rfl (Nat.le_of_ble_eq_true rfl) rfl dI12_76 ?_
  refine n_aload_n (pc := 79) 0 rfl dI12_79 rfl ?_
  refine n_sipush (pc := 80) (v := 162) dI12_80 (by decide) ?_
  refine n_newa (pc := 83) (atype := .int) (N' := 162) (ty := .int) (cI := c 0) (a0 := (162, .inl (fun _ => 0))) (t0 := 0) rfl hu_int aw_int rfl (fun _ => rfl) (by decide) (by decide) (by decide) (Nat.le_of_ble_eq_true rfl) (Nat.le_of_ble_eq_true rfl) dI12_83 (fun q9 => ?_)
  refine n_put (pc := 85) (i := 9) (v := .ref q9) (f' := [(q9, .inl (c 0, 162, .inl (fun _ => 0))), (q8, .inl (c 0, 3, .inl (fun _ => 0))), (q7, .inl (c 0, 3, .inl (fun _ => 0))), (q6, .inl (c 0, 3, .inl (fun _ => 0))), (q5, .inl (c 0, 3, .inl (fun _ => 0))), (q4, .inl (c 2, 600, .inl (fun _ => 0))), (q3, .inl (c 1, 300, .inr (.inl (fun _ => 0)))), (q2, .inl (c 0, 5, .inl (fun _ => 0))), (q1, .inl (c 0, 5, .inl (fun _ => 0))), (h0, .inr (12, [.int 0, .int 0, .long 0, .long 1, .ref q1, .ref q2, .ref q3, .ref q4, .int 0, .int 0, .int (-1), .int (-1), .int 0, .int 0, .int 0, .int 0, .int 0, .int 0, .int 0, .long 0, .ref q5, .ref q6, .ref q7, .ref q8, .ref q9, .null, .null, .int 0, .int 0, .int 0, .int 0, .int 0, .int 0, .int 0, .int 0, .int 0, .int 0, .int 0, .int 0, .int 0, .int 0, .int 0, .int 0, .long 0, .null, .null, .int 0, .int 0, .int 0, .int 0, .int 0, .int 0, .int 0, .int 0, .int 0, .int 0, .int 0, .int 0, .int 0, .int 0, .int 0, .int 0, .int 0, .int 0, .long 0, .int 0, .int 0, .int 0, .null, .null, .null, .null, .null, .null, .null, .null, .null, .null, .int 0, .null, .null, .int 0, .long 0, .null, .null, .null]))]) rfl fp_12_47 rfl rfl (Nat.le_of_ble_eq_true rfl) rfl dI12_85 ?_
  refine n_aload_n (pc := 88) 0 rfl dI12_88 rfl ?_
  refine n_bipush (pc := 89) (v := 60) dI12_89 (by decide) ?_
  refine n_newa (pc := 91) (atype := .int) (N' := 60) (ty := .int) (cI := c 0) (a0 := (60, .inl (fun _ => 0))) (t0 := 0) rfl hu_int aw_int rfl (fun _ => rfl) (by decide) (by decide) (by decide) (Nat.le_of_ble_eq_true rfl) (Nat.le_of_ble_eq_true rfl) dI12_91 (fun q10 => ?_)
  refine n_put (pc := 93) (i := 10) (v := .ref q10) (f' := [(q10, .inl (c 0, 60, .inl (fun _ => 0))), (q9, .inl (c 0, 162, .inl (fun _ => 0))), (q8, .inl (c 0, 3, .inl (fun _ => 0))), (q7, .inl (c 0, 3, .inl (fun _ => 0))), (q6, .inl (c 0, 3, .inl (fun _ => 0))), (q5, .inl (c 0, 3, .inl (fun _ => 0))), (q4, .inl (c 2, 600, .inl (fun _ => 0))), (q3, .inl (c 1, 300, .inr (.inl (fun _ => 0)))), (q2, .inl (c 0, 5, .inl (fun _ => 0))), (q1, .inl (c 0, 5, .inl (fun _ => 0))), (h0, .inr (12, [.int 0, .int 0, .long 0, .long 1, .ref q1, .ref q2, .ref q3, .ref q4, .int 0, .int 0, .int (-1), .int (-1), .int 0, .int 0, .int 0, .int 0, .int 0, .int 0, .int 0, .long 0, .ref q5, .ref q6, .ref q7, .ref q8, .ref q9, .ref q10, .null, .int 0, .int 0, .int 0, .int 0, .int 0, .int 0, .int 0, .int 0, .int 0, .int 0, .int 0, .int 0, .int 0, .int 0, .int 0, .int 0, .long 0, .null, .null, .int 0, .int 0, .int 0, .int 0, .int 0, .int 0, .int 0, .int 0, .int 0, .int 0, .int 0, .int 0, .int 0, .int 0, .int 0, .int 0, .int 0, .int 0, .long 0, .int 0, .int 0, .int 0, .null, .null, .null, .null, .null, .null, .null, .null, .null, .null, .int 0, .null, .null, .int 0, .long 0, .null, .null, .null]))]) rfl fp_12_50 rfl rfl (Nat.le_of_ble_eq_true rfl) rfl dI12_93 ?_
  refine n_aload_n (pc := 96) 0 rfl dI12_96 rfl ?_
  refine n_bipush (pc := 97) (v := 6) dI12_97 (by decide) ?_
  refine n_newa (pc := 99) (atype := .long) (N' := 6) (ty := .long) (cI := c 1) (a0 := (6, .inr (.inl (fun _ => 0)))) (t0 := 1) rfl hu_long aw_long rfl (fun _ => rfl) (by decide) (by decide) (by decide) (Nat.le_of_ble_eq_true rfl) (Nat.le_of_ble_eq_true rfl) dI12_99 (fun q11 => ?_)
  refine n_put (pc := 101) (i := 11) (v := .ref q11) (f' := [(q11, .inl (c 1, 6, .inr (.inl (fun _ => 0)))), (q10, .inl (c 0, 60, .inl (fun _ => 0))), (q9, .inl (c 0, 162, .inl (fun _ => 0))), (q8, .inl (c 0, 3, .inl (fun _ => 0))), (q7, .inl (c 0, 3, .inl (fun _ => 0))), (q6, .inl (c 0, 3, .inl (fun _ => 0))), (q5, .inl (c 0, 3, .inl (fun _ => 0))), (q4, .inl (c 2, 600, .inl (fun _ => 0))), (q3, .inl (c 1, 300, .inr (.inl (fun _ => 0)))), (q2, .inl (c 0, 5, .inl (fun _ => 0))), (q1, .inl (c 0, 5, .inl (fun _ => 0))), (h0, .inr (12, [.int 0, .int 0, .long 0, .long 1, .ref q1, .ref q2, .ref q3, .ref q4, .int 0, .int 0, .int (-1), .int (-1), .int 0, .int 0, .int 0, .int 0, .int 0, .int 0, .int 0, .long 0, .ref q5, .ref q6, .ref q7, .ref q8, .ref q9, .ref q10, .ref q11, .int 0, .int 0, .int 0, .int 0, .int 0, .int 0, .int 0, .int 0, .int 0, .int 0, .int 0, .int 0, .int 0, .int 0, .int 0, .int 0, .long 0, .null, .null, .int 0, .int 0, .int 0, .int 0, .int 0, .int 0, .int 0, .int 0, .int 0, .int 0, .int 0, .int 0, .int 0, .int 0, .int 0, .int 0, .int 0, .int 0, .long 0, .int 0, .int 0, .int 0, .null, .null, .null, .null, .null, .null, .null, .null, .null, .null, .int 0, .null, .null, .int 0, .long 0, .null, .null, .null]))]) rfl fp_12_53 rfl rfl (Nat.le_of_ble_eq_true rfl) rfl dI12_101 ?_
  refine n_aload_n (pc := 104) 0 rfl dI12_104 rfl ?_
  refine n_iconst (pc := 105) (v := (-1)) dI12_105 (by decide) ?_
  refine n_put (pc := 106) (i := 11) (v := .int (-1)) (f' := [(q11, .inl (c 1, 6, .inr (.inl (fun _ => 0)))), (q10, .inl (c 0, 60, .inl (fun _ => 0))), (q9, .inl (c 0, 162, .inl (fun _ => 0))), (q8, .inl (c 0, 3, .inl (fun _ => 0))), (q7, .inl (c 0, 3, .inl (fun _ => 0))), (q6, .inl (c 0, 3, .inl (fun _ => 0))), (q5, .inl (c 0, 3, .inl (fun _ => 0))), (q4, .inl (c 2, 600, .inl (fun _ => 0))), (q3, .inl (c 1, 300, .inr (.inl (fun _ => 0)))), (q2, .inl (c 0, 5, .inl (fun _ => 0))), (q1, .inl (c 0, 5, .inl (fun _ => 0))), (h0, .inr (12, [.int 0, .int 0, .long 0, .long 1, .ref q1, .ref q2, .ref q3, .ref q4, .int 0, .int 0, .int (-1), .int (-1), .int 0, .int 0, .int 0, .int 0, .int 0, .int 0, .int 0, .long 0, .ref q5, .ref q6, .ref q7, .ref q8, .ref q9, .ref q10, .ref q11, .int 0, .int 0, .int 0, .int 0, .int 0, .int (-1), .int 0, .int 0, .int 0, .int 0, .int 0, .int 0, .int 0, .int 0, .int 0, .int 0, .long 0, .null, .null, .int 0, .int 0, .int 0, .int 0, .int 0, .int 0, .int 0, .int 0, .int 0, .int 0, .int 0, .int 0, .int 0, .int 0, .int 0, .int 0, .int 0, .int 0, .long 0, .int 0, .int 0, .int 0, .null, .null, .null, .null, .null, .null, .null, .null, .null, .null, .int 0, .null, .null, .int 0, .long 0, .null, .null, .null]))]) rfl fp_12_56 rfl rfl (Nat.le_of_ble_eq_true rfl) rfl dI12_106 ?_
  refine n_aload_n (pc := 109) 0 rfl dI12_109 rfl ?_
  refine n_iconst (pc := 110) (v := (-1)) dI12_110 (by decide) ?_
  refine n_put (pc := 111) (i := 11) (v := .int (-1)) (f' := [(q11, .inl (c 1, 6, .inr (.inl (fun _ => 0)))), (q10, .inl (c 0, 60, .inl (fun _ => 0))), (q9, .inl (c 0, 162, .inl (fun _ => 0))), (q8, .inl (c 0, 3, .inl (fun _ => 0))), (q7, .inl (c 0, 3, .inl (fun _ => 0))), (q6, .inl (c 0, 3, .inl (fun _ => 0))), (q5, .inl (c 0, 3, .inl (fun _ => 0))), (q4, .inl (c 2, 600, .inl (fun _ => 0))), (q3, .inl (c 1, 300, .inr (.inl (fun _ => 0)))), (q2, .inl (c 0, 5, .inl (fun _ => 0))), (q1, .inl (c 0, 5, .inl (fun _ => 0))), (h0, .inr (12, [.int 0, .int 0, .long 0, .long 1, .ref q1, .ref q2, .ref q3, .ref q4, .int 0, .int 0, .int (-1), .int (-1), .int 0, .int 0, .int 0, .int 0, .int 0, .int 0, .int 0, .long 0, .ref q5, .ref q6, .ref q7, .ref q8, .ref q9, .ref q10, .ref q11, .int 0, .int 0, .int 0, .int 0, .int 0, .int (-1), .int 0, .int 0, .int 0, .int 0, .int 0, .int 0, .int 0, .int 0, .int 0, .int (-1), .long 0, .null, .null, .int 0, .int 0, .int 0, .int 0, .int 0, .int 0, .int 0, .int 0, .int 0, .int 0, .int 0, .int 0, .int 0, .int 0, .int 0, .int 0, .int 0, .int 0, .long 0, .int 0, .int 0, .int 0, .null, .null, .null, .null, .null, .null, .null, .null, .null, .null, .int 0, .null, .null, .int 0, .long 0, .null, .null, .null]))]) rfl fp_12_59 rfl rfl (Nat.le_of_ble_eq_true rfl) rfl dI12_111 ?_
  refine n_aload_n (pc := 114) 0 rfl dI12_114 rfl ?_
  refine n_iconst (pc := 115) (v := 4) dI12_115 (by decide) ?_
  refine n_newa (pc := 116) (atype := .int) (N' := 4) (ty := .int) (cI := c 0) (a0 := (4, .inl (fun _ => 0))) (t0 := 0) rfl hu_int aw_int rfl (fun _ => rfl) (by decide) (by decide) (by decide) (Nat.le_of_ble_eq_true rfl) (Nat.le_of_ble_eq_true rfl) dI12_116 (fun q12 => ?_)
  refine n_put (pc := 118) (i := 12) (v := .ref q12) (f' := [(q12, .inl (c 0, 4, .inl (fun _ => 0))), (q11, .inl (c 1, 6, .inr (.inl (fun _ => 0)))), (q10, .inl (c 0, 60, .inl (fun _ => 0))), (q9, .inl (c 0, 162, .inl (fun _ => 0))), (q8, .inl (c 0, 3, .inl (fun _ => 0))), (q7, .inl (c 0, 3, .inl (fun _ => 0))), (q6, .inl (c 0, 3, .inl (fun _ => 0))), (q5, .inl (c 0, 3, .inl (fun _ => 0))), (q4, .inl (c 2, 600, .inl (fun _ => 0))), (q3, .inl (c 1, 300, .inr (.inl (fun _ => 0)))), (q2, .inl (c 0, 5, .inl (fun _ => 0))), (q1, .inl (c 0, 5, .inl (fun _ => 0))), (h0, .inr (12, [.int 0, .int 0, .long 0, .long 1, .ref q1, .ref q2, .ref q3, .ref q4, .int 0, .int 0, .int (-1), .int (-1), .int 0, .int 0, .int 0, .int 0, .int 0, .int 0, .int 0, .long 0, .ref q5, .ref q6, .ref q7, .ref q8, .ref q9, .ref q10, .ref q11, .int 0, .int 0, .int 0, .int 0, .int 0, .int (-1), .int 0, .int 0, .int 0, .int 0, .int 0, .int 0, .int 0, .int 0, .int 0, .int (-1), .long 0, .ref q12, .null, .int 0, .int 0, .int 0, .int 0, .int 0, .int 0, .int 0, .int 0, .int 0, .int 0, .int 0, .int 0, .int 0, .int 0, .int 0, .int 0, .int 0, .int 0, .long 0, .int 0, .int 0, .int 0, .null, .null, .null, .null, .null, .null, .null, .null, .null, .null, .int 0, .null, .null, .int 0, .long 0, .null, .null, .null]))]) rfl fp_12_62 rfl rfl (Nat.le_of_ble_eq_true rfl) rfl dI12_118 ?_
  refine n_aload_n (pc := 121) 0 rfl dI12_121 rfl ?_
  refine n_bipush (pc := 122) (v := 6) dI12_122 (by decide) ?_
  refine n_newa (pc := 124) (atype := .int) (N' := 6) (ty := .int) (cI := c 0) (a0 := (6, .inl (fun _ => 0))) (t0 := 0) rfl hu_int aw_int rfl (fun _ => rfl) (by decide) (by decide) (by decide) (Nat.le_of_ble_eq_true rfl) (Nat.le_of_ble_eq_true rfl) dI12_124 (fun q13 => ?_)
  refine n_put (pc := 126) (i := 13) (v := .ref q13) (f' := [(q13, .inl (c 0, 6, .inl (fun _ => 0))), (q12, .inl (c 0, 4, .inl (fun _ => 0))), (q11, .inl (c 1, 6, .inr (.inl (fun _ => 0)))), (q10, .inl (c 0, 60, .inl (fun _ => 0))), (q9, .inl (c 0, 162, .inl (fun _ => 0))), (q8, .inl (c 0, 3, .inl (fun _ => 0))), (q7, .inl (c 0, 3, .inl (fun _ => 0))), (q6, .inl (c 0, 3, .inl (fun _ => 0))), (q5, .inl (c 0, 3, .inl (fun _ => 0))), (q4, .inl (c 2, 600, .inl (fun _ => 0))), (q3, .inl (c 1, 300, .inr (.inl (fun _ => 0)))), (q2, .inl (c 0, 5, .inl (fun _ => 0))), (q1, .inl (c 0, 5, .inl (fun _ => 0))), (h0, .inr (12, [.int 0, .int 0, .long 0, .long 1, .ref q1, .ref q2, .ref q3, .ref q4, .int 0, .int 0, .int (-1), .int (-1), .int 0, .int 0, .int 0, .int 0, .int 0, .int 0, .int 0, .long 0, .ref q5, .ref q6, .ref q7, .ref q8, .ref q9, .ref q10, .ref q11, .int 0, .int 0, .int 0, .int 0, .int 0, .int (-1), .int 0, .int 0, .int 0, .int 0, .int 0, .int 0, .int 0, .int 0, .int 0, .int (-1), .long 0, .ref q12, .ref q13, .int 0, .int 0, .int 0, .int 0, .int 0, .int 0, .int 0, .int 0, .int 0, .int 0, .int 0, .int 0, .int 0, .int 0, .int 0, .int 0, .int 0, .int 0, .long 0, .int 0, .int 0, .int 0, .null, .null, .null, .null, .null, .null, .null, .null, .null, .null, .int 0, .null, .null, .int 0, .long 0, .null, .null, .null]))]) rfl fp_12_65 rfl rfl (Nat.le_of_ble_eq_true rfl) rfl dI12_126 ?_
  refine n_aload_n (pc := 129) 0 rfl dI12_129 rfl ?_
  refine n_iconst (pc := 130) (v := (-1)) dI12_130 (by decide) ?_
  refine n_put (pc := 131) (i := 13) (v := .int (-1)) (f' := [(q13, .inl (c 0, 6, .inl (fun _ => 0))), (q12, .inl (c 0, 4, .inl (fun _ => 0))), (q11, .inl (c 1, 6, .inr (.inl (fun _ => 0)))), (q10, .inl (c 0, 60, .inl (fun _ => 0))), (q9, .inl (c 0, 162, .inl (fun _ => 0))), (q8, .inl (c 0, 3, .inl (fun _ => 0))), (q7, .inl (c 0, 3, .inl (fun _ => 0))), (q6, .inl (c 0, 3, .inl (fun _ => 0))), (q5, .inl (c 0, 3, .inl (fun _ => 0))), (q4, .inl (c 2, 600, .inl (fun _ => 0))), (q3, .inl (c 1, 300, .inr (.inl (fun _ => 0)))), (q2, .inl (c 0, 5, .inl (fun _ => 0))), (q1, .inl (c 0, 5, .inl (fun _ => 0))), (h0, .inr (12, [.int 0, .int 0, .long 0, .long 1, .ref q1, .ref q2, .ref q3, .ref q4, .int 0, .int 0, .int (-1), .int (-1), .int 0, .int 0, .int 0, .int 0, .int 0, .int 0, .int 0, .long 0, .ref q5, .ref q6, .ref q7, .ref q8, .ref q9, .ref q10, .ref q11, .int 0, .int 0, .int 0, .int 0, .int 0, .int (-1), .int 0, .int 0, .int 0, .int 0, .int 0, .int 0, .int 0, .int 0, .int 0, .int (-1), .long 0, .ref q12, .ref q13, .int 0, .int 0, .int 0, .int (-1), .int 0, .int 0, .int 0, .int 0, .int 0, .int 0, .int 0, .int 0, .int 0, .int 0, .int 0, .int 0, .int 0, .int 0, .long 0, .int 0, .int 0, .int 0, .null, .null, .null, .null, .null, .null, .null, .null, .null, .null, .int 0, .null, .null, .int 0, .long 0, .null, .null, .null]))]) rfl fp_12_68 rfl rfl (Nat.le_of_ble_eq_true rfl) rfl dI12_131 ?_
  refine n_aload_n (pc := 134) 0 rfl dI12_134 rfl ?_
  refine n_bipush (pc := 135) (v := 23) dI12_135 (by decide) ?_
  refine n_put (pc := 137) (i := 13) (v := .int 23) (f' := [(q13, .inl (c 0, 6, .inl (fun _ => 0))), (q12, .inl (c 0, 4, .inl (fun _ => 0))), (q11, .inl (c 1, 6, .inr (.inl (fun _ => 0)))), (q10, .inl (c 0, 60, .inl (fun _ => 0))), (q9, .inl (c 0, 162, .inl (fun _ => 0))), (q8, .inl (c 0, 3, .inl (fun _ => 0))), (q7, .inl (c 0, 3, .inl (fun _ => 0))), (q6, .inl (c 0, 3, .inl (fun _ => 0))), (q5, .inl (c 0, 3, .inl (fun _ => 0))), (q4, .inl (c 2, 600, .inl (fun _ => 0))), (q3, .inl (c 1, 300, .inr (.inl (fun _ => 0)))), (q2, .inl (c 0, 5, .inl (fun _ => 0))), (q1, .inl (c 0, 5, .inl (fun _ => 0))), (h0, .inr (12, [.int 0, .int 0, .long 0, .long 1, .ref q1, .ref q2, .ref q3, .ref q4, .int 0, .int 0, .int (-1), .int (-1), .int 0, .int 0, .int 0, .int 0, .int 0, .int 0, .int 0, .long 0, .ref q5, .ref q6, .ref q7, .ref q8, .ref q9, .ref q10, .ref q11, .int 0, .int 0, .int 0, .int 0, .int 0, .int (-1), .int 0, .int 0, .int 0, .int 0, .int 0, .int 0, .int 0, .int 0, .int 0, .int (-1), .long 0, .ref q12, .ref q13, .int 0, .int 0, .int 0, .int (-1), .int 0, .int 0, .int 23, .int 0, .int 0, .int 0, .int 0, .int 0, .int 0, .int 0, .int 0, .int 0, .int 0, .int 0, .long 0, .int 0, .int 0, .int 0, .null, .null, .null, .null, .null, .null, .null, .null, .null, .null, .int 0, .null, .null, .int 0, .long 0, .null, .null, .null]))]) rfl fp_12_71 rfl rfl (Nat.le_of_ble_eq_true rfl) rfl dI12_137 ?_
  refine n_aload_n (pc := 140) 0 rfl dI12_140 rfl ?_
  refine n_iconst (pc := 141) (v := (-1)) dI12_141 (by decide) ?_
  refine n_put (pc := 142) (i := 13) (v := .int (-1)) (f' := [(q13, .inl (c 0, 6, .inl (fun _ => 0))), (q12, .inl (c 0, 4, .inl (fun _ => 0))), (q11, .inl (c 1, 6, .inr (.inl (fun _ => 0)))), (q10, .inl (c 0, 60, .inl (fun _ => 0))), (q9, .inl (c 0, 162, .inl (fun _ => 0))), (q8, .inl (c 0, 3, .inl (fun _ => 0))), (q7, .inl (c 0, 3, .inl (fun _ => 0))), (q6, .inl (c 0, 3, .inl (fun _ => 0))), (q5, .inl (c 0, 3, .inl (fun _ => 0))), (q4, .inl (c 2, 600, .inl (fun _ => 0))), (q3, .inl (c 1, 300, .inr (.inl (fun _ => 0)))), (q2, .inl (c 0, 5, .inl (fun _ => 0))), (q1, .inl (c 0, 5, .inl (fun _ => 0))), (h0, .inr (12, [.int 0, .int 0, .long 0, .long 1, .ref q1, .ref q2, .ref q3, .ref q4, .int 0, .int 0, .int (-1), .int (-1), .int 0, .int 0, .int 0, .int 0, .int 0, .int 0, .int 0, .long 0, .ref q5, .ref q6, .ref q7, .ref q8, .ref q9, .ref q10, .ref q11, .int 0, .int 0, .int 0, .int 0, .int 0, .int (-1), .int 0, .int 0, .int 0, .int 0, .int 0, .int 0, .int 0, .int 0, .int 0, .int (-1), .long 0, .ref q12, .ref q13, .int 0, .int 0, .int 0, .int (-1), .int 0, .int 0, .int 23, .int 0, .int 0, .int 0, .int 0, .int 0, .int 0, .int 0, .int (-1), .int 0, .int 0, .int 0, .long 0, .int 0, .int 0, .int 0, .null, .null, .null, .null, .null, .null, .null, .null, .null, .null, .int 0, .null, .null, .int 0, .long 0, .null, .null, .null]))]) rfl fp_12_74 rfl rfl (Nat.le_of_ble_eq_true rfl) rfl dI12_142 ?_
  refine n_aload_n (pc := 145) 0 rfl dI12_145 rfl ?_
  refine n_bipush (pc := 146) (v := 40) dI12_146 (by decide) ?_
  refine n_newa (pc := 148) (atype := .int) (N' := 40) (ty := .int) (cI := c 0) (a0 := (40, .inl (fun _ => 0))) (t0 := 0) rfl hu_int aw_int rfl (fun _ => rfl) (by decide) (by decide) (by decide) (Nat.le_of_ble_eq_true rfl) (Nat.le_of_ble_eq_true rfl) dI12_148 (fun q14 => ?_)
  refine n_put (pc := 150) (i := 14) (v := .ref q14) (f' := [(q14, .inl (c 0, 40, .inl (fun _ => 0))), (q13, .inl (c 0, 6, .inl (fun _ => 0))), (q12, .inl (c 0, 4, .inl (fun _ => 0))), (q11, .inl (c 1, 6, .inr (.inl (fun _ => 0)))), (q10, .inl (c 0, 60, .inl (fun _ => 0))), (q9, .inl (c 0, 162, .inl (fun _ => 0))), (q8, .inl (c 0, 3, .inl (fun _ => 0))), (q7, .inl (c 0, 3, .inl (fun _ => 0))), (q6, .inl (c 0, 3, .inl (fun _ => 0))), (q5, .inl (c 0, 3, .inl (fun _ => 0))), (q4, .inl (c 2, 600, .inl (fun _ => 0))), (q3, .inl (c 1, 300, .inr (.inl (fun _ => 0)))), (q2, .inl (c 0, 5, .inl (fun _ => 0))), (q1, .inl (c 0, 5, .inl (fun _ => 0))), (h0, .inr (12, [.int 0, .int 0, .long 0, .long 1, .ref q1, .ref q2, .ref q3, .ref q4, .int 0, .int 0, .int (-1), .int (-1), .int 0, .int 0, .int 0, .int 0, .int 0, .int 0, .int 0, .long 0, .ref q5, .ref q6, .ref q7, .ref q8, .ref q9, .ref q10, .ref q11, .int 0, .int 0, .int 0, .int 0, .int 0, .int (-1), .int 0, .int 0, .int 0, .int 0, .int 0, .int 0, .int 0, .int 0, .int 0, .int (-1), .long 0, .ref q12, .ref q13, .int 0, .int 0, .int 0, .int (-1), .int 0, .int 0, .int 23, .int 0, .int 0, .int 0, .int 0, .int 0, .int 0, .int 0, .int (-1), .int 0, .int 0, .int 0, .long 0, .int 0, .int 0, .int 0, .ref q14, .null, .null, .null, .null, .null, .null, .null, .null, .null, .int 0, .null, .null, .int 0, .long 0, .null, .null, .null]))]) rfl fp_12_77 rfl rfl (Nat.le_of_ble_eq_true rfl) rfl dI12_150 ?_
  refine n_aload_n (pc := 153) 0 rfl dI12_153 rfl ?_
  refine n_bipush (pc := 154) (v := 40) dI12_154 (by decide) ?_
  refine n_newa (pc := 156) (atype := .int) (N' := 40) (ty := .int) (cI := c 0) (a0 := (40, .inl (fun _ => 0))) (t0 := 0) rfl hu_int aw_int rfl (fun _ => rfl) (by decide) (by decide) (by decide) (Nat.le_of_ble_eq_true rfl) (Nat.le_of_ble_eq_true rfl) dI12_156 (fun q15 => ?_)
  refine n_put (pc := 158) (i := 15) (v := .ref q15) (f' := [(q15, .inl (c 0, 40, .inl (fun _ => 0))), (q14, .inl (c 0, 40, .inl (fun _ => 0))), (q13, .inl (c 0, 6, .inl (fun _ => 0))), (q12, .inl (c 0, 4, .inl (fun _ => 0))), (q11, .inl (c 1, 6, .inr (.inl (fun _ => 0)))), (q10, .inl (c 0, 60, .inl (fun _ => 0))), (q9, .inl (c 0, 162, .inl (fun _ => 0))), (q8, .inl (c 0, 3, .inl (fun _ => 0))), (q7, .inl (c 0, 3, .inl (fun _ => 0))), (q6, .inl (c 0, 3, .inl (fun _ => 0))), (q5, .inl (c 0, 3, .inl (fun _ => 0))), (q4, .inl (c 2, 600, .inl (fun _ => 0))), (q3, .inl (c 1, 300, .inr (.inl (fun _ => 0)))), (q2, .inl (c 0, 5, .inl (fun _ => 0))), (q1, .inl (c 0, 5, .inl (fun _ => 0))), (h0, .inr (12, [.int 0, .int 0, .long 0, .long 1, .ref q1, .ref q2, .ref q3, .ref q4, .int 0, .int 0, .int (-1), .int (-1), .int 0, .int 0, .int 0, .int 0, .int 0, .int 0, .int 0, .long 0, .ref q5, .ref q6, .ref q7, .ref q8, .ref q9, .ref q10, .ref q11, .int 0, .int 0, .int 0, .int 0, .int 0, .int (-1), .int 0, .int 0, .int 0, .int 0, .int 0, .int 0, .int 0, .int 0, .int 0, .int (-1), .long 0, .ref q12, .ref q13, .int 0, .int 0, .int 0, .int (-1), .int 0, .int 0, .int 23, .int 0, .int 0, .int 0, .int 0, .int 0, .int 0, .int 0, .int (-1), .int 0, .int 0, .int 0, .long 0, .int 0, .int 0, .int 0, .ref q14, .ref q15, .null, .null, .null, .null, .null, .null, .null, .null, .int 0, .null, .null, .int 0, .long 0, .null, .null, .null]))]) rfl fp_12_80 rfl rfl (Nat.le_of_ble_eq_true rfl) rfl dI12_158 ?_
  refine n_aload_n (pc := 161) 0 rfl dI12_161 rfl ?_
  refine n_bipush (pc := 162) (v := 40) dI12_162 (by decide) ?_
  refine n_newa (pc := 164) (atype := .int) (N' := 40) (ty := .int) (cI := c 0) (a0 := (40, .inl (fun _ => 0))) (t0 := 0) rfl hu_int aw_int rfl (fun _ => rfl) (by decide) (by decide) (by decide) (Nat.le_of_ble_eq_true rfl) (Nat.le_of_ble_eq_true rfl) dI12_164 (fun q16 => ?_)
  refine n_put (pc := 166) (i := 16) (v := .ref q16) (f' := [(q16, .inl (c 0, 40, .inl (fun _ => 0))), (q15, .inl (c 0, 40, .inl (fun _ => 0))), (q14, .inl (c 0, 40, .inl (fun _ => 0))), (q13, .inl (c 0, 6, .inl (fun _ => 0))), (q12, .inl (c 0, 4, .inl (fun _ => 0))), (q11, .inl (c 1, 6, .inr (.inl (fun _ => 0)))), (q10, .inl (c 0, 60, .inl (fun _ => 0))), (q9, .inl (c 0, 162, .inl (fun _ => 0))), (q8, .inl (c 0, 3, .inl (fun _ => 0))), (q7, .inl (c 0, 3, .inl (fun _ => 0))), (q6, .inl (c 0, 3, .inl (fun _ => 0))), (q5, .inl (c 0, 3, .inl (fun _ => 0))), (q4, .inl (c 2, 600, .inl (fun _ => 0))), (q3, .inl (c 1, 300, .inr (.inl (fun _ => 0)))), (q2, .inl (c 0, 5, .inl (fun _ => 0))), (q1, .inl (c 0, 5, .inl (fun _ => 0))), (h0, .inr (12, [.int 0, .int 0, .long 0, .long 1, .ref q1, .ref q2, .ref q3, .ref q4, .int 0, .int 0, .int (-1), .int (-1), .int 0, .int 0, .int 0, .int 0, .int 0, .int 0, .int 0, .long 0, .ref q5, .ref q6, .ref q7, .ref q8, .ref q9, .ref q10, .ref q11, .int 0, .int 0, .int 0, .int 0, .int 0, .int (-1), .int 0, .int 0, .int 0, .int 0, .int 0, .int 0, .int 0, .int 0, .int 0, .int (-1), .long 0, .ref q12, .ref q13, .int 0, .int 0, .int 0, .int (-1), .int 0, .int 0, .int 23, .int 0, .int 0, .int 0, .int 0, .int 0, .int 0, .int 0, .int (-1), .int 0, .int 0, .int 0, .long 0, .int 0, .int 0, .int 0, .ref q14, .ref q15, .ref q16, .null, .null, .null, .null, .null, .null, .null, .int 0, .null, .null, .int 0, .long 0, .null, .null, .null]))]) rfl fp_12_83 rfl rfl (Nat.le_of_ble_eq_true rfl) rfl dI12_166 ?_
  refine n_aload_n (pc := 169) 0 rfl dI12_169 rfl ?_
  refine n_bipush (pc := 170) (v := 40) dI12_170 (by decide) ?_
  refine n_newa (pc := 172) (atype := .int) (N' := 40) (ty := .int) (cI := c 0) (a0 := (40, .inl (fun _ => 0))) (t0 := 0) rfl hu_int aw_int rfl (fun _ => rfl) (by decide) (by decide) (by decide) (Nat.le_of_ble_eq_true rfl) (Nat.le_of_ble_eq_true rfl) dI12_172 (fun q17 => ?_)
  refine n_put (pc := 174) (i := 17) (v := .ref q17) (f' := [(q17, .inl (c 0, 40, .inl (fun _ => 0))), (q16, .inl (c 0, 40, .inl (fun _ => 0))), (q15, .inl (c 0, 40, .inl (fun _ => 0))), (q14, .inl (c 0, 40, .inl (fun _ => 0))), (q13, .inl (c 0, 6, .inl (fun _ => 0))), (q12, .inl (c 0, 4, .inl (fun _ => 0))), (q11, .inl (c 1, 6, .inr (.inl (fun _ => 0)))), (q10, .inl (c 0, 60, .inl (fun _ => 0))), (q9, .inl (c 0, 162, .inl (fun _ => 0))), (q8, .inl (c 0, 3, .inl (fun _ => 0))), (q7, .inl (c 0, 3, .inl (fun _ => 0))), (q6, .inl (c 0, 3, .inl (fun _ => 0))), (q5, .inl (c 0, 3, .inl (fun _ => 0))), (q4, .inl (c 2, 600, .inl (fun _ => 0))), (q3, .inl (c 1, 300, .inr (.inl (fun _ => 0)))), (q2, .inl (c 0, 5, .inl (fun _ => 0))), (q1, .inl (c 0, 5, .inl (fun _ => 0))), (h0, .inr (12, [.int 0, .int 0, .long 0, .long 1, .ref q1, .ref q2, .ref q3, .ref q4, .int 0, .int 0, .int (-1), .int (-1), .int 0, .int 0, .int 0, .int 0, .int 0, .int 0, .int 0, .long 0, .ref q5, .ref q6, .ref q7, .ref q8, .ref q9, .ref q10, .ref q11, .int 0, .int 0, .int 0, .int 0, .int 0, .int (-1), .int 0, .int 0, .int 0, .int 0, .int 0, .int 0, .int 0, .int 0, .int 0, .int (-1), .long 0, .ref q12, .ref q13, .int 0, .int 0, .int 0, .int (-1), .int 0, .int 0, .int 23, .int 0, .int 0, .int 0, .int 0, .int 0, .int 0, .int 0, .int (-1), .int 0, .int 0, .int 0, .long 0, .int 0, .int 0, .int 0, .ref q14, .ref q15, .ref q16, .ref q17, .null, .null, .null, .null, .null, .null, .int 0, .null, .null, .int 0, .long 0, .null, .null, .null]))]) rfl fp_12_86 rfl rfl (Nat.le_of_ble_eq_true rfl) rfl dI12_174 ?_
  refine n_aload_n (pc := 177) 0 rfl dI12_177 rfl ?_
  refine n_bipush (pc := 178) (v := 40) dI12_178 (by decide) ?_
  refine n_newa (pc := 180) (atype := .int) (N' := 40) (ty := .int) (cI := c 0) (a0 := (40, .inl (fun _ => 0))) (t0 := 0) rfl hu_int aw_int rfl (fun _ => rfl) (by decide) (by decide) (by decide) (Nat.le_of_ble_eq_true rfl) (Nat.le_of_ble_eq_true rfl) dI12_180 (fun q18 => ?_)
  refine n_put (pc := 182) (i := 18) (v := .ref q18) (f' := [(q18, .inl (c 0, 40, .inl (fun _ => 0))), (q17, .inl (c 0, 40, .inl (fun _ => 0))), (q16, .inl (c 0, 40, .inl (fun _ => 0))), (q15, .inl (c 0, 40, .inl (fun _ => 0))), (q14, .inl (c 0, 40, .inl (fun _ => 0))), (q13, .inl (c 0, 6, .inl (fun _ => 0))), (q12, .inl (c 0, 4, .inl (fun _ => 0))), (q11, .inl (c 1, 6, .inr (.inl (fun _ => 0)))), (q10, .inl (c 0, 60, .inl (fun _ => 0))), (q9, .inl (c 0, 162, .inl (fun _ => 0))), (q8, .inl (c 0, 3, .inl (fun _ => 0))), (q7, .inl (c 0, 3, .inl (fun _ => 0))), (q6, .inl (c 0, 3, .inl (fun _ => 0))), (q5, .inl (c 0, 3, .inl (fun _ => 0))), (q4, .inl (c 2, 600, .inl (fun _ => 0))), (q3, .inl (c 1, 300, .inr (.inl (fun _ => 0)))), (q2, .inl (c 0, 5, .inl (fun _ => 0))), (q1, .inl (c 0, 5, .inl (fun _ => 0))), (h0, .inr (12, [.int 0, .int 0, .long 0, .long 1, .ref q1, .ref q2, .ref q3, .ref q4, .int 0, .int 0, .int (-1), .int (-1), .int 0, .int 0, .int 0, .int 0, .int 0, .int 0, .int 0, .long 0, .ref q5, .ref q6, .ref q7, .ref q8, .ref q9, .ref q10, .ref q11, .int 0, .int 0, .int 0, .int 0, .int 0, .int (-1), .int 0, .int 0, .int 0, .int 0, .int 0, .int 0, .int 0, .int 0, .int 0, .int (-1), .long 0, .ref q12, .ref q13, .int 0, .int 0, .int 0, .int (-1), .int 0, .int 0, .int 23, .int 0, .int 0, .int 0, .int 0, .int 0, .int 0, .int 0, .int (-1), .int 0, .int 0, .int 0, .long 0, .int 0, .int 0, .int 0, .ref q14, .ref q15, .ref q16, .ref q17, .ref q18, .null, .null, .null, .null, .null, .int 0, .null, .null, .int 0, .long 0, .null, .null, .null]))]) rfl fp_12_89 rfl rfl (Nat.le_of_ble_eq_true rfl) rfl dI12_182 ?_
  refine n_aload_n (pc := 185) 0 rfl dI12_185 rfl ?_
  refine n_bipush (pc := 186) (v := 40) dI12_186 (by decide) ?_
  refine n_newa (pc := 188) (atype := .int) (N' := 40) (ty := .int) (cI := c 0) (a0 := (40, .inl (fun _ => 0))) (t0 := 0) rfl hu_int aw_int rfl (fun _ => rfl) (by decide) (by decide) (by decide) (Nat.le_of_ble_eq_true rfl) (Nat.le_of_ble_eq_true rfl) dI12_188 (fun q19 => ?_)
  refine n_put (pc := 190) (i := 19) (v := .ref q19) (f' := [(q19, .inl (c 0, 40, .inl (fun _ => 0))), (q18, .inl (c 0, 40, .inl (fun _ => 0))), (q17, .inl (c 0, 40, .inl (fun _ => 0))), (q16, .inl (c 0, 40, .inl (fun _ => 0))), (q15, .inl (c 0, 40, .inl (fun _ => 0))), (q14, .inl (c 0, 40, .inl (fun _ => 0))), (q13, .inl (c 0, 6, .inl (fun _ => 0))), (q12, .inl (c 0, 4, .inl (fun _ => 0))), (q11, .inl (c 1, 6, .inr (.inl (fun _ => 0)))), (q10, .inl (c 0, 60, .inl (fun _ => 0))), (q9, .inl (c 0, 162, .inl (fun _ => 0))), (q8, .inl (c 0, 3, .inl (fun _ => 0))), (q7, .inl (c 0, 3, .inl (fun _ => 0))), (q6, .inl (c 0, 3, .inl (fun _ => 0))), (q5, .inl (c 0, 3, .inl (fun _ => 0))), (q4, .inl (c 2, 600, .inl (fun _ => 0))), (q3, .inl (c 1, 300, .inr (.inl (fun _ => 0)))), (q2, .inl (c 0, 5, .inl (fun _ => 0))), (q1, .inl (c 0, 5, .inl (fun _ => 0))), (h0, .inr (12, [.int 0, .int 0, .long 0, .long 1, .ref q1, .ref q2, .ref q3, .ref q4, .int 0, .int 0, .int (-1), .int (-1), .int 0, .int 0, .int 0, .int 0, .int 0, .int 0, .int 0, .long 0, .ref q5, .ref q6, .ref q7, .ref q8, .ref q9, .ref q10, .ref q11, .int 0, .int 0, .int 0, .int 0, .int 0, .int (-1), .int 0, .int 0, .int 0, .int 0, .int 0, .int 0, .int 0, .int 0, .int 0, .int (-1), .long 0, .ref q12, .ref q13, .int 0, .int 0, .int 0, .int (-1), .int 0, .int 0, .int 23, .int 0, .int 0, .int 0, .int 0, .int 0, .int 0, .int 0, .int (-1), .int 0, .int 0, .int 0, .long 0, .int 0, .int 0, .int 0, .ref q14, .ref q15, .ref q16, .ref q17, .ref q18, .ref q19, .null, .null, .null, .null, .int 0, .null, .null, .int 0, .long 0, .null, .null, .null]))]) rfl fp_12_92 rfl rfl (Nat.le_of_ble_eq_true rfl) rfl dI12_190 ?_
  refine n_aload_n (pc := 193) 0 rfl dI12_193 rfl ?_
  refine n_bipush (pc := 194) (v := 40) dI12_194 (by decide) ?_
  refine n_newa (pc := 196) (atype := .int) (N' := 40) (ty := .int) (cI := c 0) (a0 := (40, .inl (fun _ => 0))) (t0 := 0) rfl hu_int aw_int rfl (fun _ => rfl) (by decide) (by decide) (by decide) (Nat.le_of_ble_eq_true rfl) (Nat.le_of_ble_eq_true rfl) dI12_196 (fun q20 => ?_)
  refine n_put (pc := 198) (i := 20) (v := .ref q20) (f' := [(q20, .inl (c 0, 40, .inl (fun _ => 0))), (q19, .inl (c 0, 40, .inl (fun _ => 0))), (q18, .inl (c 0, 40, .inl (fun _ => 0))), (q17, .inl (c 0, 40, .inl (fun _ => 0))), (q16, .inl (c 0, 40, .inl (fun _ => 0))), (q15, .inl (c 0, 40, .inl (fun _ => 0))), (q14, .inl (c 0, 40, .inl (fun _ => 0))), (q13, .inl (c 0, 6, .inl (fun _ => 0))), (q12, .inl (c 0, 4, .inl (fun _ => 0))), (q11, .inl (c 1, 6, .inr (.inl (fun _ => 0)))), (q10, .inl (c 0, 60, .inl (fun _ => 0))), (q9, .inl (c 0, 162, .inl (fun _ => 0))), (q8, .inl (c 0, 3, .inl (fun _ => 0))), (q7, .inl (c 0, 3, .inl (fun _ => 0))), (q6, .inl (c 0, 3, .inl (fun _ => 0))), (q5, .inl (c 0, 3, .inl (fun _ => 0))), (q4, .inl (c 2, 600, .inl (fun _ => 0))), (q3, .inl (c 1, 300, .inr (.inl (fun _ => 0)))), (q2, .inl (c 0, 5, .inl (fun _ => 0))), (q1, .inl (c 0, 5, .inl (fun _ => 0))), (h0, .inr (12, [.int 0, .int 0, .long 0, .long 1, .ref q1, .ref q2, .ref q3, .ref q4, .int 0, .int 0, .int (-1), .int (-1), .int 0, .int 0, .int 0, .int 0, .int 0, .int 0, .int 0, .long 0, .ref q5, .ref q6, .ref q7, .ref q8, .ref q9, .ref q10, .ref q11, .int 0, .int 0, .int 0, .int 0, .int 0, .int (-1), .int 0, .int 0, .int 0, .int 0, .int 0, .int 0, .int 0, .int 0, .int 0, .int (-1), .long 0, .ref q12, .ref q13, .int 0, .int 0, .int 0, .int (-1), .int 0, .int 0, .int 23, .int 0, .int 0, .int 0, .int 0, .int 0, .int 0, .int 0, .int (-1), .int 0, .int 0, .int 0, .long 0, .int 0, .int 0, .int 0, .ref q14, .ref q15, .ref q16, .ref q17, .ref q18, .ref q19, .ref q20, .null, .null, .null, .int 0, .null, .null, .int 0, .long 0, .null, .null, .null]))]) rfl fp_12_95 rfl rfl (Nat.le_of_ble_eq_true rfl) rfl dI12_198 ?_
  refine n_aload_n (pc := 201) 0 rfl dI12_201 rfl ?_
  refine n_bipush (pc := 202) (v := 40) dI12_202 (by decide) ?_
  refine n_newa (pc := 204) (atype := .int) (N' := 40) (ty := .int) (cI := c 0) (a0 := (40, .inl (fun _ => 0))) (t0 := 0) rfl hu_int aw_int rfl (fun _ => rfl) (by decide) (by decide) (by decide) (Nat.le_of_ble_eq_true rfl) (Nat.le_of_ble_eq_true rfl) dI12_204 (fun q21 => ?_)
  refine n_put (pc := 206) (i := 21) (v := .ref q21) (f' := [(q21, .inl (c 0, 40, .inl (fun _ => 0))), (q20, .inl (c 0, 40, .inl (fun _ => 0))), (q19, .inl (c 0, 40, .inl (fun _ => 0))), (q18, .inl (c 0, 40, .inl (fun _ => 0))), (q17, .inl (c 0, 40, .inl (fun _ => 0))), (q16, .inl (c 0, 40, .inl (fun _ => 0))), (q15, .inl (c 0, 40, .inl (fun _ => 0))), (q14, .inl (c 0, 40, .inl (fun _ => 0))), (q13, .inl (c 0, 6, .inl (fun _ => 0))), (q12, .inl (c 0, 4, .inl (fun _ => 0))), (q11, .inl (c 1, 6, .inr (.inl (fun _ => 0)))), (q10, .inl (c 0, 60, .inl (fun _ => 0))), (q9, .inl (c 0, 162, .inl (fun _ => 0))), (q8, .inl (c 0, 3, .inl (fun _ => 0))), (q7, .inl (c 0, 3, .inl (fun _ => 0))), (q6, .inl (c 0, 3, .inl (fun _ => 0))), (q5, .inl (c 0, 3, .inl (fun _ => 0))), (q4, .inl (c 2, 600, .inl (fun _ => 0))), (q3, .inl (c 1, 300, .inr (.inl (fun _ => 0)))), (q2, .inl (c 0, 5, .inl (fun _ => 0))), (q1, .inl (c 0, 5, .inl (fun _ => 0))), (h0, .inr (12, [.int 0, .int 0, .long 0, .long 1, .ref q1, .ref q2, .ref q3, .ref q4, .int 0, .int 0, .int (-1), .int (-1), .int 0, .int 0, .int 0, .int 0, .int 0, .int 0, .int 0, .long 0, .ref q5, .ref q6, .ref q7, .ref q8, .ref q9, .ref q10, .ref q11, .int 0, .int 0, .int 0, .int 0, .int 0, .int (-1), .int 0, .int 0, .int 0, .int 0, .int 0, .int 0, .int 0, .int 0, .int 0, .int (-1), .long 0, .ref q12, .ref q13, .int 0, .int 0, .int 0, .int (-1), .int 0, .int 0, .int 23, .int 0, .int 0, .int 0, .int 0, .int 0, .int 0, .int 0, .int (-1), .int 0, .int 0, .int 0, .long 0, .int 0, .int 0, .int 0, .ref q14, .ref q15, .ref q16, .ref q17, .ref q18, .ref q19, .ref q20, .ref q21, .null, .null, .int 0, .null, .null, .int 0, .long 0, .null, .null, .null]))]) rfl fp_12_98 rfl rfl (Nat.le_of_ble_eq_true rfl) rfl dI12_206 ?_
  refine n_aload_n (pc := 209) 0 rfl dI12_209 rfl ?_
  refine n_bipush (pc := 210) (v := 30) dI12_210 (by decide) ?_
  refine n_newa (pc := 212) (atype := .int) (N' := 30) (ty := .int) (cI := c 0) (a0 := (30, .inl (fun _ => 0))) (t0 := 0) rfl hu_int aw_int rfl (fun _ => rfl) (by decide) (by decide) (by decide) (Nat.le_of_ble_eq_true rfl) (Nat.le_of_ble_eq_true rfl) dI12_212 (fun q22 => ?_)
  refine n_put (pc := 214) (i := 22) (v := .ref q22) (f' := [(q22, .inl (c 0, 30, .inl (fun _ => 0))), (q21, .inl (c 0, 40, .inl (fun _ => 0))), (q20, .inl (c 0, 40, .inl (fun _ => 0))), (q19, .inl (c 0, 40, .inl (fun _ => 0))), (q18, .inl (c 0, 40, .inl (fun _ => 0))), (q17, .inl (c 0, 40, .inl (fun _ => 0))), (q16, .inl (c 0, 40, .inl (fun _ => 0))), (q15, .inl (c 0, 40, .inl (fun _ => 0))), (q14, .inl (c 0, 40, .inl (fun _ => 0))), (q13, .inl (c 0, 6, .inl (fun _ => 0))), (q12, .inl (c 0, 4, .inl (fun _ => 0))), (q11, .inl (c 1, 6, .inr (.inl (fun _ => 0)))), (q10, .inl (c 0, 60, .inl (fun _ => 0))), (q9, .inl (c 0, 162, .inl (fun _ => 0))), (q8, .inl (c 0, 3, .inl (fun _ => 0))), (q7, .inl (c 0, 3, .inl (fun _ => 0))), (q6, .inl (c 0, 3, .inl (fun _ => 0))), (q5, .inl (c 0, 3, .inl (fun _ => 0))), (q4, .inl (c 2, 600, .inl (fun _ => 0))), (q3, .inl (c 1, 300, .inr (.inl (fun _ => 0)))), (q2, .inl (c 0, 5, .inl (fun _ => 0))), (q1, .inl (c 0, 5, .inl (fun _ => 0))), (h0, .inr (12, [.int 0, .int 0, .long 0, .long 1, .ref q1, .ref q2, .ref q3, .ref q4, .int 0, .int 0, .int (-1), .int (-1), .int 0, .int 0, .int 0, .int 0, .int 0, .int 0, .int 0, .long 0, .ref q5, .ref q6, .ref q7, .ref q8, .ref q9, .ref q10, .ref q11, .int 0, .int 0, .int 0, .int 0, .int 0, .int (-1), .int 0, .int 0, .int 0, .int 0, .int 0, .int 0, .int 0, .int 0, .int 0, .int (-1), .long 0, .ref q12, .ref q13, .int 0, .int 0, .int 0, .int (-1), .int 0, .int 0, .int 23, .int 0, .int 0, .int 0, .int 0, .int 0, .int 0, .int 0, .int (-1), .int 0, .int 0, .int 0, .long 0, .int 0, .int 0, .int 0, .ref q14, .ref q15, .ref q16, .ref q17, .ref q18, .ref q19, .ref q20, .ref q21, .ref q22, .null, .int 0, .null, .null, .int 0, .long 0, .null, .null, .null]))]) rfl fp_12_101 rfl rfl (Nat.le_of_ble_eq_true rfl) rfl dI12_214 ?_
  refine n_aload_n (pc := 217) 0 rfl dI12_217 rfl ?_
  refine n_bipush (pc := 218) (v := 6) dI12_218 (by decide) ?_
  refine n_newa (pc := 220) (atype := .int) (N' := 6) (ty := .int) (cI := c 0) (a0 := (6, .inl (fun _ => 0))) (t0 := 0) rfl hu_int aw_int rfl (fun _ => rfl) (by decide) (by decide) (by decide) (Nat.le_of_ble_eq_true rfl) (Nat.le_of_ble_eq_true rfl) dI12_220 (fun q23 => ?_)
  refine n_put (pc := 222) (i := 23) (v := .ref q23) (f' := [(q23, .inl (c 0, 6, .inl (fun _ => 0))), (q22, .inl (c 0, 30, .inl (fun _ => 0))), (q21, .inl (c 0, 40, .inl (fun _ => 0))), (q20, .inl (c 0, 40, .inl (fun _ => 0))), (q19, .inl (c 0, 40, .inl (fun _ => 0))), (q18, .inl (c 0, 40, .inl (fun _ => 0))), (q17, .inl (c 0, 40, .inl (fun _ => 0))), (q16, .inl (c 0, 40, .inl (fun _ => 0))), (q15, .inl (c 0, 40, .inl (fun _ => 0))), (q14, .inl (c 0, 40, .inl (fun _ => 0))), (q13, .inl (c 0, 6, .inl (fun _ => 0))), (q12, .inl (c 0, 4, .inl (fun _ => 0))), (q11, .inl (c 1, 6, .inr (.inl (fun _ => 0)))), (q10, .inl (c 0, 60, .inl (fun _ => 0))), (q9, .inl (c 0, 162, .inl (fun _ => 0))), (q8, .inl (c 0, 3, .inl (fun _ => 0))), (q7, .inl (c 0, 3, .inl (fun _ => 0))), (q6, .inl (c 0, 3, .inl (fun _ => 0))), (q5, .inl (c 0, 3, .inl (fun _ => 0))), (q4, .inl (c 2, 600, .inl (fun _ => 0))), (q3, .inl (c 1, 300, .inr (.inl (fun _ => 0)))), (q2, .inl (c 0, 5, .inl (fun _ => 0))), (q1, .inl (c 0, 5, .inl (fun _ => 0))), (h0, .inr (12, [.int 0, .int 0, .long 0, .long 1, .ref q1, .ref q2, .ref q3, .ref q4, .int 0, .int 0, .int (-1), .int (-1), .int 0, .int 0, .int 0, .int 0, .int 0, .int 0, .int 0, .long 0, .ref q5, .ref q6, .ref q7, .ref q8, .ref q9, .ref q10, .ref q11, .int 0, .int 0, .int 0, .int 0, .int 0, .int (-1), .int 0, .int 0, .int 0, .int 0, .int 0, .int 0, .int 0, .int 0, .int 0, .int (-1), .long 0, .ref q12, .ref q13, .int 0, .int 0, .int 0, .int (-1), .int 0, .int 0, .int 23, .int 0, .int 0, .int 0, .int 0, .int 0, .int 0, .int 0, .int (-1), .int 0, .int 0, .int 0, .long 0, .int 0, .int 0, .int 0, .ref q14, .ref q15, .ref q16, .ref q17, .ref q18, .ref q19, .ref q20, .ref q21, .ref q22, .ref q23, .int 0, .null, .null, .int 0, .long 0, .null, .null, .null]))]) rfl fp_12_104 rfl rfl (Nat.le_of_ble_eq_true rfl) rfl dI12_222 ?_
  refine n_aload_n (pc := 225) 0 rfl dI12_225 rfl ?_
  refine n_bipush (pc := 226) (v := 25) dI12_226 (by decide) ?_
  refine n_newa (pc := 228) (atype := .long) (N' := 25) (ty := .long) (cI := c 1) (a0 := (25, .inr (.inl (fun _ => 0)))) (t0 := 1) rfl hu_long aw_long rfl (fun _ => rfl) (by decide) (by decide) (by decide) (Nat.le_of_ble_eq_true rfl) (Nat.le_of_ble_eq_true rfl) dI12_228 (fun q24 => ?_)
  refine n_put (pc := 230) (i := 24) (v := .ref q24) (f' := [(q24, .inl (c 1, 25, .inr (.inl (fun _ => 0)))), (q23, .inl (c 0, 6, .inl (fun _ => 0))), (q22, .inl (c 0, 30, .inl (fun _ => 0))), (q21, .inl (c 0, 40, .inl (fun _ => 0))), (q20, .inl (c 0, 40, .inl (fun _ => 0))), (q19, .inl (c 0, 40, .inl (fun _ => 0))), (q18, .inl (c 0, 40, .inl (fun _ => 0))), (q17, .inl (c 0, 40, .inl (fun _ => 0))), (q16, .inl (c 0, 40, .inl (fun _ => 0))), (q15, .inl (c 0, 40, .inl (fun _ => 0))), (q14, .inl (c 0, 40, .inl (fun _ => 0))), (q13, .inl (c 0, 6, .inl (fun _ => 0))), (q12, .inl (c 0, 4, .inl (fun _ => 0))), (q11, .inl (c 1, 6, .inr (.inl (fun _ => 0)))), (q10, .inl (c 0, 60, .inl (fun _ => 0))), (q9, .inl (c 0, 162, .inl (fun _ => 0))), (q8, .inl (c 0, 3, .inl (fun _ => 0))), (q7, .inl (c 0, 3, .inl (fun _ => 0))), (q6, .inl (c 0, 3, .inl (fun _ => 0))), (q5, .inl (c 0, 3, .inl (fun _ => 0))), (q4, .inl (c 2, 600, .inl (fun _ => 0))), (q3, .inl (c 1, 300, .inr (.inl (fun _ => 0)))), (q2, .inl (c 0, 5, .inl (fun _ => 0))), (q1, .inl (c 0, 5, .inl (fun _ => 0))), (h0, .inr (12, [.int 0, .int 0, .long 0, .long 1, .ref q1, .ref q2, .ref q3, .ref q4, .int 0, .int 0, .int (-1), .int (-1), .int 0, .int 0, .int 0, .int 0, .int 0, .int 0, .int 0, .long 0, .ref q5, .ref q6, .ref q7, .ref q8, .ref q9, .ref q10, .ref q11, .int 0, .int 0, .int 0, .int 0, .int 0, .int (-1), .int 0, .int 0, .int 0, .int 0, .int 0, .int 0, .int 0, .int 0, .int 0, .int (-1), .long 0, .ref q12, .ref q13, .int 0, .int 0, .int 0, .int (-1), .int 0, .int 0, .int 23, .int 0, .int 0, .int 0, .int 0, .int 0, .int 0, .int 0, .int (-1), .int 0, .int 0, .int 0, .long 0, .int 0, .int 0, .int 0, .ref q14, .ref q15, .ref q16, .ref q17, .ref q18, .ref q19, .ref q20, .ref q21, .ref q22, .ref q23, .int 0, .ref q24, .null, .int 0, .long 0, .null, .null, .null]))]) rfl fp_12_107 rfl rfl (Nat.le_of_ble_eq_true rfl) rfl dI12_230 ?_
  refine n_aload_n (pc := 233) 0 rfl dI12_233 rfl ?_
  refine n_iconst (pc := 234) (v := 5) dI12_234 (by decide) ?_
  refine n_newa (pc := 235) (atype := .long) (N' := 5) (ty := .long) (cI := c 1) (a0 := (5, .inr (.inl (fun _ => 0)))) (t0 := 1) rfl hu_long aw_long rfl (fun _ => rfl) (by decide) (by decide) (by decide) (Nat.le_of_ble_eq_true rfl) (Nat.le_of_ble_eq_true rfl) dI12_235 (fun q25 => ?_)
  refine n_put (pc := 237) (i := 25) (v := .ref q25) (f' := [(q25, .inl (c 1, 5, .inr (.inl (fun _ => 0)))), (q24, .inl (c 1, 25, .inr (.inl (fun _ => 0)))), (q23, .inl (c 0, 6, .inl (fun _ => 0))), (q22, .inl (c 0, 30, .inl (fun _ => 0))), (q21, .inl (c 0, 40, .inl (fun _ => 0))), (q20, .inl (c 0, 40, .inl (fun _ => 0))), (q19, .inl (c 0, 40, .inl (fun _ => 0))), (q18, .inl (c 0, 40, .inl (fun _ => 0))), (q17, .inl (c 0, 40, .inl (fun _ => 0))), (q16, .inl (c 0, 40, .inl (fun _ => 0))), (q15, .inl (c 0, 40, .inl (fun _ => 0))), (q14, .inl (c 0, 40, .inl (fun _ => 0))), (q13, .inl (c 0, 6, .inl (fun _ => 0))), (q12, .inl (c 0, 4, .inl (fun _ => 0))), (q11, .inl (c 1, 6, .inr (.inl (fun _ => 0)))), (q10, .inl (c 0, 60, .inl (fun _ => 0))), (q9, .inl (c 0, 162, .inl (fun _ => 0))), (q8, .inl (c 0, 3, .inl (fun _ => 0))), (q7, .inl (c 0, 3, .inl (fun _ => 0))), (q6, .inl (c 0, 3, .inl (fun _ => 0))), (q5, .inl (c 0, 3, .inl (fun _ => 0))), (q4, .inl (c 2, 600, .inl (fun _ => 0))), (q3, .inl (c 1, 300, .inr (.inl (fun _ => 0)))), (q2, .inl (c 0, 5, .inl (fun _ => 0))), (q1, .inl (c 0, 5, .inl (fun _ => 0))), (h0, .inr (12, [.int 0, .int 0, .long 0, .long 1, .ref q1, .ref q2, .ref q3, .ref q4, .int 0, .int 0, .int (-1), .int (-1), .int 0, .int 0, .int 0, .int 0, .int 0, .int 0, .int 0, .long 0, .ref q5, .ref q6, .ref q7, .ref q8, .ref q9, .ref q10, .ref q11, .int 0, .int 0, .int 0, .int 0, .int 0, .int (-1), .int 0, .int 0, .int 0, .int 0, .int 0, .int 0, .int 0, .int 0, .int 0, .int (-1), .long 0, .ref q12, .ref q13, .int 0, .int 0, .int 0, .int (-1), .int 0, .int 0, .int 23, .int 0, .int 0, .int 0, .int 0, .int 0, .int 0, .int 0, .int (-1), .int 0, .int 0, .int 0, .long 0, .int 0, .int 0, .int 0, .ref q14, .ref q15, .ref q16, .ref q17, .ref q18, .ref q19, .ref q20, .ref q21, .ref q22, .ref q23, .int 0, .ref q24, .ref q25, .int 0, .long 0, .null, .null, .null]))]) rfl fp_12_110 rfl rfl (Nat.le_of_ble_eq_true rfl) rfl dI12_237 ?_
  refine n_aload_n (pc := 240) 0 rfl dI12_240 rfl ?_
  refine n_iconst (pc := 241) (v := 5) dI12_241 (by decide) ?_
  refine n_newa (pc := 242) (atype := .int) (N' := 5) (ty := .int) (cI := c 0) (a0 := (5, .inl (fun _ => 0))) (t0 := 0) rfl hu_int aw_int rfl (fun _ => rfl) (by decide) (by decide) (by decide) (Nat.le_of_ble_eq_true rfl) (Nat.le_of_ble_eq_true rfl) dI12_242 (fun q26 => ?_)
  refine n_put (pc := 244) (i := 26) (v := .ref q26) (f' := [(q26, .inl (c 0, 5, .inl (fun _ => 0))), (q25, .inl (c 1, 5, .inr (.inl (fun _ => 0)))), (q24, .inl (c 1, 25, .inr (.inl (fun _ => 0)))), (q23, .inl (c 0, 6, .inl (fun _ => 0))), (q22, .inl (c 0, 30, .inl (fun _ => 0))), (q21, .inl (c 0, 40, .inl (fun _ => 0))), (q20, .inl (c 0, 40, .inl (fun _ => 0))), (q19, .inl (c 0, 40, .inl (fun _ => 0))), (q18, .inl (c 0, 40, .inl (fun _ => 0))), (q17, .inl (c 0, 40, .inl (fun _ => 0))), (q16, .inl (c 0, 40, .inl (fun _ => 0))), (q15, .inl (c 0, 40, .inl (fun _ => 0))), (q14, .inl (c 0, 40, .inl (fun _ => 0))), (q13, .inl (c 0, 6, .inl (fun _ => 0))), (q12, .inl (c 0, 4, .inl (fun _ => 0))), (q11, .inl (c 1, 6, .inr (.inl (fun _ => 0)))), (q10, .inl (c 0, 60, .inl (fun _ => 0))), (q9, .inl (c 0, 162, .inl (fun _ => 0))), (q8, .inl (c 0, 3, .inl (fun _ => 0))), (q7, .inl (c 0, 3, .inl (fun _ => 0))), (q6, .inl (c 0, 3, .inl (fun _ => 0))), (q5, .inl (c 0, 3, .inl (fun _ => 0))), (q4, .inl (c 2, 600, .inl (fun _ => 0))), (q3, .inl (c 1, 300, .inr (.inl (fun _ => 0)))), (q2, .inl (c 0, 5, .inl (fun _ => 0))), (q1, .inl (c 0, 5, .inl (fun _ => 0))), (h0, .inr (12, [.int 0, .int 0, .long 0, .long 1, .ref q1, .ref q2, .ref q3, .ref q4, .int 0, .int 0, .int (-1), .int (-1), .int 0, .int 0, .int 0, .int 0, .int 0, .int 0, .int 0, .long 0, .ref q5, .ref q6, .ref q7, .ref q8, .ref q9, .ref q10, .ref q11, .int 0, .int 0, .int 0, .int 0, .int 0, .int (-1), .int 0, .int 0, .int 0, .int 0, .int 0, .int 0, .int 0, .int 0, .int 0, .int (-1), .long 0, .ref q12, .ref q13, .int 0, .int 0, .int 0, .int (-1), .int 0, .int 0, .int 23, .int 0, .int 0, .int 0, .int 0, .int 0, .int 0, .int 0, .int (-1), .int 0, .int 0, .int 0, .long 0, .int 0, .int 0, .int 0, .ref q14, .ref q15, .ref q16, .ref q17, .ref q18, .ref q19, .ref q20, .ref q21, .ref q22, .ref q23, .int 0, .ref q24, .ref q25, .int 0, .long 0, .ref q26, .null, .null]))]) rfl fp_12_113 rfl rfl (Nat.le_of_ble_eq_true rfl) rfl dI12_244 ?_
  refine n_aload_n (pc := 247) 0 rfl dI12_247 rfl ?_
  refine n_iconst (pc := 248) (v := 5) dI12_248 (by decide) ?_
  refine n_newa (pc := 249) (atype := .long) (N' := 5) (ty := .long) (cI := c 1) (a0 := (5, .inr (.inl (fun _ => 0)))) (t0 := 1) rfl hu_long aw_long rfl (fun _ => rfl) (by decide) (by decide) (by decide) (Nat.le_of_ble_eq_true rfl) (Nat.le_of_ble_eq_true rfl) dI12_249 (fun q27 => ?_)
  refine n_put (pc := 251) (i := 27) (v := .ref q27) (f' := [(q27, .inl (c 1, 5, .inr (.inl (fun _ => 0)))), (q26, .inl (c 0, 5, .inl (fun _ => 0))), (q25, .inl (c 1, 5, .inr (.inl (fun _ => 0)))), (q24, .inl (c 1, 25, .inr (.inl (fun _ => 0)))), (q23, .inl (c 0, 6, .inl (fun _ => 0))), (q22, .inl (c 0, 30, .inl (fun _ => 0))), (q21, .inl (c 0, 40, .inl (fun _ => 0))), (q20, .inl (c 0, 40, .inl (fun _ => 0))), (q19, .inl (c 0, 40, .inl (fun _ => 0))), (q18, .inl (c 0, 40, .inl (fun _ => 0))), (q17, .inl (c 0, 40, .inl (fun _ => 0))), (q16, .inl (c 0, 40, .inl (fun _ => 0))), (q15, .inl (c 0, 40, .inl (fun _ => 0))), (q14, .inl (c 0, 40, .inl (fun _ => 0))), (q13, .inl (c 0, 6, .inl (fun _ => 0))), (q12, .inl (c 0, 4, .inl (fun _ => 0))), (q11, .inl (c 1, 6, .inr (.inl (fun _ => 0)))), (q10, .inl (c 0, 60, .inl (fun _ => 0))), (q9, .inl (c 0, 162, .inl (fun _ => 0))), (q8, .inl (c 0, 3, .inl (fun _ => 0))), (q7, .inl (c 0, 3, .inl (fun _ => 0))), (q6, .inl (c 0, 3, .inl (fun _ => 0))), (q5, .inl (c 0, 3, .inl (fun _ => 0))), (q4, .inl (c 2, 600, .inl (fun _ => 0))), (q3, .inl (c 1, 300, .inr (.inl (fun _ => 0)))), (q2, .inl (c 0, 5, .inl (fun _ => 0))), (q1, .inl (c 0, 5, .inl (fun _ => 0))), (h0, .inr (12, [.int 0, .int 0, .long 0, .long 1, .ref q1, .ref q2, .ref q3, .ref q4, .int 0, .int 0, .int (-1), .int (-1), .int 0, .int 0, .int 0, .int 0, .int 0, .int 0, .int 0, .long 0, .ref q5, .ref q6, .ref q7, .ref q8, .ref q9, .ref q10, .ref q11, .int 0, .int 0, .int 0, .int 0, .int 0, .int (-1), .int 0, .int 0, .int 0, .int 0, .int 0, .int 0, .int 0, .int 0, .int 0, .int (-1), .long 0, .ref q12, .ref q13, .int 0, .int 0, .int 0, .int (-1), .int 0, .int 0, .int 23, .int 0, .int 0, .int 0, .int 0, .int 0, .int 0, .int 0, .int (-1), .int 0, .int 0, .int 0, .long 0, .int 0, .int 0, .int 0, .ref q14, .ref q15, .ref q16, .ref q17, .ref q18, .ref q19, .ref q20, .ref q21, .ref q22, .ref q23, .int 0, .ref q24, .ref q25, .int 0, .long 0, .ref q26, .ref q27, .null]))]) rfl fp_12_116 rfl rfl (Nat.le_of_ble_eq_true rfl) rfl dI12_251 ?_
  refine n_aload_n (pc := 254) 0 rfl dI12_254 rfl ?_
  refine n_bipush (pc := 255) (v := 48) dI12_255 (by decide) ?_
  refine n_newa (pc := 257) (atype := .int) (N' := 48) (ty := .int) (cI := c 0) (a0 := (48, .inl (fun _ => 0))) (t0 := 0) rfl hu_int aw_int rfl (fun _ => rfl) (by decide) (by decide) (by decide) (Nat.le_of_ble_eq_true rfl) (Nat.le_of_ble_eq_true rfl) dI12_257 (fun q28 => ?_)
  refine n_put (pc := 259) (i := 28) (v := .ref q28) (f' := [(q28, .inl (c 0, 48, .inl (fun _ => 0))), (q27, .inl (c 1, 5, .inr (.inl (fun _ => 0)))), (q26, .inl (c 0, 5, .inl (fun _ => 0))), (q25, .inl (c 1, 5, .inr (.inl (fun _ => 0)))), (q24, .inl (c 1, 25, .inr (.inl (fun _ => 0)))), (q23, .inl (c 0, 6, .inl (fun _ => 0))), (q22, .inl (c 0, 30, .inl (fun _ => 0))), (q21, .inl (c 0, 40, .inl (fun _ => 0))), (q20, .inl (c 0, 40, .inl (fun _ => 0))), (q19, .inl (c 0, 40, .inl (fun _ => 0))), (q18, .inl (c 0, 40, .inl (fun _ => 0))), (q17, .inl (c 0, 40, .inl (fun _ => 0))), (q16, .inl (c 0, 40, .inl (fun _ => 0))), (q15, .inl (c 0, 40, .inl (fun _ => 0))), (q14, .inl (c 0, 40, .inl (fun _ => 0))), (q13, .inl (c 0, 6, .inl (fun _ => 0))), (q12, .inl (c 0, 4, .inl (fun _ => 0))), (q11, .inl (c 1, 6, .inr (.inl (fun _ => 0)))), (q10, .inl (c 0, 60, .inl (fun _ => 0))), (q9, .inl (c 0, 162, .inl (fun _ => 0))), (q8, .inl (c 0, 3, .inl (fun _ => 0))), (q7, .inl (c 0, 3, .inl (fun _ => 0))), (q6, .inl (c 0, 3, .inl (fun _ => 0))), (q5, .inl (c 0, 3, .inl (fun _ => 0))), (q4, .inl (c 2, 600, .inl (fun _ => 0))), (q3, .inl (c 1, 300, .inr (.inl (fun _ => 0)))), (q2, .inl (c 0, 5, .inl (fun _ => 0))), (q1, .inl (c 0, 5, .inl (fun _ => 0))), (h0, .inr (12, [.int 0, .int 0, .long 0, .long 1, .ref q1, .ref q2, .ref q3, .ref q4, .int 0, .int 0, .int (-1), .int (-1), .int 0, .int 0, .int 0, .int 0, .int 0, .int 0, .int 0, .long 0, .ref q5, .ref q6, .ref q7, .ref q8, .ref q9, .ref q10, .ref q11, .int 0, .int 0, .int 0, .int 0, .int 0, .int (-1), .int 0, .int 0, .int 0, .int 0, .int 0, .int 0, .int 0, .int 0, .int 0, .int (-1), .long 0, .ref q12, .ref q13, .int 0, .int 0, .int 0, .int (-1), .int 0, .int 0, .int 23, .int 0, .int 0, .int 0, .int 0, .int 0, .int 0, .int 0, .int (-1), .int 0, .int 0, .int 0, .long 0, .int 0, .int 0, .int 0, .ref q14, .ref q15, .ref q16, .ref q17, .ref q18, .ref q19, .ref q20, .ref q21, .ref q22, .ref q23, .int 0, .ref q24, .ref q25, .int 0, .long 0, .ref q26, .ref q27, .ref q28]))]) rfl fp_12_119 rfl rfl (Nat.le_of_ble_eq_true rfl) rfl dI12_259 ?_
  refine n_iconst (pc := 262) (v := 0) dI12_262 (by decide) ?_
  refine n_istore_n (pc := 263) [(1, .int 0), (0, .ref h0)] dI12_263 rfl (Nat.le_of_ble_eq_true rfl) rfl ?_
  refine n_iload_n (pc := 264) 0 rfl dI12_264 rfl ?_
  refine n_iconst (pc := 265) (v := 5) dI12_265 (by decide) ?_
  refine n_geF (pc := 266) 282 (by decide) dI12_266 rfl ?_
  refine n_aload_n (pc := 269) 1 rfl dI12_269 rfl ?_
  refine n_get (pc := 270) (i := 28) (v := .ref q2) rfl fp_12_17 rfl dI12_270 ?_
  refine n_iload_n (pc := 273) 0 rfl dI12_273 rfl ?_
  refine n_iconst (pc := 274) (v := (-1)) dI12_274 (by decide) ?_
  refine n_iast (pc := 275) (i := 26) (t0 := 0) (f' := [(q28, .inl (c 0, 48, .inl (fun _ => 0))), (q27, .inl (c 1, 5, .inr (.inl (fun _ => 0)))), (q26, .inl (c 0, 5, .inl (fun _ => 0))), (q25, .inl (c 1, 5, .inr (.inl (fun _ => 0)))), (q24, .inl (c 1, 25, .inr (.inl (fun _ => 0)))), (q23, .inl (c 0, 6, .inl (fun _ => 0))), (q22, .inl (c 0, 30, .inl (fun _ => 0))), (q21, .inl (c 0, 40, .inl (fun _ => 0))), (q20, .inl (c 0, 40, .inl (fun _ => 0))), (q19, .inl (c 0, 40, .inl (fun _ => 0))), (q18, .inl (c 0, 40, .inl (fun _ => 0))), (q17, .inl (c 0, 40, .inl (fun _ => 0))), (q16, .inl (c 0, 40, .inl (fun _ => 0))), (q15, .inl (c 0, 40, .inl (fun _ => 0))), (q14, .inl (c 0, 40, .inl (fun _ => 0))), (q13, .inl (c 0, 6, .inl (fun _ => 0))), (q12, .inl (c 0, 4, .inl (fun _ => 0))), (q11, .inl (c 1, 6, .inr (.inl (fun _ => 0)))), (q10, .inl (c 0, 60, .inl (fun _ => 0))), (q9, .inl (c 0, 162, .inl (fun _ => 0))), (q8, .inl (c 0, 3, .inl (fun _ => 0))), (q7, .inl (c 0, 3, .inl (fun _ => 0))), (q6, .inl (c 0, 3, .inl (fun _ => 0))), (q5, .inl (c 0, 3, .inl (fun _ => 0))), (q4, .inl (c 2, 600, .inl (fun _ => 0))), (q3, .inl (c 1, 300, .inr (.inl (fun _ => 0)))), (q2, .inl (c 0, 5, .inl (upd (fun _ => 0) 0 (-1)))), (q1, .inl (c 0, 5, .inl (fun _ => 0))), (h0, .inr (12, [.int 0, .int 0, .long 0, .long 1, .ref q1, .ref q2, .ref q3, .ref q4, .int 0, .int 0, .int (-1), .int (-1), .int 0, .int 0, .int 0, .int 0, .int 0, .int 0, .int 0, .long 0, .ref q5, .ref q6, .ref q7, .ref q8, .ref q9, .ref q10, .ref q11, .int 0, .int 0, .int 0, .int 0, .int 0, .int (-1), .int 0, .int 0, .int 0, .int 0, .int 0, .int 0, .int 0, .int 0, .int 0, .int (-1), .long 0, .ref q12, .ref q13, .int 0, .int 0, .int 0, .int (-1), .int 0, .int 0, .int 23, .int 0, .int 0, .int 0, .int 0, .int 0, .int 0, .int 0, .int (-1), .int 0, .int 0, .int 0, .long 0, .int 0, .int 0, .int 0, .ref q14, .ref q15, .ref q16, .ref q17, .ref q18, .ref q19, .ref q20, .ref q21, .ref q22, .ref q23, .int 0, .ref q24, .ref q25, .int 0, .long 0, .ref q26, .ref q27, .ref q28]))]) rfl rfl (by unfold vp_in; decide) rfl dI12_275 ?_
  refine n_iinc (pc := 276) (v := 1) 0 [(1, .int 1), (0, .ref h0)] dI12_276 rfl (by decide) (Nat.le_of_ble_eq_true rfl) rfl ?_
  refine n_goto (pc := 279) 264 dI12_279 rfl ?_
  refine n_iload_n (pc := 264) 0 rfl dI12_264 rfl ?_
  refine n_iconst (pc := 265) (v := 5) dI12_265 (by decide) ?_
  refine n_geF (pc := 266) 282 (by decide) dI12_266 rfl ?_
  refine n_aload_n (pc := 269) 1 rfl dI12_269 rfl ?_
  refine n_get (pc := 270) (i := 28) (v := .ref q2) rfl fp_12_17 rfl dI12_270 ?_
  refine n_iload_n (pc := 273) 0 rfl dI12_273 rfl ?_
  refine n_iconst (pc := 274) (v := (-1)) dI12_274 (by decide) ?_
  refine n_iast (pc := 275) (i := 26) (t0 := 0) (f' := [(q28, .inl (c 0, 48, .inl (fun _ => 0))), (q27, .inl (c 1, 5, .inr (.inl (fun _ => 0)))), (q26, .inl (c 0, 5, .inl (fun _ => 0))), (q25, .inl (c 1, 5, .inr (.inl (fun _ => 0)))), (q24, .inl (c 1, 25, .inr (.inl (fun _ => 0)))), (q23, .inl (c 0, 6, .inl (fun _ => 0))), (q22, .inl (c 0, 30, .inl (fun _ => 0))), (q21, .inl (c 0, 40, .inl (fun _ => 0))), (q20, .inl (c 0, 40, .inl (fun _ => 0))), (q19, .inl (c 0, 40, .inl (fun _ => 0))), (q18, .inl (c 0, 40, .inl (fun _ => 0))), (q17, .inl (c 0, 40, .inl (fun _ => 0))), (q16, .inl (c 0, 40, .inl (fun _ => 0))), (q15, .inl (c 0, 40, .inl (fun _ => 0))), (q14, .inl (c 0, 40, .inl (fun _ => 0))), (q13, .inl (c 0, 6, .inl (fun _ => 0))), (q12, .inl (c 0, 4, .inl (fun _ => 0))), (q11, .inl (c 1, 6, .inr (.inl (fun _ => 0)))), (q10, .inl (c 0, 60, .inl (fun _ => 0))), (q9, .inl (c 0, 162, .inl (fun _ => 0))), (q8, .inl (c 0, 3, .inl (fun _ => 0))), (q7, .inl (c 0, 3, .inl (fun _ => 0))), (q6, .inl (c 0, 3, .inl (fun _ => 0))), (q5, .inl (c 0, 3, .inl (fun _ => 0))), (q4, .inl (c 2, 600, .inl (fun _ => 0))), (q3, .inl (c 1, 300, .inr (.inl (fun _ => 0)))), (q2, .inl (c 0, 5, .inl (upd (upd (fun _ => 0) 0 (-1)) 1 (-1)))), (q1, .inl (c 0, 5, .inl (fun _ => 0))), (h0, .inr (12, [.int 0, .int 0, .long 0, .long 1, .ref q1, .ref q2, .ref q3, .ref q4, .int 0, .int 0, .int (-1), .int (-1), .int 0, .int 0, .int 0, .int 0, .int 0, .int 0, .int 0, .long 0, .ref q5, .ref q6, .ref q7, .ref q8, .ref q9, .ref q10, .ref q11, .int 0, .int 0, .int 0, .int 0, .int 0, .int (-1), .int 0, .int 0, .int 0, .int 0, .int 0, .int 0, .int 0, .int 0, .int 0, .int (-1), .long 0, .ref q12, .ref q13, .int 0, .int 0, .int 0, .int (-1), .int 0, .int 0, .int 23, .int 0, .int 0, .int 0, .int 0, .int 0, .int 0, .int 0, .int (-1), .int 0, .int 0, .int 0, .long 0, .int 0, .int 0, .int 0, .ref q14, .ref q15, .ref q16, .ref q17, .ref q18, .ref q19, .ref q20, .ref q21, .ref q22, .ref q23, .int 0, .ref q24, .ref q25, .int 0, .long 0, .ref q26, .ref q27, .ref q28]))]) rfl rfl (by unfold vp_in; decide) rfl dI12_275 ?_
  refine n_iinc (pc := 276) (v := 2) 0 [(1, .int 2), (0, .ref h0)] dI12_276 rfl (by decide) (Nat.le_of_ble_eq_true rfl) rfl ?_
  refine n_goto (pc := 279) 264 dI12_279 rfl ?_
  refine n_iload_n (pc := 264) 0 rfl dI12_264 rfl ?_
  refine n_iconst (pc := 265) (v := 5) dI12_265 (by decide) ?_
  refine n_geF (pc := 266) 282 (by decide) dI12_266 rfl ?_
  refine n_aload_n (pc := 269) 1 rfl dI12_269 rfl ?_
  refine n_get (pc := 270) (i := 28) (v := .ref q2) rfl fp_12_17 rfl dI12_270 ?_
  refine n_iload_n (pc := 273) 0 rfl dI12_273 rfl ?_
  refine n_iconst (pc := 274) (v := (-1)) dI12_274 (by decide) ?_
  refine n_iast (pc := 275) (i := 26) (t0 := 0) (f' := [(q28, .inl (c 0, 48, .inl (fun _ => 0))), (q27, .inl (c 1, 5, .inr (.inl (fun _ => 0)))), (q26, .inl (c 0, 5, .inl (fun _ => 0))), (q25, .inl (c 1, 5, .inr (.inl (fun _ => 0)))), (q24, .inl (c 1, 25, .inr (.inl (fun _ => 0)))), (q23, .inl (c 0, 6, .inl (fun _ => 0))), (q22, .inl (c 0, 30, .inl (fun _ => 0))), (q21, .inl (c 0, 40, .inl (fun _ => 0))), (q20, .inl (c 0, 40, .inl (fun _ => 0))), (q19, .inl (c 0, 40, .inl (fun _ => 0))), (q18, .inl (c 0, 40, .inl (fun _ => 0))), (q17, .inl (c 0, 40, .inl (fun _ => 0))), (q16, .inl (c 0, 40, .inl (fun _ => 0))), (q15, .inl (c 0, 40, .inl (fun _ => 0))), (q14, .inl (c 0, 40, .inl (fun _ => 0))), (q13, .inl (c 0, 6, .inl (fun _ => 0))), (q12, .inl (c 0, 4, .inl (fun _ => 0))), (q11, .inl (c 1, 6, .inr (.inl (fun _ => 0)))), (q10, .inl (c 0, 60, .inl (fun _ => 0))), (q9, .inl (c 0, 162, .inl (fun _ => 0))), (q8, .inl (c 0, 3, .inl (fun _ => 0))), (q7, .inl (c 0, 3, .inl (fun _ => 0))), (q6, .inl (c 0, 3, .inl (fun _ => 0))), (q5, .inl (c 0, 3, .inl (fun _ => 0))), (q4, .inl (c 2, 600, .inl (fun _ => 0))), (q3, .inl (c 1, 300, .inr (.inl (fun _ => 0)))), (q2, .inl (c 0, 5, .inl (upd (upd (upd (fun _ => 0) 0 (-1)) 1 (-1)) 2 (-1)))), (q1, .inl (c 0, 5, .inl (fun _ => 0))), (h0, .inr (12, [.int 0, .int 0, .long 0, .long 1, .ref q1, .ref q2, .ref q3, .ref q4, .int 0, .int 0, .int (-1), .int (-1), .int 0, .int 0, .int 0, .int 0, .int 0, .int 0, .int 0, .long 0, .ref q5, .ref q6, .ref q7, .ref q8, .ref q9, .ref q10, .ref q11, .int 0, .int 0, .int 0, .int 0, .int 0, .int (-1), .int 0, .int 0, .int 0, .int 0, .int 0, .int 0, .int 0, .int 0, .int 0, .int (-1), .long 0, .ref q12, .ref q13, .int 0, .int 0, .int 0, .int (-1), .int 0, .int 0, .int 23, .int 0, .int 0, .int 0, .int 0, .int 0, .int 0, .int 0, .int (-1), .int 0, .int 0, .int 0, .long 0, .int 0, .int 0, .int 0, .ref q14, .ref q15, .ref q16, .ref q17, .ref q18, .ref q19, .ref q20, .ref q21, .ref q22, .ref q23, .int 0, .ref q24, .ref q25, .int 0, .long 0, .ref q26, .ref q27, .ref q28]))]) rfl rfl (by unfold vp_in; decide) rfl dI12_275 ?_
  refine n_iinc (pc := 276) (v := 3) 0 [(1, .int 3), (0, .ref h0)] dI12_276 rfl (by decide) (Nat.le_of_ble_eq_true rfl) rfl ?_
  refine n_goto (pc := 279) 264 dI12_279 rfl ?_
  refine n_iload_n (pc := 264) 0 rfl dI12_264 rfl ?_
  refine n_iconst (pc := 265) (v := 5) dI12_265 (by decide) ?_
  refine n_geF (pc := 266) 282 (by decide) dI12_266 rfl ?_
  refine n_aload_n (pc := 269) 1 rfl dI12_269 rfl ?_
  refine n_get (pc := 270) (i := 28) (v := .ref q2) rfl fp_12_17 rfl dI12_270 ?_
  refine n_iload_n (pc := 273) 0 rfl dI12_273 rfl ?_
  refine n_iconst (pc := 274) (v := (-1)) dI12_274 (by decide) ?_
  refine n_iast (pc := 275) (i := 26) (t0 := 0) (f' := [(q28, .inl (c 0, 48, .inl (fun _ => 0))), (q27, .inl (c 1, 5, .inr (.inl (fun _ => 0)))), (q26, .inl (c 0, 5, .inl (fun _ => 0))), (q25, .inl (c 1, 5, .inr (.inl (fun _ => 0)))), (q24, .inl (c 1, 25, .inr (.inl (fun _ => 0)))), (q23, .inl (c 0, 6, .inl (fun _ => 0))), (q22, .inl (c 0, 30, .inl (fun _ => 0))), (q21, .inl (c 0, 40, .inl (fun _ => 0))), (q20, .inl (c 0, 40, .inl (fun _ => 0))), (q19, .inl (c 0, 40, .inl (fun _ => 0))), (q18, .inl (c 0, 40, .inl (fun _ => 0))), (q17, .inl (c 0, 40, .inl (fun _ => 0))), (q16, .inl (c 0, 40, .inl (fun _ => 0))), (q15, .inl (c 0, 40, .inl (fun _ => 0))), (q14, .inl (c 0, 40, .inl (fun _ => 0))), (q13, .inl (c 0, 6, .inl (fun _ => 0))), (q12, .inl (c 0, 4, .inl (fun _ => 0))), (q11, .inl (c 1, 6, .inr (.inl (fun _ => 0)))), (q10, .inl (c 0, 60, .inl (fun _ => 0))), (q9, .inl (c 0, 162, .inl (fun _ => 0))), (q8, .inl (c 0, 3, .inl (fun _ => 0))), (q7, .inl (c 0, 3, .inl (fun _ => 0))), (q6, .inl (c 0, 3, .inl (fun _ => 0))), (q5, .inl (c 0, 3, .inl (fun _ => 0))), (q4, .inl (c 2, 600, .inl (fun _ => 0))), (q3, .inl (c 1, 300, .inr (.inl (fun _ => 0)))), (q2, .inl (c 0, 5, .inl (upd (upd (upd (upd (fun _ => 0) 0 (-1)) 1 (-1)) 2 (-1)) 3 (-1)))), (q1, .inl (c 0, 5, .inl (fun _ => 0))), (h0, .inr (12, [.int 0, .int 0, .long 0, .long 1, .ref q1, .ref q2, .ref q3, .ref q4, .int 0, .int 0, .int (-1), .int (-1), .int 0, .int 0, .int 0, .int 0, .int 0, .int 0, .int 0, .long 0, .ref q5, .ref q6, .ref q7, .ref q8, .ref q9, .ref q10, .ref q11, .int 0, .int 0, .int 0, .int 0, .int 0, .int (-1), .int 0, .int 0, .int 0, .int 0, .int 0, .int 0, .int 0, .int 0, .int 0, .int (-1), .long 0, .ref q12, .ref q13, .int 0, .int 0, .int 0, .int (-1), .int 0, .int 0, .int 23, .int 0, .int 0, .int 0, .int 0, .int 0, .int 0, .int 0, .int (-1), .int 0, .int 0, .int 0, .long 0, .int 0, .int 0, .int 0, .ref q14, .ref q15, .ref q16, .ref q17, .ref q18, .ref q19, .ref q20, .ref q21, .ref q22, .ref q23, .int 0, .ref q24, .ref q25, .int 0, .long 0, .ref q26, .ref q27, .ref q28]))]) rfl rfl (by unfold vp_in; decide) rfl dI12_275 ?_
  refine n_iinc (pc := 276) (v := 4) 0 [(1, .int 4), (0, .ref h0)] dI12_276 rfl (by decide) (Nat.le_of_ble_eq_true rfl) rfl ?_
  refine n_goto (pc := 279) 264 dI12_279 rfl ?_
  refine n_iload_n (pc := 264) 0 rfl dI12_264 rfl ?_
  refine n_iconst (pc := 265) (v := 5) dI12_265 (by decide) ?_
  refine n_geF (pc := 266) 282 (by decide) dI12_266 rfl ?_
  refine n_aload_n (pc := 269) 1 rfl dI12_269 rfl ?_
  refine n_get (pc := 270) (i := 28) (v := .ref q2) rfl fp_12_17 rfl dI12_270 ?_
  refine n_iload_n (pc := 273) 0 rfl dI12_273 rfl ?_
  refine n_iconst (pc := 274) (v := (-1)) dI12_274 (by decide) ?_
  refine n_iast (pc := 275) (i := 26) (t0 := 0) (f' := [(q28, .inl (c 0, 48, .inl (fun _ => 0))), (q27, .inl (c 1, 5, .inr (.inl (fun _ => 0)))), (q26, .inl (c 0, 5, .inl (fun _ => 0))), (q25, .inl (c 1, 5, .inr (.inl (fun _ => 0)))), (q24, .inl (c 1, 25, .inr (.inl (fun _ => 0)))), (q23, .inl (c 0, 6, .inl (fun _ => 0))), (q22, .inl (c 0, 30, .inl (fun _ => 0))), (q21, .inl (c 0, 40, .inl (fun _ => 0))), (q20, .inl (c 0, 40, .inl (fun _ => 0))), (q19, .inl (c 0, 40, .inl (fun _ => 0))), (q18, .inl (c 0, 40, .inl (fun _ => 0))), (q17, .inl (c 0, 40, .inl (fun _ => 0))), (q16, .inl (c 0, 40, .inl (fun _ => 0))), (q15, .inl (c 0, 40, .inl (fun _ => 0))), (q14, .inl (c 0, 40, .inl (fun _ => 0))), (q13, .inl (c 0, 6, .inl (fun _ => 0))), (q12, .inl (c 0, 4, .inl (fun _ => 0))), (q11, .inl (c 1, 6, .inr (.inl (fun _ => 0)))), (q10, .inl (c 0, 60, .inl (fun _ => 0))), (q9, .inl (c 0, 162, .inl (fun _ => 0))), (q8, .inl (c 0, 3, .inl (fun _ => 0))), (q7, .inl (c 0, 3, .inl (fun _ => 0))), (q6, .inl (c 0, 3, .inl (fun _ => 0))), (q5, .inl (c 0, 3, .inl (fun _ => 0))), (q4, .inl (c 2, 600, .inl (fun _ => 0))), (q3, .inl (c 1, 300, .inr (.inl (fun _ => 0)))), (q2, .inl (c 0, 5, .inl (upd (upd (upd (upd (upd (fun _ => 0) 0 (-1)) 1 (-1)) 2 (-1)) 3 (-1)) 4 (-1)))), (q1, .inl (c 0, 5, .inl (fun _ => 0))), (h0, .inr (12, [.int 0, .int 0, .long 0, .long 1, .ref q1, .ref q2, .ref q3, .ref q4, .int 0, .int 0, .int (-1), .int (-1), .int 0, .int 0, .int 0, .int 0, .int 0, .int 0, .int 0, .long 0, .ref q5, .ref q6, .ref q7, .ref q8, .ref q9, .ref q10, .ref q11, .int 0, .int 0, .int 0, .int 0, .int 0, .int (-1), .int 0, .int 0, .int 0, .int 0, .int 0, .int 0, .int 0, .int 0, .int 0, .int (-1), .long 0, .ref q12, .ref q13, .int 0, .int 0, .int 0, .int (-1), .int 0, .int 0, .int 23, .int 0, .int 0, .int 0, .int 0, .int 0, .int 0, .int 0, .int (-1), .int 0, .int 0, .int 0, .long 0, .int 0, .int 0, .int 0, .ref q14, .ref q15, .ref q16, .ref q17, .ref q18, .ref q19, .ref q20, .ref q21, .ref q22, .ref q23, .int 0, .ref q24, .ref q25, .int 0, .long 0, .ref q26, .ref q27, .ref q28]))]) rfl rfl (by unfold vp_in; decide) rfl dI12_275 ?_
  refine n_iinc (pc := 276) (v := 5) 0 [(1, .int 5), (0, .ref h0)] dI12_276 rfl (by decide) (Nat.le_of_ble_eq_true rfl) rfl ?_
  refine n_goto (pc := 279) 264 dI12_279 rfl ?_
  refine n_iload_n (pc := 264) 0 rfl dI12_264 rfl ?_
  refine n_iconst (pc := 265) (v := 5) dI12_265 (by decide) ?_
  refine n_geT (pc := 266) 282 (by decide) dI12_266 rfl ?_
  exact n_ret (pc := 282) dI12_282 (Nat.le_refl _) (Nat.le_refl _) ⟨_, ⟨q1, q2, q3, q4, q5, q6, q7, q8, q9, q10, q11, q12, q13, q14, q15, q16, q17, q18, q19, q20, q21, q22, q23, q24, q25, q26, q27, q28, rfl⟩, List.Perm.refl _⟩
