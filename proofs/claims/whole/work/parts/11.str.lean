/-! ===== text constants: length() and charAt() ===== -/
section
variable {X : am_X} {Γ : am_M} {Q : Option Value → am_H → Prop} {pc : Nat} {lv : List (Nat × Value)} {st : List Value} {σ : am_H}
/-- a call on a text constant -/
theorem g_cK {Γ' : am_M} {n N idx : Nat} {As st0 st1 : List Value} {r0 : Option Value} {σ0 : am_H} (hf : am_fl1 X = true) (hi : n < am_sN) (hm : am_mV Γ' N) (hcl : Γ'.1.cls = "java/lang/String") (hln : Cond.methodLink Γ.1.cls idx Γ'.1 ∈ lw_tbl) (hn : As.length = N) (hr : Γ'.2.2.2.2 + 1 ≤ Γ.2.2.2.2) (hst : (st.map fun v => v.category).sum ≤ 8)
    (hM : am_C X Γ' (.ref (am_kK X n) :: As) σ (am_is r0 σ0)) (d : decode Γ.2.1 pc = .ok (.invokevirtual idx, 3)) (hA : As.reverse ++ .ref (am_kK X n) :: st = st0) (hB : r0.toList ++ st = st1) (kk : am_G X Γ Q (pc + 3) lv st1 σ0) : am_G X Γ Q pc lv st0 σ := by
  intro p e R s m args below meth c S H locs ls hP hS hl
  obtain ⟨hx, hb, hret, hml, hown, hlk, hT, hR, hK, hC, hJ⟩ := id S
  obtain ⟨⟨hcd, hini, hmh, hpd, hmx⟩, hins, hsel⟩ := hm
  subst hA
  subst hB
  have hlen : ∀ sig, parseMethodDescriptor Γ'.1.desc = some sig → N = sig.parameters.length := by
    intro sig h
    rw [h] at hpd
    exact (Option.some.inj hpd).symm
  have hrm : (am_rm Γ'.2.2.2.2).frames + 1 ≤ R.frames ∧ 8 + (Γ'.2.2.1 + 11) + (am_rm Γ'.2.2.2.2).locals ≤ R.locals := by
    refine ⟨Nat.le_trans hr hR.1, ?_⟩
    have h2 := hR.2
    show 8 + (Γ'.2.2.1 + 11) + 100 * Γ'.2.2.2.2 ≤ R.locals
    omega
  have hpv : PreV s H Γ'.1.cls (am_kK X n) (va_Pc (.ref (am_kK X n) :: As) (am_B X σ)) As := ⟨am_blind, by rw [hcl]; exact vk_recv (hC hf).1.1 hi hS, fun U hU hW => ⟨rfl, am_pre hT hK hC hJ hP hS hU hW⟩⟩
  exact am_run S hS hl (va_runV (As := As) (rest := st) (Ts := []) (own := Γ.1.cls) ⟨hx, hb, rfl, hown, fun _ h => absurd h List.not_mem_nil⟩ hM ⟨⟨rfl, rfl, hrm.1, hrm.2, am_pay hT hcd, List.mem_singleton.mpr rfl, hT.a hcd rfl, hT.a hini rfl, hmh, hlen, hT.a hln rfl⟩, hT.a hins rfl, hT.a hsel rfl⟩ hpv rfl hn (hl.1.trans hml.symm) rfl (by show 2 * 0 + _ ≤ 8; omega) d ⟨Nat.zero_le _, Nat.zero_le _⟩) kk
theorem g_kcod {n idx : Nat} (hf : am_fl1 X = true) (hi : n < am_sN) (hln : Cond.fieldLink Γ.1.cls idx "java/lang/String" "coder" "B" ∈ lw_tbl) (d : decode Γ.2.1 pc = .ok (.getfield idx, 3)) (kk : am_G X Γ Q (pc + 3) lv (.int 0 :: st) σ) : am_G X Γ Q pc lv (.ref (am_kK X n) :: st) σ := by
  intro p e R s m args below meth c S H locs ls hP hS hl
  obtain ⟨hx, hb, hret, hml, hown, hlk, hT, hR, hK, hC, hJ⟩ := id S
  exact vk_getf hx hb ((hC hf).1.1.1 n hi).2.1 hS hown (hT.a hln rfl) (fun _ h => h) d (kk p e R s m args below meth c S H locs ls hP hS hl)
theorem g_kval {n idx : Nat} (hf : am_fl1 X = true) (hi : n < am_sN) (hln : Cond.fieldLink Γ.1.cls idx "java/lang/String" "value" "[B" ∈ lw_tbl) (d : decode Γ.2.1 pc = .ok (.getfield idx, 3)) (kk : am_G X Γ Q (pc + 3) lv (.ref (am_kV X n) :: st) σ) : am_G X Γ Q pc lv (.ref (am_kK X n) :: st) σ := by
  intro p e R s m args below meth c S H locs ls hP hS hl
  obtain ⟨hx, hb, hret, hml, hown, hlk, hT, hR, hK, hC, hJ⟩ := id S
  exact vk_getf hx hb ((hC hf).1.1.1 n hi).2.2.1 hS hown (hT.a hln rfl) (fun _ h => h) d (kk p e R s m args below meth c S H locs ls hP hS hl)
theorem g_klen {n : Nat} (hf : am_fl1 X = true) (hi : n < am_sN) (d : decode Γ.2.1 pc = .ok (.arraylength, 1)) (kk : am_G X Γ Q (pc + 1) lv (.int (am_slen n) :: st) σ) : am_G X Γ Q pc lv (.ref (am_kV X n) :: st) σ := by
  intro p e R s m args below meth c S H locs ls hP hS hl
  obtain ⟨hx, hb, hret, hml, hown, hlk, hT, hR, hK, hC, hJ⟩ := id S
  exact va_tlen hx hb ((hC hf).1.1.1 n hi).2.2.2 hS rfl d (kk p e R s m args below meth c S H locs ls hP hS hl)
theorem g_kbal {n j : Nat} {x : Int32} (hf : am_fl1 X = true) (hi : n < am_sN) (hj : am_ix (am_sL.getD n 0) x = some j) (d : decode Γ.2.1 pc = .ok (.baload, 1)) (kk : am_G X Γ Q (pc + 1) lv (.int (am_sch n j) :: st) σ) : am_G X Γ Q pc lv (.int x :: .ref (am_kV X n) :: st) σ := by
  intro p e R s m args below meth c S H locs ls hP hS hl
  obtain ⟨hx, hb, hret, hml, hown, hlk, hT, hR, hK, hC, hJ⟩ := id S
  obtain ⟨h1, rfl⟩ := am_ix_in hj
  exact va_tb hx hb ((hC hf).1.1.1 n hi).2.2.2 hS h1 rfl d (kk p e R s m args below meth c S H locs ls hP hS hl)
theorem g_kcmp {idx : Nat} (hf : am_fl1 X = true) (hln : Cond.fieldLink Γ.1.cls idx "java/lang/String" "COMPACT_STRINGS" "Z" ∈ lw_tbl) (d : decode Γ.2.1 pc = .ok (.getstatic idx, 3)) (kk : am_G X Γ Q (pc + 3) lv (.int 1 :: st) σ) : am_G X Γ Q pc lv st σ := by
  intro p e R s m args below meth c S H locs ls hP hS hl
  obtain ⟨hx, hb, -, hml, hown, -, hT, -, -, hC, -⟩ := id S
  exact va_gets hx hb (hC hf).2.2.2.1 hS hown (hT.a hln rfl) (fun _ h => h) d (kk p e R s m args below meth c S H locs ls hP hS hl)
theorem g_i2c {x v : Int32} (d : decode Γ.2.1 pc = .ok (.i2c, 1)) (hv : (x.toUInt32 % 65536).toInt32 = v) (kk : am_G X Γ Q (pc + 1) lv (.int v :: st) σ) : am_G X Γ Q pc lv (.int x :: st) σ := by
  intro p e R s m args below meth c S H locs ls hP hS hl
  obtain ⟨hx, hb, -⟩ := id S
  exact lv_i2c hx hb d hv (kk p e R s m args below meth c S H locs ls hP hS hl)
theorem g_nreturn {x : Int32} {ty : FieldType} (hr : Γ.2.2.2.1 = some ty) (hn : narrow ty (.int x) = .int x) (d : decode Γ.2.1 pc = .ok (.ireturn, 1)) (hq : Q (some (.int x)) σ) : am_G X Γ Q pc lv [.int x] σ := by
  intro p e R s m args below meth c S H locs ls hP hS hl
  obtain ⟨hx, hb, hret, -, -, hlk, -⟩ := id S
  exact W.zret hx hb (hret.trans hr) hn (fun t ht hW => ⟨⟨_, σ, rfl, hq, by rw [ht]; exact hP⟩, hS.F ht⟩) hS.2.2 d hlk
theorem g_kfmt {idx : Nat} (hf : am_fl1 X = true) (hln : Cond.fieldLink Γ.1.cls idx "jdk/internal/util/Preconditions" "SIOOBE_FORMATTER" "Ljava/util/function/BiFunction;" ∈ lw_tbl) (d : decode Γ.2.1 pc = .ok (.getstatic idx, 3)) (kk : ∀ v : Value, (v = .null ∨ ∃ t, v = .ref t) → am_G X Γ Q (pc + 3) lv (v :: st) σ) : am_G X Γ Q pc lv st σ := by
  intro p e R s m args below meth c S H locs ls hP hS hl
  obtain ⟨hx, hb, -, hml, hown, -, hT, -, -, hC, -⟩ := id S
  rcases (hC hf).2.2.2.2 with h | ⟨t, h⟩
  · exact va_gets hx hb h hS hown (hT.a hln rfl) (fun _ h => h) d (kk .null (Or.inl rfl) p e R s m args below meth c S H locs ls hP hS hl)
  · exact va_gets hx hb h hS hown (hT.a hln rfl) (fun _ h => h) d (kk (.ref t) (Or.inr ⟨t, rfl⟩) p e R s m args below meth c S H locs ls hP hS hl)
end
abbrev gm_JP : am_M := (yJ3_checkIndex_8e157, cJ3_checkIndex_8e157, 3, some .int, 1)
abbrev gm_JK : am_M := (yJ0_checkIndex_df160, cJ0_checkIndex_df160, 2, none, 2)
abbrev gm_JL : am_M := (yJ1_charAt_3b067, cJ1_charAt_3b067, 2, some .char, 3)
abbrev gm_JC : am_M := (yJ0_charAt_5068e, cJ0_charAt_5068e, 2, some .char, 4)
abbrev gm_JI : am_M := (yJ0_isLatin1_aae02, cJ0_isLatin1_aae02, 1, some .boolean, 1)
abbrev gm_JD : am_M := (yJ0_coder_7d493, cJ0_coder_7d493, 1, some .byte, 1)
abbrev gm_JN : am_M := (yJ0_length_8abf5, cJ0_length_8abf5, 1, some .int, 2)
theorem mS_JP : am_mS gm_JP 3 := by unfold am_mS am_mc; decide +kernel
theorem mS_JK : am_mS gm_JK 2 := by unfold am_mS am_mc; decide +kernel
theorem mS_JL : am_mS gm_JL 2 := by unfold am_mS am_mc; decide +kernel
theorem mV_JC : am_mV gm_JC 1 := by unfold am_mV am_mc; decide +kernel
theorem mV_JI : am_mV gm_JI 0 := by unfold am_mV am_mc; decide +kernel
theorem mV_JD : am_mV gm_JD 0 := by unfold am_mV am_mc; decide +kernel
theorem mV_JN : am_mV gm_JN 0 := by unfold am_mV am_mc; decide +kernel
theorem dJ0_length_8abf5_0 : decode cJ0_length_8abf5 0 = .ok (.aload_n 0, 1) := by decide +kernel
theorem dJ0_length_8abf5_1 : decode cJ0_length_8abf5 1 = .ok (.getfield 9, 3) := by decide +kernel
theorem dJ0_length_8abf5_4 : decode cJ0_length_8abf5 4 = .ok (.arraylength, 1) := by decide +kernel
theorem dJ0_length_8abf5_5 : decode cJ0_length_8abf5 5 = .ok (.aload_n 0, 1) := by decide +kernel
theorem dJ0_length_8abf5_6 : decode cJ0_length_8abf5 6 = .ok (.invokevirtual 335, 3) := by decide +kernel
theorem dJ0_length_8abf5_9 : decode cJ0_length_8abf5 9 = .ok (.ishr, 1) := by decide +kernel
theorem dJ0_length_8abf5_10 : decode cJ0_length_8abf5 10 = .ok (.ireturn, 1) := by decide +kernel
theorem dJ0_charAt_5068e_0 : decode cJ0_charAt_5068e 0 = .ok (.aload_n 0, 1) := by decide +kernel
theorem dJ0_charAt_5068e_1 : decode cJ0_charAt_5068e 1 = .ok (.invokevirtual 492, 3) := by decide +kernel
theorem dJ0_charAt_5068e_4 : decode cJ0_charAt_5068e 4 = .ok (.ifCond .eq 12, 3) := by decide +kernel
theorem dJ0_charAt_5068e_7 : decode cJ0_charAt_5068e 7 = .ok (.aload_n 0, 1) := by decide +kernel
theorem dJ0_charAt_5068e_8 : decode cJ0_charAt_5068e 8 = .ok (.getfield 9, 3) := by decide +kernel
theorem dJ0_charAt_5068e_11 : decode cJ0_charAt_5068e 11 = .ok (.iload_n 1, 1) := by decide +kernel
theorem dJ0_charAt_5068e_12 : decode cJ0_charAt_5068e 12 = .ok (.invokestatic 495, 3) := by decide +kernel
theorem dJ0_charAt_5068e_15 : decode cJ0_charAt_5068e 15 = .ok (.ireturn, 1) := by decide +kernel
theorem dJ0_charAt_5068e_16 : decode cJ0_charAt_5068e 16 = .ok (.aload_n 0, 1) := by decide +kernel
theorem dJ0_charAt_5068e_17 : decode cJ0_charAt_5068e 17 = .ok (.getfield 9, 3) := by decide +kernel
theorem dJ0_charAt_5068e_20 : decode cJ0_charAt_5068e 20 = .ok (.iload_n 1, 1) := by decide +kernel
theorem dJ0_charAt_5068e_21 : decode cJ0_charAt_5068e 21 = .ok (.invokestatic 498, 3) := by decide +kernel
theorem dJ0_charAt_5068e_24 : decode cJ0_charAt_5068e 24 = .ok (.ireturn, 1) := by decide +kernel
theorem dJ0_coder_7d493_0 : decode cJ0_coder_7d493 0 = .ok (.getstatic 38, 3) := by decide +kernel
theorem dJ0_coder_7d493_3 : decode cJ0_coder_7d493 3 = .ok (.ifCond .eq 10, 3) := by decide +kernel
theorem dJ0_coder_7d493_6 : decode cJ0_coder_7d493 6 = .ok (.aload_n 0, 1) := by decide +kernel
theorem dJ0_coder_7d493_7 : decode cJ0_coder_7d493 7 = .ok (.getfield 15, 3) := by decide +kernel
theorem dJ0_coder_7d493_10 : decode cJ0_coder_7d493 10 = .ok (.goto 4, 3) := by decide +kernel
theorem dJ0_coder_7d493_13 : decode cJ0_coder_7d493 13 = .ok (.iconst 1, 1) := by decide +kernel
theorem dJ0_coder_7d493_14 : decode cJ0_coder_7d493 14 = .ok (.ireturn, 1) := by decide +kernel
theorem dJ0_isLatin1_aae02_0 : decode cJ0_isLatin1_aae02 0 = .ok (.getstatic 38, 3) := by decide +kernel
theorem dJ0_isLatin1_aae02_3 : decode cJ0_isLatin1_aae02 3 = .ok (.ifCond .eq 14, 3) := by decide +kernel
theorem dJ0_isLatin1_aae02_6 : decode cJ0_isLatin1_aae02 6 = .ok (.aload_n 0, 1) := by decide +kernel
theorem dJ0_isLatin1_aae02_7 : decode cJ0_isLatin1_aae02 7 = .ok (.getfield 15, 3) := by decide +kernel
theorem dJ0_isLatin1_aae02_10 : decode cJ0_isLatin1_aae02 10 = .ok (.ifCond .ne 7, 3) := by decide +kernel
theorem dJ0_isLatin1_aae02_13 : decode cJ0_isLatin1_aae02 13 = .ok (.iconst 1, 1) := by decide +kernel
theorem dJ0_isLatin1_aae02_14 : decode cJ0_isLatin1_aae02 14 = .ok (.goto 4, 3) := by decide +kernel
theorem dJ0_isLatin1_aae02_17 : decode cJ0_isLatin1_aae02 17 = .ok (.iconst 0, 1) := by decide +kernel
theorem dJ0_isLatin1_aae02_18 : decode cJ0_isLatin1_aae02 18 = .ok (.ireturn, 1) := by decide +kernel
theorem dJ0_checkIndex_df160_0 : decode cJ0_checkIndex_df160 0 = .ok (.iload_n 0, 1) := by decide +kernel
theorem dJ0_checkIndex_df160_1 : decode cJ0_checkIndex_df160 1 = .ok (.iload_n 1, 1) := by decide +kernel
theorem dJ0_checkIndex_df160_2 : decode cJ0_checkIndex_df160 2 = .ok (.getstatic 1053, 3) := by decide +kernel
theorem dJ0_checkIndex_df160_5 : decode cJ0_checkIndex_df160 5 = .ok (.invokestatic 1059, 3) := by decide +kernel
theorem dJ0_checkIndex_df160_8 : decode cJ0_checkIndex_df160 8 = .ok (.pop, 1) := by decide +kernel
theorem dJ0_checkIndex_df160_9 : decode cJ0_checkIndex_df160 9 = .ok (.return_, 1) := by decide +kernel
theorem dJ1_charAt_3b067_0 : decode cJ1_charAt_3b067 0 = .ok (.iload_n 1, 1) := by decide +kernel
theorem dJ1_charAt_3b067_1 : decode cJ1_charAt_3b067 1 = .ok (.aload_n 0, 1) := by decide +kernel
theorem dJ1_charAt_3b067_2 : decode cJ1_charAt_3b067 2 = .ok (.arraylength, 1) := by decide +kernel
theorem dJ1_charAt_3b067_3 : decode cJ1_charAt_3b067 3 = .ok (.invokestatic 9, 3) := by decide +kernel
theorem dJ1_charAt_3b067_6 : decode cJ1_charAt_3b067 6 = .ok (.aload_n 0, 1) := by decide +kernel
theorem dJ1_charAt_3b067_7 : decode cJ1_charAt_3b067 7 = .ok (.iload_n 1, 1) := by decide +kernel
theorem dJ1_charAt_3b067_8 : decode cJ1_charAt_3b067 8 = .ok (.baload, 1) := by decide +kernel
theorem dJ1_charAt_3b067_9 : decode cJ1_charAt_3b067 9 = .ok (.sipush 255, 3) := by decide +kernel
theorem dJ1_charAt_3b067_12 : decode cJ1_charAt_3b067 12 = .ok (.iand, 1) := by decide +kernel
theorem dJ1_charAt_3b067_13 : decode cJ1_charAt_3b067 13 = .ok (.i2c, 1) := by decide +kernel
theorem dJ1_charAt_3b067_14 : decode cJ1_charAt_3b067 14 = .ok (.ireturn, 1) := by decide +kernel
theorem dJ3_checkIndex_8e157_0 : decode cJ3_checkIndex_8e157 0 = .ok (.iload_n 0, 1) := by decide +kernel
theorem dJ3_checkIndex_8e157_1 : decode cJ3_checkIndex_8e157 1 = .ok (.ifCond .lt 8, 3) := by decide +kernel
theorem dJ3_checkIndex_8e157_4 : decode cJ3_checkIndex_8e157 4 = .ok (.iload_n 0, 1) := by decide +kernel
theorem dJ3_checkIndex_8e157_5 : decode cJ3_checkIndex_8e157 5 = .ok (.iload_n 1, 1) := by decide +kernel
theorem dJ3_checkIndex_8e157_6 : decode cJ3_checkIndex_8e157 6 = .ok (.if_icmp .lt 10, 3) := by decide +kernel
theorem dJ3_checkIndex_8e157_9 : decode cJ3_checkIndex_8e157 9 = .ok (.aload_n 2, 1) := by decide +kernel
theorem dJ3_checkIndex_8e157_10 : decode cJ3_checkIndex_8e157 10 = .ok (.iload_n 0, 1) := by decide +kernel
theorem dJ3_checkIndex_8e157_11 : decode cJ3_checkIndex_8e157 11 = .ok (.iload_n 1, 1) := by decide +kernel
theorem dJ3_checkIndex_8e157_12 : decode cJ3_checkIndex_8e157 12 = .ok (.invokestatic 95, 3) := by decide +kernel
theorem dJ3_checkIndex_8e157_15 : decode cJ3_checkIndex_8e157 15 = .ok (.athrow, 1) := by decide +kernel
theorem dJ3_checkIndex_8e157_16 : decode cJ3_checkIndex_8e157 16 = .ok (.iload_n 0, 1) := by decide +kernel
theorem dJ3_checkIndex_8e157_17 : decode cJ3_checkIndex_8e157 17 = .ok (.ireturn, 1) := by decide +kernel
theorem am_sfix : ∀ n, n < am_sN → am_slen n >>> ((0 : Int32) &&& 31) = am_slen n ∧ ∀ j, j < am_sL.getD n 0 → (((am_sch n j &&& 255).toUInt32 % 65536).toInt32 = am_sch n j ∧ ((am_sch n j).toUInt32 % 65536).toInt32 = am_sch n j) := by decide +kernel
theorem am_slt {n j : Nat} {x : Int32} (hn : n < am_sN) (h : am_ix (am_sL.getD n 0) x = some j) : ¬ x < 0 ∧ x < am_slen n := by
  obtain ⟨h1, h2⟩ := am_ix_in h
  have h3 := am_ix_lt h
  have h0 : ¬ x < 0 := fun z => h1 (Or.inl z)
  refine ⟨h0, ?_⟩
  have hb : ∀ n, n < am_sN → am_sL.getD n 0 < 100 := by decide +kernel
  have h4 := hb n hn
  rw [Int32.lt_iff_toInt_lt]
  unfold am_slen
  rw [Int32.toInt_ofNat_of_lt (by omega)]
  have h5 : x.toInt.toNat = j := h2
  have h6 : 0 ≤ x.toInt := by
    have := Int32.not_lt.mp h0
    simpa using Int32.le_iff_toInt_le.mp this
  omega
theorem k_JP {X : am_X} {σ : am_H} {x y : Int32} {v : Value} (hv : v = .null ∨ ∃ t, v = .ref t) (h1 : ¬ x < 0) (h2 : x < y) : am_C X gm_JP [.int x, .int y, v] σ (am_is (some (.int x)) σ) := by
  rcases hv with rfl | ⟨t, rfl⟩
  · refine am_ofG rfl (Nat.le_of_ble_eq_true rfl) rfl ?_
    refine g_iload_n (pc := 0) 0 rfl dJ3_checkIndex_8e157_0 rfl ?_
    refine bz_lt (pc := 1) 9 dJ3_checkIndex_8e157_1 rfl (fun c => absurd c h1) (fun _ => ?_)
    refine g_iload_n (pc := 4) 0 rfl dJ3_checkIndex_8e157_4 rfl ?_
    refine g_iload_n (pc := 5) 1 rfl dJ3_checkIndex_8e157_5 rfl ?_
    refine bi_lt (pc := 6) 16 dJ3_checkIndex_8e157_6 rfl (fun _ => ?_) (fun c => absurd h2 c)
    refine g_iload_n (pc := 16) 0 rfl dJ3_checkIndex_8e157_16 rfl ?_
    exact g_ireturn (pc := 17) (st := []) rfl dJ3_checkIndex_8e157_17 ⟨rfl, rfl⟩
  · refine am_ofG rfl (Nat.le_of_ble_eq_true rfl) rfl ?_
    refine g_iload_n (pc := 0) 0 rfl dJ3_checkIndex_8e157_0 rfl ?_
    refine bz_lt (pc := 1) 9 dJ3_checkIndex_8e157_1 rfl (fun c => absurd c h1) (fun _ => ?_)
    refine g_iload_n (pc := 4) 0 rfl dJ3_checkIndex_8e157_4 rfl ?_
    refine g_iload_n (pc := 5) 1 rfl dJ3_checkIndex_8e157_5 rfl ?_
    refine bi_lt (pc := 6) 16 dJ3_checkIndex_8e157_6 rfl (fun _ => ?_) (fun c => absurd h2 c)
    refine g_iload_n (pc := 16) 0 rfl dJ3_checkIndex_8e157_16 rfl ?_
    exact g_ireturn (pc := 17) (st := []) rfl dJ3_checkIndex_8e157_17 ⟨rfl, rfl⟩
theorem k_JK {X : am_X} (hX : am_fl1 X = true) {σ : am_H} {x y : Int32} (h1 : ¬ x < 0) (h2 : x < y) : am_C X gm_JK [.int x, .int y] σ (am_is none σ) := by
  refine am_ofG rfl (Nat.le_of_ble_eq_true rfl) rfl ?_
  refine g_iload_n (pc := 0) 0 rfl dJ0_checkIndex_df160_0 rfl ?_
  refine g_iload_n (pc := 1) 1 rfl dJ0_checkIndex_df160_1 rfl ?_
  refine g_kfmt (pc := 2) hX (tb_3 (List.mem_of_getElem? (i := 225) (by decide +kernel))) dJ0_checkIndex_df160_2 (fun v hv => ?_)
  refine g_cS (pc := 5) (As := [.int x, .int y, v]) (st := []) (st1 := [.int x]) mS_JP (Or.inl (tb_3 (List.mem_of_getElem? (i := 227) (by decide +kernel)))) rfl (Nat.le_of_ble_eq_true rfl) (Nat.le_of_ble_eq_true rfl) (k_JP hv h1 h2) dJ0_checkIndex_df160_5 rfl rfl ?_
  refine g_pop (pc := 8) dJ0_checkIndex_df160_8 rfl ?_
  exact g_vreturn (pc := 9) (st := []) rfl dJ0_checkIndex_df160_9 ⟨rfl, rfl⟩
theorem k_JL {X : am_X} (hX : am_fl1 X = true) {σ : am_H} {n j : Nat} {x : Int32} (hn : n < am_sN) (h : am_ix (am_sL.getD n 0) x = some j) : am_C X gm_JL [.ref (am_kV X n), .int x] σ (am_is (some (.int (am_sch n j))) σ) := by
  obtain ⟨h1, h2⟩ := am_slt hn h
  obtain ⟨-, h3⟩ := am_sfix n hn
  obtain ⟨h4, h5⟩ := h3 j (am_ix_lt h)
  refine am_ofG rfl (Nat.le_of_ble_eq_true rfl) rfl ?_
  refine g_iload_n (pc := 0) 1 rfl dJ1_charAt_3b067_0 rfl ?_
  refine g_aload_n (pc := 1) 0 rfl dJ1_charAt_3b067_1 rfl ?_
  refine g_klen (pc := 2) hX hn dJ1_charAt_3b067_2 ?_
  refine g_cS (pc := 3) (As := [.int x, .int (am_slen n)]) (st := []) (st1 := []) mS_JK (Or.inl (tb_3 (List.mem_of_getElem? (i := 222) (by decide +kernel)))) rfl (Nat.le_of_ble_eq_true rfl) (Nat.le_of_ble_eq_true rfl) (k_JK hX h1 h2) dJ1_charAt_3b067_3 rfl rfl ?_
  refine g_aload_n (pc := 6) 0 rfl dJ1_charAt_3b067_6 rfl ?_
  refine g_iload_n (pc := 7) 1 rfl dJ1_charAt_3b067_7 rfl ?_
  refine g_kbal (pc := 8) hX hn h dJ1_charAt_3b067_8 ?_
  refine g_sipush (pc := 9) (v := 255) dJ1_charAt_3b067_9 (by decide) ?_
  refine g_iand (pc := 12) dJ1_charAt_3b067_12 ?_
  refine g_i2c (pc := 13) dJ1_charAt_3b067_13 h4 ?_
  exact g_nreturn (pc := 14) rfl (congrArg Value.int h5) dJ1_charAt_3b067_14 ⟨rfl, rfl⟩
theorem k_JI {X : am_X} (hX : am_fl1 X = true) {σ : am_H} {n : Nat} (hn : n < am_sN) : am_C X gm_JI [.ref (am_kK X n)] σ (am_is (some (.int 1)) σ) := by
  refine am_ofG rfl (Nat.le_of_ble_eq_true rfl) rfl ?_
  refine g_kcmp (pc := 0) hX (tb_3 (List.mem_of_getElem? (i := 205) (by decide +kernel))) dJ0_isLatin1_aae02_0 ?_
  refine bz_eq (pc := 3) 17 dJ0_isLatin1_aae02_3 rfl (fun c => absurd c (by decide)) (fun _ => ?_)
  refine g_aload_n (pc := 6) 0 rfl dJ0_isLatin1_aae02_6 rfl ?_
  refine g_kcod (pc := 7) hX hn (tb_10 (List.mem_of_getElem? (i := 149) (by decide +kernel))) dJ0_isLatin1_aae02_7 ?_
  refine bz_ne (pc := 10) 17 dJ0_isLatin1_aae02_10 rfl (fun _ => ?_) (fun c => absurd rfl c)
  refine g_iconst (pc := 13) (v := 1) dJ0_isLatin1_aae02_13 (by decide) ?_
  refine g_goto (pc := 14) 18 dJ0_isLatin1_aae02_14 rfl ?_
  exact g_zreturn (pc := 18) (st := []) (x := true) rfl dJ0_isLatin1_aae02_18 ⟨rfl, rfl⟩
theorem k_JD {X : am_X} (hX : am_fl1 X = true) {σ : am_H} {n : Nat} (hn : n < am_sN) : am_C X gm_JD [.ref (am_kK X n)] σ (am_is (some (.int 0)) σ) := by
  refine am_ofG rfl (Nat.le_of_ble_eq_true rfl) rfl ?_
  refine g_kcmp (pc := 0) hX (tb_3 (List.mem_of_getElem? (i := 205) (by decide +kernel))) dJ0_coder_7d493_0 ?_
  refine bz_eq (pc := 3) 13 dJ0_coder_7d493_3 rfl (fun c => absurd c (by decide)) (fun _ => ?_)
  refine g_aload_n (pc := 6) 0 rfl dJ0_coder_7d493_6 rfl ?_
  refine g_kcod (pc := 7) hX hn (tb_10 (List.mem_of_getElem? (i := 149) (by decide +kernel))) dJ0_coder_7d493_7 ?_
  refine g_goto (pc := 10) 14 dJ0_coder_7d493_10 rfl ?_
  exact g_nreturn (pc := 14) rfl rfl dJ0_coder_7d493_14 ⟨rfl, rfl⟩
theorem k_JN {X : am_X} (hX : am_fl1 X = true) {σ : am_H} {n : Nat} (hn : n < am_sN) : am_C X gm_JN [.ref (am_kK X n)] σ (am_is (some (.int (am_slen n))) σ) := by
  obtain ⟨h3, -⟩ := am_sfix n hn
  refine am_ofG rfl (Nat.le_of_ble_eq_true rfl) rfl ?_
  refine g_aload_n (pc := 0) 0 rfl dJ0_length_8abf5_0 rfl ?_
  refine g_kval (pc := 1) hX hn (tb_10 (List.mem_of_getElem? (i := 148) (by decide +kernel))) dJ0_length_8abf5_1 ?_
  refine g_klen (pc := 4) hX hn dJ0_length_8abf5_4 ?_
  refine g_aload_n (pc := 5) 0 rfl dJ0_length_8abf5_5 rfl ?_
  refine g_cK (pc := 6) (As := []) (st := [.int (am_slen n)]) (st1 := [.int 0, .int (am_slen n)]) hX hn mV_JD rfl (tb_3 (List.mem_of_getElem? (i := 201) (by decide +kernel))) rfl (Nat.le_of_ble_eq_true rfl) (Nat.le_of_ble_eq_true rfl) (k_JD hX hn) dJ0_length_8abf5_6 rfl rfl ?_
  refine g_ishr (pc := 9) dJ0_length_8abf5_9 ?_
  rw [h3]
  exact g_ireturn (pc := 10) (st := []) rfl dJ0_length_8abf5_10 ⟨rfl, rfl⟩
theorem k_JC {X : am_X} (hX : am_fl1 X = true) {σ : am_H} {n j : Nat} {x : Int32} (hn : n < am_sN) (h : am_ix (am_sL.getD n 0) x = some j) : am_C X gm_JC [.ref (am_kK X n), .int x] σ (am_is (some (.int (am_sch n j))) σ) := by
  obtain ⟨-, h3⟩ := am_sfix n hn
  obtain ⟨h4, h5⟩ := h3 j (am_ix_lt h)
  refine am_ofG rfl (Nat.le_of_ble_eq_true rfl) rfl ?_
  refine g_aload_n (pc := 0) 0 rfl dJ0_charAt_5068e_0 rfl ?_
  refine g_cK (pc := 1) (As := []) (st := []) (st1 := [.int 1]) hX hn mV_JI rfl (tb_3 (List.mem_of_getElem? (i := 215) (by decide +kernel))) rfl (Nat.le_of_ble_eq_true rfl) (Nat.le_of_ble_eq_true rfl) (k_JI hX hn) dJ0_charAt_5068e_1 rfl rfl ?_
  refine bz_eq (pc := 4) 16 dJ0_charAt_5068e_4 rfl (fun c => absurd c (by decide)) (fun _ => ?_)
  refine g_aload_n (pc := 7) 0 rfl dJ0_charAt_5068e_7 rfl ?_
  refine g_kval (pc := 8) hX hn (tb_10 (List.mem_of_getElem? (i := 148) (by decide +kernel))) dJ0_charAt_5068e_8 ?_
  refine g_iload_n (pc := 11) 1 rfl dJ0_charAt_5068e_11 rfl ?_
  refine g_cS (pc := 12) (As := [.ref (am_kV X n), .int x]) (st := []) (st1 := [.int (am_sch n j)]) mS_JL (Or.inl (tb_3 (List.mem_of_getElem? (i := 219) (by decide +kernel)))) rfl (Nat.le_of_ble_eq_true rfl) (Nat.le_of_ble_eq_true rfl) (k_JL hX hn h) dJ0_charAt_5068e_12 rfl rfl ?_
  exact g_nreturn (pc := 15) rfl (congrArg Value.int h5) dJ0_charAt_5068e_15 ⟨rfl, rfl⟩
section
variable {X : am_X} {Γ : am_M} {Q : Option Value → am_H → Prop} {pc : Nat} {lv : List (Nat × Value)} {st : List Value} {σ : am_H}
theorem g_slen {n idx : Nat} (hf : am_fl1 X = true) (hi : n < am_sN) (hr : 3 ≤ Γ.2.2.2.2) (hst : (st.map fun v => v.category).sum ≤ 8) (hln : Cond.methodLink Γ.1.cls idx yJ0_length_8abf5 ∈ lw_tbl) (d : decode Γ.2.1 pc = .ok (.invokevirtual idx, 3)) (kk : am_G X Γ Q (pc + 3) lv (.int (am_slen n) :: st) σ) : am_G X Γ Q pc lv (.ref (am_kK X n) :: st) σ :=
  g_cK (As := []) hf hi mV_JN rfl hln rfl hr hst (k_JN hf hi) d rfl rfl kk
theorem g_schr {n j idx : Nat} {x : Int32} (hf : am_fl1 X = true) (hi : n < am_sN) (hr : 5 ≤ Γ.2.2.2.2) (hst : (st.map fun v => v.category).sum ≤ 8) (hln : Cond.methodLink Γ.1.cls idx yJ0_charAt_5068e ∈ lw_tbl) (hj : am_ix (am_sL.getD n 0) x = some j) (d : decode Γ.2.1 pc = .ok (.invokevirtual idx, 3)) (kk : am_G X Γ Q (pc + 3) lv (.int (am_sch n j) :: st) σ) : am_G X Γ Q pc lv (.int x :: .ref (am_kK X n) :: st) σ :=
  g_cK (As := [.int x]) hf hi mV_JC rfl hln rfl hr hst (k_JC hf hi hj) d rfl rfl kk
end
