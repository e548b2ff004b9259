theorem dX0_findWheel_0 : decode cX0_findWheel 0 = .ok (.aload_n 0, 1) := by decide +kernel
theorem dX0_findWheel_1 : decode cX0_findWheel 1 = .ok (.iconst 0, 1) := by decide +kernel
theorem dX0_findWheel_2 : decode cX0_findWheel 2 = .ok (.putfield 31, 3) := by decide +kernel
theorem dX0_findWheel_5 : decode cX0_findWheel 5 = .ok (.aload_n 0, 1) := by decide +kernel
theorem dX0_findWheel_6 : decode cX0_findWheel 6 = .ok (.iconst (-1), 1) := by decide +kernel
theorem dX0_findWheel_7 : decode cX0_findWheel 7 = .ok (.putfield 25, 3) := by decide +kernel
theorem dX0_findWheel_10 : decode cX0_findWheel 10 = .ok (.iconst 0, 1) := by decide +kernel
theorem dX0_findWheel_11 : decode cX0_findWheel 11 = .ok (.istore_n 3, 1) := by decide +kernel
theorem dX0_findWheel_12 : decode cX0_findWheel 12 = .ok (.iload_n 3, 1) := by decide +kernel
theorem dX0_findWheel_13 : decode cX0_findWheel 13 = .ok (.aload_n 2, 1) := by decide +kernel
theorem dX0_findWheel_14 : decode cX0_findWheel 14 = .ok (.getfield 34, 3) := by decide +kernel
theorem dX0_findWheel_17 : decode cX0_findWheel 17 = .ok (.if_icmp .ge 50, 3) := by decide +kernel
theorem dX0_findWheel_20 : decode cX0_findWheel 20 = .ok (.aload_n 0, 1) := by decide +kernel
theorem dX0_findWheel_21 : decode cX0_findWheel 21 = .ok (.getfield 9, 3) := by decide +kernel
theorem dX0_findWheel_24 : decode cX0_findWheel 24 = .ok (.iload_n 3, 1) := by decide +kernel
theorem dX0_findWheel_25 : decode cX0_findWheel 25 = .ok (.aload_n 1, 1) := by decide +kernel
theorem dX0_findWheel_26 : decode cX0_findWheel 26 = .ok (.aload_n 2, 1) := by decide +kernel
theorem dX0_findWheel_27 : decode cX0_findWheel 27 = .ok (.getfield 39, 3) := by decide +kernel
theorem dX0_findWheel_30 : decode cX0_findWheel 30 = .ok (.iload_n 3, 1) := by decide +kernel
theorem dX0_findWheel_31 : decode cX0_findWheel 31 = .ok (.iaload, 1) := by decide +kernel
theorem dX0_findWheel_32 : decode cX0_findWheel 32 = .ok (.i2l, 1) := by decide +kernel
theorem dX0_findWheel_33 : decode cX0_findWheel 33 = .ok (.iconst 1, 1) := by decide +kernel
theorem dX0_findWheel_34 : decode cX0_findWheel 34 = .ok (.invokevirtual 42, 3) := by decide +kernel
theorem dX0_findWheel_37 : decode cX0_findWheel 37 = .ok (.iastore, 1) := by decide +kernel
theorem dX0_findWheel_38 : decode cX0_findWheel 38 = .ok (.aload_n 0, 1) := by decide +kernel
theorem dX0_findWheel_39 : decode cX0_findWheel 39 = .ok (.dup, 1) := by decide +kernel
theorem dX0_findWheel_40 : decode cX0_findWheel 40 = .ok (.getfield 31, 3) := by decide +kernel
theorem dX0_findWheel_43 : decode cX0_findWheel 43 = .ok (.aload_n 2, 1) := by decide +kernel
theorem dX0_findWheel_44 : decode cX0_findWheel 44 = .ok (.iload_n 3, 1) := by decide +kernel
theorem dX0_findWheel_45 : decode cX0_findWheel 45 = .ok (.aload_n 0, 1) := by decide +kernel
theorem dX0_findWheel_46 : decode cX0_findWheel 46 = .ok (.getfield 9, 3) := by decide +kernel
theorem dX0_findWheel_49 : decode cX0_findWheel 49 = .ok (.iload_n 3, 1) := by decide +kernel
theorem dX0_findWheel_50 : decode cX0_findWheel 50 = .ok (.iaload, 1) := by decide +kernel
theorem dX0_findWheel_51 : decode cX0_findWheel 51 = .ok (.bipush 12, 2) := by decide +kernel
theorem dX0_findWheel_53 : decode cX0_findWheel 53 = .ok (.idiv, 1) := by decide +kernel
theorem dX0_findWheel_54 : decode cX0_findWheel 54 = .ok (.invokevirtual 48, 3) := by decide +kernel
theorem dX0_findWheel_57 : decode cX0_findWheel 57 = .ok (.iadd, 1) := by decide +kernel
theorem dX0_findWheel_58 : decode cX0_findWheel 58 = .ok (.putfield 31, 3) := by decide +kernel
theorem dX0_findWheel_61 : decode cX0_findWheel 61 = .ok (.iinc 3 1, 3) := by decide +kernel
theorem dX0_findWheel_64 : decode cX0_findWheel 64 = .ok (.goto (-52), 3) := by decide +kernel
theorem dX0_findWheel_67 : decode cX0_findWheel 67 = .ok (.iconst 0, 1) := by decide +kernel
theorem dX0_findWheel_68 : decode cX0_findWheel 68 = .ok (.istore_n 3, 1) := by decide +kernel
theorem dX0_findWheel_69 : decode cX0_findWheel 69 = .ok (.iload_n 3, 1) := by decide +kernel
theorem dX0_findWheel_70 : decode cX0_findWheel 70 = .ok (.aload_n 1, 1) := by decide +kernel
theorem dX0_findWheel_71 : decode cX0_findWheel 71 = .ok (.getfield 82, 3) := by decide +kernel
theorem dX0_findWheel_74 : decode cX0_findWheel 74 = .ok (.if_icmp .ge 62, 3) := by decide +kernel
theorem dX0_findWheel_77 : decode cX0_findWheel 77 = .ok (.iconst 0, 1) := by decide +kernel
theorem dX0_findWheel_78 : decode cX0_findWheel 78 = .ok (.istore 4, 2) := by decide +kernel
theorem dX0_findWheel_80 : decode cX0_findWheel 80 = .ok (.iload 4, 2) := by decide +kernel
theorem dX0_findWheel_82 : decode cX0_findWheel 82 = .ok (.aload_n 1, 1) := by decide +kernel
theorem dX0_findWheel_83 : decode cX0_findWheel 83 = .ok (.getfield 85, 3) := by decide +kernel
theorem dX0_findWheel_86 : decode cX0_findWheel 86 = .ok (.iload_n 3, 1) := by decide +kernel
theorem dX0_findWheel_87 : decode cX0_findWheel 87 = .ok (.aaload, 1) := by decide +kernel
theorem dX0_findWheel_88 : decode cX0_findWheel 88 = .ok (.invokevirtual 89, 3) := by decide +kernel
theorem dX0_findWheel_91 : decode cX0_findWheel 91 = .ok (.if_icmp .ge 39, 3) := by decide +kernel
theorem dX0_findWheel_94 : decode cX0_findWheel 94 = .ok (.aload_n 0, 1) := by decide +kernel
theorem dX0_findWheel_95 : decode cX0_findWheel 95 = .ok (.aload_n 1, 1) := by decide +kernel
theorem dX0_findWheel_96 : decode cX0_findWheel 96 = .ok (.getfield 85, 3) := by decide +kernel
theorem dX0_findWheel_99 : decode cX0_findWheel 99 = .ok (.iload_n 3, 1) := by decide +kernel
theorem dX0_findWheel_100 : decode cX0_findWheel 100 = .ok (.aaload, 1) := by decide +kernel
theorem dX0_findWheel_101 : decode cX0_findWheel 101 = .ok (.aload_n 2, 1) := by decide +kernel
theorem dX0_findWheel_102 : decode cX0_findWheel 102 = .ok (.iload_n 3, 1) := by decide +kernel
theorem dX0_findWheel_103 : decode cX0_findWheel 103 = .ok (.iload 4, 2) := by decide +kernel
theorem dX0_findWheel_105 : decode cX0_findWheel 105 = .ok (.iconst 1, 1) := by decide +kernel
theorem dX0_findWheel_106 : decode cX0_findWheel 106 = .ok (.invokevirtual 95, 3) := by decide +kernel
theorem dX0_findWheel_109 : decode cX0_findWheel 109 = .ok (.aload_n 0, 1) := by decide +kernel
theorem dX0_findWheel_110 : decode cX0_findWheel 110 = .ok (.aload_n 1, 1) := by decide +kernel
theorem dX0_findWheel_111 : decode cX0_findWheel 111 = .ok (.getfield 85, 3) := by decide +kernel
theorem dX0_findWheel_114 : decode cX0_findWheel 114 = .ok (.iload_n 3, 1) := by decide +kernel
theorem dX0_findWheel_115 : decode cX0_findWheel 115 = .ok (.aaload, 1) := by decide +kernel
theorem dX0_findWheel_116 : decode cX0_findWheel 116 = .ok (.aload_n 2, 1) := by decide +kernel
theorem dX0_findWheel_117 : decode cX0_findWheel 117 = .ok (.iload_n 3, 1) := by decide +kernel
theorem dX0_findWheel_118 : decode cX0_findWheel 118 = .ok (.iload 4, 2) := by decide +kernel
theorem dX0_findWheel_120 : decode cX0_findWheel 120 = .ok (.iconst 0, 1) := by decide +kernel
theorem dX0_findWheel_121 : decode cX0_findWheel 121 = .ok (.invokevirtual 95, 3) := by decide +kernel
theorem dX0_findWheel_124 : decode cX0_findWheel 124 = .ok (.iinc 4 1, 3) := by decide +kernel
theorem dX0_findWheel_127 : decode cX0_findWheel 127 = .ok (.goto (-47), 3) := by decide +kernel
theorem dX0_findWheel_130 : decode cX0_findWheel 130 = .ok (.iinc 3 1, 3) := by decide +kernel
theorem dX0_findWheel_133 : decode cX0_findWheel 133 = .ok (.goto (-64), 3) := by decide +kernel
theorem dX0_findWheel_136 : decode cX0_findWheel 136 = .ok (.return_, 1) := by decide +kernel
noncomputable def f_X0_findWheel_12 (r1 : Nat) (r2 : Nat) (v3 : Int32) (σ : am_H) : Option ((Int32 × am_H) ⊕ (am_H)) :=
  if v3 < (σ.1 1 r2 0) then
   ((am_ix 24 v3).bind fun j2 =>
   (f_X3_heightAt r1 (Int32.toInt64 (σ.1 201 r2 j2)) true σ).bind fun p3 =>
   (am_ix 48 v3).bind fun j4 =>
   (some (am_wI σ 100 0 j4 p3)).bind fun s5 =>
   (am_ix 48 v3).bind fun j6 =>
   (f_X1_missOf r2 v3 ((s5.1 100 0 j6) / 12) s5).bind fun p7 =>
   (some (am_wI s5 0 0 3 ((s5.1 0 0 3) + p7))).bind fun s8 =>
   some (.inl ((v3 + 1), s8)))
  else
  some (.inr σ)
set_option maxRecDepth 100000 in
set_option maxHeartbeats 4000000 in
theorem q_X0_findWheel_12 {X : am_X} (hX : am_wC X) {Q : Option Value → am_H → Prop} (r1 : Nat) (r2 : Nat) (v3 : Int32) (hr1 : r1 < 3) (hr2 : r2 < 2) (σ : am_H) {o : (Int32 × am_H) ⊕ (am_H)} (hf : f_X0_findWheel_12 r1 r2 v3 σ = some o) (hk0 : ∀ s, o = .inl s → am_G X gm_X0_findWheel Q 12 [(0, .ref (am_ad X 0 0)), (1, .ref (am_ad X 3 r1)), (2, .ref (am_ad X 1 r2)), (3, .int s.1)] [] s.2) (hk1 : ∀ t, o = .inr t → am_G X gm_X0_findWheel Q 67 [(0, .ref (am_ad X 0 0)), (1, .ref (am_ad X 3 r1)), (2, .ref (am_ad X 1 r2))] [] t) : am_G X gm_X0_findWheel Q 12 [(0, .ref (am_ad X 0 0)), (1, .ref (am_ad X 3 r1)), (2, .ref (am_ad X 1 r2)), (3, .int v3)] [] σ := by
  unfold f_X0_findWheel_12 at hf
  refine g_iload_n (pc := 12) 3 rfl dX0_findWheel_12 rfl ?_
  refine g_aload_n (pc := 13) 2 rfl dX0_findWheel_13 rfl ?_
  refine g_getI (pc := 14) (in_1 hX.1 (by omega)) fr_X0_34 dX0_findWheel_14 ?_
  refine bi_ge (pc := 17) 67 dX0_findWheel_17 rfl (fun c1 => ?_) (fun c1 => ?_)
  · replace hf := am_ifT c1 hf
    refine g_aload_n (pc := 20) 0 rfl dX0_findWheel_20 rfl ?_
    refine g_getC (pc := 21) (e := 0) (in_0 hX.1 (by omega)) fr_X0_9 dX0_findWheel_21 rfl ?_
    refine g_iload_n (pc := 24) 3 rfl dX0_findWheel_24 rfl ?_
    refine g_aload_n (pc := 25) 1 rfl dX0_findWheel_25 rfl ?_
    refine g_aload_n (pc := 26) 2 rfl dX0_findWheel_26 rfl ?_
    refine g_getC (pc := 27) (e := r2) (in_1 hX.1 (by omega)) fr_X0_39 dX0_findWheel_27 rfl ?_
    refine g_iload_n (pc := 30) 3 rfl dX0_findWheel_30 rfl ?_
    obtain ⟨j2, hj2, hf⟩ := am_bd hf
    have gj2 := am_ix_lt hj2
    refine g_aI (pc := 31) (in_201 hX.1 (by omega)) ak_201 hj2 dX0_findWheel_31 ?_
    refine g_i2l (pc := 32) dX0_findWheel_32 ?_
    refine g_iconst (pc := 33) (v := 1) dX0_findWheel_33 (by decide) ?_
    obtain ⟨p3, hp3, hf⟩ := am_bd hf
    refine g_cV (pc := 34) (As := [.long (Int32.toInt64 (σ.1 201 r2 j2)), .int (am_b true)]) (st := [.int v3, .ref (am_ad X 100 0)]) (st1 := [.int p3, .int v3, .ref (am_ad X 100 0)]) (in_3 hX.1 (by omega)) kk_3 mV_X3_heightAt ln_X0_42 rfl (Nat.le_of_ble_eq_true rfl) (Nat.le_of_ble_eq_true rfl) (k_X3_heightAt hX r1 (Int32.toInt64 (σ.1 201 r2 j2)) true (by omega) σ hp3) dX0_findWheel_34 rfl rfl ?_
    obtain ⟨j4, hj4, hf⟩ := am_bd hf
    have gj4 := am_ix_lt hj4
    obtain ⟨s5, hs5, hf⟩ := am_bd hf
    refine g_sI (pc := 37) (in_100 hX.1 (by omega)) ak_100 hj4 dX0_findWheel_37 (Option.some.inj hs5) ?_
    refine g_aload_n (pc := 38) 0 rfl dX0_findWheel_38 rfl ?_
    refine g_dup (pc := 39) dX0_findWheel_39 rfl ?_
    refine g_getI (pc := 40) (in_0 hX.1 (by omega)) fr_X0_31 dX0_findWheel_40 ?_
    refine g_aload_n (pc := 43) 2 rfl dX0_findWheel_43 rfl ?_
    refine g_iload_n (pc := 44) 3 rfl dX0_findWheel_44 rfl ?_
    refine g_aload_n (pc := 45) 0 rfl dX0_findWheel_45 rfl ?_
    refine g_getC (pc := 46) (e := 0) (in_0 hX.1 (by omega)) fr_X0_9 dX0_findWheel_46 rfl ?_
    refine g_iload_n (pc := 49) 3 rfl dX0_findWheel_49 rfl ?_
    obtain ⟨j6, hj6, hf⟩ := am_bd hf
    have gj6 := am_ix_lt hj6
    refine g_aI (pc := 50) (in_100 hX.1 (by omega)) ak_100 hj6 dX0_findWheel_50 ?_
    refine g_bipush (pc := 51) (v := 12) dX0_findWheel_51 (by decide) ?_
    refine g_idiv (pc := 53) dX0_findWheel_53 (by decide) ?_
    obtain ⟨p7, hp7, hf⟩ := am_bd hf
    refine g_cV (pc := 54) (As := [.int v3, .int ((s5.1 100 0 j6) / 12)]) (st := [.int (s5.1 0 0 3), .ref (am_ad X 0 0)]) (st1 := [.int p7, .int (s5.1 0 0 3), .ref (am_ad X 0 0)]) (in_1 hX.1 (by omega)) kk_1 mV_X1_missOf ln_X0_48 rfl (Nat.le_of_ble_eq_true rfl) (Nat.le_of_ble_eq_true rfl) (k_X1_missOf hX r2 v3 ((s5.1 100 0 j6) / 12) (by omega) s5 hp7) dX0_findWheel_54 rfl rfl ?_
    refine g_iadd (pc := 57) dX0_findWheel_57 ?_
    obtain ⟨s8, hs8, hf⟩ := am_bd hf
    refine g_setI (pc := 58) (in_0 hX.1 (by omega)) fr_X0_31 dX0_findWheel_58 (Option.some.inj hs8) ?_
    refine g_iinc (pc := 61) (v := (v3 + 1)) 3 [(3, .int (v3 + 1)), (0, .ref (am_ad X 0 0)), (1, .ref (am_ad X 3 r1)), (2, .ref (am_ad X 1 r2))] dX0_findWheel_61 rfl rfl (Nat.le_of_ble_eq_true rfl) rfl ?_
    refine g_goto (pc := 64) 12 dX0_findWheel_64 rfl ?_
    have hz := hk0 _ (Option.some.inj hf).symm
    exact am_sub [1, 2, 3, 0] rfl hz
  replace hf := am_ifF c1 hf
  have hz := hk1 _ (Option.some.inj hf).symm
  exact am_sub [0, 1, 2] rfl hz
set_option maxRecDepth 100000 in
set_option maxHeartbeats 4000000 in
theorem l_X0_findWheel_12 {X : am_X} (hX : am_wC X) {Q : Option Value → am_H → Prop} (r1 : Nat) (r2 : Nat) (hr1 : r1 < 3) (hr2 : r2 < 2) (σ : am_H) (s : Int32 × am_H) {o : am_H} (hf : am_loop (fun s => f_X0_findWheel_12 r1 r2 s.1 s.2) s = some o) (hk1 : ∀ t, o = t → am_G X gm_X0_findWheel Q 67 [(0, .ref (am_ad X 0 0)), (1, .ref (am_ad X 3 r1)), (2, .ref (am_ad X 1 r2))] [] t) : am_G X gm_X0_findWheel Q 12 [(0, .ref (am_ad X 0 0)), (1, .ref (am_ad X 3 r1)), (2, .ref (am_ad X 1 r2)), (3, .int s.1)] [] s.2 := by
  refine am_loop_ind (P := fun s => am_G X gm_X0_findWheel Q 12 [(0, .ref (am_ad X 0 0)), (1, .ref (am_ad X 3 r1)), (2, .ref (am_ad X 1 r2)), (3, .int s.1)] [] s.2) (K := fun r => r = o) ?_ hf rfl
  intro s o1 hb hi hr
  exact q_X0_findWheel_12 hX r1 r2 s.1  hr1 hr2 s.2 hb hi (fun t e => hk1 t (hr _ e).symm)
noncomputable def f_X0_findWheel_80 (r1 : Nat) (r2 : Nat) (v3 : Int32) (v4 : Int32) (σ : am_H) : Option ((Int32 × am_H) ⊕ (am_H)) :=
  (am_ix 6 v3).bind fun j1 =>
  (f_X10_wheels (6 * r1 + j1) σ).bind fun p2 =>
  if v4 < p2 then
   ((am_ix 6 v3).bind fun j4 =>
   (f_X0_tryTooth (6 * r1 + j4) r2 v3 v4 true σ).bind fun p5 =>
   (am_ix 6 v3).bind fun j6 =>
   (f_X0_tryTooth (6 * r1 + j6) r2 v3 v4 false p5).bind fun p7 =>
   some (.inl ((v4 + 1), p7)))
  else
  some (.inr σ)
set_option maxRecDepth 100000 in
set_option maxHeartbeats 4000000 in
theorem q_X0_findWheel_80 {X : am_X} (hX : am_wC X) {Q : Option Value → am_H → Prop} (r1 : Nat) (r2 : Nat) (v3 : Int32) (v4 : Int32) (hr1 : r1 < 3) (hr2 : r2 < 2) (σ : am_H) {o : (Int32 × am_H) ⊕ (am_H)} (hf : f_X0_findWheel_80 r1 r2 v3 v4 σ = some o) (hk0 : ∀ s, o = .inl s → am_G X gm_X0_findWheel Q 80 [(0, .ref (am_ad X 0 0)), (1, .ref (am_ad X 3 r1)), (2, .ref (am_ad X 1 r2)), (3, .int v3), (4, .int s.1)] [] s.2) (hk1 : ∀ t, o = .inr t → am_G X gm_X0_findWheel Q 130 [(0, .ref (am_ad X 0 0)), (1, .ref (am_ad X 3 r1)), (2, .ref (am_ad X 1 r2)), (3, .int v3)] [] t) : am_G X gm_X0_findWheel Q 80 [(0, .ref (am_ad X 0 0)), (1, .ref (am_ad X 3 r1)), (2, .ref (am_ad X 1 r2)), (3, .int v3), (4, .int v4)] [] σ := by
  unfold f_X0_findWheel_80 at hf
  refine g_iload (pc := 80) 4 rfl dX0_findWheel_80 ?_
  refine g_aload_n (pc := 82) 1 rfl dX0_findWheel_82 rfl ?_
  refine g_getC (pc := 83) (e := r1) (in_3 hX.1 (by omega)) fr_X0_85 dX0_findWheel_83 rfl ?_
  refine g_iload_n (pc := 86) 3 rfl dX0_findWheel_86 rfl ?_
  obtain ⟨j1, hj1, hf⟩ := am_bd hf
  have gj1 := am_ix_lt hj1
  refine g_aC (pc := 87) (e := (6 * r1 + j1)) (in_400 hX.1 (by omega)) ak_400 hj1 rfl dX0_findWheel_87 ?_
  obtain ⟨p2, hp2, hf⟩ := am_bd hf
  refine g_cV (pc := 88) (As := []) (st := [.int v4]) (st1 := [.int p2, .int v4]) (in_10 hX.1 (by omega)) kk_10 mV_X10_wheels ln_X0_89 rfl (Nat.le_of_ble_eq_true rfl) (Nat.le_of_ble_eq_true rfl) (k_X10_wheels hX (6 * r1 + j1) (by omega) σ hp2) dX0_findWheel_88 rfl rfl ?_
  refine bi_ge (pc := 91) 130 dX0_findWheel_91 rfl (fun c3 => ?_) (fun c3 => ?_)
  · replace hf := am_ifT c3 hf
    refine g_aload_n (pc := 94) 0 rfl dX0_findWheel_94 rfl ?_
    refine g_aload_n (pc := 95) 1 rfl dX0_findWheel_95 rfl ?_
    refine g_getC (pc := 96) (e := r1) (in_3 hX.1 (by omega)) fr_X0_85 dX0_findWheel_96 rfl ?_
    refine g_iload_n (pc := 99) 3 rfl dX0_findWheel_99 rfl ?_
    obtain ⟨j4, hj4, hf⟩ := am_bd hf
    have gj4 := am_ix_lt hj4
    refine g_aC (pc := 100) (e := (6 * r1 + j4)) (in_400 hX.1 (by omega)) ak_400 hj4 rfl dX0_findWheel_100 ?_
    refine g_aload_n (pc := 101) 2 rfl dX0_findWheel_101 rfl ?_
    refine g_iload_n (pc := 102) 3 rfl dX0_findWheel_102 rfl ?_
    refine g_iload (pc := 103) 4 rfl dX0_findWheel_103 ?_
    refine g_iconst (pc := 105) (v := 1) dX0_findWheel_105 (by decide) ?_
    obtain ⟨p5, hp5, hf⟩ := am_bd hf
    refine g_cV (pc := 106) (As := [.ref (am_ad X 10 (6 * r1 + j4)), .ref (am_ad X 1 r2), .int v3, .int v4, .int (am_b true)]) (st := []) (st1 := []) (in_0 hX.1 (by omega)) kk_0 mV_X0_tryTooth ln_X0_95 rfl (Nat.le_of_ble_eq_true rfl) (Nat.le_of_ble_eq_true rfl) (k_X0_tryTooth hX (6 * r1 + j4) r2 v3 v4 true (by omega) (by omega) σ hp5) dX0_findWheel_106 rfl rfl ?_
    refine g_aload_n (pc := 109) 0 rfl dX0_findWheel_109 rfl ?_
    refine g_aload_n (pc := 110) 1 rfl dX0_findWheel_110 rfl ?_
    refine g_getC (pc := 111) (e := r1) (in_3 hX.1 (by omega)) fr_X0_85 dX0_findWheel_111 rfl ?_
    refine g_iload_n (pc := 114) 3 rfl dX0_findWheel_114 rfl ?_
    obtain ⟨j6, hj6, hf⟩ := am_bd hf
    have gj6 := am_ix_lt hj6
    refine g_aC (pc := 115) (e := (6 * r1 + j6)) (in_400 hX.1 (by omega)) ak_400 hj6 rfl dX0_findWheel_115 ?_
    refine g_aload_n (pc := 116) 2 rfl dX0_findWheel_116 rfl ?_
    refine g_iload_n (pc := 117) 3 rfl dX0_findWheel_117 rfl ?_
    refine g_iload (pc := 118) 4 rfl dX0_findWheel_118 ?_
    refine g_iconst (pc := 120) (v := 0) dX0_findWheel_120 (by decide) ?_
    obtain ⟨p7, hp7, hf⟩ := am_bd hf
    refine g_cV (pc := 121) (As := [.ref (am_ad X 10 (6 * r1 + j6)), .ref (am_ad X 1 r2), .int v3, .int v4, .int (am_b false)]) (st := []) (st1 := []) (in_0 hX.1 (by omega)) kk_0 mV_X0_tryTooth ln_X0_95 rfl (Nat.le_of_ble_eq_true rfl) (Nat.le_of_ble_eq_true rfl) (k_X0_tryTooth hX (6 * r1 + j6) r2 v3 v4 false (by omega) (by omega) p5 hp7) dX0_findWheel_121 rfl rfl ?_
    refine g_iinc (pc := 124) (v := (v4 + 1)) 4 [(4, .int (v4 + 1)), (0, .ref (am_ad X 0 0)), (1, .ref (am_ad X 3 r1)), (2, .ref (am_ad X 1 r2)), (3, .int v3)] dX0_findWheel_124 rfl rfl (Nat.le_of_ble_eq_true rfl) rfl ?_
    refine g_goto (pc := 127) 80 dX0_findWheel_127 rfl ?_
    have hz := hk0 _ (Option.some.inj hf).symm
    exact am_sub [1, 2, 3, 4, 0] rfl hz
  replace hf := am_ifF c3 hf
  have hz := hk1 _ (Option.some.inj hf).symm
  exact am_sub [0, 1, 2, 3] rfl hz
set_option maxRecDepth 100000 in
set_option maxHeartbeats 4000000 in
theorem l_X0_findWheel_80 {X : am_X} (hX : am_wC X) {Q : Option Value → am_H → Prop} (r1 : Nat) (r2 : Nat) (v3 : Int32) (hr1 : r1 < 3) (hr2 : r2 < 2) (σ : am_H) (s : Int32 × am_H) {o : am_H} (hf : am_loop (fun s => f_X0_findWheel_80 r1 r2 v3 s.1 s.2) s = some o) (hk1 : ∀ t, o = t → am_G X gm_X0_findWheel Q 130 [(0, .ref (am_ad X 0 0)), (1, .ref (am_ad X 3 r1)), (2, .ref (am_ad X 1 r2)), (3, .int v3)] [] t) : am_G X gm_X0_findWheel Q 80 [(0, .ref (am_ad X 0 0)), (1, .ref (am_ad X 3 r1)), (2, .ref (am_ad X 1 r2)), (3, .int v3), (4, .int s.1)] [] s.2 := by
  refine am_loop_ind (P := fun s => am_G X gm_X0_findWheel Q 80 [(0, .ref (am_ad X 0 0)), (1, .ref (am_ad X 3 r1)), (2, .ref (am_ad X 1 r2)), (3, .int v3), (4, .int s.1)] [] s.2) (K := fun r => r = o) ?_ hf rfl
  intro s o1 hb hi hr
  exact q_X0_findWheel_80 hX r1 r2 v3 s.1  hr1 hr2 s.2 hb hi (fun t e => hk1 t (hr _ e).symm)
noncomputable def f_X0_findWheel_69 (r1 : Nat) (r2 : Nat) (v3 : Int32) (σ : am_H) : Option ((Int32 × am_H) ⊕ (am_H)) :=
  if v3 < (σ.1 3 r1 1) then
   ((am_loop (fun s => f_X0_findWheel_80 r1 r2 v3 s.1 s.2) (0, σ)).bind fun w2 =>
   some (.inl ((v3 + 1), w2)))
  else
  some (.inr σ)
set_option maxRecDepth 100000 in
set_option maxHeartbeats 4000000 in
theorem q_X0_findWheel_69 {X : am_X} (hX : am_wC X) {Q : Option Value → am_H → Prop} (r1 : Nat) (r2 : Nat) (v3 : Int32) (hr1 : r1 < 3) (hr2 : r2 < 2) (σ : am_H) {o : (Int32 × am_H) ⊕ (am_H)} (hf : f_X0_findWheel_69 r1 r2 v3 σ = some o) (hk0 : ∀ s, o = .inl s → am_G X gm_X0_findWheel Q 69 [(0, .ref (am_ad X 0 0)), (1, .ref (am_ad X 3 r1)), (2, .ref (am_ad X 1 r2)), (3, .int s.1)] [] s.2) (hk1 : ∀ t, o = .inr t → am_G X gm_X0_findWheel Q 136 [] [] t) : am_G X gm_X0_findWheel Q 69 [(0, .ref (am_ad X 0 0)), (1, .ref (am_ad X 3 r1)), (2, .ref (am_ad X 1 r2)), (3, .int v3)] [] σ := by
  unfold f_X0_findWheel_69 at hf
  refine g_iload_n (pc := 69) 3 rfl dX0_findWheel_69 rfl ?_
  refine g_aload_n (pc := 70) 1 rfl dX0_findWheel_70 rfl ?_
  refine g_getI (pc := 71) (in_3 hX.1 (by omega)) fr_X0_82 dX0_findWheel_71 ?_
  refine bi_ge (pc := 74) 136 dX0_findWheel_74 rfl (fun c1 => ?_) (fun c1 => ?_)
  · replace hf := am_ifT c1 hf
    refine g_iconst (pc := 77) (v := 0) dX0_findWheel_77 (by decide) ?_
    refine g_istore (pc := 78) [(4, .int 0), (0, .ref (am_ad X 0 0)), (1, .ref (am_ad X 3 r1)), (2, .ref (am_ad X 1 r2)), (3, .int v3)] dX0_findWheel_78 (Nat.le_of_ble_eq_true rfl) rfl ?_
    obtain ⟨w2, hw2, hf⟩ := am_bd hf
    refine am_sub [1, 2, 3, 4, 0] rfl (l_X0_findWheel_80 hX r1 r2 v3 (by omega) (by omega) σ (0, σ) hw2 ?_)
    intro t e
    subst e
    refine g_iinc (pc := 130) (v := (v3 + 1)) 3 [(3, .int (v3 + 1)), (0, .ref (am_ad X 0 0)), (1, .ref (am_ad X 3 r1)), (2, .ref (am_ad X 1 r2))] dX0_findWheel_130 rfl rfl (Nat.le_of_ble_eq_true rfl) rfl ?_
    refine g_goto (pc := 133) 69 dX0_findWheel_133 rfl ?_
    have hz := hk0 _ (Option.some.inj hf).symm
    exact am_sub [1, 2, 3, 0] rfl hz
  replace hf := am_ifF c1 hf
  have hz := hk1 _ (Option.some.inj hf).symm
  exact am_sub [] rfl hz
set_option maxRecDepth 100000 in
set_option maxHeartbeats 4000000 in
theorem l_X0_findWheel_69 {X : am_X} (hX : am_wC X) {Q : Option Value → am_H → Prop} (r1 : Nat) (r2 : Nat) (hr1 : r1 < 3) (hr2 : r2 < 2) (σ : am_H) (s : Int32 × am_H) {o : am_H} (hf : am_loop (fun s => f_X0_findWheel_69 r1 r2 s.1 s.2) s = some o) (hk1 : ∀ t, o = t → am_G X gm_X0_findWheel Q 136 [] [] t) : am_G X gm_X0_findWheel Q 69 [(0, .ref (am_ad X 0 0)), (1, .ref (am_ad X 3 r1)), (2, .ref (am_ad X 1 r2)), (3, .int s.1)] [] s.2 := by
  refine am_loop_ind (P := fun s => am_G X gm_X0_findWheel Q 69 [(0, .ref (am_ad X 0 0)), (1, .ref (am_ad X 3 r1)), (2, .ref (am_ad X 1 r2)), (3, .int s.1)] [] s.2) (K := fun r => r = o) ?_ hf rfl
  intro s o1 hb hi hr
  exact q_X0_findWheel_69 hX r1 r2 s.1  hr1 hr2 s.2 hb hi (fun t e => hk1 t (hr _ e).symm)
noncomputable def f_X0_findWheel (r1 : Nat) (r2 : Nat) (σ : am_H) : Option (am_H) :=
  (some (am_wI σ 0 0 3 0)).bind fun s1 =>
  (some (am_wI s1 0 0 9 (-1))).bind fun s2 =>
  (am_loop (fun s => f_X0_findWheel_12 r1 r2 s.1 s.2) (0, s2)).bind fun w3 =>
  (am_loop (fun s => f_X0_findWheel_69 r1 r2 s.1 s.2) (0, w3)).bind fun w4 =>
  some w4
set_option maxRecDepth 100000 in
set_option maxHeartbeats 4000000 in
theorem q_X0_findWheel {X : am_X} (hX : am_wC X) {Q : Option Value → am_H → Prop} (r1 : Nat) (r2 : Nat) (hr1 : r1 < 3) (hr2 : r2 < 2) (σ : am_H) {o : am_H} (hf : f_X0_findWheel r1 r2 σ = some o) (hk : Q none o) : am_G X gm_X0_findWheel Q 0 [(0, .ref (am_ad X 0 0)), (1, .ref (am_ad X 3 r1)), (2, .ref (am_ad X 1 r2))] [] σ := by
  unfold f_X0_findWheel at hf
  refine g_aload_n (pc := 0) 0 rfl dX0_findWheel_0 rfl ?_
  refine g_iconst (pc := 1) (v := 0) dX0_findWheel_1 (by decide) ?_
  obtain ⟨s1, hs1, hf⟩ := am_bd hf
  refine g_setI (pc := 2) (in_0 hX.1 (by omega)) fr_X0_31 dX0_findWheel_2 (Option.some.inj hs1) ?_
  refine g_aload_n (pc := 5) 0 rfl dX0_findWheel_5 rfl ?_
  refine g_iconst (pc := 6) (v := (-1)) dX0_findWheel_6 (by decide) ?_
  obtain ⟨s2, hs2, hf⟩ := am_bd hf
  refine g_setI (pc := 7) (in_0 hX.1 (by omega)) fr_X0_25 dX0_findWheel_7 (Option.some.inj hs2) ?_
  refine g_iconst (pc := 10) (v := 0) dX0_findWheel_10 (by decide) ?_
  refine g_istore_n (pc := 11) [(3, .int 0), (0, .ref (am_ad X 0 0)), (1, .ref (am_ad X 3 r1)), (2, .ref (am_ad X 1 r2))] dX0_findWheel_11 rfl (Nat.le_of_ble_eq_true rfl) rfl ?_
  obtain ⟨w3, hw3, hf⟩ := am_bd hf
  refine am_sub [1, 2, 3, 0] rfl (l_X0_findWheel_12 hX r1 r2 (by omega) (by omega) s2 (0, s2) hw3 ?_)
  intro t e
  subst e
  refine g_iconst (pc := 67) (v := 0) dX0_findWheel_67 (by decide) ?_
  refine g_istore_n (pc := 68) [(3, .int 0), (0, .ref (am_ad X 0 0)), (1, .ref (am_ad X 3 r1)), (2, .ref (am_ad X 1 r2))] dX0_findWheel_68 rfl (Nat.le_of_ble_eq_true rfl) rfl ?_
  obtain ⟨w4, hw4, hf⟩ := am_bd hf
  refine am_sub [1, 2, 3, 0] rfl (l_X0_findWheel_69 hX r1 r2 (by omega) (by omega) w3 (0, w3) hw4 ?_)
  intro t e
  subst e
  have ho := Option.some.inj hf
  subst ho
  exact g_vreturn (pc := 136) (st := []) rfl dX0_findWheel_136 hk
theorem k_X0_findWheel {X : am_X} (hX : am_wC X) (r1 : Nat) (r2 : Nat) (hr1 : r1 < 3) (hr2 : r2 < 2) (σ : am_H) {o : am_H} (hf : f_X0_findWheel r1 r2 σ = some o) : am_C X gm_X0_findWheel [.ref (am_ad X 0 0), .ref (am_ad X 3 r1), .ref (am_ad X 1 r2)] σ (am_is none o) :=
  am_ofG rfl (Nat.le_of_ble_eq_true rfl) rfl (q_X0_findWheel hX r1 r2 hr1 hr2 σ hf ⟨rfl, rfl⟩)
theorem dX3_waveAt_0 : decode cX3_waveAt 0 = .ok (.iload_n 1, 1) := by decide +kernel
theorem dX3_waveAt_1 : decode cX3_waveAt 1 = .ok (.ifCond .lt 11, 3) := by decide +kernel
theorem dX3_waveAt_4 : decode cX3_waveAt 4 = .ok (.iload_n 1, 1) := by decide +kernel
theorem dX3_waveAt_5 : decode cX3_waveAt 5 = .ok (.aload_n 0, 1) := by decide +kernel
theorem dX3_waveAt_6 : decode cX3_waveAt 6 = .ok (.getfield 32, 3) := by decide +kernel
theorem dX3_waveAt_9 : decode cX3_waveAt 9 = .ok (.if_icmp .lt 7, 3) := by decide +kernel
theorem dX3_waveAt_12 : decode cX3_waveAt 12 = .ok (.aconst_null, 1) := by decide +kernel
theorem dX3_waveAt_13 : decode cX3_waveAt 13 = .ok (.goto 9, 3) := by decide +kernel
theorem dX3_waveAt_16 : decode cX3_waveAt 16 = .ok (.aload_n 0, 1) := by decide +kernel
theorem dX3_waveAt_17 : decode cX3_waveAt 17 = .ok (.getfield 27, 3) := by decide +kernel
theorem dX3_waveAt_20 : decode cX3_waveAt 20 = .ok (.iload_n 1, 1) := by decide +kernel
theorem dX3_waveAt_21 : decode cX3_waveAt 21 = .ok (.aaload, 1) := by decide +kernel
theorem dX3_waveAt_22 : decode cX3_waveAt 22 = .ok (.areturn, 1) := by decide +kernel
noncomputable def f_X3_waveAt (r0 : Nat) (v1 : Int32) (σ : am_H) : Option (Option Nat) :=
  if v1 < 0 then
   (some none)
  else
  if v1 < (σ.1 3 r0 1) then
   ((am_ix 6 v1).bind fun j3 =>
   some (some (6 * r0 + j3)))
  else
  some none
set_option maxRecDepth 100000 in
set_option maxHeartbeats 4000000 in
theorem q_X3_waveAt {X : am_X} (hX : am_wC X) {Q : Option Value → am_H → Prop} (r0 : Nat) (v1 : Int32) (hr0 : r0 < 3) (σ : am_H) {o : Option Nat} (hf : f_X3_waveAt r0 v1 σ = some o) (hk : Q (some (va_rf (o.map (am_ad X 10)))) σ) : am_G X gm_X3_waveAt Q 0 [(0, .ref (am_ad X 3 r0)), (1, .int v1)] [] σ := by
  unfold f_X3_waveAt at hf
  refine g_iload_n (pc := 0) 1 rfl dX3_waveAt_0 rfl ?_
  refine bz_lt (pc := 1) 12 dX3_waveAt_1 rfl (fun c1 => ?_) (fun c1 => ?_)
  · replace hf := am_ifT c1 hf
    refine g_null (pc := 12) dX3_waveAt_12 ?_
    refine g_goto (pc := 13) 22 dX3_waveAt_13 rfl ?_
    have ho := Option.some.inj hf
    subst ho
    exact g_areturn (pc := 22) (st := []) rfl (Or.inl rfl) dX3_waveAt_22 hk
  replace hf := am_ifF c1 hf
  refine g_iload_n (pc := 4) 1 rfl dX3_waveAt_4 rfl ?_
  refine g_aload_n (pc := 5) 0 rfl dX3_waveAt_5 rfl ?_
  refine g_getI (pc := 6) (in_3 hX.1 (by omega)) fr_X3_32 dX3_waveAt_6 ?_
  refine bi_lt (pc := 9) 16 dX3_waveAt_9 rfl (fun c2 => ?_) (fun c2 => ?_)
  · replace hf := am_ifT c2 hf
    refine g_aload_n (pc := 16) 0 rfl dX3_waveAt_16 rfl ?_
    refine g_getC (pc := 17) (e := r0) (in_3 hX.1 (by omega)) fr_X3_27 dX3_waveAt_17 rfl ?_
    refine g_iload_n (pc := 20) 1 rfl dX3_waveAt_20 rfl ?_
    obtain ⟨j3, hj3, hf⟩ := am_bd hf
    have gj3 := am_ix_lt hj3
    refine g_aC (pc := 21) (e := (6 * r0 + j3)) (in_400 hX.1 (by omega)) ak_400 hj3 rfl dX3_waveAt_21 ?_
    have ho := Option.some.inj hf
    subst ho
    exact g_areturn (pc := 22) (st := []) rfl (Or.inr ⟨_, rfl⟩) dX3_waveAt_22 hk
  replace hf := am_ifF c2 hf
  refine g_null (pc := 12) dX3_waveAt_12 ?_
  refine g_goto (pc := 13) 22 dX3_waveAt_13 rfl ?_
  have ho := Option.some.inj hf
  subst ho
  exact g_areturn (pc := 22) (st := []) rfl (Or.inl rfl) dX3_waveAt_22 hk
theorem k_X3_waveAt {X : am_X} (hX : am_wC X) (r0 : Nat) (v1 : Int32) (hr0 : r0 < 3) (σ : am_H) {o : Option Nat} (hf : f_X3_waveAt r0 v1 σ = some o) : am_C X gm_X3_waveAt [.ref (am_ad X 3 r0), .int v1] σ (am_is (some (va_rf (o.map (am_ad X 10)))) σ) :=
  am_ofG rfl (Nat.le_of_ble_eq_true rfl) rfl (q_X3_waveAt hX r0 v1 hr0 σ hf ⟨rfl, rfl⟩)
theorem dX0_prepareSpread_0 : decode cX0_prepareSpread 0 = .ok (.iconst 0, 1) := by decide +kernel
theorem dX0_prepareSpread_1 : decode cX0_prepareSpread 1 = .ok (.istore 5, 2) := by decide +kernel
theorem dX0_prepareSpread_3 : decode cX0_prepareSpread 3 = .ok (.iload 5, 2) := by decide +kernel
theorem dX0_prepareSpread_5 : decode cX0_prepareSpread 5 = .ok (.iload 4, 2) := by decide +kernel
theorem dX0_prepareSpread_7 : decode cX0_prepareSpread 7 = .ok (.if_icmp .ge 80, 3) := by decide +kernel
theorem dX0_prepareSpread_10 : decode cX0_prepareSpread 10 = .ok (.aload_n 1, 1) := by decide +kernel
theorem dX0_prepareSpread_11 : decode cX0_prepareSpread 11 = .ok (.getfield 124, 3) := by decide +kernel
theorem dX0_prepareSpread_14 : decode cX0_prepareSpread 14 = .ok (.aload_n 1, 1) := by decide +kernel
theorem dX0_prepareSpread_15 : decode cX0_prepareSpread 15 = .ok (.iload_n 3, 1) := by decide +kernel
theorem dX0_prepareSpread_16 : decode cX0_prepareSpread 16 = .ok (.iload 5, 2) := by decide +kernel
theorem dX0_prepareSpread_18 : decode cX0_prepareSpread 18 = .ok (.iadd, 1) := by decide +kernel
theorem dX0_prepareSpread_19 : decode cX0_prepareSpread 19 = .ok (.i2l, 1) := by decide +kernel
theorem dX0_prepareSpread_20 : decode cX0_prepareSpread 20 = .ok (.iconst 0, 1) := by decide +kernel
theorem dX0_prepareSpread_21 : decode cX0_prepareSpread 21 = .ok (.invokevirtual 110, 3) := by decide +kernel
theorem dX0_prepareSpread_24 : decode cX0_prepareSpread 24 = .ok (.i2l, 1) := by decide +kernel
theorem dX0_prepareSpread_25 : decode cX0_prepareSpread 25 = .ok (.invokestatic 113, 3) := by decide +kernel
theorem dX0_prepareSpread_28 : decode cX0_prepareSpread 28 = .ok (.imul, 1) := by decide +kernel
theorem dX0_prepareSpread_29 : decode cX0_prepareSpread 29 = .ok (.istore 6, 2) := by decide +kernel
theorem dX0_prepareSpread_31 : decode cX0_prepareSpread 31 = .ok (.aload_n 0, 1) := by decide +kernel
theorem dX0_prepareSpread_32 : decode cX0_prepareSpread 32 = .ok (.getfield 9, 3) := by decide +kernel
theorem dX0_prepareSpread_35 : decode cX0_prepareSpread 35 = .ok (.iload 5, 2) := by decide +kernel
theorem dX0_prepareSpread_37 : decode cX0_prepareSpread 37 = .ok (.iload 6, 2) := by decide +kernel
theorem dX0_prepareSpread_39 : decode cX0_prepareSpread 39 = .ok (.aload_n 2, 1) := by decide +kernel
theorem dX0_prepareSpread_40 : decode cX0_prepareSpread 40 = .ok (.getfield 124, 3) := by decide +kernel
theorem dX0_prepareSpread_43 : decode cX0_prepareSpread 43 = .ok (.aload_n 2, 1) := by decide +kernel
theorem dX0_prepareSpread_44 : decode cX0_prepareSpread 44 = .ok (.iload_n 3, 1) := by decide +kernel
theorem dX0_prepareSpread_45 : decode cX0_prepareSpread 45 = .ok (.iload 5, 2) := by decide +kernel
theorem dX0_prepareSpread_47 : decode cX0_prepareSpread 47 = .ok (.iadd, 1) := by decide +kernel
theorem dX0_prepareSpread_48 : decode cX0_prepareSpread 48 = .ok (.i2l, 1) := by decide +kernel
theorem dX0_prepareSpread_49 : decode cX0_prepareSpread 49 = .ok (.iconst 0, 1) := by decide +kernel
theorem dX0_prepareSpread_50 : decode cX0_prepareSpread 50 = .ok (.invokevirtual 110, 3) := by decide +kernel
theorem dX0_prepareSpread_53 : decode cX0_prepareSpread 53 = .ok (.i2l, 1) := by decide +kernel
theorem dX0_prepareSpread_54 : decode cX0_prepareSpread 54 = .ok (.invokestatic 113, 3) := by decide +kernel
theorem dX0_prepareSpread_57 : decode cX0_prepareSpread 57 = .ok (.imul, 1) := by decide +kernel
theorem dX0_prepareSpread_58 : decode cX0_prepareSpread 58 = .ok (.iadd, 1) := by decide +kernel
theorem dX0_prepareSpread_59 : decode cX0_prepareSpread 59 = .ok (.iastore, 1) := by decide +kernel
theorem dX0_prepareSpread_60 : decode cX0_prepareSpread 60 = .ok (.aload_n 0, 1) := by decide +kernel
theorem dX0_prepareSpread_61 : decode cX0_prepareSpread 61 = .ok (.getfield 18, 3) := by decide +kernel
theorem dX0_prepareSpread_64 : decode cX0_prepareSpread 64 = .ok (.iload 5, 2) := by decide +kernel
theorem dX0_prepareSpread_66 : decode cX0_prepareSpread 66 = .ok (.aload_n 2, 1) := by decide +kernel
theorem dX0_prepareSpread_67 : decode cX0_prepareSpread 67 = .ok (.iload_n 3, 1) := by decide +kernel
theorem dX0_prepareSpread_68 : decode cX0_prepareSpread 68 = .ok (.iload 5, 2) := by decide +kernel
theorem dX0_prepareSpread_70 : decode cX0_prepareSpread 70 = .ok (.iadd, 1) := by decide +kernel
theorem dX0_prepareSpread_71 : decode cX0_prepareSpread 71 = .ok (.i2l, 1) := by decide +kernel
theorem dX0_prepareSpread_72 : decode cX0_prepareSpread 72 = .ok (.invokevirtual 157, 3) := by decide +kernel
theorem dX0_prepareSpread_75 : decode cX0_prepareSpread 75 = .ok (.ldc2_w 161, 3) := by decide +kernel
theorem dX0_prepareSpread_78 : decode cX0_prepareSpread 78 = .ok (.lrem, 1) := by decide +kernel
theorem dX0_prepareSpread_79 : decode cX0_prepareSpread 79 = .ok (.l2i, 1) := by decide +kernel
theorem dX0_prepareSpread_80 : decode cX0_prepareSpread 80 = .ok (.iastore, 1) := by decide +kernel
theorem dX0_prepareSpread_81 : decode cX0_prepareSpread 81 = .ok (.iinc 5 1, 3) := by decide +kernel
theorem dX0_prepareSpread_84 : decode cX0_prepareSpread 84 = .ok (.goto (-81), 3) := by decide +kernel
theorem dX0_prepareSpread_87 : decode cX0_prepareSpread 87 = .ok (.return_, 1) := by decide +kernel
noncomputable def f_X0_prepareSpread_3 (r1 : Nat) (r2 : Nat) (v3 : Int32) (v4 : Int32) (v5 : Int32) (σ : am_H) : Option ((Int32 × am_H) ⊕ (am_H)) :=
  if v5 < v4 then
   ((f_X10_placeAt r1 (Int32.toInt64 (v3 + v5)) false σ).bind fun p2 =>
   (f_X11_cosOf (Int32.toInt64 p2) σ).bind fun p3 =>
   (f_X10_placeAt r2 (Int32.toInt64 (v3 + v5)) false σ).bind fun p4 =>
   (f_X11_cosOf (Int32.toInt64 p4) σ).bind fun p5 =>
   (am_ix 48 v5).bind fun j6 =>
   (some (am_wI σ 100 0 j6 (((σ.1 10 r1 3) * p3) + ((σ.1 10 r2 3) * p5)))).bind fun s7 =>
   (f_X10_trueGone r2 (Int32.toInt64 (v3 + v5)) s7).bind fun p8 =>
   (am_ix 48 v5).bind fun j9 =>
   (some (am_wI s7 102 0 j9 (Int64.toInt32 (am_lR p8 24)))).bind fun s10 =>
   some (.inl ((v5 + 1), s10)))
  else
  some (.inr σ)
set_option maxRecDepth 100000 in
set_option maxHeartbeats 4000000 in
theorem q_X0_prepareSpread_3 {X : am_X} (hX : am_wC X) {Q : Option Value → am_H → Prop} (r1 : Nat) (r2 : Nat) (v3 : Int32) (v4 : Int32) (v5 : Int32) (hr1 : r1 < 18) (hr2 : r2 < 18) (σ : am_H) {o : (Int32 × am_H) ⊕ (am_H)} (hf : f_X0_prepareSpread_3 r1 r2 v3 v4 v5 σ = some o) (hk0 : ∀ s, o = .inl s → am_G X gm_X0_prepareSpread Q 3 [(0, .ref (am_ad X 0 0)), (1, .ref (am_ad X 10 r1)), (2, .ref (am_ad X 10 r2)), (3, .int v3), (4, .int v4), (5, .int s.1)] [] s.2) (hk1 : ∀ t, o = .inr t → am_G X gm_X0_prepareSpread Q 87 [] [] t) : am_G X gm_X0_prepareSpread Q 3 [(0, .ref (am_ad X 0 0)), (1, .ref (am_ad X 10 r1)), (2, .ref (am_ad X 10 r2)), (3, .int v3), (4, .int v4), (5, .int v5)] [] σ := by
  unfold f_X0_prepareSpread_3 at hf
  refine g_iload (pc := 3) 5 rfl dX0_prepareSpread_3 ?_
  refine g_iload (pc := 5) 4 rfl dX0_prepareSpread_5 ?_
  refine bi_ge (pc := 7) 87 dX0_prepareSpread_7 rfl (fun c1 => ?_) (fun c1 => ?_)
  · replace hf := am_ifT c1 hf
    refine g_aload_n (pc := 10) 1 rfl dX0_prepareSpread_10 rfl ?_
    refine g_getI (pc := 11) (in_10 hX.1 (by omega)) fr_X0_124 dX0_prepareSpread_11 ?_
    refine g_aload_n (pc := 14) 1 rfl dX0_prepareSpread_14 rfl ?_
    refine g_iload_n (pc := 15) 3 rfl dX0_prepareSpread_15 rfl ?_
    refine g_iload (pc := 16) 5 rfl dX0_prepareSpread_16 ?_
    refine g_iadd (pc := 18) dX0_prepareSpread_18 ?_
    refine g_i2l (pc := 19) dX0_prepareSpread_19 ?_
    refine g_iconst (pc := 20) (v := 0) dX0_prepareSpread_20 (by decide) ?_
    obtain ⟨p2, hp2, hf⟩ := am_bd hf
    refine g_cV (pc := 21) (As := [.long (Int32.toInt64 (v3 + v5)), .int (am_b false)]) (st := [.int (σ.1 10 r1 3)]) (st1 := [.int p2, .int (σ.1 10 r1 3)]) (in_10 hX.1 (by omega)) kk_10 mV_X10_placeAt ln_X0_110 rfl (Nat.le_of_ble_eq_true rfl) (Nat.le_of_ble_eq_true rfl) (k_X10_placeAt hX r1 (Int32.toInt64 (v3 + v5)) false (by omega) σ hp2) dX0_prepareSpread_21 rfl rfl ?_
    refine g_i2l (pc := 24) dX0_prepareSpread_24 ?_
    obtain ⟨p3, hp3, hf⟩ := am_bd hf
    refine g_cS (pc := 25) (As := [.long (Int32.toInt64 p2)]) (st := [.int (σ.1 10 r1 3)]) (st1 := [.int p3, .int (σ.1 10 r1 3)]) mS_X11_cosOf ln_X0_113 rfl (Nat.le_of_ble_eq_true rfl) (Nat.le_of_ble_eq_true rfl) (k_X11_cosOf hX (Int32.toInt64 p2) σ hp3) dX0_prepareSpread_25 rfl rfl ?_
    refine g_imul (pc := 28) dX0_prepareSpread_28 ?_
    refine g_istore (pc := 29) [(6, .int ((σ.1 10 r1 3) * p3)), (0, .ref (am_ad X 0 0)), (1, .ref (am_ad X 10 r1)), (2, .ref (am_ad X 10 r2)), (3, .int v3), (4, .int v4), (5, .int v5)] dX0_prepareSpread_29 (Nat.le_of_ble_eq_true rfl) rfl ?_
    refine g_aload_n (pc := 31) 1 rfl dX0_prepareSpread_31 rfl ?_
    refine g_getC (pc := 32) (e := 0) (in_0 hX.1 (by omega)) fr_X0_9 dX0_prepareSpread_32 rfl ?_
    refine g_iload (pc := 35) 6 rfl dX0_prepareSpread_35 ?_
    refine g_iload (pc := 37) 0 rfl dX0_prepareSpread_37 ?_
    refine g_aload_n (pc := 39) 3 rfl dX0_prepareSpread_39 rfl ?_
    refine g_getI (pc := 40) (in_10 hX.1 (by omega)) fr_X0_124 dX0_prepareSpread_40 ?_
    refine g_aload_n (pc := 43) 3 rfl dX0_prepareSpread_43 rfl ?_
    refine g_iload_n (pc := 44) 4 rfl dX0_prepareSpread_44 rfl ?_
    refine g_iload (pc := 45) 6 rfl dX0_prepareSpread_45 ?_
    refine g_iadd (pc := 47) dX0_prepareSpread_47 ?_
    refine g_i2l (pc := 48) dX0_prepareSpread_48 ?_
    refine g_iconst (pc := 49) (v := 0) dX0_prepareSpread_49 (by decide) ?_
    obtain ⟨p4, hp4, hf⟩ := am_bd hf
    refine g_cV (pc := 50) (As := [.long (Int32.toInt64 (v3 + v5)), .int (am_b false)]) (st := [.int (σ.1 10 r2 3), .int ((σ.1 10 r1 3) * p3), .int v5, .ref (am_ad X 100 0)]) (st1 := [.int p4, .int (σ.1 10 r2 3), .int ((σ.1 10 r1 3) * p3), .int v5, .ref (am_ad X 100 0)]) (in_10 hX.1 (by omega)) kk_10 mV_X10_placeAt ln_X0_110 rfl (Nat.le_of_ble_eq_true rfl) (Nat.le_of_ble_eq_true rfl) (k_X10_placeAt hX r2 (Int32.toInt64 (v3 + v5)) false (by omega) σ hp4) dX0_prepareSpread_50 rfl rfl ?_
    refine g_i2l (pc := 53) dX0_prepareSpread_53 ?_
    obtain ⟨p5, hp5, hf⟩ := am_bd hf
    refine g_cS (pc := 54) (As := [.long (Int32.toInt64 p4)]) (st := [.int (σ.1 10 r2 3), .int ((σ.1 10 r1 3) * p3), .int v5, .ref (am_ad X 100 0)]) (st1 := [.int p5, .int (σ.1 10 r2 3), .int ((σ.1 10 r1 3) * p3), .int v5, .ref (am_ad X 100 0)]) mS_X11_cosOf ln_X0_113 rfl (Nat.le_of_ble_eq_true rfl) (Nat.le_of_ble_eq_true rfl) (k_X11_cosOf hX (Int32.toInt64 p4) σ hp5) dX0_prepareSpread_54 rfl rfl ?_
    refine g_imul (pc := 57) dX0_prepareSpread_57 ?_
    refine g_iadd (pc := 58) dX0_prepareSpread_58 ?_
    obtain ⟨j6, hj6, hf⟩ := am_bd hf
    have gj6 := am_ix_lt hj6
    obtain ⟨s7, hs7, hf⟩ := am_bd hf
    refine g_sI (pc := 59) (in_100 hX.1 (by omega)) ak_100 hj6 dX0_prepareSpread_59 (Option.some.inj hs7) ?_
    refine g_aload_n (pc := 60) 1 rfl dX0_prepareSpread_60 rfl ?_
    refine g_getC (pc := 61) (e := 0) (in_0 hX.1 (by omega)) fr_X0_18 dX0_prepareSpread_61 rfl ?_
    refine g_iload (pc := 64) 6 rfl dX0_prepareSpread_64 ?_
    refine g_aload_n (pc := 66) 3 rfl dX0_prepareSpread_66 rfl ?_
    refine g_iload_n (pc := 67) 4 rfl dX0_prepareSpread_67 rfl ?_
    refine g_iload (pc := 68) 6 rfl dX0_prepareSpread_68 ?_
    refine g_iadd (pc := 70) dX0_prepareSpread_70 ?_
    refine g_i2l (pc := 71) dX0_prepareSpread_71 ?_
    obtain ⟨p8, hp8, hf⟩ := am_bd hf
    refine g_cV (pc := 72) (As := [.long (Int32.toInt64 (v3 + v5))]) (st := [.int v5, .ref (am_ad X 102 0)]) (st1 := [.long p8, .int v5, .ref (am_ad X 102 0)]) (in_10 hX.1 (by omega)) kk_10 mV_X10_trueGone ln_X0_157 rfl (Nat.le_of_ble_eq_true rfl) (Nat.le_of_ble_eq_true rfl) (k_X10_trueGone hX r2 (Int32.toInt64 (v3 + v5)) (by omega) s7 hp8) dX0_prepareSpread_72 rfl rfl ?_
    refine g_ldc2 (pc := 75) (v := 24) (tb_6 (List.mem_of_getElem? (i := 33) (by decide +kernel))) dX0_prepareSpread_75 ?_
    refine g_lrem (pc := 78) dX0_prepareSpread_78 (by decide) ?_
    refine g_l2i (pc := 79) dX0_prepareSpread_79 ?_
    obtain ⟨j9, hj9, hf⟩ := am_bd hf
    have gj9 := am_ix_lt hj9
    obtain ⟨s10, hs10, hf⟩ := am_bd hf
    refine g_sI (pc := 80) (in_102 hX.1 (by omega)) ak_102 hj9 dX0_prepareSpread_80 (Option.some.inj hs10) ?_
    refine g_iinc (pc := 81) (v := (v5 + 1)) 6 [(5, .int (v5 + 1)), (6, .int ((σ.1 10 r1 3) * p3)), (0, .ref (am_ad X 0 0)), (1, .ref (am_ad X 10 r1)), (2, .ref (am_ad X 10 r2)), (3, .int v3), (4, .int v4)] dX0_prepareSpread_81 rfl rfl (Nat.le_of_ble_eq_true rfl) rfl ?_
    refine g_goto (pc := 84) 3 dX0_prepareSpread_84 rfl ?_
    have hz := hk0 _ (Option.some.inj hf).symm
    exact am_sub [2, 3, 4, 5, 6, 0] rfl hz
  replace hf := am_ifF c1 hf
  have hz := hk1 _ (Option.some.inj hf).symm
  exact am_sub [] rfl hz
set_option maxRecDepth 100000 in
set_option maxHeartbeats 4000000 in
theorem l_X0_prepareSpread_3 {X : am_X} (hX : am_wC X) {Q : Option Value → am_H → Prop} (r1 : Nat) (r2 : Nat) (v3 : Int32) (v4 : Int32) (hr1 : r1 < 18) (hr2 : r2 < 18) (σ : am_H) (s : Int32 × am_H) {o : am_H} (hf : am_loop (fun s => f_X0_prepareSpread_3 r1 r2 v3 v4 s.1 s.2) s = some o) (hk1 : ∀ t, o = t → am_G X gm_X0_prepareSpread Q 87 [] [] t) : am_G X gm_X0_prepareSpread Q 3 [(0, .ref (am_ad X 0 0)), (1, .ref (am_ad X 10 r1)), (2, .ref (am_ad X 10 r2)), (3, .int v3), (4, .int v4), (5, .int s.1)] [] s.2 := by
  refine am_loop_ind (P := fun s => am_G X gm_X0_prepareSpread Q 3 [(0, .ref (am_ad X 0 0)), (1, .ref (am_ad X 10 r1)), (2, .ref (am_ad X 10 r2)), (3, .int v3), (4, .int v4), (5, .int s.1)] [] s.2) (K := fun r => r = o) ?_ hf rfl
  intro s o1 hb hi hr
  exact q_X0_prepareSpread_3 hX r1 r2 v3 v4 s.1  hr1 hr2 s.2 hb hi (fun t e => hk1 t (hr _ e).symm)
noncomputable def f_X0_prepareSpread (r1 : Nat) (r2 : Nat) (v3 : Int32) (v4 : Int32) (σ : am_H) : Option (am_H) :=
  (am_loop (fun s => f_X0_prepareSpread_3 r1 r2 v3 v4 s.1 s.2) (0, σ)).bind fun w1 =>
  some w1
set_option maxRecDepth 100000 in
set_option maxHeartbeats 4000000 in
theorem q_X0_prepareSpread {X : am_X} (hX : am_wC X) {Q : Option Value → am_H → Prop} (r1 : Nat) (r2 : Nat) (v3 : Int32) (v4 : Int32) (hr1 : r1 < 18) (hr2 : r2 < 18) (σ : am_H) {o : am_H} (hf : f_X0_prepareSpread r1 r2 v3 v4 σ = some o) (hk : Q none o) : am_G X gm_X0_prepareSpread Q 0 [(0, .ref (am_ad X 0 0)), (1, .ref (am_ad X 10 r1)), (2, .ref (am_ad X 10 r2)), (3, .int v3), (4, .int v4)] [] σ := by
  unfold f_X0_prepareSpread at hf
  refine g_iconst (pc := 0) (v := 0) dX0_prepareSpread_0 (by decide) ?_
  refine g_istore (pc := 1) [(5, .int 0), (0, .ref (am_ad X 0 0)), (1, .ref (am_ad X 10 r1)), (2, .ref (am_ad X 10 r2)), (3, .int v3), (4, .int v4)] dX0_prepareSpread_1 (Nat.le_of_ble_eq_true rfl) rfl ?_
  obtain ⟨w1, hw1, hf⟩ := am_bd hf
  refine am_sub [1, 2, 3, 4, 5, 0] rfl (l_X0_prepareSpread_3 hX r1 r2 v3 v4 (by omega) (by omega) σ (0, σ) hw1 ?_)
  intro t e
  subst e
  have ho := Option.some.inj hf
  subst ho
  exact g_vreturn (pc := 87) (st := []) rfl dX0_prepareSpread_87 hk
theorem k_X0_prepareSpread {X : am_X} (hX : am_wC X) (r1 : Nat) (r2 : Nat) (v3 : Int32) (v4 : Int32) (hr1 : r1 < 18) (hr2 : r2 < 18) (σ : am_H) {o : am_H} (hf : f_X0_prepareSpread r1 r2 v3 v4 σ = some o) : am_C X gm_X0_prepareSpread [.ref (am_ad X 0 0), .ref (am_ad X 10 r1), .ref (am_ad X 10 r2), .int v3, .int v4] σ (am_is none o) :=
  am_ofG rfl (Nat.le_of_ble_eq_true rfl) rfl (q_X0_prepareSpread hX r1 r2 v3 v4 hr1 hr2 σ hf ⟨rfl, rfl⟩)
theorem dX0_sumSpread_0 : decode cX0_sumSpread 0 = .ok (.iconst 0, 1) := by decide +kernel
theorem dX0_sumSpread_1 : decode cX0_sumSpread 1 = .ok (.istore 4, 2) := by decide +kernel
theorem dX0_sumSpread_3 : decode cX0_sumSpread 3 = .ok (.iconst 0, 1) := by decide +kernel
theorem dX0_sumSpread_4 : decode cX0_sumSpread 4 = .ok (.istore 5, 2) := by decide +kernel
theorem dX0_sumSpread_6 : decode cX0_sumSpread 6 = .ok (.iload 5, 2) := by decide +kernel
theorem dX0_sumSpread_8 : decode cX0_sumSpread 8 = .ok (.iload_n 3, 1) := by decide +kernel
theorem dX0_sumSpread_9 : decode cX0_sumSpread 9 = .ok (.if_icmp .ge 40, 3) := by decide +kernel
theorem dX0_sumSpread_12 : decode cX0_sumSpread 12 = .ok (.iload 4, 2) := by decide +kernel
theorem dX0_sumSpread_14 : decode cX0_sumSpread 14 = .ok (.aload_n 0, 1) := by decide +kernel
theorem dX0_sumSpread_15 : decode cX0_sumSpread 15 = .ok (.getfield 9, 3) := by decide +kernel
theorem dX0_sumSpread_18 : decode cX0_sumSpread 18 = .ok (.iload 5, 2) := by decide +kernel
theorem dX0_sumSpread_20 : decode cX0_sumSpread 20 = .ok (.iaload, 1) := by decide +kernel
theorem dX0_sumSpread_21 : decode cX0_sumSpread 21 = .ok (.iload_n 1, 1) := by decide +kernel
theorem dX0_sumSpread_22 : decode cX0_sumSpread 22 = .ok (.aload_n 0, 1) := by decide +kernel
theorem dX0_sumSpread_23 : decode cX0_sumSpread 23 = .ok (.getfield 18, 3) := by decide +kernel
theorem dX0_sumSpread_26 : decode cX0_sumSpread 26 = .ok (.iload 5, 2) := by decide +kernel
theorem dX0_sumSpread_28 : decode cX0_sumSpread 28 = .ok (.iaload, 1) := by decide +kernel
theorem dX0_sumSpread_29 : decode cX0_sumSpread 29 = .ok (.iload_n 2, 1) := by decide +kernel
theorem dX0_sumSpread_30 : decode cX0_sumSpread 30 = .ok (.iadd, 1) := by decide +kernel
theorem dX0_sumSpread_31 : decode cX0_sumSpread 31 = .ok (.i2l, 1) := by decide +kernel
theorem dX0_sumSpread_32 : decode cX0_sumSpread 32 = .ok (.invokestatic 113, 3) := by decide +kernel
theorem dX0_sumSpread_35 : decode cX0_sumSpread 35 = .ok (.imul, 1) := by decide +kernel
theorem dX0_sumSpread_36 : decode cX0_sumSpread 36 = .ok (.isub, 1) := by decide +kernel
theorem dX0_sumSpread_37 : decode cX0_sumSpread 37 = .ok (.invokestatic 146, 3) := by decide +kernel
theorem dX0_sumSpread_40 : decode cX0_sumSpread 40 = .ok (.iadd, 1) := by decide +kernel
theorem dX0_sumSpread_41 : decode cX0_sumSpread 41 = .ok (.istore 4, 2) := by decide +kernel
theorem dX0_sumSpread_43 : decode cX0_sumSpread 43 = .ok (.iinc 5 1, 3) := by decide +kernel
theorem dX0_sumSpread_46 : decode cX0_sumSpread 46 = .ok (.goto (-40), 3) := by decide +kernel
theorem dX0_sumSpread_49 : decode cX0_sumSpread 49 = .ok (.iload 4, 2) := by decide +kernel
theorem dX0_sumSpread_51 : decode cX0_sumSpread 51 = .ok (.ireturn, 1) := by decide +kernel
noncomputable def f_X0_sumSpread_6 (v1 : Int32) (v2 : Int32) (v3 : Int32) (v4 : Int32) (v5 : Int32) (σ : am_H) : Option ((Int32 × Int32) ⊕ (Int32)) :=
  if v5 < v3 then
   ((am_ix 48 v5).bind fun j2 =>
   (am_ix 48 v5).bind fun j3 =>
   (f_X11_cosOf (Int32.toInt64 ((σ.1 102 0 j3) + v2)) σ).bind fun p4 =>
   some (.inl ((v4 + (am_ab ((σ.1 100 0 j2) - (v1 * p4)))), (v5 + 1))))
  else
  some (.inr v4)
set_option maxRecDepth 100000 in
set_option maxHeartbeats 4000000 in
theorem q_X0_sumSpread_6 {X : am_X} (hX : am_wC X) {Q : Option Value → am_H → Prop} (v1 : Int32) (v2 : Int32) (v3 : Int32) (v4 : Int32) (v5 : Int32) (σ : am_H) {o : (Int32 × Int32) ⊕ (Int32)} (hf : f_X0_sumSpread_6 v1 v2 v3 v4 v5 σ = some o) (hk0 : ∀ s, o = .inl s → am_G X gm_X0_sumSpread Q 6 [(0, .ref (am_ad X 0 0)), (1, .int v1), (2, .int v2), (3, .int v3), (4, .int s.1), (5, .int s.2)] [] σ) (hk1 : ∀ t, o = .inr t → am_G X gm_X0_sumSpread Q 49 [(4, .int t)] [] σ) : am_G X gm_X0_sumSpread Q 6 [(0, .ref (am_ad X 0 0)), (1, .int v1), (2, .int v2), (3, .int v3), (4, .int v4), (5, .int v5)] [] σ := by
  unfold f_X0_sumSpread_6 at hf
  refine g_iload (pc := 6) 5 rfl dX0_sumSpread_6 ?_
  refine g_iload_n (pc := 8) 3 rfl dX0_sumSpread_8 rfl ?_
  refine bi_ge (pc := 9) 49 dX0_sumSpread_9 rfl (fun c1 => ?_) (fun c1 => ?_)
  · replace hf := am_ifT c1 hf
    refine g_iload (pc := 12) 4 rfl dX0_sumSpread_12 ?_
    refine g_aload_n (pc := 14) 0 rfl dX0_sumSpread_14 rfl ?_
    refine g_getC (pc := 15) (e := 0) (in_0 hX.1 (by omega)) fr_X0_9 dX0_sumSpread_15 rfl ?_
    refine g_iload (pc := 18) 5 rfl dX0_sumSpread_18 ?_
    obtain ⟨j2, hj2, hf⟩ := am_bd hf
    have gj2 := am_ix_lt hj2
    refine g_aI (pc := 20) (in_100 hX.1 (by omega)) ak_100 hj2 dX0_sumSpread_20 ?_
    refine g_iload_n (pc := 21) 1 rfl dX0_sumSpread_21 rfl ?_
    refine g_aload_n (pc := 22) 0 rfl dX0_sumSpread_22 rfl ?_
    refine g_getC (pc := 23) (e := 0) (in_0 hX.1 (by omega)) fr_X0_18 dX0_sumSpread_23 rfl ?_
    refine g_iload (pc := 26) 5 rfl dX0_sumSpread_26 ?_
    obtain ⟨j3, hj3, hf⟩ := am_bd hf
    have gj3 := am_ix_lt hj3
    refine g_aI (pc := 28) (in_102 hX.1 (by omega)) ak_102 hj3 dX0_sumSpread_28 ?_
    refine g_iload_n (pc := 29) 2 rfl dX0_sumSpread_29 rfl ?_
    refine g_iadd (pc := 30) dX0_sumSpread_30 ?_
    refine g_i2l (pc := 31) dX0_sumSpread_31 ?_
    obtain ⟨p4, hp4, hf⟩ := am_bd hf
    refine g_cS (pc := 32) (As := [.long (Int32.toInt64 ((σ.1 102 0 j3) + v2))]) (st := [.int v1, .int (σ.1 100 0 j2), .int v4]) (st1 := [.int p4, .int v1, .int (σ.1 100 0 j2), .int v4]) mS_X11_cosOf ln_X0_113 rfl (Nat.le_of_ble_eq_true rfl) (Nat.le_of_ble_eq_true rfl) (k_X11_cosOf hX (Int32.toInt64 ((σ.1 102 0 j3) + v2)) σ hp4) dX0_sumSpread_32 rfl rfl ?_
    refine g_imul (pc := 35) dX0_sumSpread_35 ?_
    refine g_isub (pc := 36) dX0_sumSpread_36 ?_
    refine g_mabs (pc := 37) (Nat.le_of_ble_eq_true rfl) (Nat.le_of_ble_eq_true rfl) sp_X0_146 dX0_sumSpread_37 ?_
    refine g_iadd (pc := 40) dX0_sumSpread_40 ?_
    refine g_istore (pc := 41) [(4, .int (v4 + (am_ab ((σ.1 100 0 j2) - (v1 * p4))))), (0, .ref (am_ad X 0 0)), (1, .int v1), (2, .int v2), (3, .int v3), (5, .int v5)] dX0_sumSpread_41 (Nat.le_of_ble_eq_true rfl) rfl ?_
    refine g_iinc (pc := 43) (v := (v5 + 1)) 5 [(5, .int (v5 + 1)), (4, .int (v4 + (am_ab ((σ.1 100 0 j2) - (v1 * p4))))), (0, .ref (am_ad X 0 0)), (1, .int v1), (2, .int v2), (3, .int v3)] dX0_sumSpread_43 rfl rfl (Nat.le_of_ble_eq_true rfl) rfl ?_
    refine g_goto (pc := 46) 6 dX0_sumSpread_46 rfl ?_
    have hz := hk0 _ (Option.some.inj hf).symm
    exact am_sub [2, 3, 4, 5, 1, 0] rfl hz
  replace hf := am_ifF c1 hf
  have hz := hk1 _ (Option.some.inj hf).symm
  exact am_sub [4] rfl hz
set_option maxRecDepth 100000 in
set_option maxHeartbeats 4000000 in
theorem l_X0_sumSpread_6 {X : am_X} (hX : am_wC X) {Q : Option Value → am_H → Prop} (v1 : Int32) (v2 : Int32) (v3 : Int32) (σ : am_H) (s : Int32 × Int32) {o : Int32} (hf : am_loop (fun s => f_X0_sumSpread_6 v1 v2 v3 s.1 s.2 σ) s = some o) (hk1 : ∀ t, o = t → am_G X gm_X0_sumSpread Q 49 [(4, .int t)] [] σ) : am_G X gm_X0_sumSpread Q 6 [(0, .ref (am_ad X 0 0)), (1, .int v1), (2, .int v2), (3, .int v3), (4, .int s.1), (5, .int s.2)] [] σ := by
  refine am_loop_ind (P := fun s => am_G X gm_X0_sumSpread Q 6 [(0, .ref (am_ad X 0 0)), (1, .int v1), (2, .int v2), (3, .int v3), (4, .int s.1), (5, .int s.2)] [] σ) (K := fun r => r = o) ?_ hf rfl
  intro s o1 hb hi hr
  exact q_X0_sumSpread_6 hX v1 v2 v3 s.1 s.2  σ hb hi (fun t e => hk1 t (hr _ e).symm)
noncomputable def f_X0_sumSpread (v1 : Int32) (v2 : Int32) (v3 : Int32) (σ : am_H) : Option (Int32) :=
  (am_loop (fun s => f_X0_sumSpread_6 v1 v2 v3 s.1 s.2 σ) (0, 0)).bind fun w1 =>
  some w1
set_option maxRecDepth 100000 in
set_option maxHeartbeats 4000000 in
theorem q_X0_sumSpread {X : am_X} (hX : am_wC X) {Q : Option Value → am_H → Prop} (v1 : Int32) (v2 : Int32) (v3 : Int32) (σ : am_H) {o : Int32} (hf : f_X0_sumSpread v1 v2 v3 σ = some o) (hk : Q (some (.int o)) σ) : am_G X gm_X0_sumSpread Q 0 [(0, .ref (am_ad X 0 0)), (1, .int v1), (2, .int v2), (3, .int v3)] [] σ := by
  unfold f_X0_sumSpread at hf
  refine g_iconst (pc := 0) (v := 0) dX0_sumSpread_0 (by decide) ?_
  refine g_istore (pc := 1) [(4, .int 0), (0, .ref (am_ad X 0 0)), (1, .int v1), (2, .int v2), (3, .int v3)] dX0_sumSpread_1 (Nat.le_of_ble_eq_true rfl) rfl ?_
  refine g_iconst (pc := 3) (v := 0) dX0_sumSpread_3 (by decide) ?_
  refine g_istore (pc := 4) [(5, .int 0), (4, .int 0), (0, .ref (am_ad X 0 0)), (1, .int v1), (2, .int v2), (3, .int v3)] dX0_sumSpread_4 (Nat.le_of_ble_eq_true rfl) rfl ?_
  obtain ⟨w1, hw1, hf⟩ := am_bd hf
  refine am_sub [2, 3, 4, 5, 1, 0] rfl (l_X0_sumSpread_6 hX v1 v2 v3  σ (0, 0) hw1 ?_)
  intro t e
  subst e
  refine g_iload (pc := 49) 0 rfl dX0_sumSpread_49 ?_
  have ho := Option.some.inj hf
  subst ho
  exact g_ireturn (pc := 51) (st := []) rfl dX0_sumSpread_51 hk
theorem k_X0_sumSpread {X : am_X} (hX : am_wC X) (v1 : Int32) (v2 : Int32) (v3 : Int32) (σ : am_H) {o : Int32} (hf : f_X0_sumSpread v1 v2 v3 σ = some o) : am_C X gm_X0_sumSpread [.ref (am_ad X 0 0), .int v1, .int v2, .int v3] σ (am_is (some (.int o)) σ) :=
  am_ofG rfl (Nat.le_of_ble_eq_true rfl) rfl (q_X0_sumSpread hX v1 v2 v3 σ hf ⟨rfl, rfl⟩)
theorem dX0_bestSize_0 : decode cX0_bestSize 0 = .ok (.iconst 0, 1) := by decide +kernel
theorem dX0_bestSize_1 : decode cX0_bestSize 1 = .ok (.istore_n 3, 1) := by decide +kernel
theorem dX0_bestSize_2 : decode cX0_bestSize 2 = .ok (.bipush 99, 2) := by decide +kernel
theorem dX0_bestSize_4 : decode cX0_bestSize 4 = .ok (.istore 4, 2) := by decide +kernel
theorem dX0_bestSize_6 : decode cX0_bestSize 6 = .ok (.iconst 0, 1) := by decide +kernel
theorem dX0_bestSize_7 : decode cX0_bestSize 7 = .ok (.istore 5, 2) := by decide +kernel
theorem dX0_bestSize_9 : decode cX0_bestSize 9 = .ok (.iload 5, 2) := by decide +kernel
theorem dX0_bestSize_11 : decode cX0_bestSize 11 = .ok (.bipush 10, 2) := by decide +kernel
theorem dX0_bestSize_13 : decode cX0_bestSize 13 = .ok (.if_icmp .ge 56, 3) := by decide +kernel
theorem dX0_bestSize_16 : decode cX0_bestSize 16 = .ok (.iload_n 3, 1) := by decide +kernel
theorem dX0_bestSize_17 : decode cX0_bestSize 17 = .ok (.iload 4, 2) := by decide +kernel
theorem dX0_bestSize_19 : decode cX0_bestSize 19 = .ok (.if_icmp .ge 50, 3) := by decide +kernel
theorem dX0_bestSize_22 : decode cX0_bestSize 22 = .ok (.iload_n 3, 1) := by decide +kernel
theorem dX0_bestSize_23 : decode cX0_bestSize 23 = .ok (.iload 4, 2) := by decide +kernel
theorem dX0_bestSize_25 : decode cX0_bestSize 25 = .ok (.iadd, 1) := by decide +kernel
theorem dX0_bestSize_26 : decode cX0_bestSize 26 = .ok (.iconst 2, 1) := by decide +kernel
theorem dX0_bestSize_27 : decode cX0_bestSize 27 = .ok (.idiv, 1) := by decide +kernel
theorem dX0_bestSize_28 : decode cX0_bestSize 28 = .ok (.istore 6, 2) := by decide +kernel
theorem dX0_bestSize_30 : decode cX0_bestSize 30 = .ok (.aload_n 0, 1) := by decide +kernel
theorem dX0_bestSize_31 : decode cX0_bestSize 31 = .ok (.iload 6, 2) := by decide +kernel
theorem dX0_bestSize_33 : decode cX0_bestSize 33 = .ok (.iconst 1, 1) := by decide +kernel
theorem dX0_bestSize_34 : decode cX0_bestSize 34 = .ok (.iadd, 1) := by decide +kernel
theorem dX0_bestSize_35 : decode cX0_bestSize 35 = .ok (.iload_n 1, 1) := by decide +kernel
theorem dX0_bestSize_36 : decode cX0_bestSize 36 = .ok (.iload_n 2, 1) := by decide +kernel
theorem dX0_bestSize_37 : decode cX0_bestSize 37 = .ok (.invokevirtual 166, 3) := by decide +kernel
theorem dX0_bestSize_40 : decode cX0_bestSize 40 = .ok (.aload_n 0, 1) := by decide +kernel
theorem dX0_bestSize_41 : decode cX0_bestSize 41 = .ok (.iload 6, 2) := by decide +kernel
theorem dX0_bestSize_43 : decode cX0_bestSize 43 = .ok (.iload_n 1, 1) := by decide +kernel
theorem dX0_bestSize_44 : decode cX0_bestSize 44 = .ok (.iload_n 2, 1) := by decide +kernel
theorem dX0_bestSize_45 : decode cX0_bestSize 45 = .ok (.invokevirtual 166, 3) := by decide +kernel
theorem dX0_bestSize_48 : decode cX0_bestSize 48 = .ok (.if_icmp .lt 10, 3) := by decide +kernel
theorem dX0_bestSize_51 : decode cX0_bestSize 51 = .ok (.iload 6, 2) := by decide +kernel
theorem dX0_bestSize_53 : decode cX0_bestSize 53 = .ok (.istore 4, 2) := by decide +kernel
theorem dX0_bestSize_55 : decode cX0_bestSize 55 = .ok (.goto 8, 3) := by decide +kernel
theorem dX0_bestSize_58 : decode cX0_bestSize 58 = .ok (.iload 6, 2) := by decide +kernel
theorem dX0_bestSize_60 : decode cX0_bestSize 60 = .ok (.iconst 1, 1) := by decide +kernel
theorem dX0_bestSize_61 : decode cX0_bestSize 61 = .ok (.iadd, 1) := by decide +kernel
theorem dX0_bestSize_62 : decode cX0_bestSize 62 = .ok (.istore_n 3, 1) := by decide +kernel
theorem dX0_bestSize_63 : decode cX0_bestSize 63 = .ok (.iinc 5 1, 3) := by decide +kernel
theorem dX0_bestSize_66 : decode cX0_bestSize 66 = .ok (.goto (-57), 3) := by decide +kernel
theorem dX0_bestSize_69 : decode cX0_bestSize 69 = .ok (.iload_n 3, 1) := by decide +kernel
theorem dX0_bestSize_70 : decode cX0_bestSize 70 = .ok (.ireturn, 1) := by decide +kernel
noncomputable def f_X0_bestSize_9 (v1 : Int32) (v2 : Int32) (v3 : Int32) (v4 : Int32) (v5 : Int32) (σ : am_H) : Option ((Int32 × Int32 × Int32) ⊕ (Int32)) :=
  if v5 < 10 then
   (if v3 < v4 then
    ((f_X0_sumSpread (((v3 + v4) / 2) + 1) v1 v2 σ).bind fun p3 =>
    (f_X0_sumSpread ((v3 + v4) / 2) v1 v2 σ).bind fun p4 =>
    if p3 < p4 then
     (some (.inl ((((v3 + v4) / 2) + 1), v4, (v5 + 1))))
    else
    some (.inl (v3, ((v3 + v4) / 2), (v5 + 1))))
   else
   some (.inr v3))
  else
  some (.inr v3)
set_option maxRecDepth 100000 in
set_option maxHeartbeats 4000000 in
theorem q_X0_bestSize_9 {X : am_X} (hX : am_wC X) {Q : Option Value → am_H → Prop} (v1 : Int32) (v2 : Int32) (v3 : Int32) (v4 : Int32) (v5 : Int32) (σ : am_H) {o : (Int32 × Int32 × Int32) ⊕ (Int32)} (hf : f_X0_bestSize_9 v1 v2 v3 v4 v5 σ = some o) (hk0 : ∀ s, o = .inl s → am_G X gm_X0_bestSize Q 9 [(0, .ref (am_ad X 0 0)), (1, .int v1), (2, .int v2), (3, .int s.1), (4, .int s.2.1), (5, .int s.2.2)] [] σ) (hk1 : ∀ t, o = .inr t → am_G X gm_X0_bestSize Q 69 [(3, .int t)] [] σ) : am_G X gm_X0_bestSize Q 9 [(0, .ref (am_ad X 0 0)), (1, .int v1), (2, .int v2), (3, .int v3), (4, .int v4), (5, .int v5)] [] σ := by
  unfold f_X0_bestSize_9 at hf
  refine g_iload (pc := 9) 5 rfl dX0_bestSize_9 ?_
  refine g_bipush (pc := 11) (v := 10) dX0_bestSize_11 (by decide) ?_
  refine bi_ge (pc := 13) 69 dX0_bestSize_13 rfl (fun c1 => ?_) (fun c1 => ?_)
  · replace hf := am_ifT c1 hf
    refine g_iload_n (pc := 16) 3 rfl dX0_bestSize_16 rfl ?_
    refine g_iload (pc := 17) 4 rfl dX0_bestSize_17 ?_
    refine bi_ge (pc := 19) 69 dX0_bestSize_19 rfl (fun c2 => ?_) (fun c2 => ?_)
    · replace hf := am_ifT c2 hf
      refine g_iload_n (pc := 22) 3 rfl dX0_bestSize_22 rfl ?_
      refine g_iload (pc := 23) 4 rfl dX0_bestSize_23 ?_
      refine g_iadd (pc := 25) dX0_bestSize_25 ?_
      refine g_iconst (pc := 26) (v := 2) dX0_bestSize_26 (by decide) ?_
      refine g_idiv (pc := 27) dX0_bestSize_27 (by decide) ?_
      refine g_istore (pc := 28) [(6, .int ((v3 + v4) / 2)), (0, .ref (am_ad X 0 0)), (1, .int v1), (2, .int v2), (3, .int v3), (4, .int v4), (5, .int v5)] dX0_bestSize_28 (Nat.le_of_ble_eq_true rfl) rfl ?_
      refine g_aload_n (pc := 30) 1 rfl dX0_bestSize_30 rfl ?_
      refine g_iload (pc := 31) 0 rfl dX0_bestSize_31 ?_
      refine g_iconst (pc := 33) (v := 1) dX0_bestSize_33 (by decide) ?_
      refine g_iadd (pc := 34) dX0_bestSize_34 ?_
      refine g_iload_n (pc := 35) 2 rfl dX0_bestSize_35 rfl ?_
      refine g_iload_n (pc := 36) 3 rfl dX0_bestSize_36 rfl ?_
      obtain ⟨p3, hp3, hf⟩ := am_bd hf
      refine g_cV (pc := 37) (As := [.int (((v3 + v4) / 2) + 1), .int v1, .int v2]) (st := []) (st1 := [.int p3]) (in_0 hX.1 (by omega)) kk_0 mV_X0_sumSpread ln_X0_166 rfl (Nat.le_of_ble_eq_true rfl) (Nat.le_of_ble_eq_true rfl) (k_X0_sumSpread hX (((v3 + v4) / 2) + 1) v1 v2 σ hp3) dX0_bestSize_37 rfl rfl ?_
      refine g_aload_n (pc := 40) 1 rfl dX0_bestSize_40 rfl ?_
      refine g_iload (pc := 41) 0 rfl dX0_bestSize_41 ?_
      refine g_iload_n (pc := 43) 2 rfl dX0_bestSize_43 rfl ?_
      refine g_iload_n (pc := 44) 3 rfl dX0_bestSize_44 rfl ?_
      obtain ⟨p4, hp4, hf⟩ := am_bd hf
      refine g_cV (pc := 45) (As := [.int ((v3 + v4) / 2), .int v1, .int v2]) (st := [.int p3]) (st1 := [.int p4, .int p3]) (in_0 hX.1 (by omega)) kk_0 mV_X0_sumSpread ln_X0_166 rfl (Nat.le_of_ble_eq_true rfl) (Nat.le_of_ble_eq_true rfl) (k_X0_sumSpread hX ((v3 + v4) / 2) v1 v2 σ hp4) dX0_bestSize_45 rfl rfl ?_
      refine bi_lt (pc := 48) 58 dX0_bestSize_48 rfl (fun c5 => ?_) (fun c5 => ?_)
      · replace hf := am_ifT c5 hf
        refine g_iload (pc := 58) 0 rfl dX0_bestSize_58 ?_
        refine g_iconst (pc := 60) (v := 1) dX0_bestSize_60 (by decide) ?_
        refine g_iadd (pc := 61) dX0_bestSize_61 ?_
        refine g_istore_n (pc := 62) [(3, .int (((v3 + v4) / 2) + 1)), (6, .int ((v3 + v4) / 2)), (0, .ref (am_ad X 0 0)), (1, .int v1), (2, .int v2), (4, .int v4), (5, .int v5)] dX0_bestSize_62 rfl (Nat.le_of_ble_eq_true rfl) rfl ?_
        refine g_iinc (pc := 63) (v := (v5 + 1)) 6 [(5, .int (v5 + 1)), (3, .int (((v3 + v4) / 2) + 1)), (6, .int ((v3 + v4) / 2)), (0, .ref (am_ad X 0 0)), (1, .int v1), (2, .int v2), (4, .int v4)] dX0_bestSize_63 rfl rfl (Nat.le_of_ble_eq_true rfl) rfl ?_
        refine g_goto (pc := 66) 9 dX0_bestSize_66 rfl ?_
        have hz := hk0 _ (Option.some.inj hf).symm
        exact am_sub [3, 4, 5, 1, 6, 0] rfl hz
      replace hf := am_ifF c5 hf
      refine g_iload (pc := 51) 0 rfl dX0_bestSize_51 ?_
      refine g_istore (pc := 53) [(4, .int ((v3 + v4) / 2)), (6, .int ((v3 + v4) / 2)), (0, .ref (am_ad X 0 0)), (1, .int v1), (2, .int v2), (3, .int v3), (5, .int v5)] dX0_bestSize_53 (Nat.le_of_ble_eq_true rfl) rfl ?_
      refine g_goto (pc := 55) 63 dX0_bestSize_55 rfl ?_
      refine g_iinc (pc := 63) (v := (v5 + 1)) 6 [(5, .int (v5 + 1)), (4, .int ((v3 + v4) / 2)), (6, .int ((v3 + v4) / 2)), (0, .ref (am_ad X 0 0)), (1, .int v1), (2, .int v2), (3, .int v3)] dX0_bestSize_63 rfl rfl (Nat.le_of_ble_eq_true rfl) rfl ?_
      refine g_goto (pc := 66) 9 dX0_bestSize_66 rfl ?_
      have hz := hk0 _ (Option.some.inj hf).symm
      exact am_sub [3, 4, 5, 6, 1, 0] rfl hz
    replace hf := am_ifF c2 hf
    have hz := hk1 _ (Option.some.inj hf).symm
    exact am_sub [3] rfl hz
  replace hf := am_ifF c1 hf
  have hz := hk1 _ (Option.some.inj hf).symm
  exact am_sub [3] rfl hz
set_option maxRecDepth 100000 in
set_option maxHeartbeats 4000000 in
theorem l_X0_bestSize_9 {X : am_X} (hX : am_wC X) {Q : Option Value → am_H → Prop} (v1 : Int32) (v2 : Int32) (σ : am_H) (s : Int32 × Int32 × Int32) {o : Int32} (hf : am_loop (fun s => f_X0_bestSize_9 v1 v2 s.1 s.2.1 s.2.2 σ) s = some o) (hk1 : ∀ t, o = t → am_G X gm_X0_bestSize Q 69 [(3, .int t)] [] σ) : am_G X gm_X0_bestSize Q 9 [(0, .ref (am_ad X 0 0)), (1, .int v1), (2, .int v2), (3, .int s.1), (4, .int s.2.1), (5, .int s.2.2)] [] σ := by
  refine am_loop_ind (P := fun s => am_G X gm_X0_bestSize Q 9 [(0, .ref (am_ad X 0 0)), (1, .int v1), (2, .int v2), (3, .int s.1), (4, .int s.2.1), (5, .int s.2.2)] [] σ) (K := fun r => r = o) ?_ hf rfl
  intro s o1 hb hi hr
  exact q_X0_bestSize_9 hX v1 v2 s.1 s.2.1 s.2.2  σ hb hi (fun t e => hk1 t (hr _ e).symm)
noncomputable def f_X0_bestSize (v1 : Int32) (v2 : Int32) (σ : am_H) : Option (Int32) :=
  (am_loop (fun s => f_X0_bestSize_9 v1 v2 s.1 s.2.1 s.2.2 σ) (0, 99, 0)).bind fun w1 =>
  some w1
set_option maxRecDepth 100000 in
set_option maxHeartbeats 4000000 in
theorem q_X0_bestSize {X : am_X} (hX : am_wC X) {Q : Option Value → am_H → Prop} (v1 : Int32) (v2 : Int32) (σ : am_H) {o : Int32} (hf : f_X0_bestSize v1 v2 σ = some o) (hk : Q (some (.int o)) σ) : am_G X gm_X0_bestSize Q 0 [(0, .ref (am_ad X 0 0)), (1, .int v1), (2, .int v2)] [] σ := by
  unfold f_X0_bestSize at hf
  refine g_iconst (pc := 0) (v := 0) dX0_bestSize_0 (by decide) ?_
  refine g_istore_n (pc := 1) [(3, .int 0), (0, .ref (am_ad X 0 0)), (1, .int v1), (2, .int v2)] dX0_bestSize_1 rfl (Nat.le_of_ble_eq_true rfl) rfl ?_
  refine g_bipush (pc := 2) (v := 99) dX0_bestSize_2 (by decide) ?_
  refine g_istore (pc := 4) [(4, .int 99), (3, .int 0), (0, .ref (am_ad X 0 0)), (1, .int v1), (2, .int v2)] dX0_bestSize_4 (Nat.le_of_ble_eq_true rfl) rfl ?_
  refine g_iconst (pc := 6) (v := 0) dX0_bestSize_6 (by decide) ?_
  refine g_istore (pc := 7) [(5, .int 0), (4, .int 99), (3, .int 0), (0, .ref (am_ad X 0 0)), (1, .int v1), (2, .int v2)] dX0_bestSize_7 (Nat.le_of_ble_eq_true rfl) rfl ?_
  obtain ⟨w1, hw1, hf⟩ := am_bd hf
  refine am_sub [3, 4, 5, 2, 1, 0] rfl (l_X0_bestSize_9 hX v1 v2  σ (0, 99, 0) hw1 ?_)
  intro t e
  subst e
  refine g_iload_n (pc := 69) 0 rfl dX0_bestSize_69 rfl ?_
  have ho := Option.some.inj hf
  subst ho
  exact g_ireturn (pc := 70) (st := []) rfl dX0_bestSize_70 hk
theorem k_X0_bestSize {X : am_X} (hX : am_wC X) (v1 : Int32) (v2 : Int32) (σ : am_H) {o : Int32} (hf : f_X0_bestSize v1 v2 σ = some o) : am_C X gm_X0_bestSize [.ref (am_ad X 0 0), .int v1, .int v2] σ (am_is (some (.int o)) σ) :=
  am_ofG rfl (Nat.le_of_ble_eq_true rfl) rfl (q_X0_bestSize hX v1 v2 σ hf ⟨rfl, rfl⟩)
theorem dX0_trySpread_0 : decode cX0_trySpread 0 = .ok (.iconst 0, 1) := by decide +kernel
theorem dX0_trySpread_1 : decode cX0_trySpread 1 = .ok (.istore_n 3, 1) := by decide +kernel
theorem dX0_trySpread_2 : decode cX0_trySpread 2 = .ok (.iload_n 3, 1) := by decide +kernel
theorem dX0_trySpread_3 : decode cX0_trySpread 3 = .ok (.bipush 24, 2) := by decide +kernel
theorem dX0_trySpread_5 : decode cX0_trySpread 5 = .ok (.if_icmp .ge 96, 3) := by decide +kernel
theorem dX0_trySpread_8 : decode cX0_trySpread 8 = .ok (.aload_n 0, 1) := by decide +kernel
theorem dX0_trySpread_9 : decode cX0_trySpread 9 = .ok (.iload_n 3, 1) := by decide +kernel
theorem dX0_trySpread_10 : decode cX0_trySpread 10 = .ok (.iload_n 2, 1) := by decide +kernel
theorem dX0_trySpread_11 : decode cX0_trySpread 11 = .ok (.invokevirtual 163, 3) := by decide +kernel
theorem dX0_trySpread_14 : decode cX0_trySpread 14 = .ok (.istore 4, 2) := by decide +kernel
theorem dX0_trySpread_16 : decode cX0_trySpread 16 = .ok (.aload_n 0, 1) := by decide +kernel
theorem dX0_trySpread_17 : decode cX0_trySpread 17 = .ok (.iload 4, 2) := by decide +kernel
theorem dX0_trySpread_19 : decode cX0_trySpread 19 = .ok (.iload_n 3, 1) := by decide +kernel
theorem dX0_trySpread_20 : decode cX0_trySpread 20 = .ok (.iload_n 2, 1) := by decide +kernel
theorem dX0_trySpread_21 : decode cX0_trySpread 21 = .ok (.invokevirtual 166, 3) := by decide +kernel
theorem dX0_trySpread_24 : decode cX0_trySpread 24 = .ok (.istore 5, 2) := by decide +kernel
theorem dX0_trySpread_26 : decode cX0_trySpread 26 = .ok (.iload 5, 2) := by decide +kernel
theorem dX0_trySpread_28 : decode cX0_trySpread 28 = .ok (.aload_n 0, 1) := by decide +kernel
theorem dX0_trySpread_29 : decode cX0_trySpread 29 = .ok (.getfield 143, 3) := by decide +kernel
theorem dX0_trySpread_32 : decode cX0_trySpread 32 = .ok (.if_icmp .ne 24, 3) := by decide +kernel
theorem dX0_trySpread_35 : decode cX0_trySpread 35 = .ok (.aload_n 0, 1) := by decide +kernel
theorem dX0_trySpread_36 : decode cX0_trySpread 36 = .ok (.getfield 28, 3) := by decide +kernel
theorem dX0_trySpread_39 : decode cX0_trySpread 39 = .ok (.iload_n 1, 1) := by decide +kernel
theorem dX0_trySpread_40 : decode cX0_trySpread 40 = .ok (.if_icmp .ne 16, 3) := by decide +kernel
theorem dX0_trySpread_43 : decode cX0_trySpread 43 = .ok (.iload 4, 2) := by decide +kernel
theorem dX0_trySpread_45 : decode cX0_trySpread 45 = .ok (.aload_n 0, 1) := by decide +kernel
theorem dX0_trySpread_46 : decode cX0_trySpread 46 = .ok (.getfield 170, 3) := by decide +kernel
theorem dX0_trySpread_49 : decode cX0_trySpread 49 = .ok (.if_icmp .ge 7, 3) := by decide +kernel
theorem dX0_trySpread_52 : decode cX0_trySpread 52 = .ok (.iconst 1, 1) := by decide +kernel
theorem dX0_trySpread_53 : decode cX0_trySpread 53 = .ok (.goto 4, 3) := by decide +kernel
theorem dX0_trySpread_56 : decode cX0_trySpread 56 = .ok (.iconst 0, 1) := by decide +kernel
theorem dX0_trySpread_57 : decode cX0_trySpread 57 = .ok (.istore 6, 2) := by decide +kernel
theorem dX0_trySpread_59 : decode cX0_trySpread 59 = .ok (.iload 5, 2) := by decide +kernel
theorem dX0_trySpread_61 : decode cX0_trySpread 61 = .ok (.aload_n 0, 1) := by decide +kernel
theorem dX0_trySpread_62 : decode cX0_trySpread 62 = .ok (.getfield 143, 3) := by decide +kernel
theorem dX0_trySpread_65 : decode cX0_trySpread 65 = .ok (.if_icmp .lt 8, 3) := by decide +kernel
theorem dX0_trySpread_68 : decode cX0_trySpread 68 = .ok (.iload 6, 2) := by decide +kernel
theorem dX0_trySpread_70 : decode cX0_trySpread 70 = .ok (.ifCond .eq 25, 3) := by decide +kernel
theorem dX0_trySpread_73 : decode cX0_trySpread 73 = .ok (.aload_n 0, 1) := by decide +kernel
theorem dX0_trySpread_74 : decode cX0_trySpread 74 = .ok (.iload 5, 2) := by decide +kernel
theorem dX0_trySpread_76 : decode cX0_trySpread 76 = .ok (.putfield 143, 3) := by decide +kernel
theorem dX0_trySpread_79 : decode cX0_trySpread 79 = .ok (.aload_n 0, 1) := by decide +kernel
theorem dX0_trySpread_80 : decode cX0_trySpread 80 = .ok (.iload_n 1, 1) := by decide +kernel
theorem dX0_trySpread_81 : decode cX0_trySpread 81 = .ok (.putfield 28, 3) := by decide +kernel
theorem dX0_trySpread_84 : decode cX0_trySpread 84 = .ok (.aload_n 0, 1) := by decide +kernel
theorem dX0_trySpread_85 : decode cX0_trySpread 85 = .ok (.iload 4, 2) := by decide +kernel
theorem dX0_trySpread_87 : decode cX0_trySpread 87 = .ok (.putfield 170, 3) := by decide +kernel
theorem dX0_trySpread_90 : decode cX0_trySpread 90 = .ok (.aload_n 0, 1) := by decide +kernel
theorem dX0_trySpread_91 : decode cX0_trySpread 91 = .ok (.iload_n 3, 1) := by decide +kernel
theorem dX0_trySpread_92 : decode cX0_trySpread 92 = .ok (.putfield 173, 3) := by decide +kernel
theorem dX0_trySpread_95 : decode cX0_trySpread 95 = .ok (.iinc 3 1, 3) := by decide +kernel
theorem dX0_trySpread_98 : decode cX0_trySpread 98 = .ok (.goto (-96), 3) := by decide +kernel
theorem dX0_trySpread_101 : decode cX0_trySpread 101 = .ok (.return_, 1) := by decide +kernel
noncomputable def f_X0_trySpread_73 (v1 : Int32) (v2 : Int32) (v3 : Int32) (v4 : Int32) (v5 : Int32) (σ : am_H) : Option ((Int32 × am_H) ⊕ (am_H)) :=
  (some (am_wI σ 0 0 16 v5)).bind fun s1 =>
  (some (am_wI s1 0 0 13 v1)).bind fun s2 =>
  (some (am_wI s2 0 0 14 v4)).bind fun s3 =>
  (some (am_wI s3 0 0 15 v3)).bind fun s4 =>
  some (.inl ((v3 + 1), s4))
set_option maxRecDepth 100000 in
set_option maxHeartbeats 4000000 in
theorem q_X0_trySpread_73 {X : am_X} (hX : am_wC X) {Q : Option Value → am_H → Prop} (v1 : Int32) (v2 : Int32) (v3 : Int32) (v4 : Int32) (v5 : Int32) (σ : am_H) {o : (Int32 × am_H) ⊕ (am_H)} (hf : f_X0_trySpread_73 v1 v2 v3 v4 v5 σ = some o) (hk0 : ∀ s, o = .inl s → am_G X gm_X0_trySpread Q 2 [(0, .ref (am_ad X 0 0)), (1, .int v1), (2, .int v2), (3, .int s.1)] [] s.2) (hk1 : ∀ t, o = .inr t → am_G X gm_X0_trySpread Q 101 [] [] t) : am_G X gm_X0_trySpread Q 73 [(0, .ref (am_ad X 0 0)), (1, .int v1), (2, .int v2), (3, .int v3), (4, .int v4), (5, .int v5)] [] σ := by
  unfold f_X0_trySpread_73 at hf
  refine g_aload_n (pc := 73) 0 rfl dX0_trySpread_73 rfl ?_
  refine g_iload (pc := 74) 5 rfl dX0_trySpread_74 ?_
  obtain ⟨s1, hs1, hf⟩ := am_bd hf
  refine g_setI (pc := 76) (in_0 hX.1 (by omega)) fr_X0_143 dX0_trySpread_76 (Option.some.inj hs1) ?_
  refine g_aload_n (pc := 79) 0 rfl dX0_trySpread_79 rfl ?_
  refine g_iload_n (pc := 80) 1 rfl dX0_trySpread_80 rfl ?_
  obtain ⟨s2, hs2, hf⟩ := am_bd hf
  refine g_setI (pc := 81) (in_0 hX.1 (by omega)) fr_X0_28 dX0_trySpread_81 (Option.some.inj hs2) ?_
  refine g_aload_n (pc := 84) 0 rfl dX0_trySpread_84 rfl ?_
  refine g_iload (pc := 85) 4 rfl dX0_trySpread_85 ?_
  obtain ⟨s3, hs3, hf⟩ := am_bd hf
  refine g_setI (pc := 87) (in_0 hX.1 (by omega)) fr_X0_170 dX0_trySpread_87 (Option.some.inj hs3) ?_
  refine g_aload_n (pc := 90) 0 rfl dX0_trySpread_90 rfl ?_
  refine g_iload_n (pc := 91) 3 rfl dX0_trySpread_91 rfl ?_
  obtain ⟨s4, hs4, hf⟩ := am_bd hf
  refine g_setI (pc := 92) (in_0 hX.1 (by omega)) fr_X0_173 dX0_trySpread_92 (Option.some.inj hs4) ?_
  refine g_iinc (pc := 95) (v := (v3 + 1)) 3 [(3, .int (v3 + 1)), (0, .ref (am_ad X 0 0)), (1, .int v1), (2, .int v2), (4, .int v4), (5, .int v5)] dX0_trySpread_95 rfl rfl (Nat.le_of_ble_eq_true rfl) rfl ?_
  refine g_goto (pc := 98) 2 dX0_trySpread_98 rfl ?_
  have hz := hk0 _ (Option.some.inj hf).symm
  exact am_sub [1, 2, 3, 0] rfl hz
noncomputable def f_X0_trySpread_57 (v1 : Int32) (v2 : Int32) (v3 : Int32) (v4 : Int32) (v5 : Int32) (k0 : Bool) (σ : am_H) : Option ((Int32 × am_H) ⊕ (am_H)) :=
  if v5 < (σ.1 0 0 16) then
   (f_X0_trySpread_73 v1 v2 v3 v4 v5 σ)
  else
  if k0 = true then
   (f_X0_trySpread_73 v1 v2 v3 v4 v5 σ)
  else
  some (.inl ((v3 + 1), σ))
set_option maxRecDepth 100000 in
set_option maxHeartbeats 4000000 in
theorem q_X0_trySpread_57 {X : am_X} (hX : am_wC X) {Q : Option Value → am_H → Prop} (v1 : Int32) (v2 : Int32) (v3 : Int32) (v4 : Int32) (v5 : Int32) (k0 : Bool) (σ : am_H) {o : (Int32 × am_H) ⊕ (am_H)} (hf : f_X0_trySpread_57 v1 v2 v3 v4 v5 k0 σ = some o) (hk0 : ∀ s, o = .inl s → am_G X gm_X0_trySpread Q 2 [(0, .ref (am_ad X 0 0)), (1, .int v1), (2, .int v2), (3, .int s.1)] [] s.2) (hk1 : ∀ t, o = .inr t → am_G X gm_X0_trySpread Q 101 [] [] t) : am_G X gm_X0_trySpread Q 57 [(0, .ref (am_ad X 0 0)), (1, .int v1), (2, .int v2), (3, .int v3), (4, .int v4), (5, .int v5)] [.int (am_b k0)] σ := by
  unfold f_X0_trySpread_57 at hf
  refine g_istore (pc := 57) [(6, .int (am_b k0)), (0, .ref (am_ad X 0 0)), (1, .int v1), (2, .int v2), (3, .int v3), (4, .int v4), (5, .int v5)] dX0_trySpread_57 (Nat.le_of_ble_eq_true rfl) rfl ?_
  refine g_iload (pc := 59) 6 rfl dX0_trySpread_59 ?_
  refine g_aload_n (pc := 61) 1 rfl dX0_trySpread_61 rfl ?_
  refine g_getI (pc := 62) (in_0 hX.1 (by omega)) fr_X0_143 dX0_trySpread_62 ?_
  refine bi_lt (pc := 65) 73 dX0_trySpread_65 rfl (fun c1 => ?_) (fun c1 => ?_)
  · replace hf := am_ifT c1 hf
    exact am_sub [1, 2, 3, 4, 5, 6] rfl (q_X0_trySpread_73 hX v1 v2 v3 v4 v5 σ hf hk0 hk1)
  replace hf := am_ifF c1 hf
  refine g_iload (pc := 68) 0 rfl dX0_trySpread_68 ?_
  refine bt_eq (pc := 70) 95 dX0_trySpread_70 rfl (fun c2 => ?_) (fun c2 => ?_)
  · replace hf := am_ifT c2 hf
    exact am_sub [1, 2, 3, 4, 5, 6] rfl (q_X0_trySpread_73 hX v1 v2 v3 v4 v5 σ hf hk0 hk1)
  replace hf := am_ifF c2 hf
  refine g_iinc (pc := 95) (v := (v3 + 1)) 4 [(3, .int (v3 + 1)), (6, .int (am_b k0)), (0, .ref (am_ad X 0 0)), (1, .int v1), (2, .int v2), (4, .int v4), (5, .int v5)] dX0_trySpread_95 rfl rfl (Nat.le_of_ble_eq_true rfl) rfl ?_
  refine g_goto (pc := 98) 2 dX0_trySpread_98 rfl ?_
  have hz := hk0 _ (Option.some.inj hf).symm
  exact am_sub [2, 3, 4, 0] rfl hz
noncomputable def f_X0_trySpread_2 (v1 : Int32) (v2 : Int32) (v3 : Int32) (σ : am_H) : Option ((Int32 × am_H) ⊕ (am_H)) :=
  if v3 < 24 then
   ((f_X0_bestSize v3 v2 σ).bind fun p2 =>
   (f_X0_sumSpread p2 v3 v2 σ).bind fun p3 =>
   if p3 = (σ.1 0 0 16) then
    (if (σ.1 0 0 13) = v1 then
     (if p2 < (σ.1 0 0 14) then
      (f_X0_trySpread_57 v1 v2 v3 p2 p3 true σ)
     else
     f_X0_trySpread_57 v1 v2 v3 p2 p3 false σ)
    else
    f_X0_trySpread_57 v1 v2 v3 p2 p3 false σ)
   else
   f_X0_trySpread_57 v1 v2 v3 p2 p3 false σ)
  else
  some (.inr σ)
set_option maxRecDepth 100000 in
set_option maxHeartbeats 4000000 in
theorem q_X0_trySpread_2 {X : am_X} (hX : am_wC X) {Q : Option Value → am_H → Prop} (v1 : Int32) (v2 : Int32) (v3 : Int32) (σ : am_H) {o : (Int32 × am_H) ⊕ (am_H)} (hf : f_X0_trySpread_2 v1 v2 v3 σ = some o) (hk0 : ∀ s, o = .inl s → am_G X gm_X0_trySpread Q 2 [(0, .ref (am_ad X 0 0)), (1, .int v1), (2, .int v2), (3, .int s.1)] [] s.2) (hk1 : ∀ t, o = .inr t → am_G X gm_X0_trySpread Q 101 [] [] t) : am_G X gm_X0_trySpread Q 2 [(0, .ref (am_ad X 0 0)), (1, .int v1), (2, .int v2), (3, .int v3)] [] σ := by
  unfold f_X0_trySpread_2 at hf
  refine g_iload_n (pc := 2) 3 rfl dX0_trySpread_2 rfl ?_
  refine g_bipush (pc := 3) (v := 24) dX0_trySpread_3 (by decide) ?_
  refine bi_ge (pc := 5) 101 dX0_trySpread_5 rfl (fun c1 => ?_) (fun c1 => ?_)
  · replace hf := am_ifT c1 hf
    refine g_aload_n (pc := 8) 0 rfl dX0_trySpread_8 rfl ?_
    refine g_iload_n (pc := 9) 3 rfl dX0_trySpread_9 rfl ?_
    refine g_iload_n (pc := 10) 2 rfl dX0_trySpread_10 rfl ?_
    obtain ⟨p2, hp2, hf⟩ := am_bd hf
    refine g_cV (pc := 11) (As := [.int v3, .int v2]) (st := []) (st1 := [.int p2]) (in_0 hX.1 (by omega)) kk_0 mV_X0_bestSize ln_X0_163 rfl (Nat.le_of_ble_eq_true rfl) (Nat.le_of_ble_eq_true rfl) (k_X0_bestSize hX v3 v2 σ hp2) dX0_trySpread_11 rfl rfl ?_
    refine g_istore (pc := 14) [(4, .int p2), (0, .ref (am_ad X 0 0)), (1, .int v1), (2, .int v2), (3, .int v3)] dX0_trySpread_14 (Nat.le_of_ble_eq_true rfl) rfl ?_
    refine g_aload_n (pc := 16) 1 rfl dX0_trySpread_16 rfl ?_
    refine g_iload (pc := 17) 0 rfl dX0_trySpread_17 ?_
    refine g_iload_n (pc := 19) 4 rfl dX0_trySpread_19 rfl ?_
    refine g_iload_n (pc := 20) 3 rfl dX0_trySpread_20 rfl ?_
    obtain ⟨p3, hp3, hf⟩ := am_bd hf
    refine g_cV (pc := 21) (As := [.int p2, .int v3, .int v2]) (st := []) (st1 := [.int p3]) (in_0 hX.1 (by omega)) kk_0 mV_X0_sumSpread ln_X0_166 rfl (Nat.le_of_ble_eq_true rfl) (Nat.le_of_ble_eq_true rfl) (k_X0_sumSpread hX p2 v3 v2 σ hp3) dX0_trySpread_21 rfl rfl ?_
    refine g_istore (pc := 24) [(5, .int p3), (4, .int p2), (0, .ref (am_ad X 0 0)), (1, .int v1), (2, .int v2), (3, .int v3)] dX0_trySpread_24 (Nat.le_of_ble_eq_true rfl) rfl ?_
    refine g_iload (pc := 26) 0 rfl dX0_trySpread_26 ?_
    refine g_aload_n (pc := 28) 2 rfl dX0_trySpread_28 rfl ?_
    refine g_getI (pc := 29) (in_0 hX.1 (by omega)) fr_X0_143 dX0_trySpread_29 ?_
    refine bi_ne (pc := 32) 56 dX0_trySpread_32 rfl (fun c4 => ?_) (fun c4 => ?_)
    · replace hf := am_ifT c4 hf
      refine g_aload_n (pc := 35) 2 rfl dX0_trySpread_35 rfl ?_
      refine g_getI (pc := 36) (in_0 hX.1 (by omega)) fr_X0_28 dX0_trySpread_36 ?_
      refine g_iload_n (pc := 39) 3 rfl dX0_trySpread_39 rfl ?_
      refine bi_ne (pc := 40) 56 dX0_trySpread_40 rfl (fun c5 => ?_) (fun c5 => ?_)
      · replace hf := am_ifT c5 hf
        refine g_iload (pc := 43) 1 rfl dX0_trySpread_43 ?_
        refine g_aload_n (pc := 45) 2 rfl dX0_trySpread_45 rfl ?_
        refine g_getI (pc := 46) (in_0 hX.1 (by omega)) fr_X0_170 dX0_trySpread_46 ?_
        refine bi_ge (pc := 49) 56 dX0_trySpread_49 rfl (fun c6 => ?_) (fun c6 => ?_)
        · replace hf := am_ifT c6 hf
          refine g_iconst (pc := 52) (v := 1) dX0_trySpread_52 (by decide) ?_
          refine g_goto (pc := 53) 57 dX0_trySpread_53 rfl ?_
          exact am_sub [2, 3, 4, 5, 1, 0] rfl (q_X0_trySpread_57 hX v1 v2 v3 p2 p3 true σ hf hk0 hk1)
        replace hf := am_ifF c6 hf
        refine g_iconst (pc := 56) (v := 0) dX0_trySpread_56 (by decide) ?_
        exact am_sub [2, 3, 4, 5, 1, 0] rfl (q_X0_trySpread_57 hX v1 v2 v3 p2 p3 false σ hf hk0 hk1)
      replace hf := am_ifF c5 hf
      refine g_iconst (pc := 56) (v := 0) dX0_trySpread_56 (by decide) ?_
      exact am_sub [2, 3, 4, 5, 1, 0] rfl (q_X0_trySpread_57 hX v1 v2 v3 p2 p3 false σ hf hk0 hk1)
    replace hf := am_ifF c4 hf
    refine g_iconst (pc := 56) (v := 0) dX0_trySpread_56 (by decide) ?_
    exact am_sub [2, 3, 4, 5, 1, 0] rfl (q_X0_trySpread_57 hX v1 v2 v3 p2 p3 false σ hf hk0 hk1)
  replace hf := am_ifF c1 hf
  have hz := hk1 _ (Option.some.inj hf).symm
  exact am_sub [] rfl hz
set_option maxRecDepth 100000 in
set_option maxHeartbeats 4000000 in
theorem l_X0_trySpread_2 {X : am_X} (hX : am_wC X) {Q : Option Value → am_H → Prop} (v1 : Int32) (v2 : Int32) (σ : am_H) (s : Int32 × am_H) {o : am_H} (hf : am_loop (fun s => f_X0_trySpread_2 v1 v2 s.1 s.2) s = some o) (hk1 : ∀ t, o = t → am_G X gm_X0_trySpread Q 101 [] [] t) : am_G X gm_X0_trySpread Q 2 [(0, .ref (am_ad X 0 0)), (1, .int v1), (2, .int v2), (3, .int s.1)] [] s.2 := by
  refine am_loop_ind (P := fun s => am_G X gm_X0_trySpread Q 2 [(0, .ref (am_ad X 0 0)), (1, .int v1), (2, .int v2), (3, .int s.1)] [] s.2) (K := fun r => r = o) ?_ hf rfl
  intro s o1 hb hi hr
  exact q_X0_trySpread_2 hX v1 v2 s.1  s.2 hb hi (fun t e => hk1 t (hr _ e).symm)
noncomputable def f_X0_trySpread (v1 : Int32) (v2 : Int32) (σ : am_H) : Option (am_H) :=
  (am_loop (fun s => f_X0_trySpread_2 v1 v2 s.1 s.2) (0, σ)).bind fun w1 =>
  some w1
set_option maxRecDepth 100000 in
set_option maxHeartbeats 4000000 in
theorem q_X0_trySpread {X : am_X} (hX : am_wC X) {Q : Option Value → am_H → Prop} (v1 : Int32) (v2 : Int32) (σ : am_H) {o : am_H} (hf : f_X0_trySpread v1 v2 σ = some o) (hk : Q none o) : am_G X gm_X0_trySpread Q 0 [(0, .ref (am_ad X 0 0)), (1, .int v1), (2, .int v2)] [] σ := by
  unfold f_X0_trySpread at hf
  refine g_iconst (pc := 0) (v := 0) dX0_trySpread_0 (by decide) ?_
  refine g_istore_n (pc := 1) [(3, .int 0), (0, .ref (am_ad X 0 0)), (1, .int v1), (2, .int v2)] dX0_trySpread_1 rfl (Nat.le_of_ble_eq_true rfl) rfl ?_
  obtain ⟨w1, hw1, hf⟩ := am_bd hf
  refine am_sub [1, 2, 3, 0] rfl (l_X0_trySpread_2 hX v1 v2  σ (0, σ) hw1 ?_)
  intro t e
  subst e
  have ho := Option.some.inj hf
  subst ho
  exact g_vreturn (pc := 101) (st := []) rfl dX0_trySpread_101 hk
theorem k_X0_trySpread {X : am_X} (hX : am_wC X) (v1 : Int32) (v2 : Int32) (σ : am_H) {o : am_H} (hf : f_X0_trySpread v1 v2 σ = some o) : am_C X gm_X0_trySpread [.ref (am_ad X 0 0), .int v1, .int v2] σ (am_is none o) :=
  am_ofG rfl (Nat.le_of_ble_eq_true rfl) rfl (q_X0_trySpread hX v1 v2 σ hf ⟨rfl, rfl⟩)
theorem dX0_findSpread_0 : decode cX0_findSpread 0 = .ok (.iload 4, 2) := by decide +kernel
theorem dX0_findSpread_2 : decode cX0_findSpread 2 = .ok (.iload_n 3, 1) := by decide +kernel
theorem dX0_findSpread_3 : decode cX0_findSpread 3 = .ok (.isub, 1) := by decide +kernel
theorem dX0_findSpread_4 : decode cX0_findSpread 4 = .ok (.iconst 1, 1) := by decide +kernel
theorem dX0_findSpread_5 : decode cX0_findSpread 5 = .ok (.iadd, 1) := by decide +kernel
theorem dX0_findSpread_6 : decode cX0_findSpread 6 = .ok (.bipush 48, 2) := by decide +kernel
theorem dX0_findSpread_8 : decode cX0_findSpread 8 = .ok (.invokestatic 133, 3) := by decide +kernel
theorem dX0_findSpread_11 : decode cX0_findSpread 11 = .ok (.istore 5, 2) := by decide +kernel
theorem dX0_findSpread_13 : decode cX0_findSpread 13 = .ok (.aload_n 1, 1) := by decide +kernel
theorem dX0_findSpread_14 : decode cX0_findSpread 14 = .ok (.iload_n 2, 1) := by decide +kernel
theorem dX0_findSpread_15 : decode cX0_findSpread 15 = .ok (.invokevirtual 136, 3) := by decide +kernel
theorem dX0_findSpread_18 : decode cX0_findSpread 18 = .ok (.astore 6, 2) := by decide +kernel
theorem dX0_findSpread_20 : decode cX0_findSpread 20 = .ok (.aload_n 0, 1) := by decide +kernel
theorem dX0_findSpread_21 : decode cX0_findSpread 21 = .ok (.iconst 1, 1) := by decide +kernel
theorem dX0_findSpread_22 : decode cX0_findSpread 22 = .ok (.putfield 140, 3) := by decide +kernel
theorem dX0_findSpread_25 : decode cX0_findSpread 25 = .ok (.aload_n 0, 1) := by decide +kernel
theorem dX0_findSpread_26 : decode cX0_findSpread 26 = .ok (.iconst (-1), 1) := by decide +kernel
theorem dX0_findSpread_27 : decode cX0_findSpread 27 = .ok (.putfield 28, 3) := by decide +kernel
theorem dX0_findSpread_30 : decode cX0_findSpread 30 = .ok (.aload_n 0, 1) := by decide +kernel
theorem dX0_findSpread_31 : decode cX0_findSpread 31 = .ok (.iconst 0, 1) := by decide +kernel
theorem dX0_findSpread_32 : decode cX0_findSpread 32 = .ok (.putfield 143, 3) := by decide +kernel
theorem dX0_findSpread_35 : decode cX0_findSpread 35 = .ok (.iconst 0, 1) := by decide +kernel
theorem dX0_findSpread_36 : decode cX0_findSpread 36 = .ok (.istore 7, 2) := by decide +kernel
theorem dX0_findSpread_38 : decode cX0_findSpread 38 = .ok (.iload 7, 2) := by decide +kernel
theorem dX0_findSpread_40 : decode cX0_findSpread 40 = .ok (.iload 5, 2) := by decide +kernel
theorem dX0_findSpread_42 : decode cX0_findSpread 42 = .ok (.if_icmp .ge 47, 3) := by decide +kernel
theorem dX0_findSpread_45 : decode cX0_findSpread 45 = .ok (.aload 6, 2) := by decide +kernel
theorem dX0_findSpread_47 : decode cX0_findSpread 47 = .ok (.ifnull 42, 3) := by decide +kernel
theorem dX0_findSpread_50 : decode cX0_findSpread 50 = .ok (.aload_n 0, 1) := by decide +kernel
theorem dX0_findSpread_51 : decode cX0_findSpread 51 = .ok (.dup, 1) := by decide +kernel
theorem dX0_findSpread_52 : decode cX0_findSpread 52 = .ok (.getfield 143, 3) := by decide +kernel
theorem dX0_findSpread_55 : decode cX0_findSpread 55 = .ok (.aload 6, 2) := by decide +kernel
theorem dX0_findSpread_57 : decode cX0_findSpread 57 = .ok (.getfield 124, 3) := by decide +kernel
theorem dX0_findSpread_60 : decode cX0_findSpread 60 = .ok (.aload 6, 2) := by decide +kernel
theorem dX0_findSpread_62 : decode cX0_findSpread 62 = .ok (.iload_n 3, 1) := by decide +kernel
theorem dX0_findSpread_63 : decode cX0_findSpread 63 = .ok (.iload 7, 2) := by decide +kernel
theorem dX0_findSpread_65 : decode cX0_findSpread 65 = .ok (.iadd, 1) := by decide +kernel
theorem dX0_findSpread_66 : decode cX0_findSpread 66 = .ok (.i2l, 1) := by decide +kernel
theorem dX0_findSpread_67 : decode cX0_findSpread 67 = .ok (.iconst 0, 1) := by decide +kernel
theorem dX0_findSpread_68 : decode cX0_findSpread 68 = .ok (.invokevirtual 110, 3) := by decide +kernel
theorem dX0_findSpread_71 : decode cX0_findSpread 71 = .ok (.i2l, 1) := by decide +kernel
theorem dX0_findSpread_72 : decode cX0_findSpread 72 = .ok (.invokestatic 113, 3) := by decide +kernel
theorem dX0_findSpread_75 : decode cX0_findSpread 75 = .ok (.imul, 1) := by decide +kernel
theorem dX0_findSpread_76 : decode cX0_findSpread 76 = .ok (.invokestatic 146, 3) := by decide +kernel
theorem dX0_findSpread_79 : decode cX0_findSpread 79 = .ok (.iadd, 1) := by decide +kernel
theorem dX0_findSpread_80 : decode cX0_findSpread 80 = .ok (.putfield 143, 3) := by decide +kernel
theorem dX0_findSpread_83 : decode cX0_findSpread 83 = .ok (.iinc 7 1, 3) := by decide +kernel
theorem dX0_findSpread_86 : decode cX0_findSpread 86 = .ok (.goto (-48), 3) := by decide +kernel
theorem dX0_findSpread_89 : decode cX0_findSpread 89 = .ok (.iconst 0, 1) := by decide +kernel
theorem dX0_findSpread_90 : decode cX0_findSpread 90 = .ok (.istore 7, 2) := by decide +kernel
theorem dX0_findSpread_92 : decode cX0_findSpread 92 = .ok (.iload 7, 2) := by decide +kernel
theorem dX0_findSpread_94 : decode cX0_findSpread 94 = .ok (.aload_n 1, 1) := by decide +kernel
theorem dX0_findSpread_95 : decode cX0_findSpread 95 = .ok (.getfield 82, 3) := by decide +kernel
theorem dX0_findSpread_98 : decode cX0_findSpread 98 = .ok (.if_icmp .ge 44, 3) := by decide +kernel
theorem dX0_findSpread_101 : decode cX0_findSpread 101 = .ok (.aload 6, 2) := by decide +kernel
theorem dX0_findSpread_103 : decode cX0_findSpread 103 = .ok (.ifnull 39, 3) := by decide +kernel
theorem dX0_findSpread_106 : decode cX0_findSpread 106 = .ok (.iload 7, 2) := by decide +kernel
theorem dX0_findSpread_108 : decode cX0_findSpread 108 = .ok (.iload_n 2, 1) := by decide +kernel
theorem dX0_findSpread_109 : decode cX0_findSpread 109 = .ok (.if_icmp .eq 27, 3) := by decide +kernel
theorem dX0_findSpread_112 : decode cX0_findSpread 112 = .ok (.aload_n 0, 1) := by decide +kernel
theorem dX0_findSpread_113 : decode cX0_findSpread 113 = .ok (.aload 6, 2) := by decide +kernel
theorem dX0_findSpread_115 : decode cX0_findSpread 115 = .ok (.aload_n 1, 1) := by decide +kernel
theorem dX0_findSpread_116 : decode cX0_findSpread 116 = .ok (.getfield 85, 3) := by decide +kernel
theorem dX0_findSpread_119 : decode cX0_findSpread 119 = .ok (.iload 7, 2) := by decide +kernel
theorem dX0_findSpread_121 : decode cX0_findSpread 121 = .ok (.aaload, 1) := by decide +kernel
theorem dX0_findSpread_122 : decode cX0_findSpread 122 = .ok (.iload_n 3, 1) := by decide +kernel
theorem dX0_findSpread_123 : decode cX0_findSpread 123 = .ok (.iload 5, 2) := by decide +kernel
theorem dX0_findSpread_125 : decode cX0_findSpread 125 = .ok (.invokevirtual 149, 3) := by decide +kernel
theorem dX0_findSpread_128 : decode cX0_findSpread 128 = .ok (.aload_n 0, 1) := by decide +kernel
theorem dX0_findSpread_129 : decode cX0_findSpread 129 = .ok (.iload 7, 2) := by decide +kernel
theorem dX0_findSpread_131 : decode cX0_findSpread 131 = .ok (.iload 5, 2) := by decide +kernel
theorem dX0_findSpread_133 : decode cX0_findSpread 133 = .ok (.invokevirtual 153, 3) := by decide +kernel
theorem dX0_findSpread_136 : decode cX0_findSpread 136 = .ok (.iinc 7 1, 3) := by decide +kernel
theorem dX0_findSpread_139 : decode cX0_findSpread 139 = .ok (.goto (-47), 3) := by decide +kernel
theorem dX0_findSpread_142 : decode cX0_findSpread 142 = .ok (.return_, 1) := by decide +kernel
noncomputable def f_X0_findSpread_38n6 (r1 : Nat) (v2 : Int32) (v3 : Int32) (v5 : Int32) (σ : am_H) : Option ((am_H) ⊕ (am_H)) :=
  if 0 < v5 then
   (some (.inr σ))
  else
  some (.inr σ)
set_option maxRecDepth 100000 in
set_option maxHeartbeats 4000000 in
theorem q_X0_findSpread_38n6 {X : am_X} (hX : am_wC X) {Q : Option Value → am_H → Prop} (r1 : Nat) (v2 : Int32) (v3 : Int32) (v5 : Int32) (hr1 : r1 < 3) (σ : am_H) {o : (am_H) ⊕ (am_H)} (hf : f_X0_findSpread_38n6 r1 v2 v3 v5 σ = some o) (hk0 : ∀ s, o = .inl s → am_G X gm_X0_findSpread Q 38 [(0, .ref (am_ad X 0 0)), (1, .ref (am_ad X 3 r1)), (2, .int v2), (3, .int v3), (5, .int v5), (6, .null), (7, .int 0)] [] s) (hk1 : ∀ t, o = .inr t → am_G X gm_X0_findSpread Q 89 [(0, .ref (am_ad X 0 0)), (1, .ref (am_ad X 3 r1)), (2, .int v2), (3, .int v3), (5, .int v5), (6, .null)] [] t) : am_G X gm_X0_findSpread Q 38 [(0, .ref (am_ad X 0 0)), (1, .ref (am_ad X 3 r1)), (2, .int v2), (3, .int v3), (5, .int v5), (6, .null), (7, .int 0)] [] σ := by
  unfold f_X0_findSpread_38n6 at hf
  refine g_iload (pc := 38) 6 rfl dX0_findSpread_38 ?_
  refine g_iload (pc := 40) 4 rfl dX0_findSpread_40 ?_
  refine bi_ge (pc := 42) 89 dX0_findSpread_42 rfl (fun c1 => ?_) (fun c1 => ?_)
  · replace hf := am_ifT c1 hf
    refine g_aloadN (pc := 45) 5 rfl dX0_findSpread_45 ?_
    refine g_ifnullN (pc := 47) 89 dX0_findSpread_47 rfl ?_
    have hz := hk1 _ (Option.some.inj hf).symm
    exact am_sub [0, 1, 2, 3, 4, 5] rfl hz
  replace hf := am_ifF c1 hf
  have hz := hk1 _ (Option.some.inj hf).symm
  exact am_sub [0, 1, 2, 3, 4, 5] rfl hz
set_option maxRecDepth 100000 in
set_option maxHeartbeats 4000000 in
theorem l_X0_findSpread_38n6 {X : am_X} (hX : am_wC X) {Q : Option Value → am_H → Prop} (r1 : Nat) (v2 : Int32) (v3 : Int32) (v5 : Int32) (hr1 : r1 < 3) (σ : am_H) (s : am_H) {o : am_H} (hf : am_loop (fun s => f_X0_findSpread_38n6 r1 v2 v3 v5 s) s = some o) (hk1 : ∀ t, o = t → am_G X gm_X0_findSpread Q 89 [(0, .ref (am_ad X 0 0)), (1, .ref (am_ad X 3 r1)), (2, .int v2), (3, .int v3), (5, .int v5), (6, .null)] [] t) : am_G X gm_X0_findSpread Q 38 [(0, .ref (am_ad X 0 0)), (1, .ref (am_ad X 3 r1)), (2, .int v2), (3, .int v3), (5, .int v5), (6, .null), (7, .int 0)] [] s := by
  refine am_loop_ind (P := fun s => am_G X gm_X0_findSpread Q 38 [(0, .ref (am_ad X 0 0)), (1, .ref (am_ad X 3 r1)), (2, .int v2), (3, .int v3), (5, .int v5), (6, .null), (7, .int 0)] [] s) (K := fun r => r = o) ?_ hf rfl
  intro s o1 hb hi hr
  exact q_X0_findSpread_38n6 hX r1 v2 v3 v5  hr1 s hb hi (fun t e => hk1 t (hr _ e).symm)
noncomputable def f_X0_findSpread_92n6 (r1 : Nat) (v2 : Int32) (v3 : Int32) (v5 : Int32) (σ : am_H) : Option ((am_H) ⊕ (am_H)) :=
  if 0 < (σ.1 3 r1 1) then
   (some (.inr σ))
  else
  some (.inr σ)
set_option maxRecDepth 100000 in
set_option maxHeartbeats 4000000 in
theorem q_X0_findSpread_92n6 {X : am_X} (hX : am_wC X) {Q : Option Value → am_H → Prop} (r1 : Nat) (v2 : Int32) (v3 : Int32) (v5 : Int32) (hr1 : r1 < 3) (σ : am_H) {o : (am_H) ⊕ (am_H)} (hf : f_X0_findSpread_92n6 r1 v2 v3 v5 σ = some o) (hk0 : ∀ s, o = .inl s → am_G X gm_X0_findSpread Q 92 [(0, .ref (am_ad X 0 0)), (1, .ref (am_ad X 3 r1)), (2, .int v2), (3, .int v3), (5, .int v5), (6, .null), (7, .int 0)] [] s) (hk1 : ∀ t, o = .inr t → am_G X gm_X0_findSpread Q 142 [] [] t) : am_G X gm_X0_findSpread Q 92 [(0, .ref (am_ad X 0 0)), (1, .ref (am_ad X 3 r1)), (2, .int v2), (3, .int v3), (5, .int v5), (6, .null), (7, .int 0)] [] σ := by
  unfold f_X0_findSpread_92n6 at hf
  refine g_iload (pc := 92) 6 rfl dX0_findSpread_92 ?_
  refine g_aload_n (pc := 94) 1 rfl dX0_findSpread_94 rfl ?_
  refine g_getI (pc := 95) (in_3 hX.1 (by omega)) fr_X0_82 dX0_findSpread_95 ?_
  refine bi_ge (pc := 98) 142 dX0_findSpread_98 rfl (fun c1 => ?_) (fun c1 => ?_)
  · replace hf := am_ifT c1 hf
    refine g_aloadN (pc := 101) 5 rfl dX0_findSpread_101 ?_
    refine g_ifnullN (pc := 103) 142 dX0_findSpread_103 rfl ?_
    have hz := hk1 _ (Option.some.inj hf).symm
    exact am_sub [] rfl hz
  replace hf := am_ifF c1 hf
  have hz := hk1 _ (Option.some.inj hf).symm
  exact am_sub [] rfl hz
set_option maxRecDepth 100000 in
set_option maxHeartbeats 4000000 in
theorem l_X0_findSpread_92n6 {X : am_X} (hX : am_wC X) {Q : Option Value → am_H → Prop} (r1 : Nat) (v2 : Int32) (v3 : Int32) (v5 : Int32) (hr1 : r1 < 3) (σ : am_H) (s : am_H) {o : am_H} (hf : am_loop (fun s => f_X0_findSpread_92n6 r1 v2 v3 v5 s) s = some o) (hk1 : ∀ t, o = t → am_G X gm_X0_findSpread Q 142 [] [] t) : am_G X gm_X0_findSpread Q 92 [(0, .ref (am_ad X 0 0)), (1, .ref (am_ad X 3 r1)), (2, .int v2), (3, .int v3), (5, .int v5), (6, .null), (7, .int 0)] [] s := by
  refine am_loop_ind (P := fun s => am_G X gm_X0_findSpread Q 92 [(0, .ref (am_ad X 0 0)), (1, .ref (am_ad X 3 r1)), (2, .int v2), (3, .int v3), (5, .int v5), (6, .null), (7, .int 0)] [] s) (K := fun r => r = o) ?_ hf rfl
  intro s o1 hb hi hr
  exact q_X0_findSpread_92n6 hX r1 v2 v3 v5  hr1 s hb hi (fun t e => hk1 t (hr _ e).symm)
noncomputable def f_X0_findSpread_38 (r1 : Nat) (v2 : Int32) (v3 : Int32) (v5 : Int32) (r6 : Nat) (v7 : Int32) (σ : am_H) : Option ((Int32 × am_H) ⊕ (am_H)) :=
  if v7 < v5 then
   ((f_X10_placeAt r6 (Int32.toInt64 (v3 + v7)) false σ).bind fun p2 =>
   (f_X11_cosOf (Int32.toInt64 p2) σ).bind fun p3 =>
   (some (am_wI σ 0 0 16 ((σ.1 0 0 16) + (am_ab ((σ.1 10 r6 3) * p3))))).bind fun s4 =>
   some (.inl ((v7 + 1), s4)))
  else
  some (.inr σ)
set_option maxRecDepth 100000 in
set_option maxHeartbeats 4000000 in
theorem q_X0_findSpread_38 {X : am_X} (hX : am_wC X) {Q : Option Value → am_H → Prop} (r1 : Nat) (v2 : Int32) (v3 : Int32) (v5 : Int32) (r6 : Nat) (v7 : Int32) (hr1 : r1 < 3) (hr6 : r6 < 18) (σ : am_H) {o : (Int32 × am_H) ⊕ (am_H)} (hf : f_X0_findSpread_38 r1 v2 v3 v5 r6 v7 σ = some o) (hk0 : ∀ s, o = .inl s → am_G X gm_X0_findSpread Q 38 [(0, .ref (am_ad X 0 0)), (1, .ref (am_ad X 3 r1)), (2, .int v2), (3, .int v3), (5, .int v5), (6, .ref (am_ad X 10 r6)), (7, .int s.1)] [] s.2) (hk1 : ∀ t, o = .inr t → am_G X gm_X0_findSpread Q 89 [(0, .ref (am_ad X 0 0)), (1, .ref (am_ad X 3 r1)), (2, .int v2), (3, .int v3), (5, .int v5), (6, .ref (am_ad X 10 r6))] [] t) : am_G X gm_X0_findSpread Q 38 [(0, .ref (am_ad X 0 0)), (1, .ref (am_ad X 3 r1)), (2, .int v2), (3, .int v3), (5, .int v5), (6, .ref (am_ad X 10 r6)), (7, .int v7)] [] σ := by
  unfold f_X0_findSpread_38 at hf
  refine g_iload (pc := 38) 6 rfl dX0_findSpread_38 ?_
  refine g_iload (pc := 40) 4 rfl dX0_findSpread_40 ?_
  refine bi_ge (pc := 42) 89 dX0_findSpread_42 rfl (fun c1 => ?_) (fun c1 => ?_)
  · replace hf := am_ifT c1 hf
    refine g_aload (pc := 45) 5 rfl dX0_findSpread_45 ?_
    refine g_ifnull (pc := 47) dX0_findSpread_47 ?_
    refine g_aload_n (pc := 50) 0 rfl dX0_findSpread_50 rfl ?_
    refine g_dup (pc := 51) dX0_findSpread_51 rfl ?_
    refine g_getI (pc := 52) (in_0 hX.1 (by omega)) fr_X0_143 dX0_findSpread_52 ?_
    refine g_aload (pc := 55) 5 rfl dX0_findSpread_55 ?_
    refine g_getI (pc := 57) (in_10 hX.1 (by omega)) fr_X0_124 dX0_findSpread_57 ?_
    refine g_aload (pc := 60) 5 rfl dX0_findSpread_60 ?_
    refine g_iload_n (pc := 62) 3 rfl dX0_findSpread_62 rfl ?_
    refine g_iload (pc := 63) 6 rfl dX0_findSpread_63 ?_
    refine g_iadd (pc := 65) dX0_findSpread_65 ?_
    refine g_i2l (pc := 66) dX0_findSpread_66 ?_
    refine g_iconst (pc := 67) (v := 0) dX0_findSpread_67 (by decide) ?_
    obtain ⟨p2, hp2, hf⟩ := am_bd hf
    refine g_cV (pc := 68) (As := [.long (Int32.toInt64 (v3 + v7)), .int (am_b false)]) (st := [.int (σ.1 10 r6 3), .int (σ.1 0 0 16), .ref (am_ad X 0 0)]) (st1 := [.int p2, .int (σ.1 10 r6 3), .int (σ.1 0 0 16), .ref (am_ad X 0 0)]) (in_10 hX.1 (by omega)) kk_10 mV_X10_placeAt ln_X0_110 rfl (Nat.le_of_ble_eq_true rfl) (Nat.le_of_ble_eq_true rfl) (k_X10_placeAt hX r6 (Int32.toInt64 (v3 + v7)) false (by omega) σ hp2) dX0_findSpread_68 rfl rfl ?_
    refine g_i2l (pc := 71) dX0_findSpread_71 ?_
    obtain ⟨p3, hp3, hf⟩ := am_bd hf
    refine g_cS (pc := 72) (As := [.long (Int32.toInt64 p2)]) (st := [.int (σ.1 10 r6 3), .int (σ.1 0 0 16), .ref (am_ad X 0 0)]) (st1 := [.int p3, .int (σ.1 10 r6 3), .int (σ.1 0 0 16), .ref (am_ad X 0 0)]) mS_X11_cosOf ln_X0_113 rfl (Nat.le_of_ble_eq_true rfl) (Nat.le_of_ble_eq_true rfl) (k_X11_cosOf hX (Int32.toInt64 p2) σ hp3) dX0_findSpread_72 rfl rfl ?_
    refine g_imul (pc := 75) dX0_findSpread_75 ?_
    refine g_mabs (pc := 76) (Nat.le_of_ble_eq_true rfl) (Nat.le_of_ble_eq_true rfl) sp_X0_146 dX0_findSpread_76 ?_
    refine g_iadd (pc := 79) dX0_findSpread_79 ?_
    obtain ⟨s4, hs4, hf⟩ := am_bd hf
    refine g_setI (pc := 80) (in_0 hX.1 (by omega)) fr_X0_143 dX0_findSpread_80 (Option.some.inj hs4) ?_
    refine g_iinc (pc := 83) (v := (v7 + 1)) 6 [(7, .int (v7 + 1)), (0, .ref (am_ad X 0 0)), (1, .ref (am_ad X 3 r1)), (2, .int v2), (3, .int v3), (5, .int v5), (6, .ref (am_ad X 10 r6))] dX0_findSpread_83 rfl rfl (Nat.le_of_ble_eq_true rfl) rfl ?_
    refine g_goto (pc := 86) 38 dX0_findSpread_86 rfl ?_
    have hz := hk0 _ (Option.some.inj hf).symm
    exact am_sub [1, 2, 3, 4, 5, 6, 0] rfl hz
  replace hf := am_ifF c1 hf
  have hz := hk1 _ (Option.some.inj hf).symm
  exact am_sub [0, 1, 2, 3, 4, 5] rfl hz
set_option maxRecDepth 100000 in
set_option maxHeartbeats 4000000 in
theorem l_X0_findSpread_38 {X : am_X} (hX : am_wC X) {Q : Option Value → am_H → Prop} (r1 : Nat) (v2 : Int32) (v3 : Int32) (v5 : Int32) (r6 : Nat) (hr1 : r1 < 3) (hr6 : r6 < 18) (σ : am_H) (s : Int32 × am_H) {o : am_H} (hf : am_loop (fun s => f_X0_findSpread_38 r1 v2 v3 v5 r6 s.1 s.2) s = some o) (hk1 : ∀ t, o = t → am_G X gm_X0_findSpread Q 89 [(0, .ref (am_ad X 0 0)), (1, .ref (am_ad X 3 r1)), (2, .int v2), (3, .int v3), (5, .int v5), (6, .ref (am_ad X 10 r6))] [] t) : am_G X gm_X0_findSpread Q 38 [(0, .ref (am_ad X 0 0)), (1, .ref (am_ad X 3 r1)), (2, .int v2), (3, .int v3), (5, .int v5), (6, .ref (am_ad X 10 r6)), (7, .int s.1)] [] s.2 := by
  refine am_loop_ind (P := fun s => am_G X gm_X0_findSpread Q 38 [(0, .ref (am_ad X 0 0)), (1, .ref (am_ad X 3 r1)), (2, .int v2), (3, .int v3), (5, .int v5), (6, .ref (am_ad X 10 r6)), (7, .int s.1)] [] s.2) (K := fun r => r = o) ?_ hf rfl
  intro s o1 hb hi hr
  exact q_X0_findSpread_38 hX r1 v2 v3 v5 r6 s.1  hr1 hr6 s.2 hb hi (fun t e => hk1 t (hr _ e).symm)
noncomputable def f_X0_findSpread_92 (r1 : Nat) (v2 : Int32) (v3 : Int32) (v5 : Int32) (r6 : Nat) (v7 : Int32) (σ : am_H) : Option ((Int32 × am_H) ⊕ (am_H)) :=
  if v7 < (σ.1 3 r1 1) then
   (if v7 = v2 then
    (some (.inl ((v7 + 1), σ)))
   else
   (am_ix 6 v7).bind fun j3 =>
   (f_X0_prepareSpread r6 (6 * r1 + j3) v3 v5 σ).bind fun p4 =>
   (f_X0_trySpread v7 v5 p4).bind fun p5 =>
   some (.inl ((v7 + 1), p5)))
  else
  some (.inr σ)
set_option maxRecDepth 100000 in
set_option maxHeartbeats 4000000 in
theorem q_X0_findSpread_92 {X : am_X} (hX : am_wC X) {Q : Option Value → am_H → Prop} (r1 : Nat) (v2 : Int32) (v3 : Int32) (v5 : Int32) (r6 : Nat) (v7 : Int32) (hr1 : r1 < 3) (hr6 : r6 < 18) (σ : am_H) {o : (Int32 × am_H) ⊕ (am_H)} (hf : f_X0_findSpread_92 r1 v2 v3 v5 r6 v7 σ = some o) (hk0 : ∀ s, o = .inl s → am_G X gm_X0_findSpread Q 92 [(0, .ref (am_ad X 0 0)), (1, .ref (am_ad X 3 r1)), (2, .int v2), (3, .int v3), (5, .int v5), (6, .ref (am_ad X 10 r6)), (7, .int s.1)] [] s.2) (hk1 : ∀ t, o = .inr t → am_G X gm_X0_findSpread Q 142 [] [] t) : am_G X gm_X0_findSpread Q 92 [(0, .ref (am_ad X 0 0)), (1, .ref (am_ad X 3 r1)), (2, .int v2), (3, .int v3), (5, .int v5), (6, .ref (am_ad X 10 r6)), (7, .int v7)] [] σ := by
  unfold f_X0_findSpread_92 at hf
  refine g_iload (pc := 92) 6 rfl dX0_findSpread_92 ?_
  refine g_aload_n (pc := 94) 1 rfl dX0_findSpread_94 rfl ?_
  refine g_getI (pc := 95) (in_3 hX.1 (by omega)) fr_X0_82 dX0_findSpread_95 ?_
  refine bi_ge (pc := 98) 142 dX0_findSpread_98 rfl (fun c1 => ?_) (fun c1 => ?_)
  · replace hf := am_ifT c1 hf
    refine g_aload (pc := 101) 5 rfl dX0_findSpread_101 ?_
    refine g_ifnull (pc := 103) dX0_findSpread_103 ?_
    refine g_iload (pc := 106) 6 rfl dX0_findSpread_106 ?_
    refine g_iload_n (pc := 108) 2 rfl dX0_findSpread_108 rfl ?_
    refine bi_eq (pc := 109) 136 dX0_findSpread_109 rfl (fun c2 => ?_) (fun c2 => ?_)
    · replace hf := am_ifT c2 hf
      refine g_iinc (pc := 136) (v := (v7 + 1)) 6 [(7, .int (v7 + 1)), (0, .ref (am_ad X 0 0)), (1, .ref (am_ad X 3 r1)), (2, .int v2), (3, .int v3), (5, .int v5), (6, .ref (am_ad X 10 r6))] dX0_findSpread_136 rfl rfl (Nat.le_of_ble_eq_true rfl) rfl ?_
      refine g_goto (pc := 139) 92 dX0_findSpread_139 rfl ?_
      have hz := hk0 _ (Option.some.inj hf).symm
      exact am_sub [1, 2, 3, 4, 5, 6, 0] rfl hz
    replace hf := am_ifF c2 hf
    refine g_aload_n (pc := 112) 0 rfl dX0_findSpread_112 rfl ?_
    refine g_aload (pc := 113) 5 rfl dX0_findSpread_113 ?_
    refine g_aload_n (pc := 115) 1 rfl dX0_findSpread_115 rfl ?_
    refine g_getC (pc := 116) (e := r1) (in_3 hX.1 (by omega)) fr_X0_85 dX0_findSpread_116 rfl ?_
    refine g_iload (pc := 119) 6 rfl dX0_findSpread_119 ?_
    obtain ⟨j3, hj3, hf⟩ := am_bd hf
    have gj3 := am_ix_lt hj3
    refine g_aC (pc := 121) (e := (6 * r1 + j3)) (in_400 hX.1 (by omega)) ak_400 hj3 rfl dX0_findSpread_121 ?_
    refine g_iload_n (pc := 122) 3 rfl dX0_findSpread_122 rfl ?_
    refine g_iload (pc := 123) 4 rfl dX0_findSpread_123 ?_
    obtain ⟨p4, hp4, hf⟩ := am_bd hf
    refine g_cV (pc := 125) (As := [.ref (am_ad X 10 r6), .ref (am_ad X 10 (6 * r1 + j3)), .int v3, .int v5]) (st := []) (st1 := []) (in_0 hX.1 (by omega)) kk_0 mV_X0_prepareSpread ln_X0_149 rfl (Nat.le_of_ble_eq_true rfl) (Nat.le_of_ble_eq_true rfl) (k_X0_prepareSpread hX r6 (6 * r1 + j3) v3 v5 (by omega) (by omega) σ hp4) dX0_findSpread_125 rfl rfl ?_
    refine g_aload_n (pc := 128) 0 rfl dX0_findSpread_128 rfl ?_
    refine g_iload (pc := 129) 6 rfl dX0_findSpread_129 ?_
    refine g_iload (pc := 131) 4 rfl dX0_findSpread_131 ?_
    obtain ⟨p5, hp5, hf⟩ := am_bd hf
    refine g_cV (pc := 133) (As := [.int v7, .int v5]) (st := []) (st1 := []) (in_0 hX.1 (by omega)) kk_0 mV_X0_trySpread ln_X0_153 rfl (Nat.le_of_ble_eq_true rfl) (Nat.le_of_ble_eq_true rfl) (k_X0_trySpread hX v7 v5 p4 hp5) dX0_findSpread_133 rfl rfl ?_
    refine g_iinc (pc := 136) (v := (v7 + 1)) 6 [(7, .int (v7 + 1)), (0, .ref (am_ad X 0 0)), (1, .ref (am_ad X 3 r1)), (2, .int v2), (3, .int v3), (5, .int v5), (6, .ref (am_ad X 10 r6))] dX0_findSpread_136 rfl rfl (Nat.le_of_ble_eq_true rfl) rfl ?_
    refine g_goto (pc := 139) 92 dX0_findSpread_139 rfl ?_
    have hz := hk0 _ (Option.some.inj hf).symm
    exact am_sub [1, 2, 3, 4, 5, 6, 0] rfl hz
  replace hf := am_ifF c1 hf
  have hz := hk1 _ (Option.some.inj hf).symm
  exact am_sub [] rfl hz
set_option maxRecDepth 100000 in
set_option maxHeartbeats 4000000 in
theorem l_X0_findSpread_92 {X : am_X} (hX : am_wC X) {Q : Option Value → am_H → Prop} (r1 : Nat) (v2 : Int32) (v3 : Int32) (v5 : Int32) (r6 : Nat) (hr1 : r1 < 3) (hr6 : r6 < 18) (σ : am_H) (s : Int32 × am_H) {o : am_H} (hf : am_loop (fun s => f_X0_findSpread_92 r1 v2 v3 v5 r6 s.1 s.2) s = some o) (hk1 : ∀ t, o = t → am_G X gm_X0_findSpread Q 142 [] [] t) : am_G X gm_X0_findSpread Q 92 [(0, .ref (am_ad X 0 0)), (1, .ref (am_ad X 3 r1)), (2, .int v2), (3, .int v3), (5, .int v5), (6, .ref (am_ad X 10 r6)), (7, .int s.1)] [] s.2 := by
  refine am_loop_ind (P := fun s => am_G X gm_X0_findSpread Q 92 [(0, .ref (am_ad X 0 0)), (1, .ref (am_ad X 3 r1)), (2, .int v2), (3, .int v3), (5, .int v5), (6, .ref (am_ad X 10 r6)), (7, .int s.1)] [] s.2) (K := fun r => r = o) ?_ hf rfl
  intro s o1 hb hi hr
  exact q_X0_findSpread_92 hX r1 v2 v3 v5 r6 s.1  hr1 hr6 s.2 hb hi (fun t e => hk1 t (hr _ e).symm)
noncomputable def f_X0_findSpread (r1 : Nat) (v2 : Int32) (v3 : Int32) (v4 : Int32) (σ : am_H) : Option (am_H) :=
  (f_X3_waveAt r1 v2 σ).bind fun p1 =>
  am_nn 18 p1
   ((some (am_wI σ 0 0 12 (am_b true))).bind fun s3 =>
   (some (am_wI s3 0 0 13 (-1))).bind fun s4 =>
   (some (am_wI s4 0 0 16 0)).bind fun s5 =>
   (am_loop (fun s => f_X0_findSpread_38n6 r1 v2 v3 (am_mn ((v4 - v3) + 1) 48) s) s5).bind fun w6 =>
   (am_loop (fun s => f_X0_findSpread_92n6 r1 v2 v3 (am_mn ((v4 - v3) + 1) 48) s) w6).bind fun w7 =>
   some w7)
   (fun a2 =>
   (some (am_wI σ 0 0 12 (am_b true))).bind fun s8 =>
   (some (am_wI s8 0 0 13 (-1))).bind fun s9 =>
   (some (am_wI s9 0 0 16 0)).bind fun s10 =>
   (am_loop (fun s => f_X0_findSpread_38 r1 v2 v3 (am_mn ((v4 - v3) + 1) 48) a2 s.1 s.2) (0, s10)).bind fun w11 =>
   (am_loop (fun s => f_X0_findSpread_92 r1 v2 v3 (am_mn ((v4 - v3) + 1) 48) a2 s.1 s.2) (0, w11)).bind fun w12 =>
   some w12)
set_option maxRecDepth 100000 in
set_option maxHeartbeats 4000000 in
theorem q_X0_findSpread {X : am_X} (hX : am_wC X) {Q : Option Value → am_H → Prop} (r1 : Nat) (v2 : Int32) (v3 : Int32) (v4 : Int32) (hr1 : r1 < 3) (σ : am_H) {o : am_H} (hf : f_X0_findSpread r1 v2 v3 v4 σ = some o) (hk : Q none o) : am_G X gm_X0_findSpread Q 0 [(0, .ref (am_ad X 0 0)), (1, .ref (am_ad X 3 r1)), (2, .int v2), (3, .int v3), (4, .int v4)] [] σ := by
  unfold f_X0_findSpread at hf
  refine g_iload (pc := 0) 4 rfl dX0_findSpread_0 ?_
  refine g_iload_n (pc := 2) 3 rfl dX0_findSpread_2 rfl ?_
  refine g_isub (pc := 3) dX0_findSpread_3 ?_
  refine g_iconst (pc := 4) (v := 1) dX0_findSpread_4 (by decide) ?_
  refine g_iadd (pc := 5) dX0_findSpread_5 ?_
  refine g_bipush (pc := 6) (v := 48) dX0_findSpread_6 (by decide) ?_
  refine g_mmin (pc := 8) (Nat.le_of_ble_eq_true rfl) (Nat.le_of_ble_eq_true rfl) sp_X0_133 dX0_findSpread_8 ?_
  refine g_istore (pc := 11) [(5, .int (am_mn ((v4 - v3) + 1) 48)), (0, .ref (am_ad X 0 0)), (1, .ref (am_ad X 3 r1)), (2, .int v2), (3, .int v3), (4, .int v4)] dX0_findSpread_11 (Nat.le_of_ble_eq_true rfl) rfl ?_
  refine g_aload_n (pc := 13) 2 rfl dX0_findSpread_13 rfl ?_
  refine g_iload_n (pc := 14) 3 rfl dX0_findSpread_14 rfl ?_
  obtain ⟨p1, hp1, hf⟩ := am_bd hf
  have hq := am_nn_c hf
  clear hf
  rcases hq with ⟨ep1, hf⟩ | ⟨a2, ep1, ga2, hf⟩
  · subst ep1
    refine g_cV (pc := 15) (As := [.int v2]) (st := []) (st1 := [.null]) (in_3 hX.1 (by omega)) kk_3 mV_X3_waveAt ln_X0_136 rfl (Nat.le_of_ble_eq_true rfl) (Nat.le_of_ble_eq_true rfl) (k_X3_waveAt hX r1 v2 (by omega) σ hp1) dX0_findSpread_15 rfl rfl ?_
    refine g_astoreN (pc := 18) [(6, .null), (5, .int (am_mn ((v4 - v3) + 1) 48)), (0, .ref (am_ad X 0 0)), (1, .ref (am_ad X 3 r1)), (2, .int v2), (3, .int v3), (4, .int v4)] dX0_findSpread_18 (Nat.le_of_ble_eq_true rfl) rfl ?_
    refine g_aload_n (pc := 20) 2 rfl dX0_findSpread_20 rfl ?_
    refine g_iconst (pc := 21) (v := 1) dX0_findSpread_21 (by decide) ?_
    obtain ⟨s3, hs3, hf⟩ := am_bd hf
    refine g_setZ (x := true) (pc := 22) (in_0 hX.1 (by omega)) fr_X0_140 dX0_findSpread_22 (Option.some.inj hs3) ?_
    refine g_aload_n (pc := 25) 2 rfl dX0_findSpread_25 rfl ?_
    refine g_iconst (pc := 26) (v := (-1)) dX0_findSpread_26 (by decide) ?_
    obtain ⟨s4, hs4, hf⟩ := am_bd hf
    refine g_setI (pc := 27) (in_0 hX.1 (by omega)) fr_X0_28 dX0_findSpread_27 (Option.some.inj hs4) ?_
    refine g_aload_n (pc := 30) 2 rfl dX0_findSpread_30 rfl ?_
    refine g_iconst (pc := 31) (v := 0) dX0_findSpread_31 (by decide) ?_
    obtain ⟨s5, hs5, hf⟩ := am_bd hf
    refine g_setI (pc := 32) (in_0 hX.1 (by omega)) fr_X0_143 dX0_findSpread_32 (Option.some.inj hs5) ?_
    refine g_iconst (pc := 35) (v := 0) dX0_findSpread_35 (by decide) ?_
    refine g_istore (pc := 36) [(7, .int 0), (6, .null), (5, .int (am_mn ((v4 - v3) + 1) 48)), (0, .ref (am_ad X 0 0)), (1, .ref (am_ad X 3 r1)), (2, .int v2), (3, .int v3), (4, .int v4)] dX0_findSpread_36 (Nat.le_of_ble_eq_true rfl) rfl ?_
    obtain ⟨w6, hw6, hf⟩ := am_bd hf
    refine am_sub [3, 4, 5, 6, 2, 1, 0] rfl (l_X0_findSpread_38n6 hX r1 v2 v3 (am_mn ((v4 - v3) + 1) 48) (by omega) s5 s5 hw6 ?_)
    intro t e
    subst e
    refine g_iconst (pc := 89) (v := 0) dX0_findSpread_89 (by decide) ?_
    refine g_istore (pc := 90) [(7, .int 0), (0, .ref (am_ad X 0 0)), (1, .ref (am_ad X 3 r1)), (2, .int v2), (3, .int v3), (5, .int (am_mn ((v4 - v3) + 1) 48)), (6, .null)] dX0_findSpread_90 (Nat.le_of_ble_eq_true rfl) rfl ?_
    obtain ⟨w7, hw7, hf⟩ := am_bd hf
    refine am_sub [1, 2, 3, 4, 5, 6, 0] rfl (l_X0_findSpread_92n6 hX r1 v2 v3 (am_mn ((v4 - v3) + 1) 48) (by omega) w6 w6 hw7 ?_)
    intro t e
    subst e
    have ho := Option.some.inj hf
    subst ho
    exact g_vreturn (pc := 142) (st := []) rfl dX0_findSpread_142 hk
  · subst ep1
    refine g_cV (pc := 15) (As := [.int v2]) (st := []) (st1 := [.ref (am_ad X 10 a2)]) (in_3 hX.1 (by omega)) kk_3 mV_X3_waveAt ln_X0_136 rfl (Nat.le_of_ble_eq_true rfl) (Nat.le_of_ble_eq_true rfl) (k_X3_waveAt hX r1 v2 (by omega) σ hp1) dX0_findSpread_15 rfl rfl ?_
    refine g_astore (pc := 18) [(6, .ref (am_ad X 10 a2)), (5, .int (am_mn ((v4 - v3) + 1) 48)), (0, .ref (am_ad X 0 0)), (1, .ref (am_ad X 3 r1)), (2, .int v2), (3, .int v3), (4, .int v4)] dX0_findSpread_18 (Nat.le_of_ble_eq_true rfl) rfl ?_
    refine g_aload_n (pc := 20) 2 rfl dX0_findSpread_20 rfl ?_
    refine g_iconst (pc := 21) (v := 1) dX0_findSpread_21 (by decide) ?_
    obtain ⟨s8, hs8, hf⟩ := am_bd hf
    refine g_setZ (x := true) (pc := 22) (in_0 hX.1 (by omega)) fr_X0_140 dX0_findSpread_22 (Option.some.inj hs8) ?_
    refine g_aload_n (pc := 25) 2 rfl dX0_findSpread_25 rfl ?_
    refine g_iconst (pc := 26) (v := (-1)) dX0_findSpread_26 (by decide) ?_
    obtain ⟨s9, hs9, hf⟩ := am_bd hf
    refine g_setI (pc := 27) (in_0 hX.1 (by omega)) fr_X0_28 dX0_findSpread_27 (Option.some.inj hs9) ?_
    refine g_aload_n (pc := 30) 2 rfl dX0_findSpread_30 rfl ?_
    refine g_iconst (pc := 31) (v := 0) dX0_findSpread_31 (by decide) ?_
    obtain ⟨s10, hs10, hf⟩ := am_bd hf
    refine g_setI (pc := 32) (in_0 hX.1 (by omega)) fr_X0_143 dX0_findSpread_32 (Option.some.inj hs10) ?_
    refine g_iconst (pc := 35) (v := 0) dX0_findSpread_35 (by decide) ?_
    refine g_istore (pc := 36) [(7, .int 0), (6, .ref (am_ad X 10 a2)), (5, .int (am_mn ((v4 - v3) + 1) 48)), (0, .ref (am_ad X 0 0)), (1, .ref (am_ad X 3 r1)), (2, .int v2), (3, .int v3), (4, .int v4)] dX0_findSpread_36 (Nat.le_of_ble_eq_true rfl) rfl ?_
    obtain ⟨w11, hw11, hf⟩ := am_bd hf
    refine am_sub [3, 4, 5, 6, 2, 1, 0] rfl (l_X0_findSpread_38 hX r1 v2 v3 (am_mn ((v4 - v3) + 1) 48) a2 (by omega) (by omega) s10 (0, s10) hw11 ?_)
    intro t e
    subst e
    refine g_iconst (pc := 89) (v := 0) dX0_findSpread_89 (by decide) ?_
    refine g_istore (pc := 90) [(7, .int 0), (0, .ref (am_ad X 0 0)), (1, .ref (am_ad X 3 r1)), (2, .int v2), (3, .int v3), (5, .int (am_mn ((v4 - v3) + 1) 48)), (6, .ref (am_ad X 10 a2))] dX0_findSpread_90 (Nat.le_of_ble_eq_true rfl) rfl ?_
    obtain ⟨w12, hw12, hf⟩ := am_bd hf
    refine am_sub [1, 2, 3, 4, 5, 6, 0] rfl (l_X0_findSpread_92 hX r1 v2 v3 (am_mn ((v4 - v3) + 1) 48) a2 (by omega) (by omega) w11 (0, w11) hw12 ?_)
    intro t e
    subst e
    have ho := Option.some.inj hf
    subst ho
    exact g_vreturn (pc := 142) (st := []) rfl dX0_findSpread_142 hk
theorem k_X0_findSpread {X : am_X} (hX : am_wC X) (r1 : Nat) (v2 : Int32) (v3 : Int32) (v4 : Int32) (hr1 : r1 < 3) (σ : am_H) {o : am_H} (hf : f_X0_findSpread r1 v2 v3 v4 σ = some o) : am_C X gm_X0_findSpread [.ref (am_ad X 0 0), .ref (am_ad X 3 r1), .int v2, .int v3, .int v4] σ (am_is none o) :=
  am_ofG rfl (Nat.le_of_ble_eq_true rfl) rfl (q_X0_findSpread hX r1 v2 v3 v4 hr1 σ hf ⟨rfl, rfl⟩)
theorem dX8_at_0 : decode cX8_at 0 = .ok (.iload_n 1, 1) := by decide +kernel
theorem dX8_at_1 : decode cX8_at 1 = .ok (.ifCond .lt 11, 3) := by decide +kernel
theorem dX8_at_4 : decode cX8_at 4 = .ok (.iload_n 1, 1) := by decide +kernel
theorem dX8_at_5 : decode cX8_at 5 = .ok (.aload_n 0, 1) := by decide +kernel
theorem dX8_at_6 : decode cX8_at 6 = .ok (.getfield 28, 3) := by decide +kernel
theorem dX8_at_9 : decode cX8_at 9 = .ok (.if_icmp .lt 9, 3) := by decide +kernel
theorem dX8_at_12 : decode cX8_at 12 = .ok (.ldc2_w 31, 3) := by decide +kernel
theorem dX8_at_15 : decode cX8_at 15 = .ok (.goto 9, 3) := by decide +kernel
theorem dX8_at_18 : decode cX8_at 18 = .ok (.aload_n 0, 1) := by decide +kernel
theorem dX8_at_19 : decode cX8_at 19 = .ok (.getfield 15, 3) := by decide +kernel
theorem dX8_at_22 : decode cX8_at 22 = .ok (.iload_n 1, 1) := by decide +kernel
theorem dX8_at_23 : decode cX8_at 23 = .ok (.laload, 1) := by decide +kernel
theorem dX8_at_24 : decode cX8_at 24 = .ok (.lreturn, 1) := by decide +kernel
noncomputable def f_X8_at (r0 : Nat) (v1 : Int32) (σ : am_H) : Option (Int64) :=
  if v1 < 0 then
   (some (-1))
  else
  if v1 < (σ.1 8 r0 1) then
   ((am_ix 60 v1).bind fun j3 =>
   some (σ.2.1 902 r0 j3))
  else
  some (-1)
set_option maxRecDepth 100000 in
set_option maxHeartbeats 4000000 in
theorem q_X8_at {X : am_X} (hX : am_wC X) {Q : Option Value → am_H → Prop} (r0 : Nat) (v1 : Int32) (hr0 : r0 < 5) (σ : am_H) {o : Int64} (hf : f_X8_at r0 v1 σ = some o) (hk : Q (some (.long o)) σ) : am_G X gm_X8_at Q 0 [(0, .ref (am_ad X 8 r0)), (1, .int v1)] [] σ := by
  unfold f_X8_at at hf
  refine g_iload_n (pc := 0) 1 rfl dX8_at_0 rfl ?_
  refine bz_lt (pc := 1) 12 dX8_at_1 rfl (fun c1 => ?_) (fun c1 => ?_)
  · replace hf := am_ifT c1 hf
    refine g_ldc2 (pc := 12) (v := (-1)) (tb_3 (List.mem_of_getElem? (i := 136) (by decide +kernel))) dX8_at_12 ?_
    refine g_goto (pc := 15) 24 dX8_at_15 rfl ?_
    have ho := Option.some.inj hf
    subst ho
    exact g_lreturn (pc := 24) (st := []) rfl dX8_at_24 hk
  replace hf := am_ifF c1 hf
  refine g_iload_n (pc := 4) 1 rfl dX8_at_4 rfl ?_
  refine g_aload_n (pc := 5) 0 rfl dX8_at_5 rfl ?_
  refine g_getI (pc := 6) (in_8 hX.1 (by omega)) fr_X8_28 dX8_at_6 ?_
  refine bi_lt (pc := 9) 18 dX8_at_9 rfl (fun c2 => ?_) (fun c2 => ?_)
  · replace hf := am_ifT c2 hf
    refine g_aload_n (pc := 18) 0 rfl dX8_at_18 rfl ?_
    refine g_getC (pc := 19) (e := r0) (in_8 hX.1 (by omega)) fr_X8_15 dX8_at_19 rfl ?_
    refine g_iload_n (pc := 22) 1 rfl dX8_at_22 rfl ?_
    obtain ⟨j3, hj3, hf⟩ := am_bd hf
    have gj3 := am_ix_lt hj3
    refine g_aJ (pc := 23) (in_902 hX.1 (by omega)) ak_902 hj3 dX8_at_23 ?_
    have ho := Option.some.inj hf
    subst ho
    exact g_lreturn (pc := 24) (st := []) rfl dX8_at_24 hk
  replace hf := am_ifF c2 hf
  refine g_ldc2 (pc := 12) (v := (-1)) (tb_3 (List.mem_of_getElem? (i := 136) (by decide +kernel))) dX8_at_12 ?_
  refine g_goto (pc := 15) 24 dX8_at_15 rfl ?_
  have ho := Option.some.inj hf
  subst ho
  exact g_lreturn (pc := 24) (st := []) rfl dX8_at_24 hk
theorem k_X8_at {X : am_X} (hX : am_wC X) (r0 : Nat) (v1 : Int32) (hr0 : r0 < 5) (σ : am_H) {o : Int64} (hf : f_X8_at r0 v1 σ = some o) : am_C X gm_X8_at [.ref (am_ad X 8 r0), .int v1] σ (am_is (some (.long o)) σ) :=
  am_ofG rfl (Nat.le_of_ble_eq_true rfl) rfl (q_X8_at hX r0 v1 hr0 σ hf ⟨rfl, rfl⟩)
theorem dX1_takeFrom_0 : decode cX1_takeFrom 0 = .ok (.aload_n 0, 1) := by decide +kernel
theorem dX1_takeFrom_1 : decode cX1_takeFrom 1 = .ok (.iconst 0, 1) := by decide +kernel
theorem dX1_takeFrom_2 : decode cX1_takeFrom 2 = .ok (.iload_n 3, 1) := by decide +kernel
theorem dX1_takeFrom_3 : decode cX1_takeFrom 3 = .ok (.bipush 24, 2) := by decide +kernel
theorem dX1_takeFrom_5 : decode cX1_takeFrom 5 = .ok (.invokestatic 28, 3) := by decide +kernel
theorem dX1_takeFrom_8 : decode cX1_takeFrom 8 = .ok (.invokestatic 34, 3) := by decide +kernel
theorem dX1_takeFrom_11 : decode cX1_takeFrom 11 = .ok (.putfield 37, 3) := by decide +kernel
theorem dX1_takeFrom_14 : decode cX1_takeFrom 14 = .ok (.iconst 0, 1) := by decide +kernel
theorem dX1_takeFrom_15 : decode cX1_takeFrom 15 = .ok (.istore 4, 2) := by decide +kernel
theorem dX1_takeFrom_17 : decode cX1_takeFrom 17 = .ok (.iload 4, 2) := by decide +kernel
theorem dX1_takeFrom_19 : decode cX1_takeFrom 19 = .ok (.aload_n 0, 1) := by decide +kernel
theorem dX1_takeFrom_20 : decode cX1_takeFrom 20 = .ok (.getfield 37, 3) := by decide +kernel
theorem dX1_takeFrom_23 : decode cX1_takeFrom 23 = .ok (.if_icmp .ge 81, 3) := by decide +kernel
theorem dX1_takeFrom_26 : decode cX1_takeFrom 26 = .ok (.aload_n 1, 1) := by decide +kernel
theorem dX1_takeFrom_27 : decode cX1_takeFrom 27 = .ok (.iload 4, 2) := by decide +kernel
theorem dX1_takeFrom_29 : decode cX1_takeFrom 29 = .ok (.invokevirtual 41, 3) := by decide +kernel
theorem dX1_takeFrom_32 : decode cX1_takeFrom 32 = .ok (.lstore 5, 2) := by decide +kernel
theorem dX1_takeFrom_34 : decode cX1_takeFrom 34 = .ok (.aload_n 2, 1) := by decide +kernel
theorem dX1_takeFrom_35 : decode cX1_takeFrom 35 = .ok (.iload 4, 2) := by decide +kernel
theorem dX1_takeFrom_37 : decode cX1_takeFrom 37 = .ok (.invokevirtual 41, 3) := by decide +kernel
theorem dX1_takeFrom_40 : decode cX1_takeFrom 40 = .ok (.lstore 7, 2) := by decide +kernel
theorem dX1_takeFrom_42 : decode cX1_takeFrom 42 = .ok (.lload 5, 2) := by decide +kernel
theorem dX1_takeFrom_44 : decode cX1_takeFrom 44 = .ok (.lconst 0, 1) := by decide +kernel
theorem dX1_takeFrom_45 : decode cX1_takeFrom 45 = .ok (.lcmp, 1) := by decide +kernel
theorem dX1_takeFrom_46 : decode cX1_takeFrom 46 = .ok (.ifCond .lt 30, 3) := by decide +kernel
theorem dX1_takeFrom_49 : decode cX1_takeFrom 49 = .ok (.lload 5, 2) := by decide +kernel
theorem dX1_takeFrom_51 : decode cX1_takeFrom 51 = .ok (.ldc2_w 47, 3) := by decide +kernel
theorem dX1_takeFrom_54 : decode cX1_takeFrom 54 = .ok (.lcmp, 1) := by decide +kernel
theorem dX1_takeFrom_55 : decode cX1_takeFrom 55 = .ok (.ifCond .gt 21, 3) := by decide +kernel
theorem dX1_takeFrom_58 : decode cX1_takeFrom 58 = .ok (.lload 7, 2) := by decide +kernel
theorem dX1_takeFrom_60 : decode cX1_takeFrom 60 = .ok (.ldc2_w 49, 3) := by decide +kernel
theorem dX1_takeFrom_63 : decode cX1_takeFrom 63 = .ok (.lcmp, 1) := by decide +kernel
theorem dX1_takeFrom_64 : decode cX1_takeFrom 64 = .ok (.ifCond .lt 12, 3) := by decide +kernel
theorem dX1_takeFrom_67 : decode cX1_takeFrom 67 = .ok (.lload 7, 2) := by decide +kernel
theorem dX1_takeFrom_69 : decode cX1_takeFrom 69 = .ok (.ldc2_w 51, 3) := by decide +kernel
theorem dX1_takeFrom_72 : decode cX1_takeFrom 72 = .ok (.lcmp, 1) := by decide +kernel
theorem dX1_takeFrom_73 : decode cX1_takeFrom 73 = .ok (.ifCond .le 5, 3) := by decide +kernel
theorem dX1_takeFrom_76 : decode cX1_takeFrom 76 = .ok (.iconst 0, 1) := by decide +kernel
theorem dX1_takeFrom_77 : decode cX1_takeFrom 77 = .ok (.ireturn, 1) := by decide +kernel
theorem dX1_takeFrom_78 : decode cX1_takeFrom 78 = .ok (.aload_n 0, 1) := by decide +kernel
theorem dX1_takeFrom_79 : decode cX1_takeFrom 79 = .ok (.getfield 9, 3) := by decide +kernel
theorem dX1_takeFrom_82 : decode cX1_takeFrom 82 = .ok (.iload 4, 2) := by decide +kernel
theorem dX1_takeFrom_84 : decode cX1_takeFrom 84 = .ok (.lload 5, 2) := by decide +kernel
theorem dX1_takeFrom_86 : decode cX1_takeFrom 86 = .ok (.l2i, 1) := by decide +kernel
theorem dX1_takeFrom_87 : decode cX1_takeFrom 87 = .ok (.iastore, 1) := by decide +kernel
theorem dX1_takeFrom_88 : decode cX1_takeFrom 88 = .ok (.aload_n 0, 1) := by decide +kernel
theorem dX1_takeFrom_89 : decode cX1_takeFrom 89 = .ok (.getfield 15, 3) := by decide +kernel
theorem dX1_takeFrom_92 : decode cX1_takeFrom 92 = .ok (.iload 4, 2) := by decide +kernel
theorem dX1_takeFrom_94 : decode cX1_takeFrom 94 = .ok (.lload 7, 2) := by decide +kernel
theorem dX1_takeFrom_96 : decode cX1_takeFrom 96 = .ok (.l2i, 1) := by decide +kernel
theorem dX1_takeFrom_97 : decode cX1_takeFrom 97 = .ok (.iastore, 1) := by decide +kernel
theorem dX1_takeFrom_98 : decode cX1_takeFrom 98 = .ok (.iinc 4 1, 3) := by decide +kernel
theorem dX1_takeFrom_101 : decode cX1_takeFrom 101 = .ok (.goto (-84), 3) := by decide +kernel
theorem dX1_takeFrom_104 : decode cX1_takeFrom 104 = .ok (.iconst 1, 1) := by decide +kernel
theorem dX1_takeFrom_105 : decode cX1_takeFrom 105 = .ok (.ireturn, 1) := by decide +kernel
noncomputable def f_X1_takeFrom_17 (r0 : Nat) (r1 : Nat) (r2 : Nat) (v4 : Int32) (σ : am_H) : Option ((Int32 × am_H) ⊕ ((am_H) ⊕ (am_H))) :=
  if v4 < (σ.1 1 r0 0) then
   ((f_X8_at r1 v4 σ).bind fun p2 =>
   (f_X8_at r2 v4 σ).bind fun p3 =>
   if p2 < 0 then
    (some (.inr (.inl σ)))
   else
   if 99999 < p2 then
    (some (.inr (.inl σ)))
   else
   if p3 < (-999) then
    (some (.inr (.inl σ)))
   else
   if 1000 < p3 then
    (some (.inr (.inl σ)))
   else
   (am_ix 24 v4).bind fun j8 =>
   (some (am_wI σ 201 r0 j8 (Int64.toInt32 p2))).bind fun s9 =>
   (am_ix 24 v4).bind fun j10 =>
   (some (am_wI s9 202 r0 j10 (Int64.toInt32 p3))).bind fun s11 =>
   some (.inl ((v4 + 1), s11)))
  else
  some (.inr (.inr σ))
set_option maxRecDepth 100000 in
set_option maxHeartbeats 4000000 in
theorem q_X1_takeFrom_17 {X : am_X} (hX : am_wC X) {Q : Option Value → am_H → Prop} (r0 : Nat) (r1 : Nat) (r2 : Nat) (v4 : Int32) (hr0 : r0 < 2) (hr1 : r1 < 5) (hr2 : r2 < 5) (σ : am_H) {o : (Int32 × am_H) ⊕ ((am_H) ⊕ (am_H))} (hf : f_X1_takeFrom_17 r0 r1 r2 v4 σ = some o) (hk0 : ∀ s, o = .inl s → am_G X gm_X1_takeFrom Q 17 [(0, .ref (am_ad X 1 r0)), (1, .ref (am_ad X 8 r1)), (2, .ref (am_ad X 8 r2)), (4, .int s.1)] [] s.2) (hk1 : ∀ t, o = .inr (.inl t) → am_G X gm_X1_takeFrom Q 76 [] [] t) (hk2 : ∀ t, o = .inr (.inr t) → am_G X gm_X1_takeFrom Q 104 [] [] t) : am_G X gm_X1_takeFrom Q 17 [(0, .ref (am_ad X 1 r0)), (1, .ref (am_ad X 8 r1)), (2, .ref (am_ad X 8 r2)), (4, .int v4)] [] σ := by
  unfold f_X1_takeFrom_17 at hf
  refine g_iload (pc := 17) 3 rfl dX1_takeFrom_17 ?_
  refine g_aload_n (pc := 19) 0 rfl dX1_takeFrom_19 rfl ?_
  refine g_getI (pc := 20) (in_1 hX.1 (by omega)) fr_X1_37 dX1_takeFrom_20 ?_
  refine bi_ge (pc := 23) 104 dX1_takeFrom_23 rfl (fun c1 => ?_) (fun c1 => ?_)
  · replace hf := am_ifT c1 hf
    refine g_aload_n (pc := 26) 1 rfl dX1_takeFrom_26 rfl ?_
    refine g_iload (pc := 27) 3 rfl dX1_takeFrom_27 ?_
    obtain ⟨p2, hp2, hf⟩ := am_bd hf
    refine g_cV (pc := 29) (As := [.int v4]) (st := []) (st1 := [.long p2]) (in_8 hX.1 (by omega)) kk_8 mV_X8_at ln_X1_41 rfl (Nat.le_of_ble_eq_true rfl) (Nat.le_of_ble_eq_true rfl) (k_X8_at hX r1 v4 (by omega) σ hp2) dX1_takeFrom_29 rfl rfl ?_
    refine g_lstore (pc := 32) [(5, .long p2), (0, .ref (am_ad X 1 r0)), (1, .ref (am_ad X 8 r1)), (2, .ref (am_ad X 8 r2)), (4, .int v4)] dX1_takeFrom_32 (Nat.le_of_ble_eq_true rfl) rfl ?_
    refine g_aload_n (pc := 34) 3 rfl dX1_takeFrom_34 rfl ?_
    refine g_iload (pc := 35) 4 rfl dX1_takeFrom_35 ?_
    obtain ⟨p3, hp3, hf⟩ := am_bd hf
    refine g_cV (pc := 37) (As := [.int v4]) (st := []) (st1 := [.long p3]) (in_8 hX.1 (by omega)) kk_8 mV_X8_at ln_X1_41 rfl (Nat.le_of_ble_eq_true rfl) (Nat.le_of_ble_eq_true rfl) (k_X8_at hX r2 v4 (by omega) σ hp3) dX1_takeFrom_37 rfl rfl ?_
    refine g_lstore (pc := 40) [(7, .long p3), (5, .long p2), (0, .ref (am_ad X 1 r0)), (1, .ref (am_ad X 8 r1)), (2, .ref (am_ad X 8 r2)), (4, .int v4)] dX1_takeFrom_40 (Nat.le_of_ble_eq_true rfl) rfl ?_
    refine g_lload (pc := 42) 1 rfl dX1_takeFrom_42 ?_
    refine g_lconst (pc := 44) (v := 0) dX1_takeFrom_44 (by decide) ?_
    refine g_lcm (pc := 45) dX1_takeFrom_45 ?_
    refine bl_lt (pc := 46) 76 dX1_takeFrom_46 rfl (fun c4 => ?_) (fun c4 => ?_)
    · replace hf := am_ifT c4 hf
      have hz := hk1 _ (Option.some.inj hf).symm
      exact am_sub [] rfl hz
    replace hf := am_ifF c4 hf
    refine g_lload (pc := 49) 1 rfl dX1_takeFrom_49 ?_
    refine g_ldc2 (pc := 51) (v := 99999) (tb_5 (List.mem_of_getElem? (i := 87) (by decide +kernel))) dX1_takeFrom_51 ?_
    refine g_lcm (pc := 54) dX1_takeFrom_54 ?_
    refine bl_gt (pc := 55) 76 dX1_takeFrom_55 rfl (fun c5 => ?_) (fun c5 => ?_)
    · replace hf := am_ifT c5 hf
      have hz := hk1 _ (Option.some.inj hf).symm
      exact am_sub [] rfl hz
    replace hf := am_ifF c5 hf
    refine g_lload (pc := 58) 0 rfl dX1_takeFrom_58 ?_
    refine g_ldc2 (pc := 60) (v := (-999)) (tb_5 (List.mem_of_getElem? (i := 88) (by decide +kernel))) dX1_takeFrom_60 ?_
    refine g_lcm (pc := 63) dX1_takeFrom_63 ?_
    refine bl_lt (pc := 64) 76 dX1_takeFrom_64 rfl (fun c6 => ?_) (fun c6 => ?_)
    · replace hf := am_ifT c6 hf
      have hz := hk1 _ (Option.some.inj hf).symm
      exact am_sub [] rfl hz
    replace hf := am_ifF c6 hf
    refine g_lload (pc := 67) 0 rfl dX1_takeFrom_67 ?_
    refine g_ldc2 (pc := 69) (v := 1000) (tb_5 (List.mem_of_getElem? (i := 89) (by decide +kernel))) dX1_takeFrom_69 ?_
    refine g_lcm (pc := 72) dX1_takeFrom_72 ?_
    refine bl_le (pc := 73) 78 dX1_takeFrom_73 rfl (fun c7 => ?_) (fun c7 => ?_)
    · replace hf := am_ifT c7 hf
      have hz := hk1 _ (Option.some.inj hf).symm
      exact am_sub [] rfl hz
    replace hf := am_ifF c7 hf
    refine g_aload_n (pc := 78) 2 rfl dX1_takeFrom_78 rfl ?_
    refine g_getC (pc := 79) (e := r0) (in_1 hX.1 (by omega)) fr_X1_9 dX1_takeFrom_79 rfl ?_
    refine g_iload (pc := 82) 5 rfl dX1_takeFrom_82 ?_
    refine g_lload (pc := 84) 1 rfl dX1_takeFrom_84 ?_
    refine g_l2i (pc := 86) dX1_takeFrom_86 ?_
    obtain ⟨j8, hj8, hf⟩ := am_bd hf
    have gj8 := am_ix_lt hj8
    obtain ⟨s9, hs9, hf⟩ := am_bd hf
    refine g_sI (pc := 87) (in_201 hX.1 (by omega)) ak_201 hj8 dX1_takeFrom_87 (Option.some.inj hs9) ?_
    refine g_aload_n (pc := 88) 2 rfl dX1_takeFrom_88 rfl ?_
    refine g_getC (pc := 89) (e := r0) (in_1 hX.1 (by omega)) fr_X1_15 dX1_takeFrom_89 rfl ?_
    refine g_iload (pc := 92) 5 rfl dX1_takeFrom_92 ?_
    refine g_lload (pc := 94) 0 rfl dX1_takeFrom_94 ?_
    refine g_l2i (pc := 96) dX1_takeFrom_96 ?_
    obtain ⟨j10, hj10, hf⟩ := am_bd hf
    have gj10 := am_ix_lt hj10
    obtain ⟨s11, hs11, hf⟩ := am_bd hf
    refine g_sI (pc := 97) (in_202 hX.1 (by omega)) ak_202 hj10 dX1_takeFrom_97 (Option.some.inj hs11) ?_
    refine g_iinc (pc := 98) (v := (v4 + 1)) 5 [(4, .int (v4 + 1)), (7, .long p3), (5, .long p2), (0, .ref (am_ad X 1 r0)), (1, .ref (am_ad X 8 r1)), (2, .ref (am_ad X 8 r2))] dX1_takeFrom_98 rfl rfl (Nat.le_of_ble_eq_true rfl) rfl ?_
    refine g_goto (pc := 101) 17 dX1_takeFrom_101 rfl ?_
    have hz := hk0 _ (Option.some.inj hf).symm
    exact am_sub [3, 4, 5, 0] rfl hz
  replace hf := am_ifF c1 hf
  have hz := hk2 _ (Option.some.inj hf).symm
  exact am_sub [] rfl hz
set_option maxRecDepth 100000 in
set_option maxHeartbeats 4000000 in
theorem l_X1_takeFrom_17 {X : am_X} (hX : am_wC X) {Q : Option Value → am_H → Prop} (r0 : Nat) (r1 : Nat) (r2 : Nat) (hr0 : r0 < 2) (hr1 : r1 < 5) (hr2 : r2 < 5) (σ : am_H) (s : Int32 × am_H) {o : (am_H) ⊕ (am_H)} (hf : am_loop (fun s => f_X1_takeFrom_17 r0 r1 r2 s.1 s.2) s = some o) (hk1 : ∀ t, o = (.inl t) → am_G X gm_X1_takeFrom Q 76 [] [] t) (hk2 : ∀ t, o = (.inr t) → am_G X gm_X1_takeFrom Q 104 [] [] t) : am_G X gm_X1_takeFrom Q 17 [(0, .ref (am_ad X 1 r0)), (1, .ref (am_ad X 8 r1)), (2, .ref (am_ad X 8 r2)), (4, .int s.1)] [] s.2 := by
  refine am_loop_ind (P := fun s => am_G X gm_X1_takeFrom Q 17 [(0, .ref (am_ad X 1 r0)), (1, .ref (am_ad X 8 r1)), (2, .ref (am_ad X 8 r2)), (4, .int s.1)] [] s.2) (K := fun r => r = o) ?_ hf rfl
  intro s o1 hb hi hr
  exact q_X1_takeFrom_17 hX r0 r1 r2 s.1  hr0 hr1 hr2 s.2 hb hi (fun t e => hk1 t (hr _ e).symm) (fun t e => hk2 t (hr _ e).symm)
noncomputable def f_X1_takeFrom (r0 : Nat) (r1 : Nat) (r2 : Nat) (v3 : Int32) (σ : am_H) : Option (Bool × am_H) :=
  (some (am_wI σ 1 r0 0 (am_mx 0 (am_mn v3 24)))).bind fun s1 =>
  (am_loop (fun s => f_X1_takeFrom_17 r0 r1 r2 s.1 s.2) (0, s1)).bind fun w2 =>
  Sum.elim (fun t2_0 =>
   some (false, t2_0)) (fun u2_0 =>
   some (true, u2_0)) w2
set_option maxRecDepth 100000 in
set_option maxHeartbeats 4000000 in
theorem q_X1_takeFrom {X : am_X} (hX : am_wC X) {Q : Option Value → am_H → Prop} (r0 : Nat) (r1 : Nat) (r2 : Nat) (v3 : Int32) (hr0 : r0 < 2) (hr1 : r1 < 5) (hr2 : r2 < 5) (σ : am_H) {o : Bool × am_H} (hf : f_X1_takeFrom r0 r1 r2 v3 σ = some o) (hk : Q (some (.int (am_b o.1))) o.2) : am_G X gm_X1_takeFrom Q 0 [(0, .ref (am_ad X 1 r0)), (1, .ref (am_ad X 8 r1)), (2, .ref (am_ad X 8 r2)), (3, .int v3)] [] σ := by
  unfold f_X1_takeFrom at hf
  refine g_aload_n (pc := 0) 0 rfl dX1_takeFrom_0 rfl ?_
  refine g_iconst (pc := 1) (v := 0) dX1_takeFrom_1 (by decide) ?_
  refine g_iload_n (pc := 2) 3 rfl dX1_takeFrom_2 rfl ?_
  refine g_bipush (pc := 3) (v := 24) dX1_takeFrom_3 (by decide) ?_
  refine g_mmin (pc := 5) (Nat.le_of_ble_eq_true rfl) (Nat.le_of_ble_eq_true rfl) sp_X1_28 dX1_takeFrom_5 ?_
  refine g_mmax (pc := 8) (Nat.le_of_ble_eq_true rfl) (Nat.le_of_ble_eq_true rfl) sp_X1_34 dX1_takeFrom_8 ?_
  obtain ⟨s1, hs1, hf⟩ := am_bd hf
  refine g_setI (pc := 11) (in_1 hX.1 (by omega)) fr_X1_37 dX1_takeFrom_11 (Option.some.inj hs1) ?_
  refine g_iconst (pc := 14) (v := 0) dX1_takeFrom_14 (by decide) ?_
  refine g_istore (pc := 15) [(4, .int 0), (0, .ref (am_ad X 1 r0)), (1, .ref (am_ad X 8 r1)), (2, .ref (am_ad X 8 r2)), (3, .int v3)] dX1_takeFrom_15 (Nat.le_of_ble_eq_true rfl) rfl ?_
  obtain ⟨w2, hw2, hf⟩ := am_bd hf
  refine am_sub [1, 2, 3, 0] rfl (l_X1_takeFrom_17 hX r0 r1 r2 (by omega) (by omega) (by omega) s1 (0, s1) hw2 ?_ ?_)
  · intro t2_0 e
    subst e
    replace hf := am_elL hf
    refine g_iconst (pc := 76) (v := 0) dX1_takeFrom_76 (by decide) ?_
    have ho := Option.some.inj hf
    subst ho
    exact g_zreturn (pc := 77) (st := []) (x := false) rfl dX1_takeFrom_77 hk
  · intro u2_0 e
    subst e
    replace hf := am_elR hf
    refine g_iconst (pc := 104) (v := 1) dX1_takeFrom_104 (by decide) ?_
    have ho := Option.some.inj hf
    subst ho
    exact g_zreturn (pc := 105) (st := []) (x := true) rfl dX1_takeFrom_105 hk
theorem k_X1_takeFrom {X : am_X} (hX : am_wC X) (r0 : Nat) (r1 : Nat) (r2 : Nat) (v3 : Int32) (hr0 : r0 < 2) (hr1 : r1 < 5) (hr2 : r2 < 5) (σ : am_H) {o : Bool × am_H} (hf : f_X1_takeFrom r0 r1 r2 v3 σ = some o) : am_C X gm_X1_takeFrom [.ref (am_ad X 1 r0), .ref (am_ad X 8 r1), .ref (am_ad X 8 r2), .int v3] σ (am_is (some (.int (am_b o.1))) o.2) :=
  am_ofG rfl (Nat.le_of_ble_eq_true rfl) rfl (q_X1_takeFrom hX r0 r1 r2 v3 hr0 hr1 hr2 σ hf ⟨rfl, rfl⟩)
theorem dX1_addReading_0 : decode cX1_addReading 0 = .ok (.aload_n 2, 1) := by decide +kernel
theorem dX1_addReading_1 : decode cX1_addReading 1 = .ok (.aload_n 0, 1) := by decide +kernel
theorem dX1_addReading_2 : decode cX1_addReading 2 = .ok (.getfield 9, 3) := by decide +kernel
theorem dX1_addReading_5 : decode cX1_addReading 5 = .ok (.iload_n 1, 1) := by decide +kernel
theorem dX1_addReading_6 : decode cX1_addReading 6 = .ok (.iaload, 1) := by decide +kernel
theorem dX1_addReading_7 : decode cX1_addReading 7 = .ok (.i2l, 1) := by decide +kernel
theorem dX1_addReading_8 : decode cX1_addReading 8 = .ok (.invokevirtual 76, 3) := by decide +kernel
theorem dX1_addReading_11 : decode cX1_addReading 11 = .ok (.lstore 4, 2) := by decide +kernel
theorem dX1_addReading_13 : decode cX1_addReading 13 = .ok (.aload_n 3, 1) := by decide +kernel
theorem dX1_addReading_14 : decode cX1_addReading 14 = .ok (.aload_n 0, 1) := by decide +kernel
theorem dX1_addReading_15 : decode cX1_addReading 15 = .ok (.getfield 9, 3) := by decide +kernel
theorem dX1_addReading_18 : decode cX1_addReading 18 = .ok (.iload_n 1, 1) := by decide +kernel
theorem dX1_addReading_19 : decode cX1_addReading 19 = .ok (.iaload, 1) := by decide +kernel
theorem dX1_addReading_20 : decode cX1_addReading 20 = .ok (.i2l, 1) := by decide +kernel
theorem dX1_addReading_21 : decode cX1_addReading 21 = .ok (.invokevirtual 76, 3) := by decide +kernel
theorem dX1_addReading_24 : decode cX1_addReading 24 = .ok (.lstore 6, 2) := by decide +kernel
theorem dX1_addReading_26 : decode cX1_addReading 26 = .ok (.aload_n 0, 1) := by decide +kernel
theorem dX1_addReading_27 : decode cX1_addReading 27 = .ok (.getfield 18, 3) := by decide +kernel
theorem dX1_addReading_30 : decode cX1_addReading 30 = .ok (.iconst 0, 1) := by decide +kernel
theorem dX1_addReading_31 : decode cX1_addReading 31 = .ok (.lconst 1, 1) := by decide +kernel
theorem dX1_addReading_32 : decode cX1_addReading 32 = .ok (.lastore, 1) := by decide +kernel
theorem dX1_addReading_33 : decode cX1_addReading 33 = .ok (.aload_n 0, 1) := by decide +kernel
theorem dX1_addReading_34 : decode cX1_addReading 34 = .ok (.getfield 18, 3) := by decide +kernel
theorem dX1_addReading_37 : decode cX1_addReading 37 = .ok (.iconst 1, 1) := by decide +kernel
theorem dX1_addReading_38 : decode cX1_addReading 38 = .ok (.lload 4, 2) := by decide +kernel
theorem dX1_addReading_40 : decode cX1_addReading 40 = .ok (.invokestatic 82, 3) := by decide +kernel
theorem dX1_addReading_43 : decode cX1_addReading 43 = .ok (.i2l, 1) := by decide +kernel
theorem dX1_addReading_44 : decode cX1_addReading 44 = .ok (.lastore, 1) := by decide +kernel
theorem dX1_addReading_45 : decode cX1_addReading 45 = .ok (.aload_n 0, 1) := by decide +kernel
theorem dX1_addReading_46 : decode cX1_addReading 46 = .ok (.getfield 18, 3) := by decide +kernel
theorem dX1_addReading_49 : decode cX1_addReading 49 = .ok (.iconst 2, 1) := by decide +kernel
theorem dX1_addReading_50 : decode cX1_addReading 50 = .ok (.lload 4, 2) := by decide +kernel
theorem dX1_addReading_52 : decode cX1_addReading 52 = .ok (.ldc2_w 86, 3) := by decide +kernel
theorem dX1_addReading_55 : decode cX1_addReading 55 = .ok (.lsub, 1) := by decide +kernel
theorem dX1_addReading_56 : decode cX1_addReading 56 = .ok (.invokestatic 82, 3) := by decide +kernel
theorem dX1_addReading_59 : decode cX1_addReading 59 = .ok (.i2l, 1) := by decide +kernel
theorem dX1_addReading_60 : decode cX1_addReading 60 = .ok (.lastore, 1) := by decide +kernel
theorem dX1_addReading_61 : decode cX1_addReading 61 = .ok (.aload_n 0, 1) := by decide +kernel
theorem dX1_addReading_62 : decode cX1_addReading 62 = .ok (.getfield 18, 3) := by decide +kernel
theorem dX1_addReading_65 : decode cX1_addReading 65 = .ok (.iconst 3, 1) := by decide +kernel
theorem dX1_addReading_66 : decode cX1_addReading 66 = .ok (.lload 6, 2) := by decide +kernel
theorem dX1_addReading_68 : decode cX1_addReading 68 = .ok (.invokestatic 82, 3) := by decide +kernel
theorem dX1_addReading_71 : decode cX1_addReading 71 = .ok (.i2l, 1) := by decide +kernel
theorem dX1_addReading_72 : decode cX1_addReading 72 = .ok (.lastore, 1) := by decide +kernel
theorem dX1_addReading_73 : decode cX1_addReading 73 = .ok (.aload_n 0, 1) := by decide +kernel
theorem dX1_addReading_74 : decode cX1_addReading 74 = .ok (.getfield 18, 3) := by decide +kernel
theorem dX1_addReading_77 : decode cX1_addReading 77 = .ok (.iconst 4, 1) := by decide +kernel
theorem dX1_addReading_78 : decode cX1_addReading 78 = .ok (.lload 6, 2) := by decide +kernel
theorem dX1_addReading_80 : decode cX1_addReading 80 = .ok (.ldc2_w 86, 3) := by decide +kernel
theorem dX1_addReading_83 : decode cX1_addReading 83 = .ok (.lsub, 1) := by decide +kernel
theorem dX1_addReading_84 : decode cX1_addReading 84 = .ok (.invokestatic 82, 3) := by decide +kernel
theorem dX1_addReading_87 : decode cX1_addReading 87 = .ok (.i2l, 1) := by decide +kernel
theorem dX1_addReading_88 : decode cX1_addReading 88 = .ok (.lastore, 1) := by decide +kernel
theorem dX1_addReading_89 : decode cX1_addReading 89 = .ok (.iconst 0, 1) := by decide +kernel
theorem dX1_addReading_90 : decode cX1_addReading 90 = .ok (.istore 8, 2) := by decide +kernel
theorem dX1_addReading_92 : decode cX1_addReading 92 = .ok (.iload 8, 2) := by decide +kernel
theorem dX1_addReading_94 : decode cX1_addReading 94 = .ok (.iconst 5, 1) := by decide +kernel
theorem dX1_addReading_95 : decode cX1_addReading 95 = .ok (.if_icmp .ge 79, 3) := by decide +kernel
theorem dX1_addReading_98 : decode cX1_addReading 98 = .ok (.aload_n 0, 1) := by decide +kernel
theorem dX1_addReading_99 : decode cX1_addReading 99 = .ok (.getfield 25, 3) := by decide +kernel
theorem dX1_addReading_102 : decode cX1_addReading 102 = .ok (.iload 8, 2) := by decide +kernel
theorem dX1_addReading_104 : decode cX1_addReading 104 = .ok (.dup2, 1) := by decide +kernel
theorem dX1_addReading_105 : decode cX1_addReading 105 = .ok (.laload, 1) := by decide +kernel
theorem dX1_addReading_106 : decode cX1_addReading 106 = .ok (.aload_n 0, 1) := by decide +kernel
theorem dX1_addReading_107 : decode cX1_addReading 107 = .ok (.getfield 18, 3) := by decide +kernel
theorem dX1_addReading_110 : decode cX1_addReading 110 = .ok (.iload 8, 2) := by decide +kernel
theorem dX1_addReading_112 : decode cX1_addReading 112 = .ok (.laload, 1) := by decide +kernel
theorem dX1_addReading_113 : decode cX1_addReading 113 = .ok (.aload_n 0, 1) := by decide +kernel
theorem dX1_addReading_114 : decode cX1_addReading 114 = .ok (.getfield 15, 3) := by decide +kernel
theorem dX1_addReading_117 : decode cX1_addReading 117 = .ok (.iload_n 1, 1) := by decide +kernel
theorem dX1_addReading_118 : decode cX1_addReading 118 = .ok (.iaload, 1) := by decide +kernel
theorem dX1_addReading_119 : decode cX1_addReading 119 = .ok (.i2l, 1) := by decide +kernel
theorem dX1_addReading_120 : decode cX1_addReading 120 = .ok (.lmul, 1) := by decide +kernel
theorem dX1_addReading_121 : decode cX1_addReading 121 = .ok (.ladd, 1) := by decide +kernel
theorem dX1_addReading_122 : decode cX1_addReading 122 = .ok (.lastore, 1) := by decide +kernel
theorem dX1_addReading_123 : decode cX1_addReading 123 = .ok (.iconst 0, 1) := by decide +kernel
theorem dX1_addReading_124 : decode cX1_addReading 124 = .ok (.istore 9, 2) := by decide +kernel
theorem dX1_addReading_126 : decode cX1_addReading 126 = .ok (.iload 9, 2) := by decide +kernel
theorem dX1_addReading_128 : decode cX1_addReading 128 = .ok (.iconst 5, 1) := by decide +kernel
theorem dX1_addReading_129 : decode cX1_addReading 129 = .ok (.if_icmp .ge 39, 3) := by decide +kernel
theorem dX1_addReading_132 : decode cX1_addReading 132 = .ok (.aload_n 0, 1) := by decide +kernel
theorem dX1_addReading_133 : decode cX1_addReading 133 = .ok (.getfield 22, 3) := by decide +kernel
theorem dX1_addReading_136 : decode cX1_addReading 136 = .ok (.iload 8, 2) := by decide +kernel
theorem dX1_addReading_138 : decode cX1_addReading 138 = .ok (.iconst 5, 1) := by decide +kernel
theorem dX1_addReading_139 : decode cX1_addReading 139 = .ok (.imul, 1) := by decide +kernel
theorem dX1_addReading_140 : decode cX1_addReading 140 = .ok (.iload 9, 2) := by decide +kernel
theorem dX1_addReading_142 : decode cX1_addReading 142 = .ok (.iadd, 1) := by decide +kernel
theorem dX1_addReading_143 : decode cX1_addReading 143 = .ok (.dup2, 1) := by decide +kernel
theorem dX1_addReading_144 : decode cX1_addReading 144 = .ok (.laload, 1) := by decide +kernel
theorem dX1_addReading_145 : decode cX1_addReading 145 = .ok (.aload_n 0, 1) := by decide +kernel
theorem dX1_addReading_146 : decode cX1_addReading 146 = .ok (.getfield 18, 3) := by decide +kernel
theorem dX1_addReading_149 : decode cX1_addReading 149 = .ok (.iload 8, 2) := by decide +kernel
theorem dX1_addReading_151 : decode cX1_addReading 151 = .ok (.laload, 1) := by decide +kernel
theorem dX1_addReading_152 : decode cX1_addReading 152 = .ok (.aload_n 0, 1) := by decide +kernel
theorem dX1_addReading_153 : decode cX1_addReading 153 = .ok (.getfield 18, 3) := by decide +kernel
theorem dX1_addReading_156 : decode cX1_addReading 156 = .ok (.iload 9, 2) := by decide +kernel
theorem dX1_addReading_158 : decode cX1_addReading 158 = .ok (.laload, 1) := by decide +kernel
theorem dX1_addReading_159 : decode cX1_addReading 159 = .ok (.lmul, 1) := by decide +kernel
theorem dX1_addReading_160 : decode cX1_addReading 160 = .ok (.ladd, 1) := by decide +kernel
theorem dX1_addReading_161 : decode cX1_addReading 161 = .ok (.lastore, 1) := by decide +kernel
theorem dX1_addReading_162 : decode cX1_addReading 162 = .ok (.iinc 9 1, 3) := by decide +kernel
theorem dX1_addReading_165 : decode cX1_addReading 165 = .ok (.goto (-39), 3) := by decide +kernel
theorem dX1_addReading_168 : decode cX1_addReading 168 = .ok (.iinc 8 1, 3) := by decide +kernel
theorem dX1_addReading_171 : decode cX1_addReading 171 = .ok (.goto (-79), 3) := by decide +kernel
theorem dX1_addReading_174 : decode cX1_addReading 174 = .ok (.return_, 1) := by decide +kernel
noncomputable def f_X1_addReading_126 (r0 : Nat) (v1 : Int32) (v8 : Int32) (v9 : Int32) (σ : am_H) : Option ((Int32 × am_H) ⊕ (am_H)) :=
  if v9 < 5 then
   ((am_ix 25 ((v8 * 5) + v9)).bind fun j2 =>
   (am_ix 5 v8).bind fun j3 =>
   (am_ix 5 v9).bind fun j4 =>
   (am_ix 25 ((v8 * 5) + v9)).bind fun j5 =>
   (some (am_wL σ 205 r0 j5 ((σ.2.1 205 r0 j2) + ((σ.2.1 204 r0 j3) * (σ.2.1 204 r0 j4))))).bind fun s6 =>
   some (.inl ((v9 + 1), s6)))
  else
  some (.inr σ)
set_option maxRecDepth 100000 in
set_option maxHeartbeats 4000000 in
theorem q_X1_addReading_126 {X : am_X} (hX : am_wC X) {Q : Option Value → am_H → Prop} (r0 : Nat) (v1 : Int32) (v8 : Int32) (v9 : Int32) (hr0 : r0 < 2) (σ : am_H) {o : (Int32 × am_H) ⊕ (am_H)} (hf : f_X1_addReading_126 r0 v1 v8 v9 σ = some o) (hk0 : ∀ s, o = .inl s → am_G X gm_X1_addReading Q 126 [(0, .ref (am_ad X 1 r0)), (1, .int v1), (8, .int v8), (9, .int s.1)] [] s.2) (hk1 : ∀ t, o = .inr t → am_G X gm_X1_addReading Q 168 [(0, .ref (am_ad X 1 r0)), (1, .int v1), (8, .int v8)] [] t) : am_G X gm_X1_addReading Q 126 [(0, .ref (am_ad X 1 r0)), (1, .int v1), (8, .int v8), (9, .int v9)] [] σ := by
  unfold f_X1_addReading_126 at hf
  refine g_iload (pc := 126) 3 rfl dX1_addReading_126 ?_
  refine g_iconst (pc := 128) (v := 5) dX1_addReading_128 (by decide) ?_
  refine bi_ge (pc := 129) 168 dX1_addReading_129 rfl (fun c1 => ?_) (fun c1 => ?_)
  · replace hf := am_ifT c1 hf
    refine g_aload_n (pc := 132) 0 rfl dX1_addReading_132 rfl ?_
    refine g_getC (pc := 133) (e := r0) (in_1 hX.1 (by omega)) fr_X1_22 dX1_addReading_133 rfl ?_
    refine g_iload (pc := 136) 2 rfl dX1_addReading_136 ?_
    refine g_iconst (pc := 138) (v := 5) dX1_addReading_138 (by decide) ?_
    refine g_imul (pc := 139) dX1_addReading_139 ?_
    refine g_iload (pc := 140) 3 rfl dX1_addReading_140 ?_
    refine g_iadd (pc := 142) dX1_addReading_142 ?_
    refine g_dup2_11 (pc := 143) dX1_addReading_143 rfl rfl ?_
    obtain ⟨j2, hj2, hf⟩ := am_bd hf
    have gj2 := am_ix_lt hj2
    refine g_aJ (pc := 144) (in_205 hX.1 (by omega)) ak_205 hj2 dX1_addReading_144 ?_
    refine g_aload_n (pc := 145) 0 rfl dX1_addReading_145 rfl ?_
    refine g_getC (pc := 146) (e := r0) (in_1 hX.1 (by omega)) fr_X1_18 dX1_addReading_146 rfl ?_
    refine g_iload (pc := 149) 2 rfl dX1_addReading_149 ?_
    obtain ⟨j3, hj3, hf⟩ := am_bd hf
    have gj3 := am_ix_lt hj3
    refine g_aJ (pc := 151) (in_204 hX.1 (by omega)) ak_204 hj3 dX1_addReading_151 ?_
    refine g_aload_n (pc := 152) 0 rfl dX1_addReading_152 rfl ?_
    refine g_getC (pc := 153) (e := r0) (in_1 hX.1 (by omega)) fr_X1_18 dX1_addReading_153 rfl ?_
    refine g_iload (pc := 156) 3 rfl dX1_addReading_156 ?_
    obtain ⟨j4, hj4, hf⟩ := am_bd hf
    have gj4 := am_ix_lt hj4
    refine g_aJ (pc := 158) (in_204 hX.1 (by omega)) ak_204 hj4 dX1_addReading_158 ?_
    refine g_lmul (pc := 159) dX1_addReading_159 ?_
    refine g_ladd (pc := 160) dX1_addReading_160 ?_
    obtain ⟨j5, hj5, hf⟩ := am_bd hf
    have gj5 := am_ix_lt hj5
    obtain ⟨s6, hs6, hf⟩ := am_bd hf
    refine g_sJ (pc := 161) (in_205 hX.1 (by omega)) ak_205 hj5 dX1_addReading_161 (Option.some.inj hs6) ?_
    refine g_iinc (pc := 162) (v := (v9 + 1)) 3 [(9, .int (v9 + 1)), (0, .ref (am_ad X 1 r0)), (1, .int v1), (8, .int v8)] dX1_addReading_162 rfl rfl (Nat.le_of_ble_eq_true rfl) rfl ?_
    refine g_goto (pc := 165) 126 dX1_addReading_165 rfl ?_
    have hz := hk0 _ (Option.some.inj hf).symm
    exact am_sub [1, 2, 3, 0] rfl hz
  replace hf := am_ifF c1 hf
  have hz := hk1 _ (Option.some.inj hf).symm
  exact am_sub [0, 1, 2] rfl hz
set_option maxRecDepth 100000 in
set_option maxHeartbeats 4000000 in
theorem l_X1_addReading_126 {X : am_X} (hX : am_wC X) {Q : Option Value → am_H → Prop} (r0 : Nat) (v1 : Int32) (v8 : Int32) (hr0 : r0 < 2) (σ : am_H) (s : Int32 × am_H) {o : am_H} (hf : am_loop (fun s => f_X1_addReading_126 r0 v1 v8 s.1 s.2) s = some o) (hk1 : ∀ t, o = t → am_G X gm_X1_addReading Q 168 [(0, .ref (am_ad X 1 r0)), (1, .int v1), (8, .int v8)] [] t) : am_G X gm_X1_addReading Q 126 [(0, .ref (am_ad X 1 r0)), (1, .int v1), (8, .int v8), (9, .int s.1)] [] s.2 := by
  refine am_loop_ind (P := fun s => am_G X gm_X1_addReading Q 126 [(0, .ref (am_ad X 1 r0)), (1, .int v1), (8, .int v8), (9, .int s.1)] [] s.2) (K := fun r => r = o) ?_ hf rfl
  intro s o1 hb hi hr
  exact q_X1_addReading_126 hX r0 v1 v8 s.1  hr0 s.2 hb hi (fun t e => hk1 t (hr _ e).symm)
noncomputable def f_X1_addReading_92 (r0 : Nat) (v1 : Int32) (v8 : Int32) (σ : am_H) : Option ((Int32 × am_H) ⊕ (am_H)) :=
  if v8 < 5 then
   ((am_ix 5 v8).bind fun j2 =>
   (am_ix 5 v8).bind fun j3 =>
   (am_ix 24 v1).bind fun j4 =>
   (am_ix 5 v8).bind fun j5 =>
   (some (am_wL σ 206 r0 j5 ((σ.2.1 206 r0 j2) + ((σ.2.1 204 r0 j3) * (Int32.toInt64 (σ.1 202 r0 j4)))))).bind fun s6 =>
   (am_loop (fun s => f_X1_addReading_126 r0 v1 v8 s.1 s.2) (0, s6)).bind fun w7 =>
   some (.inl ((v8 + 1), w7)))
  else
  some (.inr σ)
set_option maxRecDepth 100000 in
set_option maxHeartbeats 4000000 in
theorem q_X1_addReading_92 {X : am_X} (hX : am_wC X) {Q : Option Value → am_H → Prop} (r0 : Nat) (v1 : Int32) (v8 : Int32) (hr0 : r0 < 2) (σ : am_H) {o : (Int32 × am_H) ⊕ (am_H)} (hf : f_X1_addReading_92 r0 v1 v8 σ = some o) (hk0 : ∀ s, o = .inl s → am_G X gm_X1_addReading Q 92 [(0, .ref (am_ad X 1 r0)), (1, .int v1), (8, .int s.1)] [] s.2) (hk1 : ∀ t, o = .inr t → am_G X gm_X1_addReading Q 174 [] [] t) : am_G X gm_X1_addReading Q 92 [(0, .ref (am_ad X 1 r0)), (1, .int v1), (8, .int v8)] [] σ := by
  unfold f_X1_addReading_92 at hf
  refine g_iload (pc := 92) 2 rfl dX1_addReading_92 ?_
  refine g_iconst (pc := 94) (v := 5) dX1_addReading_94 (by decide) ?_
  refine bi_ge (pc := 95) 174 dX1_addReading_95 rfl (fun c1 => ?_) (fun c1 => ?_)
  · replace hf := am_ifT c1 hf
    refine g_aload_n (pc := 98) 0 rfl dX1_addReading_98 rfl ?_
    refine g_getC (pc := 99) (e := r0) (in_1 hX.1 (by omega)) fr_X1_25 dX1_addReading_99 rfl ?_
    refine g_iload (pc := 102) 2 rfl dX1_addReading_102 ?_
    refine g_dup2_11 (pc := 104) dX1_addReading_104 rfl rfl ?_
    obtain ⟨j2, hj2, hf⟩ := am_bd hf
    have gj2 := am_ix_lt hj2
    refine g_aJ (pc := 105) (in_206 hX.1 (by omega)) ak_206 hj2 dX1_addReading_105 ?_
    refine g_aload_n (pc := 106) 0 rfl dX1_addReading_106 rfl ?_
    refine g_getC (pc := 107) (e := r0) (in_1 hX.1 (by omega)) fr_X1_18 dX1_addReading_107 rfl ?_
    refine g_iload (pc := 110) 2 rfl dX1_addReading_110 ?_
    obtain ⟨j3, hj3, hf⟩ := am_bd hf
    have gj3 := am_ix_lt hj3
    refine g_aJ (pc := 112) (in_204 hX.1 (by omega)) ak_204 hj3 dX1_addReading_112 ?_
    refine g_aload_n (pc := 113) 0 rfl dX1_addReading_113 rfl ?_
    refine g_getC (pc := 114) (e := r0) (in_1 hX.1 (by omega)) fr_X1_15 dX1_addReading_114 rfl ?_
    refine g_iload_n (pc := 117) 1 rfl dX1_addReading_117 rfl ?_
    obtain ⟨j4, hj4, hf⟩ := am_bd hf
    have gj4 := am_ix_lt hj4
    refine g_aI (pc := 118) (in_202 hX.1 (by omega)) ak_202 hj4 dX1_addReading_118 ?_
    refine g_i2l (pc := 119) dX1_addReading_119 ?_
    refine g_lmul (pc := 120) dX1_addReading_120 ?_
    refine g_ladd (pc := 121) dX1_addReading_121 ?_
    obtain ⟨j5, hj5, hf⟩ := am_bd hf
    have gj5 := am_ix_lt hj5
    obtain ⟨s6, hs6, hf⟩ := am_bd hf
    refine g_sJ (pc := 122) (in_206 hX.1 (by omega)) ak_206 hj5 dX1_addReading_122 (Option.some.inj hs6) ?_
    refine g_iconst (pc := 123) (v := 0) dX1_addReading_123 (by decide) ?_
    refine g_istore (pc := 124) [(9, .int 0), (0, .ref (am_ad X 1 r0)), (1, .int v1), (8, .int v8)] dX1_addReading_124 (Nat.le_of_ble_eq_true rfl) rfl ?_
    obtain ⟨w7, hw7, hf⟩ := am_bd hf
    refine am_sub [1, 2, 3, 0] rfl (l_X1_addReading_126 hX r0 v1 v8 (by omega) s6 (0, s6) hw7 ?_)
    intro t e
    subst e
    refine g_iinc (pc := 168) (v := (v8 + 1)) 2 [(8, .int (v8 + 1)), (0, .ref (am_ad X 1 r0)), (1, .int v1)] dX1_addReading_168 rfl rfl (Nat.le_of_ble_eq_true rfl) rfl ?_
    refine g_goto (pc := 171) 92 dX1_addReading_171 rfl ?_
    have hz := hk0 _ (Option.some.inj hf).symm
    exact am_sub [1, 2, 0] rfl hz
  replace hf := am_ifF c1 hf
  have hz := hk1 _ (Option.some.inj hf).symm
  exact am_sub [] rfl hz
set_option maxRecDepth 100000 in
set_option maxHeartbeats 4000000 in
theorem l_X1_addReading_92 {X : am_X} (hX : am_wC X) {Q : Option Value → am_H → Prop} (r0 : Nat) (v1 : Int32) (hr0 : r0 < 2) (σ : am_H) (s : Int32 × am_H) {o : am_H} (hf : am_loop (fun s => f_X1_addReading_92 r0 v1 s.1 s.2) s = some o) (hk1 : ∀ t, o = t → am_G X gm_X1_addReading Q 174 [] [] t) : am_G X gm_X1_addReading Q 92 [(0, .ref (am_ad X 1 r0)), (1, .int v1), (8, .int s.1)] [] s.2 := by
  refine am_loop_ind (P := fun s => am_G X gm_X1_addReading Q 92 [(0, .ref (am_ad X 1 r0)), (1, .int v1), (8, .int s.1)] [] s.2) (K := fun r => r = o) ?_ hf rfl
  intro s o1 hb hi hr
  exact q_X1_addReading_92 hX r0 v1 s.1  hr0 s.2 hb hi (fun t e => hk1 t (hr _ e).symm)
noncomputable def f_X1_addReading (r0 : Nat) (v1 : Int32) (r2 : Nat) (r3 : Nat) (σ : am_H) : Option (am_H) :=
  (am_ix 24 v1).bind fun j1 =>
  (f_X10_trueGone r2 (Int32.toInt64 (σ.1 201 r0 j1)) σ).bind fun p2 =>
  (am_ix 24 v1).bind fun j3 =>
  (f_X10_trueGone r3 (Int32.toInt64 (σ.1 201 r0 j3)) σ).bind fun p4 =>
  (am_ix 5 0).bind fun j5 =>
  (some (am_wL σ 204 r0 j5 1)).bind fun s6 =>
  (f_X11_cosOf p2 s6).bind fun p7 =>
  (am_ix 5 1).bind fun j8 =>
  (some (am_wL s6 204 r0 j8 (Int32.toInt64 p7))).bind fun s9 =>
  (f_X11_cosOf (p2 - 6) s9).bind fun p10 =>
  (am_ix 5 2).bind fun j11 =>
  (some (am_wL s9 204 r0 j11 (Int32.toInt64 p10))).bind fun s12 =>
  (f_X11_cosOf p4 s12).bind fun p13 =>
  (am_ix 5 3).bind fun j14 =>
  (some (am_wL s12 204 r0 j14 (Int32.toInt64 p13))).bind fun s15 =>
  (f_X11_cosOf (p4 - 6) s15).bind fun p16 =>
  (am_ix 5 4).bind fun j17 =>
  (some (am_wL s15 204 r0 j17 (Int32.toInt64 p16))).bind fun s18 =>
  (am_loop (fun s => f_X1_addReading_92 r0 v1 s.1 s.2) (0, s18)).bind fun w19 =>
  some w19
set_option maxRecDepth 100000 in
set_option maxHeartbeats 4000000 in
theorem q_X1_addReading {X : am_X} (hX : am_wC X) {Q : Option Value → am_H → Prop} (r0 : Nat) (v1 : Int32) (r2 : Nat) (r3 : Nat) (hr0 : r0 < 2) (hr2 : r2 < 18) (hr3 : r3 < 18) (σ : am_H) {o : am_H} (hf : f_X1_addReading r0 v1 r2 r3 σ = some o) (hk : Q none o) : am_G X gm_X1_addReading Q 0 [(0, .ref (am_ad X 1 r0)), (1, .int v1), (2, .ref (am_ad X 10 r2)), (3, .ref (am_ad X 10 r3))] [] σ := by
  unfold f_X1_addReading at hf
  refine g_aload_n (pc := 0) 2 rfl dX1_addReading_0 rfl ?_
  refine g_aload_n (pc := 1) 0 rfl dX1_addReading_1 rfl ?_
  refine g_getC (pc := 2) (e := r0) (in_1 hX.1 (by omega)) fr_X1_9 dX1_addReading_2 rfl ?_
  refine g_iload_n (pc := 5) 1 rfl dX1_addReading_5 rfl ?_
  obtain ⟨j1, hj1, hf⟩ := am_bd hf
  have gj1 := am_ix_lt hj1
  refine g_aI (pc := 6) (in_201 hX.1 (by omega)) ak_201 hj1 dX1_addReading_6 ?_
  refine g_i2l (pc := 7) dX1_addReading_7 ?_
  obtain ⟨p2, hp2, hf⟩ := am_bd hf
  refine g_cV (pc := 8) (As := [.long (Int32.toInt64 (σ.1 201 r0 j1))]) (st := []) (st1 := [.long p2]) (in_10 hX.1 (by omega)) kk_10 mV_X10_trueGone ln_X1_76 rfl (Nat.le_of_ble_eq_true rfl) (Nat.le_of_ble_eq_true rfl) (k_X10_trueGone hX r2 (Int32.toInt64 (σ.1 201 r0 j1)) (by omega) σ hp2) dX1_addReading_8 rfl rfl ?_
  refine g_lstore (pc := 11) [(4, .long p2), (0, .ref (am_ad X 1 r0)), (1, .int v1), (2, .ref (am_ad X 10 r2)), (3, .ref (am_ad X 10 r3))] dX1_addReading_11 (Nat.le_of_ble_eq_true rfl) rfl ?_
  refine g_aload_n (pc := 13) 4 rfl dX1_addReading_13 rfl ?_
  refine g_aload_n (pc := 14) 1 rfl dX1_addReading_14 rfl ?_
  refine g_getC (pc := 15) (e := r0) (in_1 hX.1 (by omega)) fr_X1_9 dX1_addReading_15 rfl ?_
  refine g_iload_n (pc := 18) 2 rfl dX1_addReading_18 rfl ?_
  obtain ⟨j3, hj3, hf⟩ := am_bd hf
  have gj3 := am_ix_lt hj3
  refine g_aI (pc := 19) (in_201 hX.1 (by omega)) ak_201 hj3 dX1_addReading_19 ?_
  refine g_i2l (pc := 20) dX1_addReading_20 ?_
  obtain ⟨p4, hp4, hf⟩ := am_bd hf
  refine g_cV (pc := 21) (As := [.long (Int32.toInt64 (σ.1 201 r0 j3))]) (st := []) (st1 := [.long p4]) (in_10 hX.1 (by omega)) kk_10 mV_X10_trueGone ln_X1_76 rfl (Nat.le_of_ble_eq_true rfl) (Nat.le_of_ble_eq_true rfl) (k_X10_trueGone hX r3 (Int32.toInt64 (σ.1 201 r0 j3)) (by omega) σ hp4) dX1_addReading_21 rfl rfl ?_
  refine g_lstore (pc := 24) [(6, .long p4), (4, .long p2), (0, .ref (am_ad X 1 r0)), (1, .int v1), (2, .ref (am_ad X 10 r2)), (3, .ref (am_ad X 10 r3))] dX1_addReading_24 (Nat.le_of_ble_eq_true rfl) rfl ?_
  refine g_aload_n (pc := 26) 2 rfl dX1_addReading_26 rfl ?_
  refine g_getC (pc := 27) (e := r0) (in_1 hX.1 (by omega)) fr_X1_18 dX1_addReading_27 rfl ?_
  refine g_iconst (pc := 30) (v := 0) dX1_addReading_30 (by decide) ?_
  refine g_lconst (pc := 31) (v := 1) dX1_addReading_31 (by decide) ?_
  obtain ⟨j5, hj5, hf⟩ := am_bd hf
  have gj5 := am_ix_lt hj5
  obtain ⟨s6, hs6, hf⟩ := am_bd hf
  refine g_sJ (pc := 32) (in_204 hX.1 (by omega)) ak_204 hj5 dX1_addReading_32 (Option.some.inj hs6) ?_
  refine g_aload_n (pc := 33) 2 rfl dX1_addReading_33 rfl ?_
  refine g_getC (pc := 34) (e := r0) (in_1 hX.1 (by omega)) fr_X1_18 dX1_addReading_34 rfl ?_
  refine g_iconst (pc := 37) (v := 1) dX1_addReading_37 (by decide) ?_
  refine g_lload (pc := 38) 1 rfl dX1_addReading_38 ?_
  obtain ⟨p7, hp7, hf⟩ := am_bd hf
  refine g_cS (pc := 40) (As := [.long p2]) (st := [.int 1, .ref (am_ad X 204 r0)]) (st1 := [.int p7, .int 1, .ref (am_ad X 204 r0)]) mS_X11_cosOf ln_X1_82 rfl (Nat.le_of_ble_eq_true rfl) (Nat.le_of_ble_eq_true rfl) (k_X11_cosOf hX p2 s6 hp7) dX1_addReading_40 rfl rfl ?_
  refine g_i2l (pc := 43) dX1_addReading_43 ?_
  obtain ⟨j8, hj8, hf⟩ := am_bd hf
  have gj8 := am_ix_lt hj8
  obtain ⟨s9, hs9, hf⟩ := am_bd hf
  refine g_sJ (pc := 44) (in_204 hX.1 (by omega)) ak_204 hj8 dX1_addReading_44 (Option.some.inj hs9) ?_
  refine g_aload_n (pc := 45) 2 rfl dX1_addReading_45 rfl ?_
  refine g_getC (pc := 46) (e := r0) (in_1 hX.1 (by omega)) fr_X1_18 dX1_addReading_46 rfl ?_
  refine g_iconst (pc := 49) (v := 2) dX1_addReading_49 (by decide) ?_
  refine g_lload (pc := 50) 1 rfl dX1_addReading_50 ?_
  refine g_ldc2 (pc := 52) (v := 6) (tb_5 (List.mem_of_getElem? (i := 104) (by decide +kernel))) dX1_addReading_52 ?_
  refine g_lsub (pc := 55) dX1_addReading_55 ?_
  obtain ⟨p10, hp10, hf⟩ := am_bd hf
  refine g_cS (pc := 56) (As := [.long (p2 - 6)]) (st := [.int 2, .ref (am_ad X 204 r0)]) (st1 := [.int p10, .int 2, .ref (am_ad X 204 r0)]) mS_X11_cosOf ln_X1_82 rfl (Nat.le_of_ble_eq_true rfl) (Nat.le_of_ble_eq_true rfl) (k_X11_cosOf hX (p2 - 6) s9 hp10) dX1_addReading_56 rfl rfl ?_
  refine g_i2l (pc := 59) dX1_addReading_59 ?_
  obtain ⟨j11, hj11, hf⟩ := am_bd hf
  have gj11 := am_ix_lt hj11
  obtain ⟨s12, hs12, hf⟩ := am_bd hf
  refine g_sJ (pc := 60) (in_204 hX.1 (by omega)) ak_204 hj11 dX1_addReading_60 (Option.some.inj hs12) ?_
  refine g_aload_n (pc := 61) 2 rfl dX1_addReading_61 rfl ?_
  refine g_getC (pc := 62) (e := r0) (in_1 hX.1 (by omega)) fr_X1_18 dX1_addReading_62 rfl ?_
  refine g_iconst (pc := 65) (v := 3) dX1_addReading_65 (by decide) ?_
  refine g_lload (pc := 66) 0 rfl dX1_addReading_66 ?_
  obtain ⟨p13, hp13, hf⟩ := am_bd hf
  refine g_cS (pc := 68) (As := [.long p4]) (st := [.int 3, .ref (am_ad X 204 r0)]) (st1 := [.int p13, .int 3, .ref (am_ad X 204 r0)]) mS_X11_cosOf ln_X1_82 rfl (Nat.le_of_ble_eq_true rfl) (Nat.le_of_ble_eq_true rfl) (k_X11_cosOf hX p4 s12 hp13) dX1_addReading_68 rfl rfl ?_
  refine g_i2l (pc := 71) dX1_addReading_71 ?_
  obtain ⟨j14, hj14, hf⟩ := am_bd hf
  have gj14 := am_ix_lt hj14
  obtain ⟨s15, hs15, hf⟩ := am_bd hf
  refine g_sJ (pc := 72) (in_204 hX.1 (by omega)) ak_204 hj14 dX1_addReading_72 (Option.some.inj hs15) ?_
  refine g_aload_n (pc := 73) 2 rfl dX1_addReading_73 rfl ?_
  refine g_getC (pc := 74) (e := r0) (in_1 hX.1 (by omega)) fr_X1_18 dX1_addReading_74 rfl ?_
  refine g_iconst (pc := 77) (v := 4) dX1_addReading_77 (by decide) ?_
  refine g_lload (pc := 78) 0 rfl dX1_addReading_78 ?_
  refine g_ldc2 (pc := 80) (v := 6) (tb_5 (List.mem_of_getElem? (i := 104) (by decide +kernel))) dX1_addReading_80 ?_
  refine g_lsub (pc := 83) dX1_addReading_83 ?_
  obtain ⟨p16, hp16, hf⟩ := am_bd hf
  refine g_cS (pc := 84) (As := [.long (p4 - 6)]) (st := [.int 4, .ref (am_ad X 204 r0)]) (st1 := [.int p16, .int 4, .ref (am_ad X 204 r0)]) mS_X11_cosOf ln_X1_82 rfl (Nat.le_of_ble_eq_true rfl) (Nat.le_of_ble_eq_true rfl) (k_X11_cosOf hX (p4 - 6) s15 hp16) dX1_addReading_84 rfl rfl ?_
  refine g_i2l (pc := 87) dX1_addReading_87 ?_
  obtain ⟨j17, hj17, hf⟩ := am_bd hf
  have gj17 := am_ix_lt hj17
  obtain ⟨s18, hs18, hf⟩ := am_bd hf
  refine g_sJ (pc := 88) (in_204 hX.1 (by omega)) ak_204 hj17 dX1_addReading_88 (Option.some.inj hs18) ?_
  refine g_iconst (pc := 89) (v := 0) dX1_addReading_89 (by decide) ?_
  refine g_istore (pc := 90) [(8, .int 0), (6, .long p4), (4, .long p2), (0, .ref (am_ad X 1 r0)), (1, .int v1), (2, .ref (am_ad X 10 r2)), (3, .ref (am_ad X 10 r3))] dX1_addReading_90 (Nat.le_of_ble_eq_true rfl) rfl ?_
  obtain ⟨w19, hw19, hf⟩ := am_bd hf
  refine am_sub [3, 4, 0] rfl (l_X1_addReading_92 hX r0 v1 (by omega) s18 (0, s18) hw19 ?_)
  intro t e
  subst e
  have ho := Option.some.inj hf
  subst ho
  exact g_vreturn (pc := 174) (st := []) rfl dX1_addReading_174 hk
theorem k_X1_addReading {X : am_X} (hX : am_wC X) (r0 : Nat) (v1 : Int32) (r2 : Nat) (r3 : Nat) (hr0 : r0 < 2) (hr2 : r2 < 18) (hr3 : r3 < 18) (σ : am_H) {o : am_H} (hf : f_X1_addReading r0 v1 r2 r3 σ = some o) : am_C X gm_X1_addReading [.ref (am_ad X 1 r0), .int v1, .ref (am_ad X 10 r2), .ref (am_ad X 10 r3)] σ (am_is none o) :=
  am_ofG rfl (Nat.le_of_ble_eq_true rfl) rfl (q_X1_addReading hX r0 v1 r2 r3 hr0 hr2 hr3 σ hf ⟨rfl, rfl⟩)
theorem dX1_determinant_0 : decode cX1_determinant 0 = .ok (.iload_n 1, 1) := by decide +kernel
theorem dX1_determinant_1 : decode cX1_determinant 1 = .ok (.aload_n 0, 1) := by decide +kernel
theorem dX1_determinant_2 : decode cX1_determinant 2 = .ok (.getfield 61, 3) := by decide +kernel
theorem dX1_determinant_5 : decode cX1_determinant 5 = .ok (.if_icmp .ge 8, 3) := by decide +kernel
theorem dX1_determinant_8 : decode cX1_determinant 8 = .ok (.iload_n 1, 1) := by decide +kernel
theorem dX1_determinant_9 : decode cX1_determinant 9 = .ok (.iconst 5, 1) := by decide +kernel
theorem dX1_determinant_10 : decode cX1_determinant 10 = .ok (.if_icmp .lt 5, 3) := by decide +kernel
theorem dX1_determinant_13 : decode cX1_determinant 13 = .ok (.lconst 1, 1) := by decide +kernel
theorem dX1_determinant_14 : decode cX1_determinant 14 = .ok (.lreturn, 1) := by decide +kernel
theorem dX1_determinant_15 : decode cX1_determinant 15 = .ok (.lconst 0, 1) := by decide +kernel
theorem dX1_determinant_16 : decode cX1_determinant 16 = .ok (.lstore 4, 2) := by decide +kernel
theorem dX1_determinant_18 : decode cX1_determinant 18 = .ok (.lconst 1, 1) := by decide +kernel
theorem dX1_determinant_19 : decode cX1_determinant 19 = .ok (.lstore 6, 2) := by decide +kernel
theorem dX1_determinant_21 : decode cX1_determinant 21 = .ok (.iconst 0, 1) := by decide +kernel
theorem dX1_determinant_22 : decode cX1_determinant 22 = .ok (.istore 8, 2) := by decide +kernel
theorem dX1_determinant_24 : decode cX1_determinant 24 = .ok (.iload 8, 2) := by decide +kernel
theorem dX1_determinant_26 : decode cX1_determinant 26 = .ok (.aload_n 0, 1) := by decide +kernel
theorem dX1_determinant_27 : decode cX1_determinant 27 = .ok (.getfield 61, 3) := by decide +kernel
theorem dX1_determinant_30 : decode cX1_determinant 30 = .ok (.if_icmp .ge 87, 3) := by decide +kernel
theorem dX1_determinant_33 : decode cX1_determinant 33 = .ok (.iload_n 2, 1) := by decide +kernel
theorem dX1_determinant_34 : decode cX1_determinant 34 = .ok (.iload 8, 2) := by decide +kernel
theorem dX1_determinant_36 : decode cX1_determinant 36 = .ok (.ishr, 1) := by decide +kernel
theorem dX1_determinant_37 : decode cX1_determinant 37 = .ok (.iconst 1, 1) := by decide +kernel
theorem dX1_determinant_38 : decode cX1_determinant 38 = .ok (.iand, 1) := by decide +kernel
theorem dX1_determinant_39 : decode cX1_determinant 39 = .ok (.ifCond .ne 72, 3) := by decide +kernel
theorem dX1_determinant_42 : decode cX1_determinant 42 = .ok (.iload 8, 2) := by decide +kernel
theorem dX1_determinant_44 : decode cX1_determinant 44 = .ok (.iload_n 3, 1) := by decide +kernel
theorem dX1_determinant_45 : decode cX1_determinant 45 = .ok (.if_icmp .ne 12, 3) := by decide +kernel
theorem dX1_determinant_48 : decode cX1_determinant 48 = .ok (.aload_n 0, 1) := by decide +kernel
theorem dX1_determinant_49 : decode cX1_determinant 49 = .ok (.getfield 25, 3) := by decide +kernel
theorem dX1_determinant_52 : decode cX1_determinant 52 = .ok (.iload_n 1, 1) := by decide +kernel
theorem dX1_determinant_53 : decode cX1_determinant 53 = .ok (.laload, 1) := by decide +kernel
theorem dX1_determinant_54 : decode cX1_determinant 54 = .ok (.goto 14, 3) := by decide +kernel
theorem dX1_determinant_57 : decode cX1_determinant 57 = .ok (.aload_n 0, 1) := by decide +kernel
theorem dX1_determinant_58 : decode cX1_determinant 58 = .ok (.getfield 22, 3) := by decide +kernel
theorem dX1_determinant_61 : decode cX1_determinant 61 = .ok (.iload_n 1, 1) := by decide +kernel
theorem dX1_determinant_62 : decode cX1_determinant 62 = .ok (.iconst 5, 1) := by decide +kernel
theorem dX1_determinant_63 : decode cX1_determinant 63 = .ok (.imul, 1) := by decide +kernel
theorem dX1_determinant_64 : decode cX1_determinant 64 = .ok (.iload 8, 2) := by decide +kernel
theorem dX1_determinant_66 : decode cX1_determinant 66 = .ok (.iadd, 1) := by decide +kernel
theorem dX1_determinant_67 : decode cX1_determinant 67 = .ok (.laload, 1) := by decide +kernel
theorem dX1_determinant_68 : decode cX1_determinant 68 = .ok (.lstore 9, 2) := by decide +kernel
theorem dX1_determinant_70 : decode cX1_determinant 70 = .ok (.lload 4, 2) := by decide +kernel
theorem dX1_determinant_72 : decode cX1_determinant 72 = .ok (.lload 9, 2) := by decide +kernel
theorem dX1_determinant_74 : decode cX1_determinant 74 = .ok (.lconst 0, 1) := by decide +kernel
theorem dX1_determinant_75 : decode cX1_determinant 75 = .ok (.lcmp, 1) := by decide +kernel
theorem dX1_determinant_76 : decode cX1_determinant 76 = .ok (.ifCond .ne 7, 3) := by decide +kernel
theorem dX1_determinant_79 : decode cX1_determinant 79 = .ok (.lconst 0, 1) := by decide +kernel
theorem dX1_determinant_80 : decode cX1_determinant 80 = .ok (.goto 23, 3) := by decide +kernel
theorem dX1_determinant_83 : decode cX1_determinant 83 = .ok (.lload 6, 2) := by decide +kernel
theorem dX1_determinant_85 : decode cX1_determinant 85 = .ok (.lload 9, 2) := by decide +kernel
theorem dX1_determinant_87 : decode cX1_determinant 87 = .ok (.lmul, 1) := by decide +kernel
theorem dX1_determinant_88 : decode cX1_determinant 88 = .ok (.aload_n 0, 1) := by decide +kernel
theorem dX1_determinant_89 : decode cX1_determinant 89 = .ok (.iload_n 1, 1) := by decide +kernel
theorem dX1_determinant_90 : decode cX1_determinant 90 = .ok (.iconst 1, 1) := by decide +kernel
theorem dX1_determinant_91 : decode cX1_determinant 91 = .ok (.iadd, 1) := by decide +kernel
theorem dX1_determinant_92 : decode cX1_determinant 92 = .ok (.iload_n 2, 1) := by decide +kernel
theorem dX1_determinant_93 : decode cX1_determinant 93 = .ok (.iconst 1, 1) := by decide +kernel
theorem dX1_determinant_94 : decode cX1_determinant 94 = .ok (.iload 8, 2) := by decide +kernel
theorem dX1_determinant_96 : decode cX1_determinant 96 = .ok (.ishl, 1) := by decide +kernel
theorem dX1_determinant_97 : decode cX1_determinant 97 = .ok (.ior, 1) := by decide +kernel
theorem dX1_determinant_98 : decode cX1_determinant 98 = .ok (.iload_n 3, 1) := by decide +kernel
theorem dX1_determinant_99 : decode cX1_determinant 99 = .ok (.invokevirtual 68, 3) := by decide +kernel
theorem dX1_determinant_102 : decode cX1_determinant 102 = .ok (.lmul, 1) := by decide +kernel
theorem dX1_determinant_103 : decode cX1_determinant 103 = .ok (.ladd, 1) := by decide +kernel
theorem dX1_determinant_104 : decode cX1_determinant 104 = .ok (.lstore 4, 2) := by decide +kernel
theorem dX1_determinant_106 : decode cX1_determinant 106 = .ok (.lload 6, 2) := by decide +kernel
theorem dX1_determinant_108 : decode cX1_determinant 108 = .ok (.lneg, 1) := by decide +kernel
theorem dX1_determinant_109 : decode cX1_determinant 109 = .ok (.lstore 6, 2) := by decide +kernel
theorem dX1_determinant_111 : decode cX1_determinant 111 = .ok (.iinc 8 1, 3) := by decide +kernel
theorem dX1_determinant_114 : decode cX1_determinant 114 = .ok (.goto (-90), 3) := by decide +kernel
theorem dX1_determinant_117 : decode cX1_determinant 117 = .ok (.lload 4, 2) := by decide +kernel
theorem dX1_determinant_119 : decode cX1_determinant 119 = .ok (.lreturn, 1) := by decide +kernel
noncomputable def f_X1_determinant_68 (rc : Nat → Int32 → Int32 → Int32 → am_H → Option (Int64)) (r0 : Nat) (v1 : Int32) (v2 : Int32) (v3 : Int32) (v4 : Int64) (v6 : Int64) (v8 : Int32) (k0 : Int64) (σ : am_H) : Option ((Int64 × Int64 × Int32) ⊕ (Int64)) :=
  if k0 = 0 then
   (some (.inl ((v4 + 0), (-v6), (v8 + 1))))
  else
  (rc r0 (v1 + 1) (v2 ||| (1 <<< (v8 &&& 31))) v3 σ).bind fun p2 =>
  some (.inl ((v4 + ((v6 * k0) * p2)), (-v6), (v8 + 1)))
set_option maxRecDepth 100000 in
set_option maxHeartbeats 4000000 in
theorem q_X1_determinant_68 {X : am_X} (hX : am_wC X) {Q : Option Value → am_H → Prop} (n : Nat) (rc : Nat → Int32 → Int32 → Int32 → am_H → Option (Int64)) (hrc : ∀ (r0 : Nat) (v1 : Int32) (v2 : Int32) (v3 : Int32) (σ : am_H) (o : Int64), r0 < 2 → rc r0 v1 v2 v3 σ = some o → am_C X (gm_X1_determinant n) [.ref (am_ad X 1 r0), .int v1, .int v2, .int v3] σ (am_is (some (.long o)) σ)) (r0 : Nat) (v1 : Int32) (v2 : Int32) (v3 : Int32) (v4 : Int64) (v6 : Int64) (v8 : Int32) (k0 : Int64) (hr0 : r0 < 2) (σ : am_H) {o : (Int64 × Int64 × Int32) ⊕ (Int64)} (hf : f_X1_determinant_68 rc r0 v1 v2 v3 v4 v6 v8 k0 σ = some o) (hk0 : ∀ s, o = .inl s → am_G X (gm_X1_determinant (n + 1)) Q 24 [(0, .ref (am_ad X 1 r0)), (1, .int v1), (2, .int v2), (3, .int v3), (4, .long s.1), (6, .long s.2.1), (8, .int s.2.2)] [] σ) (hk1 : ∀ t, o = .inr t → am_G X (gm_X1_determinant (n + 1)) Q 117 [(4, .long t)] [] σ) : am_G X (gm_X1_determinant (n + 1)) Q 68 [(0, .ref (am_ad X 1 r0)), (1, .int v1), (2, .int v2), (3, .int v3), (4, .long v4), (6, .long v6), (8, .int v8)] [.long k0] σ := by
  unfold f_X1_determinant_68 at hf
  refine g_lstore (pc := 68) [(9, .long k0), (0, .ref (am_ad X 1 r0)), (1, .int v1), (2, .int v2), (3, .int v3), (4, .long v4), (6, .long v6), (8, .int v8)] dX1_determinant_68 (Nat.le_of_ble_eq_true rfl) rfl ?_
  refine g_lload (pc := 70) 5 rfl dX1_determinant_70 ?_
  refine g_lload (pc := 72) 0 rfl dX1_determinant_72 ?_
  refine g_lconst (pc := 74) (v := 0) dX1_determinant_74 (by decide) ?_
  refine g_lcm (pc := 75) dX1_determinant_75 ?_
  refine bl_ne (pc := 76) 83 dX1_determinant_76 rfl (fun c1 => ?_) (fun c1 => ?_)
  · replace hf := am_ifT c1 hf
    refine g_lconst (pc := 79) (v := 0) dX1_determinant_79 (by decide) ?_
    refine g_goto (pc := 80) 103 dX1_determinant_80 rfl ?_
    refine g_ladd (pc := 103) dX1_determinant_103 ?_
    refine g_lstore (pc := 104) [(4, .long (v4 + 0)), (9, .long k0), (0, .ref (am_ad X 1 r0)), (1, .int v1), (2, .int v2), (3, .int v3), (6, .long v6), (8, .int v8)] dX1_determinant_104 (Nat.le_of_ble_eq_true rfl) rfl ?_
    refine g_lload (pc := 106) 6 rfl dX1_determinant_106 ?_
    refine g_lneg (pc := 108) dX1_determinant_108 ?_
    refine g_lstore (pc := 109) [(6, .long (-v6)), (4, .long (v4 + 0)), (9, .long k0), (0, .ref (am_ad X 1 r0)), (1, .int v1), (2, .int v2), (3, .int v3), (8, .int v8)] dX1_determinant_109 (Nat.le_of_ble_eq_true rfl) rfl ?_
    refine g_iinc (pc := 111) (v := (v8 + 1)) 7 [(8, .int (v8 + 1)), (6, .long (-v6)), (4, .long (v4 + 0)), (9, .long k0), (0, .ref (am_ad X 1 r0)), (1, .int v1), (2, .int v2), (3, .int v3)] dX1_determinant_111 rfl rfl (Nat.le_of_ble_eq_true rfl) rfl ?_
    refine g_goto (pc := 114) 24 dX1_determinant_114 rfl ?_
    have hz := hk0 _ (Option.some.inj hf).symm
    exact am_sub [4, 5, 6, 7, 2, 1, 0] rfl hz
  replace hf := am_ifF c1 hf
  refine g_lload (pc := 83) 6 rfl dX1_determinant_83 ?_
  refine g_lload (pc := 85) 0 rfl dX1_determinant_85 ?_
  refine g_lmul (pc := 87) dX1_determinant_87 ?_
  refine g_aload_n (pc := 88) 1 rfl dX1_determinant_88 rfl ?_
  refine g_iload_n (pc := 89) 2 rfl dX1_determinant_89 rfl ?_
  refine g_iconst (pc := 90) (v := 1) dX1_determinant_90 (by decide) ?_
  refine g_iadd (pc := 91) dX1_determinant_91 ?_
  refine g_iload_n (pc := 92) 3 rfl dX1_determinant_92 rfl ?_
  refine g_iconst (pc := 93) (v := 1) dX1_determinant_93 (by decide) ?_
  refine g_iload (pc := 94) 7 rfl dX1_determinant_94 ?_
  refine g_ishl (pc := 96) dX1_determinant_96 ?_
  refine g_ior (pc := 97) dX1_determinant_97 ?_
  refine g_iload_n (pc := 98) 4 rfl dX1_determinant_98 rfl ?_
  obtain ⟨p2, hp2, hf⟩ := am_bd hf
  refine g_cV (pc := 99) (As := [.int (v1 + 1), .int (v2 ||| (1 <<< (v8 &&& 31))), .int v3]) (st := [.long (v6 * k0), .long v4]) (st1 := [.long p2, .long (v6 * k0), .long v4]) (in_1 hX.1 (by omega)) kk_1 (mV_X1_determinant _) ln_X1_68 rfl (by first | exact Nat.le_of_ble_eq_true rfl | (show _ + 1 ≤ _; simp only []; omega)) (Nat.le_of_ble_eq_true rfl) (hrc r0 (v1 + 1) (v2 ||| (1 <<< (v8 &&& 31))) v3 σ _ (by omega) hp2) dX1_determinant_99 rfl rfl ?_
  refine g_lmul (pc := 102) dX1_determinant_102 ?_
  refine g_ladd (pc := 103) dX1_determinant_103 ?_
  refine g_lstore (pc := 104) [(4, .long (v4 + ((v6 * k0) * p2))), (9, .long k0), (0, .ref (am_ad X 1 r0)), (1, .int v1), (2, .int v2), (3, .int v3), (6, .long v6), (8, .int v8)] dX1_determinant_104 (Nat.le_of_ble_eq_true rfl) rfl ?_
  refine g_lload (pc := 106) 6 rfl dX1_determinant_106 ?_
  refine g_lneg (pc := 108) dX1_determinant_108 ?_
  refine g_lstore (pc := 109) [(6, .long (-v6)), (4, .long (v4 + ((v6 * k0) * p2))), (9, .long k0), (0, .ref (am_ad X 1 r0)), (1, .int v1), (2, .int v2), (3, .int v3), (8, .int v8)] dX1_determinant_109 (Nat.le_of_ble_eq_true rfl) rfl ?_
  refine g_iinc (pc := 111) (v := (v8 + 1)) 7 [(8, .int (v8 + 1)), (6, .long (-v6)), (4, .long (v4 + ((v6 * k0) * p2))), (9, .long k0), (0, .ref (am_ad X 1 r0)), (1, .int v1), (2, .int v2), (3, .int v3)] dX1_determinant_111 rfl rfl (Nat.le_of_ble_eq_true rfl) rfl ?_
  refine g_goto (pc := 114) 24 dX1_determinant_114 rfl ?_
  have hz := hk0 _ (Option.some.inj hf).symm
  exact am_sub [4, 5, 6, 7, 2, 1, 0] rfl hz
noncomputable def f_X1_determinant_24 (rc : Nat → Int32 → Int32 → Int32 → am_H → Option (Int64)) (r0 : Nat) (v1 : Int32) (v2 : Int32) (v3 : Int32) (v4 : Int64) (v6 : Int64) (v8 : Int32) (σ : am_H) : Option ((Int64 × Int64 × Int32) ⊕ (Int64)) :=
  if v8 < (σ.1 1 r0 3) then
   (if ((v2 >>> (v8 &&& 31)) &&& 1) = 0 then
    (if v8 = v3 then
     ((am_ix 5 v1).bind fun j4 =>
     f_X1_determinant_68 rc r0 v1 v2 v3 v4 v6 v8 (σ.2.1 206 r0 j4) σ)
    else
    (am_ix 25 ((v1 * 5) + v8)).bind fun j5 =>
    f_X1_determinant_68 rc r0 v1 v2 v3 v4 v6 v8 (σ.2.1 205 r0 j5) σ)
   else
   some (.inl (v4, v6, (v8 + 1))))
  else
  some (.inr v4)
set_option maxRecDepth 100000 in
set_option maxHeartbeats 4000000 in
theorem q_X1_determinant_24 {X : am_X} (hX : am_wC X) {Q : Option Value → am_H → Prop} (n : Nat) (rc : Nat → Int32 → Int32 → Int32 → am_H → Option (Int64)) (hrc : ∀ (r0 : Nat) (v1 : Int32) (v2 : Int32) (v3 : Int32) (σ : am_H) (o : Int64), r0 < 2 → rc r0 v1 v2 v3 σ = some o → am_C X (gm_X1_determinant n) [.ref (am_ad X 1 r0), .int v1, .int v2, .int v3] σ (am_is (some (.long o)) σ)) (r0 : Nat) (v1 : Int32) (v2 : Int32) (v3 : Int32) (v4 : Int64) (v6 : Int64) (v8 : Int32) (hr0 : r0 < 2) (σ : am_H) {o : (Int64 × Int64 × Int32) ⊕ (Int64)} (hf : f_X1_determinant_24 rc r0 v1 v2 v3 v4 v6 v8 σ = some o) (hk0 : ∀ s, o = .inl s → am_G X (gm_X1_determinant (n + 1)) Q 24 [(0, .ref (am_ad X 1 r0)), (1, .int v1), (2, .int v2), (3, .int v3), (4, .long s.1), (6, .long s.2.1), (8, .int s.2.2)] [] σ) (hk1 : ∀ t, o = .inr t → am_G X (gm_X1_determinant (n + 1)) Q 117 [(4, .long t)] [] σ) : am_G X (gm_X1_determinant (n + 1)) Q 24 [(0, .ref (am_ad X 1 r0)), (1, .int v1), (2, .int v2), (3, .int v3), (4, .long v4), (6, .long v6), (8, .int v8)] [] σ := by
  unfold f_X1_determinant_24 at hf
  refine g_iload (pc := 24) 6 rfl dX1_determinant_24 ?_
  refine g_aload_n (pc := 26) 0 rfl dX1_determinant_26 rfl ?_
  refine g_getI (pc := 27) (in_1 hX.1 (by omega)) fr_X1_61 dX1_determinant_27 ?_
  refine bi_ge (pc := 30) 117 dX1_determinant_30 rfl (fun c1 => ?_) (fun c1 => ?_)
  · replace hf := am_ifT c1 hf
    refine g_iload_n (pc := 33) 2 rfl dX1_determinant_33 rfl ?_
    refine g_iload (pc := 34) 6 rfl dX1_determinant_34 ?_
    refine g_ishr (pc := 36) dX1_determinant_36 ?_
    refine g_iconst (pc := 37) (v := 1) dX1_determinant_37 (by decide) ?_
    refine g_iand (pc := 38) dX1_determinant_38 ?_
    refine bz_ne (pc := 39) 111 dX1_determinant_39 rfl (fun c2 => ?_) (fun c2 => ?_)
    · replace hf := am_ifT c2 hf
      refine g_iload (pc := 42) 6 rfl dX1_determinant_42 ?_
      refine g_iload_n (pc := 44) 3 rfl dX1_determinant_44 rfl ?_
      refine bi_ne (pc := 45) 57 dX1_determinant_45 rfl (fun c3 => ?_) (fun c3 => ?_)
      · replace hf := am_ifT c3 hf
        refine g_aload_n (pc := 48) 0 rfl dX1_determinant_48 rfl ?_
        refine g_getC (pc := 49) (e := r0) (in_1 hX.1 (by omega)) fr_X1_25 dX1_determinant_49 rfl ?_
        refine g_iload_n (pc := 52) 1 rfl dX1_determinant_52 rfl ?_
        obtain ⟨j4, hj4, hf⟩ := am_bd hf
        have gj4 := am_ix_lt hj4
        refine g_aJ (pc := 53) (in_206 hX.1 (by omega)) ak_206 hj4 dX1_determinant_53 ?_
        refine g_goto (pc := 54) 68 dX1_determinant_54 rfl ?_
        exact q_X1_determinant_68 hX n rc hrc r0 v1 v2 v3 v4 v6 v8 (σ.2.1 206 r0 j4) (by omega) σ hf hk0 hk1
      replace hf := am_ifF c3 hf
      refine g_aload_n (pc := 57) 0 rfl dX1_determinant_57 rfl ?_
      refine g_getC (pc := 58) (e := r0) (in_1 hX.1 (by omega)) fr_X1_22 dX1_determinant_58 rfl ?_
      refine g_iload_n (pc := 61) 1 rfl dX1_determinant_61 rfl ?_
      refine g_iconst (pc := 62) (v := 5) dX1_determinant_62 (by decide) ?_
      refine g_imul (pc := 63) dX1_determinant_63 ?_
      refine g_iload (pc := 64) 6 rfl dX1_determinant_64 ?_
      refine g_iadd (pc := 66) dX1_determinant_66 ?_
      obtain ⟨j5, hj5, hf⟩ := am_bd hf
      have gj5 := am_ix_lt hj5
      refine g_aJ (pc := 67) (in_205 hX.1 (by omega)) ak_205 hj5 dX1_determinant_67 ?_
      exact q_X1_determinant_68 hX n rc hrc r0 v1 v2 v3 v4 v6 v8 (σ.2.1 205 r0 j5) (by omega) σ hf hk0 hk1
    replace hf := am_ifF c2 hf
    refine g_iinc (pc := 111) (v := (v8 + 1)) 6 [(8, .int (v8 + 1)), (0, .ref (am_ad X 1 r0)), (1, .int v1), (2, .int v2), (3, .int v3), (4, .long v4), (6, .long v6)] dX1_determinant_111 rfl rfl (Nat.le_of_ble_eq_true rfl) rfl ?_
    refine g_goto (pc := 114) 24 dX1_determinant_114 rfl ?_
    have hz := hk0 _ (Option.some.inj hf).symm
    exact am_sub [1, 2, 3, 4, 5, 6, 0] rfl hz
  replace hf := am_ifF c1 hf
  have hz := hk1 _ (Option.some.inj hf).symm
  exact am_sub [4] rfl hz
set_option maxRecDepth 100000 in
set_option maxHeartbeats 4000000 in
theorem l_X1_determinant_24 {X : am_X} (hX : am_wC X) {Q : Option Value → am_H → Prop} (n : Nat) (rc : Nat → Int32 → Int32 → Int32 → am_H → Option (Int64)) (hrc : ∀ (r0 : Nat) (v1 : Int32) (v2 : Int32) (v3 : Int32) (σ : am_H) (o : Int64), r0 < 2 → rc r0 v1 v2 v3 σ = some o → am_C X (gm_X1_determinant n) [.ref (am_ad X 1 r0), .int v1, .int v2, .int v3] σ (am_is (some (.long o)) σ)) (r0 : Nat) (v1 : Int32) (v2 : Int32) (v3 : Int32) (hr0 : r0 < 2) (σ : am_H) (s : Int64 × Int64 × Int32) {o : Int64} (hf : am_loop (fun s => f_X1_determinant_24 rc r0 v1 v2 v3 s.1 s.2.1 s.2.2 σ) s = some o) (hk1 : ∀ t, o = t → am_G X (gm_X1_determinant (n + 1)) Q 117 [(4, .long t)] [] σ) : am_G X (gm_X1_determinant (n + 1)) Q 24 [(0, .ref (am_ad X 1 r0)), (1, .int v1), (2, .int v2), (3, .int v3), (4, .long s.1), (6, .long s.2.1), (8, .int s.2.2)] [] σ := by
  refine am_loop_ind (P := fun s => am_G X (gm_X1_determinant (n + 1)) Q 24 [(0, .ref (am_ad X 1 r0)), (1, .int v1), (2, .int v2), (3, .int v3), (4, .long s.1), (6, .long s.2.1), (8, .int s.2.2)] [] σ) (K := fun r => r = o) ?_ hf rfl
  intro s o1 hb hi hr
  exact q_X1_determinant_24 hX n rc hrc r0 v1 v2 v3 s.1 s.2.1 s.2.2  hr0 σ hb hi (fun t e => hk1 t (hr _ e).symm)
noncomputable def f_X1_determinant_0 (rc : Nat → Int32 → Int32 → Int32 → am_H → Option (Int64)) (r0 : Nat) (v1 : Int32) (v2 : Int32) (v3 : Int32) (σ : am_H) : Option (Int64) :=
  if v1 < (σ.1 1 r0 3) then
   (if v1 < 5 then
    ((am_loop (fun s => f_X1_determinant_24 rc r0 v1 v2 v3 s.1 s.2.1 s.2.2 σ) (0, 1, 0)).bind fun w3 =>
    some w3)
   else
   some 1)
  else
  some 1
set_option maxRecDepth 100000 in
set_option maxHeartbeats 4000000 in
theorem q_X1_determinant_0 {X : am_X} (hX : am_wC X) {Q : Option Value → am_H → Prop} (n : Nat) (rc : Nat → Int32 → Int32 → Int32 → am_H → Option (Int64)) (hrc : ∀ (r0 : Nat) (v1 : Int32) (v2 : Int32) (v3 : Int32) (σ : am_H) (o : Int64), r0 < 2 → rc r0 v1 v2 v3 σ = some o → am_C X (gm_X1_determinant n) [.ref (am_ad X 1 r0), .int v1, .int v2, .int v3] σ (am_is (some (.long o)) σ)) (r0 : Nat) (v1 : Int32) (v2 : Int32) (v3 : Int32) (hr0 : r0 < 2) (σ : am_H) {o : Int64} (hf : f_X1_determinant_0 rc r0 v1 v2 v3 σ = some o) (hk : Q (some (.long o)) σ) : am_G X (gm_X1_determinant (n + 1)) Q 0 [(0, .ref (am_ad X 1 r0)), (1, .int v1), (2, .int v2), (3, .int v3)] [] σ := by
  unfold f_X1_determinant_0 at hf
  refine g_iload_n (pc := 0) 1 rfl dX1_determinant_0 rfl ?_
  refine g_aload_n (pc := 1) 0 rfl dX1_determinant_1 rfl ?_
  refine g_getI (pc := 2) (in_1 hX.1 (by omega)) fr_X1_61 dX1_determinant_2 ?_
  refine bi_ge (pc := 5) 13 dX1_determinant_5 rfl (fun c1 => ?_) (fun c1 => ?_)
  · replace hf := am_ifT c1 hf
    refine g_iload_n (pc := 8) 1 rfl dX1_determinant_8 rfl ?_
    refine g_iconst (pc := 9) (v := 5) dX1_determinant_9 (by decide) ?_
    refine bi_lt (pc := 10) 15 dX1_determinant_10 rfl (fun c2 => ?_) (fun c2 => ?_)
    · replace hf := am_ifT c2 hf
      refine g_lconst (pc := 15) (v := 0) dX1_determinant_15 (by decide) ?_
      refine g_lstore (pc := 16) [(4, .long 0), (0, .ref (am_ad X 1 r0)), (1, .int v1), (2, .int v2), (3, .int v3)] dX1_determinant_16 (Nat.le_of_ble_eq_true rfl) rfl ?_
      refine g_lconst (pc := 18) (v := 1) dX1_determinant_18 (by decide) ?_
      refine g_lstore (pc := 19) [(6, .long 1), (4, .long 0), (0, .ref (am_ad X 1 r0)), (1, .int v1), (2, .int v2), (3, .int v3)] dX1_determinant_19 (Nat.le_of_ble_eq_true rfl) rfl ?_
      refine g_iconst (pc := 21) (v := 0) dX1_determinant_21 (by decide) ?_
      refine g_istore (pc := 22) [(8, .int 0), (6, .long 1), (4, .long 0), (0, .ref (am_ad X 1 r0)), (1, .int v1), (2, .int v2), (3, .int v3)] dX1_determinant_22 (Nat.le_of_ble_eq_true rfl) rfl ?_
      obtain ⟨w3, hw3, hf⟩ := am_bd hf
      refine am_sub [3, 4, 5, 6, 2, 1, 0] rfl (l_X1_determinant_24 hX n rc hrc r0 v1 v2 v3 (by omega) σ (0, 1, 0) hw3 ?_)
      intro t e
      subst e
      refine g_lload (pc := 117) 0 rfl dX1_determinant_117 ?_
      have ho := Option.some.inj hf
      subst ho
      exact g_lreturn (pc := 119) (st := []) rfl dX1_determinant_119 hk
    replace hf := am_ifF c2 hf
    refine g_lconst (pc := 13) (v := 1) dX1_determinant_13 (by decide) ?_
    have ho := Option.some.inj hf
    subst ho
    exact g_lreturn (pc := 14) (st := []) rfl dX1_determinant_14 hk
  replace hf := am_ifF c1 hf
  refine g_lconst (pc := 13) (v := 1) dX1_determinant_13 (by decide) ?_
  have ho := Option.some.inj hf
  subst ho
  exact g_lreturn (pc := 14) (st := []) rfl dX1_determinant_14 hk
noncomputable def f_X1_determinant : Nat → Nat → Int32 → Int32 → Int32 → am_H → Option (Int64)
  | 0 => fun _ _ _ _ _ => none
  | n + 1 => fun r0 v1 v2 v3 σ => f_X1_determinant_0 (f_X1_determinant n) r0 v1 v2 v3 σ
theorem k_X1_determinant {X : am_X} (hX : am_wC X) (n : Nat) : ∀ (r0 : Nat) (v1 : Int32) (v2 : Int32) (v3 : Int32) (hr0 : r0 < 2) (σ : am_H) {o : Int64}, f_X1_determinant n r0 v1 v2 v3 σ = some o → am_C X (gm_X1_determinant n) [.ref (am_ad X 1 r0), .int v1, .int v2, .int v3] σ (am_is (some (.long o)) σ) := by
  induction n with
  | zero => intro r0 v1 v2 v3 hr0 σ o hf; exact absurd hf (by simp [f_X1_determinant])
  | succ n ih =>
    intro r0 v1 v2 v3 hr0 σ o hf
    exact am_ofG rfl (Nat.le_of_ble_eq_true rfl) rfl (q_X1_determinant_0 hX n (f_X1_determinant n) (fun r0 v1 v2 v3 σ o hr0 h => ih r0 v1 v2 v3 hr0 σ h) r0 v1 v2 v3 hr0 σ hf ⟨rfl, rfl⟩)
theorem dX1_partsWaves_0 : decode cX1_partsWaves 0 = .ok (.aload_n 0, 1) := by decide +kernel
theorem dX1_partsWaves_1 : decode cX1_partsWaves 1 = .ok (.iload_n 3, 1) := by decide +kernel
theorem dX1_partsWaves_2 : decode cX1_partsWaves 2 = .ok (.ifCond .eq 7, 3) := by decide +kernel
theorem dX1_partsWaves_5 : decode cX1_partsWaves 5 = .ok (.iconst 3, 1) := by decide +kernel
theorem dX1_partsWaves_6 : decode cX1_partsWaves 6 = .ok (.goto 4, 3) := by decide +kernel
theorem dX1_partsWaves_9 : decode cX1_partsWaves 9 = .ok (.iconst 5, 1) := by decide +kernel
theorem dX1_partsWaves_10 : decode cX1_partsWaves 10 = .ok (.putfield 61, 3) := by decide +kernel
theorem dX1_partsWaves_13 : decode cX1_partsWaves 13 = .ok (.iconst 0, 1) := by decide +kernel
theorem dX1_partsWaves_14 : decode cX1_partsWaves 14 = .ok (.istore 4, 2) := by decide +kernel
theorem dX1_partsWaves_16 : decode cX1_partsWaves 16 = .ok (.iload 4, 2) := by decide +kernel
theorem dX1_partsWaves_18 : decode cX1_partsWaves 18 = .ok (.bipush 25, 2) := by decide +kernel
theorem dX1_partsWaves_20 : decode cX1_partsWaves 20 = .ok (.if_icmp .ge 17, 3) := by decide +kernel
theorem dX1_partsWaves_23 : decode cX1_partsWaves 23 = .ok (.aload_n 0, 1) := by decide +kernel
theorem dX1_partsWaves_24 : decode cX1_partsWaves 24 = .ok (.getfield 22, 3) := by decide +kernel
theorem dX1_partsWaves_27 : decode cX1_partsWaves 27 = .ok (.iload 4, 2) := by decide +kernel
theorem dX1_partsWaves_29 : decode cX1_partsWaves 29 = .ok (.lconst 0, 1) := by decide +kernel
theorem dX1_partsWaves_30 : decode cX1_partsWaves 30 = .ok (.lastore, 1) := by decide +kernel
theorem dX1_partsWaves_31 : decode cX1_partsWaves 31 = .ok (.iinc 4 1, 3) := by decide +kernel
theorem dX1_partsWaves_34 : decode cX1_partsWaves 34 = .ok (.goto (-18), 3) := by decide +kernel
theorem dX1_partsWaves_37 : decode cX1_partsWaves 37 = .ok (.iconst 0, 1) := by decide +kernel
theorem dX1_partsWaves_38 : decode cX1_partsWaves 38 = .ok (.istore 4, 2) := by decide +kernel
theorem dX1_partsWaves_40 : decode cX1_partsWaves 40 = .ok (.iload 4, 2) := by decide +kernel
theorem dX1_partsWaves_42 : decode cX1_partsWaves 42 = .ok (.iconst 5, 1) := by decide +kernel
theorem dX1_partsWaves_43 : decode cX1_partsWaves 43 = .ok (.if_icmp .ge 17, 3) := by decide +kernel
theorem dX1_partsWaves_46 : decode cX1_partsWaves 46 = .ok (.aload_n 0, 1) := by decide +kernel
theorem dX1_partsWaves_47 : decode cX1_partsWaves 47 = .ok (.getfield 25, 3) := by decide +kernel
theorem dX1_partsWaves_50 : decode cX1_partsWaves 50 = .ok (.iload 4, 2) := by decide +kernel
theorem dX1_partsWaves_52 : decode cX1_partsWaves 52 = .ok (.lconst 0, 1) := by decide +kernel
theorem dX1_partsWaves_53 : decode cX1_partsWaves 53 = .ok (.lastore, 1) := by decide +kernel
theorem dX1_partsWaves_54 : decode cX1_partsWaves 54 = .ok (.iinc 4 1, 3) := by decide +kernel
theorem dX1_partsWaves_57 : decode cX1_partsWaves 57 = .ok (.goto (-17), 3) := by decide +kernel
theorem dX1_partsWaves_60 : decode cX1_partsWaves 60 = .ok (.iconst 0, 1) := by decide +kernel
theorem dX1_partsWaves_61 : decode cX1_partsWaves 61 = .ok (.istore 4, 2) := by decide +kernel
theorem dX1_partsWaves_63 : decode cX1_partsWaves 63 = .ok (.iload 4, 2) := by decide +kernel
theorem dX1_partsWaves_65 : decode cX1_partsWaves 65 = .ok (.aload_n 0, 1) := by decide +kernel
theorem dX1_partsWaves_66 : decode cX1_partsWaves 66 = .ok (.getfield 37, 3) := by decide +kernel
theorem dX1_partsWaves_69 : decode cX1_partsWaves 69 = .ok (.if_icmp .ge 26, 3) := by decide +kernel
theorem dX1_partsWaves_72 : decode cX1_partsWaves 72 = .ok (.aload_n 0, 1) := by decide +kernel
theorem dX1_partsWaves_73 : decode cX1_partsWaves 73 = .ok (.iload 4, 2) := by decide +kernel
theorem dX1_partsWaves_75 : decode cX1_partsWaves 75 = .ok (.invokevirtual 53, 3) := by decide +kernel
theorem dX1_partsWaves_78 : decode cX1_partsWaves 78 = .ok (.ifCond .ne 11, 3) := by decide +kernel
theorem dX1_partsWaves_81 : decode cX1_partsWaves 81 = .ok (.aload_n 0, 1) := by decide +kernel
theorem dX1_partsWaves_82 : decode cX1_partsWaves 82 = .ok (.iload 4, 2) := by decide +kernel
theorem dX1_partsWaves_84 : decode cX1_partsWaves 84 = .ok (.aload_n 1, 1) := by decide +kernel
theorem dX1_partsWaves_85 : decode cX1_partsWaves 85 = .ok (.aload_n 2, 1) := by decide +kernel
theorem dX1_partsWaves_86 : decode cX1_partsWaves 86 = .ok (.invokevirtual 64, 3) := by decide +kernel
theorem dX1_partsWaves_89 : decode cX1_partsWaves 89 = .ok (.iinc 4 1, 3) := by decide +kernel
theorem dX1_partsWaves_92 : decode cX1_partsWaves 92 = .ok (.goto (-29), 3) := by decide +kernel
theorem dX1_partsWaves_95 : decode cX1_partsWaves 95 = .ok (.aload_n 0, 1) := by decide +kernel
theorem dX1_partsWaves_96 : decode cX1_partsWaves 96 = .ok (.aload_n 0, 1) := by decide +kernel
theorem dX1_partsWaves_97 : decode cX1_partsWaves 97 = .ok (.iconst 0, 1) := by decide +kernel
theorem dX1_partsWaves_98 : decode cX1_partsWaves 98 = .ok (.iconst 0, 1) := by decide +kernel
theorem dX1_partsWaves_99 : decode cX1_partsWaves 99 = .ok (.iconst (-1), 1) := by decide +kernel
theorem dX1_partsWaves_100 : decode cX1_partsWaves 100 = .ok (.invokevirtual 68, 3) := by decide +kernel
theorem dX1_partsWaves_103 : decode cX1_partsWaves 103 = .ok (.putfield 72, 3) := by decide +kernel
theorem dX1_partsWaves_106 : decode cX1_partsWaves 106 = .ok (.aload_n 0, 1) := by decide +kernel
theorem dX1_partsWaves_107 : decode cX1_partsWaves 107 = .ok (.getfield 72, 3) := by decide +kernel
theorem dX1_partsWaves_110 : decode cX1_partsWaves 110 = .ok (.lconst 0, 1) := by decide +kernel
theorem dX1_partsWaves_111 : decode cX1_partsWaves 111 = .ok (.lcmp, 1) := by decide +kernel
theorem dX1_partsWaves_112 : decode cX1_partsWaves 112 = .ok (.ifCond .le 7, 3) := by decide +kernel
theorem dX1_partsWaves_115 : decode cX1_partsWaves 115 = .ok (.iconst 1, 1) := by decide +kernel
theorem dX1_partsWaves_116 : decode cX1_partsWaves 116 = .ok (.goto 4, 3) := by decide +kernel
theorem dX1_partsWaves_119 : decode cX1_partsWaves 119 = .ok (.iconst 0, 1) := by decide +kernel
theorem dX1_partsWaves_120 : decode cX1_partsWaves 120 = .ok (.ireturn, 1) := by decide +kernel
noncomputable def f_X1_partsWaves_16 (r0 : Nat) (r1 : Nat) (r2 : Nat) (v4 : Int32) (σ : am_H) : Option ((Int32 × am_H) ⊕ (am_H)) :=
  if v4 < 25 then
   ((am_ix 25 v4).bind fun j2 =>
   (some (am_wL σ 205 r0 j2 0)).bind fun s3 =>
   some (.inl ((v4 + 1), s3)))
  else
  some (.inr σ)
set_option maxRecDepth 100000 in
set_option maxHeartbeats 4000000 in
theorem q_X1_partsWaves_16 {X : am_X} (hX : am_wC X) {Q : Option Value → am_H → Prop} (r0 : Nat) (r1 : Nat) (r2 : Nat) (v4 : Int32) (hr0 : r0 < 2) (hr1 : r1 < 18) (hr2 : r2 < 18) (σ : am_H) {o : (Int32 × am_H) ⊕ (am_H)} (hf : f_X1_partsWaves_16 r0 r1 r2 v4 σ = some o) (hk0 : ∀ s, o = .inl s → am_G X gm_X1_partsWaves Q 16 [(0, .ref (am_ad X 1 r0)), (1, .ref (am_ad X 10 r1)), (2, .ref (am_ad X 10 r2)), (4, .int s.1)] [] s.2) (hk1 : ∀ t, o = .inr t → am_G X gm_X1_partsWaves Q 37 [(0, .ref (am_ad X 1 r0)), (1, .ref (am_ad X 10 r1)), (2, .ref (am_ad X 10 r2))] [] t) : am_G X gm_X1_partsWaves Q 16 [(0, .ref (am_ad X 1 r0)), (1, .ref (am_ad X 10 r1)), (2, .ref (am_ad X 10 r2)), (4, .int v4)] [] σ := by
  unfold f_X1_partsWaves_16 at hf
  refine g_iload (pc := 16) 3 rfl dX1_partsWaves_16 ?_
  refine g_bipush (pc := 18) (v := 25) dX1_partsWaves_18 (by decide) ?_
  refine bi_ge (pc := 20) 37 dX1_partsWaves_20 rfl (fun c1 => ?_) (fun c1 => ?_)
  · replace hf := am_ifT c1 hf
    refine g_aload_n (pc := 23) 0 rfl dX1_partsWaves_23 rfl ?_
    refine g_getC (pc := 24) (e := r0) (in_1 hX.1 (by omega)) fr_X1_22 dX1_partsWaves_24 rfl ?_
    refine g_iload (pc := 27) 3 rfl dX1_partsWaves_27 ?_
    refine g_lconst (pc := 29) (v := 0) dX1_partsWaves_29 (by decide) ?_
    obtain ⟨j2, hj2, hf⟩ := am_bd hf
    have gj2 := am_ix_lt hj2
    obtain ⟨s3, hs3, hf⟩ := am_bd hf
    refine g_sJ (pc := 30) (in_205 hX.1 (by omega)) ak_205 hj2 dX1_partsWaves_30 (Option.some.inj hs3) ?_
    refine g_iinc (pc := 31) (v := (v4 + 1)) 3 [(4, .int (v4 + 1)), (0, .ref (am_ad X 1 r0)), (1, .ref (am_ad X 10 r1)), (2, .ref (am_ad X 10 r2))] dX1_partsWaves_31 rfl rfl (Nat.le_of_ble_eq_true rfl) rfl ?_
    refine g_goto (pc := 34) 16 dX1_partsWaves_34 rfl ?_
    have hz := hk0 _ (Option.some.inj hf).symm
    exact am_sub [1, 2, 3, 0] rfl hz
  replace hf := am_ifF c1 hf
  have hz := hk1 _ (Option.some.inj hf).symm
  exact am_sub [0, 1, 2] rfl hz
set_option maxRecDepth 100000 in
set_option maxHeartbeats 4000000 in
theorem l_X1_partsWaves_16 {X : am_X} (hX : am_wC X) {Q : Option Value → am_H → Prop} (r0 : Nat) (r1 : Nat) (r2 : Nat) (hr0 : r0 < 2) (hr1 : r1 < 18) (hr2 : r2 < 18) (σ : am_H) (s : Int32 × am_H) {o : am_H} (hf : am_loop (fun s => f_X1_partsWaves_16 r0 r1 r2 s.1 s.2) s = some o) (hk1 : ∀ t, o = t → am_G X gm_X1_partsWaves Q 37 [(0, .ref (am_ad X 1 r0)), (1, .ref (am_ad X 10 r1)), (2, .ref (am_ad X 10 r2))] [] t) : am_G X gm_X1_partsWaves Q 16 [(0, .ref (am_ad X 1 r0)), (1, .ref (am_ad X 10 r1)), (2, .ref (am_ad X 10 r2)), (4, .int s.1)] [] s.2 := by
  refine am_loop_ind (P := fun s => am_G X gm_X1_partsWaves Q 16 [(0, .ref (am_ad X 1 r0)), (1, .ref (am_ad X 10 r1)), (2, .ref (am_ad X 10 r2)), (4, .int s.1)] [] s.2) (K := fun r => r = o) ?_ hf rfl
  intro s o1 hb hi hr
  exact q_X1_partsWaves_16 hX r0 r1 r2 s.1  hr0 hr1 hr2 s.2 hb hi (fun t e => hk1 t (hr _ e).symm)
noncomputable def f_X1_partsWaves_40 (r0 : Nat) (r1 : Nat) (r2 : Nat) (v4 : Int32) (σ : am_H) : Option ((Int32 × am_H) ⊕ (am_H)) :=
  if v4 < 5 then
   ((am_ix 5 v4).bind fun j2 =>
   (some (am_wL σ 206 r0 j2 0)).bind fun s3 =>
   some (.inl ((v4 + 1), s3)))
  else
  some (.inr σ)
set_option maxRecDepth 100000 in
set_option maxHeartbeats 4000000 in
theorem q_X1_partsWaves_40 {X : am_X} (hX : am_wC X) {Q : Option Value → am_H → Prop} (r0 : Nat) (r1 : Nat) (r2 : Nat) (v4 : Int32) (hr0 : r0 < 2) (hr1 : r1 < 18) (hr2 : r2 < 18) (σ : am_H) {o : (Int32 × am_H) ⊕ (am_H)} (hf : f_X1_partsWaves_40 r0 r1 r2 v4 σ = some o) (hk0 : ∀ s, o = .inl s → am_G X gm_X1_partsWaves Q 40 [(0, .ref (am_ad X 1 r0)), (1, .ref (am_ad X 10 r1)), (2, .ref (am_ad X 10 r2)), (4, .int s.1)] [] s.2) (hk1 : ∀ t, o = .inr t → am_G X gm_X1_partsWaves Q 60 [(0, .ref (am_ad X 1 r0)), (1, .ref (am_ad X 10 r1)), (2, .ref (am_ad X 10 r2))] [] t) : am_G X gm_X1_partsWaves Q 40 [(0, .ref (am_ad X 1 r0)), (1, .ref (am_ad X 10 r1)), (2, .ref (am_ad X 10 r2)), (4, .int v4)] [] σ := by
  unfold f_X1_partsWaves_40 at hf
  refine g_iload (pc := 40) 3 rfl dX1_partsWaves_40 ?_
  refine g_iconst (pc := 42) (v := 5) dX1_partsWaves_42 (by decide) ?_
  refine bi_ge (pc := 43) 60 dX1_partsWaves_43 rfl (fun c1 => ?_) (fun c1 => ?_)
  · replace hf := am_ifT c1 hf
    refine g_aload_n (pc := 46) 0 rfl dX1_partsWaves_46 rfl ?_
    refine g_getC (pc := 47) (e := r0) (in_1 hX.1 (by omega)) fr_X1_25 dX1_partsWaves_47 rfl ?_
    refine g_iload (pc := 50) 3 rfl dX1_partsWaves_50 ?_
    refine g_lconst (pc := 52) (v := 0) dX1_partsWaves_52 (by decide) ?_
    obtain ⟨j2, hj2, hf⟩ := am_bd hf
    have gj2 := am_ix_lt hj2
    obtain ⟨s3, hs3, hf⟩ := am_bd hf
    refine g_sJ (pc := 53) (in_206 hX.1 (by omega)) ak_206 hj2 dX1_partsWaves_53 (Option.some.inj hs3) ?_
    refine g_iinc (pc := 54) (v := (v4 + 1)) 3 [(4, .int (v4 + 1)), (0, .ref (am_ad X 1 r0)), (1, .ref (am_ad X 10 r1)), (2, .ref (am_ad X 10 r2))] dX1_partsWaves_54 rfl rfl (Nat.le_of_ble_eq_true rfl) rfl ?_
    refine g_goto (pc := 57) 40 dX1_partsWaves_57 rfl ?_
    have hz := hk0 _ (Option.some.inj hf).symm
    exact am_sub [1, 2, 3, 0] rfl hz
  replace hf := am_ifF c1 hf
  have hz := hk1 _ (Option.some.inj hf).symm
  exact am_sub [0, 1, 2] rfl hz
set_option maxRecDepth 100000 in
set_option maxHeartbeats 4000000 in
theorem l_X1_partsWaves_40 {X : am_X} (hX : am_wC X) {Q : Option Value → am_H → Prop} (r0 : Nat) (r1 : Nat) (r2 : Nat) (hr0 : r0 < 2) (hr1 : r1 < 18) (hr2 : r2 < 18) (σ : am_H) (s : Int32 × am_H) {o : am_H} (hf : am_loop (fun s => f_X1_partsWaves_40 r0 r1 r2 s.1 s.2) s = some o) (hk1 : ∀ t, o = t → am_G X gm_X1_partsWaves Q 60 [(0, .ref (am_ad X 1 r0)), (1, .ref (am_ad X 10 r1)), (2, .ref (am_ad X 10 r2))] [] t) : am_G X gm_X1_partsWaves Q 40 [(0, .ref (am_ad X 1 r0)), (1, .ref (am_ad X 10 r1)), (2, .ref (am_ad X 10 r2)), (4, .int s.1)] [] s.2 := by
  refine am_loop_ind (P := fun s => am_G X gm_X1_partsWaves Q 40 [(0, .ref (am_ad X 1 r0)), (1, .ref (am_ad X 10 r1)), (2, .ref (am_ad X 10 r2)), (4, .int s.1)] [] s.2) (K := fun r => r = o) ?_ hf rfl
  intro s o1 hb hi hr
  exact q_X1_partsWaves_40 hX r0 r1 r2 s.1  hr0 hr1 hr2 s.2 hb hi (fun t e => hk1 t (hr _ e).symm)
noncomputable def f_X1_partsWaves_63 (r0 : Nat) (r1 : Nat) (r2 : Nat) (v4 : Int32) (σ : am_H) : Option ((Int32 × am_H) ⊕ (am_H)) :=
  if v4 < (σ.1 1 r0 0) then
   ((f_X1_isGap r0 v4 σ).bind fun p2 =>
   if p2 = true then
    (some (.inl ((v4 + 1), σ)))
   else
   (f_X1_addReading r0 v4 r1 r2 σ).bind fun p4 =>
   some (.inl ((v4 + 1), p4)))
  else
  some (.inr σ)
set_option maxRecDepth 100000 in
set_option maxHeartbeats 4000000 in
theorem q_X1_partsWaves_63 {X : am_X} (hX : am_wC X) {Q : Option Value → am_H → Prop} (r0 : Nat) (r1 : Nat) (r2 : Nat) (v4 : Int32) (hr0 : r0 < 2) (hr1 : r1 < 18) (hr2 : r2 < 18) (σ : am_H) {o : (Int32 × am_H) ⊕ (am_H)} (hf : f_X1_partsWaves_63 r0 r1 r2 v4 σ = some o) (hk0 : ∀ s, o = .inl s → am_G X gm_X1_partsWaves Q 63 [(0, .ref (am_ad X 1 r0)), (1, .ref (am_ad X 10 r1)), (2, .ref (am_ad X 10 r2)), (4, .int s.1)] [] s.2) (hk1 : ∀ t, o = .inr t → am_G X gm_X1_partsWaves Q 95 [(0, .ref (am_ad X 1 r0))] [] t) : am_G X gm_X1_partsWaves Q 63 [(0, .ref (am_ad X 1 r0)), (1, .ref (am_ad X 10 r1)), (2, .ref (am_ad X 10 r2)), (4, .int v4)] [] σ := by
  unfold f_X1_partsWaves_63 at hf
  refine g_iload (pc := 63) 3 rfl dX1_partsWaves_63 ?_
  refine g_aload_n (pc := 65) 0 rfl dX1_partsWaves_65 rfl ?_
  refine g_getI (pc := 66) (in_1 hX.1 (by omega)) fr_X1_37 dX1_partsWaves_66 ?_
  refine bi_ge (pc := 69) 95 dX1_partsWaves_69 rfl (fun c1 => ?_) (fun c1 => ?_)
  · replace hf := am_ifT c1 hf
    refine g_aload_n (pc := 72) 0 rfl dX1_partsWaves_72 rfl ?_
    refine g_iload (pc := 73) 3 rfl dX1_partsWaves_73 ?_
    obtain ⟨p2, hp2, hf⟩ := am_bd hf
    refine g_cV (pc := 75) (As := [.int v4]) (st := []) (st1 := [.int (am_b p2)]) (in_1 hX.1 (by omega)) kk_1 mV_X1_isGap ln_X1_53 rfl (Nat.le_of_ble_eq_true rfl) (Nat.le_of_ble_eq_true rfl) (k_X1_isGap hX r0 v4 (by omega) σ hp2) dX1_partsWaves_75 rfl rfl ?_
    refine bt_ne (pc := 78) 89 dX1_partsWaves_78 rfl (fun c3 => ?_) (fun c3 => ?_)
    · replace hf := am_ifT c3 hf
      refine g_iinc (pc := 89) (v := (v4 + 1)) 3 [(4, .int (v4 + 1)), (0, .ref (am_ad X 1 r0)), (1, .ref (am_ad X 10 r1)), (2, .ref (am_ad X 10 r2))] dX1_partsWaves_89 rfl rfl (Nat.le_of_ble_eq_true rfl) rfl ?_
      refine g_goto (pc := 92) 63 dX1_partsWaves_92 rfl ?_
      have hz := hk0 _ (Option.some.inj hf).symm
      exact am_sub [1, 2, 3, 0] rfl hz
    replace hf := am_ifF c3 hf
    refine g_aload_n (pc := 81) 0 rfl dX1_partsWaves_81 rfl ?_
    refine g_iload (pc := 82) 3 rfl dX1_partsWaves_82 ?_
    refine g_aload_n (pc := 84) 1 rfl dX1_partsWaves_84 rfl ?_
    refine g_aload_n (pc := 85) 2 rfl dX1_partsWaves_85 rfl ?_
    obtain ⟨p4, hp4, hf⟩ := am_bd hf
    refine g_cV (pc := 86) (As := [.int v4, .ref (am_ad X 10 r1), .ref (am_ad X 10 r2)]) (st := []) (st1 := []) (in_1 hX.1 (by omega)) kk_1 mV_X1_addReading ln_X1_64 rfl (Nat.le_of_ble_eq_true rfl) (Nat.le_of_ble_eq_true rfl) (k_X1_addReading hX r0 v4 r1 r2 (by omega) (by omega) (by omega) σ hp4) dX1_partsWaves_86 rfl rfl ?_
    refine g_iinc (pc := 89) (v := (v4 + 1)) 3 [(4, .int (v4 + 1)), (0, .ref (am_ad X 1 r0)), (1, .ref (am_ad X 10 r1)), (2, .ref (am_ad X 10 r2))] dX1_partsWaves_89 rfl rfl (Nat.le_of_ble_eq_true rfl) rfl ?_
    refine g_goto (pc := 92) 63 dX1_partsWaves_92 rfl ?_
    have hz := hk0 _ (Option.some.inj hf).symm
    exact am_sub [1, 2, 3, 0] rfl hz
  replace hf := am_ifF c1 hf
  have hz := hk1 _ (Option.some.inj hf).symm
  exact am_sub [0] rfl hz
set_option maxRecDepth 100000 in
set_option maxHeartbeats 4000000 in
theorem l_X1_partsWaves_63 {X : am_X} (hX : am_wC X) {Q : Option Value → am_H → Prop} (r0 : Nat) (r1 : Nat) (r2 : Nat) (hr0 : r0 < 2) (hr1 : r1 < 18) (hr2 : r2 < 18) (σ : am_H) (s : Int32 × am_H) {o : am_H} (hf : am_loop (fun s => f_X1_partsWaves_63 r0 r1 r2 s.1 s.2) s = some o) (hk1 : ∀ t, o = t → am_G X gm_X1_partsWaves Q 95 [(0, .ref (am_ad X 1 r0))] [] t) : am_G X gm_X1_partsWaves Q 63 [(0, .ref (am_ad X 1 r0)), (1, .ref (am_ad X 10 r1)), (2, .ref (am_ad X 10 r2)), (4, .int s.1)] [] s.2 := by
  refine am_loop_ind (P := fun s => am_G X gm_X1_partsWaves Q 63 [(0, .ref (am_ad X 1 r0)), (1, .ref (am_ad X 10 r1)), (2, .ref (am_ad X 10 r2)), (4, .int s.1)] [] s.2) (K := fun r => r = o) ?_ hf rfl
  intro s o1 hb hi hr
  exact q_X1_partsWaves_63 hX r0 r1 r2 s.1  hr0 hr1 hr2 s.2 hb hi (fun t e => hk1 t (hr _ e).symm)
noncomputable def f_X1_partsWaves_10 (r0 : Nat) (r1 : Nat) (r2 : Nat) (k0 : Nat) (k1 : Int32) (σ : am_H) : Option (Bool × am_H) :=
  (some (am_wI σ 1 k0 3 k1)).bind fun s1 =>
  (am_loop (fun s => f_X1_partsWaves_16 r0 r1 r2 s.1 s.2) (0, s1)).bind fun w2 =>
  (am_loop (fun s => f_X1_partsWaves_40 r0 r1 r2 s.1 s.2) (0, w2)).bind fun w3 =>
  (am_loop (fun s => f_X1_partsWaves_63 r0 r1 r2 s.1 s.2) (0, w3)).bind fun w4 =>
  (f_X1_determinant 8 r0 0 0 (-1) w4).bind fun p5 =>
  (some (am_wL w4 1 r0 7 p5)).bind fun s6 =>
  if 0 < (s6.2.1 1 r0 7) then
   (some (true, s6))
  else
  some (false, s6)
set_option maxRecDepth 100000 in
set_option maxHeartbeats 4000000 in
theorem q_X1_partsWaves_10 {X : am_X} (hX : am_wC X) {Q : Option Value → am_H → Prop} (r0 : Nat) (r1 : Nat) (r2 : Nat) (k0 : Nat) (k1 : Int32) (hr0 : r0 < 2) (hr1 : r1 < 18) (hr2 : r2 < 18) (hk0 : k0 < 2) (σ : am_H) {o : Bool × am_H} (hf : f_X1_partsWaves_10 r0 r1 r2 k0 k1 σ = some o) (hk : Q (some (.int (am_b o.1))) o.2) : am_G X gm_X1_partsWaves Q 10 [(0, .ref (am_ad X 1 r0)), (1, .ref (am_ad X 10 r1)), (2, .ref (am_ad X 10 r2))] [.int k1, .ref (am_ad X 1 k0)] σ := by
  unfold f_X1_partsWaves_10 at hf
  obtain ⟨s1, hs1, hf⟩ := am_bd hf
  refine g_setI (pc := 10) (in_1 hX.1 (by omega)) fr_X1_61 dX1_partsWaves_10 (Option.some.inj hs1) ?_
  refine g_iconst (pc := 13) (v := 0) dX1_partsWaves_13 (by decide) ?_
  refine g_istore (pc := 14) [(4, .int 0), (0, .ref (am_ad X 1 r0)), (1, .ref (am_ad X 10 r1)), (2, .ref (am_ad X 10 r2))] dX1_partsWaves_14 (Nat.le_of_ble_eq_true rfl) rfl ?_
  obtain ⟨w2, hw2, hf⟩ := am_bd hf
  refine am_sub [1, 2, 3, 0] rfl (l_X1_partsWaves_16 hX r0 r1 r2 (by omega) (by omega) (by omega) s1 (0, s1) hw2 ?_)
  intro t e
  subst e
  refine g_iconst (pc := 37) (v := 0) dX1_partsWaves_37 (by decide) ?_
  refine g_istore (pc := 38) [(4, .int 0), (0, .ref (am_ad X 1 r0)), (1, .ref (am_ad X 10 r1)), (2, .ref (am_ad X 10 r2))] dX1_partsWaves_38 (Nat.le_of_ble_eq_true rfl) rfl ?_
  obtain ⟨w3, hw3, hf⟩ := am_bd hf
  refine am_sub [1, 2, 3, 0] rfl (l_X1_partsWaves_40 hX r0 r1 r2 (by omega) (by omega) (by omega) w2 (0, w2) hw3 ?_)
  intro t e
  subst e
  refine g_iconst (pc := 60) (v := 0) dX1_partsWaves_60 (by decide) ?_
  refine g_istore (pc := 61) [(4, .int 0), (0, .ref (am_ad X 1 r0)), (1, .ref (am_ad X 10 r1)), (2, .ref (am_ad X 10 r2))] dX1_partsWaves_61 (Nat.le_of_ble_eq_true rfl) rfl ?_
  obtain ⟨w4, hw4, hf⟩ := am_bd hf
  refine am_sub [1, 2, 3, 0] rfl (l_X1_partsWaves_63 hX r0 r1 r2 (by omega) (by omega) (by omega) w3 (0, w3) hw4 ?_)
  intro t e
  subst e
  refine g_aload_n (pc := 95) 0 rfl dX1_partsWaves_95 rfl ?_
  refine g_aload_n (pc := 96) 0 rfl dX1_partsWaves_96 rfl ?_
  refine g_iconst (pc := 97) (v := 0) dX1_partsWaves_97 (by decide) ?_
  refine g_iconst (pc := 98) (v := 0) dX1_partsWaves_98 (by decide) ?_
  refine g_iconst (pc := 99) (v := (-1)) dX1_partsWaves_99 (by decide) ?_
  obtain ⟨p5, hp5, hf⟩ := am_bd hf
  refine g_cV (pc := 100) (As := [.int 0, .int 0, .int (-1)]) (st := [.ref (am_ad X 1 r0)]) (st1 := [.long p5, .ref (am_ad X 1 r0)]) (in_1 hX.1 (by omega)) kk_1 (mV_X1_determinant _) ln_X1_68 rfl (Nat.le_of_ble_eq_true rfl) (Nat.le_of_ble_eq_true rfl) (k_X1_determinant hX 8 r0 0 0 (-1) (by omega) w4 hp5) dX1_partsWaves_100 rfl rfl ?_
  obtain ⟨s6, hs6, hf⟩ := am_bd hf
  refine g_setJ (pc := 103) (in_1 hX.1 (by omega)) fr_X1_72 dX1_partsWaves_103 (Option.some.inj hs6) ?_
  refine g_aload_n (pc := 106) 0 rfl dX1_partsWaves_106 rfl ?_
  refine g_getJ (pc := 107) (in_1 hX.1 (by omega)) fr_X1_72 dX1_partsWaves_107 ?_
  refine g_lconst (pc := 110) (v := 0) dX1_partsWaves_110 (by decide) ?_
  refine g_lcm (pc := 111) dX1_partsWaves_111 ?_
  refine bl_le (pc := 112) 119 dX1_partsWaves_112 rfl (fun c7 => ?_) (fun c7 => ?_)
  · replace hf := am_ifT c7 hf
    refine g_iconst (pc := 115) (v := 1) dX1_partsWaves_115 (by decide) ?_
    refine g_goto (pc := 116) 120 dX1_partsWaves_116 rfl ?_
    have ho := Option.some.inj hf
    subst ho
    exact g_zreturn (pc := 120) (st := []) (x := true) rfl dX1_partsWaves_120 hk
  replace hf := am_ifF c7 hf
  refine g_iconst (pc := 119) (v := 0) dX1_partsWaves_119 (by decide) ?_
  have ho := Option.some.inj hf
  subst ho
  exact g_zreturn (pc := 120) (st := []) (x := false) rfl dX1_partsWaves_120 hk
noncomputable def f_X1_partsWaves (r0 : Nat) (r1 : Nat) (r2 : Nat) (v3 : Bool) (σ : am_H) : Option (Bool × am_H) :=
  if v3 = true then
   (f_X1_partsWaves_10 r0 r1 r2 r0 3 σ)
  else
  f_X1_partsWaves_10 r0 r1 r2 r0 5 σ
set_option maxRecDepth 100000 in
set_option maxHeartbeats 4000000 in
theorem q_X1_partsWaves {X : am_X} (hX : am_wC X) {Q : Option Value → am_H → Prop} (r0 : Nat) (r1 : Nat) (r2 : Nat) (v3 : Bool) (hr0 : r0 < 2) (hr1 : r1 < 18) (hr2 : r2 < 18) (σ : am_H) {o : Bool × am_H} (hf : f_X1_partsWaves r0 r1 r2 v3 σ = some o) (hk : Q (some (.int (am_b o.1))) o.2) : am_G X gm_X1_partsWaves Q 0 [(0, .ref (am_ad X 1 r0)), (1, .ref (am_ad X 10 r1)), (2, .ref (am_ad X 10 r2)), (3, .int (am_b v3))] [] σ := by
  unfold f_X1_partsWaves at hf
  refine g_aload_n (pc := 0) 0 rfl dX1_partsWaves_0 rfl ?_
  refine g_iload_n (pc := 1) 3 rfl dX1_partsWaves_1 rfl ?_
  refine bt_eq (pc := 2) 9 dX1_partsWaves_2 rfl (fun c1 => ?_) (fun c1 => ?_)
  · replace hf := am_ifT c1 hf
    refine g_iconst (pc := 5) (v := 3) dX1_partsWaves_5 (by decide) ?_
    refine g_goto (pc := 6) 10 dX1_partsWaves_6 rfl ?_
    exact am_sub [0, 1, 2] rfl (q_X1_partsWaves_10 hX r0 r1 r2 r0 3 (by omega) (by omega) (by omega) (by omega) σ hf hk)
  replace hf := am_ifF c1 hf
  refine g_iconst (pc := 9) (v := 5) dX1_partsWaves_9 (by decide) ?_
  exact am_sub [0, 1, 2] rfl (q_X1_partsWaves_10 hX r0 r1 r2 r0 5 (by omega) (by omega) (by omega) (by omega) σ hf hk)
theorem k_X1_partsWaves {X : am_X} (hX : am_wC X) (r0 : Nat) (r1 : Nat) (r2 : Nat) (v3 : Bool) (hr0 : r0 < 2) (hr1 : r1 < 18) (hr2 : r2 < 18) (σ : am_H) {o : Bool × am_H} (hf : f_X1_partsWaves r0 r1 r2 v3 σ = some o) : am_C X gm_X1_partsWaves [.ref (am_ad X 1 r0), .ref (am_ad X 10 r1), .ref (am_ad X 10 r2), .int (am_b v3)] σ (am_is (some (.int (am_b o.1))) o.2) :=
  am_ofG rfl (Nat.le_of_ble_eq_true rfl) rfl (q_X1_partsWaves hX r0 r1 r2 v3 hr0 hr1 hr2 σ hf ⟨rfl, rfl⟩)
theorem dX1_partTop_0 : decode cX1_partTop 0 = .ok (.aload_n 0, 1) := by decide +kernel
theorem dX1_partTop_1 : decode cX1_partTop 1 = .ok (.iconst 0, 1) := by decide +kernel
theorem dX1_partTop_2 : decode cX1_partTop 2 = .ok (.iconst 0, 1) := by decide +kernel
theorem dX1_partTop_3 : decode cX1_partTop 3 = .ok (.iload_n 1, 1) := by decide +kernel
theorem dX1_partTop_4 : decode cX1_partTop 4 = .ok (.invokevirtual 68, 3) := by decide +kernel
theorem dX1_partTop_7 : decode cX1_partTop 7 = .ok (.lreturn, 1) := by decide +kernel
noncomputable def f_X1_partTop (r0 : Nat) (v1 : Int32) (σ : am_H) : Option (Int64) :=
  (f_X1_determinant 8 r0 0 0 v1 σ).bind fun p1 =>
  some p1
set_option maxRecDepth 100000 in
set_option maxHeartbeats 4000000 in
theorem q_X1_partTop {X : am_X} (hX : am_wC X) {Q : Option Value → am_H → Prop} (r0 : Nat) (v1 : Int32) (hr0 : r0 < 2) (σ : am_H) {o : Int64} (hf : f_X1_partTop r0 v1 σ = some o) (hk : Q (some (.long o)) σ) : am_G X gm_X1_partTop Q 0 [(0, .ref (am_ad X 1 r0)), (1, .int v1)] [] σ := by
  unfold f_X1_partTop at hf
  refine g_aload_n (pc := 0) 0 rfl dX1_partTop_0 rfl ?_
  refine g_iconst (pc := 1) (v := 0) dX1_partTop_1 (by decide) ?_
  refine g_iconst (pc := 2) (v := 0) dX1_partTop_2 (by decide) ?_
  refine g_iload_n (pc := 3) 1 rfl dX1_partTop_3 rfl ?_
  obtain ⟨p1, hp1, hf⟩ := am_bd hf
  refine g_cV (pc := 4) (As := [.int 0, .int 0, .int v1]) (st := []) (st1 := [.long p1]) (in_1 hX.1 (by omega)) kk_1 (mV_X1_determinant _) ln_X1_68 rfl (Nat.le_of_ble_eq_true rfl) (Nat.le_of_ble_eq_true rfl) (k_X1_determinant hX 8 r0 0 0 v1 (by omega) σ hp1) dX1_partTop_4 rfl rfl ?_
  have ho := Option.some.inj hf
  subst ho
  exact g_lreturn (pc := 7) (st := []) rfl dX1_partTop_7 hk
theorem k_X1_partTop {X : am_X} (hX : am_wC X) (r0 : Nat) (v1 : Int32) (hr0 : r0 < 2) (σ : am_H) {o : Int64} (hf : f_X1_partTop r0 v1 σ = some o) : am_C X gm_X1_partTop [.ref (am_ad X 1 r0), .int v1] σ (am_is (some (.long o)) σ) :=
  am_ofG rfl (Nat.le_of_ble_eq_true rfl) rfl (q_X1_partTop hX r0 v1 hr0 σ hf ⟨rfl, rfl⟩)
theorem dX1_roundedPart_0 : decode cX1_roundedPart 0 = .ok (.aload_n 0, 1) := by decide +kernel
theorem dX1_roundedPart_1 : decode cX1_roundedPart 1 = .ok (.getfield 72, 3) := by decide +kernel
theorem dX1_roundedPart_4 : decode cX1_roundedPart 4 = .ok (.lconst 0, 1) := by decide +kernel
theorem dX1_roundedPart_5 : decode cX1_roundedPart 5 = .ok (.lcmp, 1) := by decide +kernel
theorem dX1_roundedPart_6 : decode cX1_roundedPart 6 = .ok (.ifCond .gt 7, 3) := by decide +kernel
theorem dX1_roundedPart_9 : decode cX1_roundedPart 9 = .ok (.lconst 0, 1) := by decide +kernel
theorem dX1_roundedPart_10 : decode cX1_roundedPart 10 = .ok (.goto 13, 3) := by decide +kernel
theorem dX1_roundedPart_13 : decode cX1_roundedPart 13 = .ok (.aload_n 0, 1) := by decide +kernel
theorem dX1_roundedPart_14 : decode cX1_roundedPart 14 = .ok (.iload_n 1, 1) := by decide +kernel
theorem dX1_roundedPart_15 : decode cX1_roundedPart 15 = .ok (.invokevirtual 88, 3) := by decide +kernel
theorem dX1_roundedPart_18 : decode cX1_roundedPart 18 = .ok (.aload_n 0, 1) := by decide +kernel
theorem dX1_roundedPart_19 : decode cX1_roundedPart 19 = .ok (.getfield 72, 3) := by decide +kernel
theorem dX1_roundedPart_22 : decode cX1_roundedPart 22 = .ok (.ldiv, 1) := by decide +kernel
theorem dX1_roundedPart_23 : decode cX1_roundedPart 23 = .ok (.lreturn, 1) := by decide +kernel
noncomputable def f_X1_roundedPart (r0 : Nat) (v1 : Int32) (σ : am_H) : Option (Int64) :=
  if 0 < (σ.2.1 1 r0 7) then
   ((f_X1_partTop r0 v1 σ).bind fun p2 =>
   if (σ.2.1 1 r0 7) = 0 then none else
   some (p2 / (σ.2.1 1 r0 7)))
  else
  some 0
set_option maxRecDepth 100000 in
set_option maxHeartbeats 4000000 in
theorem q_X1_roundedPart {X : am_X} (hX : am_wC X) {Q : Option Value → am_H → Prop} (r0 : Nat) (v1 : Int32) (hr0 : r0 < 2) (σ : am_H) {o : Int64} (hf : f_X1_roundedPart r0 v1 σ = some o) (hk : Q (some (.long o)) σ) : am_G X gm_X1_roundedPart Q 0 [(0, .ref (am_ad X 1 r0)), (1, .int v1)] [] σ := by
  unfold f_X1_roundedPart at hf
  refine g_aload_n (pc := 0) 0 rfl dX1_roundedPart_0 rfl ?_
  refine g_getJ (pc := 1) (in_1 hX.1 (by omega)) fr_X1_72 dX1_roundedPart_1 ?_
  refine g_lconst (pc := 4) (v := 0) dX1_roundedPart_4 (by decide) ?_
  refine g_lcm (pc := 5) dX1_roundedPart_5 ?_
  refine bl_gt (pc := 6) 13 dX1_roundedPart_6 rfl (fun c1 => ?_) (fun c1 => ?_)
  · replace hf := am_ifT c1 hf
    refine g_aload_n (pc := 13) 0 rfl dX1_roundedPart_13 rfl ?_
    refine g_iload_n (pc := 14) 1 rfl dX1_roundedPart_14 rfl ?_
    obtain ⟨p2, hp2, hf⟩ := am_bd hf
    refine g_cV (pc := 15) (As := [.int v1]) (st := []) (st1 := [.long p2]) (in_1 hX.1 (by omega)) kk_1 mV_X1_partTop ln_X1_88 rfl (Nat.le_of_ble_eq_true rfl) (Nat.le_of_ble_eq_true rfl) (k_X1_partTop hX r0 v1 (by omega) σ hp2) dX1_roundedPart_15 rfl rfl ?_
    refine g_aload_n (pc := 18) 0 rfl dX1_roundedPart_18 rfl ?_
    refine g_getJ (pc := 19) (in_1 hX.1 (by omega)) fr_X1_72 dX1_roundedPart_19 ?_
    by_cases z3 : (σ.2.1 1 r0 7) = 0
    · exact absurd (am_ifT z3 hf) (by simp)
    replace hf := am_ifF z3 hf
    refine g_ldiv (pc := 22) dX1_roundedPart_22 z3 ?_
    have ho := Option.some.inj hf
    subst ho
    exact g_lreturn (pc := 23) (st := []) rfl dX1_roundedPart_23 hk
  replace hf := am_ifF c1 hf
  refine g_lconst (pc := 9) (v := 0) dX1_roundedPart_9 (by decide) ?_
  refine g_goto (pc := 10) 23 dX1_roundedPart_10 rfl ?_
  have ho := Option.some.inj hf
  subst ho
  exact g_lreturn (pc := 23) (st := []) rfl dX1_roundedPart_23 hk
theorem k_X1_roundedPart {X : am_X} (hX : am_wC X) (r0 : Nat) (v1 : Int32) (hr0 : r0 < 2) (σ : am_H) {o : Int64} (hf : f_X1_roundedPart r0 v1 σ = some o) : am_C X gm_X1_roundedPart [.ref (am_ad X 1 r0), .int v1] σ (am_is (some (.long o)) σ) :=
  am_ofG rfl (Nat.le_of_ble_eq_true rfl) rfl (q_X1_roundedPart hX r0 v1 hr0 σ hf ⟨rfl, rfl⟩)
