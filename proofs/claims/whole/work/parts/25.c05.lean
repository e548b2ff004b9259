theorem dX6_findTrade_0 : decode cX6_findTrade 0 = .ok (.aload_n 0, 1) := by decide +kernel
theorem dX6_findTrade_1 : decode cX6_findTrade 1 = .ok (.iload_n 3, 1) := by decide +kernel
theorem dX6_findTrade_2 : decode cX6_findTrade 2 = .ok (.putfield 13, 3) := by decide +kernel
theorem dX6_findTrade_5 : decode cX6_findTrade 5 = .ok (.aload_n 0, 1) := by decide +kernel
theorem dX6_findTrade_6 : decode cX6_findTrade 6 = .ok (.aload_n 0, 1) := by decide +kernel
theorem dX6_findTrade_7 : decode cX6_findTrade 7 = .ok (.aload_n 1, 1) := by decide +kernel
theorem dX6_findTrade_8 : decode cX6_findTrade 8 = .ok (.invokevirtual 17, 3) := by decide +kernel
theorem dX6_findTrade_11 : decode cX6_findTrade 11 = .ok (.aload_n 0, 1) := by decide +kernel
theorem dX6_findTrade_12 : decode cX6_findTrade 12 = .ok (.aload_n 2, 1) := by decide +kernel
theorem dX6_findTrade_13 : decode cX6_findTrade 13 = .ok (.invokevirtual 17, 3) := by decide +kernel
theorem dX6_findTrade_16 : decode cX6_findTrade 16 = .ok (.ladd, 1) := by decide +kernel
theorem dX6_findTrade_17 : decode cX6_findTrade 17 = .ok (.putfield 21, 3) := by decide +kernel
theorem dX6_findTrade_20 : decode cX6_findTrade 20 = .ok (.aload_n 0, 1) := by decide +kernel
theorem dX6_findTrade_21 : decode cX6_findTrade 21 = .ok (.aload_n 0, 1) := by decide +kernel
theorem dX6_findTrade_22 : decode cX6_findTrade 22 = .ok (.getfield 21, 3) := by decide +kernel
theorem dX6_findTrade_25 : decode cX6_findTrade 25 = .ok (.putfield 25, 3) := by decide +kernel
theorem dX6_findTrade_28 : decode cX6_findTrade 28 = .ok (.aload_n 0, 1) := by decide +kernel
theorem dX6_findTrade_29 : decode cX6_findTrade 29 = .ok (.iconst 0, 1) := by decide +kernel
theorem dX6_findTrade_30 : decode cX6_findTrade 30 = .ok (.putfield 28, 3) := by decide +kernel
theorem dX6_findTrade_33 : decode cX6_findTrade 33 = .ok (.iconst 0, 1) := by decide +kernel
theorem dX6_findTrade_34 : decode cX6_findTrade 34 = .ok (.istore 4, 2) := by decide +kernel
theorem dX6_findTrade_36 : decode cX6_findTrade 36 = .ok (.iload 4, 2) := by decide +kernel
theorem dX6_findTrade_38 : decode cX6_findTrade 38 = .ok (.aload_n 1, 1) := by decide +kernel
theorem dX6_findTrade_39 : decode cX6_findTrade 39 = .ok (.getfield 32, 3) := by decide +kernel
theorem dX6_findTrade_42 : decode cX6_findTrade 42 = .ok (.if_icmp .ge 49, 3) := by decide +kernel
theorem dX6_findTrade_45 : decode cX6_findTrade 45 = .ok (.iconst 0, 1) := by decide +kernel
theorem dX6_findTrade_46 : decode cX6_findTrade 46 = .ok (.istore 5, 2) := by decide +kernel
theorem dX6_findTrade_48 : decode cX6_findTrade 48 = .ok (.iload 5, 2) := by decide +kernel
theorem dX6_findTrade_50 : decode cX6_findTrade 50 = .ok (.aload_n 1, 1) := by decide +kernel
theorem dX6_findTrade_51 : decode cX6_findTrade 51 = .ok (.getfield 37, 3) := by decide +kernel
theorem dX6_findTrade_54 : decode cX6_findTrade 54 = .ok (.iload 4, 2) := by decide +kernel
theorem dX6_findTrade_56 : decode cX6_findTrade 56 = .ok (.aaload, 1) := by decide +kernel
theorem dX6_findTrade_57 : decode cX6_findTrade 57 = .ok (.invokevirtual 41, 3) := by decide +kernel
theorem dX6_findTrade_60 : decode cX6_findTrade 60 = .ok (.if_icmp .ge 25, 3) := by decide +kernel
theorem dX6_findTrade_63 : decode cX6_findTrade 63 = .ok (.aload_n 0, 1) := by decide +kernel
theorem dX6_findTrade_64 : decode cX6_findTrade 64 = .ok (.aload_n 1, 1) := by decide +kernel
theorem dX6_findTrade_65 : decode cX6_findTrade 65 = .ok (.getfield 37, 3) := by decide +kernel
theorem dX6_findTrade_68 : decode cX6_findTrade 68 = .ok (.iload 4, 2) := by decide +kernel
theorem dX6_findTrade_70 : decode cX6_findTrade 70 = .ok (.aaload, 1) := by decide +kernel
theorem dX6_findTrade_71 : decode cX6_findTrade 71 = .ok (.aload_n 2, 1) := by decide +kernel
theorem dX6_findTrade_72 : decode cX6_findTrade 72 = .ok (.iload 4, 2) := by decide +kernel
theorem dX6_findTrade_74 : decode cX6_findTrade 74 = .ok (.iload 5, 2) := by decide +kernel
theorem dX6_findTrade_76 : decode cX6_findTrade 76 = .ok (.invokevirtual 47, 3) := by decide +kernel
theorem dX6_findTrade_79 : decode cX6_findTrade 79 = .ok (.iinc 5 1, 3) := by decide +kernel
theorem dX6_findTrade_82 : decode cX6_findTrade 82 = .ok (.goto (-34), 3) := by decide +kernel
theorem dX6_findTrade_85 : decode cX6_findTrade 85 = .ok (.iinc 4 1, 3) := by decide +kernel
theorem dX6_findTrade_88 : decode cX6_findTrade 88 = .ok (.goto (-52), 3) := by decide +kernel
theorem dX6_findTrade_91 : decode cX6_findTrade 91 = .ok (.return_, 1) := by decide +kernel
noncomputable def f_X6_findTrade_48 (r1 : Nat) (r2 : Nat) (v4 : Int32) (v5 : Int32) (σ : am_H) : Option ((Int32 × am_H) ⊕ (am_H)) :=
  (am_ix 6 v4).bind fun j1 =>
  (f_X10_wheels (6 * r1 + j1) σ).bind fun p2 =>
  if v5 < p2 then
   ((am_ix 6 v4).bind fun j4 =>
   (f_X6_tryAll (6 * r1 + j4) r2 v4 v5 σ).bind fun p5 =>
   some (.inl ((v5 + 1), p5)))
  else
  some (.inr σ)
set_option maxRecDepth 100000 in
set_option maxHeartbeats 4000000 in
theorem q_X6_findTrade_48 {X : am_X} (hX : am_wC X) {Q : Option Value → am_H → Prop} (r1 : Nat) (r2 : Nat) (v4 : Int32) (v5 : Int32) (hr1 : r1 < 3) (hr2 : r2 < 3) (σ : am_H) {o : (Int32 × am_H) ⊕ (am_H)} (hf : f_X6_findTrade_48 r1 r2 v4 v5 σ = some o) (hk0 : ∀ s, o = .inl s → am_G X gm_X6_findTrade Q 48 [(0, .ref (am_ad X 6 0)), (1, .ref (am_ad X 3 r1)), (2, .ref (am_ad X 3 r2)), (4, .int v4), (5, .int s.1)] [] s.2) (hk1 : ∀ t, o = .inr t → am_G X gm_X6_findTrade Q 85 [(0, .ref (am_ad X 6 0)), (1, .ref (am_ad X 3 r1)), (2, .ref (am_ad X 3 r2)), (4, .int v4)] [] t) : am_G X gm_X6_findTrade Q 48 [(0, .ref (am_ad X 6 0)), (1, .ref (am_ad X 3 r1)), (2, .ref (am_ad X 3 r2)), (4, .int v4), (5, .int v5)] [] σ := by
  unfold f_X6_findTrade_48 at hf
  refine g_iload (pc := 48) 4 rfl dX6_findTrade_48 ?_
  refine g_aload_n (pc := 50) 1 rfl dX6_findTrade_50 rfl ?_
  refine g_getC (pc := 51) (e := r1) (in_3 hX.1 (by omega)) fr_X6_37 dX6_findTrade_51 rfl ?_
  refine g_iload (pc := 54) 3 rfl dX6_findTrade_54 ?_
  obtain ⟨j1, hj1, hf⟩ := am_bd hf
  have gj1 := am_ix_lt hj1
  refine g_aC (pc := 56) (e := (6 * r1 + j1)) (in_400 hX.1 (by omega)) ak_400 hj1 rfl dX6_findTrade_56 ?_
  obtain ⟨p2, hp2, hf⟩ := am_bd hf
  refine g_cV (pc := 57) (As := []) (st := [.int v5]) (st1 := [.int p2, .int v5]) (in_10 hX.1 (by omega)) kk_10 mV_X10_wheels ln_X6_41 rfl (Nat.le_of_ble_eq_true rfl) (Nat.le_of_ble_eq_true rfl) (k_X10_wheels hX (6 * r1 + j1) (by omega) σ hp2) dX6_findTrade_57 rfl rfl ?_
  refine bi_ge (pc := 60) 85 dX6_findTrade_60 rfl (fun c3 => ?_) (fun c3 => ?_)
  · replace hf := am_ifT c3 hf
    refine g_aload_n (pc := 63) 0 rfl dX6_findTrade_63 rfl ?_
    refine g_aload_n (pc := 64) 1 rfl dX6_findTrade_64 rfl ?_
    refine g_getC (pc := 65) (e := r1) (in_3 hX.1 (by omega)) fr_X6_37 dX6_findTrade_65 rfl ?_
    refine g_iload (pc := 68) 3 rfl dX6_findTrade_68 ?_
    obtain ⟨j4, hj4, hf⟩ := am_bd hf
    have gj4 := am_ix_lt hj4
    refine g_aC (pc := 70) (e := (6 * r1 + j4)) (in_400 hX.1 (by omega)) ak_400 hj4 rfl dX6_findTrade_70 ?_
    refine g_aload_n (pc := 71) 2 rfl dX6_findTrade_71 rfl ?_
    refine g_iload (pc := 72) 3 rfl dX6_findTrade_72 ?_
    refine g_iload (pc := 74) 4 rfl dX6_findTrade_74 ?_
    obtain ⟨p5, hp5, hf⟩ := am_bd hf
    refine g_cV (pc := 76) (As := [.ref (am_ad X 10 (6 * r1 + j4)), .ref (am_ad X 3 r2), .int v4, .int v5]) (st := []) (st1 := []) (in_6 hX.1 (by omega)) kk_6 mV_X6_tryAll ln_X6_47 rfl (Nat.le_of_ble_eq_true rfl) (Nat.le_of_ble_eq_true rfl) (k_X6_tryAll hX (6 * r1 + j4) r2 v4 v5 (by omega) (by omega) σ hp5) dX6_findTrade_76 rfl rfl ?_
    refine g_iinc (pc := 79) (v := (v5 + 1)) 4 [(5, .int (v5 + 1)), (0, .ref (am_ad X 6 0)), (1, .ref (am_ad X 3 r1)), (2, .ref (am_ad X 3 r2)), (4, .int v4)] dX6_findTrade_79 rfl rfl (Nat.le_of_ble_eq_true rfl) rfl ?_
    refine g_goto (pc := 82) 48 dX6_findTrade_82 rfl ?_
    have hz := hk0 _ (Option.some.inj hf).symm
    exact am_sub [1, 2, 3, 4, 0] rfl hz
  replace hf := am_ifF c3 hf
  have hz := hk1 _ (Option.some.inj hf).symm
  exact am_sub [0, 1, 2, 3] rfl hz
set_option maxRecDepth 100000 in
set_option maxHeartbeats 4000000 in
theorem l_X6_findTrade_48 {X : am_X} (hX : am_wC X) {Q : Option Value → am_H → Prop} (r1 : Nat) (r2 : Nat) (v4 : Int32) (hr1 : r1 < 3) (hr2 : r2 < 3) (σ : am_H) (s : Int32 × am_H) {o : am_H} (hf : am_loop (fun s => f_X6_findTrade_48 r1 r2 v4 s.1 s.2) s = some o) (hk1 : ∀ t, o = t → am_G X gm_X6_findTrade Q 85 [(0, .ref (am_ad X 6 0)), (1, .ref (am_ad X 3 r1)), (2, .ref (am_ad X 3 r2)), (4, .int v4)] [] t) : am_G X gm_X6_findTrade Q 48 [(0, .ref (am_ad X 6 0)), (1, .ref (am_ad X 3 r1)), (2, .ref (am_ad X 3 r2)), (4, .int v4), (5, .int s.1)] [] s.2 := by
  refine am_loop_ind (P := fun s => am_G X gm_X6_findTrade Q 48 [(0, .ref (am_ad X 6 0)), (1, .ref (am_ad X 3 r1)), (2, .ref (am_ad X 3 r2)), (4, .int v4), (5, .int s.1)] [] s.2) (K := fun r => r = o) ?_ hf rfl
  intro s o1 hb hi hr
  exact q_X6_findTrade_48 hX r1 r2 v4 s.1  hr1 hr2 s.2 hb hi (fun t e => hk1 t (hr _ e).symm)
noncomputable def f_X6_findTrade_36 (r1 : Nat) (r2 : Nat) (v4 : Int32) (σ : am_H) : Option ((Int32 × am_H) ⊕ (am_H)) :=
  if v4 < (σ.1 3 r1 1) then
   ((am_loop (fun s => f_X6_findTrade_48 r1 r2 v4 s.1 s.2) (0, σ)).bind fun w2 =>
   some (.inl ((v4 + 1), w2)))
  else
  some (.inr σ)
set_option maxRecDepth 100000 in
set_option maxHeartbeats 4000000 in
theorem q_X6_findTrade_36 {X : am_X} (hX : am_wC X) {Q : Option Value → am_H → Prop} (r1 : Nat) (r2 : Nat) (v4 : Int32) (hr1 : r1 < 3) (hr2 : r2 < 3) (σ : am_H) {o : (Int32 × am_H) ⊕ (am_H)} (hf : f_X6_findTrade_36 r1 r2 v4 σ = some o) (hk0 : ∀ s, o = .inl s → am_G X gm_X6_findTrade Q 36 [(0, .ref (am_ad X 6 0)), (1, .ref (am_ad X 3 r1)), (2, .ref (am_ad X 3 r2)), (4, .int s.1)] [] s.2) (hk1 : ∀ t, o = .inr t → am_G X gm_X6_findTrade Q 91 [] [] t) : am_G X gm_X6_findTrade Q 36 [(0, .ref (am_ad X 6 0)), (1, .ref (am_ad X 3 r1)), (2, .ref (am_ad X 3 r2)), (4, .int v4)] [] σ := by
  unfold f_X6_findTrade_36 at hf
  refine g_iload (pc := 36) 3 rfl dX6_findTrade_36 ?_
  refine g_aload_n (pc := 38) 1 rfl dX6_findTrade_38 rfl ?_
  refine g_getI (pc := 39) (in_3 hX.1 (by omega)) fr_X6_32 dX6_findTrade_39 ?_
  refine bi_ge (pc := 42) 91 dX6_findTrade_42 rfl (fun c1 => ?_) (fun c1 => ?_)
  · replace hf := am_ifT c1 hf
    refine g_iconst (pc := 45) (v := 0) dX6_findTrade_45 (by decide) ?_
    refine g_istore (pc := 46) [(5, .int 0), (0, .ref (am_ad X 6 0)), (1, .ref (am_ad X 3 r1)), (2, .ref (am_ad X 3 r2)), (4, .int v4)] dX6_findTrade_46 (Nat.le_of_ble_eq_true rfl) rfl ?_
    obtain ⟨w2, hw2, hf⟩ := am_bd hf
    refine am_sub [1, 2, 3, 4, 0] rfl (l_X6_findTrade_48 hX r1 r2 v4 (by omega) (by omega) σ (0, σ) hw2 ?_)
    intro t e
    subst e
    refine g_iinc (pc := 85) (v := (v4 + 1)) 3 [(4, .int (v4 + 1)), (0, .ref (am_ad X 6 0)), (1, .ref (am_ad X 3 r1)), (2, .ref (am_ad X 3 r2))] dX6_findTrade_85 rfl rfl (Nat.le_of_ble_eq_true rfl) rfl ?_
    refine g_goto (pc := 88) 36 dX6_findTrade_88 rfl ?_
    have hz := hk0 _ (Option.some.inj hf).symm
    exact am_sub [1, 2, 3, 0] rfl hz
  replace hf := am_ifF c1 hf
  have hz := hk1 _ (Option.some.inj hf).symm
  exact am_sub [] rfl hz
set_option maxRecDepth 100000 in
set_option maxHeartbeats 4000000 in
theorem l_X6_findTrade_36 {X : am_X} (hX : am_wC X) {Q : Option Value → am_H → Prop} (r1 : Nat) (r2 : Nat) (hr1 : r1 < 3) (hr2 : r2 < 3) (σ : am_H) (s : Int32 × am_H) {o : am_H} (hf : am_loop (fun s => f_X6_findTrade_36 r1 r2 s.1 s.2) s = some o) (hk1 : ∀ t, o = t → am_G X gm_X6_findTrade Q 91 [] [] t) : am_G X gm_X6_findTrade Q 36 [(0, .ref (am_ad X 6 0)), (1, .ref (am_ad X 3 r1)), (2, .ref (am_ad X 3 r2)), (4, .int s.1)] [] s.2 := by
  refine am_loop_ind (P := fun s => am_G X gm_X6_findTrade Q 36 [(0, .ref (am_ad X 6 0)), (1, .ref (am_ad X 3 r1)), (2, .ref (am_ad X 3 r2)), (4, .int s.1)] [] s.2) (K := fun r => r = o) ?_ hf rfl
  intro s o1 hb hi hr
  exact q_X6_findTrade_36 hX r1 r2 s.1  hr1 hr2 s.2 hb hi (fun t e => hk1 t (hr _ e).symm)
noncomputable def f_X6_findTrade (r1 : Nat) (r2 : Nat) (v3 : Int32) (σ : am_H) : Option (am_H) :=
  (some (am_wI σ 6 0 0 v3)).bind fun s1 =>
  (f_X6_sumOff r1 s1).bind fun p2 =>
  (f_X6_sumOff r2 s1).bind fun p3 =>
  (some (am_wL s1 6 0 1 (p2 + p3))).bind fun s4 =>
  (some (am_wL s4 6 0 2 (s4.2.1 6 0 1))).bind fun s5 =>
  (some (am_wI s5 6 0 3 (am_b false))).bind fun s6 =>
  (am_loop (fun s => f_X6_findTrade_36 r1 r2 s.1 s.2) (0, s6)).bind fun w7 =>
  some w7
set_option maxRecDepth 100000 in
set_option maxHeartbeats 4000000 in
theorem q_X6_findTrade {X : am_X} (hX : am_wC X) {Q : Option Value → am_H → Prop} (r1 : Nat) (r2 : Nat) (v3 : Int32) (hr1 : r1 < 3) (hr2 : r2 < 3) (σ : am_H) {o : am_H} (hf : f_X6_findTrade r1 r2 v3 σ = some o) (hk : Q none o) : am_G X gm_X6_findTrade Q 0 [(0, .ref (am_ad X 6 0)), (1, .ref (am_ad X 3 r1)), (2, .ref (am_ad X 3 r2)), (3, .int v3)] [] σ := by
  unfold f_X6_findTrade at hf
  refine g_aload_n (pc := 0) 0 rfl dX6_findTrade_0 rfl ?_
  refine g_iload_n (pc := 1) 3 rfl dX6_findTrade_1 rfl ?_
  obtain ⟨s1, hs1, hf⟩ := am_bd hf
  refine g_setI (pc := 2) (in_6 hX.1 (by omega)) fr_X6_13 dX6_findTrade_2 (Option.some.inj hs1) ?_
  refine g_aload_n (pc := 5) 0 rfl dX6_findTrade_5 rfl ?_
  refine g_aload_n (pc := 6) 0 rfl dX6_findTrade_6 rfl ?_
  refine g_aload_n (pc := 7) 1 rfl dX6_findTrade_7 rfl ?_
  obtain ⟨p2, hp2, hf⟩ := am_bd hf
  refine g_cV (pc := 8) (As := [.ref (am_ad X 3 r1)]) (st := [.ref (am_ad X 6 0)]) (st1 := [.long p2, .ref (am_ad X 6 0)]) (in_6 hX.1 (by omega)) kk_6 mV_X6_sumOff ln_X6_17 rfl (Nat.le_of_ble_eq_true rfl) (Nat.le_of_ble_eq_true rfl) (k_X6_sumOff hX r1 (by omega) s1 hp2) dX6_findTrade_8 rfl rfl ?_
  refine g_aload_n (pc := 11) 0 rfl dX6_findTrade_11 rfl ?_
  refine g_aload_n (pc := 12) 2 rfl dX6_findTrade_12 rfl ?_
  obtain ⟨p3, hp3, hf⟩ := am_bd hf
  refine g_cV (pc := 13) (As := [.ref (am_ad X 3 r2)]) (st := [.long p2, .ref (am_ad X 6 0)]) (st1 := [.long p3, .long p2, .ref (am_ad X 6 0)]) (in_6 hX.1 (by omega)) kk_6 mV_X6_sumOff ln_X6_17 rfl (Nat.le_of_ble_eq_true rfl) (Nat.le_of_ble_eq_true rfl) (k_X6_sumOff hX r2 (by omega) s1 hp3) dX6_findTrade_13 rfl rfl ?_
  refine g_ladd (pc := 16) dX6_findTrade_16 ?_
  obtain ⟨s4, hs4, hf⟩ := am_bd hf
  refine g_setJ (pc := 17) (in_6 hX.1 (by omega)) fr_X6_21 dX6_findTrade_17 (Option.some.inj hs4) ?_
  refine g_aload_n (pc := 20) 0 rfl dX6_findTrade_20 rfl ?_
  refine g_aload_n (pc := 21) 0 rfl dX6_findTrade_21 rfl ?_
  refine g_getJ (pc := 22) (in_6 hX.1 (by omega)) fr_X6_21 dX6_findTrade_22 ?_
  obtain ⟨s5, hs5, hf⟩ := am_bd hf
  refine g_setJ (pc := 25) (in_6 hX.1 (by omega)) fr_X6_25 dX6_findTrade_25 (Option.some.inj hs5) ?_
  refine g_aload_n (pc := 28) 0 rfl dX6_findTrade_28 rfl ?_
  refine g_iconst (pc := 29) (v := 0) dX6_findTrade_29 (by decide) ?_
  obtain ⟨s6, hs6, hf⟩ := am_bd hf
  refine g_setZ (x := false) (pc := 30) (in_6 hX.1 (by omega)) fr_X6_28 dX6_findTrade_30 (Option.some.inj hs6) ?_
  refine g_iconst (pc := 33) (v := 0) dX6_findTrade_33 (by decide) ?_
  refine g_istore (pc := 34) [(4, .int 0), (0, .ref (am_ad X 6 0)), (1, .ref (am_ad X 3 r1)), (2, .ref (am_ad X 3 r2)), (3, .int v3)] dX6_findTrade_34 (Nat.le_of_ble_eq_true rfl) rfl ?_
  obtain ⟨w7, hw7, hf⟩ := am_bd hf
  refine am_sub [1, 2, 3, 0] rfl (l_X6_findTrade_36 hX r1 r2 (by omega) (by omega) s6 (0, s6) hw7 ?_)
  intro t e
  subst e
  have ho := Option.some.inj hf
  subst ho
  exact g_vreturn (pc := 91) (st := []) rfl dX6_findTrade_91 hk
theorem k_X6_findTrade {X : am_X} (hX : am_wC X) (r1 : Nat) (r2 : Nat) (v3 : Int32) (hr1 : r1 < 3) (hr2 : r2 < 3) (σ : am_H) {o : am_H} (hf : f_X6_findTrade r1 r2 v3 σ = some o) : am_C X gm_X6_findTrade [.ref (am_ad X 6 0), .ref (am_ad X 3 r1), .ref (am_ad X 3 r2), .int v3] σ (am_is none o) :=
  am_ofG rfl (Nat.le_of_ble_eq_true rfl) rfl (q_X6_findTrade hX r1 r2 v3 hr1 hr2 σ hf ⟨rfl, rfl⟩)
theorem dX7_emptiedBox_0 : decode cX7_emptiedBox 0 = .ok (.aload_n 0, 1) := by decide +kernel
theorem dX7_emptiedBox_1 : decode cX7_emptiedBox 1 = .ok (.aload_n 1, 1) := by decide +kernel
theorem dX7_emptiedBox_2 : decode cX7_emptiedBox 2 = .ok (.putfield 34, 3) := by decide +kernel
theorem dX7_emptiedBox_5 : decode cX7_emptiedBox 5 = .ok (.iconst 0, 1) := by decide +kernel
theorem dX7_emptiedBox_6 : decode cX7_emptiedBox 6 = .ok (.istore_n 2, 1) := by decide +kernel
theorem dX7_emptiedBox_7 : decode cX7_emptiedBox 7 = .ok (.iconst 0, 1) := by decide +kernel
theorem dX7_emptiedBox_8 : decode cX7_emptiedBox 8 = .ok (.istore_n 3, 1) := by decide +kernel
theorem dX7_emptiedBox_9 : decode cX7_emptiedBox 9 = .ok (.iload_n 3, 1) := by decide +kernel
theorem dX7_emptiedBox_10 : decode cX7_emptiedBox 10 = .ok (.aload_n 1, 1) := by decide +kernel
theorem dX7_emptiedBox_11 : decode cX7_emptiedBox 11 = .ok (.getfield 38, 3) := by decide +kernel
theorem dX7_emptiedBox_14 : decode cX7_emptiedBox 14 = .ok (.if_icmp .ge 30, 3) := by decide +kernel
theorem dX7_emptiedBox_17 : decode cX7_emptiedBox 17 = .ok (.aload_n 0, 1) := by decide +kernel
theorem dX7_emptiedBox_18 : decode cX7_emptiedBox 18 = .ok (.getfield 9, 3) := by decide +kernel
theorem dX7_emptiedBox_21 : decode cX7_emptiedBox 21 = .ok (.iload_n 3, 1) := by decide +kernel
theorem dX7_emptiedBox_22 : decode cX7_emptiedBox 22 = .ok (.aload_n 1, 1) := by decide +kernel
theorem dX7_emptiedBox_23 : decode cX7_emptiedBox 23 = .ok (.getfield 44, 3) := by decide +kernel
theorem dX7_emptiedBox_26 : decode cX7_emptiedBox 26 = .ok (.iload_n 3, 1) := by decide +kernel
theorem dX7_emptiedBox_27 : decode cX7_emptiedBox 27 = .ok (.iaload, 1) := by decide +kernel
theorem dX7_emptiedBox_28 : decode cX7_emptiedBox 28 = .ok (.iastore, 1) := by decide +kernel
theorem dX7_emptiedBox_29 : decode cX7_emptiedBox 29 = .ok (.iload_n 2, 1) := by decide +kernel
theorem dX7_emptiedBox_30 : decode cX7_emptiedBox 30 = .ok (.aload_n 1, 1) := by decide +kernel
theorem dX7_emptiedBox_31 : decode cX7_emptiedBox 31 = .ok (.getfield 44, 3) := by decide +kernel
theorem dX7_emptiedBox_34 : decode cX7_emptiedBox 34 = .ok (.iload_n 3, 1) := by decide +kernel
theorem dX7_emptiedBox_35 : decode cX7_emptiedBox 35 = .ok (.iaload, 1) := by decide +kernel
theorem dX7_emptiedBox_36 : decode cX7_emptiedBox 36 = .ok (.iadd, 1) := by decide +kernel
theorem dX7_emptiedBox_37 : decode cX7_emptiedBox 37 = .ok (.istore_n 2, 1) := by decide +kernel
theorem dX7_emptiedBox_38 : decode cX7_emptiedBox 38 = .ok (.iinc 3 1, 3) := by decide +kernel
theorem dX7_emptiedBox_41 : decode cX7_emptiedBox 41 = .ok (.goto (-32), 3) := by decide +kernel
theorem dX7_emptiedBox_44 : decode cX7_emptiedBox 44 = .ok (.iload_n 2, 1) := by decide +kernel
theorem dX7_emptiedBox_45 : decode cX7_emptiedBox 45 = .ok (.ireturn, 1) := by decide +kernel
noncomputable def f_X7_emptiedBox_9 (r1 : Nat) (v2 : Int32) (v3 : Int32) (σ : am_H) : Option ((Int32 × Int32 × am_H) ⊕ (Int32 × am_H)) :=
  if v3 < (σ.1 3 r1 4) then
   ((am_ix 10 v3).bind fun j2 =>
   (am_ix 10 v3).bind fun j3 =>
   (some (am_wI σ 803 0 j3 (σ.1 402 r1 j2))).bind fun s4 =>
   (am_ix 10 v3).bind fun j5 =>
   some (.inl ((v2 + (s4.1 402 r1 j5)), (v3 + 1), s4)))
  else
  some (.inr (v2, σ))
set_option maxRecDepth 100000 in
set_option maxHeartbeats 4000000 in
theorem q_X7_emptiedBox_9 {X : am_X} (hX : am_wC X) {Q : Option Value → am_H → Prop} (r1 : Nat) (v2 : Int32) (v3 : Int32) (hr1 : r1 < 3) (σ : am_H) {o : (Int32 × Int32 × am_H) ⊕ (Int32 × am_H)} (hf : f_X7_emptiedBox_9 r1 v2 v3 σ = some o) (hk0 : ∀ s, o = .inl s → am_G X gm_X7_emptiedBox Q 9 [(0, .ref (am_ad X 7 0)), (1, .ref (am_ad X 3 r1)), (2, .int s.1), (3, .int s.2.1)] [] s.2.2) (hk1 : ∀ t, o = .inr t → am_G X gm_X7_emptiedBox Q 44 [(2, .int t.1)] [] t.2) : am_G X gm_X7_emptiedBox Q 9 [(0, .ref (am_ad X 7 0)), (1, .ref (am_ad X 3 r1)), (2, .int v2), (3, .int v3)] [] σ := by
  unfold f_X7_emptiedBox_9 at hf
  refine g_iload_n (pc := 9) 3 rfl dX7_emptiedBox_9 rfl ?_
  refine g_aload_n (pc := 10) 1 rfl dX7_emptiedBox_10 rfl ?_
  refine g_getI (pc := 11) (in_3 hX.1 (by omega)) fr_X7_38 dX7_emptiedBox_11 ?_
  refine bi_ge (pc := 14) 44 dX7_emptiedBox_14 rfl (fun c1 => ?_) (fun c1 => ?_)
  · replace hf := am_ifT c1 hf
    refine g_aload_n (pc := 17) 0 rfl dX7_emptiedBox_17 rfl ?_
    refine g_getC (pc := 18) (e := 0) (in_7 hX.1 (by omega)) fr_X7_9 dX7_emptiedBox_18 rfl ?_
    refine g_iload_n (pc := 21) 3 rfl dX7_emptiedBox_21 rfl ?_
    refine g_aload_n (pc := 22) 1 rfl dX7_emptiedBox_22 rfl ?_
    refine g_getC (pc := 23) (e := r1) (in_3 hX.1 (by omega)) fr_X7_44 dX7_emptiedBox_23 rfl ?_
    refine g_iload_n (pc := 26) 3 rfl dX7_emptiedBox_26 rfl ?_
    obtain ⟨j2, hj2, hf⟩ := am_bd hf
    have gj2 := am_ix_lt hj2
    refine g_aI (pc := 27) (in_402 hX.1 (by omega)) ak_402 hj2 dX7_emptiedBox_27 ?_
    obtain ⟨j3, hj3, hf⟩ := am_bd hf
    have gj3 := am_ix_lt hj3
    obtain ⟨s4, hs4, hf⟩ := am_bd hf
    refine g_sI (pc := 28) (in_803 hX.1 (by omega)) ak_803 hj3 dX7_emptiedBox_28 (Option.some.inj hs4) ?_
    refine g_iload_n (pc := 29) 2 rfl dX7_emptiedBox_29 rfl ?_
    refine g_aload_n (pc := 30) 1 rfl dX7_emptiedBox_30 rfl ?_
    refine g_getC (pc := 31) (e := r1) (in_3 hX.1 (by omega)) fr_X7_44 dX7_emptiedBox_31 rfl ?_
    refine g_iload_n (pc := 34) 3 rfl dX7_emptiedBox_34 rfl ?_
    obtain ⟨j5, hj5, hf⟩ := am_bd hf
    have gj5 := am_ix_lt hj5
    refine g_aI (pc := 35) (in_402 hX.1 (by omega)) ak_402 hj5 dX7_emptiedBox_35 ?_
    refine g_iadd (pc := 36) dX7_emptiedBox_36 ?_
    refine g_istore_n (pc := 37) [(2, .int (v2 + (s4.1 402 r1 j5))), (0, .ref (am_ad X 7 0)), (1, .ref (am_ad X 3 r1)), (3, .int v3)] dX7_emptiedBox_37 rfl (Nat.le_of_ble_eq_true rfl) rfl ?_
    refine g_iinc (pc := 38) (v := (v3 + 1)) 3 [(3, .int (v3 + 1)), (2, .int (v2 + (s4.1 402 r1 j5))), (0, .ref (am_ad X 7 0)), (1, .ref (am_ad X 3 r1))] dX7_emptiedBox_38 rfl rfl (Nat.le_of_ble_eq_true rfl) rfl ?_
    refine g_goto (pc := 41) 9 dX7_emptiedBox_41 rfl ?_
    have hz := hk0 _ (Option.some.inj hf).symm
    exact am_sub [2, 3, 1, 0] rfl hz
  replace hf := am_ifF c1 hf
  have hz := hk1 _ (Option.some.inj hf).symm
  exact am_sub [2] rfl hz
set_option maxRecDepth 100000 in
set_option maxHeartbeats 4000000 in
theorem l_X7_emptiedBox_9 {X : am_X} (hX : am_wC X) {Q : Option Value → am_H → Prop} (r1 : Nat) (hr1 : r1 < 3) (σ : am_H) (s : Int32 × Int32 × am_H) {o : Int32 × am_H} (hf : am_loop (fun s => f_X7_emptiedBox_9 r1 s.1 s.2.1 s.2.2) s = some o) (hk1 : ∀ t, o = t → am_G X gm_X7_emptiedBox Q 44 [(2, .int t.1)] [] t.2) : am_G X gm_X7_emptiedBox Q 9 [(0, .ref (am_ad X 7 0)), (1, .ref (am_ad X 3 r1)), (2, .int s.1), (3, .int s.2.1)] [] s.2.2 := by
  refine am_loop_ind (P := fun s => am_G X gm_X7_emptiedBox Q 9 [(0, .ref (am_ad X 7 0)), (1, .ref (am_ad X 3 r1)), (2, .int s.1), (3, .int s.2.1)] [] s.2.2) (K := fun r => r = o) ?_ hf rfl
  intro s o1 hb hi hr
  exact q_X7_emptiedBox_9 hX r1 s.1 s.2.1  hr1 s.2.2 hb hi (fun t e => hk1 t (hr _ e).symm)
noncomputable def f_X7_emptiedBox (r1 : Nat) (σ : am_H) : Option (Int32 × am_H) :=
  (some (am_wR σ 7 0 0 (some r1))).bind fun s1 =>
  (am_loop (fun s => f_X7_emptiedBox_9 r1 s.1 s.2.1 s.2.2) (0, 0, s1)).bind fun w2 =>
  some (w2.1, w2.2)
set_option maxRecDepth 100000 in
set_option maxHeartbeats 4000000 in
theorem q_X7_emptiedBox {X : am_X} (hX : am_wC X) {Q : Option Value → am_H → Prop} (r1 : Nat) (hr1 : r1 < 3) (σ : am_H) {o : Int32 × am_H} (hf : f_X7_emptiedBox r1 σ = some o) (hk : Q (some (.int o.1)) o.2) : am_G X gm_X7_emptiedBox Q 0 [(0, .ref (am_ad X 7 0)), (1, .ref (am_ad X 3 r1))] [] σ := by
  unfold f_X7_emptiedBox at hf
  refine g_aload_n (pc := 0) 0 rfl dX7_emptiedBox_0 rfl ?_
  refine g_aload_n (pc := 1) 1 rfl dX7_emptiedBox_1 rfl ?_
  obtain ⟨s1, hs1, hf⟩ := am_bd hf
  refine g_setM (pc := 2) (in_7 hX.1 (by omega)) fr_X7_34 dX7_emptiedBox_2 (Option.some.inj hs1) ?_
  refine g_iconst (pc := 5) (v := 0) dX7_emptiedBox_5 (by decide) ?_
  refine g_istore_n (pc := 6) [(2, .int 0), (0, .ref (am_ad X 7 0)), (1, .ref (am_ad X 3 r1))] dX7_emptiedBox_6 rfl (Nat.le_of_ble_eq_true rfl) rfl ?_
  refine g_iconst (pc := 7) (v := 0) dX7_emptiedBox_7 (by decide) ?_
  refine g_istore_n (pc := 8) [(3, .int 0), (2, .int 0), (0, .ref (am_ad X 7 0)), (1, .ref (am_ad X 3 r1))] dX7_emptiedBox_8 rfl (Nat.le_of_ble_eq_true rfl) rfl ?_
  obtain ⟨w2, hw2, hf⟩ := am_bd hf
  refine am_sub [2, 3, 1, 0] rfl (l_X7_emptiedBox_9 hX r1 (by omega) s1 (0, 0, s1) hw2 ?_)
  intro t e
  subst e
  refine g_iload_n (pc := 44) 0 rfl dX7_emptiedBox_44 rfl ?_
  have ho := Option.some.inj hf
  subst ho
  exact g_ireturn (pc := 45) (st := []) rfl dX7_emptiedBox_45 hk
theorem k_X7_emptiedBox {X : am_X} (hX : am_wC X) (r1 : Nat) (hr1 : r1 < 3) (σ : am_H) {o : Int32 × am_H} (hf : f_X7_emptiedBox r1 σ = some o) : am_C X gm_X7_emptiedBox [.ref (am_ad X 7 0), .ref (am_ad X 3 r1)] σ (am_is (some (.int o.1)) o.2) :=
  am_ofG rfl (Nat.le_of_ble_eq_true rfl) rfl (q_X7_emptiedBox hX r1 hr1 σ hf ⟨rfl, rfl⟩)
theorem dX7_keepTried_0 : decode cX7_keepTried 0 = .ok (.iconst 0, 1) := by decide +kernel
theorem dX7_keepTried_1 : decode cX7_keepTried 1 = .ok (.istore_n 1, 1) := by decide +kernel
theorem dX7_keepTried_2 : decode cX7_keepTried 2 = .ok (.iload_n 1, 1) := by decide +kernel
theorem dX7_keepTried_3 : decode cX7_keepTried 3 = .ok (.aload_n 0, 1) := by decide +kernel
theorem dX7_keepTried_4 : decode cX7_keepTried 4 = .ok (.getfield 55, 3) := by decide +kernel
theorem dX7_keepTried_7 : decode cX7_keepTried 7 = .ok (.if_icmp .ge 21, 3) := by decide +kernel
theorem dX7_keepTried_10 : decode cX7_keepTried 10 = .ok (.aload_n 0, 1) := by decide +kernel
theorem dX7_keepTried_11 : decode cX7_keepTried 11 = .ok (.getfield 18, 3) := by decide +kernel
theorem dX7_keepTried_14 : decode cX7_keepTried 14 = .ok (.iload_n 1, 1) := by decide +kernel
theorem dX7_keepTried_15 : decode cX7_keepTried 15 = .ok (.aload_n 0, 1) := by decide +kernel
theorem dX7_keepTried_16 : decode cX7_keepTried 16 = .ok (.getfield 15, 3) := by decide +kernel
theorem dX7_keepTried_19 : decode cX7_keepTried 19 = .ok (.iload_n 1, 1) := by decide +kernel
theorem dX7_keepTried_20 : decode cX7_keepTried 20 = .ok (.iaload, 1) := by decide +kernel
theorem dX7_keepTried_21 : decode cX7_keepTried 21 = .ok (.iastore, 1) := by decide +kernel
theorem dX7_keepTried_22 : decode cX7_keepTried 22 = .ok (.iinc 1 1, 3) := by decide +kernel
theorem dX7_keepTried_25 : decode cX7_keepTried 25 = .ok (.goto (-23), 3) := by decide +kernel
theorem dX7_keepTried_28 : decode cX7_keepTried 28 = .ok (.return_, 1) := by decide +kernel
noncomputable def f_X7_keepTried_2 (v1 : Int32) (σ : am_H) : Option ((Int32 × am_H) ⊕ (am_H)) :=
  if v1 < (σ.1 7 0 2) then
   ((am_ix 6 v1).bind fun j2 =>
   (am_ix 6 v1).bind fun j3 =>
   (some (am_wI σ 805 0 j3 (σ.1 804 0 j2))).bind fun s4 =>
   some (.inl ((v1 + 1), s4)))
  else
  some (.inr σ)
set_option maxRecDepth 100000 in
set_option maxHeartbeats 4000000 in
theorem q_X7_keepTried_2 {X : am_X} (hX : am_wC X) {Q : Option Value → am_H → Prop} (v1 : Int32) (σ : am_H) {o : (Int32 × am_H) ⊕ (am_H)} (hf : f_X7_keepTried_2 v1 σ = some o) (hk0 : ∀ s, o = .inl s → am_G X gm_X7_keepTried Q 2 [(0, .ref (am_ad X 7 0)), (1, .int s.1)] [] s.2) (hk1 : ∀ t, o = .inr t → am_G X gm_X7_keepTried Q 28 [] [] t) : am_G X gm_X7_keepTried Q 2 [(0, .ref (am_ad X 7 0)), (1, .int v1)] [] σ := by
  unfold f_X7_keepTried_2 at hf
  refine g_iload_n (pc := 2) 1 rfl dX7_keepTried_2 rfl ?_
  refine g_aload_n (pc := 3) 0 rfl dX7_keepTried_3 rfl ?_
  refine g_getI (pc := 4) (in_7 hX.1 (by omega)) fr_X7_55 dX7_keepTried_4 ?_
  refine bi_ge (pc := 7) 28 dX7_keepTried_7 rfl (fun c1 => ?_) (fun c1 => ?_)
  · replace hf := am_ifT c1 hf
    refine g_aload_n (pc := 10) 0 rfl dX7_keepTried_10 rfl ?_
    refine g_getC (pc := 11) (e := 0) (in_7 hX.1 (by omega)) fr_X7_18 dX7_keepTried_11 rfl ?_
    refine g_iload_n (pc := 14) 1 rfl dX7_keepTried_14 rfl ?_
    refine g_aload_n (pc := 15) 0 rfl dX7_keepTried_15 rfl ?_
    refine g_getC (pc := 16) (e := 0) (in_7 hX.1 (by omega)) fr_X7_15 dX7_keepTried_16 rfl ?_
    refine g_iload_n (pc := 19) 1 rfl dX7_keepTried_19 rfl ?_
    obtain ⟨j2, hj2, hf⟩ := am_bd hf
    have gj2 := am_ix_lt hj2
    refine g_aI (pc := 20) (in_804 hX.1 (by omega)) ak_804 hj2 dX7_keepTried_20 ?_
    obtain ⟨j3, hj3, hf⟩ := am_bd hf
    have gj3 := am_ix_lt hj3
    obtain ⟨s4, hs4, hf⟩ := am_bd hf
    refine g_sI (pc := 21) (in_805 hX.1 (by omega)) ak_805 hj3 dX7_keepTried_21 (Option.some.inj hs4) ?_
    refine g_iinc (pc := 22) (v := (v1 + 1)) 1 [(1, .int (v1 + 1)), (0, .ref (am_ad X 7 0))] dX7_keepTried_22 rfl rfl (Nat.le_of_ble_eq_true rfl) rfl ?_
    refine g_goto (pc := 25) 2 dX7_keepTried_25 rfl ?_
    have hz := hk0 _ (Option.some.inj hf).symm
    exact am_sub [1, 0] rfl hz
  replace hf := am_ifF c1 hf
  have hz := hk1 _ (Option.some.inj hf).symm
  exact am_sub [] rfl hz
set_option maxRecDepth 100000 in
set_option maxHeartbeats 4000000 in
theorem l_X7_keepTried_2 {X : am_X} (hX : am_wC X) {Q : Option Value → am_H → Prop} (σ : am_H) (s : Int32 × am_H) {o : am_H} (hf : am_loop (fun s => f_X7_keepTried_2 s.1 s.2) s = some o) (hk1 : ∀ t, o = t → am_G X gm_X7_keepTried Q 28 [] [] t) : am_G X gm_X7_keepTried Q 2 [(0, .ref (am_ad X 7 0)), (1, .int s.1)] [] s.2 := by
  refine am_loop_ind (P := fun s => am_G X gm_X7_keepTried Q 2 [(0, .ref (am_ad X 7 0)), (1, .int s.1)] [] s.2) (K := fun r => r = o) ?_ hf rfl
  intro s o1 hb hi hr
  exact q_X7_keepTried_2 hX s.1  s.2 hb hi (fun t e => hk1 t (hr _ e).symm)
noncomputable def f_X7_keepTried (σ : am_H) : Option (am_H) :=
  (am_loop (fun s => f_X7_keepTried_2 s.1 s.2) (0, σ)).bind fun w1 =>
  some w1
set_option maxRecDepth 100000 in
set_option maxHeartbeats 4000000 in
theorem q_X7_keepTried {X : am_X} (hX : am_wC X) {Q : Option Value → am_H → Prop} (σ : am_H) {o : am_H} (hf : f_X7_keepTried σ = some o) (hk : Q none o) : am_G X gm_X7_keepTried Q 0 [(0, .ref (am_ad X 7 0))] [] σ := by
  unfold f_X7_keepTried at hf
  refine g_iconst (pc := 0) (v := 0) dX7_keepTried_0 (by decide) ?_
  refine g_istore_n (pc := 1) [(1, .int 0), (0, .ref (am_ad X 7 0))] dX7_keepTried_1 rfl (Nat.le_of_ble_eq_true rfl) rfl ?_
  obtain ⟨w1, hw1, hf⟩ := am_bd hf
  refine am_sub [1, 0] rfl (l_X7_keepTried_2 hX  σ (0, σ) hw1 ?_)
  intro t e
  subst e
  have ho := Option.some.inj hf
  subst ho
  exact g_vreturn (pc := 28) (st := []) rfl dX7_keepTried_28 hk
theorem k_X7_keepTried {X : am_X} (hX : am_wC X) (σ : am_H) {o : am_H} (hf : f_X7_keepTried σ = some o) : am_C X gm_X7_keepTried [.ref (am_ad X 7 0)] σ (am_is none o) :=
  am_ofG rfl (Nat.le_of_ble_eq_true rfl) rfl (q_X7_keepTried hX σ hf ⟨rfl, rfl⟩)
theorem dX7_weighTrain_0 : decode cX7_weighTrain 0 = .ok (.aload_n 0, 1) := by decide +kernel
theorem dX7_weighTrain_1 : decode cX7_weighTrain 1 = .ok (.getfield 55, 3) := by decide +kernel
theorem dX7_weighTrain_4 : decode cX7_weighTrain 4 = .ok (.iconst 2, 1) := by decide +kernel
theorem dX7_weighTrain_5 : decode cX7_weighTrain 5 = .ok (.if_icmp .le 7, 3) := by decide +kernel
theorem dX7_weighTrain_8 : decode cX7_weighTrain 8 = .ok (.iconst 1, 1) := by decide +kernel
theorem dX7_weighTrain_9 : decode cX7_weighTrain 9 = .ok (.goto 4, 3) := by decide +kernel
theorem dX7_weighTrain_12 : decode cX7_weighTrain 12 = .ok (.iconst 0, 1) := by decide +kernel
theorem dX7_weighTrain_13 : decode cX7_weighTrain 13 = .ok (.istore_n 1, 1) := by decide +kernel
theorem dX7_weighTrain_14 : decode cX7_weighTrain 14 = .ok (.iload_n 1, 1) := by decide +kernel
theorem dX7_weighTrain_15 : decode cX7_weighTrain 15 = .ok (.ifCond .eq 21, 3) := by decide +kernel
theorem dX7_weighTrain_18 : decode cX7_weighTrain 18 = .ok (.aload_n 0, 1) := by decide +kernel
theorem dX7_weighTrain_19 : decode cX7_weighTrain 19 = .ok (.getfield 15, 3) := by decide +kernel
theorem dX7_weighTrain_22 : decode cX7_weighTrain 22 = .ok (.iconst 0, 1) := by decide +kernel
theorem dX7_weighTrain_23 : decode cX7_weighTrain 23 = .ok (.iaload, 1) := by decide +kernel
theorem dX7_weighTrain_24 : decode cX7_weighTrain 24 = .ok (.i2l, 1) := by decide +kernel
theorem dX7_weighTrain_25 : decode cX7_weighTrain 25 = .ok (.aload_n 0, 1) := by decide +kernel
theorem dX7_weighTrain_26 : decode cX7_weighTrain 26 = .ok (.getfield 15, 3) := by decide +kernel
theorem dX7_weighTrain_29 : decode cX7_weighTrain 29 = .ok (.iconst 2, 1) := by decide +kernel
theorem dX7_weighTrain_30 : decode cX7_weighTrain 30 = .ok (.iaload, 1) := by decide +kernel
theorem dX7_weighTrain_31 : decode cX7_weighTrain 31 = .ok (.i2l, 1) := by decide +kernel
theorem dX7_weighTrain_32 : decode cX7_weighTrain 32 = .ok (.lmul, 1) := by decide +kernel
theorem dX7_weighTrain_33 : decode cX7_weighTrain 33 = .ok (.goto 10, 3) := by decide +kernel
theorem dX7_weighTrain_36 : decode cX7_weighTrain 36 = .ok (.aload_n 0, 1) := by decide +kernel
theorem dX7_weighTrain_37 : decode cX7_weighTrain 37 = .ok (.getfield 15, 3) := by decide +kernel
theorem dX7_weighTrain_40 : decode cX7_weighTrain 40 = .ok (.iconst 0, 1) := by decide +kernel
theorem dX7_weighTrain_41 : decode cX7_weighTrain 41 = .ok (.iaload, 1) := by decide +kernel
theorem dX7_weighTrain_42 : decode cX7_weighTrain 42 = .ok (.i2l, 1) := by decide +kernel
theorem dX7_weighTrain_43 : decode cX7_weighTrain 43 = .ok (.lstore_n 2, 1) := by decide +kernel
theorem dX7_weighTrain_44 : decode cX7_weighTrain 44 = .ok (.iload_n 1, 1) := by decide +kernel
theorem dX7_weighTrain_45 : decode cX7_weighTrain 45 = .ok (.ifCond .eq 21, 3) := by decide +kernel
theorem dX7_weighTrain_48 : decode cX7_weighTrain 48 = .ok (.aload_n 0, 1) := by decide +kernel
theorem dX7_weighTrain_49 : decode cX7_weighTrain 49 = .ok (.getfield 15, 3) := by decide +kernel
theorem dX7_weighTrain_52 : decode cX7_weighTrain 52 = .ok (.iconst 1, 1) := by decide +kernel
theorem dX7_weighTrain_53 : decode cX7_weighTrain 53 = .ok (.iaload, 1) := by decide +kernel
theorem dX7_weighTrain_54 : decode cX7_weighTrain 54 = .ok (.i2l, 1) := by decide +kernel
theorem dX7_weighTrain_55 : decode cX7_weighTrain 55 = .ok (.aload_n 0, 1) := by decide +kernel
theorem dX7_weighTrain_56 : decode cX7_weighTrain 56 = .ok (.getfield 15, 3) := by decide +kernel
theorem dX7_weighTrain_59 : decode cX7_weighTrain 59 = .ok (.iconst 3, 1) := by decide +kernel
theorem dX7_weighTrain_60 : decode cX7_weighTrain 60 = .ok (.iaload, 1) := by decide +kernel
theorem dX7_weighTrain_61 : decode cX7_weighTrain 61 = .ok (.i2l, 1) := by decide +kernel
theorem dX7_weighTrain_62 : decode cX7_weighTrain 62 = .ok (.lmul, 1) := by decide +kernel
theorem dX7_weighTrain_63 : decode cX7_weighTrain 63 = .ok (.goto 10, 3) := by decide +kernel
theorem dX7_weighTrain_66 : decode cX7_weighTrain 66 = .ok (.aload_n 0, 1) := by decide +kernel
theorem dX7_weighTrain_67 : decode cX7_weighTrain 67 = .ok (.getfield 15, 3) := by decide +kernel
theorem dX7_weighTrain_70 : decode cX7_weighTrain 70 = .ok (.iconst 1, 1) := by decide +kernel
theorem dX7_weighTrain_71 : decode cX7_weighTrain 71 = .ok (.iaload, 1) := by decide +kernel
theorem dX7_weighTrain_72 : decode cX7_weighTrain 72 = .ok (.i2l, 1) := by decide +kernel
theorem dX7_weighTrain_73 : decode cX7_weighTrain 73 = .ok (.lstore 4, 2) := by decide +kernel
theorem dX7_weighTrain_75 : decode cX7_weighTrain 75 = .ok (.aload_n 0, 1) := by decide +kernel
theorem dX7_weighTrain_76 : decode cX7_weighTrain 76 = .ok (.getfield 15, 3) := by decide +kernel
theorem dX7_weighTrain_79 : decode cX7_weighTrain 79 = .ok (.iconst 0, 1) := by decide +kernel
theorem dX7_weighTrain_80 : decode cX7_weighTrain 80 = .ok (.iaload, 1) := by decide +kernel
theorem dX7_weighTrain_81 : decode cX7_weighTrain 81 = .ok (.aload_n 0, 1) := by decide +kernel
theorem dX7_weighTrain_82 : decode cX7_weighTrain 82 = .ok (.getfield 15, 3) := by decide +kernel
theorem dX7_weighTrain_85 : decode cX7_weighTrain 85 = .ok (.iconst 1, 1) := by decide +kernel
theorem dX7_weighTrain_86 : decode cX7_weighTrain 86 = .ok (.iaload, 1) := by decide +kernel
theorem dX7_weighTrain_87 : decode cX7_weighTrain 87 = .ok (.iadd, 1) := by decide +kernel
theorem dX7_weighTrain_88 : decode cX7_weighTrain 88 = .ok (.iload_n 1, 1) := by decide +kernel
theorem dX7_weighTrain_89 : decode cX7_weighTrain 89 = .ok (.ifCond .eq 19, 3) := by decide +kernel
theorem dX7_weighTrain_92 : decode cX7_weighTrain 92 = .ok (.aload_n 0, 1) := by decide +kernel
theorem dX7_weighTrain_93 : decode cX7_weighTrain 93 = .ok (.getfield 15, 3) := by decide +kernel
theorem dX7_weighTrain_96 : decode cX7_weighTrain 96 = .ok (.iconst 2, 1) := by decide +kernel
theorem dX7_weighTrain_97 : decode cX7_weighTrain 97 = .ok (.iaload, 1) := by decide +kernel
theorem dX7_weighTrain_98 : decode cX7_weighTrain 98 = .ok (.aload_n 0, 1) := by decide +kernel
theorem dX7_weighTrain_99 : decode cX7_weighTrain 99 = .ok (.getfield 15, 3) := by decide +kernel
theorem dX7_weighTrain_102 : decode cX7_weighTrain 102 = .ok (.iconst 3, 1) := by decide +kernel
theorem dX7_weighTrain_103 : decode cX7_weighTrain 103 = .ok (.iaload, 1) := by decide +kernel
theorem dX7_weighTrain_104 : decode cX7_weighTrain 104 = .ok (.iadd, 1) := by decide +kernel
theorem dX7_weighTrain_105 : decode cX7_weighTrain 105 = .ok (.goto 4, 3) := by decide +kernel
theorem dX7_weighTrain_108 : decode cX7_weighTrain 108 = .ok (.iconst 0, 1) := by decide +kernel
theorem dX7_weighTrain_109 : decode cX7_weighTrain 109 = .ok (.iadd, 1) := by decide +kernel
theorem dX7_weighTrain_110 : decode cX7_weighTrain 110 = .ok (.istore 6, 2) := by decide +kernel
theorem dX7_weighTrain_112 : decode cX7_weighTrain 112 = .ok (.aload_n 0, 1) := by decide +kernel
theorem dX7_weighTrain_113 : decode cX7_weighTrain 113 = .ok (.getfield 51, 3) := by decide +kernel
theorem dX7_weighTrain_116 : decode cX7_weighTrain 116 = .ok (.lload_n 2, 1) := by decide +kernel
theorem dX7_weighTrain_117 : decode cX7_weighTrain 117 = .ok (.lload 4, 2) := by decide +kernel
theorem dX7_weighTrain_119 : decode cX7_weighTrain 119 = .ok (.iconst 1, 1) := by decide +kernel
theorem dX7_weighTrain_120 : decode cX7_weighTrain 120 = .ok (.invokevirtual 75, 3) := by decide +kernel
theorem dX7_weighTrain_123 : decode cX7_weighTrain 123 = .ok (.lstore 7, 2) := by decide +kernel
theorem dX7_weighTrain_125 : decode cX7_weighTrain 125 = .ok (.aload_n 0, 1) := by decide +kernel
theorem dX7_weighTrain_126 : decode cX7_weighTrain 126 = .ok (.getfield 58, 3) := by decide +kernel
theorem dX7_weighTrain_129 : decode cX7_weighTrain 129 = .ok (.lconst 0, 1) := by decide +kernel
theorem dX7_weighTrain_130 : decode cX7_weighTrain 130 = .ok (.lcmp, 1) := by decide +kernel
theorem dX7_weighTrain_131 : decode cX7_weighTrain 131 = .ok (.ifCond .ne 9, 3) := by decide +kernel
theorem dX7_weighTrain_134 : decode cX7_weighTrain 134 = .ok (.ldc2_w 81, 3) := by decide +kernel
theorem dX7_weighTrain_137 : decode cX7_weighTrain 137 = .ok (.goto 18, 3) := by decide +kernel
theorem dX7_weighTrain_140 : decode cX7_weighTrain 140 = .ok (.lload 7, 2) := by decide +kernel
theorem dX7_weighTrain_142 : decode cX7_weighTrain 142 = .ok (.aload_n 0, 1) := by decide +kernel
theorem dX7_weighTrain_143 : decode cX7_weighTrain 143 = .ok (.getfield 58, 3) := by decide +kernel
theorem dX7_weighTrain_146 : decode cX7_weighTrain 146 = .ok (.lmul, 1) := by decide +kernel
theorem dX7_weighTrain_147 : decode cX7_weighTrain 147 = .ok (.aload_n 0, 1) := by decide +kernel
theorem dX7_weighTrain_148 : decode cX7_weighTrain 148 = .ok (.getfield 83, 3) := by decide +kernel
theorem dX7_weighTrain_151 : decode cX7_weighTrain 151 = .ok (.lload 4, 2) := by decide +kernel
theorem dX7_weighTrain_153 : decode cX7_weighTrain 153 = .ok (.lmul, 1) := by decide +kernel
theorem dX7_weighTrain_154 : decode cX7_weighTrain 154 = .ok (.lsub, 1) := by decide +kernel
theorem dX7_weighTrain_155 : decode cX7_weighTrain 155 = .ok (.lstore 9, 2) := by decide +kernel
theorem dX7_weighTrain_157 : decode cX7_weighTrain 157 = .ok (.lload 9, 2) := by decide +kernel
theorem dX7_weighTrain_159 : decode cX7_weighTrain 159 = .ok (.lconst 0, 1) := by decide +kernel
theorem dX7_weighTrain_160 : decode cX7_weighTrain 160 = .ok (.lcmp, 1) := by decide +kernel
theorem dX7_weighTrain_161 : decode cX7_weighTrain 161 = .ok (.ifCond .lt 19, 3) := by decide +kernel
theorem dX7_weighTrain_164 : decode cX7_weighTrain 164 = .ok (.lload 9, 2) := by decide +kernel
theorem dX7_weighTrain_166 : decode cX7_weighTrain 166 = .ok (.lconst 0, 1) := by decide +kernel
theorem dX7_weighTrain_167 : decode cX7_weighTrain 167 = .ok (.lcmp, 1) := by decide +kernel
theorem dX7_weighTrain_168 : decode cX7_weighTrain 168 = .ok (.ifCond .ne 34, 3) := by decide +kernel
theorem dX7_weighTrain_171 : decode cX7_weighTrain 171 = .ok (.iload 6, 2) := by decide +kernel
theorem dX7_weighTrain_173 : decode cX7_weighTrain 173 = .ok (.aload_n 0, 1) := by decide +kernel
theorem dX7_weighTrain_174 : decode cX7_weighTrain 174 = .ok (.getfield 86, 3) := by decide +kernel
theorem dX7_weighTrain_177 : decode cX7_weighTrain 177 = .ok (.if_icmp .ge 25, 3) := by decide +kernel
theorem dX7_weighTrain_180 : decode cX7_weighTrain 180 = .ok (.aload_n 0, 1) := by decide +kernel
theorem dX7_weighTrain_181 : decode cX7_weighTrain 181 = .ok (.lload 7, 2) := by decide +kernel
theorem dX7_weighTrain_183 : decode cX7_weighTrain 183 = .ok (.putfield 83, 3) := by decide +kernel
theorem dX7_weighTrain_186 : decode cX7_weighTrain 186 = .ok (.aload_n 0, 1) := by decide +kernel
theorem dX7_weighTrain_187 : decode cX7_weighTrain 187 = .ok (.lload 4, 2) := by decide +kernel
theorem dX7_weighTrain_189 : decode cX7_weighTrain 189 = .ok (.putfield 58, 3) := by decide +kernel
theorem dX7_weighTrain_192 : decode cX7_weighTrain 192 = .ok (.aload_n 0, 1) := by decide +kernel
theorem dX7_weighTrain_193 : decode cX7_weighTrain 193 = .ok (.iload 6, 2) := by decide +kernel
theorem dX7_weighTrain_195 : decode cX7_weighTrain 195 = .ok (.putfield 86, 3) := by decide +kernel
theorem dX7_weighTrain_198 : decode cX7_weighTrain 198 = .ok (.aload_n 0, 1) := by decide +kernel
theorem dX7_weighTrain_199 : decode cX7_weighTrain 199 = .ok (.invokevirtual 89, 3) := by decide +kernel
theorem dX7_weighTrain_202 : decode cX7_weighTrain 202 = .ok (.return_, 1) := by decide +kernel
noncomputable def f_X7_weighTrain_180 (v4 : Int64) (v6 : Int32) (v7 : Int64) (σ : am_H) : Option (am_H) :=
  (some (am_wL σ 7 0 9 v7)).bind fun s1 =>
  (some (am_wL s1 7 0 10 v4)).bind fun s2 =>
  (some (am_wI s2 7 0 8 v6)).bind fun s3 =>
  (f_X7_keepTried s3).bind fun p4 =>
  some p4
set_option maxRecDepth 100000 in
set_option maxHeartbeats 4000000 in
theorem q_X7_weighTrain_180 {X : am_X} (hX : am_wC X) {Q : Option Value → am_H → Prop} (v4 : Int64) (v6 : Int32) (v7 : Int64) (σ : am_H) {o : am_H} (hf : f_X7_weighTrain_180 v4 v6 v7 σ = some o) (hk : Q none o) : am_G X gm_X7_weighTrain Q 180 [(0, .ref (am_ad X 7 0)), (4, .long v4), (6, .int v6), (7, .long v7)] [] σ := by
  unfold f_X7_weighTrain_180 at hf
  refine g_aload_n (pc := 180) 0 rfl dX7_weighTrain_180 rfl ?_
  refine g_lload (pc := 181) 3 rfl dX7_weighTrain_181 ?_
  obtain ⟨s1, hs1, hf⟩ := am_bd hf
  refine g_setJ (pc := 183) (in_7 hX.1 (by omega)) fr_X7_83 dX7_weighTrain_183 (Option.some.inj hs1) ?_
  refine g_aload_n (pc := 186) 0 rfl dX7_weighTrain_186 rfl ?_
  refine g_lload (pc := 187) 1 rfl dX7_weighTrain_187 ?_
  obtain ⟨s2, hs2, hf⟩ := am_bd hf
  refine g_setJ (pc := 189) (in_7 hX.1 (by omega)) fr_X7_58 dX7_weighTrain_189 (Option.some.inj hs2) ?_
  refine g_aload_n (pc := 192) 0 rfl dX7_weighTrain_192 rfl ?_
  refine g_iload (pc := 193) 2 rfl dX7_weighTrain_193 ?_
  obtain ⟨s3, hs3, hf⟩ := am_bd hf
  refine g_setI (pc := 195) (in_7 hX.1 (by omega)) fr_X7_86 dX7_weighTrain_195 (Option.some.inj hs3) ?_
  refine g_aload_n (pc := 198) 0 rfl dX7_weighTrain_198 rfl ?_
  obtain ⟨p4, hp4, hf⟩ := am_bd hf
  refine g_cV (pc := 199) (As := []) (st := []) (st1 := []) (in_7 hX.1 (by omega)) kk_7 mV_X7_keepTried ln_X7_89 rfl (Nat.le_of_ble_eq_true rfl) (Nat.le_of_ble_eq_true rfl) (k_X7_keepTried hX s3 hp4) dX7_weighTrain_199 rfl rfl ?_
  have ho := Option.some.inj hf
  subst ho
  exact g_vreturn (pc := 202) (st := []) rfl dX7_weighTrain_202 hk
noncomputable def f_X7_weighTrain_155 (v4 : Int64) (v6 : Int32) (v7 : Int64) (k0 : Int64) (σ : am_H) : Option (am_H) :=
  if k0 < 0 then
   (f_X7_weighTrain_180 v4 v6 v7 σ)
  else
  if k0 = 0 then
   (if v6 < (σ.1 7 0 8) then
    (f_X7_weighTrain_180 v4 v6 v7 σ)
   else
   some σ)
  else
  some σ
set_option maxRecDepth 100000 in
set_option maxHeartbeats 4000000 in
theorem q_X7_weighTrain_155 {X : am_X} (hX : am_wC X) {Q : Option Value → am_H → Prop} (v4 : Int64) (v6 : Int32) (v7 : Int64) (k0 : Int64) (σ : am_H) {o : am_H} (hf : f_X7_weighTrain_155 v4 v6 v7 k0 σ = some o) (hk : Q none o) : am_G X gm_X7_weighTrain Q 155 [(0, .ref (am_ad X 7 0)), (4, .long v4), (6, .int v6), (7, .long v7)] [.long k0] σ := by
  unfold f_X7_weighTrain_155 at hf
  refine g_lstore (pc := 155) [(9, .long k0), (0, .ref (am_ad X 7 0)), (4, .long v4), (6, .int v6), (7, .long v7)] dX7_weighTrain_155 (Nat.le_of_ble_eq_true rfl) rfl ?_
  refine g_lload (pc := 157) 0 rfl dX7_weighTrain_157 ?_
  refine g_lconst (pc := 159) (v := 0) dX7_weighTrain_159 (by decide) ?_
  refine g_lcm (pc := 160) dX7_weighTrain_160 ?_
  refine bl_lt (pc := 161) 180 dX7_weighTrain_161 rfl (fun c1 => ?_) (fun c1 => ?_)
  · replace hf := am_ifT c1 hf
    exact am_sub [1, 2, 3, 4] rfl (q_X7_weighTrain_180 hX v4 v6 v7 σ hf hk)
  replace hf := am_ifF c1 hf
  refine g_lload (pc := 164) 0 rfl dX7_weighTrain_164 ?_
  refine g_lconst (pc := 166) (v := 0) dX7_weighTrain_166 (by decide) ?_
  refine g_lcm (pc := 167) dX7_weighTrain_167 ?_
  refine bl_ne (pc := 168) 202 dX7_weighTrain_168 rfl (fun c2 => ?_) (fun c2 => ?_)
  · replace hf := am_ifT c2 hf
    refine g_iload (pc := 171) 3 rfl dX7_weighTrain_171 ?_
    refine g_aload_n (pc := 173) 1 rfl dX7_weighTrain_173 rfl ?_
    refine g_getI (pc := 174) (in_7 hX.1 (by omega)) fr_X7_86 dX7_weighTrain_174 ?_
    refine bi_ge (pc := 177) 202 dX7_weighTrain_177 rfl (fun c3 => ?_) (fun c3 => ?_)
    · replace hf := am_ifT c3 hf
      exact am_sub [1, 2, 3, 4] rfl (q_X7_weighTrain_180 hX v4 v6 v7 σ hf hk)
    replace hf := am_ifF c3 hf
    have ho := Option.some.inj hf
    subst ho
    exact g_vreturn (pc := 202) (st := []) rfl dX7_weighTrain_202 hk
  replace hf := am_ifF c2 hf
  have ho := Option.some.inj hf
  subst ho
  exact g_vreturn (pc := 202) (st := []) rfl dX7_weighTrain_202 hk
noncomputable def f_X7_weighTrain_109 (v2 : Int64) (v4 : Int64) (k0 : Int32) (k1 : Int32) (σ : am_H) : Option (am_H) :=
  (am_rr 18 (σ.2.2 7 0 1)).bind fun a1 =>
  (f_X10_offTop a1 v2 v4 1 σ).bind fun p2 =>
  if (σ.2.1 7 0 10) = 0 then
   (f_X7_weighTrain_155 v4 (k0 + k1) p2 (-1) σ)
  else
  f_X7_weighTrain_155 v4 (k0 + k1) p2 ((p2 * (σ.2.1 7 0 10)) - ((σ.2.1 7 0 9) * v4)) σ
set_option maxRecDepth 100000 in
set_option maxHeartbeats 4000000 in
theorem q_X7_weighTrain_109 {X : am_X} (hX : am_wC X) {Q : Option Value → am_H → Prop} (v2 : Int64) (v4 : Int64) (k0 : Int32) (k1 : Int32) (σ : am_H) {o : am_H} (hf : f_X7_weighTrain_109 v2 v4 k0 k1 σ = some o) (hk : Q none o) : am_G X gm_X7_weighTrain Q 109 [(0, .ref (am_ad X 7 0)), (2, .long v2), (4, .long v4)] [.int k1, .int k0] σ := by
  unfold f_X7_weighTrain_109 at hf
  refine g_iadd (pc := 109) dX7_weighTrain_109 ?_
  refine g_istore (pc := 110) [(6, .int (k0 + k1)), (0, .ref (am_ad X 7 0)), (2, .long v2), (4, .long v4)] dX7_weighTrain_110 (Nat.le_of_ble_eq_true rfl) rfl ?_
  refine g_aload_n (pc := 112) 1 rfl dX7_weighTrain_112 rfl ?_
  obtain ⟨a1, ha1, hf⟩ := am_bd hf
  obtain ⟨ha1, ga1⟩ := am_rr_in ha1
  refine g_getM (pc := 113) (in_7 hX.1 (by omega)) fr_X7_51 ha1 dX7_weighTrain_113 ?_
  refine g_lload_n (pc := 116) 2 rfl dX7_weighTrain_116 rfl ?_
  refine g_lload (pc := 117) 3 rfl dX7_weighTrain_117 ?_
  refine g_iconst (pc := 119) (v := 1) dX7_weighTrain_119 (by decide) ?_
  obtain ⟨p2, hp2, hf⟩ := am_bd hf
  refine g_cV (pc := 120) (As := [.long v2, .long v4, .int 1]) (st := []) (st1 := [.long p2]) (in_10 hX.1 (by omega)) kk_10 mV_X10_offTop ln_X7_75 rfl (Nat.le_of_ble_eq_true rfl) (Nat.le_of_ble_eq_true rfl) (k_X10_offTop hX a1 v2 v4 1 (by omega) σ hp2) dX7_weighTrain_120 rfl rfl ?_
  refine g_lstore (pc := 123) [(7, .long p2), (6, .int (k0 + k1)), (0, .ref (am_ad X 7 0)), (2, .long v2), (4, .long v4)] dX7_weighTrain_123 (Nat.le_of_ble_eq_true rfl) rfl ?_
  refine g_aload_n (pc := 125) 2 rfl dX7_weighTrain_125 rfl ?_
  refine g_getJ (pc := 126) (in_7 hX.1 (by omega)) fr_X7_58 dX7_weighTrain_126 ?_
  refine g_lconst (pc := 129) (v := 0) dX7_weighTrain_129 (by decide) ?_
  refine g_lcm (pc := 130) dX7_weighTrain_130 ?_
  refine bl_ne (pc := 131) 140 dX7_weighTrain_131 rfl (fun c3 => ?_) (fun c3 => ?_)
  · replace hf := am_ifT c3 hf
    refine g_ldc2 (pc := 134) (v := (-1)) (tb_5 (List.mem_of_getElem? (i := 18) (by decide +kernel))) dX7_weighTrain_134 ?_
    refine g_goto (pc := 137) 155 dX7_weighTrain_137 rfl ?_
    exact am_sub [2, 4, 1, 0] rfl (q_X7_weighTrain_155 hX v4 (k0 + k1) p2 (-1) σ hf hk)
  replace hf := am_ifF c3 hf
  refine g_lload (pc := 140) 0 rfl dX7_weighTrain_140 ?_
  refine g_aload_n (pc := 142) 2 rfl dX7_weighTrain_142 rfl ?_
  refine g_getJ (pc := 143) (in_7 hX.1 (by omega)) fr_X7_58 dX7_weighTrain_143 ?_
  refine g_lmul (pc := 146) dX7_weighTrain_146 ?_
  refine g_aload_n (pc := 147) 2 rfl dX7_weighTrain_147 rfl ?_
  refine g_getJ (pc := 148) (in_7 hX.1 (by omega)) fr_X7_83 dX7_weighTrain_148 ?_
  refine g_lload (pc := 151) 4 rfl dX7_weighTrain_151 ?_
  refine g_lmul (pc := 153) dX7_weighTrain_153 ?_
  refine g_lsub (pc := 154) dX7_weighTrain_154 ?_
  exact am_sub [2, 4, 1, 0] rfl (q_X7_weighTrain_155 hX v4 (k0 + k1) p2 ((p2 * (σ.2.1 7 0 10)) - ((σ.2.1 7 0 9) * v4)) σ hf hk)
noncomputable def f_X7_weighTrain_73 (v1 : Bool) (v2 : Int64) (k0 : Int64) (σ : am_H) : Option (am_H) :=
  (am_ix 6 0).bind fun j1 =>
  (am_ix 6 1).bind fun j2 =>
  if v1 = true then
   ((am_ix 6 2).bind fun j4 =>
   (am_ix 6 3).bind fun j5 =>
   f_X7_weighTrain_109 v2 k0 ((σ.1 804 0 j1) + (σ.1 804 0 j2)) ((σ.1 804 0 j4) + (σ.1 804 0 j5)) σ)
  else
  f_X7_weighTrain_109 v2 k0 ((σ.1 804 0 j1) + (σ.1 804 0 j2)) 0 σ
set_option maxRecDepth 100000 in
set_option maxHeartbeats 4000000 in
theorem q_X7_weighTrain_73 {X : am_X} (hX : am_wC X) {Q : Option Value → am_H → Prop} (v1 : Bool) (v2 : Int64) (k0 : Int64) (σ : am_H) {o : am_H} (hf : f_X7_weighTrain_73 v1 v2 k0 σ = some o) (hk : Q none o) : am_G X gm_X7_weighTrain Q 73 [(0, .ref (am_ad X 7 0)), (1, .int (am_b v1)), (2, .long v2)] [.long k0] σ := by
  unfold f_X7_weighTrain_73 at hf
  refine g_lstore (pc := 73) [(4, .long k0), (0, .ref (am_ad X 7 0)), (1, .int (am_b v1)), (2, .long v2)] dX7_weighTrain_73 (Nat.le_of_ble_eq_true rfl) rfl ?_
  refine g_aload_n (pc := 75) 1 rfl dX7_weighTrain_75 rfl ?_
  refine g_getC (pc := 76) (e := 0) (in_7 hX.1 (by omega)) fr_X7_15 dX7_weighTrain_76 rfl ?_
  refine g_iconst (pc := 79) (v := 0) dX7_weighTrain_79 (by decide) ?_
  obtain ⟨j1, hj1, hf⟩ := am_bd hf
  have gj1 := am_ix_lt hj1
  refine g_aI (pc := 80) (in_804 hX.1 (by omega)) ak_804 hj1 dX7_weighTrain_80 ?_
  refine g_aload_n (pc := 81) 1 rfl dX7_weighTrain_81 rfl ?_
  refine g_getC (pc := 82) (e := 0) (in_7 hX.1 (by omega)) fr_X7_15 dX7_weighTrain_82 rfl ?_
  refine g_iconst (pc := 85) (v := 1) dX7_weighTrain_85 (by decide) ?_
  obtain ⟨j2, hj2, hf⟩ := am_bd hf
  have gj2 := am_ix_lt hj2
  refine g_aI (pc := 86) (in_804 hX.1 (by omega)) ak_804 hj2 dX7_weighTrain_86 ?_
  refine g_iadd (pc := 87) dX7_weighTrain_87 ?_
  refine g_iload_n (pc := 88) 2 rfl dX7_weighTrain_88 rfl ?_
  refine bt_eq (pc := 89) 108 dX7_weighTrain_89 rfl (fun c3 => ?_) (fun c3 => ?_)
  · replace hf := am_ifT c3 hf
    refine g_aload_n (pc := 92) 1 rfl dX7_weighTrain_92 rfl ?_
    refine g_getC (pc := 93) (e := 0) (in_7 hX.1 (by omega)) fr_X7_15 dX7_weighTrain_93 rfl ?_
    refine g_iconst (pc := 96) (v := 2) dX7_weighTrain_96 (by decide) ?_
    obtain ⟨j4, hj4, hf⟩ := am_bd hf
    have gj4 := am_ix_lt hj4
    refine g_aI (pc := 97) (in_804 hX.1 (by omega)) ak_804 hj4 dX7_weighTrain_97 ?_
    refine g_aload_n (pc := 98) 1 rfl dX7_weighTrain_98 rfl ?_
    refine g_getC (pc := 99) (e := 0) (in_7 hX.1 (by omega)) fr_X7_15 dX7_weighTrain_99 rfl ?_
    refine g_iconst (pc := 102) (v := 3) dX7_weighTrain_102 (by decide) ?_
    obtain ⟨j5, hj5, hf⟩ := am_bd hf
    have gj5 := am_ix_lt hj5
    refine g_aI (pc := 103) (in_804 hX.1 (by omega)) ak_804 hj5 dX7_weighTrain_103 ?_
    refine g_iadd (pc := 104) dX7_weighTrain_104 ?_
    refine g_goto (pc := 105) 109 dX7_weighTrain_105 rfl ?_
    exact am_sub [1, 3, 0] rfl (q_X7_weighTrain_109 hX v2 k0 ((σ.1 804 0 j1) + (σ.1 804 0 j2)) ((σ.1 804 0 j4) + (σ.1 804 0 j5)) σ hf hk)
  replace hf := am_ifF c3 hf
  refine g_iconst (pc := 108) (v := 0) dX7_weighTrain_108 (by decide) ?_
  exact am_sub [1, 3, 0] rfl (q_X7_weighTrain_109 hX v2 k0 ((σ.1 804 0 j1) + (σ.1 804 0 j2)) 0 σ hf hk)
noncomputable def f_X7_weighTrain_43 (v1 : Bool) (k0 : Int64) (σ : am_H) : Option (am_H) :=
  if v1 = true then
   ((am_ix 6 1).bind fun j2 =>
   (am_ix 6 3).bind fun j3 =>
   f_X7_weighTrain_73 v1 k0 ((Int32.toInt64 (σ.1 804 0 j2)) * (Int32.toInt64 (σ.1 804 0 j3))) σ)
  else
  (am_ix 6 1).bind fun j4 =>
  f_X7_weighTrain_73 v1 k0 (Int32.toInt64 (σ.1 804 0 j4)) σ
set_option maxRecDepth 100000 in
set_option maxHeartbeats 4000000 in
theorem q_X7_weighTrain_43 {X : am_X} (hX : am_wC X) {Q : Option Value → am_H → Prop} (v1 : Bool) (k0 : Int64) (σ : am_H) {o : am_H} (hf : f_X7_weighTrain_43 v1 k0 σ = some o) (hk : Q none o) : am_G X gm_X7_weighTrain Q 43 [(0, .ref (am_ad X 7 0)), (1, .int (am_b v1))] [.long k0] σ := by
  unfold f_X7_weighTrain_43 at hf
  refine g_lstore_n (pc := 43) [(2, .long k0), (0, .ref (am_ad X 7 0)), (1, .int (am_b v1))] dX7_weighTrain_43 rfl (Nat.le_of_ble_eq_true rfl) rfl ?_
  refine g_iload_n (pc := 44) 2 rfl dX7_weighTrain_44 rfl ?_
  refine bt_eq (pc := 45) 66 dX7_weighTrain_45 rfl (fun c1 => ?_) (fun c1 => ?_)
  · replace hf := am_ifT c1 hf
    refine g_aload_n (pc := 48) 1 rfl dX7_weighTrain_48 rfl ?_
    refine g_getC (pc := 49) (e := 0) (in_7 hX.1 (by omega)) fr_X7_15 dX7_weighTrain_49 rfl ?_
    refine g_iconst (pc := 52) (v := 1) dX7_weighTrain_52 (by decide) ?_
    obtain ⟨j2, hj2, hf⟩ := am_bd hf
    have gj2 := am_ix_lt hj2
    refine g_aI (pc := 53) (in_804 hX.1 (by omega)) ak_804 hj2 dX7_weighTrain_53 ?_
    refine g_i2l (pc := 54) dX7_weighTrain_54 ?_
    refine g_aload_n (pc := 55) 1 rfl dX7_weighTrain_55 rfl ?_
    refine g_getC (pc := 56) (e := 0) (in_7 hX.1 (by omega)) fr_X7_15 dX7_weighTrain_56 rfl ?_
    refine g_iconst (pc := 59) (v := 3) dX7_weighTrain_59 (by decide) ?_
    obtain ⟨j3, hj3, hf⟩ := am_bd hf
    have gj3 := am_ix_lt hj3
    refine g_aI (pc := 60) (in_804 hX.1 (by omega)) ak_804 hj3 dX7_weighTrain_60 ?_
    refine g_i2l (pc := 61) dX7_weighTrain_61 ?_
    refine g_lmul (pc := 62) dX7_weighTrain_62 ?_
    refine g_goto (pc := 63) 73 dX7_weighTrain_63 rfl ?_
    exact am_sub [1, 2, 0] rfl (q_X7_weighTrain_73 hX v1 k0 ((Int32.toInt64 (σ.1 804 0 j2)) * (Int32.toInt64 (σ.1 804 0 j3))) σ hf hk)
  replace hf := am_ifF c1 hf
  refine g_aload_n (pc := 66) 1 rfl dX7_weighTrain_66 rfl ?_
  refine g_getC (pc := 67) (e := 0) (in_7 hX.1 (by omega)) fr_X7_15 dX7_weighTrain_67 rfl ?_
  refine g_iconst (pc := 70) (v := 1) dX7_weighTrain_70 (by decide) ?_
  obtain ⟨j4, hj4, hf⟩ := am_bd hf
  have gj4 := am_ix_lt hj4
  refine g_aI (pc := 71) (in_804 hX.1 (by omega)) ak_804 hj4 dX7_weighTrain_71 ?_
  refine g_i2l (pc := 72) dX7_weighTrain_72 ?_
  exact am_sub [1, 2, 0] rfl (q_X7_weighTrain_73 hX v1 k0 (Int32.toInt64 (σ.1 804 0 j4)) σ hf hk)
noncomputable def f_X7_weighTrain_13 (k0 : Bool) (σ : am_H) : Option (am_H) :=
  if k0 = true then
   ((am_ix 6 0).bind fun j2 =>
   (am_ix 6 2).bind fun j3 =>
   f_X7_weighTrain_43 k0 ((Int32.toInt64 (σ.1 804 0 j2)) * (Int32.toInt64 (σ.1 804 0 j3))) σ)
  else
  (am_ix 6 0).bind fun j4 =>
  f_X7_weighTrain_43 k0 (Int32.toInt64 (σ.1 804 0 j4)) σ
set_option maxRecDepth 100000 in
set_option maxHeartbeats 4000000 in
theorem q_X7_weighTrain_13 {X : am_X} (hX : am_wC X) {Q : Option Value → am_H → Prop} (k0 : Bool) (σ : am_H) {o : am_H} (hf : f_X7_weighTrain_13 k0 σ = some o) (hk : Q none o) : am_G X gm_X7_weighTrain Q 13 [(0, .ref (am_ad X 7 0))] [.int (am_b k0)] σ := by
  unfold f_X7_weighTrain_13 at hf
  refine g_istore_n (pc := 13) [(1, .int (am_b k0)), (0, .ref (am_ad X 7 0))] dX7_weighTrain_13 rfl (Nat.le_of_ble_eq_true rfl) rfl ?_
  refine g_iload_n (pc := 14) 0 rfl dX7_weighTrain_14 rfl ?_
  refine bt_eq (pc := 15) 36 dX7_weighTrain_15 rfl (fun c1 => ?_) (fun c1 => ?_)
  · replace hf := am_ifT c1 hf
    refine g_aload_n (pc := 18) 1 rfl dX7_weighTrain_18 rfl ?_
    refine g_getC (pc := 19) (e := 0) (in_7 hX.1 (by omega)) fr_X7_15 dX7_weighTrain_19 rfl ?_
    refine g_iconst (pc := 22) (v := 0) dX7_weighTrain_22 (by decide) ?_
    obtain ⟨j2, hj2, hf⟩ := am_bd hf
    have gj2 := am_ix_lt hj2
    refine g_aI (pc := 23) (in_804 hX.1 (by omega)) ak_804 hj2 dX7_weighTrain_23 ?_
    refine g_i2l (pc := 24) dX7_weighTrain_24 ?_
    refine g_aload_n (pc := 25) 1 rfl dX7_weighTrain_25 rfl ?_
    refine g_getC (pc := 26) (e := 0) (in_7 hX.1 (by omega)) fr_X7_15 dX7_weighTrain_26 rfl ?_
    refine g_iconst (pc := 29) (v := 2) dX7_weighTrain_29 (by decide) ?_
    obtain ⟨j3, hj3, hf⟩ := am_bd hf
    have gj3 := am_ix_lt hj3
    refine g_aI (pc := 30) (in_804 hX.1 (by omega)) ak_804 hj3 dX7_weighTrain_30 ?_
    refine g_i2l (pc := 31) dX7_weighTrain_31 ?_
    refine g_lmul (pc := 32) dX7_weighTrain_32 ?_
    refine g_goto (pc := 33) 43 dX7_weighTrain_33 rfl ?_
    exact am_sub [1, 0] rfl (q_X7_weighTrain_43 hX k0 ((Int32.toInt64 (σ.1 804 0 j2)) * (Int32.toInt64 (σ.1 804 0 j3))) σ hf hk)
  replace hf := am_ifF c1 hf
  refine g_aload_n (pc := 36) 1 rfl dX7_weighTrain_36 rfl ?_
  refine g_getC (pc := 37) (e := 0) (in_7 hX.1 (by omega)) fr_X7_15 dX7_weighTrain_37 rfl ?_
  refine g_iconst (pc := 40) (v := 0) dX7_weighTrain_40 (by decide) ?_
  obtain ⟨j4, hj4, hf⟩ := am_bd hf
  have gj4 := am_ix_lt hj4
  refine g_aI (pc := 41) (in_804 hX.1 (by omega)) ak_804 hj4 dX7_weighTrain_41 ?_
  refine g_i2l (pc := 42) dX7_weighTrain_42 ?_
  exact am_sub [1, 0] rfl (q_X7_weighTrain_43 hX k0 (Int32.toInt64 (σ.1 804 0 j4)) σ hf hk)
noncomputable def f_X7_weighTrain (σ : am_H) : Option (am_H) :=
  if 2 < (σ.1 7 0 2) then
   (f_X7_weighTrain_13 true σ)
  else
  f_X7_weighTrain_13 false σ
set_option maxRecDepth 100000 in
set_option maxHeartbeats 4000000 in
theorem q_X7_weighTrain {X : am_X} (hX : am_wC X) {Q : Option Value → am_H → Prop} (σ : am_H) {o : am_H} (hf : f_X7_weighTrain σ = some o) (hk : Q none o) : am_G X gm_X7_weighTrain Q 0 [(0, .ref (am_ad X 7 0))] [] σ := by
  unfold f_X7_weighTrain at hf
  refine g_aload_n (pc := 0) 0 rfl dX7_weighTrain_0 rfl ?_
  refine g_getI (pc := 1) (in_7 hX.1 (by omega)) fr_X7_55 dX7_weighTrain_1 ?_
  refine g_iconst (pc := 4) (v := 2) dX7_weighTrain_4 (by decide) ?_
  refine bi_le (pc := 5) 12 dX7_weighTrain_5 rfl (fun c1 => ?_) (fun c1 => ?_)
  · replace hf := am_ifT c1 hf
    refine g_iconst (pc := 8) (v := 1) dX7_weighTrain_8 (by decide) ?_
    refine g_goto (pc := 9) 13 dX7_weighTrain_9 rfl ?_
    exact q_X7_weighTrain_13 hX true σ hf hk
  replace hf := am_ifF c1 hf
  refine g_iconst (pc := 12) (v := 0) dX7_weighTrain_12 (by decide) ?_
  exact q_X7_weighTrain_13 hX false σ hf hk
theorem k_X7_weighTrain {X : am_X} (hX : am_wC X) (σ : am_H) {o : am_H} (hf : f_X7_weighTrain σ = some o) : am_C X gm_X7_weighTrain [.ref (am_ad X 7 0)] σ (am_is none o) :=
  am_ofG rfl (Nat.le_of_ble_eq_true rfl) rfl (q_X7_weighTrain hX σ hf ⟨rfl, rfl⟩)
theorem dX7_tryWheel_0 : decode cX7_tryWheel 0 = .ok (.iload_n 1, 1) := by decide +kernel
theorem dX7_tryWheel_1 : decode cX7_tryWheel 1 = .ok (.aload_n 0, 1) := by decide +kernel
theorem dX7_tryWheel_2 : decode cX7_tryWheel 2 = .ok (.getfield 55, 3) := by decide +kernel
theorem dX7_tryWheel_5 : decode cX7_tryWheel 5 = .ok (.if_icmp .ge 8, 3) := by decide +kernel
theorem dX7_tryWheel_8 : decode cX7_tryWheel 8 = .ok (.iload_n 1, 1) := by decide +kernel
theorem dX7_tryWheel_9 : decode cX7_tryWheel 9 = .ok (.iconst 4, 1) := by decide +kernel
theorem dX7_tryWheel_10 : decode cX7_tryWheel 10 = .ok (.if_icmp .lt 8, 3) := by decide +kernel
theorem dX7_tryWheel_13 : decode cX7_tryWheel 13 = .ok (.aload_n 0, 1) := by decide +kernel
theorem dX7_tryWheel_14 : decode cX7_tryWheel 14 = .ok (.invokevirtual 69, 3) := by decide +kernel
theorem dX7_tryWheel_17 : decode cX7_tryWheel 17 = .ok (.return_, 1) := by decide +kernel
theorem dX7_tryWheel_18 : decode cX7_tryWheel 18 = .ok (.iconst 0, 1) := by decide +kernel
theorem dX7_tryWheel_19 : decode cX7_tryWheel 19 = .ok (.istore_n 2, 1) := by decide +kernel
theorem dX7_tryWheel_20 : decode cX7_tryWheel 20 = .ok (.iload_n 2, 1) := by decide +kernel
theorem dX7_tryWheel_21 : decode cX7_tryWheel 21 = .ok (.aload_n 0, 1) := by decide +kernel
theorem dX7_tryWheel_22 : decode cX7_tryWheel 22 = .ok (.getfield 34, 3) := by decide +kernel
theorem dX7_tryWheel_25 : decode cX7_tryWheel 25 = .ok (.getfield 38, 3) := by decide +kernel
theorem dX7_tryWheel_28 : decode cX7_tryWheel 28 = .ok (.if_icmp .ge 60, 3) := by decide +kernel
theorem dX7_tryWheel_31 : decode cX7_tryWheel 31 = .ok (.aload_n 0, 1) := by decide +kernel
theorem dX7_tryWheel_32 : decode cX7_tryWheel 32 = .ok (.getfield 9, 3) := by decide +kernel
theorem dX7_tryWheel_35 : decode cX7_tryWheel 35 = .ok (.iload_n 2, 1) := by decide +kernel
theorem dX7_tryWheel_36 : decode cX7_tryWheel 36 = .ok (.iaload, 1) := by decide +kernel
theorem dX7_tryWheel_37 : decode cX7_tryWheel 37 = .ok (.ifCond .le 45, 3) := by decide +kernel
theorem dX7_tryWheel_40 : decode cX7_tryWheel 40 = .ok (.aload_n 0, 1) := by decide +kernel
theorem dX7_tryWheel_41 : decode cX7_tryWheel 41 = .ok (.getfield 9, 3) := by decide +kernel
theorem dX7_tryWheel_44 : decode cX7_tryWheel 44 = .ok (.iload_n 2, 1) := by decide +kernel
theorem dX7_tryWheel_45 : decode cX7_tryWheel 45 = .ok (.dup2, 1) := by decide +kernel
theorem dX7_tryWheel_46 : decode cX7_tryWheel 46 = .ok (.iaload, 1) := by decide +kernel
theorem dX7_tryWheel_47 : decode cX7_tryWheel 47 = .ok (.iconst 1, 1) := by decide +kernel
theorem dX7_tryWheel_48 : decode cX7_tryWheel 48 = .ok (.isub, 1) := by decide +kernel
theorem dX7_tryWheel_49 : decode cX7_tryWheel 49 = .ok (.iastore, 1) := by decide +kernel
theorem dX7_tryWheel_50 : decode cX7_tryWheel 50 = .ok (.aload_n 0, 1) := by decide +kernel
theorem dX7_tryWheel_51 : decode cX7_tryWheel 51 = .ok (.getfield 15, 3) := by decide +kernel
theorem dX7_tryWheel_54 : decode cX7_tryWheel 54 = .ok (.iload_n 1, 1) := by decide +kernel
theorem dX7_tryWheel_55 : decode cX7_tryWheel 55 = .ok (.aload_n 0, 1) := by decide +kernel
theorem dX7_tryWheel_56 : decode cX7_tryWheel 56 = .ok (.getfield 34, 3) := by decide +kernel
theorem dX7_tryWheel_59 : decode cX7_tryWheel 59 = .ok (.getfield 72, 3) := by decide +kernel
theorem dX7_tryWheel_62 : decode cX7_tryWheel 62 = .ok (.iload_n 2, 1) := by decide +kernel
theorem dX7_tryWheel_63 : decode cX7_tryWheel 63 = .ok (.iaload, 1) := by decide +kernel
theorem dX7_tryWheel_64 : decode cX7_tryWheel 64 = .ok (.iastore, 1) := by decide +kernel
theorem dX7_tryWheel_65 : decode cX7_tryWheel 65 = .ok (.aload_n 0, 1) := by decide +kernel
theorem dX7_tryWheel_66 : decode cX7_tryWheel 66 = .ok (.iload_n 1, 1) := by decide +kernel
theorem dX7_tryWheel_67 : decode cX7_tryWheel 67 = .ok (.iconst 1, 1) := by decide +kernel
theorem dX7_tryWheel_68 : decode cX7_tryWheel 68 = .ok (.iadd, 1) := by decide +kernel
theorem dX7_tryWheel_69 : decode cX7_tryWheel 69 = .ok (.invokevirtual 62, 3) := by decide +kernel
theorem dX7_tryWheel_72 : decode cX7_tryWheel 72 = .ok (.aload_n 0, 1) := by decide +kernel
theorem dX7_tryWheel_73 : decode cX7_tryWheel 73 = .ok (.getfield 9, 3) := by decide +kernel
theorem dX7_tryWheel_76 : decode cX7_tryWheel 76 = .ok (.iload_n 2, 1) := by decide +kernel
theorem dX7_tryWheel_77 : decode cX7_tryWheel 77 = .ok (.dup2, 1) := by decide +kernel
theorem dX7_tryWheel_78 : decode cX7_tryWheel 78 = .ok (.iaload, 1) := by decide +kernel
theorem dX7_tryWheel_79 : decode cX7_tryWheel 79 = .ok (.iconst 1, 1) := by decide +kernel
theorem dX7_tryWheel_80 : decode cX7_tryWheel 80 = .ok (.iadd, 1) := by decide +kernel
theorem dX7_tryWheel_81 : decode cX7_tryWheel 81 = .ok (.iastore, 1) := by decide +kernel
theorem dX7_tryWheel_82 : decode cX7_tryWheel 82 = .ok (.iinc 2 1, 3) := by decide +kernel
theorem dX7_tryWheel_85 : decode cX7_tryWheel 85 = .ok (.goto (-65), 3) := by decide +kernel
theorem dX7_tryWheel_88 : decode cX7_tryWheel 88 = .ok (.return_, 1) := by decide +kernel
noncomputable def f_X7_tryWheel_20 (rc : Int32 → am_H → Option (am_H)) (v1 : Int32) (v2 : Int32) (σ : am_H) : Option ((Int32 × am_H) ⊕ (am_H)) :=
  (am_rr 3 (σ.2.2 7 0 0)).bind fun a1 =>
  if v2 < (σ.1 3 a1 4) then
   ((am_ix 10 v2).bind fun j3 =>
   if 0 < (σ.1 803 0 j3) then
    ((am_ix 10 v2).bind fun j5 =>
    (am_ix 10 v2).bind fun j6 =>
    (some (am_wI σ 803 0 j6 ((σ.1 803 0 j5) - 1))).bind fun s7 =>
    (am_rr 3 (s7.2.2 7 0 0)).bind fun a8 =>
    (am_ix 10 v2).bind fun j9 =>
    (am_ix 6 v1).bind fun j10 =>
    (some (am_wI s7 804 0 j10 (s7.1 403 a8 j9))).bind fun s11 =>
    (rc (v1 + 1) s11).bind fun p12 =>
    (am_ix 10 v2).bind fun j13 =>
    (am_ix 10 v2).bind fun j14 =>
    (some (am_wI p12 803 0 j14 ((p12.1 803 0 j13) + 1))).bind fun s15 =>
    some (.inl ((v2 + 1), s15)))
   else
   some (.inl ((v2 + 1), σ)))
  else
  some (.inr σ)
set_option maxRecDepth 100000 in
set_option maxHeartbeats 4000000 in
theorem q_X7_tryWheel_20 {X : am_X} (hX : am_wC X) {Q : Option Value → am_H → Prop} (n : Nat) (rc : Int32 → am_H → Option (am_H)) (hrc : ∀ (v1 : Int32) (σ : am_H) (o : am_H), rc v1 σ = some o → am_C X (gm_X7_tryWheel n) [.ref (am_ad X 7 0), .int v1] σ (am_is none o)) (v1 : Int32) (v2 : Int32) (σ : am_H) {o : (Int32 × am_H) ⊕ (am_H)} (hf : f_X7_tryWheel_20 rc v1 v2 σ = some o) (hk0 : ∀ s, o = .inl s → am_G X (gm_X7_tryWheel (n + 1)) Q 20 [(0, .ref (am_ad X 7 0)), (1, .int v1), (2, .int s.1)] [] s.2) (hk1 : ∀ t, o = .inr t → am_G X (gm_X7_tryWheel (n + 1)) Q 88 [] [] t) : am_G X (gm_X7_tryWheel (n + 1)) Q 20 [(0, .ref (am_ad X 7 0)), (1, .int v1), (2, .int v2)] [] σ := by
  unfold f_X7_tryWheel_20 at hf
  refine g_iload_n (pc := 20) 2 rfl dX7_tryWheel_20 rfl ?_
  refine g_aload_n (pc := 21) 0 rfl dX7_tryWheel_21 rfl ?_
  obtain ⟨a1, ha1, hf⟩ := am_bd hf
  obtain ⟨ha1, ga1⟩ := am_rr_in ha1
  refine g_getM (pc := 22) (in_7 hX.1 (by omega)) fr_X7_34 ha1 dX7_tryWheel_22 ?_
  refine g_getI (pc := 25) (in_3 hX.1 (by omega)) fr_X7_38 dX7_tryWheel_25 ?_
  refine bi_ge (pc := 28) 88 dX7_tryWheel_28 rfl (fun c2 => ?_) (fun c2 => ?_)
  · replace hf := am_ifT c2 hf
    refine g_aload_n (pc := 31) 0 rfl dX7_tryWheel_31 rfl ?_
    refine g_getC (pc := 32) (e := 0) (in_7 hX.1 (by omega)) fr_X7_9 dX7_tryWheel_32 rfl ?_
    refine g_iload_n (pc := 35) 2 rfl dX7_tryWheel_35 rfl ?_
    obtain ⟨j3, hj3, hf⟩ := am_bd hf
    have gj3 := am_ix_lt hj3
    refine g_aI (pc := 36) (in_803 hX.1 (by omega)) ak_803 hj3 dX7_tryWheel_36 ?_
    refine bz_le (pc := 37) 82 dX7_tryWheel_37 rfl (fun c4 => ?_) (fun c4 => ?_)
    · replace hf := am_ifT c4 hf
      refine g_aload_n (pc := 40) 0 rfl dX7_tryWheel_40 rfl ?_
      refine g_getC (pc := 41) (e := 0) (in_7 hX.1 (by omega)) fr_X7_9 dX7_tryWheel_41 rfl ?_
      refine g_iload_n (pc := 44) 2 rfl dX7_tryWheel_44 rfl ?_
      refine g_dup2_11 (pc := 45) dX7_tryWheel_45 rfl rfl ?_
      obtain ⟨j5, hj5, hf⟩ := am_bd hf
      have gj5 := am_ix_lt hj5
      refine g_aI (pc := 46) (in_803 hX.1 (by omega)) ak_803 hj5 dX7_tryWheel_46 ?_
      refine g_iconst (pc := 47) (v := 1) dX7_tryWheel_47 (by decide) ?_
      refine g_isub (pc := 48) dX7_tryWheel_48 ?_
      obtain ⟨j6, hj6, hf⟩ := am_bd hf
      have gj6 := am_ix_lt hj6
      obtain ⟨s7, hs7, hf⟩ := am_bd hf
      refine g_sI (pc := 49) (in_803 hX.1 (by omega)) ak_803 hj6 dX7_tryWheel_49 (Option.some.inj hs7) ?_
      refine g_aload_n (pc := 50) 0 rfl dX7_tryWheel_50 rfl ?_
      refine g_getC (pc := 51) (e := 0) (in_7 hX.1 (by omega)) fr_X7_15 dX7_tryWheel_51 rfl ?_
      refine g_iload_n (pc := 54) 1 rfl dX7_tryWheel_54 rfl ?_
      refine g_aload_n (pc := 55) 0 rfl dX7_tryWheel_55 rfl ?_
      obtain ⟨a8, ha8, hf⟩ := am_bd hf
      obtain ⟨ha8, ga8⟩ := am_rr_in ha8
      refine g_getM (pc := 56) (in_7 hX.1 (by omega)) fr_X7_34 ha8 dX7_tryWheel_56 ?_
      refine g_getC (pc := 59) (e := a8) (in_3 hX.1 (by omega)) fr_X7_72 dX7_tryWheel_59 rfl ?_
      refine g_iload_n (pc := 62) 2 rfl dX7_tryWheel_62 rfl ?_
      obtain ⟨j9, hj9, hf⟩ := am_bd hf
      have gj9 := am_ix_lt hj9
      refine g_aI (pc := 63) (in_403 hX.1 (by omega)) ak_403 hj9 dX7_tryWheel_63 ?_
      obtain ⟨j10, hj10, hf⟩ := am_bd hf
      have gj10 := am_ix_lt hj10
      obtain ⟨s11, hs11, hf⟩ := am_bd hf
      refine g_sI (pc := 64) (in_804 hX.1 (by omega)) ak_804 hj10 dX7_tryWheel_64 (Option.some.inj hs11) ?_
      refine g_aload_n (pc := 65) 0 rfl dX7_tryWheel_65 rfl ?_
      refine g_iload_n (pc := 66) 1 rfl dX7_tryWheel_66 rfl ?_
      refine g_iconst (pc := 67) (v := 1) dX7_tryWheel_67 (by decide) ?_
      refine g_iadd (pc := 68) dX7_tryWheel_68 ?_
      obtain ⟨p12, hp12, hf⟩ := am_bd hf
      refine g_cV (pc := 69) (As := [.int (v1 + 1)]) (st := []) (st1 := []) (in_7 hX.1 (by omega)) kk_7 (mV_X7_tryWheel _) ln_X7_62 rfl (by first | exact Nat.le_of_ble_eq_true rfl | (show _ + 1 ≤ _; simp only []; omega)) (Nat.le_of_ble_eq_true rfl) (hrc (v1 + 1) s11 _ hp12) dX7_tryWheel_69 rfl rfl ?_
      refine g_aload_n (pc := 72) 0 rfl dX7_tryWheel_72 rfl ?_
      refine g_getC (pc := 73) (e := 0) (in_7 hX.1 (by omega)) fr_X7_9 dX7_tryWheel_73 rfl ?_
      refine g_iload_n (pc := 76) 2 rfl dX7_tryWheel_76 rfl ?_
      refine g_dup2_11 (pc := 77) dX7_tryWheel_77 rfl rfl ?_
      obtain ⟨j13, hj13, hf⟩ := am_bd hf
      have gj13 := am_ix_lt hj13
      refine g_aI (pc := 78) (in_803 hX.1 (by omega)) ak_803 hj13 dX7_tryWheel_78 ?_
      refine g_iconst (pc := 79) (v := 1) dX7_tryWheel_79 (by decide) ?_
      refine g_iadd (pc := 80) dX7_tryWheel_80 ?_
      obtain ⟨j14, hj14, hf⟩ := am_bd hf
      have gj14 := am_ix_lt hj14
      obtain ⟨s15, hs15, hf⟩ := am_bd hf
      refine g_sI (pc := 81) (in_803 hX.1 (by omega)) ak_803 hj14 dX7_tryWheel_81 (Option.some.inj hs15) ?_
      refine g_iinc (pc := 82) (v := (v2 + 1)) 2 [(2, .int (v2 + 1)), (0, .ref (am_ad X 7 0)), (1, .int v1)] dX7_tryWheel_82 rfl rfl (Nat.le_of_ble_eq_true rfl) rfl ?_
      refine g_goto (pc := 85) 20 dX7_tryWheel_85 rfl ?_
      have hz := hk0 _ (Option.some.inj hf).symm
      exact am_sub [1, 2, 0] rfl hz
    replace hf := am_ifF c4 hf
    refine g_iinc (pc := 82) (v := (v2 + 1)) 2 [(2, .int (v2 + 1)), (0, .ref (am_ad X 7 0)), (1, .int v1)] dX7_tryWheel_82 rfl rfl (Nat.le_of_ble_eq_true rfl) rfl ?_
    refine g_goto (pc := 85) 20 dX7_tryWheel_85 rfl ?_
    have hz := hk0 _ (Option.some.inj hf).symm
    exact am_sub [1, 2, 0] rfl hz
  replace hf := am_ifF c2 hf
  have hz := hk1 _ (Option.some.inj hf).symm
  exact am_sub [] rfl hz
set_option maxRecDepth 100000 in
set_option maxHeartbeats 4000000 in
theorem l_X7_tryWheel_20 {X : am_X} (hX : am_wC X) {Q : Option Value → am_H → Prop} (n : Nat) (rc : Int32 → am_H → Option (am_H)) (hrc : ∀ (v1 : Int32) (σ : am_H) (o : am_H), rc v1 σ = some o → am_C X (gm_X7_tryWheel n) [.ref (am_ad X 7 0), .int v1] σ (am_is none o)) (v1 : Int32) (σ : am_H) (s : Int32 × am_H) {o : am_H} (hf : am_loop (fun s => f_X7_tryWheel_20 rc v1 s.1 s.2) s = some o) (hk1 : ∀ t, o = t → am_G X (gm_X7_tryWheel (n + 1)) Q 88 [] [] t) : am_G X (gm_X7_tryWheel (n + 1)) Q 20 [(0, .ref (am_ad X 7 0)), (1, .int v1), (2, .int s.1)] [] s.2 := by
  refine am_loop_ind (P := fun s => am_G X (gm_X7_tryWheel (n + 1)) Q 20 [(0, .ref (am_ad X 7 0)), (1, .int v1), (2, .int s.1)] [] s.2) (K := fun r => r = o) ?_ hf rfl
  intro s o1 hb hi hr
  exact q_X7_tryWheel_20 hX n rc hrc v1 s.1  s.2 hb hi (fun t e => hk1 t (hr _ e).symm)
noncomputable def f_X7_tryWheel_13 (rc : Int32 → am_H → Option (am_H)) (σ : am_H) : Option (am_H) :=
  (f_X7_weighTrain σ).bind fun p1 =>
  some p1
set_option maxRecDepth 100000 in
set_option maxHeartbeats 4000000 in
theorem q_X7_tryWheel_13 {X : am_X} (hX : am_wC X) {Q : Option Value → am_H → Prop} (n : Nat) (rc : Int32 → am_H → Option (am_H)) (hrc : ∀ (v1 : Int32) (σ : am_H) (o : am_H), rc v1 σ = some o → am_C X (gm_X7_tryWheel n) [.ref (am_ad X 7 0), .int v1] σ (am_is none o)) (σ : am_H) {o : am_H} (hf : f_X7_tryWheel_13 rc σ = some o) (hk : Q none o) : am_G X (gm_X7_tryWheel (n + 1)) Q 13 [(0, .ref (am_ad X 7 0))] [] σ := by
  unfold f_X7_tryWheel_13 at hf
  refine g_aload_n (pc := 13) 0 rfl dX7_tryWheel_13 rfl ?_
  obtain ⟨p1, hp1, hf⟩ := am_bd hf
  refine g_cV (pc := 14) (As := []) (st := []) (st1 := []) (in_7 hX.1 (by omega)) kk_7 mV_X7_weighTrain ln_X7_69 rfl (by first | exact Nat.le_of_ble_eq_true rfl | (show _ + 1 ≤ _; simp only []; omega)) (Nat.le_of_ble_eq_true rfl) (k_X7_weighTrain hX σ hp1) dX7_tryWheel_14 rfl rfl ?_
  have ho := Option.some.inj hf
  subst ho
  exact g_vreturn (pc := 17) (st := []) rfl dX7_tryWheel_17 hk
noncomputable def f_X7_tryWheel_0 (rc : Int32 → am_H → Option (am_H)) (v1 : Int32) (σ : am_H) : Option (am_H) :=
  if v1 < (σ.1 7 0 2) then
   (if v1 < 4 then
    ((am_loop (fun s => f_X7_tryWheel_20 rc v1 s.1 s.2) (0, σ)).bind fun w3 =>
    some w3)
   else
   f_X7_tryWheel_13 rc σ)
  else
  f_X7_tryWheel_13 rc σ
set_option maxRecDepth 100000 in
set_option maxHeartbeats 4000000 in
theorem q_X7_tryWheel_0 {X : am_X} (hX : am_wC X) {Q : Option Value → am_H → Prop} (n : Nat) (rc : Int32 → am_H → Option (am_H)) (hrc : ∀ (v1 : Int32) (σ : am_H) (o : am_H), rc v1 σ = some o → am_C X (gm_X7_tryWheel n) [.ref (am_ad X 7 0), .int v1] σ (am_is none o)) (v1 : Int32) (σ : am_H) {o : am_H} (hf : f_X7_tryWheel_0 rc v1 σ = some o) (hk : Q none o) : am_G X (gm_X7_tryWheel (n + 1)) Q 0 [(0, .ref (am_ad X 7 0)), (1, .int v1)] [] σ := by
  unfold f_X7_tryWheel_0 at hf
  refine g_iload_n (pc := 0) 1 rfl dX7_tryWheel_0 rfl ?_
  refine g_aload_n (pc := 1) 0 rfl dX7_tryWheel_1 rfl ?_
  refine g_getI (pc := 2) (in_7 hX.1 (by omega)) fr_X7_55 dX7_tryWheel_2 ?_
  refine bi_ge (pc := 5) 13 dX7_tryWheel_5 rfl (fun c1 => ?_) (fun c1 => ?_)
  · replace hf := am_ifT c1 hf
    refine g_iload_n (pc := 8) 1 rfl dX7_tryWheel_8 rfl ?_
    refine g_iconst (pc := 9) (v := 4) dX7_tryWheel_9 (by decide) ?_
    refine bi_lt (pc := 10) 18 dX7_tryWheel_10 rfl (fun c2 => ?_) (fun c2 => ?_)
    · replace hf := am_ifT c2 hf
      refine g_iconst (pc := 18) (v := 0) dX7_tryWheel_18 (by decide) ?_
      refine g_istore_n (pc := 19) [(2, .int 0), (0, .ref (am_ad X 7 0)), (1, .int v1)] dX7_tryWheel_19 rfl (Nat.le_of_ble_eq_true rfl) rfl ?_
      obtain ⟨w3, hw3, hf⟩ := am_bd hf
      refine am_sub [1, 2, 0] rfl (l_X7_tryWheel_20 hX n rc hrc v1  σ (0, σ) hw3 ?_)
      intro t e
      subst e
      have ho := Option.some.inj hf
      subst ho
      exact g_vreturn (pc := 88) (st := []) rfl dX7_tryWheel_88 hk
    replace hf := am_ifF c2 hf
    exact am_sub [0] rfl (q_X7_tryWheel_13 hX n rc hrc σ hf hk)
  replace hf := am_ifF c1 hf
  exact am_sub [0] rfl (q_X7_tryWheel_13 hX n rc hrc σ hf hk)
noncomputable def f_X7_tryWheel : Nat → Int32 → am_H → Option (am_H)
  | 0 => fun _ _ => none
  | n + 1 => fun v1 σ => f_X7_tryWheel_0 (f_X7_tryWheel n) v1 σ
theorem k_X7_tryWheel {X : am_X} (hX : am_wC X) (n : Nat) : ∀ (v1 : Int32) (σ : am_H) {o : am_H}, f_X7_tryWheel n v1 σ = some o → am_C X (gm_X7_tryWheel n) [.ref (am_ad X 7 0), .int v1] σ (am_is none o) := by
  induction n with
  | zero => intro v1 σ o hf; exact absurd hf (by simp [f_X7_tryWheel])
  | succ n ih =>
    intro v1 σ o hf
    exact am_ofG rfl (Nat.le_of_ble_eq_true rfl) rfl (q_X7_tryWheel_0 hX n (f_X7_tryWheel n) (fun v1 σ o h => ih v1 σ h) v1 σ hf ⟨rfl, rfl⟩)
theorem dX7_findBest_0 : decode cX7_findBest 0 = .ok (.aload_n 0, 1) := by decide +kernel
theorem dX7_findBest_1 : decode cX7_findBest 1 = .ok (.aload_n 1, 1) := by decide +kernel
theorem dX7_findBest_2 : decode cX7_findBest 2 = .ok (.invokevirtual 47, 3) := by decide +kernel
theorem dX7_findBest_5 : decode cX7_findBest 5 = .ok (.istore 4, 2) := by decide +kernel
theorem dX7_findBest_7 : decode cX7_findBest 7 = .ok (.iload 4, 2) := by decide +kernel
theorem dX7_findBest_9 : decode cX7_findBest 9 = .ok (.iconst 2, 1) := by decide +kernel
theorem dX7_findBest_10 : decode cX7_findBest 10 = .ok (.iload_n 3, 1) := by decide +kernel
theorem dX7_findBest_11 : decode cX7_findBest 11 = .ok (.imul, 1) := by decide +kernel
theorem dX7_findBest_12 : decode cX7_findBest 12 = .ok (.if_icmp .lt 8, 3) := by decide +kernel
theorem dX7_findBest_15 : decode cX7_findBest 15 = .ok (.iload_n 3, 1) := by decide +kernel
theorem dX7_findBest_16 : decode cX7_findBest 16 = .ok (.iconst 2, 1) := by decide +kernel
theorem dX7_findBest_17 : decode cX7_findBest 17 = .ok (.if_icmp .le 5, 3) := by decide +kernel
theorem dX7_findBest_20 : decode cX7_findBest 20 = .ok (.iconst 0, 1) := by decide +kernel
theorem dX7_findBest_21 : decode cX7_findBest 21 = .ok (.ireturn, 1) := by decide +kernel
theorem dX7_findBest_22 : decode cX7_findBest 22 = .ok (.aload_n 0, 1) := by decide +kernel
theorem dX7_findBest_23 : decode cX7_findBest 23 = .ok (.aload_n 2, 1) := by decide +kernel
theorem dX7_findBest_24 : decode cX7_findBest 24 = .ok (.putfield 51, 3) := by decide +kernel
theorem dX7_findBest_27 : decode cX7_findBest 27 = .ok (.aload_n 0, 1) := by decide +kernel
theorem dX7_findBest_28 : decode cX7_findBest 28 = .ok (.iconst 2, 1) := by decide +kernel
theorem dX7_findBest_29 : decode cX7_findBest 29 = .ok (.iload_n 3, 1) := by decide +kernel
theorem dX7_findBest_30 : decode cX7_findBest 30 = .ok (.imul, 1) := by decide +kernel
theorem dX7_findBest_31 : decode cX7_findBest 31 = .ok (.putfield 55, 3) := by decide +kernel
theorem dX7_findBest_34 : decode cX7_findBest 34 = .ok (.aload_n 0, 1) := by decide +kernel
theorem dX7_findBest_35 : decode cX7_findBest 35 = .ok (.lconst 0, 1) := by decide +kernel
theorem dX7_findBest_36 : decode cX7_findBest 36 = .ok (.putfield 58, 3) := by decide +kernel
theorem dX7_findBest_39 : decode cX7_findBest 39 = .ok (.aload_n 0, 1) := by decide +kernel
theorem dX7_findBest_40 : decode cX7_findBest 40 = .ok (.iconst 0, 1) := by decide +kernel
theorem dX7_findBest_41 : decode cX7_findBest 41 = .ok (.invokevirtual 62, 3) := by decide +kernel
theorem dX7_findBest_44 : decode cX7_findBest 44 = .ok (.iconst 0, 1) := by decide +kernel
theorem dX7_findBest_45 : decode cX7_findBest 45 = .ok (.istore 5, 2) := by decide +kernel
theorem dX7_findBest_47 : decode cX7_findBest 47 = .ok (.iload 5, 2) := by decide +kernel
theorem dX7_findBest_49 : decode cX7_findBest 49 = .ok (.aload_n 0, 1) := by decide +kernel
theorem dX7_findBest_50 : decode cX7_findBest 50 = .ok (.getfield 55, 3) := by decide +kernel
theorem dX7_findBest_53 : decode cX7_findBest 53 = .ok (.if_icmp .ge 23, 3) := by decide +kernel
theorem dX7_findBest_56 : decode cX7_findBest 56 = .ok (.aload_n 0, 1) := by decide +kernel
theorem dX7_findBest_57 : decode cX7_findBest 57 = .ok (.getfield 28, 3) := by decide +kernel
theorem dX7_findBest_60 : decode cX7_findBest 60 = .ok (.iload 5, 2) := by decide +kernel
theorem dX7_findBest_62 : decode cX7_findBest 62 = .ok (.aload_n 0, 1) := by decide +kernel
theorem dX7_findBest_63 : decode cX7_findBest 63 = .ok (.getfield 18, 3) := by decide +kernel
theorem dX7_findBest_66 : decode cX7_findBest 66 = .ok (.iload 5, 2) := by decide +kernel
theorem dX7_findBest_68 : decode cX7_findBest 68 = .ok (.iaload, 1) := by decide +kernel
theorem dX7_findBest_69 : decode cX7_findBest 69 = .ok (.iastore, 1) := by decide +kernel
theorem dX7_findBest_70 : decode cX7_findBest 70 = .ok (.iinc 5 1, 3) := by decide +kernel
theorem dX7_findBest_73 : decode cX7_findBest 73 = .ok (.goto (-26), 3) := by decide +kernel
theorem dX7_findBest_76 : decode cX7_findBest 76 = .ok (.aload_n 0, 1) := by decide +kernel
theorem dX7_findBest_77 : decode cX7_findBest 77 = .ok (.aload_n 0, 1) := by decide +kernel
theorem dX7_findBest_78 : decode cX7_findBest 78 = .ok (.getfield 55, 3) := by decide +kernel
theorem dX7_findBest_81 : decode cX7_findBest 81 = .ok (.putfield 66, 3) := by decide +kernel
theorem dX7_findBest_84 : decode cX7_findBest 84 = .ok (.iconst 1, 1) := by decide +kernel
theorem dX7_findBest_85 : decode cX7_findBest 85 = .ok (.ireturn, 1) := by decide +kernel
noncomputable def f_X7_findBest_47 (v5 : Int32) (σ : am_H) : Option ((Int32 × am_H) ⊕ (am_H)) :=
  if v5 < (σ.1 7 0 2) then
   ((am_ix 6 v5).bind fun j2 =>
   (am_ix 4 v5).bind fun j3 =>
   (some (am_wI σ 811 0 j3 (σ.1 805 0 j2))).bind fun s4 =>
   some (.inl ((v5 + 1), s4)))
  else
  some (.inr σ)
set_option maxRecDepth 100000 in
set_option maxHeartbeats 4000000 in
theorem q_X7_findBest_47 {X : am_X} (hX : am_wC X) {Q : Option Value → am_H → Prop} (v5 : Int32) (σ : am_H) {o : (Int32 × am_H) ⊕ (am_H)} (hf : f_X7_findBest_47 v5 σ = some o) (hk0 : ∀ s, o = .inl s → am_G X gm_X7_findBest Q 47 [(0, .ref (am_ad X 7 0)), (5, .int s.1)] [] s.2) (hk1 : ∀ t, o = .inr t → am_G X gm_X7_findBest Q 76 [(0, .ref (am_ad X 7 0))] [] t) : am_G X gm_X7_findBest Q 47 [(0, .ref (am_ad X 7 0)), (5, .int v5)] [] σ := by
  unfold f_X7_findBest_47 at hf
  refine g_iload (pc := 47) 1 rfl dX7_findBest_47 ?_
  refine g_aload_n (pc := 49) 0 rfl dX7_findBest_49 rfl ?_
  refine g_getI (pc := 50) (in_7 hX.1 (by omega)) fr_X7_55 dX7_findBest_50 ?_
  refine bi_ge (pc := 53) 76 dX7_findBest_53 rfl (fun c1 => ?_) (fun c1 => ?_)
  · replace hf := am_ifT c1 hf
    refine g_aload_n (pc := 56) 0 rfl dX7_findBest_56 rfl ?_
    refine g_getC (pc := 57) (e := 0) (in_7 hX.1 (by omega)) fr_X7_28 dX7_findBest_57 rfl ?_
    refine g_iload (pc := 60) 1 rfl dX7_findBest_60 ?_
    refine g_aload_n (pc := 62) 0 rfl dX7_findBest_62 rfl ?_
    refine g_getC (pc := 63) (e := 0) (in_7 hX.1 (by omega)) fr_X7_18 dX7_findBest_63 rfl ?_
    refine g_iload (pc := 66) 1 rfl dX7_findBest_66 ?_
    obtain ⟨j2, hj2, hf⟩ := am_bd hf
    have gj2 := am_ix_lt hj2
    refine g_aI (pc := 68) (in_805 hX.1 (by omega)) ak_805 hj2 dX7_findBest_68 ?_
    obtain ⟨j3, hj3, hf⟩ := am_bd hf
    have gj3 := am_ix_lt hj3
    obtain ⟨s4, hs4, hf⟩ := am_bd hf
    refine g_sI (pc := 69) (in_811 hX.1 (by omega)) ak_811 hj3 dX7_findBest_69 (Option.some.inj hs4) ?_
    refine g_iinc (pc := 70) (v := (v5 + 1)) 1 [(5, .int (v5 + 1)), (0, .ref (am_ad X 7 0))] dX7_findBest_70 rfl rfl (Nat.le_of_ble_eq_true rfl) rfl ?_
    refine g_goto (pc := 73) 47 dX7_findBest_73 rfl ?_
    have hz := hk0 _ (Option.some.inj hf).symm
    exact am_sub [1, 0] rfl hz
  replace hf := am_ifF c1 hf
  have hz := hk1 _ (Option.some.inj hf).symm
  exact am_sub [0] rfl hz
set_option maxRecDepth 100000 in
set_option maxHeartbeats 4000000 in
theorem l_X7_findBest_47 {X : am_X} (hX : am_wC X) {Q : Option Value → am_H → Prop} (σ : am_H) (s : Int32 × am_H) {o : am_H} (hf : am_loop (fun s => f_X7_findBest_47 s.1 s.2) s = some o) (hk1 : ∀ t, o = t → am_G X gm_X7_findBest Q 76 [(0, .ref (am_ad X 7 0))] [] t) : am_G X gm_X7_findBest Q 47 [(0, .ref (am_ad X 7 0)), (5, .int s.1)] [] s.2 := by
  refine am_loop_ind (P := fun s => am_G X gm_X7_findBest Q 47 [(0, .ref (am_ad X 7 0)), (5, .int s.1)] [] s.2) (K := fun r => r = o) ?_ hf rfl
  intro s o1 hb hi hr
  exact q_X7_findBest_47 hX s.1  s.2 hb hi (fun t e => hk1 t (hr _ e).symm)
noncomputable def f_X7_findBest (r1 : Nat) (r2 : Nat) (v3 : Int32) (σ : am_H) : Option (Bool × am_H) :=
  (f_X7_emptiedBox r1 σ).bind fun p1 =>
  if p1.1 < (2 * v3) then
   (some (false, p1.2))
  else
  if 2 < v3 then
   (some (false, p1.2))
  else
  (some (am_wR p1.2 7 0 1 (some r2))).bind fun s4 =>
  (some (am_wI s4 7 0 2 (2 * v3))).bind fun s5 =>
  (some (am_wL s5 7 0 10 0)).bind fun s6 =>
  (f_X7_tryWheel 8 0 s6).bind fun p7 =>
  (am_loop (fun s => f_X7_findBest_47 s.1 s.2) (0, p7)).bind fun w8 =>
  (some (am_wI w8 7 0 12 (w8.1 7 0 2))).bind fun s9 =>
  some (true, s9)
set_option maxRecDepth 100000 in
set_option maxHeartbeats 4000000 in
theorem q_X7_findBest {X : am_X} (hX : am_wC X) {Q : Option Value → am_H → Prop} (r1 : Nat) (r2 : Nat) (v3 : Int32) (hr1 : r1 < 3) (hr2 : r2 < 18) (σ : am_H) {o : Bool × am_H} (hf : f_X7_findBest r1 r2 v3 σ = some o) (hk : Q (some (.int (am_b o.1))) o.2) : am_G X gm_X7_findBest Q 0 [(0, .ref (am_ad X 7 0)), (1, .ref (am_ad X 3 r1)), (2, .ref (am_ad X 10 r2)), (3, .int v3)] [] σ := by
  unfold f_X7_findBest at hf
  refine g_aload_n (pc := 0) 0 rfl dX7_findBest_0 rfl ?_
  refine g_aload_n (pc := 1) 1 rfl dX7_findBest_1 rfl ?_
  obtain ⟨p1, hp1, hf⟩ := am_bd hf
  refine g_cV (pc := 2) (As := [.ref (am_ad X 3 r1)]) (st := []) (st1 := [.int p1.1]) (in_7 hX.1 (by omega)) kk_7 mV_X7_emptiedBox ln_X7_47 rfl (Nat.le_of_ble_eq_true rfl) (Nat.le_of_ble_eq_true rfl) (k_X7_emptiedBox hX r1 (by omega) σ hp1) dX7_findBest_2 rfl rfl ?_
  refine g_istore (pc := 5) [(4, .int p1.1), (0, .ref (am_ad X 7 0)), (1, .ref (am_ad X 3 r1)), (2, .ref (am_ad X 10 r2)), (3, .int v3)] dX7_findBest_5 (Nat.le_of_ble_eq_true rfl) rfl ?_
  refine g_iload (pc := 7) 0 rfl dX7_findBest_7 ?_
  refine g_iconst (pc := 9) (v := 2) dX7_findBest_9 (by decide) ?_
  refine g_iload_n (pc := 10) 4 rfl dX7_findBest_10 rfl ?_
  refine g_imul (pc := 11) dX7_findBest_11 ?_
  refine bi_lt (pc := 12) 20 dX7_findBest_12 rfl (fun c2 => ?_) (fun c2 => ?_)
  · replace hf := am_ifT c2 hf
    refine g_iconst (pc := 20) (v := 0) dX7_findBest_20 (by decide) ?_
    have ho := Option.some.inj hf
    subst ho
    exact g_zreturn (pc := 21) (st := []) (x := false) rfl dX7_findBest_21 hk
  replace hf := am_ifF c2 hf
  refine g_iload_n (pc := 15) 4 rfl dX7_findBest_15 rfl ?_
  refine g_iconst (pc := 16) (v := 2) dX7_findBest_16 (by decide) ?_
  refine bi_le (pc := 17) 22 dX7_findBest_17 rfl (fun c3 => ?_) (fun c3 => ?_)
  · replace hf := am_ifT c3 hf
    refine g_iconst (pc := 20) (v := 0) dX7_findBest_20 (by decide) ?_
    have ho := Option.some.inj hf
    subst ho
    exact g_zreturn (pc := 21) (st := []) (x := false) rfl dX7_findBest_21 hk
  replace hf := am_ifF c3 hf
  refine g_aload_n (pc := 22) 1 rfl dX7_findBest_22 rfl ?_
  refine g_aload_n (pc := 23) 3 rfl dX7_findBest_23 rfl ?_
  obtain ⟨s4, hs4, hf⟩ := am_bd hf
  refine g_setM (pc := 24) (in_7 hX.1 (by omega)) fr_X7_51 dX7_findBest_24 (Option.some.inj hs4) ?_
  refine g_aload_n (pc := 27) 1 rfl dX7_findBest_27 rfl ?_
  refine g_iconst (pc := 28) (v := 2) dX7_findBest_28 (by decide) ?_
  refine g_iload_n (pc := 29) 4 rfl dX7_findBest_29 rfl ?_
  refine g_imul (pc := 30) dX7_findBest_30 ?_
  obtain ⟨s5, hs5, hf⟩ := am_bd hf
  refine g_setI (pc := 31) (in_7 hX.1 (by omega)) fr_X7_55 dX7_findBest_31 (Option.some.inj hs5) ?_
  refine g_aload_n (pc := 34) 1 rfl dX7_findBest_34 rfl ?_
  refine g_lconst (pc := 35) (v := 0) dX7_findBest_35 (by decide) ?_
  obtain ⟨s6, hs6, hf⟩ := am_bd hf
  refine g_setJ (pc := 36) (in_7 hX.1 (by omega)) fr_X7_58 dX7_findBest_36 (Option.some.inj hs6) ?_
  refine g_aload_n (pc := 39) 1 rfl dX7_findBest_39 rfl ?_
  refine g_iconst (pc := 40) (v := 0) dX7_findBest_40 (by decide) ?_
  obtain ⟨p7, hp7, hf⟩ := am_bd hf
  refine g_cV (pc := 41) (As := [.int 0]) (st := []) (st1 := []) (in_7 hX.1 (by omega)) kk_7 (mV_X7_tryWheel _) ln_X7_62 rfl (Nat.le_of_ble_eq_true rfl) (Nat.le_of_ble_eq_true rfl) (k_X7_tryWheel hX 8 0 s6 hp7) dX7_findBest_41 rfl rfl ?_
  refine g_iconst (pc := 44) (v := 0) dX7_findBest_44 (by decide) ?_
  refine g_istore (pc := 45) [(5, .int 0), (4, .int p1.1), (0, .ref (am_ad X 7 0)), (1, .ref (am_ad X 3 r1)), (2, .ref (am_ad X 10 r2)), (3, .int v3)] dX7_findBest_45 (Nat.le_of_ble_eq_true rfl) rfl ?_
  obtain ⟨w8, hw8, hf⟩ := am_bd hf
  refine am_sub [2, 0] rfl (l_X7_findBest_47 hX  p7 (0, p7) hw8 ?_)
  intro t e
  subst e
  refine g_aload_n (pc := 76) 0 rfl dX7_findBest_76 rfl ?_
  refine g_aload_n (pc := 77) 0 rfl dX7_findBest_77 rfl ?_
  refine g_getI (pc := 78) (in_7 hX.1 (by omega)) fr_X7_55 dX7_findBest_78 ?_
  obtain ⟨s9, hs9, hf⟩ := am_bd hf
  refine g_setI (pc := 81) (in_7 hX.1 (by omega)) fr_X7_66 dX7_findBest_81 (Option.some.inj hs9) ?_
  refine g_iconst (pc := 84) (v := 1) dX7_findBest_84 (by decide) ?_
  have ho := Option.some.inj hf
  subst ho
  exact g_zreturn (pc := 85) (st := []) (x := true) rfl dX7_findBest_85 hk
theorem k_X7_findBest {X : am_X} (hX : am_wC X) (r1 : Nat) (r2 : Nat) (v3 : Int32) (hr1 : r1 < 3) (hr2 : r2 < 18) (σ : am_H) {o : Bool × am_H} (hf : f_X7_findBest r1 r2 v3 σ = some o) : am_C X gm_X7_findBest [.ref (am_ad X 7 0), .ref (am_ad X 3 r1), .ref (am_ad X 10 r2), .int v3] σ (am_is (some (.int (am_b o.1))) o.2) :=
  am_ofG rfl (Nat.le_of_ble_eq_true rfl) rfl (q_X7_findBest hX r1 r2 v3 hr1 hr2 σ hf ⟨rfl, rfl⟩)
theorem dX7_noteFitting_0 : decode cX7_noteFitting 0 = .ok (.aload_n 0, 1) := by decide +kernel
theorem dX7_noteFitting_1 : decode cX7_noteFitting 1 = .ok (.getfield 55, 3) := by decide +kernel
theorem dX7_noteFitting_4 : decode cX7_noteFitting 4 = .ok (.iconst 2, 1) := by decide +kernel
theorem dX7_noteFitting_5 : decode cX7_noteFitting 5 = .ok (.idiv, 1) := by decide +kernel
theorem dX7_noteFitting_6 : decode cX7_noteFitting 6 = .ok (.istore 4, 2) := by decide +kernel
theorem dX7_noteFitting_8 : decode cX7_noteFitting 8 = .ok (.aload_n 0, 1) := by decide +kernel
theorem dX7_noteFitting_9 : decode cX7_noteFitting 9 = .ok (.getfield 25, 3) := by decide +kernel
theorem dX7_noteFitting_12 : decode cX7_noteFitting 12 = .ok (.iload 4, 2) := by decide +kernel
theorem dX7_noteFitting_14 : decode cX7_noteFitting 14 = .ok (.ldc 103, 2) := by decide +kernel
theorem dX7_noteFitting_16 : decode cX7_noteFitting 16 = .ok (.iastore, 1) := by decide +kernel
theorem dX7_noteFitting_17 : decode cX7_noteFitting 17 = .ok (.iconst 0, 1) := by decide +kernel
theorem dX7_noteFitting_18 : decode cX7_noteFitting 18 = .ok (.istore 5, 2) := by decide +kernel
theorem dX7_noteFitting_20 : decode cX7_noteFitting 20 = .ok (.iload 5, 2) := by decide +kernel
theorem dX7_noteFitting_22 : decode cX7_noteFitting 22 = .ok (.aload_n 0, 1) := by decide +kernel
theorem dX7_noteFitting_23 : decode cX7_noteFitting 23 = .ok (.getfield 34, 3) := by decide +kernel
theorem dX7_noteFitting_26 : decode cX7_noteFitting 26 = .ok (.getfield 38, 3) := by decide +kernel
theorem dX7_noteFitting_29 : decode cX7_noteFitting 29 = .ok (.if_icmp .ge 138, 3) := by decide +kernel
theorem dX7_noteFitting_32 : decode cX7_noteFitting 32 = .ok (.iconst 0, 1) := by decide +kernel
theorem dX7_noteFitting_33 : decode cX7_noteFitting 33 = .ok (.istore 6, 2) := by decide +kernel
theorem dX7_noteFitting_35 : decode cX7_noteFitting 35 = .ok (.iload 6, 2) := by decide +kernel
theorem dX7_noteFitting_37 : decode cX7_noteFitting 37 = .ok (.aload_n 0, 1) := by decide +kernel
theorem dX7_noteFitting_38 : decode cX7_noteFitting 38 = .ok (.getfield 34, 3) := by decide +kernel
theorem dX7_noteFitting_41 : decode cX7_noteFitting 41 = .ok (.getfield 38, 3) := by decide +kernel
theorem dX7_noteFitting_44 : decode cX7_noteFitting 44 = .ok (.if_icmp .ge 117, 3) := by decide +kernel
theorem dX7_noteFitting_47 : decode cX7_noteFitting 47 = .ok (.aload_n 0, 1) := by decide +kernel
theorem dX7_noteFitting_48 : decode cX7_noteFitting 48 = .ok (.getfield 34, 3) := by decide +kernel
theorem dX7_noteFitting_51 : decode cX7_noteFitting 51 = .ok (.getfield 72, 3) := by decide +kernel
theorem dX7_noteFitting_54 : decode cX7_noteFitting 54 = .ok (.iload 6, 2) := by decide +kernel
theorem dX7_noteFitting_56 : decode cX7_noteFitting 56 = .ok (.iaload, 1) := by decide +kernel
theorem dX7_noteFitting_57 : decode cX7_noteFitting 57 = .ok (.istore 7, 2) := by decide +kernel
theorem dX7_noteFitting_59 : decode cX7_noteFitting 59 = .ok (.aload_n 1, 1) := by decide +kernel
theorem dX7_noteFitting_60 : decode cX7_noteFitting 60 = .ok (.aload_n 0, 1) := by decide +kernel
theorem dX7_noteFitting_61 : decode cX7_noteFitting 61 = .ok (.getfield 34, 3) := by decide +kernel
theorem dX7_noteFitting_64 : decode cX7_noteFitting 64 = .ok (.getfield 72, 3) := by decide +kernel
theorem dX7_noteFitting_67 : decode cX7_noteFitting 67 = .ok (.iload 5, 2) := by decide +kernel
theorem dX7_noteFitting_69 : decode cX7_noteFitting 69 = .ok (.iaload, 1) := by decide +kernel
theorem dX7_noteFitting_70 : decode cX7_noteFitting 70 = .ok (.i2l, 1) := by decide +kernel
theorem dX7_noteFitting_71 : decode cX7_noteFitting 71 = .ok (.iload 7, 2) := by decide +kernel
theorem dX7_noteFitting_73 : decode cX7_noteFitting 73 = .ok (.i2l, 1) := by decide +kernel
theorem dX7_noteFitting_74 : decode cX7_noteFitting 74 = .ok (.iload_n 3, 1) := by decide +kernel
theorem dX7_noteFitting_75 : decode cX7_noteFitting 75 = .ok (.invokevirtual 75, 3) := by decide +kernel
theorem dX7_noteFitting_78 : decode cX7_noteFitting 78 = .ok (.iload_n 2, 1) := by decide +kernel
theorem dX7_noteFitting_79 : decode cX7_noteFitting 79 = .ok (.i2l, 1) := by decide +kernel
theorem dX7_noteFitting_80 : decode cX7_noteFitting 80 = .ok (.aload_n 1, 1) := by decide +kernel
theorem dX7_noteFitting_81 : decode cX7_noteFitting 81 = .ok (.iload 7, 2) := by decide +kernel
theorem dX7_noteFitting_83 : decode cX7_noteFitting 83 = .ok (.i2l, 1) := by decide +kernel
theorem dX7_noteFitting_84 : decode cX7_noteFitting 84 = .ok (.invokevirtual 114, 3) := by decide +kernel
theorem dX7_noteFitting_87 : decode cX7_noteFitting 87 = .ok (.lmul, 1) := by decide +kernel
theorem dX7_noteFitting_88 : decode cX7_noteFitting 88 = .ok (.lcmp, 1) := by decide +kernel
theorem dX7_noteFitting_89 : decode cX7_noteFitting 89 = .ok (.ifCond .gt 7, 3) := by decide +kernel
theorem dX7_noteFitting_92 : decode cX7_noteFitting 92 = .ok (.iconst 1, 1) := by decide +kernel
theorem dX7_noteFitting_93 : decode cX7_noteFitting 93 = .ok (.goto 4, 3) := by decide +kernel
theorem dX7_noteFitting_96 : decode cX7_noteFitting 96 = .ok (.iconst 0, 1) := by decide +kernel
theorem dX7_noteFitting_97 : decode cX7_noteFitting 97 = .ok (.istore 8, 2) := by decide +kernel
theorem dX7_noteFitting_99 : decode cX7_noteFitting 99 = .ok (.aload_n 0, 1) := by decide +kernel
theorem dX7_noteFitting_100 : decode cX7_noteFitting 100 = .ok (.getfield 21, 3) := by decide +kernel
theorem dX7_noteFitting_103 : decode cX7_noteFitting 103 = .ok (.iload 4, 2) := by decide +kernel
theorem dX7_noteFitting_105 : decode cX7_noteFitting 105 = .ok (.bipush 100, 2) := by decide +kernel
theorem dX7_noteFitting_107 : decode cX7_noteFitting 107 = .ok (.imul, 1) := by decide +kernel
theorem dX7_noteFitting_108 : decode cX7_noteFitting 108 = .ok (.iload 5, 2) := by decide +kernel
theorem dX7_noteFitting_110 : decode cX7_noteFitting 110 = .ok (.bipush 10, 2) := by decide +kernel
theorem dX7_noteFitting_112 : decode cX7_noteFitting 112 = .ok (.imul, 1) := by decide +kernel
theorem dX7_noteFitting_113 : decode cX7_noteFitting 113 = .ok (.iadd, 1) := by decide +kernel
theorem dX7_noteFitting_114 : decode cX7_noteFitting 114 = .ok (.iload 6, 2) := by decide +kernel
theorem dX7_noteFitting_116 : decode cX7_noteFitting 116 = .ok (.iadd, 1) := by decide +kernel
theorem dX7_noteFitting_117 : decode cX7_noteFitting 117 = .ok (.iload 8, 2) := by decide +kernel
theorem dX7_noteFitting_119 : decode cX7_noteFitting 119 = .ok (.bastore, 1) := by decide +kernel
theorem dX7_noteFitting_120 : decode cX7_noteFitting 120 = .ok (.iload 8, 2) := by decide +kernel
theorem dX7_noteFitting_122 : decode cX7_noteFitting 122 = .ok (.ifCond .eq 33, 3) := by decide +kernel
theorem dX7_noteFitting_125 : decode cX7_noteFitting 125 = .ok (.aload_n 0, 1) := by decide +kernel
theorem dX7_noteFitting_126 : decode cX7_noteFitting 126 = .ok (.getfield 25, 3) := by decide +kernel
theorem dX7_noteFitting_129 : decode cX7_noteFitting 129 = .ok (.iload 4, 2) := by decide +kernel
theorem dX7_noteFitting_131 : decode cX7_noteFitting 131 = .ok (.aload_n 0, 1) := by decide +kernel
theorem dX7_noteFitting_132 : decode cX7_noteFitting 132 = .ok (.getfield 25, 3) := by decide +kernel
theorem dX7_noteFitting_135 : decode cX7_noteFitting 135 = .ok (.iload 4, 2) := by decide +kernel
theorem dX7_noteFitting_137 : decode cX7_noteFitting 137 = .ok (.iaload, 1) := by decide +kernel
theorem dX7_noteFitting_138 : decode cX7_noteFitting 138 = .ok (.aload_n 0, 1) := by decide +kernel
theorem dX7_noteFitting_139 : decode cX7_noteFitting 139 = .ok (.getfield 34, 3) := by decide +kernel
theorem dX7_noteFitting_142 : decode cX7_noteFitting 142 = .ok (.getfield 72, 3) := by decide +kernel
theorem dX7_noteFitting_145 : decode cX7_noteFitting 145 = .ok (.iload 5, 2) := by decide +kernel
theorem dX7_noteFitting_147 : decode cX7_noteFitting 147 = .ok (.iaload, 1) := by decide +kernel
theorem dX7_noteFitting_148 : decode cX7_noteFitting 148 = .ok (.iload 7, 2) := by decide +kernel
theorem dX7_noteFitting_150 : decode cX7_noteFitting 150 = .ok (.iadd, 1) := by decide +kernel
theorem dX7_noteFitting_151 : decode cX7_noteFitting 151 = .ok (.invokestatic 118, 3) := by decide +kernel
theorem dX7_noteFitting_154 : decode cX7_noteFitting 154 = .ok (.iastore, 1) := by decide +kernel
theorem dX7_noteFitting_155 : decode cX7_noteFitting 155 = .ok (.iinc 6 1, 3) := by decide +kernel
theorem dX7_noteFitting_158 : decode cX7_noteFitting 158 = .ok (.goto (-123), 3) := by decide +kernel
theorem dX7_noteFitting_161 : decode cX7_noteFitting 161 = .ok (.iinc 5 1, 3) := by decide +kernel
theorem dX7_noteFitting_164 : decode cX7_noteFitting 164 = .ok (.goto (-144), 3) := by decide +kernel
theorem dX7_noteFitting_167 : decode cX7_noteFitting 167 = .ok (.return_, 1) := by decide +kernel
noncomputable def f_X7_noteFitting_97 (r1 : Nat) (v2 : Int32) (v3 : Int32) (v4 : Int32) (v5 : Int32) (v6 : Int32) (v7 : Int32) (k0 : Bool) (σ : am_H) : Option ((Int32 × am_H) ⊕ (am_H)) :=
  (am_ix 300 (((v4 * 100) + (v5 * 10)) + v6)).bind fun j1 =>
  (some (am_wI σ 806 0 j1 (am_b k0))).bind fun s2 =>
  if k0 = true then
   ((am_ix 4 v4).bind fun j4 =>
   (am_rr 3 (s2.2.2 7 0 0)).bind fun a5 =>
   (am_ix 10 v5).bind fun j6 =>
   (am_ix 4 v4).bind fun j7 =>
   (some (am_wI s2 807 0 j7 (am_mn (s2.1 807 0 j4) ((s2.1 403 a5 j6) + v7)))).bind fun s8 =>
   some (.inl ((v6 + 1), s8)))
  else
  some (.inl ((v6 + 1), s2))
set_option maxRecDepth 100000 in
set_option maxHeartbeats 4000000 in
theorem q_X7_noteFitting_97 {X : am_X} (hX : am_wC X) {Q : Option Value → am_H → Prop} (r1 : Nat) (v2 : Int32) (v3 : Int32) (v4 : Int32) (v5 : Int32) (v6 : Int32) (v7 : Int32) (k0 : Bool) (hr1 : r1 < 18) (σ : am_H) {o : (Int32 × am_H) ⊕ (am_H)} (hf : f_X7_noteFitting_97 r1 v2 v3 v4 v5 v6 v7 k0 σ = some o) (hk0 : ∀ s, o = .inl s → am_G X gm_X7_noteFitting Q 35 [(0, .ref (am_ad X 7 0)), (1, .ref (am_ad X 10 r1)), (2, .int v2), (3, .int v3), (4, .int v4), (5, .int v5), (6, .int s.1)] [] s.2) (hk1 : ∀ t, o = .inr t → am_G X gm_X7_noteFitting Q 161 [(0, .ref (am_ad X 7 0)), (1, .ref (am_ad X 10 r1)), (2, .int v2), (3, .int v3), (4, .int v4), (5, .int v5)] [] t) : am_G X gm_X7_noteFitting Q 97 [(0, .ref (am_ad X 7 0)), (1, .ref (am_ad X 10 r1)), (2, .int v2), (3, .int v3), (4, .int v4), (5, .int v5), (6, .int v6), (7, .int v7)] [.int (am_b k0)] σ := by
  unfold f_X7_noteFitting_97 at hf
  refine g_istore (pc := 97) [(8, .int (am_b k0)), (0, .ref (am_ad X 7 0)), (1, .ref (am_ad X 10 r1)), (2, .int v2), (3, .int v3), (4, .int v4), (5, .int v5), (6, .int v6), (7, .int v7)] dX7_noteFitting_97 (Nat.le_of_ble_eq_true rfl) rfl ?_
  refine g_aload_n (pc := 99) 1 rfl dX7_noteFitting_99 rfl ?_
  refine g_getC (pc := 100) (e := 0) (in_7 hX.1 (by omega)) fr_X7_21 dX7_noteFitting_100 rfl ?_
  refine g_iload (pc := 103) 5 rfl dX7_noteFitting_103 ?_
  refine g_bipush (pc := 105) (v := 100) dX7_noteFitting_105 (by decide) ?_
  refine g_imul (pc := 107) dX7_noteFitting_107 ?_
  refine g_iload (pc := 108) 6 rfl dX7_noteFitting_108 ?_
  refine g_bipush (pc := 110) (v := 10) dX7_noteFitting_110 (by decide) ?_
  refine g_imul (pc := 112) dX7_noteFitting_112 ?_
  refine g_iadd (pc := 113) dX7_noteFitting_113 ?_
  refine g_iload (pc := 114) 7 rfl dX7_noteFitting_114 ?_
  refine g_iadd (pc := 116) dX7_noteFitting_116 ?_
  refine g_iload (pc := 117) 0 rfl dX7_noteFitting_117 ?_
  obtain ⟨j1, hj1, hf⟩ := am_bd hf
  have gj1 := am_ix_lt hj1
  obtain ⟨s2, hs2, hf⟩ := am_bd hf
  refine g_sZ (v := k0) (pc := 119) (in_806 hX.1 (by omega)) ak_806 hj1 dX7_noteFitting_119 (Option.some.inj hs2) ?_
  refine g_iload (pc := 120) 0 rfl dX7_noteFitting_120 ?_
  refine bt_eq (pc := 122) 155 dX7_noteFitting_122 rfl (fun c3 => ?_) (fun c3 => ?_)
  · replace hf := am_ifT c3 hf
    refine g_aload_n (pc := 125) 1 rfl dX7_noteFitting_125 rfl ?_
    refine g_getC (pc := 126) (e := 0) (in_7 hX.1 (by omega)) fr_X7_25 dX7_noteFitting_126 rfl ?_
    refine g_iload (pc := 129) 5 rfl dX7_noteFitting_129 ?_
    refine g_aload_n (pc := 131) 1 rfl dX7_noteFitting_131 rfl ?_
    refine g_getC (pc := 132) (e := 0) (in_7 hX.1 (by omega)) fr_X7_25 dX7_noteFitting_132 rfl ?_
    refine g_iload (pc := 135) 5 rfl dX7_noteFitting_135 ?_
    obtain ⟨j4, hj4, hf⟩ := am_bd hf
    have gj4 := am_ix_lt hj4
    refine g_aI (pc := 137) (in_807 hX.1 (by omega)) ak_807 hj4 dX7_noteFitting_137 ?_
    refine g_aload_n (pc := 138) 1 rfl dX7_noteFitting_138 rfl ?_
    obtain ⟨a5, ha5, hf⟩ := am_bd hf
    obtain ⟨ha5, ga5⟩ := am_rr_in ha5
    refine g_getM (pc := 139) (in_7 hX.1 (by omega)) fr_X7_34 ha5 dX7_noteFitting_139 ?_
    refine g_getC (pc := 142) (e := a5) (in_3 hX.1 (by omega)) fr_X7_72 dX7_noteFitting_142 rfl ?_
    refine g_iload (pc := 145) 6 rfl dX7_noteFitting_145 ?_
    obtain ⟨j6, hj6, hf⟩ := am_bd hf
    have gj6 := am_ix_lt hj6
    refine g_aI (pc := 147) (in_403 hX.1 (by omega)) ak_403 hj6 dX7_noteFitting_147 ?_
    refine g_iload (pc := 148) 8 rfl dX7_noteFitting_148 ?_
    refine g_iadd (pc := 150) dX7_noteFitting_150 ?_
    refine g_mmin (pc := 151) (Nat.le_of_ble_eq_true rfl) (Nat.le_of_ble_eq_true rfl) sp_X7_118 dX7_noteFitting_151 ?_
    obtain ⟨j7, hj7, hf⟩ := am_bd hf
    have gj7 := am_ix_lt hj7
    obtain ⟨s8, hs8, hf⟩ := am_bd hf
    refine g_sI (pc := 154) (in_807 hX.1 (by omega)) ak_807 hj7 dX7_noteFitting_154 (Option.some.inj hs8) ?_
    refine g_iinc (pc := 155) (v := (v6 + 1)) 7 [(6, .int (v6 + 1)), (8, .int (am_b k0)), (0, .ref (am_ad X 7 0)), (1, .ref (am_ad X 10 r1)), (2, .int v2), (3, .int v3), (4, .int v4), (5, .int v5), (7, .int v7)] dX7_noteFitting_155 rfl rfl (Nat.le_of_ble_eq_true rfl) rfl ?_
    refine g_goto (pc := 158) 35 dX7_noteFitting_158 rfl ?_
    have hz := hk0 _ (Option.some.inj hf).symm
    exact am_sub [2, 3, 4, 5, 6, 7, 0] rfl hz
  replace hf := am_ifF c3 hf
  refine g_iinc (pc := 155) (v := (v6 + 1)) 7 [(6, .int (v6 + 1)), (8, .int (am_b k0)), (0, .ref (am_ad X 7 0)), (1, .ref (am_ad X 10 r1)), (2, .int v2), (3, .int v3), (4, .int v4), (5, .int v5), (7, .int v7)] dX7_noteFitting_155 rfl rfl (Nat.le_of_ble_eq_true rfl) rfl ?_
  refine g_goto (pc := 158) 35 dX7_noteFitting_158 rfl ?_
  have hz := hk0 _ (Option.some.inj hf).symm
  exact am_sub [2, 3, 4, 5, 6, 7, 0] rfl hz
noncomputable def f_X7_noteFitting_35 (r1 : Nat) (v2 : Int32) (v3 : Int32) (v4 : Int32) (v5 : Int32) (v6 : Int32) (σ : am_H) : Option ((Int32 × am_H) ⊕ (am_H)) :=
  (am_rr 3 (σ.2.2 7 0 0)).bind fun a1 =>
  if v6 < (σ.1 3 a1 4) then
   ((am_rr 3 (σ.2.2 7 0 0)).bind fun a3 =>
   (am_ix 10 v6).bind fun j4 =>
   (am_rr 3 (σ.2.2 7 0 0)).bind fun a5 =>
   (am_ix 10 v5).bind fun j6 =>
   (f_X10_offTop r1 (Int32.toInt64 (σ.1 403 a5 j6)) (Int32.toInt64 (σ.1 403 a3 j4)) v3 σ).bind fun p7 =>
   (f_X10_offBottom r1 (Int32.toInt64 (σ.1 403 a3 j4)) σ).bind fun p8 =>
   if ((Int32.toInt64 v2) * p8) < p7 then
    (f_X7_noteFitting_97 r1 v2 v3 v4 v5 v6 (σ.1 403 a3 j4) false σ)
   else
   f_X7_noteFitting_97 r1 v2 v3 v4 v5 v6 (σ.1 403 a3 j4) true σ)
  else
  some (.inr σ)
set_option maxRecDepth 100000 in
set_option maxHeartbeats 4000000 in
theorem q_X7_noteFitting_35 {X : am_X} (hX : am_wC X) {Q : Option Value → am_H → Prop} (r1 : Nat) (v2 : Int32) (v3 : Int32) (v4 : Int32) (v5 : Int32) (v6 : Int32) (hr1 : r1 < 18) (σ : am_H) {o : (Int32 × am_H) ⊕ (am_H)} (hf : f_X7_noteFitting_35 r1 v2 v3 v4 v5 v6 σ = some o) (hk0 : ∀ s, o = .inl s → am_G X gm_X7_noteFitting Q 35 [(0, .ref (am_ad X 7 0)), (1, .ref (am_ad X 10 r1)), (2, .int v2), (3, .int v3), (4, .int v4), (5, .int v5), (6, .int s.1)] [] s.2) (hk1 : ∀ t, o = .inr t → am_G X gm_X7_noteFitting Q 161 [(0, .ref (am_ad X 7 0)), (1, .ref (am_ad X 10 r1)), (2, .int v2), (3, .int v3), (4, .int v4), (5, .int v5)] [] t) : am_G X gm_X7_noteFitting Q 35 [(0, .ref (am_ad X 7 0)), (1, .ref (am_ad X 10 r1)), (2, .int v2), (3, .int v3), (4, .int v4), (5, .int v5), (6, .int v6)] [] σ := by
  unfold f_X7_noteFitting_35 at hf
  refine g_iload (pc := 35) 6 rfl dX7_noteFitting_35 ?_
  refine g_aload_n (pc := 37) 0 rfl dX7_noteFitting_37 rfl ?_
  obtain ⟨a1, ha1, hf⟩ := am_bd hf
  obtain ⟨ha1, ga1⟩ := am_rr_in ha1
  refine g_getM (pc := 38) (in_7 hX.1 (by omega)) fr_X7_34 ha1 dX7_noteFitting_38 ?_
  refine g_getI (pc := 41) (in_3 hX.1 (by omega)) fr_X7_38 dX7_noteFitting_41 ?_
  refine bi_ge (pc := 44) 161 dX7_noteFitting_44 rfl (fun c2 => ?_) (fun c2 => ?_)
  · replace hf := am_ifT c2 hf
    refine g_aload_n (pc := 47) 0 rfl dX7_noteFitting_47 rfl ?_
    obtain ⟨a3, ha3, hf⟩ := am_bd hf
    obtain ⟨ha3, ga3⟩ := am_rr_in ha3
    refine g_getM (pc := 48) (in_7 hX.1 (by omega)) fr_X7_34 ha3 dX7_noteFitting_48 ?_
    refine g_getC (pc := 51) (e := a3) (in_3 hX.1 (by omega)) fr_X7_72 dX7_noteFitting_51 rfl ?_
    refine g_iload (pc := 54) 6 rfl dX7_noteFitting_54 ?_
    obtain ⟨j4, hj4, hf⟩ := am_bd hf
    have gj4 := am_ix_lt hj4
    refine g_aI (pc := 56) (in_403 hX.1 (by omega)) ak_403 hj4 dX7_noteFitting_56 ?_
    refine g_istore (pc := 57) [(7, .int (σ.1 403 a3 j4)), (0, .ref (am_ad X 7 0)), (1, .ref (am_ad X 10 r1)), (2, .int v2), (3, .int v3), (4, .int v4), (5, .int v5), (6, .int v6)] dX7_noteFitting_57 (Nat.le_of_ble_eq_true rfl) rfl ?_
    refine g_aload_n (pc := 59) 2 rfl dX7_noteFitting_59 rfl ?_
    refine g_aload_n (pc := 60) 1 rfl dX7_noteFitting_60 rfl ?_
    obtain ⟨a5, ha5, hf⟩ := am_bd hf
    obtain ⟨ha5, ga5⟩ := am_rr_in ha5
    refine g_getM (pc := 61) (in_7 hX.1 (by omega)) fr_X7_34 ha5 dX7_noteFitting_61 ?_
    refine g_getC (pc := 64) (e := a5) (in_3 hX.1 (by omega)) fr_X7_72 dX7_noteFitting_64 rfl ?_
    refine g_iload (pc := 67) 6 rfl dX7_noteFitting_67 ?_
    obtain ⟨j6, hj6, hf⟩ := am_bd hf
    have gj6 := am_ix_lt hj6
    refine g_aI (pc := 69) (in_403 hX.1 (by omega)) ak_403 hj6 dX7_noteFitting_69 ?_
    refine g_i2l (pc := 70) dX7_noteFitting_70 ?_
    refine g_iload (pc := 71) 0 rfl dX7_noteFitting_71 ?_
    refine g_i2l (pc := 73) dX7_noteFitting_73 ?_
    refine g_iload_n (pc := 74) 4 rfl dX7_noteFitting_74 rfl ?_
    obtain ⟨p7, hp7, hf⟩ := am_bd hf
    refine g_cV (pc := 75) (As := [.long (Int32.toInt64 (σ.1 403 a5 j6)), .long (Int32.toInt64 (σ.1 403 a3 j4)), .int v3]) (st := []) (st1 := [.long p7]) (in_10 hX.1 (by omega)) kk_10 mV_X10_offTop ln_X7_75 rfl (Nat.le_of_ble_eq_true rfl) (Nat.le_of_ble_eq_true rfl) (k_X10_offTop hX r1 (Int32.toInt64 (σ.1 403 a5 j6)) (Int32.toInt64 (σ.1 403 a3 j4)) v3 (by omega) σ hp7) dX7_noteFitting_75 rfl rfl ?_
    refine g_iload_n (pc := 78) 3 rfl dX7_noteFitting_78 rfl ?_
    refine g_i2l (pc := 79) dX7_noteFitting_79 ?_
    refine g_aload_n (pc := 80) 2 rfl dX7_noteFitting_80 rfl ?_
    refine g_iload (pc := 81) 0 rfl dX7_noteFitting_81 ?_
    refine g_i2l (pc := 83) dX7_noteFitting_83 ?_
    obtain ⟨p8, hp8, hf⟩ := am_bd hf
    refine g_cV (pc := 84) (As := [.long (Int32.toInt64 (σ.1 403 a3 j4))]) (st := [.long (Int32.toInt64 v2), .long p7]) (st1 := [.long p8, .long (Int32.toInt64 v2), .long p7]) (in_10 hX.1 (by omega)) kk_10 mV_X10_offBottom ln_X7_114 rfl (Nat.le_of_ble_eq_true rfl) (Nat.le_of_ble_eq_true rfl) (k_X10_offBottom hX r1 (Int32.toInt64 (σ.1 403 a3 j4)) (by omega) σ hp8) dX7_noteFitting_84 rfl rfl ?_
    refine g_lmul (pc := 87) dX7_noteFitting_87 ?_
    refine g_lcm (pc := 88) dX7_noteFitting_88 ?_
    refine bl_gt (pc := 89) 96 dX7_noteFitting_89 rfl (fun c9 => ?_) (fun c9 => ?_)
    · replace hf := am_ifT c9 hf
      refine g_iconst (pc := 96) (v := 0) dX7_noteFitting_96 (by decide) ?_
      exact am_sub [1, 2, 3, 4, 5, 6, 7, 0] rfl (q_X7_noteFitting_97 hX r1 v2 v3 v4 v5 v6 (σ.1 403 a3 j4) false (by omega) σ hf hk0 hk1)
    replace hf := am_ifF c9 hf
    refine g_iconst (pc := 92) (v := 1) dX7_noteFitting_92 (by decide) ?_
    refine g_goto (pc := 93) 97 dX7_noteFitting_93 rfl ?_
    exact am_sub [1, 2, 3, 4, 5, 6, 7, 0] rfl (q_X7_noteFitting_97 hX r1 v2 v3 v4 v5 v6 (σ.1 403 a3 j4) true (by omega) σ hf hk0 hk1)
  replace hf := am_ifF c2 hf
  have hz := hk1 _ (Option.some.inj hf).symm
  exact am_sub [0, 1, 2, 3, 4, 5] rfl hz
set_option maxRecDepth 100000 in
set_option maxHeartbeats 4000000 in
theorem l_X7_noteFitting_35 {X : am_X} (hX : am_wC X) {Q : Option Value → am_H → Prop} (r1 : Nat) (v2 : Int32) (v3 : Int32) (v4 : Int32) (v5 : Int32) (hr1 : r1 < 18) (σ : am_H) (s : Int32 × am_H) {o : am_H} (hf : am_loop (fun s => f_X7_noteFitting_35 r1 v2 v3 v4 v5 s.1 s.2) s = some o) (hk1 : ∀ t, o = t → am_G X gm_X7_noteFitting Q 161 [(0, .ref (am_ad X 7 0)), (1, .ref (am_ad X 10 r1)), (2, .int v2), (3, .int v3), (4, .int v4), (5, .int v5)] [] t) : am_G X gm_X7_noteFitting Q 35 [(0, .ref (am_ad X 7 0)), (1, .ref (am_ad X 10 r1)), (2, .int v2), (3, .int v3), (4, .int v4), (5, .int v5), (6, .int s.1)] [] s.2 := by
  refine am_loop_ind (P := fun s => am_G X gm_X7_noteFitting Q 35 [(0, .ref (am_ad X 7 0)), (1, .ref (am_ad X 10 r1)), (2, .int v2), (3, .int v3), (4, .int v4), (5, .int v5), (6, .int s.1)] [] s.2) (K := fun r => r = o) ?_ hf rfl
  intro s o1 hb hi hr
  exact q_X7_noteFitting_35 hX r1 v2 v3 v4 v5 s.1  hr1 s.2 hb hi (fun t e => hk1 t (hr _ e).symm)
noncomputable def f_X7_noteFitting_20 (r1 : Nat) (v2 : Int32) (v3 : Int32) (v4 : Int32) (v5 : Int32) (σ : am_H) : Option ((Int32 × am_H) ⊕ (am_H)) :=
  (am_rr 3 (σ.2.2 7 0 0)).bind fun a1 =>
  if v5 < (σ.1 3 a1 4) then
   ((am_loop (fun s => f_X7_noteFitting_35 r1 v2 v3 v4 v5 s.1 s.2) (0, σ)).bind fun w3 =>
   some (.inl ((v5 + 1), w3)))
  else
  some (.inr σ)
set_option maxRecDepth 100000 in
set_option maxHeartbeats 4000000 in
theorem q_X7_noteFitting_20 {X : am_X} (hX : am_wC X) {Q : Option Value → am_H → Prop} (r1 : Nat) (v2 : Int32) (v3 : Int32) (v4 : Int32) (v5 : Int32) (hr1 : r1 < 18) (σ : am_H) {o : (Int32 × am_H) ⊕ (am_H)} (hf : f_X7_noteFitting_20 r1 v2 v3 v4 v5 σ = some o) (hk0 : ∀ s, o = .inl s → am_G X gm_X7_noteFitting Q 20 [(0, .ref (am_ad X 7 0)), (1, .ref (am_ad X 10 r1)), (2, .int v2), (3, .int v3), (4, .int v4), (5, .int s.1)] [] s.2) (hk1 : ∀ t, o = .inr t → am_G X gm_X7_noteFitting Q 167 [] [] t) : am_G X gm_X7_noteFitting Q 20 [(0, .ref (am_ad X 7 0)), (1, .ref (am_ad X 10 r1)), (2, .int v2), (3, .int v3), (4, .int v4), (5, .int v5)] [] σ := by
  unfold f_X7_noteFitting_20 at hf
  refine g_iload (pc := 20) 5 rfl dX7_noteFitting_20 ?_
  refine g_aload_n (pc := 22) 0 rfl dX7_noteFitting_22 rfl ?_
  obtain ⟨a1, ha1, hf⟩ := am_bd hf
  obtain ⟨ha1, ga1⟩ := am_rr_in ha1
  refine g_getM (pc := 23) (in_7 hX.1 (by omega)) fr_X7_34 ha1 dX7_noteFitting_23 ?_
  refine g_getI (pc := 26) (in_3 hX.1 (by omega)) fr_X7_38 dX7_noteFitting_26 ?_
  refine bi_ge (pc := 29) 167 dX7_noteFitting_29 rfl (fun c2 => ?_) (fun c2 => ?_)
  · replace hf := am_ifT c2 hf
    refine g_iconst (pc := 32) (v := 0) dX7_noteFitting_32 (by decide) ?_
    refine g_istore (pc := 33) [(6, .int 0), (0, .ref (am_ad X 7 0)), (1, .ref (am_ad X 10 r1)), (2, .int v2), (3, .int v3), (4, .int v4), (5, .int v5)] dX7_noteFitting_33 (Nat.le_of_ble_eq_true rfl) rfl ?_
    obtain ⟨w3, hw3, hf⟩ := am_bd hf
    refine am_sub [1, 2, 3, 4, 5, 6, 0] rfl (l_X7_noteFitting_35 hX r1 v2 v3 v4 v5 (by omega) σ (0, σ) hw3 ?_)
    intro t e
    subst e
    refine g_iinc (pc := 161) (v := (v5 + 1)) 5 [(5, .int (v5 + 1)), (0, .ref (am_ad X 7 0)), (1, .ref (am_ad X 10 r1)), (2, .int v2), (3, .int v3), (4, .int v4)] dX7_noteFitting_161 rfl rfl (Nat.le_of_ble_eq_true rfl) rfl ?_
    refine g_goto (pc := 164) 20 dX7_noteFitting_164 rfl ?_
    have hz := hk0 _ (Option.some.inj hf).symm
    exact am_sub [1, 2, 3, 4, 5, 0] rfl hz
  replace hf := am_ifF c2 hf
  have hz := hk1 _ (Option.some.inj hf).symm
  exact am_sub [] rfl hz
set_option maxRecDepth 100000 in
set_option maxHeartbeats 4000000 in
theorem l_X7_noteFitting_20 {X : am_X} (hX : am_wC X) {Q : Option Value → am_H → Prop} (r1 : Nat) (v2 : Int32) (v3 : Int32) (v4 : Int32) (hr1 : r1 < 18) (σ : am_H) (s : Int32 × am_H) {o : am_H} (hf : am_loop (fun s => f_X7_noteFitting_20 r1 v2 v3 v4 s.1 s.2) s = some o) (hk1 : ∀ t, o = t → am_G X gm_X7_noteFitting Q 167 [] [] t) : am_G X gm_X7_noteFitting Q 20 [(0, .ref (am_ad X 7 0)), (1, .ref (am_ad X 10 r1)), (2, .int v2), (3, .int v3), (4, .int v4), (5, .int s.1)] [] s.2 := by
  refine am_loop_ind (P := fun s => am_G X gm_X7_noteFitting Q 20 [(0, .ref (am_ad X 7 0)), (1, .ref (am_ad X 10 r1)), (2, .int v2), (3, .int v3), (4, .int v4), (5, .int s.1)] [] s.2) (K := fun r => r = o) ?_ hf rfl
  intro s o1 hb hi hr
  exact q_X7_noteFitting_20 hX r1 v2 v3 v4 s.1  hr1 s.2 hb hi (fun t e => hk1 t (hr _ e).symm)
noncomputable def f_X7_noteFitting (r1 : Nat) (v2 : Int32) (v3 : Int32) (σ : am_H) : Option (am_H) :=
  (am_ix 4 ((σ.1 7 0 2) / 2)).bind fun j1 =>
  (some (am_wI σ 807 0 j1 1000000)).bind fun s2 =>
  (am_loop (fun s => f_X7_noteFitting_20 r1 v2 v3 ((σ.1 7 0 2) / 2) s.1 s.2) (0, s2)).bind fun w3 =>
  some w3
set_option maxRecDepth 100000 in
set_option maxHeartbeats 4000000 in
theorem q_X7_noteFitting {X : am_X} (hX : am_wC X) {Q : Option Value → am_H → Prop} (r1 : Nat) (v2 : Int32) (v3 : Int32) (hr1 : r1 < 18) (σ : am_H) {o : am_H} (hf : f_X7_noteFitting r1 v2 v3 σ = some o) (hk : Q none o) : am_G X gm_X7_noteFitting Q 0 [(0, .ref (am_ad X 7 0)), (1, .ref (am_ad X 10 r1)), (2, .int v2), (3, .int v3)] [] σ := by
  unfold f_X7_noteFitting at hf
  refine g_aload_n (pc := 0) 0 rfl dX7_noteFitting_0 rfl ?_
  refine g_getI (pc := 1) (in_7 hX.1 (by omega)) fr_X7_55 dX7_noteFitting_1 ?_
  refine g_iconst (pc := 4) (v := 2) dX7_noteFitting_4 (by decide) ?_
  refine g_idiv (pc := 5) dX7_noteFitting_5 (by decide) ?_
  refine g_istore (pc := 6) [(4, .int ((σ.1 7 0 2) / 2)), (0, .ref (am_ad X 7 0)), (1, .ref (am_ad X 10 r1)), (2, .int v2), (3, .int v3)] dX7_noteFitting_6 (Nat.le_of_ble_eq_true rfl) rfl ?_
  refine g_aload_n (pc := 8) 1 rfl dX7_noteFitting_8 rfl ?_
  refine g_getC (pc := 9) (e := 0) (in_7 hX.1 (by omega)) fr_X7_25 dX7_noteFitting_9 rfl ?_
  refine g_iload (pc := 12) 0 rfl dX7_noteFitting_12 ?_
  refine g_ldc (pc := 14) (v := 1000000) (tb_5 (List.mem_of_getElem? (i := 45) (by decide +kernel))) dX7_noteFitting_14 ?_
  obtain ⟨j1, hj1, hf⟩ := am_bd hf
  have gj1 := am_ix_lt hj1
  obtain ⟨s2, hs2, hf⟩ := am_bd hf
  refine g_sI (pc := 16) (in_807 hX.1 (by omega)) ak_807 hj1 dX7_noteFitting_16 (Option.some.inj hs2) ?_
  refine g_iconst (pc := 17) (v := 0) dX7_noteFitting_17 (by decide) ?_
  refine g_istore (pc := 18) [(5, .int 0), (4, .int ((σ.1 7 0 2) / 2)), (0, .ref (am_ad X 7 0)), (1, .ref (am_ad X 10 r1)), (2, .int v2), (3, .int v3)] dX7_noteFitting_18 (Nat.le_of_ble_eq_true rfl) rfl ?_
  obtain ⟨w3, hw3, hf⟩ := am_bd hf
  refine am_sub [2, 3, 4, 5, 1, 0] rfl (l_X7_noteFitting_20 hX r1 v2 v3 ((σ.1 7 0 2) / 2) (by omega) s2 (0, s2) hw3 ?_)
  intro t e
  subst e
  have ho := Option.some.inj hf
  subst ho
  exact g_vreturn (pc := 167) (st := []) rfl dX7_noteFitting_167 hk
theorem k_X7_noteFitting {X : am_X} (hX : am_wC X) (r1 : Nat) (v2 : Int32) (v3 : Int32) (hr1 : r1 < 18) (σ : am_H) {o : am_H} (hf : f_X7_noteFitting r1 v2 v3 σ = some o) : am_C X gm_X7_noteFitting [.ref (am_ad X 7 0), .ref (am_ad X 10 r1), .int v2, .int v3] σ (am_is none o) :=
  am_ofG rfl (Nat.le_of_ble_eq_true rfl) rfl (q_X7_noteFitting hX r1 v2 v3 hr1 σ hf ⟨rfl, rfl⟩)
theorem dX7_sumLeast_0 : decode cX7_sumLeast 0 = .ok (.aload_n 0, 1) := by decide +kernel
theorem dX7_sumLeast_1 : decode cX7_sumLeast 1 = .ok (.getfield 55, 3) := by decide +kernel
theorem dX7_sumLeast_4 : decode cX7_sumLeast 4 = .ok (.iconst 2, 1) := by decide +kernel
theorem dX7_sumLeast_5 : decode cX7_sumLeast 5 = .ok (.idiv, 1) := by decide +kernel
theorem dX7_sumLeast_6 : decode cX7_sumLeast 6 = .ok (.istore_n 1, 1) := by decide +kernel
theorem dX7_sumLeast_7 : decode cX7_sumLeast 7 = .ok (.aload_n 0, 1) := by decide +kernel
theorem dX7_sumLeast_8 : decode cX7_sumLeast 8 = .ok (.getfield 25, 3) := by decide +kernel
theorem dX7_sumLeast_11 : decode cX7_sumLeast 11 = .ok (.iload_n 1, 1) := by decide +kernel
theorem dX7_sumLeast_12 : decode cX7_sumLeast 12 = .ok (.iconst 0, 1) := by decide +kernel
theorem dX7_sumLeast_13 : decode cX7_sumLeast 13 = .ok (.iastore, 1) := by decide +kernel
theorem dX7_sumLeast_14 : decode cX7_sumLeast 14 = .ok (.iload_n 1, 1) := by decide +kernel
theorem dX7_sumLeast_15 : decode cX7_sumLeast 15 = .ok (.iconst 1, 1) := by decide +kernel
theorem dX7_sumLeast_16 : decode cX7_sumLeast 16 = .ok (.isub, 1) := by decide +kernel
theorem dX7_sumLeast_17 : decode cX7_sumLeast 17 = .ok (.istore_n 2, 1) := by decide +kernel
theorem dX7_sumLeast_18 : decode cX7_sumLeast 18 = .ok (.iload_n 2, 1) := by decide +kernel
theorem dX7_sumLeast_19 : decode cX7_sumLeast 19 = .ok (.ifCond .lt 35, 3) := by decide +kernel
theorem dX7_sumLeast_22 : decode cX7_sumLeast 22 = .ok (.aload_n 0, 1) := by decide +kernel
theorem dX7_sumLeast_23 : decode cX7_sumLeast 23 = .ok (.getfield 25, 3) := by decide +kernel
theorem dX7_sumLeast_26 : decode cX7_sumLeast 26 = .ok (.iload_n 2, 1) := by decide +kernel
theorem dX7_sumLeast_27 : decode cX7_sumLeast 27 = .ok (.ldc 103, 2) := by decide +kernel
theorem dX7_sumLeast_29 : decode cX7_sumLeast 29 = .ok (.aload_n 0, 1) := by decide +kernel
theorem dX7_sumLeast_30 : decode cX7_sumLeast 30 = .ok (.getfield 25, 3) := by decide +kernel
theorem dX7_sumLeast_33 : decode cX7_sumLeast 33 = .ok (.iload_n 2, 1) := by decide +kernel
theorem dX7_sumLeast_34 : decode cX7_sumLeast 34 = .ok (.iaload, 1) := by decide +kernel
theorem dX7_sumLeast_35 : decode cX7_sumLeast 35 = .ok (.aload_n 0, 1) := by decide +kernel
theorem dX7_sumLeast_36 : decode cX7_sumLeast 36 = .ok (.getfield 25, 3) := by decide +kernel
theorem dX7_sumLeast_39 : decode cX7_sumLeast 39 = .ok (.iload_n 2, 1) := by decide +kernel
theorem dX7_sumLeast_40 : decode cX7_sumLeast 40 = .ok (.iconst 1, 1) := by decide +kernel
theorem dX7_sumLeast_41 : decode cX7_sumLeast 41 = .ok (.iadd, 1) := by decide +kernel
theorem dX7_sumLeast_42 : decode cX7_sumLeast 42 = .ok (.iaload, 1) := by decide +kernel
theorem dX7_sumLeast_43 : decode cX7_sumLeast 43 = .ok (.iadd, 1) := by decide +kernel
theorem dX7_sumLeast_44 : decode cX7_sumLeast 44 = .ok (.invokestatic 118, 3) := by decide +kernel
theorem dX7_sumLeast_47 : decode cX7_sumLeast 47 = .ok (.iastore, 1) := by decide +kernel
theorem dX7_sumLeast_48 : decode cX7_sumLeast 48 = .ok (.iinc 2 (-1), 3) := by decide +kernel
theorem dX7_sumLeast_51 : decode cX7_sumLeast 51 = .ok (.goto (-33), 3) := by decide +kernel
theorem dX7_sumLeast_54 : decode cX7_sumLeast 54 = .ok (.return_, 1) := by decide +kernel
noncomputable def f_X7_sumLeast_18 (v2 : Int32) (σ : am_H) : Option ((Int32 × am_H) ⊕ (am_H)) :=
  if v2 < 0 then
   (some (.inr σ))
  else
  (am_ix 4 v2).bind fun j2 =>
  (am_ix 4 (v2 + 1)).bind fun j3 =>
  (am_ix 4 v2).bind fun j4 =>
  (some (am_wI σ 807 0 j4 (am_mn 1000000 ((σ.1 807 0 j2) + (σ.1 807 0 j3))))).bind fun s5 =>
  some (.inl ((v2 + (-1)), s5))
set_option maxRecDepth 100000 in
set_option maxHeartbeats 4000000 in
theorem q_X7_sumLeast_18 {X : am_X} (hX : am_wC X) {Q : Option Value → am_H → Prop} (v2 : Int32) (σ : am_H) {o : (Int32 × am_H) ⊕ (am_H)} (hf : f_X7_sumLeast_18 v2 σ = some o) (hk0 : ∀ s, o = .inl s → am_G X gm_X7_sumLeast Q 18 [(0, .ref (am_ad X 7 0)), (2, .int s.1)] [] s.2) (hk1 : ∀ t, o = .inr t → am_G X gm_X7_sumLeast Q 54 [] [] t) : am_G X gm_X7_sumLeast Q 18 [(0, .ref (am_ad X 7 0)), (2, .int v2)] [] σ := by
  unfold f_X7_sumLeast_18 at hf
  refine g_iload_n (pc := 18) 1 rfl dX7_sumLeast_18 rfl ?_
  refine bz_lt (pc := 19) 54 dX7_sumLeast_19 rfl (fun c1 => ?_) (fun c1 => ?_)
  · replace hf := am_ifT c1 hf
    have hz := hk1 _ (Option.some.inj hf).symm
    exact am_sub [] rfl hz
  replace hf := am_ifF c1 hf
  refine g_aload_n (pc := 22) 0 rfl dX7_sumLeast_22 rfl ?_
  refine g_getC (pc := 23) (e := 0) (in_7 hX.1 (by omega)) fr_X7_25 dX7_sumLeast_23 rfl ?_
  refine g_iload_n (pc := 26) 1 rfl dX7_sumLeast_26 rfl ?_
  refine g_ldc (pc := 27) (v := 1000000) (tb_5 (List.mem_of_getElem? (i := 45) (by decide +kernel))) dX7_sumLeast_27 ?_
  refine g_aload_n (pc := 29) 0 rfl dX7_sumLeast_29 rfl ?_
  refine g_getC (pc := 30) (e := 0) (in_7 hX.1 (by omega)) fr_X7_25 dX7_sumLeast_30 rfl ?_
  refine g_iload_n (pc := 33) 1 rfl dX7_sumLeast_33 rfl ?_
  obtain ⟨j2, hj2, hf⟩ := am_bd hf
  have gj2 := am_ix_lt hj2
  refine g_aI (pc := 34) (in_807 hX.1 (by omega)) ak_807 hj2 dX7_sumLeast_34 ?_
  refine g_aload_n (pc := 35) 0 rfl dX7_sumLeast_35 rfl ?_
  refine g_getC (pc := 36) (e := 0) (in_7 hX.1 (by omega)) fr_X7_25 dX7_sumLeast_36 rfl ?_
  refine g_iload_n (pc := 39) 1 rfl dX7_sumLeast_39 rfl ?_
  refine g_iconst (pc := 40) (v := 1) dX7_sumLeast_40 (by decide) ?_
  refine g_iadd (pc := 41) dX7_sumLeast_41 ?_
  obtain ⟨j3, hj3, hf⟩ := am_bd hf
  have gj3 := am_ix_lt hj3
  refine g_aI (pc := 42) (in_807 hX.1 (by omega)) ak_807 hj3 dX7_sumLeast_42 ?_
  refine g_iadd (pc := 43) dX7_sumLeast_43 ?_
  refine g_mmin (pc := 44) (Nat.le_of_ble_eq_true rfl) (Nat.le_of_ble_eq_true rfl) sp_X7_118 dX7_sumLeast_44 ?_
  obtain ⟨j4, hj4, hf⟩ := am_bd hf
  have gj4 := am_ix_lt hj4
  obtain ⟨s5, hs5, hf⟩ := am_bd hf
  refine g_sI (pc := 47) (in_807 hX.1 (by omega)) ak_807 hj4 dX7_sumLeast_47 (Option.some.inj hs5) ?_
  refine g_iinc (pc := 48) (v := (v2 + (-1))) 1 [(2, .int (v2 + (-1))), (0, .ref (am_ad X 7 0))] dX7_sumLeast_48 rfl rfl (Nat.le_of_ble_eq_true rfl) rfl ?_
  refine g_goto (pc := 51) 18 dX7_sumLeast_51 rfl ?_
  have hz := hk0 _ (Option.some.inj hf).symm
  exact am_sub [1, 0] rfl hz
set_option maxRecDepth 100000 in
set_option maxHeartbeats 4000000 in
theorem l_X7_sumLeast_18 {X : am_X} (hX : am_wC X) {Q : Option Value → am_H → Prop} (σ : am_H) (s : Int32 × am_H) {o : am_H} (hf : am_loop (fun s => f_X7_sumLeast_18 s.1 s.2) s = some o) (hk1 : ∀ t, o = t → am_G X gm_X7_sumLeast Q 54 [] [] t) : am_G X gm_X7_sumLeast Q 18 [(0, .ref (am_ad X 7 0)), (2, .int s.1)] [] s.2 := by
  refine am_loop_ind (P := fun s => am_G X gm_X7_sumLeast Q 18 [(0, .ref (am_ad X 7 0)), (2, .int s.1)] [] s.2) (K := fun r => r = o) ?_ hf rfl
  intro s o1 hb hi hr
  exact q_X7_sumLeast_18 hX s.1  s.2 hb hi (fun t e => hk1 t (hr _ e).symm)
noncomputable def f_X7_sumLeast (σ : am_H) : Option (am_H) :=
  (am_ix 4 ((σ.1 7 0 2) / 2)).bind fun j1 =>
  (some (am_wI σ 807 0 j1 0)).bind fun s2 =>
  (am_loop (fun s => f_X7_sumLeast_18 s.1 s.2) ((((σ.1 7 0 2) / 2) - 1), s2)).bind fun w3 =>
  some w3
set_option maxRecDepth 100000 in
set_option maxHeartbeats 4000000 in
theorem q_X7_sumLeast {X : am_X} (hX : am_wC X) {Q : Option Value → am_H → Prop} (σ : am_H) {o : am_H} (hf : f_X7_sumLeast σ = some o) (hk : Q none o) : am_G X gm_X7_sumLeast Q 0 [(0, .ref (am_ad X 7 0))] [] σ := by
  unfold f_X7_sumLeast at hf
  refine g_aload_n (pc := 0) 0 rfl dX7_sumLeast_0 rfl ?_
  refine g_getI (pc := 1) (in_7 hX.1 (by omega)) fr_X7_55 dX7_sumLeast_1 ?_
  refine g_iconst (pc := 4) (v := 2) dX7_sumLeast_4 (by decide) ?_
  refine g_idiv (pc := 5) dX7_sumLeast_5 (by decide) ?_
  refine g_istore_n (pc := 6) [(1, .int ((σ.1 7 0 2) / 2)), (0, .ref (am_ad X 7 0))] dX7_sumLeast_6 rfl (Nat.le_of_ble_eq_true rfl) rfl ?_
  refine g_aload_n (pc := 7) 1 rfl dX7_sumLeast_7 rfl ?_
  refine g_getC (pc := 8) (e := 0) (in_7 hX.1 (by omega)) fr_X7_25 dX7_sumLeast_8 rfl ?_
  refine g_iload_n (pc := 11) 0 rfl dX7_sumLeast_11 rfl ?_
  refine g_iconst (pc := 12) (v := 0) dX7_sumLeast_12 (by decide) ?_
  obtain ⟨j1, hj1, hf⟩ := am_bd hf
  have gj1 := am_ix_lt hj1
  obtain ⟨s2, hs2, hf⟩ := am_bd hf
  refine g_sI (pc := 13) (in_807 hX.1 (by omega)) ak_807 hj1 dX7_sumLeast_13 (Option.some.inj hs2) ?_
  refine g_iload_n (pc := 14) 0 rfl dX7_sumLeast_14 rfl ?_
  refine g_iconst (pc := 15) (v := 1) dX7_sumLeast_15 (by decide) ?_
  refine g_isub (pc := 16) dX7_sumLeast_16 ?_
  refine g_istore_n (pc := 17) [(2, .int (((σ.1 7 0 2) / 2) - 1)), (1, .int ((σ.1 7 0 2) / 2)), (0, .ref (am_ad X 7 0))] dX7_sumLeast_17 rfl (Nat.le_of_ble_eq_true rfl) rfl ?_
  obtain ⟨w3, hw3, hf⟩ := am_bd hf
  refine am_sub [2, 0] rfl (l_X7_sumLeast_18 hX  s2 ((((σ.1 7 0 2) / 2) - 1), s2) hw3 ?_)
  intro t e
  subst e
  have ho := Option.some.inj hf
  subst ho
  exact g_vreturn (pc := 54) (st := []) rfl dX7_sumLeast_54 hk
theorem k_X7_sumLeast {X : am_X} (hX : am_wC X) (σ : am_H) {o : am_H} (hf : f_X7_sumLeast σ = some o) : am_C X gm_X7_sumLeast [.ref (am_ad X 7 0)] σ (am_is none o) :=
  am_ofG rfl (Nat.le_of_ble_eq_true rfl) rfl (q_X7_sumLeast hX σ hf ⟨rfl, rfl⟩)
theorem dX7_tryDriven_0 : decode cX7_tryDriven 0 = .ok (.iconst 0, 1) := by decide +kernel
theorem dX7_tryDriven_1 : decode cX7_tryDriven 1 = .ok (.istore 4, 2) := by decide +kernel
theorem dX7_tryDriven_3 : decode cX7_tryDriven 3 = .ok (.iload 4, 2) := by decide +kernel
theorem dX7_tryDriven_5 : decode cX7_tryDriven 5 = .ok (.aload_n 0, 1) := by decide +kernel
theorem dX7_tryDriven_6 : decode cX7_tryDriven 6 = .ok (.getfield 34, 3) := by decide +kernel
theorem dX7_tryDriven_9 : decode cX7_tryDriven 9 = .ok (.getfield 38, 3) := by decide +kernel
theorem dX7_tryDriven_12 : decode cX7_tryDriven 12 = .ok (.if_icmp .ge 134, 3) := by decide +kernel
theorem dX7_tryDriven_15 : decode cX7_tryDriven 15 = .ok (.iload_n 3, 1) := by decide +kernel
theorem dX7_tryDriven_16 : decode cX7_tryDriven 16 = .ok (.aload_n 0, 1) := by decide +kernel
theorem dX7_tryDriven_17 : decode cX7_tryDriven 17 = .ok (.getfield 34, 3) := by decide +kernel
theorem dX7_tryDriven_20 : decode cX7_tryDriven 20 = .ok (.getfield 72, 3) := by decide +kernel
theorem dX7_tryDriven_23 : decode cX7_tryDriven 23 = .ok (.iload 4, 2) := by decide +kernel
theorem dX7_tryDriven_25 : decode cX7_tryDriven 25 = .ok (.iaload, 1) := by decide +kernel
theorem dX7_tryDriven_26 : decode cX7_tryDriven 26 = .ok (.iadd, 1) := by decide +kernel
theorem dX7_tryDriven_27 : decode cX7_tryDriven 27 = .ok (.istore 5, 2) := by decide +kernel
theorem dX7_tryDriven_29 : decode cX7_tryDriven 29 = .ok (.iload 5, 2) := by decide +kernel
theorem dX7_tryDriven_31 : decode cX7_tryDriven 31 = .ok (.aload_n 0, 1) := by decide +kernel
theorem dX7_tryDriven_32 : decode cX7_tryDriven 32 = .ok (.getfield 25, 3) := by decide +kernel
theorem dX7_tryDriven_35 : decode cX7_tryDriven 35 = .ok (.iload_n 1, 1) := by decide +kernel
theorem dX7_tryDriven_36 : decode cX7_tryDriven 36 = .ok (.iconst 1, 1) := by decide +kernel
theorem dX7_tryDriven_37 : decode cX7_tryDriven 37 = .ok (.iadd, 1) := by decide +kernel
theorem dX7_tryDriven_38 : decode cX7_tryDriven 38 = .ok (.iaload, 1) := by decide +kernel
theorem dX7_tryDriven_39 : decode cX7_tryDriven 39 = .ok (.iadd, 1) := by decide +kernel
theorem dX7_tryDriven_40 : decode cX7_tryDriven 40 = .ok (.aload_n 0, 1) := by decide +kernel
theorem dX7_tryDriven_41 : decode cX7_tryDriven 41 = .ok (.getfield 86, 3) := by decide +kernel
theorem dX7_tryDriven_44 : decode cX7_tryDriven 44 = .ok (.if_icmp .ge 7, 3) := by decide +kernel
theorem dX7_tryDriven_47 : decode cX7_tryDriven 47 = .ok (.iconst 1, 1) := by decide +kernel
theorem dX7_tryDriven_48 : decode cX7_tryDriven 48 = .ok (.goto 4, 3) := by decide +kernel
theorem dX7_tryDriven_51 : decode cX7_tryDriven 51 = .ok (.iconst 0, 1) := by decide +kernel
theorem dX7_tryDriven_52 : decode cX7_tryDriven 52 = .ok (.istore 6, 2) := by decide +kernel
theorem dX7_tryDriven_54 : decode cX7_tryDriven 54 = .ok (.iload 6, 2) := by decide +kernel
theorem dX7_tryDriven_56 : decode cX7_tryDriven 56 = .ok (.ifCond .eq 84, 3) := by decide +kernel
theorem dX7_tryDriven_59 : decode cX7_tryDriven 59 = .ok (.aload_n 0, 1) := by decide +kernel
theorem dX7_tryDriven_60 : decode cX7_tryDriven 60 = .ok (.getfield 9, 3) := by decide +kernel
theorem dX7_tryDriven_63 : decode cX7_tryDriven 63 = .ok (.iload 4, 2) := by decide +kernel
theorem dX7_tryDriven_65 : decode cX7_tryDriven 65 = .ok (.iaload, 1) := by decide +kernel
theorem dX7_tryDriven_66 : decode cX7_tryDriven 66 = .ok (.ifCond .le 74, 3) := by decide +kernel
theorem dX7_tryDriven_69 : decode cX7_tryDriven 69 = .ok (.aload_n 0, 1) := by decide +kernel
theorem dX7_tryDriven_70 : decode cX7_tryDriven 70 = .ok (.getfield 21, 3) := by decide +kernel
theorem dX7_tryDriven_73 : decode cX7_tryDriven 73 = .ok (.iload_n 1, 1) := by decide +kernel
theorem dX7_tryDriven_74 : decode cX7_tryDriven 74 = .ok (.bipush 100, 2) := by decide +kernel
theorem dX7_tryDriven_76 : decode cX7_tryDriven 76 = .ok (.imul, 1) := by decide +kernel
theorem dX7_tryDriven_77 : decode cX7_tryDriven 77 = .ok (.iload_n 2, 1) := by decide +kernel
theorem dX7_tryDriven_78 : decode cX7_tryDriven 78 = .ok (.bipush 10, 2) := by decide +kernel
theorem dX7_tryDriven_80 : decode cX7_tryDriven 80 = .ok (.imul, 1) := by decide +kernel
theorem dX7_tryDriven_81 : decode cX7_tryDriven 81 = .ok (.iadd, 1) := by decide +kernel
theorem dX7_tryDriven_82 : decode cX7_tryDriven 82 = .ok (.iload 4, 2) := by decide +kernel
theorem dX7_tryDriven_84 : decode cX7_tryDriven 84 = .ok (.iadd, 1) := by decide +kernel
theorem dX7_tryDriven_85 : decode cX7_tryDriven 85 = .ok (.baload, 1) := by decide +kernel
theorem dX7_tryDriven_86 : decode cX7_tryDriven 86 = .ok (.ifCond .eq 54, 3) := by decide +kernel
theorem dX7_tryDriven_89 : decode cX7_tryDriven 89 = .ok (.aload_n 0, 1) := by decide +kernel
theorem dX7_tryDriven_90 : decode cX7_tryDriven 90 = .ok (.getfield 9, 3) := by decide +kernel
theorem dX7_tryDriven_93 : decode cX7_tryDriven 93 = .ok (.iload 4, 2) := by decide +kernel
theorem dX7_tryDriven_95 : decode cX7_tryDriven 95 = .ok (.dup2, 1) := by decide +kernel
theorem dX7_tryDriven_96 : decode cX7_tryDriven 96 = .ok (.iaload, 1) := by decide +kernel
theorem dX7_tryDriven_97 : decode cX7_tryDriven 97 = .ok (.iconst 1, 1) := by decide +kernel
theorem dX7_tryDriven_98 : decode cX7_tryDriven 98 = .ok (.isub, 1) := by decide +kernel
theorem dX7_tryDriven_99 : decode cX7_tryDriven 99 = .ok (.iastore, 1) := by decide +kernel
theorem dX7_tryDriven_100 : decode cX7_tryDriven 100 = .ok (.aload_n 0, 1) := by decide +kernel
theorem dX7_tryDriven_101 : decode cX7_tryDriven 101 = .ok (.getfield 15, 3) := by decide +kernel
theorem dX7_tryDriven_104 : decode cX7_tryDriven 104 = .ok (.iconst 2, 1) := by decide +kernel
theorem dX7_tryDriven_105 : decode cX7_tryDriven 105 = .ok (.iload_n 1, 1) := by decide +kernel
theorem dX7_tryDriven_106 : decode cX7_tryDriven 106 = .ok (.imul, 1) := by decide +kernel
theorem dX7_tryDriven_107 : decode cX7_tryDriven 107 = .ok (.iconst 1, 1) := by decide +kernel
theorem dX7_tryDriven_108 : decode cX7_tryDriven 108 = .ok (.iadd, 1) := by decide +kernel
theorem dX7_tryDriven_109 : decode cX7_tryDriven 109 = .ok (.aload_n 0, 1) := by decide +kernel
theorem dX7_tryDriven_110 : decode cX7_tryDriven 110 = .ok (.getfield 34, 3) := by decide +kernel
theorem dX7_tryDriven_113 : decode cX7_tryDriven 113 = .ok (.getfield 72, 3) := by decide +kernel
theorem dX7_tryDriven_116 : decode cX7_tryDriven 116 = .ok (.iload 4, 2) := by decide +kernel
theorem dX7_tryDriven_118 : decode cX7_tryDriven 118 = .ok (.iaload, 1) := by decide +kernel
theorem dX7_tryDriven_119 : decode cX7_tryDriven 119 = .ok (.iastore, 1) := by decide +kernel
theorem dX7_tryDriven_120 : decode cX7_tryDriven 120 = .ok (.aload_n 0, 1) := by decide +kernel
theorem dX7_tryDriven_121 : decode cX7_tryDriven 121 = .ok (.iload_n 1, 1) := by decide +kernel
theorem dX7_tryDriven_122 : decode cX7_tryDriven 122 = .ok (.iconst 1, 1) := by decide +kernel
theorem dX7_tryDriven_123 : decode cX7_tryDriven 123 = .ok (.iadd, 1) := by decide +kernel
theorem dX7_tryDriven_124 : decode cX7_tryDriven 124 = .ok (.iload 5, 2) := by decide +kernel
theorem dX7_tryDriven_126 : decode cX7_tryDriven 126 = .ok (.invokevirtual 107, 3) := by decide +kernel
theorem dX7_tryDriven_129 : decode cX7_tryDriven 129 = .ok (.aload_n 0, 1) := by decide +kernel
theorem dX7_tryDriven_130 : decode cX7_tryDriven 130 = .ok (.getfield 9, 3) := by decide +kernel
theorem dX7_tryDriven_133 : decode cX7_tryDriven 133 = .ok (.iload 4, 2) := by decide +kernel
theorem dX7_tryDriven_135 : decode cX7_tryDriven 135 = .ok (.dup2, 1) := by decide +kernel
theorem dX7_tryDriven_136 : decode cX7_tryDriven 136 = .ok (.iaload, 1) := by decide +kernel
theorem dX7_tryDriven_137 : decode cX7_tryDriven 137 = .ok (.iconst 1, 1) := by decide +kernel
theorem dX7_tryDriven_138 : decode cX7_tryDriven 138 = .ok (.iadd, 1) := by decide +kernel
theorem dX7_tryDriven_139 : decode cX7_tryDriven 139 = .ok (.iastore, 1) := by decide +kernel
theorem dX7_tryDriven_140 : decode cX7_tryDriven 140 = .ok (.iinc 4 1, 3) := by decide +kernel
theorem dX7_tryDriven_143 : decode cX7_tryDriven 143 = .ok (.goto (-140), 3) := by decide +kernel
theorem dX7_tryDriven_146 : decode cX7_tryDriven 146 = .ok (.return_, 1) := by decide +kernel
noncomputable def f_X7_tryDriven_52 (rc : Int32 → Int32 → am_H → Option (am_H)) (v1 : Int32) (v2 : Int32) (v3 : Int32) (v4 : Int32) (v5 : Int32) (k0 : Bool) (σ : am_H) : Option ((Int32 × am_H) ⊕ (am_H)) :=
  if k0 = true then
   ((am_ix 10 v4).bind fun j2 =>
   if 0 < (σ.1 803 0 j2) then
    ((am_ix 300 (((v1 * 100) + (v2 * 10)) + v4)).bind fun j4 =>
    if (σ.1 806 0 j4) = 0 then
     (some (.inl ((v4 + 1), σ)))
    else
    (am_ix 10 v4).bind fun j6 =>
    (am_ix 10 v4).bind fun j7 =>
    (some (am_wI σ 803 0 j7 ((σ.1 803 0 j6) - 1))).bind fun s8 =>
    (am_rr 3 (s8.2.2 7 0 0)).bind fun a9 =>
    (am_ix 10 v4).bind fun j10 =>
    (am_ix 6 ((2 * v1) + 1)).bind fun j11 =>
    (some (am_wI s8 804 0 j11 (s8.1 403 a9 j10))).bind fun s12 =>
    (rc (v1 + 1) v5 s12).bind fun p13 =>
    (am_ix 10 v4).bind fun j14 =>
    (am_ix 10 v4).bind fun j15 =>
    (some (am_wI p13 803 0 j15 ((p13.1 803 0 j14) + 1))).bind fun s16 =>
    some (.inl ((v4 + 1), s16)))
   else
   some (.inl ((v4 + 1), σ)))
  else
  some (.inl ((v4 + 1), σ))
set_option maxRecDepth 100000 in
set_option maxHeartbeats 4000000 in
theorem q_X7_tryDriven_52 {X : am_X} (hX : am_wC X) {Q : Option Value → am_H → Prop} (n : Nat) (rc : Int32 → Int32 → am_H → Option (am_H)) (hrc : ∀ (v1 : Int32) (v2 : Int32) (σ : am_H) (o : am_H), rc v1 v2 σ = some o → am_C X (gm_X7_tryCouple n) [.ref (am_ad X 7 0), .int v1, .int v2] σ (am_is none o)) (v1 : Int32) (v2 : Int32) (v3 : Int32) (v4 : Int32) (v5 : Int32) (k0 : Bool) (σ : am_H) {o : (Int32 × am_H) ⊕ (am_H)} (hf : f_X7_tryDriven_52 rc v1 v2 v3 v4 v5 k0 σ = some o) (hk0 : ∀ s, o = .inl s → am_G X (gm_X7_tryDriven n) Q 3 [(0, .ref (am_ad X 7 0)), (1, .int v1), (2, .int v2), (3, .int v3), (4, .int s.1)] [] s.2) (hk1 : ∀ t, o = .inr t → am_G X (gm_X7_tryDriven n) Q 146 [] [] t) : am_G X (gm_X7_tryDriven n) Q 52 [(0, .ref (am_ad X 7 0)), (1, .int v1), (2, .int v2), (3, .int v3), (4, .int v4), (5, .int v5)] [.int (am_b k0)] σ := by
  unfold f_X7_tryDriven_52 at hf
  refine g_istore (pc := 52) [(6, .int (am_b k0)), (0, .ref (am_ad X 7 0)), (1, .int v1), (2, .int v2), (3, .int v3), (4, .int v4), (5, .int v5)] dX7_tryDriven_52 (Nat.le_of_ble_eq_true rfl) rfl ?_
  refine g_iload (pc := 54) 0 rfl dX7_tryDriven_54 ?_
  refine bt_eq (pc := 56) 140 dX7_tryDriven_56 rfl (fun c1 => ?_) (fun c1 => ?_)
  · replace hf := am_ifT c1 hf
    refine g_aload_n (pc := 59) 1 rfl dX7_tryDriven_59 rfl ?_
    refine g_getC (pc := 60) (e := 0) (in_7 hX.1 (by omega)) fr_X7_9 dX7_tryDriven_60 rfl ?_
    refine g_iload (pc := 63) 5 rfl dX7_tryDriven_63 ?_
    obtain ⟨j2, hj2, hf⟩ := am_bd hf
    have gj2 := am_ix_lt hj2
    refine g_aI (pc := 65) (in_803 hX.1 (by omega)) ak_803 hj2 dX7_tryDriven_65 ?_
    refine bz_le (pc := 66) 140 dX7_tryDriven_66 rfl (fun c3 => ?_) (fun c3 => ?_)
    · replace hf := am_ifT c3 hf
      refine g_aload_n (pc := 69) 1 rfl dX7_tryDriven_69 rfl ?_
      refine g_getC (pc := 70) (e := 0) (in_7 hX.1 (by omega)) fr_X7_21 dX7_tryDriven_70 rfl ?_
      refine g_iload_n (pc := 73) 2 rfl dX7_tryDriven_73 rfl ?_
      refine g_bipush (pc := 74) (v := 100) dX7_tryDriven_74 (by decide) ?_
      refine g_imul (pc := 76) dX7_tryDriven_76 ?_
      refine g_iload_n (pc := 77) 3 rfl dX7_tryDriven_77 rfl ?_
      refine g_bipush (pc := 78) (v := 10) dX7_tryDriven_78 (by decide) ?_
      refine g_imul (pc := 80) dX7_tryDriven_80 ?_
      refine g_iadd (pc := 81) dX7_tryDriven_81 ?_
      refine g_iload (pc := 82) 5 rfl dX7_tryDriven_82 ?_
      refine g_iadd (pc := 84) dX7_tryDriven_84 ?_
      obtain ⟨j4, hj4, hf⟩ := am_bd hf
      have gj4 := am_ix_lt hj4
      refine g_aZ (pc := 85) (in_806 hX.1 (by omega)) ak_806 hj4 dX7_tryDriven_85 ?_
      refine bz_eq (pc := 86) 140 dX7_tryDriven_86 rfl (fun c5 => ?_) (fun c5 => ?_)
      · replace hf := am_ifT c5 hf
        refine g_iinc (pc := 140) (v := (v4 + 1)) 5 [(4, .int (v4 + 1)), (6, .int (am_b k0)), (0, .ref (am_ad X 7 0)), (1, .int v1), (2, .int v2), (3, .int v3), (5, .int v5)] dX7_tryDriven_140 rfl rfl (Nat.le_of_ble_eq_true rfl) rfl ?_
        refine g_goto (pc := 143) 3 dX7_tryDriven_143 rfl ?_
        have hz := hk0 _ (Option.some.inj hf).symm
        exact am_sub [2, 3, 4, 5, 0] rfl hz
      replace hf := am_ifF c5 hf
      refine g_aload_n (pc := 89) 1 rfl dX7_tryDriven_89 rfl ?_
      refine g_getC (pc := 90) (e := 0) (in_7 hX.1 (by omega)) fr_X7_9 dX7_tryDriven_90 rfl ?_
      refine g_iload (pc := 93) 5 rfl dX7_tryDriven_93 ?_
      refine g_dup2_11 (pc := 95) dX7_tryDriven_95 rfl rfl ?_
      obtain ⟨j6, hj6, hf⟩ := am_bd hf
      have gj6 := am_ix_lt hj6
      refine g_aI (pc := 96) (in_803 hX.1 (by omega)) ak_803 hj6 dX7_tryDriven_96 ?_
      refine g_iconst (pc := 97) (v := 1) dX7_tryDriven_97 (by decide) ?_
      refine g_isub (pc := 98) dX7_tryDriven_98 ?_
      obtain ⟨j7, hj7, hf⟩ := am_bd hf
      have gj7 := am_ix_lt hj7
      obtain ⟨s8, hs8, hf⟩ := am_bd hf
      refine g_sI (pc := 99) (in_803 hX.1 (by omega)) ak_803 hj7 dX7_tryDriven_99 (Option.some.inj hs8) ?_
      refine g_aload_n (pc := 100) 1 rfl dX7_tryDriven_100 rfl ?_
      refine g_getC (pc := 101) (e := 0) (in_7 hX.1 (by omega)) fr_X7_15 dX7_tryDriven_101 rfl ?_
      refine g_iconst (pc := 104) (v := 2) dX7_tryDriven_104 (by decide) ?_
      refine g_iload_n (pc := 105) 2 rfl dX7_tryDriven_105 rfl ?_
      refine g_imul (pc := 106) dX7_tryDriven_106 ?_
      refine g_iconst (pc := 107) (v := 1) dX7_tryDriven_107 (by decide) ?_
      refine g_iadd (pc := 108) dX7_tryDriven_108 ?_
      refine g_aload_n (pc := 109) 1 rfl dX7_tryDriven_109 rfl ?_
      obtain ⟨a9, ha9, hf⟩ := am_bd hf
      obtain ⟨ha9, ga9⟩ := am_rr_in ha9
      refine g_getM (pc := 110) (in_7 hX.1 (by omega)) fr_X7_34 ha9 dX7_tryDriven_110 ?_
      refine g_getC (pc := 113) (e := a9) (in_3 hX.1 (by omega)) fr_X7_72 dX7_tryDriven_113 rfl ?_
      refine g_iload (pc := 116) 5 rfl dX7_tryDriven_116 ?_
      obtain ⟨j10, hj10, hf⟩ := am_bd hf
      have gj10 := am_ix_lt hj10
      refine g_aI (pc := 118) (in_403 hX.1 (by omega)) ak_403 hj10 dX7_tryDriven_118 ?_
      obtain ⟨j11, hj11, hf⟩ := am_bd hf
      have gj11 := am_ix_lt hj11
      obtain ⟨s12, hs12, hf⟩ := am_bd hf
      refine g_sI (pc := 119) (in_804 hX.1 (by omega)) ak_804 hj11 dX7_tryDriven_119 (Option.some.inj hs12) ?_
      refine g_aload_n (pc := 120) 1 rfl dX7_tryDriven_120 rfl ?_
      refine g_iload_n (pc := 121) 2 rfl dX7_tryDriven_121 rfl ?_
      refine g_iconst (pc := 122) (v := 1) dX7_tryDriven_122 (by decide) ?_
      refine g_iadd (pc := 123) dX7_tryDriven_123 ?_
      refine g_iload (pc := 124) 6 rfl dX7_tryDriven_124 ?_
      obtain ⟨p13, hp13, hf⟩ := am_bd hf
      refine g_cV (pc := 126) (As := [.int (v1 + 1), .int v5]) (st := []) (st1 := []) (in_7 hX.1 (by omega)) kk_7 (mV_X7_tryCouple _) ln_X7_107 rfl (by first | exact Nat.le_of_ble_eq_true rfl | (show _ + 1 ≤ _; simp only []; omega)) (Nat.le_of_ble_eq_true rfl) (hrc (v1 + 1) v5 s12 _ hp13) dX7_tryDriven_126 rfl rfl ?_
      refine g_aload_n (pc := 129) 1 rfl dX7_tryDriven_129 rfl ?_
      refine g_getC (pc := 130) (e := 0) (in_7 hX.1 (by omega)) fr_X7_9 dX7_tryDriven_130 rfl ?_
      refine g_iload (pc := 133) 5 rfl dX7_tryDriven_133 ?_
      refine g_dup2_11 (pc := 135) dX7_tryDriven_135 rfl rfl ?_
      obtain ⟨j14, hj14, hf⟩ := am_bd hf
      have gj14 := am_ix_lt hj14
      refine g_aI (pc := 136) (in_803 hX.1 (by omega)) ak_803 hj14 dX7_tryDriven_136 ?_
      refine g_iconst (pc := 137) (v := 1) dX7_tryDriven_137 (by decide) ?_
      refine g_iadd (pc := 138) dX7_tryDriven_138 ?_
      obtain ⟨j15, hj15, hf⟩ := am_bd hf
      have gj15 := am_ix_lt hj15
      obtain ⟨s16, hs16, hf⟩ := am_bd hf
      refine g_sI (pc := 139) (in_803 hX.1 (by omega)) ak_803 hj15 dX7_tryDriven_139 (Option.some.inj hs16) ?_
      refine g_iinc (pc := 140) (v := (v4 + 1)) 5 [(4, .int (v4 + 1)), (6, .int (am_b k0)), (0, .ref (am_ad X 7 0)), (1, .int v1), (2, .int v2), (3, .int v3), (5, .int v5)] dX7_tryDriven_140 rfl rfl (Nat.le_of_ble_eq_true rfl) rfl ?_
      refine g_goto (pc := 143) 3 dX7_tryDriven_143 rfl ?_
      have hz := hk0 _ (Option.some.inj hf).symm
      exact am_sub [2, 3, 4, 5, 0] rfl hz
    replace hf := am_ifF c3 hf
    refine g_iinc (pc := 140) (v := (v4 + 1)) 5 [(4, .int (v4 + 1)), (6, .int (am_b k0)), (0, .ref (am_ad X 7 0)), (1, .int v1), (2, .int v2), (3, .int v3), (5, .int v5)] dX7_tryDriven_140 rfl rfl (Nat.le_of_ble_eq_true rfl) rfl ?_
    refine g_goto (pc := 143) 3 dX7_tryDriven_143 rfl ?_
    have hz := hk0 _ (Option.some.inj hf).symm
    exact am_sub [2, 3, 4, 5, 0] rfl hz
  replace hf := am_ifF c1 hf
  refine g_iinc (pc := 140) (v := (v4 + 1)) 5 [(4, .int (v4 + 1)), (6, .int (am_b k0)), (0, .ref (am_ad X 7 0)), (1, .int v1), (2, .int v2), (3, .int v3), (5, .int v5)] dX7_tryDriven_140 rfl rfl (Nat.le_of_ble_eq_true rfl) rfl ?_
  refine g_goto (pc := 143) 3 dX7_tryDriven_143 rfl ?_
  have hz := hk0 _ (Option.some.inj hf).symm
  exact am_sub [2, 3, 4, 5, 0] rfl hz
noncomputable def f_X7_tryDriven_3 (rc : Int32 → Int32 → am_H → Option (am_H)) (v1 : Int32) (v2 : Int32) (v3 : Int32) (v4 : Int32) (σ : am_H) : Option ((Int32 × am_H) ⊕ (am_H)) :=
  (am_rr 3 (σ.2.2 7 0 0)).bind fun a1 =>
  if v4 < (σ.1 3 a1 4) then
   ((am_rr 3 (σ.2.2 7 0 0)).bind fun a3 =>
   (am_ix 10 v4).bind fun j4 =>
   (am_ix 4 (v1 + 1)).bind fun j5 =>
   if ((v3 + (σ.1 403 a3 j4)) + (σ.1 807 0 j5)) < (σ.1 7 0 8) then
    (f_X7_tryDriven_52 rc v1 v2 v3 v4 (v3 + (σ.1 403 a3 j4)) true σ)
   else
   f_X7_tryDriven_52 rc v1 v2 v3 v4 (v3 + (σ.1 403 a3 j4)) false σ)
  else
  some (.inr σ)
set_option maxRecDepth 100000 in
set_option maxHeartbeats 4000000 in
theorem q_X7_tryDriven_3 {X : am_X} (hX : am_wC X) {Q : Option Value → am_H → Prop} (n : Nat) (rc : Int32 → Int32 → am_H → Option (am_H)) (hrc : ∀ (v1 : Int32) (v2 : Int32) (σ : am_H) (o : am_H), rc v1 v2 σ = some o → am_C X (gm_X7_tryCouple n) [.ref (am_ad X 7 0), .int v1, .int v2] σ (am_is none o)) (v1 : Int32) (v2 : Int32) (v3 : Int32) (v4 : Int32) (σ : am_H) {o : (Int32 × am_H) ⊕ (am_H)} (hf : f_X7_tryDriven_3 rc v1 v2 v3 v4 σ = some o) (hk0 : ∀ s, o = .inl s → am_G X (gm_X7_tryDriven n) Q 3 [(0, .ref (am_ad X 7 0)), (1, .int v1), (2, .int v2), (3, .int v3), (4, .int s.1)] [] s.2) (hk1 : ∀ t, o = .inr t → am_G X (gm_X7_tryDriven n) Q 146 [] [] t) : am_G X (gm_X7_tryDriven n) Q 3 [(0, .ref (am_ad X 7 0)), (1, .int v1), (2, .int v2), (3, .int v3), (4, .int v4)] [] σ := by
  unfold f_X7_tryDriven_3 at hf
  refine g_iload (pc := 3) 4 rfl dX7_tryDriven_3 ?_
  refine g_aload_n (pc := 5) 0 rfl dX7_tryDriven_5 rfl ?_
  obtain ⟨a1, ha1, hf⟩ := am_bd hf
  obtain ⟨ha1, ga1⟩ := am_rr_in ha1
  refine g_getM (pc := 6) (in_7 hX.1 (by omega)) fr_X7_34 ha1 dX7_tryDriven_6 ?_
  refine g_getI (pc := 9) (in_3 hX.1 (by omega)) fr_X7_38 dX7_tryDriven_9 ?_
  refine bi_ge (pc := 12) 146 dX7_tryDriven_12 rfl (fun c2 => ?_) (fun c2 => ?_)
  · replace hf := am_ifT c2 hf
    refine g_iload_n (pc := 15) 3 rfl dX7_tryDriven_15 rfl ?_
    refine g_aload_n (pc := 16) 0 rfl dX7_tryDriven_16 rfl ?_
    obtain ⟨a3, ha3, hf⟩ := am_bd hf
    obtain ⟨ha3, ga3⟩ := am_rr_in ha3
    refine g_getM (pc := 17) (in_7 hX.1 (by omega)) fr_X7_34 ha3 dX7_tryDriven_17 ?_
    refine g_getC (pc := 20) (e := a3) (in_3 hX.1 (by omega)) fr_X7_72 dX7_tryDriven_20 rfl ?_
    refine g_iload (pc := 23) 4 rfl dX7_tryDriven_23 ?_
    obtain ⟨j4, hj4, hf⟩ := am_bd hf
    have gj4 := am_ix_lt hj4
    refine g_aI (pc := 25) (in_403 hX.1 (by omega)) ak_403 hj4 dX7_tryDriven_25 ?_
    refine g_iadd (pc := 26) dX7_tryDriven_26 ?_
    refine g_istore (pc := 27) [(5, .int (v3 + (σ.1 403 a3 j4))), (0, .ref (am_ad X 7 0)), (1, .int v1), (2, .int v2), (3, .int v3), (4, .int v4)] dX7_tryDriven_27 (Nat.le_of_ble_eq_true rfl) rfl ?_
    refine g_iload (pc := 29) 0 rfl dX7_tryDriven_29 ?_
    refine g_aload_n (pc := 31) 1 rfl dX7_tryDriven_31 rfl ?_
    refine g_getC (pc := 32) (e := 0) (in_7 hX.1 (by omega)) fr_X7_25 dX7_tryDriven_32 rfl ?_
    refine g_iload_n (pc := 35) 2 rfl dX7_tryDriven_35 rfl ?_
    refine g_iconst (pc := 36) (v := 1) dX7_tryDriven_36 (by decide) ?_
    refine g_iadd (pc := 37) dX7_tryDriven_37 ?_
    obtain ⟨j5, hj5, hf⟩ := am_bd hf
    have gj5 := am_ix_lt hj5
    refine g_aI (pc := 38) (in_807 hX.1 (by omega)) ak_807 hj5 dX7_tryDriven_38 ?_
    refine g_iadd (pc := 39) dX7_tryDriven_39 ?_
    refine g_aload_n (pc := 40) 1 rfl dX7_tryDriven_40 rfl ?_
    refine g_getI (pc := 41) (in_7 hX.1 (by omega)) fr_X7_86 dX7_tryDriven_41 ?_
    refine bi_ge (pc := 44) 51 dX7_tryDriven_44 rfl (fun c6 => ?_) (fun c6 => ?_)
    · replace hf := am_ifT c6 hf
      refine g_iconst (pc := 47) (v := 1) dX7_tryDriven_47 (by decide) ?_
      refine g_goto (pc := 48) 52 dX7_tryDriven_48 rfl ?_
      exact am_sub [1, 2, 3, 4, 5, 0] rfl (q_X7_tryDriven_52 hX n rc hrc v1 v2 v3 v4 (v3 + (σ.1 403 a3 j4)) true σ hf hk0 hk1)
    replace hf := am_ifF c6 hf
    refine g_iconst (pc := 51) (v := 0) dX7_tryDriven_51 (by decide) ?_
    exact am_sub [1, 2, 3, 4, 5, 0] rfl (q_X7_tryDriven_52 hX n rc hrc v1 v2 v3 v4 (v3 + (σ.1 403 a3 j4)) false σ hf hk0 hk1)
  replace hf := am_ifF c2 hf
  have hz := hk1 _ (Option.some.inj hf).symm
  exact am_sub [] rfl hz
set_option maxRecDepth 100000 in
set_option maxHeartbeats 4000000 in
theorem l_X7_tryDriven_3 {X : am_X} (hX : am_wC X) {Q : Option Value → am_H → Prop} (n : Nat) (rc : Int32 → Int32 → am_H → Option (am_H)) (hrc : ∀ (v1 : Int32) (v2 : Int32) (σ : am_H) (o : am_H), rc v1 v2 σ = some o → am_C X (gm_X7_tryCouple n) [.ref (am_ad X 7 0), .int v1, .int v2] σ (am_is none o)) (v1 : Int32) (v2 : Int32) (v3 : Int32) (σ : am_H) (s : Int32 × am_H) {o : am_H} (hf : am_loop (fun s => f_X7_tryDriven_3 rc v1 v2 v3 s.1 s.2) s = some o) (hk1 : ∀ t, o = t → am_G X (gm_X7_tryDriven n) Q 146 [] [] t) : am_G X (gm_X7_tryDriven n) Q 3 [(0, .ref (am_ad X 7 0)), (1, .int v1), (2, .int v2), (3, .int v3), (4, .int s.1)] [] s.2 := by
  refine am_loop_ind (P := fun s => am_G X (gm_X7_tryDriven n) Q 3 [(0, .ref (am_ad X 7 0)), (1, .int v1), (2, .int v2), (3, .int v3), (4, .int s.1)] [] s.2) (K := fun r => r = o) ?_ hf rfl
  intro s o1 hb hi hr
  exact q_X7_tryDriven_3 hX n rc hrc v1 v2 v3 s.1  s.2 hb hi (fun t e => hk1 t (hr _ e).symm)
noncomputable def f_X7_tryDriven (rc : Int32 → Int32 → am_H → Option (am_H)) (v1 : Int32) (v2 : Int32) (v3 : Int32) (σ : am_H) : Option (am_H) :=
  (am_loop (fun s => f_X7_tryDriven_3 rc v1 v2 v3 s.1 s.2) (0, σ)).bind fun w1 =>
  some w1
set_option maxRecDepth 100000 in
set_option maxHeartbeats 4000000 in
theorem q_X7_tryDriven {X : am_X} (hX : am_wC X) {Q : Option Value → am_H → Prop} (n : Nat) (rc : Int32 → Int32 → am_H → Option (am_H)) (hrc : ∀ (v1 : Int32) (v2 : Int32) (σ : am_H) (o : am_H), rc v1 v2 σ = some o → am_C X (gm_X7_tryCouple n) [.ref (am_ad X 7 0), .int v1, .int v2] σ (am_is none o)) (v1 : Int32) (v2 : Int32) (v3 : Int32) (σ : am_H) {o : am_H} (hf : f_X7_tryDriven rc v1 v2 v3 σ = some o) (hk : Q none o) : am_G X (gm_X7_tryDriven n) Q 0 [(0, .ref (am_ad X 7 0)), (1, .int v1), (2, .int v2), (3, .int v3)] [] σ := by
  unfold f_X7_tryDriven at hf
  refine g_iconst (pc := 0) (v := 0) dX7_tryDriven_0 (by decide) ?_
  refine g_istore (pc := 1) [(4, .int 0), (0, .ref (am_ad X 7 0)), (1, .int v1), (2, .int v2), (3, .int v3)] dX7_tryDriven_1 (Nat.le_of_ble_eq_true rfl) rfl ?_
  obtain ⟨w1, hw1, hf⟩ := am_bd hf
  refine am_sub [1, 2, 3, 4, 0] rfl (l_X7_tryDriven_3 hX n rc hrc v1 v2 v3  σ (0, σ) hw1 ?_)
  intro t e
  subst e
  have ho := Option.some.inj hf
  subst ho
  exact g_vreturn (pc := 146) (st := []) rfl dX7_tryDriven_146 hk
theorem k_X7_tryDriven {X : am_X} (hX : am_wC X) (n : Nat) (rc : Int32 → Int32 → am_H → Option (am_H)) (hrc : ∀ (v1 : Int32) (v2 : Int32) (σ : am_H) (o : am_H), rc v1 v2 σ = some o → am_C X (gm_X7_tryCouple n) [.ref (am_ad X 7 0), .int v1, .int v2] σ (am_is none o)) (v1 : Int32) (v2 : Int32) (v3 : Int32) (σ : am_H) {o : am_H} (hf : f_X7_tryDriven rc v1 v2 v3 σ = some o) : am_C X (gm_X7_tryDriven n) [.ref (am_ad X 7 0), .int v1, .int v2, .int v3] σ (am_is none o) :=
  am_ofG rfl (Nat.le_of_ble_eq_true rfl) rfl (q_X7_tryDriven hX n rc hrc v1 v2 v3 σ hf ⟨rfl, rfl⟩)
theorem dX7_tryCouple_0 : decode cX7_tryCouple 0 = .ok (.iload_n 1, 1) := by decide +kernel
theorem dX7_tryCouple_1 : decode cX7_tryCouple 1 = .ok (.iconst 3, 1) := by decide +kernel
theorem dX7_tryCouple_2 : decode cX7_tryCouple 2 = .ok (.if_icmp .ge 13, 3) := by decide +kernel
theorem dX7_tryCouple_5 : decode cX7_tryCouple 5 = .ok (.iconst 2, 1) := by decide +kernel
theorem dX7_tryCouple_6 : decode cX7_tryCouple 6 = .ok (.iload_n 1, 1) := by decide +kernel
theorem dX7_tryCouple_7 : decode cX7_tryCouple 7 = .ok (.imul, 1) := by decide +kernel
theorem dX7_tryCouple_8 : decode cX7_tryCouple 8 = .ok (.aload_n 0, 1) := by decide +kernel
theorem dX7_tryCouple_9 : decode cX7_tryCouple 9 = .ok (.getfield 55, 3) := by decide +kernel
theorem dX7_tryCouple_12 : decode cX7_tryCouple 12 = .ok (.if_icmp .lt 13, 3) := by decide +kernel
theorem dX7_tryCouple_15 : decode cX7_tryCouple 15 = .ok (.aload_n 0, 1) := by decide +kernel
theorem dX7_tryCouple_16 : decode cX7_tryCouple 16 = .ok (.iload_n 2, 1) := by decide +kernel
theorem dX7_tryCouple_17 : decode cX7_tryCouple 17 = .ok (.putfield 86, 3) := by decide +kernel
theorem dX7_tryCouple_20 : decode cX7_tryCouple 20 = .ok (.aload_n 0, 1) := by decide +kernel
theorem dX7_tryCouple_21 : decode cX7_tryCouple 21 = .ok (.invokevirtual 89, 3) := by decide +kernel
theorem dX7_tryCouple_24 : decode cX7_tryCouple 24 = .ok (.return_, 1) := by decide +kernel
theorem dX7_tryCouple_25 : decode cX7_tryCouple 25 = .ok (.iconst 0, 1) := by decide +kernel
theorem dX7_tryCouple_26 : decode cX7_tryCouple 26 = .ok (.istore_n 3, 1) := by decide +kernel
theorem dX7_tryCouple_27 : decode cX7_tryCouple 27 = .ok (.iload_n 3, 1) := by decide +kernel
theorem dX7_tryCouple_28 : decode cX7_tryCouple 28 = .ok (.aload_n 0, 1) := by decide +kernel
theorem dX7_tryCouple_29 : decode cX7_tryCouple 29 = .ok (.getfield 34, 3) := by decide +kernel
theorem dX7_tryCouple_32 : decode cX7_tryCouple 32 = .ok (.getfield 38, 3) := by decide +kernel
theorem dX7_tryCouple_35 : decode cX7_tryCouple 35 = .ok (.if_icmp .ge 72, 3) := by decide +kernel
theorem dX7_tryCouple_38 : decode cX7_tryCouple 38 = .ok (.aload_n 0, 1) := by decide +kernel
theorem dX7_tryCouple_39 : decode cX7_tryCouple 39 = .ok (.getfield 9, 3) := by decide +kernel
theorem dX7_tryCouple_42 : decode cX7_tryCouple 42 = .ok (.iload_n 3, 1) := by decide +kernel
theorem dX7_tryCouple_43 : decode cX7_tryCouple 43 = .ok (.iaload, 1) := by decide +kernel
theorem dX7_tryCouple_44 : decode cX7_tryCouple 44 = .ok (.ifCond .le 57, 3) := by decide +kernel
theorem dX7_tryCouple_47 : decode cX7_tryCouple 47 = .ok (.aload_n 0, 1) := by decide +kernel
theorem dX7_tryCouple_48 : decode cX7_tryCouple 48 = .ok (.getfield 9, 3) := by decide +kernel
theorem dX7_tryCouple_51 : decode cX7_tryCouple 51 = .ok (.iload_n 3, 1) := by decide +kernel
theorem dX7_tryCouple_52 : decode cX7_tryCouple 52 = .ok (.dup2, 1) := by decide +kernel
theorem dX7_tryCouple_53 : decode cX7_tryCouple 53 = .ok (.iaload, 1) := by decide +kernel
theorem dX7_tryCouple_54 : decode cX7_tryCouple 54 = .ok (.iconst 1, 1) := by decide +kernel
theorem dX7_tryCouple_55 : decode cX7_tryCouple 55 = .ok (.isub, 1) := by decide +kernel
theorem dX7_tryCouple_56 : decode cX7_tryCouple 56 = .ok (.iastore, 1) := by decide +kernel
theorem dX7_tryCouple_57 : decode cX7_tryCouple 57 = .ok (.aload_n 0, 1) := by decide +kernel
theorem dX7_tryCouple_58 : decode cX7_tryCouple 58 = .ok (.getfield 15, 3) := by decide +kernel
theorem dX7_tryCouple_61 : decode cX7_tryCouple 61 = .ok (.iconst 2, 1) := by decide +kernel
theorem dX7_tryCouple_62 : decode cX7_tryCouple 62 = .ok (.iload_n 1, 1) := by decide +kernel
theorem dX7_tryCouple_63 : decode cX7_tryCouple 63 = .ok (.imul, 1) := by decide +kernel
theorem dX7_tryCouple_64 : decode cX7_tryCouple 64 = .ok (.aload_n 0, 1) := by decide +kernel
theorem dX7_tryCouple_65 : decode cX7_tryCouple 65 = .ok (.getfield 34, 3) := by decide +kernel
theorem dX7_tryCouple_68 : decode cX7_tryCouple 68 = .ok (.getfield 72, 3) := by decide +kernel
theorem dX7_tryCouple_71 : decode cX7_tryCouple 71 = .ok (.iload_n 3, 1) := by decide +kernel
theorem dX7_tryCouple_72 : decode cX7_tryCouple 72 = .ok (.iaload, 1) := by decide +kernel
theorem dX7_tryCouple_73 : decode cX7_tryCouple 73 = .ok (.iastore, 1) := by decide +kernel
theorem dX7_tryCouple_74 : decode cX7_tryCouple 74 = .ok (.aload_n 0, 1) := by decide +kernel
theorem dX7_tryCouple_75 : decode cX7_tryCouple 75 = .ok (.iload_n 1, 1) := by decide +kernel
theorem dX7_tryCouple_76 : decode cX7_tryCouple 76 = .ok (.iload_n 3, 1) := by decide +kernel
theorem dX7_tryCouple_77 : decode cX7_tryCouple 77 = .ok (.iload_n 2, 1) := by decide +kernel
theorem dX7_tryCouple_78 : decode cX7_tryCouple 78 = .ok (.aload_n 0, 1) := by decide +kernel
theorem dX7_tryCouple_79 : decode cX7_tryCouple 79 = .ok (.getfield 34, 3) := by decide +kernel
theorem dX7_tryCouple_82 : decode cX7_tryCouple 82 = .ok (.getfield 72, 3) := by decide +kernel
theorem dX7_tryCouple_85 : decode cX7_tryCouple 85 = .ok (.iload_n 3, 1) := by decide +kernel
theorem dX7_tryCouple_86 : decode cX7_tryCouple 86 = .ok (.iaload, 1) := by decide +kernel
theorem dX7_tryCouple_87 : decode cX7_tryCouple 87 = .ok (.iadd, 1) := by decide +kernel
theorem dX7_tryCouple_88 : decode cX7_tryCouple 88 = .ok (.invokevirtual 124, 3) := by decide +kernel
theorem dX7_tryCouple_91 : decode cX7_tryCouple 91 = .ok (.aload_n 0, 1) := by decide +kernel
theorem dX7_tryCouple_92 : decode cX7_tryCouple 92 = .ok (.getfield 9, 3) := by decide +kernel
theorem dX7_tryCouple_95 : decode cX7_tryCouple 95 = .ok (.iload_n 3, 1) := by decide +kernel
theorem dX7_tryCouple_96 : decode cX7_tryCouple 96 = .ok (.dup2, 1) := by decide +kernel
theorem dX7_tryCouple_97 : decode cX7_tryCouple 97 = .ok (.iaload, 1) := by decide +kernel
theorem dX7_tryCouple_98 : decode cX7_tryCouple 98 = .ok (.iconst 1, 1) := by decide +kernel
theorem dX7_tryCouple_99 : decode cX7_tryCouple 99 = .ok (.iadd, 1) := by decide +kernel
theorem dX7_tryCouple_100 : decode cX7_tryCouple 100 = .ok (.iastore, 1) := by decide +kernel
theorem dX7_tryCouple_101 : decode cX7_tryCouple 101 = .ok (.iinc 3 1, 3) := by decide +kernel
theorem dX7_tryCouple_104 : decode cX7_tryCouple 104 = .ok (.goto (-77), 3) := by decide +kernel
theorem dX7_tryCouple_107 : decode cX7_tryCouple 107 = .ok (.return_, 1) := by decide +kernel
noncomputable def f_X7_tryCouple_27 (rc : Int32 → Int32 → am_H → Option (am_H)) (v1 : Int32) (v2 : Int32) (v3 : Int32) (σ : am_H) : Option ((Int32 × am_H) ⊕ (am_H)) :=
  (am_rr 3 (σ.2.2 7 0 0)).bind fun a1 =>
  if v3 < (σ.1 3 a1 4) then
   ((am_ix 10 v3).bind fun j3 =>
   if 0 < (σ.1 803 0 j3) then
    ((am_ix 10 v3).bind fun j5 =>
    (am_ix 10 v3).bind fun j6 =>
    (some (am_wI σ 803 0 j6 ((σ.1 803 0 j5) - 1))).bind fun s7 =>
    (am_rr 3 (s7.2.2 7 0 0)).bind fun a8 =>
    (am_ix 10 v3).bind fun j9 =>
    (am_ix 6 (2 * v1)).bind fun j10 =>
    (some (am_wI s7 804 0 j10 (s7.1 403 a8 j9))).bind fun s11 =>
    (am_rr 3 (s11.2.2 7 0 0)).bind fun a12 =>
    (am_ix 10 v3).bind fun j13 =>
    (f_X7_tryDriven rc v1 v3 (v2 + (s11.1 403 a12 j13)) s11).bind fun p14 =>
    (am_ix 10 v3).bind fun j15 =>
    (am_ix 10 v3).bind fun j16 =>
    (some (am_wI p14 803 0 j16 ((p14.1 803 0 j15) + 1))).bind fun s17 =>
    some (.inl ((v3 + 1), s17)))
   else
   some (.inl ((v3 + 1), σ)))
  else
  some (.inr σ)
set_option maxRecDepth 100000 in
set_option maxHeartbeats 4000000 in
theorem q_X7_tryCouple_27 {X : am_X} (hX : am_wC X) {Q : Option Value → am_H → Prop} (n : Nat) (rc : Int32 → Int32 → am_H → Option (am_H)) (hrc : ∀ (v1 : Int32) (v2 : Int32) (σ : am_H) (o : am_H), rc v1 v2 σ = some o → am_C X (gm_X7_tryCouple n) [.ref (am_ad X 7 0), .int v1, .int v2] σ (am_is none o)) (v1 : Int32) (v2 : Int32) (v3 : Int32) (σ : am_H) {o : (Int32 × am_H) ⊕ (am_H)} (hf : f_X7_tryCouple_27 rc v1 v2 v3 σ = some o) (hk0 : ∀ s, o = .inl s → am_G X (gm_X7_tryCouple (n + 1)) Q 27 [(0, .ref (am_ad X 7 0)), (1, .int v1), (2, .int v2), (3, .int s.1)] [] s.2) (hk1 : ∀ t, o = .inr t → am_G X (gm_X7_tryCouple (n + 1)) Q 107 [] [] t) : am_G X (gm_X7_tryCouple (n + 1)) Q 27 [(0, .ref (am_ad X 7 0)), (1, .int v1), (2, .int v2), (3, .int v3)] [] σ := by
  unfold f_X7_tryCouple_27 at hf
  refine g_iload_n (pc := 27) 3 rfl dX7_tryCouple_27 rfl ?_
  refine g_aload_n (pc := 28) 0 rfl dX7_tryCouple_28 rfl ?_
  obtain ⟨a1, ha1, hf⟩ := am_bd hf
  obtain ⟨ha1, ga1⟩ := am_rr_in ha1
  refine g_getM (pc := 29) (in_7 hX.1 (by omega)) fr_X7_34 ha1 dX7_tryCouple_29 ?_
  refine g_getI (pc := 32) (in_3 hX.1 (by omega)) fr_X7_38 dX7_tryCouple_32 ?_
  refine bi_ge (pc := 35) 107 dX7_tryCouple_35 rfl (fun c2 => ?_) (fun c2 => ?_)
  · replace hf := am_ifT c2 hf
    refine g_aload_n (pc := 38) 0 rfl dX7_tryCouple_38 rfl ?_
    refine g_getC (pc := 39) (e := 0) (in_7 hX.1 (by omega)) fr_X7_9 dX7_tryCouple_39 rfl ?_
    refine g_iload_n (pc := 42) 3 rfl dX7_tryCouple_42 rfl ?_
    obtain ⟨j3, hj3, hf⟩ := am_bd hf
    have gj3 := am_ix_lt hj3
    refine g_aI (pc := 43) (in_803 hX.1 (by omega)) ak_803 hj3 dX7_tryCouple_43 ?_
    refine bz_le (pc := 44) 101 dX7_tryCouple_44 rfl (fun c4 => ?_) (fun c4 => ?_)
    · replace hf := am_ifT c4 hf
      refine g_aload_n (pc := 47) 0 rfl dX7_tryCouple_47 rfl ?_
      refine g_getC (pc := 48) (e := 0) (in_7 hX.1 (by omega)) fr_X7_9 dX7_tryCouple_48 rfl ?_
      refine g_iload_n (pc := 51) 3 rfl dX7_tryCouple_51 rfl ?_
      refine g_dup2_11 (pc := 52) dX7_tryCouple_52 rfl rfl ?_
      obtain ⟨j5, hj5, hf⟩ := am_bd hf
      have gj5 := am_ix_lt hj5
      refine g_aI (pc := 53) (in_803 hX.1 (by omega)) ak_803 hj5 dX7_tryCouple_53 ?_
      refine g_iconst (pc := 54) (v := 1) dX7_tryCouple_54 (by decide) ?_
      refine g_isub (pc := 55) dX7_tryCouple_55 ?_
      obtain ⟨j6, hj6, hf⟩ := am_bd hf
      have gj6 := am_ix_lt hj6
      obtain ⟨s7, hs7, hf⟩ := am_bd hf
      refine g_sI (pc := 56) (in_803 hX.1 (by omega)) ak_803 hj6 dX7_tryCouple_56 (Option.some.inj hs7) ?_
      refine g_aload_n (pc := 57) 0 rfl dX7_tryCouple_57 rfl ?_
      refine g_getC (pc := 58) (e := 0) (in_7 hX.1 (by omega)) fr_X7_15 dX7_tryCouple_58 rfl ?_
      refine g_iconst (pc := 61) (v := 2) dX7_tryCouple_61 (by decide) ?_
      refine g_iload_n (pc := 62) 1 rfl dX7_tryCouple_62 rfl ?_
      refine g_imul (pc := 63) dX7_tryCouple_63 ?_
      refine g_aload_n (pc := 64) 0 rfl dX7_tryCouple_64 rfl ?_
      obtain ⟨a8, ha8, hf⟩ := am_bd hf
      obtain ⟨ha8, ga8⟩ := am_rr_in ha8
      refine g_getM (pc := 65) (in_7 hX.1 (by omega)) fr_X7_34 ha8 dX7_tryCouple_65 ?_
      refine g_getC (pc := 68) (e := a8) (in_3 hX.1 (by omega)) fr_X7_72 dX7_tryCouple_68 rfl ?_
      refine g_iload_n (pc := 71) 3 rfl dX7_tryCouple_71 rfl ?_
      obtain ⟨j9, hj9, hf⟩ := am_bd hf
      have gj9 := am_ix_lt hj9
      refine g_aI (pc := 72) (in_403 hX.1 (by omega)) ak_403 hj9 dX7_tryCouple_72 ?_
      obtain ⟨j10, hj10, hf⟩ := am_bd hf
      have gj10 := am_ix_lt hj10
      obtain ⟨s11, hs11, hf⟩ := am_bd hf
      refine g_sI (pc := 73) (in_804 hX.1 (by omega)) ak_804 hj10 dX7_tryCouple_73 (Option.some.inj hs11) ?_
      refine g_aload_n (pc := 74) 0 rfl dX7_tryCouple_74 rfl ?_
      refine g_iload_n (pc := 75) 1 rfl dX7_tryCouple_75 rfl ?_
      refine g_iload_n (pc := 76) 3 rfl dX7_tryCouple_76 rfl ?_
      refine g_iload_n (pc := 77) 2 rfl dX7_tryCouple_77 rfl ?_
      refine g_aload_n (pc := 78) 0 rfl dX7_tryCouple_78 rfl ?_
      obtain ⟨a12, ha12, hf⟩ := am_bd hf
      obtain ⟨ha12, ga12⟩ := am_rr_in ha12
      refine g_getM (pc := 79) (in_7 hX.1 (by omega)) fr_X7_34 ha12 dX7_tryCouple_79 ?_
      refine g_getC (pc := 82) (e := a12) (in_3 hX.1 (by omega)) fr_X7_72 dX7_tryCouple_82 rfl ?_
      refine g_iload_n (pc := 85) 3 rfl dX7_tryCouple_85 rfl ?_
      obtain ⟨j13, hj13, hf⟩ := am_bd hf
      have gj13 := am_ix_lt hj13
      refine g_aI (pc := 86) (in_403 hX.1 (by omega)) ak_403 hj13 dX7_tryCouple_86 ?_
      refine g_iadd (pc := 87) dX7_tryCouple_87 ?_
      obtain ⟨p14, hp14, hf⟩ := am_bd hf
      refine g_cV (pc := 88) (As := [.int v1, .int v3, .int (v2 + (s11.1 403 a12 j13))]) (st := []) (st1 := []) (in_7 hX.1 (by omega)) kk_7 (mV_X7_tryDriven _) ln_X7_124 rfl (by first | exact Nat.le_of_ble_eq_true rfl | (show _ + 1 ≤ _; simp only []; omega)) (Nat.le_of_ble_eq_true rfl) (k_X7_tryDriven hX n rc hrc v1 v3 (v2 + (s11.1 403 a12 j13)) s11 hp14) dX7_tryCouple_88 rfl rfl ?_
      refine g_aload_n (pc := 91) 0 rfl dX7_tryCouple_91 rfl ?_
      refine g_getC (pc := 92) (e := 0) (in_7 hX.1 (by omega)) fr_X7_9 dX7_tryCouple_92 rfl ?_
      refine g_iload_n (pc := 95) 3 rfl dX7_tryCouple_95 rfl ?_
      refine g_dup2_11 (pc := 96) dX7_tryCouple_96 rfl rfl ?_
      obtain ⟨j15, hj15, hf⟩ := am_bd hf
      have gj15 := am_ix_lt hj15
      refine g_aI (pc := 97) (in_803 hX.1 (by omega)) ak_803 hj15 dX7_tryCouple_97 ?_
      refine g_iconst (pc := 98) (v := 1) dX7_tryCouple_98 (by decide) ?_
      refine g_iadd (pc := 99) dX7_tryCouple_99 ?_
      obtain ⟨j16, hj16, hf⟩ := am_bd hf
      have gj16 := am_ix_lt hj16
      obtain ⟨s17, hs17, hf⟩ := am_bd hf
      refine g_sI (pc := 100) (in_803 hX.1 (by omega)) ak_803 hj16 dX7_tryCouple_100 (Option.some.inj hs17) ?_
      refine g_iinc (pc := 101) (v := (v3 + 1)) 3 [(3, .int (v3 + 1)), (0, .ref (am_ad X 7 0)), (1, .int v1), (2, .int v2)] dX7_tryCouple_101 rfl rfl (Nat.le_of_ble_eq_true rfl) rfl ?_
      refine g_goto (pc := 104) 27 dX7_tryCouple_104 rfl ?_
      have hz := hk0 _ (Option.some.inj hf).symm
      exact am_sub [1, 2, 3, 0] rfl hz
    replace hf := am_ifF c4 hf
    refine g_iinc (pc := 101) (v := (v3 + 1)) 3 [(3, .int (v3 + 1)), (0, .ref (am_ad X 7 0)), (1, .int v1), (2, .int v2)] dX7_tryCouple_101 rfl rfl (Nat.le_of_ble_eq_true rfl) rfl ?_
    refine g_goto (pc := 104) 27 dX7_tryCouple_104 rfl ?_
    have hz := hk0 _ (Option.some.inj hf).symm
    exact am_sub [1, 2, 3, 0] rfl hz
  replace hf := am_ifF c2 hf
  have hz := hk1 _ (Option.some.inj hf).symm
  exact am_sub [] rfl hz
set_option maxRecDepth 100000 in
set_option maxHeartbeats 4000000 in
theorem l_X7_tryCouple_27 {X : am_X} (hX : am_wC X) {Q : Option Value → am_H → Prop} (n : Nat) (rc : Int32 → Int32 → am_H → Option (am_H)) (hrc : ∀ (v1 : Int32) (v2 : Int32) (σ : am_H) (o : am_H), rc v1 v2 σ = some o → am_C X (gm_X7_tryCouple n) [.ref (am_ad X 7 0), .int v1, .int v2] σ (am_is none o)) (v1 : Int32) (v2 : Int32) (σ : am_H) (s : Int32 × am_H) {o : am_H} (hf : am_loop (fun s => f_X7_tryCouple_27 rc v1 v2 s.1 s.2) s = some o) (hk1 : ∀ t, o = t → am_G X (gm_X7_tryCouple (n + 1)) Q 107 [] [] t) : am_G X (gm_X7_tryCouple (n + 1)) Q 27 [(0, .ref (am_ad X 7 0)), (1, .int v1), (2, .int v2), (3, .int s.1)] [] s.2 := by
  refine am_loop_ind (P := fun s => am_G X (gm_X7_tryCouple (n + 1)) Q 27 [(0, .ref (am_ad X 7 0)), (1, .int v1), (2, .int v2), (3, .int s.1)] [] s.2) (K := fun r => r = o) ?_ hf rfl
  intro s o1 hb hi hr
  exact q_X7_tryCouple_27 hX n rc hrc v1 v2 s.1  s.2 hb hi (fun t e => hk1 t (hr _ e).symm)
noncomputable def f_X7_tryCouple_15 (rc : Int32 → Int32 → am_H → Option (am_H)) (v2 : Int32) (σ : am_H) : Option (am_H) :=
  (some (am_wI σ 7 0 8 v2)).bind fun s1 =>
  (f_X7_keepTried s1).bind fun p2 =>
  some p2
set_option maxRecDepth 100000 in
set_option maxHeartbeats 4000000 in
theorem q_X7_tryCouple_15 {X : am_X} (hX : am_wC X) {Q : Option Value → am_H → Prop} (n : Nat) (rc : Int32 → Int32 → am_H → Option (am_H)) (hrc : ∀ (v1 : Int32) (v2 : Int32) (σ : am_H) (o : am_H), rc v1 v2 σ = some o → am_C X (gm_X7_tryCouple n) [.ref (am_ad X 7 0), .int v1, .int v2] σ (am_is none o)) (v2 : Int32) (σ : am_H) {o : am_H} (hf : f_X7_tryCouple_15 rc v2 σ = some o) (hk : Q none o) : am_G X (gm_X7_tryCouple (n + 1)) Q 15 [(0, .ref (am_ad X 7 0)), (2, .int v2)] [] σ := by
  unfold f_X7_tryCouple_15 at hf
  refine g_aload_n (pc := 15) 0 rfl dX7_tryCouple_15 rfl ?_
  refine g_iload_n (pc := 16) 1 rfl dX7_tryCouple_16 rfl ?_
  obtain ⟨s1, hs1, hf⟩ := am_bd hf
  refine g_setI (pc := 17) (in_7 hX.1 (by omega)) fr_X7_86 dX7_tryCouple_17 (Option.some.inj hs1) ?_
  refine g_aload_n (pc := 20) 0 rfl dX7_tryCouple_20 rfl ?_
  obtain ⟨p2, hp2, hf⟩ := am_bd hf
  refine g_cV (pc := 21) (As := []) (st := []) (st1 := []) (in_7 hX.1 (by omega)) kk_7 mV_X7_keepTried ln_X7_89 rfl (by first | exact Nat.le_of_ble_eq_true rfl | (show _ + 1 ≤ _; simp only []; omega)) (Nat.le_of_ble_eq_true rfl) (k_X7_keepTried hX s1 hp2) dX7_tryCouple_21 rfl rfl ?_
  have ho := Option.some.inj hf
  subst ho
  exact g_vreturn (pc := 24) (st := []) rfl dX7_tryCouple_24 hk
noncomputable def f_X7_tryCouple_0 (rc : Int32 → Int32 → am_H → Option (am_H)) (v1 : Int32) (v2 : Int32) (σ : am_H) : Option (am_H) :=
  if v1 < 3 then
   (if (2 * v1) < (σ.1 7 0 2) then
    ((am_loop (fun s => f_X7_tryCouple_27 rc v1 v2 s.1 s.2) (0, σ)).bind fun w3 =>
    some w3)
   else
   f_X7_tryCouple_15 rc v2 σ)
  else
  f_X7_tryCouple_15 rc v2 σ
set_option maxRecDepth 100000 in
set_option maxHeartbeats 4000000 in
theorem q_X7_tryCouple_0 {X : am_X} (hX : am_wC X) {Q : Option Value → am_H → Prop} (n : Nat) (rc : Int32 → Int32 → am_H → Option (am_H)) (hrc : ∀ (v1 : Int32) (v2 : Int32) (σ : am_H) (o : am_H), rc v1 v2 σ = some o → am_C X (gm_X7_tryCouple n) [.ref (am_ad X 7 0), .int v1, .int v2] σ (am_is none o)) (v1 : Int32) (v2 : Int32) (σ : am_H) {o : am_H} (hf : f_X7_tryCouple_0 rc v1 v2 σ = some o) (hk : Q none o) : am_G X (gm_X7_tryCouple (n + 1)) Q 0 [(0, .ref (am_ad X 7 0)), (1, .int v1), (2, .int v2)] [] σ := by
  unfold f_X7_tryCouple_0 at hf
  refine g_iload_n (pc := 0) 1 rfl dX7_tryCouple_0 rfl ?_
  refine g_iconst (pc := 1) (v := 3) dX7_tryCouple_1 (by decide) ?_
  refine bi_ge (pc := 2) 15 dX7_tryCouple_2 rfl (fun c1 => ?_) (fun c1 => ?_)
  · replace hf := am_ifT c1 hf
    refine g_iconst (pc := 5) (v := 2) dX7_tryCouple_5 (by decide) ?_
    refine g_iload_n (pc := 6) 1 rfl dX7_tryCouple_6 rfl ?_
    refine g_imul (pc := 7) dX7_tryCouple_7 ?_
    refine g_aload_n (pc := 8) 0 rfl dX7_tryCouple_8 rfl ?_
    refine g_getI (pc := 9) (in_7 hX.1 (by omega)) fr_X7_55 dX7_tryCouple_9 ?_
    refine bi_lt (pc := 12) 25 dX7_tryCouple_12 rfl (fun c2 => ?_) (fun c2 => ?_)
    · replace hf := am_ifT c2 hf
      refine g_iconst (pc := 25) (v := 0) dX7_tryCouple_25 (by decide) ?_
      refine g_istore_n (pc := 26) [(3, .int 0), (0, .ref (am_ad X 7 0)), (1, .int v1), (2, .int v2)] dX7_tryCouple_26 rfl (Nat.le_of_ble_eq_true rfl) rfl ?_
      obtain ⟨w3, hw3, hf⟩ := am_bd hf
      refine am_sub [1, 2, 3, 0] rfl (l_X7_tryCouple_27 hX n rc hrc v1 v2  σ (0, σ) hw3 ?_)
      intro t e
      subst e
      have ho := Option.some.inj hf
      subst ho
      exact g_vreturn (pc := 107) (st := []) rfl dX7_tryCouple_107 hk
    replace hf := am_ifF c2 hf
    exact am_sub [0, 2] rfl (q_X7_tryCouple_15 hX n rc hrc v2 σ hf hk)
  replace hf := am_ifF c1 hf
  exact am_sub [0, 2] rfl (q_X7_tryCouple_15 hX n rc hrc v2 σ hf hk)
noncomputable def f_X7_tryCouple : Nat → Int32 → Int32 → am_H → Option (am_H)
  | 0 => fun _ _ _ => none
  | n + 1 => fun v1 v2 σ => f_X7_tryCouple_0 (f_X7_tryCouple n) v1 v2 σ
theorem k_X7_tryCouple {X : am_X} (hX : am_wC X) (n : Nat) : ∀ (v1 : Int32) (v2 : Int32) (σ : am_H) {o : am_H}, f_X7_tryCouple n v1 v2 σ = some o → am_C X (gm_X7_tryCouple n) [.ref (am_ad X 7 0), .int v1, .int v2] σ (am_is none o) := by
  induction n with
  | zero => intro v1 v2 σ o hf; exact absurd hf (by simp [f_X7_tryCouple])
  | succ n ih =>
    intro v1 v2 σ o hf
    exact am_ofG rfl (Nat.le_of_ble_eq_true rfl) rfl (q_X7_tryCouple_0 hX n (f_X7_tryCouple n) (fun v1 v2 σ o h => ih v1 v2 σ h) v1 v2 σ hf ⟨rfl, rfl⟩)
theorem dX7_findShared_0 : decode cX7_findShared 0 = .ok (.aload_n 0, 1) := by decide +kernel
theorem dX7_findShared_1 : decode cX7_findShared 1 = .ok (.aload_n 1, 1) := by decide +kernel
theorem dX7_findShared_2 : decode cX7_findShared 2 = .ok (.invokevirtual 47, 3) := by decide +kernel
theorem dX7_findShared_5 : decode cX7_findShared 5 = .ok (.pop, 1) := by decide +kernel
theorem dX7_findShared_6 : decode cX7_findShared 6 = .ok (.aload_n 0, 1) := by decide +kernel
theorem dX7_findShared_7 : decode cX7_findShared 7 = .ok (.iconst 0, 1) := by decide +kernel
theorem dX7_findShared_8 : decode cX7_findShared 8 = .ok (.putfield 55, 3) := by decide +kernel
theorem dX7_findShared_11 : decode cX7_findShared 11 = .ok (.iconst 0, 1) := by decide +kernel
theorem dX7_findShared_12 : decode cX7_findShared 12 = .ok (.istore 5, 2) := by decide +kernel
theorem dX7_findShared_14 : decode cX7_findShared 14 = .ok (.iload 5, 2) := by decide +kernel
theorem dX7_findShared_16 : decode cX7_findShared 16 = .ok (.aload_n 1, 1) := by decide +kernel
theorem dX7_findShared_17 : decode cX7_findShared 17 = .ok (.getfield 92, 3) := by decide +kernel
theorem dX7_findShared_20 : decode cX7_findShared 20 = .ok (.if_icmp .ge 51, 3) := by decide +kernel
theorem dX7_findShared_23 : decode cX7_findShared 23 = .ok (.iload_n 2, 1) := by decide +kernel
theorem dX7_findShared_24 : decode cX7_findShared 24 = .ok (.iload 5, 2) := by decide +kernel
theorem dX7_findShared_26 : decode cX7_findShared 26 = .ok (.ishr, 1) := by decide +kernel
theorem dX7_findShared_27 : decode cX7_findShared 27 = .ok (.iconst 1, 1) := by decide +kernel
theorem dX7_findShared_28 : decode cX7_findShared 28 = .ok (.iand, 1) := by decide +kernel
theorem dX7_findShared_29 : decode cX7_findShared 29 = .ok (.ifCond .eq 36, 3) := by decide +kernel
theorem dX7_findShared_32 : decode cX7_findShared 32 = .ok (.aload_n 0, 1) := by decide +kernel
theorem dX7_findShared_33 : decode cX7_findShared 33 = .ok (.getfield 55, 3) := by decide +kernel
theorem dX7_findShared_36 : decode cX7_findShared 36 = .ok (.bipush 6, 2) := by decide +kernel
theorem dX7_findShared_38 : decode cX7_findShared 38 = .ok (.if_icmp .ge 27, 3) := by decide +kernel
theorem dX7_findShared_41 : decode cX7_findShared 41 = .ok (.aload_n 0, 1) := by decide +kernel
theorem dX7_findShared_42 : decode cX7_findShared 42 = .ok (.aload_n 1, 1) := by decide +kernel
theorem dX7_findShared_43 : decode cX7_findShared 43 = .ok (.getfield 95, 3) := by decide +kernel
theorem dX7_findShared_46 : decode cX7_findShared 46 = .ok (.iload 5, 2) := by decide +kernel
theorem dX7_findShared_48 : decode cX7_findShared 48 = .ok (.aaload, 1) := by decide +kernel
theorem dX7_findShared_49 : decode cX7_findShared 49 = .ok (.iload_n 3, 1) := by decide +kernel
theorem dX7_findShared_50 : decode cX7_findShared 50 = .ok (.iload 4, 2) := by decide +kernel
theorem dX7_findShared_52 : decode cX7_findShared 52 = .ok (.invokevirtual 99, 3) := by decide +kernel
theorem dX7_findShared_55 : decode cX7_findShared 55 = .ok (.aload_n 0, 1) := by decide +kernel
theorem dX7_findShared_56 : decode cX7_findShared 56 = .ok (.dup, 1) := by decide +kernel
theorem dX7_findShared_57 : decode cX7_findShared 57 = .ok (.getfield 55, 3) := by decide +kernel
theorem dX7_findShared_60 : decode cX7_findShared 60 = .ok (.iconst 2, 1) := by decide +kernel
theorem dX7_findShared_61 : decode cX7_findShared 61 = .ok (.iadd, 1) := by decide +kernel
theorem dX7_findShared_62 : decode cX7_findShared 62 = .ok (.putfield 55, 3) := by decide +kernel
theorem dX7_findShared_65 : decode cX7_findShared 65 = .ok (.iinc 5 1, 3) := by decide +kernel
theorem dX7_findShared_68 : decode cX7_findShared 68 = .ok (.goto (-54), 3) := by decide +kernel
theorem dX7_findShared_71 : decode cX7_findShared 71 = .ok (.aload_n 0, 1) := by decide +kernel
theorem dX7_findShared_72 : decode cX7_findShared 72 = .ok (.ldc 103, 2) := by decide +kernel
theorem dX7_findShared_74 : decode cX7_findShared 74 = .ok (.putfield 86, 3) := by decide +kernel
theorem dX7_findShared_77 : decode cX7_findShared 77 = .ok (.aload_n 0, 1) := by decide +kernel
theorem dX7_findShared_78 : decode cX7_findShared 78 = .ok (.invokevirtual 104, 3) := by decide +kernel
theorem dX7_findShared_81 : decode cX7_findShared 81 = .ok (.aload_n 0, 1) := by decide +kernel
theorem dX7_findShared_82 : decode cX7_findShared 82 = .ok (.iconst 0, 1) := by decide +kernel
theorem dX7_findShared_83 : decode cX7_findShared 83 = .ok (.iconst 0, 1) := by decide +kernel
theorem dX7_findShared_84 : decode cX7_findShared 84 = .ok (.invokevirtual 107, 3) := by decide +kernel
theorem dX7_findShared_87 : decode cX7_findShared 87 = .ok (.aload_n 0, 1) := by decide +kernel
theorem dX7_findShared_88 : decode cX7_findShared 88 = .ok (.getfield 86, 3) := by decide +kernel
theorem dX7_findShared_91 : decode cX7_findShared 91 = .ok (.ldc 103, 2) := by decide +kernel
theorem dX7_findShared_93 : decode cX7_findShared 93 = .ok (.if_icmp .ne 5, 3) := by decide +kernel
theorem dX7_findShared_96 : decode cX7_findShared 96 = .ok (.iconst 0, 1) := by decide +kernel
theorem dX7_findShared_97 : decode cX7_findShared 97 = .ok (.ireturn, 1) := by decide +kernel
theorem dX7_findShared_98 : decode cX7_findShared 98 = .ok (.iconst 0, 1) := by decide +kernel
theorem dX7_findShared_99 : decode cX7_findShared 99 = .ok (.istore 5, 2) := by decide +kernel
theorem dX7_findShared_101 : decode cX7_findShared 101 = .ok (.iload 5, 2) := by decide +kernel
theorem dX7_findShared_103 : decode cX7_findShared 103 = .ok (.aload_n 0, 1) := by decide +kernel
theorem dX7_findShared_104 : decode cX7_findShared 104 = .ok (.getfield 55, 3) := by decide +kernel
theorem dX7_findShared_107 : decode cX7_findShared 107 = .ok (.if_icmp .ge 23, 3) := by decide +kernel
theorem dX7_findShared_110 : decode cX7_findShared 110 = .ok (.aload_n 0, 1) := by decide +kernel
theorem dX7_findShared_111 : decode cX7_findShared 111 = .ok (.getfield 31, 3) := by decide +kernel
theorem dX7_findShared_114 : decode cX7_findShared 114 = .ok (.iload 5, 2) := by decide +kernel
theorem dX7_findShared_116 : decode cX7_findShared 116 = .ok (.aload_n 0, 1) := by decide +kernel
theorem dX7_findShared_117 : decode cX7_findShared 117 = .ok (.getfield 18, 3) := by decide +kernel
theorem dX7_findShared_120 : decode cX7_findShared 120 = .ok (.iload 5, 2) := by decide +kernel
theorem dX7_findShared_122 : decode cX7_findShared 122 = .ok (.iaload, 1) := by decide +kernel
theorem dX7_findShared_123 : decode cX7_findShared 123 = .ok (.iastore, 1) := by decide +kernel
theorem dX7_findShared_124 : decode cX7_findShared 124 = .ok (.iinc 5 1, 3) := by decide +kernel
theorem dX7_findShared_127 : decode cX7_findShared 127 = .ok (.goto (-26), 3) := by decide +kernel
theorem dX7_findShared_130 : decode cX7_findShared 130 = .ok (.aload_n 0, 1) := by decide +kernel
theorem dX7_findShared_131 : decode cX7_findShared 131 = .ok (.aload_n 0, 1) := by decide +kernel
theorem dX7_findShared_132 : decode cX7_findShared 132 = .ok (.getfield 55, 3) := by decide +kernel
theorem dX7_findShared_135 : decode cX7_findShared 135 = .ok (.putfield 111, 3) := by decide +kernel
theorem dX7_findShared_138 : decode cX7_findShared 138 = .ok (.iconst 1, 1) := by decide +kernel
theorem dX7_findShared_139 : decode cX7_findShared 139 = .ok (.ireturn, 1) := by decide +kernel
noncomputable def f_X7_findShared_14 (r1 : Nat) (v2 : Int32) (v3 : Int32) (v4 : Int32) (v5 : Int32) (σ : am_H) : Option ((Int32 × am_H) ⊕ (am_H)) :=
  if v5 < (σ.1 3 r1 1) then
   (if ((v2 >>> (v5 &&& 31)) &&& 1) = 0 then
    (some (.inl ((v5 + 1), σ)))
   else
   if (σ.1 7 0 2) < 6 then
    ((am_ix 6 v5).bind fun j4 =>
    (f_X7_noteFitting (6 * r1 + j4) v3 v4 σ).bind fun p5 =>
    (some (am_wI p5 7 0 2 ((p5.1 7 0 2) + 2))).bind fun s6 =>
    some (.inl ((v5 + 1), s6)))
   else
   some (.inl ((v5 + 1), σ)))
  else
  some (.inr σ)
set_option maxRecDepth 100000 in
set_option maxHeartbeats 4000000 in
theorem q_X7_findShared_14 {X : am_X} (hX : am_wC X) {Q : Option Value → am_H → Prop} (r1 : Nat) (v2 : Int32) (v3 : Int32) (v4 : Int32) (v5 : Int32) (hr1 : r1 < 3) (σ : am_H) {o : (Int32 × am_H) ⊕ (am_H)} (hf : f_X7_findShared_14 r1 v2 v3 v4 v5 σ = some o) (hk0 : ∀ s, o = .inl s → am_G X gm_X7_findShared Q 14 [(0, .ref (am_ad X 7 0)), (1, .ref (am_ad X 3 r1)), (2, .int v2), (3, .int v3), (4, .int v4), (5, .int s.1)] [] s.2) (hk1 : ∀ t, o = .inr t → am_G X gm_X7_findShared Q 71 [(0, .ref (am_ad X 7 0))] [] t) : am_G X gm_X7_findShared Q 14 [(0, .ref (am_ad X 7 0)), (1, .ref (am_ad X 3 r1)), (2, .int v2), (3, .int v3), (4, .int v4), (5, .int v5)] [] σ := by
  unfold f_X7_findShared_14 at hf
  refine g_iload (pc := 14) 5 rfl dX7_findShared_14 ?_
  refine g_aload_n (pc := 16) 1 rfl dX7_findShared_16 rfl ?_
  refine g_getI (pc := 17) (in_3 hX.1 (by omega)) fr_X7_92 dX7_findShared_17 ?_
  refine bi_ge (pc := 20) 71 dX7_findShared_20 rfl (fun c1 => ?_) (fun c1 => ?_)
  · replace hf := am_ifT c1 hf
    refine g_iload_n (pc := 23) 2 rfl dX7_findShared_23 rfl ?_
    refine g_iload (pc := 24) 5 rfl dX7_findShared_24 ?_
    refine g_ishr (pc := 26) dX7_findShared_26 ?_
    refine g_iconst (pc := 27) (v := 1) dX7_findShared_27 (by decide) ?_
    refine g_iand (pc := 28) dX7_findShared_28 ?_
    refine bz_eq (pc := 29) 65 dX7_findShared_29 rfl (fun c2 => ?_) (fun c2 => ?_)
    · replace hf := am_ifT c2 hf
      refine g_iinc (pc := 65) (v := (v5 + 1)) 5 [(5, .int (v5 + 1)), (0, .ref (am_ad X 7 0)), (1, .ref (am_ad X 3 r1)), (2, .int v2), (3, .int v3), (4, .int v4)] dX7_findShared_65 rfl rfl (Nat.le_of_ble_eq_true rfl) rfl ?_
      refine g_goto (pc := 68) 14 dX7_findShared_68 rfl ?_
      have hz := hk0 _ (Option.some.inj hf).symm
      exact am_sub [1, 2, 3, 4, 5, 0] rfl hz
    replace hf := am_ifF c2 hf
    refine g_aload_n (pc := 32) 0 rfl dX7_findShared_32 rfl ?_
    refine g_getI (pc := 33) (in_7 hX.1 (by omega)) fr_X7_55 dX7_findShared_33 ?_
    refine g_bipush (pc := 36) (v := 6) dX7_findShared_36 (by decide) ?_
    refine bi_ge (pc := 38) 65 dX7_findShared_38 rfl (fun c3 => ?_) (fun c3 => ?_)
    · replace hf := am_ifT c3 hf
      refine g_aload_n (pc := 41) 0 rfl dX7_findShared_41 rfl ?_
      refine g_aload_n (pc := 42) 1 rfl dX7_findShared_42 rfl ?_
      refine g_getC (pc := 43) (e := r1) (in_3 hX.1 (by omega)) fr_X7_95 dX7_findShared_43 rfl ?_
      refine g_iload (pc := 46) 5 rfl dX7_findShared_46 ?_
      obtain ⟨j4, hj4, hf⟩ := am_bd hf
      have gj4 := am_ix_lt hj4
      refine g_aC (pc := 48) (e := (6 * r1 + j4)) (in_400 hX.1 (by omega)) ak_400 hj4 rfl dX7_findShared_48 ?_
      refine g_iload_n (pc := 49) 3 rfl dX7_findShared_49 rfl ?_
      refine g_iload (pc := 50) 4 rfl dX7_findShared_50 ?_
      obtain ⟨p5, hp5, hf⟩ := am_bd hf
      refine g_cV (pc := 52) (As := [.ref (am_ad X 10 (6 * r1 + j4)), .int v3, .int v4]) (st := []) (st1 := []) (in_7 hX.1 (by omega)) kk_7 mV_X7_noteFitting ln_X7_99 rfl (Nat.le_of_ble_eq_true rfl) (Nat.le_of_ble_eq_true rfl) (k_X7_noteFitting hX (6 * r1 + j4) v3 v4 (by omega) σ hp5) dX7_findShared_52 rfl rfl ?_
      refine g_aload_n (pc := 55) 0 rfl dX7_findShared_55 rfl ?_
      refine g_dup (pc := 56) dX7_findShared_56 rfl ?_
      refine g_getI (pc := 57) (in_7 hX.1 (by omega)) fr_X7_55 dX7_findShared_57 ?_
      refine g_iconst (pc := 60) (v := 2) dX7_findShared_60 (by decide) ?_
      refine g_iadd (pc := 61) dX7_findShared_61 ?_
      obtain ⟨s6, hs6, hf⟩ := am_bd hf
      refine g_setI (pc := 62) (in_7 hX.1 (by omega)) fr_X7_55 dX7_findShared_62 (Option.some.inj hs6) ?_
      refine g_iinc (pc := 65) (v := (v5 + 1)) 5 [(5, .int (v5 + 1)), (0, .ref (am_ad X 7 0)), (1, .ref (am_ad X 3 r1)), (2, .int v2), (3, .int v3), (4, .int v4)] dX7_findShared_65 rfl rfl (Nat.le_of_ble_eq_true rfl) rfl ?_
      refine g_goto (pc := 68) 14 dX7_findShared_68 rfl ?_
      have hz := hk0 _ (Option.some.inj hf).symm
      exact am_sub [1, 2, 3, 4, 5, 0] rfl hz
    replace hf := am_ifF c3 hf
    refine g_iinc (pc := 65) (v := (v5 + 1)) 5 [(5, .int (v5 + 1)), (0, .ref (am_ad X 7 0)), (1, .ref (am_ad X 3 r1)), (2, .int v2), (3, .int v3), (4, .int v4)] dX7_findShared_65 rfl rfl (Nat.le_of_ble_eq_true rfl) rfl ?_
    refine g_goto (pc := 68) 14 dX7_findShared_68 rfl ?_
    have hz := hk0 _ (Option.some.inj hf).symm
    exact am_sub [1, 2, 3, 4, 5, 0] rfl hz
  replace hf := am_ifF c1 hf
  have hz := hk1 _ (Option.some.inj hf).symm
  exact am_sub [0] rfl hz
set_option maxRecDepth 100000 in
set_option maxHeartbeats 4000000 in
theorem l_X7_findShared_14 {X : am_X} (hX : am_wC X) {Q : Option Value → am_H → Prop} (r1 : Nat) (v2 : Int32) (v3 : Int32) (v4 : Int32) (hr1 : r1 < 3) (σ : am_H) (s : Int32 × am_H) {o : am_H} (hf : am_loop (fun s => f_X7_findShared_14 r1 v2 v3 v4 s.1 s.2) s = some o) (hk1 : ∀ t, o = t → am_G X gm_X7_findShared Q 71 [(0, .ref (am_ad X 7 0))] [] t) : am_G X gm_X7_findShared Q 14 [(0, .ref (am_ad X 7 0)), (1, .ref (am_ad X 3 r1)), (2, .int v2), (3, .int v3), (4, .int v4), (5, .int s.1)] [] s.2 := by
  refine am_loop_ind (P := fun s => am_G X gm_X7_findShared Q 14 [(0, .ref (am_ad X 7 0)), (1, .ref (am_ad X 3 r1)), (2, .int v2), (3, .int v3), (4, .int v4), (5, .int s.1)] [] s.2) (K := fun r => r = o) ?_ hf rfl
  intro s o1 hb hi hr
  exact q_X7_findShared_14 hX r1 v2 v3 v4 s.1  hr1 s.2 hb hi (fun t e => hk1 t (hr _ e).symm)
noncomputable def f_X7_findShared_101 (v5 : Int32) (σ : am_H) : Option ((Int32 × am_H) ⊕ (am_H)) :=
  if v5 < (σ.1 7 0 2) then
   ((am_ix 6 v5).bind fun j2 =>
   (am_ix 6 v5).bind fun j3 =>
   (some (am_wI σ 813 0 j3 (σ.1 805 0 j2))).bind fun s4 =>
   some (.inl ((v5 + 1), s4)))
  else
  some (.inr σ)
set_option maxRecDepth 100000 in
set_option maxHeartbeats 4000000 in
theorem q_X7_findShared_101 {X : am_X} (hX : am_wC X) {Q : Option Value → am_H → Prop} (v5 : Int32) (σ : am_H) {o : (Int32 × am_H) ⊕ (am_H)} (hf : f_X7_findShared_101 v5 σ = some o) (hk0 : ∀ s, o = .inl s → am_G X gm_X7_findShared Q 101 [(0, .ref (am_ad X 7 0)), (5, .int s.1)] [] s.2) (hk1 : ∀ t, o = .inr t → am_G X gm_X7_findShared Q 130 [(0, .ref (am_ad X 7 0))] [] t) : am_G X gm_X7_findShared Q 101 [(0, .ref (am_ad X 7 0)), (5, .int v5)] [] σ := by
  unfold f_X7_findShared_101 at hf
  refine g_iload (pc := 101) 1 rfl dX7_findShared_101 ?_
  refine g_aload_n (pc := 103) 0 rfl dX7_findShared_103 rfl ?_
  refine g_getI (pc := 104) (in_7 hX.1 (by omega)) fr_X7_55 dX7_findShared_104 ?_
  refine bi_ge (pc := 107) 130 dX7_findShared_107 rfl (fun c1 => ?_) (fun c1 => ?_)
  · replace hf := am_ifT c1 hf
    refine g_aload_n (pc := 110) 0 rfl dX7_findShared_110 rfl ?_
    refine g_getC (pc := 111) (e := 0) (in_7 hX.1 (by omega)) fr_X7_31 dX7_findShared_111 rfl ?_
    refine g_iload (pc := 114) 1 rfl dX7_findShared_114 ?_
    refine g_aload_n (pc := 116) 0 rfl dX7_findShared_116 rfl ?_
    refine g_getC (pc := 117) (e := 0) (in_7 hX.1 (by omega)) fr_X7_18 dX7_findShared_117 rfl ?_
    refine g_iload (pc := 120) 1 rfl dX7_findShared_120 ?_
    obtain ⟨j2, hj2, hf⟩ := am_bd hf
    have gj2 := am_ix_lt hj2
    refine g_aI (pc := 122) (in_805 hX.1 (by omega)) ak_805 hj2 dX7_findShared_122 ?_
    obtain ⟨j3, hj3, hf⟩ := am_bd hf
    have gj3 := am_ix_lt hj3
    obtain ⟨s4, hs4, hf⟩ := am_bd hf
    refine g_sI (pc := 123) (in_813 hX.1 (by omega)) ak_813 hj3 dX7_findShared_123 (Option.some.inj hs4) ?_
    refine g_iinc (pc := 124) (v := (v5 + 1)) 1 [(5, .int (v5 + 1)), (0, .ref (am_ad X 7 0))] dX7_findShared_124 rfl rfl (Nat.le_of_ble_eq_true rfl) rfl ?_
    refine g_goto (pc := 127) 101 dX7_findShared_127 rfl ?_
    have hz := hk0 _ (Option.some.inj hf).symm
    exact am_sub [1, 0] rfl hz
  replace hf := am_ifF c1 hf
  have hz := hk1 _ (Option.some.inj hf).symm
  exact am_sub [0] rfl hz
set_option maxRecDepth 100000 in
set_option maxHeartbeats 4000000 in
theorem l_X7_findShared_101 {X : am_X} (hX : am_wC X) {Q : Option Value → am_H → Prop} (σ : am_H) (s : Int32 × am_H) {o : am_H} (hf : am_loop (fun s => f_X7_findShared_101 s.1 s.2) s = some o) (hk1 : ∀ t, o = t → am_G X gm_X7_findShared Q 130 [(0, .ref (am_ad X 7 0))] [] t) : am_G X gm_X7_findShared Q 101 [(0, .ref (am_ad X 7 0)), (5, .int s.1)] [] s.2 := by
  refine am_loop_ind (P := fun s => am_G X gm_X7_findShared Q 101 [(0, .ref (am_ad X 7 0)), (5, .int s.1)] [] s.2) (K := fun r => r = o) ?_ hf rfl
  intro s o1 hb hi hr
  exact q_X7_findShared_101 hX s.1  s.2 hb hi (fun t e => hk1 t (hr _ e).symm)
noncomputable def f_X7_findShared (r1 : Nat) (v2 : Int32) (v3 : Int32) (v4 : Int32) (σ : am_H) : Option (Bool × am_H) :=
  (f_X7_emptiedBox r1 σ).bind fun p1 =>
  (some (am_wI p1.2 7 0 2 0)).bind fun s2 =>
  (am_loop (fun s => f_X7_findShared_14 r1 v2 v3 v4 s.1 s.2) (0, s2)).bind fun w3 =>
  (some (am_wI w3 7 0 8 1000000)).bind fun s4 =>
  (f_X7_sumLeast s4).bind fun p5 =>
  (f_X7_tryCouple 8 0 0 p5).bind fun p6 =>
  if (p6.1 7 0 8) = 1000000 then
   (some (false, p6))
  else
  (am_loop (fun s => f_X7_findShared_101 s.1 s.2) (0, p6)).bind fun w8 =>
  (some (am_wI w8 7 0 14 (w8.1 7 0 2))).bind fun s9 =>
  some (true, s9)
set_option maxRecDepth 100000 in
set_option maxHeartbeats 4000000 in
theorem q_X7_findShared {X : am_X} (hX : am_wC X) {Q : Option Value → am_H → Prop} (r1 : Nat) (v2 : Int32) (v3 : Int32) (v4 : Int32) (hr1 : r1 < 3) (σ : am_H) {o : Bool × am_H} (hf : f_X7_findShared r1 v2 v3 v4 σ = some o) (hk : Q (some (.int (am_b o.1))) o.2) : am_G X gm_X7_findShared Q 0 [(0, .ref (am_ad X 7 0)), (1, .ref (am_ad X 3 r1)), (2, .int v2), (3, .int v3), (4, .int v4)] [] σ := by
  unfold f_X7_findShared at hf
  refine g_aload_n (pc := 0) 0 rfl dX7_findShared_0 rfl ?_
  refine g_aload_n (pc := 1) 1 rfl dX7_findShared_1 rfl ?_
  obtain ⟨p1, hp1, hf⟩ := am_bd hf
  refine g_cV (pc := 2) (As := [.ref (am_ad X 3 r1)]) (st := []) (st1 := [.int p1.1]) (in_7 hX.1 (by omega)) kk_7 mV_X7_emptiedBox ln_X7_47 rfl (Nat.le_of_ble_eq_true rfl) (Nat.le_of_ble_eq_true rfl) (k_X7_emptiedBox hX r1 (by omega) σ hp1) dX7_findShared_2 rfl rfl ?_
  refine g_pop (pc := 5) dX7_findShared_5 rfl ?_
  refine g_aload_n (pc := 6) 0 rfl dX7_findShared_6 rfl ?_
  refine g_iconst (pc := 7) (v := 0) dX7_findShared_7 (by decide) ?_
  obtain ⟨s2, hs2, hf⟩ := am_bd hf
  refine g_setI (pc := 8) (in_7 hX.1 (by omega)) fr_X7_55 dX7_findShared_8 (Option.some.inj hs2) ?_
  refine g_iconst (pc := 11) (v := 0) dX7_findShared_11 (by decide) ?_
  refine g_istore (pc := 12) [(5, .int 0), (0, .ref (am_ad X 7 0)), (1, .ref (am_ad X 3 r1)), (2, .int v2), (3, .int v3), (4, .int v4)] dX7_findShared_12 (Nat.le_of_ble_eq_true rfl) rfl ?_
  obtain ⟨w3, hw3, hf⟩ := am_bd hf
  refine am_sub [1, 2, 3, 4, 5, 0] rfl (l_X7_findShared_14 hX r1 v2 v3 v4 (by omega) s2 (0, s2) hw3 ?_)
  intro t e
  subst e
  refine g_aload_n (pc := 71) 0 rfl dX7_findShared_71 rfl ?_
  refine g_ldc (pc := 72) (v := 1000000) (tb_5 (List.mem_of_getElem? (i := 45) (by decide +kernel))) dX7_findShared_72 ?_
  obtain ⟨s4, hs4, hf⟩ := am_bd hf
  refine g_setI (pc := 74) (in_7 hX.1 (by omega)) fr_X7_86 dX7_findShared_74 (Option.some.inj hs4) ?_
  refine g_aload_n (pc := 77) 0 rfl dX7_findShared_77 rfl ?_
  obtain ⟨p5, hp5, hf⟩ := am_bd hf
  refine g_cV (pc := 78) (As := []) (st := []) (st1 := []) (in_7 hX.1 (by omega)) kk_7 mV_X7_sumLeast ln_X7_104 rfl (Nat.le_of_ble_eq_true rfl) (Nat.le_of_ble_eq_true rfl) (k_X7_sumLeast hX s4 hp5) dX7_findShared_78 rfl rfl ?_
  refine g_aload_n (pc := 81) 0 rfl dX7_findShared_81 rfl ?_
  refine g_iconst (pc := 82) (v := 0) dX7_findShared_82 (by decide) ?_
  refine g_iconst (pc := 83) (v := 0) dX7_findShared_83 (by decide) ?_
  obtain ⟨p6, hp6, hf⟩ := am_bd hf
  refine g_cV (pc := 84) (As := [.int 0, .int 0]) (st := []) (st1 := []) (in_7 hX.1 (by omega)) kk_7 (mV_X7_tryCouple _) ln_X7_107 rfl (Nat.le_of_ble_eq_true rfl) (Nat.le_of_ble_eq_true rfl) (k_X7_tryCouple hX 8 0 0 p5 hp6) dX7_findShared_84 rfl rfl ?_
  refine g_aload_n (pc := 87) 0 rfl dX7_findShared_87 rfl ?_
  refine g_getI (pc := 88) (in_7 hX.1 (by omega)) fr_X7_86 dX7_findShared_88 ?_
  refine g_ldc (pc := 91) (v := 1000000) (tb_5 (List.mem_of_getElem? (i := 45) (by decide +kernel))) dX7_findShared_91 ?_
  refine bi_ne (pc := 93) 98 dX7_findShared_93 rfl (fun c7 => ?_) (fun c7 => ?_)
  · replace hf := am_ifT c7 hf
    refine g_iconst (pc := 96) (v := 0) dX7_findShared_96 (by decide) ?_
    have ho := Option.some.inj hf
    subst ho
    exact g_zreturn (pc := 97) (st := []) (x := false) rfl dX7_findShared_97 hk
  replace hf := am_ifF c7 hf
  refine g_iconst (pc := 98) (v := 0) dX7_findShared_98 (by decide) ?_
  refine g_istore (pc := 99) [(5, .int 0), (0, .ref (am_ad X 7 0))] dX7_findShared_99 (Nat.le_of_ble_eq_true rfl) rfl ?_
  obtain ⟨w8, hw8, hf⟩ := am_bd hf
  refine am_sub [1, 0] rfl (l_X7_findShared_101 hX  p6 (0, p6) hw8 ?_)
  intro t e
  subst e
  refine g_aload_n (pc := 130) 0 rfl dX7_findShared_130 rfl ?_
  refine g_aload_n (pc := 131) 0 rfl dX7_findShared_131 rfl ?_
  refine g_getI (pc := 132) (in_7 hX.1 (by omega)) fr_X7_55 dX7_findShared_132 ?_
  obtain ⟨s9, hs9, hf⟩ := am_bd hf
  refine g_setI (pc := 135) (in_7 hX.1 (by omega)) fr_X7_111 dX7_findShared_135 (Option.some.inj hs9) ?_
  refine g_iconst (pc := 138) (v := 1) dX7_findShared_138 (by decide) ?_
  have ho := Option.some.inj hf
  subst ho
  exact g_zreturn (pc := 139) (st := []) (x := true) rfl dX7_findShared_139 hk
theorem k_X7_findShared {X : am_X} (hX : am_wC X) (r1 : Nat) (v2 : Int32) (v3 : Int32) (v4 : Int32) (hr1 : r1 < 3) (σ : am_H) {o : Bool × am_H} (hf : f_X7_findShared r1 v2 v3 v4 σ = some o) : am_C X gm_X7_findShared [.ref (am_ad X 7 0), .ref (am_ad X 3 r1), .int v2, .int v3, .int v4] σ (am_is (some (.int (am_b o.1))) o.2) :=
  am_ofG rfl (Nat.le_of_ble_eq_true rfl) rfl (q_X7_findShared hX r1 v2 v3 v4 hr1 σ hf ⟨rfl, rfl⟩)
theorem dX8_isMissing_0 : decode cX8_isMissing 0 = .ok (.aload_n 0, 1) := by decide +kernel
theorem dX8_isMissing_1 : decode cX8_isMissing 1 = .ok (.getfield 9, 3) := by decide +kernel
theorem dX8_isMissing_4 : decode cX8_isMissing 4 = .ok (.iconst (-1), 1) := by decide +kernel
theorem dX8_isMissing_5 : decode cX8_isMissing 5 = .ok (.if_icmp .ne 7, 3) := by decide +kernel
theorem dX8_isMissing_8 : decode cX8_isMissing 8 = .ok (.iconst 1, 1) := by decide +kernel
theorem dX8_isMissing_9 : decode cX8_isMissing 9 = .ok (.goto 4, 3) := by decide +kernel
theorem dX8_isMissing_12 : decode cX8_isMissing 12 = .ok (.iconst 0, 1) := by decide +kernel
theorem dX8_isMissing_13 : decode cX8_isMissing 13 = .ok (.ireturn, 1) := by decide +kernel
noncomputable def f_X8_isMissing (r0 : Nat) (σ : am_H) : Option (Bool) :=
  if (σ.1 8 r0 0) = (-1) then
   (some true)
  else
  some false
set_option maxRecDepth 100000 in
set_option maxHeartbeats 4000000 in
theorem q_X8_isMissing {X : am_X} (hX : am_wC X) {Q : Option Value → am_H → Prop} (r0 : Nat) (hr0 : r0 < 5) (σ : am_H) {o : Bool} (hf : f_X8_isMissing r0 σ = some o) (hk : Q (some (.int (am_b o))) σ) : am_G X gm_X8_isMissing Q 0 [(0, .ref (am_ad X 8 r0))] [] σ := by
  unfold f_X8_isMissing at hf
  refine g_aload_n (pc := 0) 0 rfl dX8_isMissing_0 rfl ?_
  refine g_getI (pc := 1) (in_8 hX.1 (by omega)) fr_X8_9 dX8_isMissing_1 ?_
  refine g_iconst (pc := 4) (v := (-1)) dX8_isMissing_4 (by decide) ?_
  refine bi_ne (pc := 5) 12 dX8_isMissing_5 rfl (fun c1 => ?_) (fun c1 => ?_)
  · replace hf := am_ifT c1 hf
    refine g_iconst (pc := 8) (v := 1) dX8_isMissing_8 (by decide) ?_
    refine g_goto (pc := 9) 13 dX8_isMissing_9 rfl ?_
    have ho := Option.some.inj hf
    subst ho
    exact g_zreturn (pc := 13) (st := []) (x := true) rfl dX8_isMissing_13 hk
  replace hf := am_ifF c1 hf
  refine g_iconst (pc := 12) (v := 0) dX8_isMissing_12 (by decide) ?_
  have ho := Option.some.inj hf
  subst ho
  exact g_zreturn (pc := 13) (st := []) (x := false) rfl dX8_isMissing_13 hk
theorem k_X8_isMissing {X : am_X} (hX : am_wC X) (r0 : Nat) (hr0 : r0 < 5) (σ : am_H) {o : Bool} (hf : f_X8_isMissing r0 σ = some o) : am_C X gm_X8_isMissing [.ref (am_ad X 8 r0)] σ (am_is (some (.int (am_b o))) σ) :=
  am_ofG rfl (Nat.le_of_ble_eq_true rfl) rfl (q_X8_isMissing hX r0 hr0 σ hf ⟨rfl, rfl⟩)
