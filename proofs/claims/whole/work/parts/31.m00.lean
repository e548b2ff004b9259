theorem dX12_status_0 : decode cX12_status 0 = .ok (.aload_n 0, 1) := by decide +kernel
theorem dX12_status_1 : decode cX12_status 1 = .ok (.iconst 0, 1) := by decide +kernel
theorem dX12_status_2 : decode cX12_status 2 = .ok (.putfield 122, 3) := by decide +kernel
theorem dX12_status_5 : decode cX12_status 5 = .ok (.aload_n 0, 1) := by decide +kernel
theorem dX12_status_6 : decode cX12_status 6 = .ok (.getfield 125, 3) := by decide +kernel
theorem dX12_status_9 : decode cX12_status 9 = .ok (.ireturn, 1) := by decide +kernel
noncomputable def f_X12_status (σ : am_H) : Option (Int32 × am_H) :=
  (some (am_wI σ 12 0 1 0)).bind fun s1 =>
  some ((s1.1 12 0 0), s1)
set_option maxRecDepth 100000 in
set_option maxHeartbeats 4000000 in
theorem q_X12_status {X : am_X} (hX : am_ks X = am_ksM) {Q : Option Value → am_H → Prop} (σ : am_H) {o : Int32 × am_H} (hf : f_X12_status σ = some o) (hk : Q (some (.int o.1)) o.2) : am_G X gm_X12_status Q 0 [(0, .ref (am_ad X 12 0))] [] σ := by
  unfold f_X12_status at hf
  refine g_aload_n (pc := 0) 0 rfl dX12_status_0 rfl ?_
  refine g_iconst (pc := 1) (v := 0) dX12_status_1 (by decide) ?_
  obtain ⟨s1, hs1, hf⟩ := am_bd hf
  refine g_setI (pc := 2) (in_12 hX (by omega)) fr_X12_122 dX12_status_2 (Option.some.inj hs1) ?_
  refine g_aload_n (pc := 5) 0 rfl dX12_status_5 rfl ?_
  refine g_getI (pc := 6) (in_12 hX (by omega)) fr_X12_125 dX12_status_6 ?_
  have ho := Option.some.inj hf
  subst ho
  exact g_ireturn (pc := 9) (st := []) rfl dX12_status_9 hk
theorem k_X12_status {X : am_X} (hX : am_ks X = am_ksM) (σ : am_H) {o : Int32 × am_H} (hf : f_X12_status σ = some o) : am_C X gm_X12_status [.ref (am_ad X 12 0)] σ (am_is (some (.int o.1)) o.2) :=
  am_ofG rfl (Nat.le_of_ble_eq_true rfl) rfl (q_X12_status hX σ hf ⟨rfl, rfl⟩)
theorem dX12_top_0 : decode cX12_top 0 = .ok (.aload_n 0, 1) := by decide +kernel
theorem dX12_top_1 : decode cX12_top 1 = .ok (.iconst 0, 1) := by decide +kernel
theorem dX12_top_2 : decode cX12_top 2 = .ok (.putfield 122, 3) := by decide +kernel
theorem dX12_top_5 : decode cX12_top 5 = .ok (.aload_n 0, 1) := by decide +kernel
theorem dX12_top_6 : decode cX12_top 6 = .ok (.getfield 128, 3) := by decide +kernel
theorem dX12_top_9 : decode cX12_top 9 = .ok (.lreturn, 1) := by decide +kernel
noncomputable def f_X12_top (σ : am_H) : Option (Int64 × am_H) :=
  (some (am_wI σ 12 0 1 0)).bind fun s1 =>
  some ((s1.2.1 12 0 2), s1)
set_option maxRecDepth 100000 in
set_option maxHeartbeats 4000000 in
theorem q_X12_top {X : am_X} (hX : am_ks X = am_ksM) {Q : Option Value → am_H → Prop} (σ : am_H) {o : Int64 × am_H} (hf : f_X12_top σ = some o) (hk : Q (some (.long o.1)) o.2) : am_G X gm_X12_top Q 0 [(0, .ref (am_ad X 12 0))] [] σ := by
  unfold f_X12_top at hf
  refine g_aload_n (pc := 0) 0 rfl dX12_top_0 rfl ?_
  refine g_iconst (pc := 1) (v := 0) dX12_top_1 (by decide) ?_
  obtain ⟨s1, hs1, hf⟩ := am_bd hf
  refine g_setI (pc := 2) (in_12 hX (by omega)) fr_X12_122 dX12_top_2 (Option.some.inj hs1) ?_
  refine g_aload_n (pc := 5) 0 rfl dX12_top_5 rfl ?_
  refine g_getJ (pc := 6) (in_12 hX (by omega)) fr_X12_128 dX12_top_6 ?_
  have ho := Option.some.inj hf
  subst ho
  exact g_lreturn (pc := 9) (st := []) rfl dX12_top_9 hk
theorem k_X12_top {X : am_X} (hX : am_ks X = am_ksM) (σ : am_H) {o : Int64 × am_H} (hf : f_X12_top σ = some o) : am_C X gm_X12_top [.ref (am_ad X 12 0)] σ (am_is (some (.long o.1)) o.2) :=
  am_ofG rfl (Nat.le_of_ble_eq_true rfl) rfl (q_X12_top hX σ hf ⟨rfl, rfl⟩)
theorem dX12_bottom_0 : decode cX12_bottom 0 = .ok (.aload_n 0, 1) := by decide +kernel
theorem dX12_bottom_1 : decode cX12_bottom 1 = .ok (.iconst 0, 1) := by decide +kernel
theorem dX12_bottom_2 : decode cX12_bottom 2 = .ok (.putfield 122, 3) := by decide +kernel
theorem dX12_bottom_5 : decode cX12_bottom 5 = .ok (.aload_n 0, 1) := by decide +kernel
theorem dX12_bottom_6 : decode cX12_bottom 6 = .ok (.getfield 7, 3) := by decide +kernel
theorem dX12_bottom_9 : decode cX12_bottom 9 = .ok (.lreturn, 1) := by decide +kernel
noncomputable def f_X12_bottom (σ : am_H) : Option (Int64 × am_H) :=
  (some (am_wI σ 12 0 1 0)).bind fun s1 =>
  some ((s1.2.1 12 0 3), s1)
set_option maxRecDepth 100000 in
set_option maxHeartbeats 4000000 in
theorem q_X12_bottom {X : am_X} (hX : am_ks X = am_ksM) {Q : Option Value → am_H → Prop} (σ : am_H) {o : Int64 × am_H} (hf : f_X12_bottom σ = some o) (hk : Q (some (.long o.1)) o.2) : am_G X gm_X12_bottom Q 0 [(0, .ref (am_ad X 12 0))] [] σ := by
  unfold f_X12_bottom at hf
  refine g_aload_n (pc := 0) 0 rfl dX12_bottom_0 rfl ?_
  refine g_iconst (pc := 1) (v := 0) dX12_bottom_1 (by decide) ?_
  obtain ⟨s1, hs1, hf⟩ := am_bd hf
  refine g_setI (pc := 2) (in_12 hX (by omega)) fr_X12_122 dX12_bottom_2 (Option.some.inj hs1) ?_
  refine g_aload_n (pc := 5) 0 rfl dX12_bottom_5 rfl ?_
  refine g_getJ (pc := 6) (in_12 hX (by omega)) fr_X12_7 dX12_bottom_6 ?_
  have ho := Option.some.inj hf
  subst ho
  exact g_lreturn (pc := 9) (st := []) rfl dX12_bottom_9 hk
theorem k_X12_bottom {X : am_X} (hX : am_ks X = am_ksM) (σ : am_H) {o : Int64 × am_H} (hf : f_X12_bottom σ = some o) : am_C X gm_X12_bottom [.ref (am_ad X 12 0)] σ (am_is (some (.long o.1)) o.2) :=
  am_ofG rfl (Nat.le_of_ble_eq_true rfl) rfl (q_X12_bottom hX σ hf ⟨rfl, rfl⟩)
theorem dX12_refuse_0 : decode cX12_refuse 0 = .ok (.aload_n 0, 1) := by decide +kernel
theorem dX12_refuse_1 : decode cX12_refuse 1 = .ok (.iload_n 1, 1) := by decide +kernel
theorem dX12_refuse_2 : decode cX12_refuse 2 = .ok (.putfield 125, 3) := by decide +kernel
theorem dX12_refuse_5 : decode cX12_refuse 5 = .ok (.iconst (-1), 1) := by decide +kernel
theorem dX12_refuse_6 : decode cX12_refuse 6 = .ok (.ireturn, 1) := by decide +kernel
noncomputable def f_X12_refuse (v1 : Int32) (σ : am_H) : Option (Int32 × am_H) :=
  (some (am_wI σ 12 0 0 v1)).bind fun s1 =>
  some ((-1), s1)
set_option maxRecDepth 100000 in
set_option maxHeartbeats 4000000 in
theorem q_X12_refuse {X : am_X} (hX : am_ks X = am_ksM) {Q : Option Value → am_H → Prop} (v1 : Int32) (σ : am_H) {o : Int32 × am_H} (hf : f_X12_refuse v1 σ = some o) (hk : Q (some (.int o.1)) o.2) : am_G X gm_X12_refuse Q 0 [(0, .ref (am_ad X 12 0)), (1, .int v1)] [] σ := by
  unfold f_X12_refuse at hf
  refine g_aload_n (pc := 0) 0 rfl dX12_refuse_0 rfl ?_
  refine g_iload_n (pc := 1) 1 rfl dX12_refuse_1 rfl ?_
  obtain ⟨s1, hs1, hf⟩ := am_bd hf
  refine g_setI (pc := 2) (in_12 hX (by omega)) fr_X12_125 dX12_refuse_2 (Option.some.inj hs1) ?_
  refine g_iconst (pc := 5) (v := (-1)) dX12_refuse_5 (by decide) ?_
  have ho := Option.some.inj hf
  subst ho
  exact g_ireturn (pc := 6) (st := []) rfl dX12_refuse_6 hk
theorem k_X12_refuse {X : am_X} (hX : am_ks X = am_ksM) (v1 : Int32) (σ : am_H) {o : Int32 × am_H} (hf : f_X12_refuse v1 σ = some o) : am_C X gm_X12_refuse [.ref (am_ad X 12 0), .int v1] σ (am_is (some (.int o.1)) o.2) :=
  am_ofG rfl (Nat.le_of_ble_eq_true rfl) rfl (q_X12_refuse hX v1 σ hf ⟨rfl, rfl⟩)
theorem dX12_no_0 : decode cX12_no 0 = .ok (.aload_n 0, 1) := by decide +kernel
theorem dX12_no_1 : decode cX12_no 1 = .ok (.iload_n 1, 1) := by decide +kernel
theorem dX12_no_2 : decode cX12_no 2 = .ok (.putfield 125, 3) := by decide +kernel
theorem dX12_no_5 : decode cX12_no 5 = .ok (.iconst 0, 1) := by decide +kernel
theorem dX12_no_6 : decode cX12_no 6 = .ok (.ireturn, 1) := by decide +kernel
noncomputable def f_X12_no (v1 : Int32) (σ : am_H) : Option (Bool × am_H) :=
  (some (am_wI σ 12 0 0 v1)).bind fun s1 =>
  some (false, s1)
set_option maxRecDepth 100000 in
set_option maxHeartbeats 4000000 in
theorem q_X12_no {X : am_X} (hX : am_ks X = am_ksM) {Q : Option Value → am_H → Prop} (v1 : Int32) (σ : am_H) {o : Bool × am_H} (hf : f_X12_no v1 σ = some o) (hk : Q (some (.int (am_b o.1))) o.2) : am_G X gm_X12_no Q 0 [(0, .ref (am_ad X 12 0)), (1, .int v1)] [] σ := by
  unfold f_X12_no at hf
  refine g_aload_n (pc := 0) 0 rfl dX12_no_0 rfl ?_
  refine g_iload_n (pc := 1) 1 rfl dX12_no_1 rfl ?_
  obtain ⟨s1, hs1, hf⟩ := am_bd hf
  refine g_setI (pc := 2) (in_12 hX (by omega)) fr_X12_125 dX12_no_2 (Option.some.inj hs1) ?_
  refine g_iconst (pc := 5) (v := 0) dX12_no_5 (by decide) ?_
  have ho := Option.some.inj hf
  subst ho
  exact g_zreturn (pc := 6) (st := []) (x := false) rfl dX12_no_6 hk
theorem k_X12_no {X : am_X} (hX : am_ks X = am_ksM) (v1 : Int32) (σ : am_H) {o : Bool × am_H} (hf : f_X12_no v1 σ = some o) : am_C X gm_X12_no [.ref (am_ad X 12 0), .int v1] σ (am_is (some (.int (am_b o.1))) o.2) :=
  am_ofG rfl (Nat.le_of_ble_eq_true rfl) rfl (q_X12_no hX v1 σ hf ⟨rfl, rfl⟩)
theorem dX12_isIn_0 : decode cX12_isIn 0 = .ok (.lload_n 0, 1) := by decide +kernel
theorem dX12_isIn_1 : decode cX12_isIn 1 = .ok (.lload_n 2, 1) := by decide +kernel
theorem dX12_isIn_2 : decode cX12_isIn 2 = .ok (.lcmp, 1) := by decide +kernel
theorem dX12_isIn_3 : decode cX12_isIn 3 = .ok (.ifCond .lt 14, 3) := by decide +kernel
theorem dX12_isIn_6 : decode cX12_isIn 6 = .ok (.lload_n 0, 1) := by decide +kernel
theorem dX12_isIn_7 : decode cX12_isIn 7 = .ok (.lload 4, 2) := by decide +kernel
theorem dX12_isIn_9 : decode cX12_isIn 9 = .ok (.lcmp, 1) := by decide +kernel
theorem dX12_isIn_10 : decode cX12_isIn 10 = .ok (.ifCond .gt 7, 3) := by decide +kernel
theorem dX12_isIn_13 : decode cX12_isIn 13 = .ok (.iconst 1, 1) := by decide +kernel
theorem dX12_isIn_14 : decode cX12_isIn 14 = .ok (.goto 4, 3) := by decide +kernel
theorem dX12_isIn_17 : decode cX12_isIn 17 = .ok (.iconst 0, 1) := by decide +kernel
theorem dX12_isIn_18 : decode cX12_isIn 18 = .ok (.ireturn, 1) := by decide +kernel
noncomputable def f_X12_isIn (v0 : Int64) (v2 : Int64) (v4 : Int64) (σ : am_H) : Option (Bool) :=
  if v0 < v2 then
   (some false)
  else
  if v4 < v0 then
   (some false)
  else
  some true
set_option maxRecDepth 100000 in
set_option maxHeartbeats 4000000 in
theorem q_X12_isIn {X : am_X} (hX : am_ks X = am_ksM) {Q : Option Value → am_H → Prop} (v0 : Int64) (v2 : Int64) (v4 : Int64) (σ : am_H) {o : Bool} (hf : f_X12_isIn v0 v2 v4 σ = some o) (hk : Q (some (.int (am_b o))) σ) : am_G X gm_X12_isIn Q 0 [(0, .long v0), (2, .long v2), (4, .long v4)] [] σ := by
  unfold f_X12_isIn at hf
  refine g_lload_n (pc := 0) 0 rfl dX12_isIn_0 rfl ?_
  refine g_lload_n (pc := 1) 1 rfl dX12_isIn_1 rfl ?_
  refine g_lcm (pc := 2) dX12_isIn_2 ?_
  refine bl_lt (pc := 3) 17 dX12_isIn_3 rfl (fun c1 => ?_) (fun c1 => ?_)
  · replace hf := am_ifT c1 hf
    refine g_iconst (pc := 17) (v := 0) dX12_isIn_17 (by decide) ?_
    have ho := Option.some.inj hf
    subst ho
    exact g_zreturn (pc := 18) (st := []) (x := false) rfl dX12_isIn_18 hk
  replace hf := am_ifF c1 hf
  refine g_lload_n (pc := 6) 0 rfl dX12_isIn_6 rfl ?_
  refine g_lload (pc := 7) 2 rfl dX12_isIn_7 ?_
  refine g_lcm (pc := 9) dX12_isIn_9 ?_
  refine bl_gt (pc := 10) 17 dX12_isIn_10 rfl (fun c2 => ?_) (fun c2 => ?_)
  · replace hf := am_ifT c2 hf
    refine g_iconst (pc := 17) (v := 0) dX12_isIn_17 (by decide) ?_
    have ho := Option.some.inj hf
    subst ho
    exact g_zreturn (pc := 18) (st := []) (x := false) rfl dX12_isIn_18 hk
  replace hf := am_ifF c2 hf
  refine g_iconst (pc := 13) (v := 1) dX12_isIn_13 (by decide) ?_
  refine g_goto (pc := 14) 18 dX12_isIn_14 rfl ?_
  have ho := Option.some.inj hf
  subst ho
  exact g_zreturn (pc := 18) (st := []) (x := true) rfl dX12_isIn_18 hk
theorem k_X12_isIn {X : am_X} (hX : am_ks X = am_ksM) (v0 : Int64) (v2 : Int64) (v4 : Int64) (σ : am_H) {o : Bool} (hf : f_X12_isIn v0 v2 v4 σ = some o) : am_C X gm_X12_isIn [.long v0, .long v2, .long v4] σ (am_is (some (.int (am_b o))) σ) :=
  am_ofG rfl (Nat.le_of_ble_eq_true rfl) rfl (q_X12_isIn hX v0 v2 v4 σ hf ⟨rfl, rfl⟩)
theorem dX12_fraction_0 : decode cX12_fraction 0 = .ok (.lload_n 1, 1) := by decide +kernel
theorem dX12_fraction_1 : decode cX12_fraction 1 = .ok (.invokestatic 131, 3) := by decide +kernel
theorem dX12_fraction_4 : decode cX12_fraction 4 = .ok (.lstore 5, 2) := by decide +kernel
theorem dX12_fraction_6 : decode cX12_fraction 6 = .ok (.lload_n 3, 1) := by decide +kernel
theorem dX12_fraction_7 : decode cX12_fraction 7 = .ok (.lstore 7, 2) := by decide +kernel
theorem dX12_fraction_9 : decode cX12_fraction 9 = .ok (.lload 7, 2) := by decide +kernel
theorem dX12_fraction_11 : decode cX12_fraction 11 = .ok (.lconst 0, 1) := by decide +kernel
theorem dX12_fraction_12 : decode cX12_fraction 12 = .ok (.lcmp, 1) := by decide +kernel
theorem dX12_fraction_13 : decode cX12_fraction 13 = .ok (.ifCond .eq 21, 3) := by decide +kernel
theorem dX12_fraction_16 : decode cX12_fraction 16 = .ok (.lload 5, 2) := by decide +kernel
theorem dX12_fraction_18 : decode cX12_fraction 18 = .ok (.lload 7, 2) := by decide +kernel
theorem dX12_fraction_20 : decode cX12_fraction 20 = .ok (.lrem, 1) := by decide +kernel
theorem dX12_fraction_21 : decode cX12_fraction 21 = .ok (.lstore 9, 2) := by decide +kernel
theorem dX12_fraction_23 : decode cX12_fraction 23 = .ok (.lload 7, 2) := by decide +kernel
theorem dX12_fraction_25 : decode cX12_fraction 25 = .ok (.lstore 5, 2) := by decide +kernel
theorem dX12_fraction_27 : decode cX12_fraction 27 = .ok (.lload 9, 2) := by decide +kernel
theorem dX12_fraction_29 : decode cX12_fraction 29 = .ok (.lstore 7, 2) := by decide +kernel
theorem dX12_fraction_31 : decode cX12_fraction 31 = .ok (.goto (-22), 3) := by decide +kernel
theorem dX12_fraction_34 : decode cX12_fraction 34 = .ok (.aload_n 0, 1) := by decide +kernel
theorem dX12_fraction_35 : decode cX12_fraction 35 = .ok (.lload_n 1, 1) := by decide +kernel
theorem dX12_fraction_36 : decode cX12_fraction 36 = .ok (.lload 5, 2) := by decide +kernel
theorem dX12_fraction_38 : decode cX12_fraction 38 = .ok (.ldiv, 1) := by decide +kernel
theorem dX12_fraction_39 : decode cX12_fraction 39 = .ok (.putfield 128, 3) := by decide +kernel
theorem dX12_fraction_42 : decode cX12_fraction 42 = .ok (.aload_n 0, 1) := by decide +kernel
theorem dX12_fraction_43 : decode cX12_fraction 43 = .ok (.lload_n 3, 1) := by decide +kernel
theorem dX12_fraction_44 : decode cX12_fraction 44 = .ok (.lload 5, 2) := by decide +kernel
theorem dX12_fraction_46 : decode cX12_fraction 46 = .ok (.ldiv, 1) := by decide +kernel
theorem dX12_fraction_47 : decode cX12_fraction 47 = .ok (.putfield 7, 3) := by decide +kernel
theorem dX12_fraction_50 : decode cX12_fraction 50 = .ok (.return_, 1) := by decide +kernel
noncomputable def f_X12_fraction_9 (v1 : Int64) (v3 : Int64) (v5 : Int64) (v7 : Int64) (σ : am_H) : Option ((Int64 × Int64) ⊕ (Int64)) :=
  if v7 = 0 then
   (some (.inr v5))
  else
  if v7 = 0 then none else
  some (.inl (v7, (am_lR v5 v7)))
set_option maxRecDepth 100000 in
set_option maxHeartbeats 4000000 in
theorem q_X12_fraction_9 {X : am_X} (hX : am_ks X = am_ksM) {Q : Option Value → am_H → Prop} (v1 : Int64) (v3 : Int64) (v5 : Int64) (v7 : Int64) (σ : am_H) {o : (Int64 × Int64) ⊕ (Int64)} (hf : f_X12_fraction_9 v1 v3 v5 v7 σ = some o) (hk0 : ∀ s, o = .inl s → am_G X gm_X12_fraction Q 9 [(0, .ref (am_ad X 12 0)), (1, .long v1), (3, .long v3), (5, .long s.1), (7, .long s.2)] [] σ) (hk1 : ∀ t, o = .inr t → am_G X gm_X12_fraction Q 34 [(0, .ref (am_ad X 12 0)), (1, .long v1), (3, .long v3), (5, .long t)] [] σ) : am_G X gm_X12_fraction Q 9 [(0, .ref (am_ad X 12 0)), (1, .long v1), (3, .long v3), (5, .long v5), (7, .long v7)] [] σ := by
  unfold f_X12_fraction_9 at hf
  refine g_lload (pc := 9) 4 rfl dX12_fraction_9 ?_
  refine g_lconst (pc := 11) (v := 0) dX12_fraction_11 (by decide) ?_
  refine g_lcm (pc := 12) dX12_fraction_12 ?_
  refine bl_eq (pc := 13) 34 dX12_fraction_13 rfl (fun c1 => ?_) (fun c1 => ?_)
  · replace hf := am_ifT c1 hf
    have hz := hk1 _ (Option.some.inj hf).symm
    exact am_sub [0, 1, 2, 3] rfl hz
  replace hf := am_ifF c1 hf
  refine g_lload (pc := 16) 3 rfl dX12_fraction_16 ?_
  refine g_lload (pc := 18) 4 rfl dX12_fraction_18 ?_
  by_cases z2 : v7 = 0
  · exact absurd (am_ifT z2 hf) (by simp)
  replace hf := am_ifF z2 hf
  refine g_lrem (pc := 20) dX12_fraction_20 z2 ?_
  refine g_lstore (pc := 21) [(9, .long (am_lR v5 v7)), (0, .ref (am_ad X 12 0)), (1, .long v1), (3, .long v3), (5, .long v5), (7, .long v7)] dX12_fraction_21 (Nat.le_of_ble_eq_true rfl) rfl ?_
  refine g_lload (pc := 23) 5 rfl dX12_fraction_23 ?_
  refine g_lstore (pc := 25) [(5, .long v7), (9, .long (am_lR v5 v7)), (0, .ref (am_ad X 12 0)), (1, .long v1), (3, .long v3), (7, .long v7)] dX12_fraction_25 (Nat.le_of_ble_eq_true rfl) rfl ?_
  refine g_lload (pc := 27) 1 rfl dX12_fraction_27 ?_
  refine g_lstore (pc := 29) [(7, .long (am_lR v5 v7)), (5, .long v7), (9, .long (am_lR v5 v7)), (0, .ref (am_ad X 12 0)), (1, .long v1), (3, .long v3)] dX12_fraction_29 (Nat.le_of_ble_eq_true rfl) rfl ?_
  refine g_goto (pc := 31) 9 dX12_fraction_31 rfl ?_
  have hz := hk0 _ (Option.some.inj hf).symm
  exact am_sub [3, 4, 5, 1, 0] rfl hz
set_option maxRecDepth 100000 in
set_option maxHeartbeats 4000000 in
theorem l_X12_fraction_9 {X : am_X} (hX : am_ks X = am_ksM) {Q : Option Value → am_H → Prop} (v1 : Int64) (v3 : Int64) (σ : am_H) (s : Int64 × Int64) {o : Int64} (hf : am_loop (fun s => f_X12_fraction_9 v1 v3 s.1 s.2 σ) s = some o) (hk1 : ∀ t, o = t → am_G X gm_X12_fraction Q 34 [(0, .ref (am_ad X 12 0)), (1, .long v1), (3, .long v3), (5, .long t)] [] σ) : am_G X gm_X12_fraction Q 9 [(0, .ref (am_ad X 12 0)), (1, .long v1), (3, .long v3), (5, .long s.1), (7, .long s.2)] [] σ := by
  refine am_loop_ind (P := fun s => am_G X gm_X12_fraction Q 9 [(0, .ref (am_ad X 12 0)), (1, .long v1), (3, .long v3), (5, .long s.1), (7, .long s.2)] [] σ) (K := fun r => r = o) ?_ hf rfl
  intro s o1 hb hi hr
  exact q_X12_fraction_9 hX v1 v3 s.1 s.2  σ hb hi (fun t e => hk1 t (hr _ e).symm)
noncomputable def f_X12_fraction (v1 : Int64) (v3 : Int64) (σ : am_H) : Option (am_H) :=
  (am_loop (fun s => f_X12_fraction_9 v1 v3 s.1 s.2 σ) ((am_abL v1), v3)).bind fun w1 =>
  if w1 = 0 then none else
  (some (am_wL σ 12 0 2 (v1 / w1))).bind fun s3 =>
  if w1 = 0 then none else
  (some (am_wL s3 12 0 3 (v3 / w1))).bind fun s5 =>
  some s5
set_option maxRecDepth 100000 in
set_option maxHeartbeats 4000000 in
theorem q_X12_fraction {X : am_X} (hX : am_ks X = am_ksM) {Q : Option Value → am_H → Prop} (v1 : Int64) (v3 : Int64) (σ : am_H) {o : am_H} (hf : f_X12_fraction v1 v3 σ = some o) (hk : Q none o) : am_G X gm_X12_fraction Q 0 [(0, .ref (am_ad X 12 0)), (1, .long v1), (3, .long v3)] [] σ := by
  unfold f_X12_fraction at hf
  refine g_lload_n (pc := 0) 1 rfl dX12_fraction_0 rfl ?_
  refine g_mabsL (pc := 1) (Nat.le_of_ble_eq_true rfl) (Nat.le_of_ble_eq_true rfl) sp_X12_131 dX12_fraction_1 ?_
  refine g_lstore (pc := 4) [(5, .long (am_abL v1)), (0, .ref (am_ad X 12 0)), (1, .long v1), (3, .long v3)] dX12_fraction_4 (Nat.le_of_ble_eq_true rfl) rfl ?_
  refine g_lload_n (pc := 6) 3 rfl dX12_fraction_6 rfl ?_
  refine g_lstore (pc := 7) [(7, .long v3), (5, .long (am_abL v1)), (0, .ref (am_ad X 12 0)), (1, .long v1), (3, .long v3)] dX12_fraction_7 (Nat.le_of_ble_eq_true rfl) rfl ?_
  obtain ⟨w1, hw1, hf⟩ := am_bd hf
  refine am_sub [2, 3, 4, 1, 0] rfl (l_X12_fraction_9 hX v1 v3  σ ((am_abL v1), v3) hw1 ?_)
  intro t e
  subst e
  refine g_aload_n (pc := 34) 0 rfl dX12_fraction_34 rfl ?_
  refine g_lload_n (pc := 35) 1 rfl dX12_fraction_35 rfl ?_
  refine g_lload (pc := 36) 3 rfl dX12_fraction_36 ?_
  by_cases z2 : w1 = 0
  · exact absurd (am_ifT z2 hf) (by simp)
  replace hf := am_ifF z2 hf
  refine g_ldiv (pc := 38) dX12_fraction_38 z2 ?_
  obtain ⟨s3, hs3, hf⟩ := am_bd hf
  refine g_setJ (pc := 39) (in_12 hX (by omega)) fr_X12_128 dX12_fraction_39 (Option.some.inj hs3) ?_
  refine g_aload_n (pc := 42) 0 rfl dX12_fraction_42 rfl ?_
  refine g_lload_n (pc := 43) 2 rfl dX12_fraction_43 rfl ?_
  refine g_lload (pc := 44) 3 rfl dX12_fraction_44 ?_
  by_cases z4 : w1 = 0
  · exact absurd (am_ifT z4 hf) (by simp)
  replace hf := am_ifF z4 hf
  refine g_ldiv (pc := 46) dX12_fraction_46 z4 ?_
  obtain ⟨s5, hs5, hf⟩ := am_bd hf
  refine g_setJ (pc := 47) (in_12 hX (by omega)) fr_X12_7 dX12_fraction_47 (Option.some.inj hs5) ?_
  have ho := Option.some.inj hf
  subst ho
  exact g_vreturn (pc := 50) (st := []) rfl dX12_fraction_50 hk
theorem k_X12_fraction {X : am_X} (hX : am_ks X = am_ksM) (v1 : Int64) (v3 : Int64) (σ : am_H) {o : am_H} (hf : f_X12_fraction v1 v3 σ = some o) : am_C X gm_X12_fraction [.ref (am_ad X 12 0), .long v1, .long v3] σ (am_is none o) :=
  am_ofG rfl (Nat.le_of_ble_eq_true rfl) rfl (q_X12_fraction hX v1 v3 σ hf ⟨rfl, rfl⟩)
theorem dX12_cut_0 : decode cX12_cut 0 = .ok (.iload_n 0, 1) := by decide +kernel
theorem dX12_cut_1 : decode cX12_cut 1 = .ok (.ifCond .ne 10, 3) := by decide +kernel
theorem dX12_cut_4 : decode cX12_cut 4 = .ok (.lload_n 1, 1) := by decide +kernel
theorem dX12_cut_5 : decode cX12_cut 5 = .ok (.l2i, 1) := by decide +kernel
theorem dX12_cut_6 : decode cX12_cut 6 = .ok (.i2b, 1) := by decide +kernel
theorem dX12_cut_7 : decode cX12_cut 7 = .ok (.i2l, 1) := by decide +kernel
theorem dX12_cut_8 : decode cX12_cut 8 = .ok (.goto 27, 3) := by decide +kernel
theorem dX12_cut_11 : decode cX12_cut 11 = .ok (.iload_n 0, 1) := by decide +kernel
theorem dX12_cut_12 : decode cX12_cut 12 = .ok (.iconst 1, 1) := by decide +kernel
theorem dX12_cut_13 : decode cX12_cut 13 = .ok (.if_icmp .ne 10, 3) := by decide +kernel
theorem dX12_cut_16 : decode cX12_cut 16 = .ok (.lload_n 1, 1) := by decide +kernel
theorem dX12_cut_17 : decode cX12_cut 17 = .ok (.l2i, 1) := by decide +kernel
theorem dX12_cut_18 : decode cX12_cut 18 = .ok (.i2s, 1) := by decide +kernel
theorem dX12_cut_19 : decode cX12_cut 19 = .ok (.i2l, 1) := by decide +kernel
theorem dX12_cut_20 : decode cX12_cut 20 = .ok (.goto 15, 3) := by decide +kernel
theorem dX12_cut_23 : decode cX12_cut 23 = .ok (.iload_n 0, 1) := by decide +kernel
theorem dX12_cut_24 : decode cX12_cut 24 = .ok (.iconst 2, 1) := by decide +kernel
theorem dX12_cut_25 : decode cX12_cut 25 = .ok (.if_icmp .ne 9, 3) := by decide +kernel
theorem dX12_cut_28 : decode cX12_cut 28 = .ok (.lload_n 1, 1) := by decide +kernel
theorem dX12_cut_29 : decode cX12_cut 29 = .ok (.l2i, 1) := by decide +kernel
theorem dX12_cut_30 : decode cX12_cut 30 = .ok (.i2l, 1) := by decide +kernel
theorem dX12_cut_31 : decode cX12_cut 31 = .ok (.goto 4, 3) := by decide +kernel
theorem dX12_cut_34 : decode cX12_cut 34 = .ok (.lload_n 1, 1) := by decide +kernel
theorem dX12_cut_35 : decode cX12_cut 35 = .ok (.lreturn, 1) := by decide +kernel
noncomputable def f_X12_cut (v0 : Int32) (v1 : Int64) (σ : am_H) : Option (Int64) :=
  if v0 = 0 then
   (some (Int32.toInt64 (Int8.toInt32 (Int32.toInt8 (Int64.toInt32 v1)))))
  else
  if v0 = 1 then
   (some (Int32.toInt64 (Int16.toInt32 (Int32.toInt16 (Int64.toInt32 v1)))))
  else
  if v0 = 2 then
   (some (Int32.toInt64 (Int64.toInt32 v1)))
  else
  some v1
set_option maxRecDepth 100000 in
set_option maxHeartbeats 4000000 in
theorem q_X12_cut {X : am_X} (hX : am_ks X = am_ksM) {Q : Option Value → am_H → Prop} (v0 : Int32) (v1 : Int64) (σ : am_H) {o : Int64} (hf : f_X12_cut v0 v1 σ = some o) (hk : Q (some (.long o)) σ) : am_G X gm_X12_cut Q 0 [(0, .int v0), (1, .long v1)] [] σ := by
  unfold f_X12_cut at hf
  refine g_iload_n (pc := 0) 0 rfl dX12_cut_0 rfl ?_
  refine bz_ne (pc := 1) 11 dX12_cut_1 rfl (fun c1 => ?_) (fun c1 => ?_)
  · replace hf := am_ifT c1 hf
    refine g_lload_n (pc := 4) 1 rfl dX12_cut_4 rfl ?_
    refine g_l2i (pc := 5) dX12_cut_5 ?_
    refine g_i2b (pc := 6) dX12_cut_6 ?_
    refine g_i2l (pc := 7) dX12_cut_7 ?_
    refine g_goto (pc := 8) 35 dX12_cut_8 rfl ?_
    have ho := Option.some.inj hf
    subst ho
    exact g_lreturn (pc := 35) (st := []) rfl dX12_cut_35 hk
  replace hf := am_ifF c1 hf
  refine g_iload_n (pc := 11) 0 rfl dX12_cut_11 rfl ?_
  refine g_iconst (pc := 12) (v := 1) dX12_cut_12 (by decide) ?_
  refine bi_ne (pc := 13) 23 dX12_cut_13 rfl (fun c2 => ?_) (fun c2 => ?_)
  · replace hf := am_ifT c2 hf
    refine g_lload_n (pc := 16) 1 rfl dX12_cut_16 rfl ?_
    refine g_l2i (pc := 17) dX12_cut_17 ?_
    refine g_i2s (pc := 18) dX12_cut_18 ?_
    refine g_i2l (pc := 19) dX12_cut_19 ?_
    refine g_goto (pc := 20) 35 dX12_cut_20 rfl ?_
    have ho := Option.some.inj hf
    subst ho
    exact g_lreturn (pc := 35) (st := []) rfl dX12_cut_35 hk
  replace hf := am_ifF c2 hf
  refine g_iload_n (pc := 23) 0 rfl dX12_cut_23 rfl ?_
  refine g_iconst (pc := 24) (v := 2) dX12_cut_24 (by decide) ?_
  refine bi_ne (pc := 25) 34 dX12_cut_25 rfl (fun c3 => ?_) (fun c3 => ?_)
  · replace hf := am_ifT c3 hf
    refine g_lload_n (pc := 28) 1 rfl dX12_cut_28 rfl ?_
    refine g_l2i (pc := 29) dX12_cut_29 ?_
    refine g_i2l (pc := 30) dX12_cut_30 ?_
    refine g_goto (pc := 31) 35 dX12_cut_31 rfl ?_
    have ho := Option.some.inj hf
    subst ho
    exact g_lreturn (pc := 35) (st := []) rfl dX12_cut_35 hk
  replace hf := am_ifF c3 hf
  refine g_lload_n (pc := 34) 1 rfl dX12_cut_34 rfl ?_
  have ho := Option.some.inj hf
  subst ho
  exact g_lreturn (pc := 35) (st := []) rfl dX12_cut_35 hk
theorem k_X12_cut {X : am_X} (hX : am_ks X = am_ksM) (v0 : Int32) (v1 : Int64) (σ : am_H) {o : Int64} (hf : f_X12_cut v0 v1 σ = some o) : am_C X gm_X12_cut [.int v0, .long v1] σ (am_is (some (.long o)) σ) :=
  am_ofG rfl (Nat.le_of_ble_eq_true rfl) rfl (q_X12_cut hX v0 v1 σ hf ⟨rfl, rfl⟩)
theorem dX12_tray_0 : decode cX12_tray 0 = .ok (.aload_n 0, 1) := by decide +kernel
theorem dX12_tray_1 : decode cX12_tray 1 = .ok (.iconst 0, 1) := by decide +kernel
theorem dX12_tray_2 : decode cX12_tray 2 = .ok (.putfield 122, 3) := by decide +kernel
theorem dX12_tray_5 : decode cX12_tray 5 = .ok (.aload_n 0, 1) := by decide +kernel
theorem dX12_tray_6 : decode cX12_tray 6 = .ok (.iconst 0, 1) := by decide +kernel
theorem dX12_tray_7 : decode cX12_tray 7 = .ok (.putfield 125, 3) := by decide +kernel
theorem dX12_tray_10 : decode cX12_tray 10 = .ok (.iload_n 1, 1) := by decide +kernel
theorem dX12_tray_11 : decode cX12_tray 11 = .ok (.ifCond .lt 17, 3) := by decide +kernel
theorem dX12_tray_14 : decode cX12_tray 14 = .ok (.iload_n 1, 1) := by decide +kernel
theorem dX12_tray_15 : decode cX12_tray 15 = .ok (.iconst 5, 1) := by decide +kernel
theorem dX12_tray_16 : decode cX12_tray 16 = .ok (.if_icmp .ge 12, 3) := by decide +kernel
theorem dX12_tray_19 : decode cX12_tray 19 = .ok (.iload_n 2, 1) := by decide +kernel
theorem dX12_tray_20 : decode cX12_tray 20 = .ok (.ifCond .lt 8, 3) := by decide +kernel
theorem dX12_tray_23 : decode cX12_tray 23 = .ok (.iload_n 2, 1) := by decide +kernel
theorem dX12_tray_24 : decode cX12_tray 24 = .ok (.iconst 3, 1) := by decide +kernel
theorem dX12_tray_25 : decode cX12_tray 25 = .ok (.if_icmp .le 9, 3) := by decide +kernel
theorem dX12_tray_28 : decode cX12_tray 28 = .ok (.aload_n 0, 1) := by decide +kernel
theorem dX12_tray_29 : decode cX12_tray 29 = .ok (.iconst 1, 1) := by decide +kernel
theorem dX12_tray_30 : decode cX12_tray 30 = .ok (.invokevirtual 137, 3) := by decide +kernel
theorem dX12_tray_33 : decode cX12_tray 33 = .ok (.ireturn, 1) := by decide +kernel
theorem dX12_tray_34 : decode cX12_tray 34 = .ok (.iload_n 3, 1) := by decide +kernel
theorem dX12_tray_35 : decode cX12_tray 35 = .ok (.bipush 60, 2) := by decide +kernel
theorem dX12_tray_37 : decode cX12_tray 37 = .ok (.if_icmp .le 9, 3) := by decide +kernel
theorem dX12_tray_40 : decode cX12_tray 40 = .ok (.aload_n 0, 1) := by decide +kernel
theorem dX12_tray_41 : decode cX12_tray 41 = .ok (.iconst 5, 1) := by decide +kernel
theorem dX12_tray_42 : decode cX12_tray 42 = .ok (.invokevirtual 137, 3) := by decide +kernel
theorem dX12_tray_45 : decode cX12_tray 45 = .ok (.ireturn, 1) := by decide +kernel
theorem dX12_tray_46 : decode cX12_tray 46 = .ok (.iload_n 3, 1) := by decide +kernel
theorem dX12_tray_47 : decode cX12_tray 47 = .ok (.ifCond .ge 10, 3) := by decide +kernel
theorem dX12_tray_50 : decode cX12_tray 50 = .ok (.aload_n 0, 1) := by decide +kernel
theorem dX12_tray_51 : decode cX12_tray 51 = .ok (.bipush 6, 2) := by decide +kernel
theorem dX12_tray_53 : decode cX12_tray 53 = .ok (.invokevirtual 137, 3) := by decide +kernel
theorem dX12_tray_56 : decode cX12_tray 56 = .ok (.ireturn, 1) := by decide +kernel
theorem dX12_tray_57 : decode cX12_tray 57 = .ok (.aload_n 0, 1) := by decide +kernel
theorem dX12_tray_58 : decode cX12_tray 58 = .ok (.getfield 13, 3) := by decide +kernel
theorem dX12_tray_61 : decode cX12_tray 61 = .ok (.iload_n 1, 1) := by decide +kernel
theorem dX12_tray_62 : decode cX12_tray 62 = .ok (.iload_n 2, 1) := by decide +kernel
theorem dX12_tray_63 : decode cX12_tray 63 = .ok (.iastore, 1) := by decide +kernel
theorem dX12_tray_64 : decode cX12_tray 64 = .ok (.aload_n 0, 1) := by decide +kernel
theorem dX12_tray_65 : decode cX12_tray 65 = .ok (.getfield 17, 3) := by decide +kernel
theorem dX12_tray_68 : decode cX12_tray 68 = .ok (.iload_n 1, 1) := by decide +kernel
theorem dX12_tray_69 : decode cX12_tray 69 = .ok (.iload_n 3, 1) := by decide +kernel
theorem dX12_tray_70 : decode cX12_tray 70 = .ok (.iastore, 1) := by decide +kernel
theorem dX12_tray_71 : decode cX12_tray 71 = .ok (.iconst 0, 1) := by decide +kernel
theorem dX12_tray_72 : decode cX12_tray 72 = .ok (.istore 4, 2) := by decide +kernel
theorem dX12_tray_74 : decode cX12_tray 74 = .ok (.iload 4, 2) := by decide +kernel
theorem dX12_tray_76 : decode cX12_tray 76 = .ok (.iload_n 3, 1) := by decide +kernel
theorem dX12_tray_77 : decode cX12_tray 77 = .ok (.if_icmp .ge 22, 3) := by decide +kernel
theorem dX12_tray_80 : decode cX12_tray 80 = .ok (.aload_n 0, 1) := by decide +kernel
theorem dX12_tray_81 : decode cX12_tray 81 = .ok (.getfield 20, 3) := by decide +kernel
theorem dX12_tray_84 : decode cX12_tray 84 = .ok (.bipush 60, 2) := by decide +kernel
theorem dX12_tray_86 : decode cX12_tray 86 = .ok (.iload_n 1, 1) := by decide +kernel
theorem dX12_tray_87 : decode cX12_tray 87 = .ok (.imul, 1) := by decide +kernel
theorem dX12_tray_88 : decode cX12_tray 88 = .ok (.iload 4, 2) := by decide +kernel
theorem dX12_tray_90 : decode cX12_tray 90 = .ok (.iadd, 1) := by decide +kernel
theorem dX12_tray_91 : decode cX12_tray 91 = .ok (.lconst 0, 1) := by decide +kernel
theorem dX12_tray_92 : decode cX12_tray 92 = .ok (.lastore, 1) := by decide +kernel
theorem dX12_tray_93 : decode cX12_tray 93 = .ok (.iinc 4 1, 3) := by decide +kernel
theorem dX12_tray_96 : decode cX12_tray 96 = .ok (.goto (-22), 3) := by decide +kernel
theorem dX12_tray_99 : decode cX12_tray 99 = .ok (.iconst 1, 1) := by decide +kernel
theorem dX12_tray_100 : decode cX12_tray 100 = .ok (.ireturn, 1) := by decide +kernel
noncomputable def f_X12_tray_28 (σ : am_H) : Option (Bool × am_H) :=
  (f_X12_no 1 σ).bind fun p1 =>
  some (p1.1, p1.2)
set_option maxRecDepth 100000 in
set_option maxHeartbeats 4000000 in
theorem q_X12_tray_28 {X : am_X} (hX : am_ks X = am_ksM) {Q : Option Value → am_H → Prop} (σ : am_H) {o : Bool × am_H} (hf : f_X12_tray_28 σ = some o) (hk : Q (some (.int (am_b o.1))) o.2) : am_G X gm_X12_tray Q 28 [(0, .ref (am_ad X 12 0))] [] σ := by
  unfold f_X12_tray_28 at hf
  refine g_aload_n (pc := 28) 0 rfl dX12_tray_28 rfl ?_
  refine g_iconst (pc := 29) (v := 1) dX12_tray_29 (by decide) ?_
  obtain ⟨p1, hp1, hf⟩ := am_bd hf
  refine g_cV (pc := 30) (As := [.int 1]) (st := []) (st1 := [.int (am_b p1.1)]) (in_12 hX (by omega)) kk_12 mV_X12_no ln_X12_137 rfl (Nat.le_of_ble_eq_true rfl) (Nat.le_of_ble_eq_true rfl) (k_X12_no hX 1 σ hp1) dX12_tray_30 rfl rfl ?_
  have ho := Option.some.inj hf
  subst ho
  exact g_zreturn (pc := 33) (st := []) (x := p1.1) rfl dX12_tray_33 hk
noncomputable def f_X12_tray_74 (v1 : Int32) (v3 : Int32) (v4 : Int32) (σ : am_H) : Option ((Int32 × am_H) ⊕ (am_H)) :=
  if v4 < v3 then
   ((am_ix 300 ((60 * v1) + v4)).bind fun j2 =>
   (some (am_wL σ 1306 0 j2 0)).bind fun s3 =>
   some (.inl ((v4 + 1), s3)))
  else
  some (.inr σ)
set_option maxRecDepth 100000 in
set_option maxHeartbeats 4000000 in
theorem q_X12_tray_74 {X : am_X} (hX : am_ks X = am_ksM) {Q : Option Value → am_H → Prop} (v1 : Int32) (v3 : Int32) (v4 : Int32) (σ : am_H) {o : (Int32 × am_H) ⊕ (am_H)} (hf : f_X12_tray_74 v1 v3 v4 σ = some o) (hk0 : ∀ s, o = .inl s → am_G X gm_X12_tray Q 74 [(0, .ref (am_ad X 12 0)), (1, .int v1), (3, .int v3), (4, .int s.1)] [] s.2) (hk1 : ∀ t, o = .inr t → am_G X gm_X12_tray Q 99 [] [] t) : am_G X gm_X12_tray Q 74 [(0, .ref (am_ad X 12 0)), (1, .int v1), (3, .int v3), (4, .int v4)] [] σ := by
  unfold f_X12_tray_74 at hf
  refine g_iload (pc := 74) 3 rfl dX12_tray_74 ?_
  refine g_iload_n (pc := 76) 2 rfl dX12_tray_76 rfl ?_
  refine bi_ge (pc := 77) 99 dX12_tray_77 rfl (fun c1 => ?_) (fun c1 => ?_)
  · replace hf := am_ifT c1 hf
    refine g_aload_n (pc := 80) 0 rfl dX12_tray_80 rfl ?_
    refine g_getC (pc := 81) (e := 0) (in_12 hX (by omega)) fr_X12_20 dX12_tray_81 rfl ?_
    refine g_bipush (pc := 84) (v := 60) dX12_tray_84 (by decide) ?_
    refine g_iload_n (pc := 86) 1 rfl dX12_tray_86 rfl ?_
    refine g_imul (pc := 87) dX12_tray_87 ?_
    refine g_iload (pc := 88) 3 rfl dX12_tray_88 ?_
    refine g_iadd (pc := 90) dX12_tray_90 ?_
    refine g_lconst (pc := 91) (v := 0) dX12_tray_91 (by decide) ?_
    obtain ⟨j2, hj2, hf⟩ := am_bd hf
    have gj2 := am_ix_lt hj2
    obtain ⟨s3, hs3, hf⟩ := am_bd hf
    refine g_sJ (pc := 92) (in_1306 hX (by omega)) ak_1306 hj2 dX12_tray_92 (Option.some.inj hs3) ?_
    refine g_iinc (pc := 93) (v := (v4 + 1)) 3 [(4, .int (v4 + 1)), (0, .ref (am_ad X 12 0)), (1, .int v1), (3, .int v3)] dX12_tray_93 rfl rfl (Nat.le_of_ble_eq_true rfl) rfl ?_
    refine g_goto (pc := 96) 74 dX12_tray_96 rfl ?_
    have hz := hk0 _ (Option.some.inj hf).symm
    exact am_sub [1, 2, 3, 0] rfl hz
  replace hf := am_ifF c1 hf
  have hz := hk1 _ (Option.some.inj hf).symm
  exact am_sub [] rfl hz
set_option maxRecDepth 100000 in
set_option maxHeartbeats 4000000 in
theorem l_X12_tray_74 {X : am_X} (hX : am_ks X = am_ksM) {Q : Option Value → am_H → Prop} (v1 : Int32) (v3 : Int32) (σ : am_H) (s : Int32 × am_H) {o : am_H} (hf : am_loop (fun s => f_X12_tray_74 v1 v3 s.1 s.2) s = some o) (hk1 : ∀ t, o = t → am_G X gm_X12_tray Q 99 [] [] t) : am_G X gm_X12_tray Q 74 [(0, .ref (am_ad X 12 0)), (1, .int v1), (3, .int v3), (4, .int s.1)] [] s.2 := by
  refine am_loop_ind (P := fun s => am_G X gm_X12_tray Q 74 [(0, .ref (am_ad X 12 0)), (1, .int v1), (3, .int v3), (4, .int s.1)] [] s.2) (K := fun r => r = o) ?_ hf rfl
  intro s o1 hb hi hr
  exact q_X12_tray_74 hX v1 v3 s.1  s.2 hb hi (fun t e => hk1 t (hr _ e).symm)
noncomputable def f_X12_tray (v1 : Int32) (v2 : Int32) (v3 : Int32) (σ : am_H) : Option (Bool × am_H) :=
  (some (am_wI σ 12 0 1 0)).bind fun s1 =>
  (some (am_wI s1 12 0 0 0)).bind fun s2 =>
  if v1 < 0 then
   (f_X12_tray_28 s2)
  else
  if v1 < 5 then
   (if v2 < 0 then
    (f_X12_tray_28 s2)
   else
   if 3 < v2 then
    (f_X12_tray_28 s2)
   else
   if 60 < v3 then
    ((f_X12_no 5 s2).bind fun p8 =>
    some (p8.1, p8.2))
   else
   if v3 < 0 then
    ((f_X12_no 6 s2).bind fun p10 =>
    some (p10.1, p10.2))
   else
   (am_ix 5 v1).bind fun j11 =>
   (some (am_wI s2 1304 0 j11 v2)).bind fun s12 =>
   (am_ix 5 v1).bind fun j13 =>
   (some (am_wI s12 1305 0 j13 v3)).bind fun s14 =>
   (am_loop (fun s => f_X12_tray_74 v1 v3 s.1 s.2) (0, s14)).bind fun w15 =>
   some (true, w15))
  else
  f_X12_tray_28 s2
set_option maxRecDepth 100000 in
set_option maxHeartbeats 4000000 in
theorem q_X12_tray {X : am_X} (hX : am_ks X = am_ksM) {Q : Option Value → am_H → Prop} (v1 : Int32) (v2 : Int32) (v3 : Int32) (σ : am_H) {o : Bool × am_H} (hf : f_X12_tray v1 v2 v3 σ = some o) (hk : Q (some (.int (am_b o.1))) o.2) : am_G X gm_X12_tray Q 0 [(0, .ref (am_ad X 12 0)), (1, .int v1), (2, .int v2), (3, .int v3)] [] σ := by
  unfold f_X12_tray at hf
  refine g_aload_n (pc := 0) 0 rfl dX12_tray_0 rfl ?_
  refine g_iconst (pc := 1) (v := 0) dX12_tray_1 (by decide) ?_
  obtain ⟨s1, hs1, hf⟩ := am_bd hf
  refine g_setI (pc := 2) (in_12 hX (by omega)) fr_X12_122 dX12_tray_2 (Option.some.inj hs1) ?_
  refine g_aload_n (pc := 5) 0 rfl dX12_tray_5 rfl ?_
  refine g_iconst (pc := 6) (v := 0) dX12_tray_6 (by decide) ?_
  obtain ⟨s2, hs2, hf⟩ := am_bd hf
  refine g_setI (pc := 7) (in_12 hX (by omega)) fr_X12_125 dX12_tray_7 (Option.some.inj hs2) ?_
  refine g_iload_n (pc := 10) 1 rfl dX12_tray_10 rfl ?_
  refine bz_lt (pc := 11) 28 dX12_tray_11 rfl (fun c3 => ?_) (fun c3 => ?_)
  · replace hf := am_ifT c3 hf
    exact am_sub [0] rfl (q_X12_tray_28 hX s2 hf hk)
  replace hf := am_ifF c3 hf
  refine g_iload_n (pc := 14) 1 rfl dX12_tray_14 rfl ?_
  refine g_iconst (pc := 15) (v := 5) dX12_tray_15 (by decide) ?_
  refine bi_ge (pc := 16) 28 dX12_tray_16 rfl (fun c4 => ?_) (fun c4 => ?_)
  · replace hf := am_ifT c4 hf
    refine g_iload_n (pc := 19) 2 rfl dX12_tray_19 rfl ?_
    refine bz_lt (pc := 20) 28 dX12_tray_20 rfl (fun c5 => ?_) (fun c5 => ?_)
    · replace hf := am_ifT c5 hf
      exact am_sub [0] rfl (q_X12_tray_28 hX s2 hf hk)
    replace hf := am_ifF c5 hf
    refine g_iload_n (pc := 23) 2 rfl dX12_tray_23 rfl ?_
    refine g_iconst (pc := 24) (v := 3) dX12_tray_24 (by decide) ?_
    refine bi_le (pc := 25) 34 dX12_tray_25 rfl (fun c6 => ?_) (fun c6 => ?_)
    · replace hf := am_ifT c6 hf
      exact am_sub [0] rfl (q_X12_tray_28 hX s2 hf hk)
    replace hf := am_ifF c6 hf
    refine g_iload_n (pc := 34) 3 rfl dX12_tray_34 rfl ?_
    refine g_bipush (pc := 35) (v := 60) dX12_tray_35 (by decide) ?_
    refine bi_le (pc := 37) 46 dX12_tray_37 rfl (fun c7 => ?_) (fun c7 => ?_)
    · replace hf := am_ifT c7 hf
      refine g_aload_n (pc := 40) 0 rfl dX12_tray_40 rfl ?_
      refine g_iconst (pc := 41) (v := 5) dX12_tray_41 (by decide) ?_
      obtain ⟨p8, hp8, hf⟩ := am_bd hf
      refine g_cV (pc := 42) (As := [.int 5]) (st := []) (st1 := [.int (am_b p8.1)]) (in_12 hX (by omega)) kk_12 mV_X12_no ln_X12_137 rfl (Nat.le_of_ble_eq_true rfl) (Nat.le_of_ble_eq_true rfl) (k_X12_no hX 5 s2 hp8) dX12_tray_42 rfl rfl ?_
      have ho := Option.some.inj hf
      subst ho
      exact g_zreturn (pc := 45) (st := []) (x := p8.1) rfl dX12_tray_45 hk
    replace hf := am_ifF c7 hf
    refine g_iload_n (pc := 46) 3 rfl dX12_tray_46 rfl ?_
    refine bz_ge (pc := 47) 57 dX12_tray_47 rfl (fun c9 => ?_) (fun c9 => ?_)
    · replace hf := am_ifT c9 hf
      refine g_aload_n (pc := 50) 0 rfl dX12_tray_50 rfl ?_
      refine g_bipush (pc := 51) (v := 6) dX12_tray_51 (by decide) ?_
      obtain ⟨p10, hp10, hf⟩ := am_bd hf
      refine g_cV (pc := 53) (As := [.int 6]) (st := []) (st1 := [.int (am_b p10.1)]) (in_12 hX (by omega)) kk_12 mV_X12_no ln_X12_137 rfl (Nat.le_of_ble_eq_true rfl) (Nat.le_of_ble_eq_true rfl) (k_X12_no hX 6 s2 hp10) dX12_tray_53 rfl rfl ?_
      have ho := Option.some.inj hf
      subst ho
      exact g_zreturn (pc := 56) (st := []) (x := p10.1) rfl dX12_tray_56 hk
    replace hf := am_ifF c9 hf
    refine g_aload_n (pc := 57) 0 rfl dX12_tray_57 rfl ?_
    refine g_getC (pc := 58) (e := 0) (in_12 hX (by omega)) fr_X12_13 dX12_tray_58 rfl ?_
    refine g_iload_n (pc := 61) 1 rfl dX12_tray_61 rfl ?_
    refine g_iload_n (pc := 62) 2 rfl dX12_tray_62 rfl ?_
    obtain ⟨j11, hj11, hf⟩ := am_bd hf
    have gj11 := am_ix_lt hj11
    obtain ⟨s12, hs12, hf⟩ := am_bd hf
    refine g_sI (pc := 63) (in_1304 hX (by omega)) ak_1304 hj11 dX12_tray_63 (Option.some.inj hs12) ?_
    refine g_aload_n (pc := 64) 0 rfl dX12_tray_64 rfl ?_
    refine g_getC (pc := 65) (e := 0) (in_12 hX (by omega)) fr_X12_17 dX12_tray_65 rfl ?_
    refine g_iload_n (pc := 68) 1 rfl dX12_tray_68 rfl ?_
    refine g_iload_n (pc := 69) 3 rfl dX12_tray_69 rfl ?_
    obtain ⟨j13, hj13, hf⟩ := am_bd hf
    have gj13 := am_ix_lt hj13
    obtain ⟨s14, hs14, hf⟩ := am_bd hf
    refine g_sI (pc := 70) (in_1305 hX (by omega)) ak_1305 hj13 dX12_tray_70 (Option.some.inj hs14) ?_
    refine g_iconst (pc := 71) (v := 0) dX12_tray_71 (by decide) ?_
    refine g_istore (pc := 72) [(4, .int 0), (0, .ref (am_ad X 12 0)), (1, .int v1), (2, .int v2), (3, .int v3)] dX12_tray_72 (Nat.le_of_ble_eq_true rfl) rfl ?_
    obtain ⟨w15, hw15, hf⟩ := am_bd hf
    refine am_sub [1, 2, 4, 0] rfl (l_X12_tray_74 hX v1 v3  s14 (0, s14) hw15 ?_)
    intro t e
    subst e
    refine g_iconst (pc := 99) (v := 1) dX12_tray_99 (by decide) ?_
    have ho := Option.some.inj hf
    subst ho
    exact g_zreturn (pc := 100) (st := []) (x := true) rfl dX12_tray_100 hk
  replace hf := am_ifF c4 hf
  exact am_sub [0] rfl (q_X12_tray_28 hX s2 hf hk)
theorem k_X12_tray {X : am_X} (hX : am_ks X = am_ksM) (v1 : Int32) (v2 : Int32) (v3 : Int32) (σ : am_H) {o : Bool × am_H} (hf : f_X12_tray v1 v2 v3 σ = some o) : am_C X gm_X12_tray [.ref (am_ad X 12 0), .int v1, .int v2, .int v3] σ (am_is (some (.int (am_b o.1))) o.2) :=
  am_ofG rfl (Nat.le_of_ble_eq_true rfl) rfl (q_X12_tray hX v1 v2 v3 σ hf ⟨rfl, rfl⟩)
theorem dX12_trayed_0 : decode cX12_trayed 0 = .ok (.iload_n 1, 1) := by decide +kernel
theorem dX12_trayed_1 : decode cX12_trayed 1 = .ok (.ifCond .lt 8, 3) := by decide +kernel
theorem dX12_trayed_4 : decode cX12_trayed 4 = .ok (.iload_n 1, 1) := by decide +kernel
theorem dX12_trayed_5 : decode cX12_trayed 5 = .ok (.iconst 5, 1) := by decide +kernel
theorem dX12_trayed_6 : decode cX12_trayed 6 = .ok (.if_icmp .lt 7, 3) := by decide +kernel
theorem dX12_trayed_9 : decode cX12_trayed 9 = .ok (.iconst 1, 1) := by decide +kernel
theorem dX12_trayed_10 : decode cX12_trayed 10 = .ok (.goto 17, 3) := by decide +kernel
theorem dX12_trayed_13 : decode cX12_trayed 13 = .ok (.aload_n 0, 1) := by decide +kernel
theorem dX12_trayed_14 : decode cX12_trayed 14 = .ok (.getfield 17, 3) := by decide +kernel
theorem dX12_trayed_17 : decode cX12_trayed 17 = .ok (.iload_n 1, 1) := by decide +kernel
theorem dX12_trayed_18 : decode cX12_trayed 18 = .ok (.iaload, 1) := by decide +kernel
theorem dX12_trayed_19 : decode cX12_trayed 19 = .ok (.ifCond .ge 7, 3) := by decide +kernel
theorem dX12_trayed_22 : decode cX12_trayed 22 = .ok (.iconst 3, 1) := by decide +kernel
theorem dX12_trayed_23 : decode cX12_trayed 23 = .ok (.goto 4, 3) := by decide +kernel
theorem dX12_trayed_26 : decode cX12_trayed 26 = .ok (.iconst 0, 1) := by decide +kernel
theorem dX12_trayed_27 : decode cX12_trayed 27 = .ok (.ireturn, 1) := by decide +kernel
noncomputable def f_X12_trayed (v1 : Int32) (σ : am_H) : Option (Int32) :=
  if v1 < 0 then
   (some 1)
  else
  if v1 < 5 then
   ((am_ix 5 v1).bind fun j3 =>
   if (σ.1 1305 0 j3) < 0 then
    (some 3)
   else
   some 0)
  else
  some 1
set_option maxRecDepth 100000 in
set_option maxHeartbeats 4000000 in
theorem q_X12_trayed {X : am_X} (hX : am_ks X = am_ksM) {Q : Option Value → am_H → Prop} (v1 : Int32) (σ : am_H) {o : Int32} (hf : f_X12_trayed v1 σ = some o) (hk : Q (some (.int o)) σ) : am_G X gm_X12_trayed Q 0 [(0, .ref (am_ad X 12 0)), (1, .int v1)] [] σ := by
  unfold f_X12_trayed at hf
  refine g_iload_n (pc := 0) 1 rfl dX12_trayed_0 rfl ?_
  refine bz_lt (pc := 1) 9 dX12_trayed_1 rfl (fun c1 => ?_) (fun c1 => ?_)
  · replace hf := am_ifT c1 hf
    refine g_iconst (pc := 9) (v := 1) dX12_trayed_9 (by decide) ?_
    refine g_goto (pc := 10) 27 dX12_trayed_10 rfl ?_
    have ho := Option.some.inj hf
    subst ho
    exact g_ireturn (pc := 27) (st := []) rfl dX12_trayed_27 hk
  replace hf := am_ifF c1 hf
  refine g_iload_n (pc := 4) 1 rfl dX12_trayed_4 rfl ?_
  refine g_iconst (pc := 5) (v := 5) dX12_trayed_5 (by decide) ?_
  refine bi_lt (pc := 6) 13 dX12_trayed_6 rfl (fun c2 => ?_) (fun c2 => ?_)
  · replace hf := am_ifT c2 hf
    refine g_aload_n (pc := 13) 0 rfl dX12_trayed_13 rfl ?_
    refine g_getC (pc := 14) (e := 0) (in_12 hX (by omega)) fr_X12_17 dX12_trayed_14 rfl ?_
    refine g_iload_n (pc := 17) 1 rfl dX12_trayed_17 rfl ?_
    obtain ⟨j3, hj3, hf⟩ := am_bd hf
    have gj3 := am_ix_lt hj3
    refine g_aI (pc := 18) (in_1305 hX (by omega)) ak_1305 hj3 dX12_trayed_18 ?_
    refine bz_ge (pc := 19) 26 dX12_trayed_19 rfl (fun c4 => ?_) (fun c4 => ?_)
    · replace hf := am_ifT c4 hf
      refine g_iconst (pc := 22) (v := 3) dX12_trayed_22 (by decide) ?_
      refine g_goto (pc := 23) 27 dX12_trayed_23 rfl ?_
      have ho := Option.some.inj hf
      subst ho
      exact g_ireturn (pc := 27) (st := []) rfl dX12_trayed_27 hk
    replace hf := am_ifF c4 hf
    refine g_iconst (pc := 26) (v := 0) dX12_trayed_26 (by decide) ?_
    have ho := Option.some.inj hf
    subst ho
    exact g_ireturn (pc := 27) (st := []) rfl dX12_trayed_27 hk
  replace hf := am_ifF c2 hf
  refine g_iconst (pc := 9) (v := 1) dX12_trayed_9 (by decide) ?_
  refine g_goto (pc := 10) 27 dX12_trayed_10 rfl ?_
  have ho := Option.some.inj hf
  subst ho
  exact g_ireturn (pc := 27) (st := []) rfl dX12_trayed_27 hk
theorem k_X12_trayed {X : am_X} (hX : am_ks X = am_ksM) (v1 : Int32) (σ : am_H) {o : Int32} (hf : f_X12_trayed v1 σ = some o) : am_C X gm_X12_trayed [.ref (am_ad X 12 0), .int v1] σ (am_is (some (.int o)) σ) :=
  am_ofG rfl (Nat.le_of_ble_eq_true rfl) rfl (q_X12_trayed hX v1 σ hf ⟨rfl, rfl⟩)
theorem dX12_placed_0 : decode cX12_placed 0 = .ok (.aload_n 0, 1) := by decide +kernel
theorem dX12_placed_1 : decode cX12_placed 1 = .ok (.iload_n 1, 1) := by decide +kernel
theorem dX12_placed_2 : decode cX12_placed 2 = .ok (.invokevirtual 141, 3) := by decide +kernel
theorem dX12_placed_5 : decode cX12_placed 5 = .ok (.istore_n 3, 1) := by decide +kernel
theorem dX12_placed_6 : decode cX12_placed 6 = .ok (.iload_n 3, 1) := by decide +kernel
theorem dX12_placed_7 : decode cX12_placed 7 = .ok (.ifCond .le 7, 3) := by decide +kernel
theorem dX12_placed_10 : decode cX12_placed 10 = .ok (.iload_n 3, 1) := by decide +kernel
theorem dX12_placed_11 : decode cX12_placed 11 = .ok (.goto 22, 3) := by decide +kernel
theorem dX12_placed_14 : decode cX12_placed 14 = .ok (.iload_n 2, 1) := by decide +kernel
theorem dX12_placed_15 : decode cX12_placed 15 = .ok (.ifCond .lt 13, 3) := by decide +kernel
theorem dX12_placed_18 : decode cX12_placed 18 = .ok (.iload_n 2, 1) := by decide +kernel
theorem dX12_placed_19 : decode cX12_placed 19 = .ok (.aload_n 0, 1) := by decide +kernel
theorem dX12_placed_20 : decode cX12_placed 20 = .ok (.getfield 17, 3) := by decide +kernel
theorem dX12_placed_23 : decode cX12_placed 23 = .ok (.iload_n 1, 1) := by decide +kernel
theorem dX12_placed_24 : decode cX12_placed 24 = .ok (.iaload, 1) := by decide +kernel
theorem dX12_placed_25 : decode cX12_placed 25 = .ok (.if_icmp .lt 7, 3) := by decide +kernel
theorem dX12_placed_28 : decode cX12_placed 28 = .ok (.iconst 4, 1) := by decide +kernel
theorem dX12_placed_29 : decode cX12_placed 29 = .ok (.goto 4, 3) := by decide +kernel
theorem dX12_placed_32 : decode cX12_placed 32 = .ok (.iconst 0, 1) := by decide +kernel
theorem dX12_placed_33 : decode cX12_placed 33 = .ok (.ireturn, 1) := by decide +kernel
noncomputable def f_X12_placed (v1 : Int32) (v2 : Int32) (σ : am_H) : Option (Int32) :=
  (f_X12_trayed v1 σ).bind fun p1 =>
  if 0 < p1 then
   (some p1)
  else
  if v2 < 0 then
   (some 4)
  else
  (am_ix 5 v1).bind fun j4 =>
  if v2 < (σ.1 1305 0 j4) then
   (some 0)
  else
  some 4
set_option maxRecDepth 100000 in
set_option maxHeartbeats 4000000 in
theorem q_X12_placed {X : am_X} (hX : am_ks X = am_ksM) {Q : Option Value → am_H → Prop} (v1 : Int32) (v2 : Int32) (σ : am_H) {o : Int32} (hf : f_X12_placed v1 v2 σ = some o) (hk : Q (some (.int o)) σ) : am_G X gm_X12_placed Q 0 [(0, .ref (am_ad X 12 0)), (1, .int v1), (2, .int v2)] [] σ := by
  unfold f_X12_placed at hf
  refine g_aload_n (pc := 0) 0 rfl dX12_placed_0 rfl ?_
  refine g_iload_n (pc := 1) 1 rfl dX12_placed_1 rfl ?_
  obtain ⟨p1, hp1, hf⟩ := am_bd hf
  refine g_cV (pc := 2) (As := [.int v1]) (st := []) (st1 := [.int p1]) (in_12 hX (by omega)) kk_12 mV_X12_trayed ln_X12_141 rfl (Nat.le_of_ble_eq_true rfl) (Nat.le_of_ble_eq_true rfl) (k_X12_trayed hX v1 σ hp1) dX12_placed_2 rfl rfl ?_
  refine g_istore_n (pc := 5) [(3, .int p1), (0, .ref (am_ad X 12 0)), (1, .int v1), (2, .int v2)] dX12_placed_5 rfl (Nat.le_of_ble_eq_true rfl) rfl ?_
  refine g_iload_n (pc := 6) 0 rfl dX12_placed_6 rfl ?_
  refine bz_le (pc := 7) 14 dX12_placed_7 rfl (fun c2 => ?_) (fun c2 => ?_)
  · replace hf := am_ifT c2 hf
    refine g_iload_n (pc := 10) 0 rfl dX12_placed_10 rfl ?_
    refine g_goto (pc := 11) 33 dX12_placed_11 rfl ?_
    have ho := Option.some.inj hf
    subst ho
    exact g_ireturn (pc := 33) (st := []) rfl dX12_placed_33 hk
  replace hf := am_ifF c2 hf
  refine g_iload_n (pc := 14) 3 rfl dX12_placed_14 rfl ?_
  refine bz_lt (pc := 15) 28 dX12_placed_15 rfl (fun c3 => ?_) (fun c3 => ?_)
  · replace hf := am_ifT c3 hf
    refine g_iconst (pc := 28) (v := 4) dX12_placed_28 (by decide) ?_
    refine g_goto (pc := 29) 33 dX12_placed_29 rfl ?_
    have ho := Option.some.inj hf
    subst ho
    exact g_ireturn (pc := 33) (st := []) rfl dX12_placed_33 hk
  replace hf := am_ifF c3 hf
  refine g_iload_n (pc := 18) 3 rfl dX12_placed_18 rfl ?_
  refine g_aload_n (pc := 19) 1 rfl dX12_placed_19 rfl ?_
  refine g_getC (pc := 20) (e := 0) (in_12 hX (by omega)) fr_X12_17 dX12_placed_20 rfl ?_
  refine g_iload_n (pc := 23) 2 rfl dX12_placed_23 rfl ?_
  obtain ⟨j4, hj4, hf⟩ := am_bd hf
  have gj4 := am_ix_lt hj4
  refine g_aI (pc := 24) (in_1305 hX (by omega)) ak_1305 hj4 dX12_placed_24 ?_
  refine bi_lt (pc := 25) 32 dX12_placed_25 rfl (fun c5 => ?_) (fun c5 => ?_)
  · replace hf := am_ifT c5 hf
    refine g_iconst (pc := 32) (v := 0) dX12_placed_32 (by decide) ?_
    have ho := Option.some.inj hf
    subst ho
    exact g_ireturn (pc := 33) (st := []) rfl dX12_placed_33 hk
  replace hf := am_ifF c5 hf
  refine g_iconst (pc := 28) (v := 4) dX12_placed_28 (by decide) ?_
  refine g_goto (pc := 29) 33 dX12_placed_29 rfl ?_
  have ho := Option.some.inj hf
  subst ho
  exact g_ireturn (pc := 33) (st := []) rfl dX12_placed_33 hk
theorem k_X12_placed {X : am_X} (hX : am_ks X = am_ksM) (v1 : Int32) (v2 : Int32) (σ : am_H) {o : Int32} (hf : f_X12_placed v1 v2 σ = some o) : am_C X gm_X12_placed [.ref (am_ad X 12 0), .int v1, .int v2] σ (am_is (some (.int o)) σ) :=
  am_ofG rfl (Nat.le_of_ble_eq_true rfl) rfl (q_X12_placed hX v1 v2 σ hf ⟨rfl, rfl⟩)
theorem dX12_write_0 : decode cX12_write 0 = .ok (.aload_n 0, 1) := by decide +kernel
theorem dX12_write_1 : decode cX12_write 1 = .ok (.iconst 0, 1) := by decide +kernel
theorem dX12_write_2 : decode cX12_write 2 = .ok (.putfield 122, 3) := by decide +kernel
theorem dX12_write_5 : decode cX12_write 5 = .ok (.aload_n 0, 1) := by decide +kernel
theorem dX12_write_6 : decode cX12_write 6 = .ok (.aload_n 0, 1) := by decide +kernel
theorem dX12_write_7 : decode cX12_write 7 = .ok (.iload_n 1, 1) := by decide +kernel
theorem dX12_write_8 : decode cX12_write 8 = .ok (.iload_n 2, 1) := by decide +kernel
theorem dX12_write_9 : decode cX12_write 9 = .ok (.invokevirtual 145, 3) := by decide +kernel
theorem dX12_write_12 : decode cX12_write 12 = .ok (.putfield 125, 3) := by decide +kernel
theorem dX12_write_15 : decode cX12_write 15 = .ok (.aload_n 0, 1) := by decide +kernel
theorem dX12_write_16 : decode cX12_write 16 = .ok (.getfield 125, 3) := by decide +kernel
theorem dX12_write_19 : decode cX12_write 19 = .ok (.ifCond .le 5, 3) := by decide +kernel
theorem dX12_write_22 : decode cX12_write 22 = .ok (.iconst 0, 1) := by decide +kernel
theorem dX12_write_23 : decode cX12_write 23 = .ok (.ireturn, 1) := by decide +kernel
theorem dX12_write_24 : decode cX12_write 24 = .ok (.aload_n 0, 1) := by decide +kernel
theorem dX12_write_25 : decode cX12_write 25 = .ok (.getfield 20, 3) := by decide +kernel
theorem dX12_write_28 : decode cX12_write 28 = .ok (.bipush 60, 2) := by decide +kernel
theorem dX12_write_30 : decode cX12_write 30 = .ok (.iload_n 1, 1) := by decide +kernel
theorem dX12_write_31 : decode cX12_write 31 = .ok (.imul, 1) := by decide +kernel
theorem dX12_write_32 : decode cX12_write 32 = .ok (.iload_n 2, 1) := by decide +kernel
theorem dX12_write_33 : decode cX12_write 33 = .ok (.iadd, 1) := by decide +kernel
theorem dX12_write_34 : decode cX12_write 34 = .ok (.aload_n 0, 1) := by decide +kernel
theorem dX12_write_35 : decode cX12_write 35 = .ok (.getfield 13, 3) := by decide +kernel
theorem dX12_write_38 : decode cX12_write 38 = .ok (.iload_n 1, 1) := by decide +kernel
theorem dX12_write_39 : decode cX12_write 39 = .ok (.iaload, 1) := by decide +kernel
theorem dX12_write_40 : decode cX12_write 40 = .ok (.lload_n 3, 1) := by decide +kernel
theorem dX12_write_41 : decode cX12_write 41 = .ok (.invokestatic 149, 3) := by decide +kernel
theorem dX12_write_44 : decode cX12_write 44 = .ok (.lastore, 1) := by decide +kernel
theorem dX12_write_45 : decode cX12_write 45 = .ok (.iconst 1, 1) := by decide +kernel
theorem dX12_write_46 : decode cX12_write 46 = .ok (.ireturn, 1) := by decide +kernel
noncomputable def f_X12_write (v1 : Int32) (v2 : Int32) (v3 : Int64) (σ : am_H) : Option (Bool × am_H) :=
  (some (am_wI σ 12 0 1 0)).bind fun s1 =>
  (f_X12_placed v1 v2 s1).bind fun p2 =>
  (some (am_wI s1 12 0 0 p2)).bind fun s3 =>
  if 0 < (s3.1 12 0 0) then
   (some (false, s3))
  else
  (am_ix 5 v1).bind fun j5 =>
  (f_X12_cut (s3.1 1304 0 j5) v3 s3).bind fun p6 =>
  (am_ix 300 ((60 * v1) + v2)).bind fun j7 =>
  (some (am_wL s3 1306 0 j7 p6)).bind fun s8 =>
  some (true, s8)
set_option maxRecDepth 100000 in
set_option maxHeartbeats 4000000 in
theorem q_X12_write {X : am_X} (hX : am_ks X = am_ksM) {Q : Option Value → am_H → Prop} (v1 : Int32) (v2 : Int32) (v3 : Int64) (σ : am_H) {o : Bool × am_H} (hf : f_X12_write v1 v2 v3 σ = some o) (hk : Q (some (.int (am_b o.1))) o.2) : am_G X gm_X12_write Q 0 [(0, .ref (am_ad X 12 0)), (1, .int v1), (2, .int v2), (3, .long v3)] [] σ := by
  unfold f_X12_write at hf
  refine g_aload_n (pc := 0) 0 rfl dX12_write_0 rfl ?_
  refine g_iconst (pc := 1) (v := 0) dX12_write_1 (by decide) ?_
  obtain ⟨s1, hs1, hf⟩ := am_bd hf
  refine g_setI (pc := 2) (in_12 hX (by omega)) fr_X12_122 dX12_write_2 (Option.some.inj hs1) ?_
  refine g_aload_n (pc := 5) 0 rfl dX12_write_5 rfl ?_
  refine g_aload_n (pc := 6) 0 rfl dX12_write_6 rfl ?_
  refine g_iload_n (pc := 7) 1 rfl dX12_write_7 rfl ?_
  refine g_iload_n (pc := 8) 2 rfl dX12_write_8 rfl ?_
  obtain ⟨p2, hp2, hf⟩ := am_bd hf
  refine g_cV (pc := 9) (As := [.int v1, .int v2]) (st := [.ref (am_ad X 12 0)]) (st1 := [.int p2, .ref (am_ad X 12 0)]) (in_12 hX (by omega)) kk_12 mV_X12_placed ln_X12_145 rfl (Nat.le_of_ble_eq_true rfl) (Nat.le_of_ble_eq_true rfl) (k_X12_placed hX v1 v2 s1 hp2) dX12_write_9 rfl rfl ?_
  obtain ⟨s3, hs3, hf⟩ := am_bd hf
  refine g_setI (pc := 12) (in_12 hX (by omega)) fr_X12_125 dX12_write_12 (Option.some.inj hs3) ?_
  refine g_aload_n (pc := 15) 0 rfl dX12_write_15 rfl ?_
  refine g_getI (pc := 16) (in_12 hX (by omega)) fr_X12_125 dX12_write_16 ?_
  refine bz_le (pc := 19) 24 dX12_write_19 rfl (fun c4 => ?_) (fun c4 => ?_)
  · replace hf := am_ifT c4 hf
    refine g_iconst (pc := 22) (v := 0) dX12_write_22 (by decide) ?_
    have ho := Option.some.inj hf
    subst ho
    exact g_zreturn (pc := 23) (st := []) (x := false) rfl dX12_write_23 hk
  replace hf := am_ifF c4 hf
  refine g_aload_n (pc := 24) 0 rfl dX12_write_24 rfl ?_
  refine g_getC (pc := 25) (e := 0) (in_12 hX (by omega)) fr_X12_20 dX12_write_25 rfl ?_
  refine g_bipush (pc := 28) (v := 60) dX12_write_28 (by decide) ?_
  refine g_iload_n (pc := 30) 1 rfl dX12_write_30 rfl ?_
  refine g_imul (pc := 31) dX12_write_31 ?_
  refine g_iload_n (pc := 32) 2 rfl dX12_write_32 rfl ?_
  refine g_iadd (pc := 33) dX12_write_33 ?_
  refine g_aload_n (pc := 34) 0 rfl dX12_write_34 rfl ?_
  refine g_getC (pc := 35) (e := 0) (in_12 hX (by omega)) fr_X12_13 dX12_write_35 rfl ?_
  refine g_iload_n (pc := 38) 1 rfl dX12_write_38 rfl ?_
  obtain ⟨j5, hj5, hf⟩ := am_bd hf
  have gj5 := am_ix_lt hj5
  refine g_aI (pc := 39) (in_1304 hX (by omega)) ak_1304 hj5 dX12_write_39 ?_
  refine g_lload_n (pc := 40) 3 rfl dX12_write_40 rfl ?_
  obtain ⟨p6, hp6, hf⟩ := am_bd hf
  refine g_cS (pc := 41) (As := [.int (s3.1 1304 0 j5), .long v3]) (st := [.int ((60 * v1) + v2), .ref (am_ad X 1306 0)]) (st1 := [.long p6, .int ((60 * v1) + v2), .ref (am_ad X 1306 0)]) mS_X12_cut ln_X12_149 rfl (Nat.le_of_ble_eq_true rfl) (Nat.le_of_ble_eq_true rfl) (k_X12_cut hX (s3.1 1304 0 j5) v3 s3 hp6) dX12_write_41 rfl rfl ?_
  obtain ⟨j7, hj7, hf⟩ := am_bd hf
  have gj7 := am_ix_lt hj7
  obtain ⟨s8, hs8, hf⟩ := am_bd hf
  refine g_sJ (pc := 44) (in_1306 hX (by omega)) ak_1306 hj7 dX12_write_44 (Option.some.inj hs8) ?_
  refine g_iconst (pc := 45) (v := 1) dX12_write_45 (by decide) ?_
  have ho := Option.some.inj hf
  subst ho
  exact g_zreturn (pc := 46) (st := []) (x := true) rfl dX12_write_46 hk
theorem k_X12_write {X : am_X} (hX : am_ks X = am_ksM) (v1 : Int32) (v2 : Int32) (v3 : Int64) (σ : am_H) {o : Bool × am_H} (hf : f_X12_write v1 v2 v3 σ = some o) : am_C X gm_X12_write [.ref (am_ad X 12 0), .int v1, .int v2, .long v3] σ (am_is (some (.int (am_b o.1))) o.2) :=
  am_ofG rfl (Nat.le_of_ble_eq_true rfl) rfl (q_X12_write hX v1 v2 v3 σ hf ⟨rfl, rfl⟩)
theorem dX12_read_0 : decode cX12_read 0 = .ok (.aload_n 0, 1) := by decide +kernel
theorem dX12_read_1 : decode cX12_read 1 = .ok (.iconst 0, 1) := by decide +kernel
theorem dX12_read_2 : decode cX12_read 2 = .ok (.putfield 122, 3) := by decide +kernel
theorem dX12_read_5 : decode cX12_read 5 = .ok (.aload_n 0, 1) := by decide +kernel
theorem dX12_read_6 : decode cX12_read 6 = .ok (.aload_n 0, 1) := by decide +kernel
theorem dX12_read_7 : decode cX12_read 7 = .ok (.iload_n 1, 1) := by decide +kernel
theorem dX12_read_8 : decode cX12_read 8 = .ok (.iload_n 2, 1) := by decide +kernel
theorem dX12_read_9 : decode cX12_read 9 = .ok (.invokevirtual 145, 3) := by decide +kernel
theorem dX12_read_12 : decode cX12_read 12 = .ok (.putfield 125, 3) := by decide +kernel
theorem dX12_read_15 : decode cX12_read 15 = .ok (.aload_n 0, 1) := by decide +kernel
theorem dX12_read_16 : decode cX12_read 16 = .ok (.getfield 125, 3) := by decide +kernel
theorem dX12_read_19 : decode cX12_read 19 = .ok (.ifCond .le 9, 3) := by decide +kernel
theorem dX12_read_22 : decode cX12_read 22 = .ok (.ldc2_w 153, 3) := by decide +kernel
theorem dX12_read_25 : decode cX12_read 25 = .ok (.goto 14, 3) := by decide +kernel
theorem dX12_read_28 : decode cX12_read 28 = .ok (.aload_n 0, 1) := by decide +kernel
theorem dX12_read_29 : decode cX12_read 29 = .ok (.getfield 20, 3) := by decide +kernel
theorem dX12_read_32 : decode cX12_read 32 = .ok (.bipush 60, 2) := by decide +kernel
theorem dX12_read_34 : decode cX12_read 34 = .ok (.iload_n 1, 1) := by decide +kernel
theorem dX12_read_35 : decode cX12_read 35 = .ok (.imul, 1) := by decide +kernel
theorem dX12_read_36 : decode cX12_read 36 = .ok (.iload_n 2, 1) := by decide +kernel
theorem dX12_read_37 : decode cX12_read 37 = .ok (.iadd, 1) := by decide +kernel
theorem dX12_read_38 : decode cX12_read 38 = .ok (.laload, 1) := by decide +kernel
theorem dX12_read_39 : decode cX12_read 39 = .ok (.lreturn, 1) := by decide +kernel
noncomputable def f_X12_read (v1 : Int32) (v2 : Int32) (σ : am_H) : Option (Int64 × am_H) :=
  (some (am_wI σ 12 0 1 0)).bind fun s1 =>
  (f_X12_placed v1 v2 s1).bind fun p2 =>
  (some (am_wI s1 12 0 0 p2)).bind fun s3 =>
  if 0 < (s3.1 12 0 0) then
   (some ((-1), s3))
  else
  (am_ix 300 ((60 * v1) + v2)).bind fun j5 =>
  some ((s3.2.1 1306 0 j5), s3)
set_option maxRecDepth 100000 in
set_option maxHeartbeats 4000000 in
theorem q_X12_read {X : am_X} (hX : am_ks X = am_ksM) {Q : Option Value → am_H → Prop} (v1 : Int32) (v2 : Int32) (σ : am_H) {o : Int64 × am_H} (hf : f_X12_read v1 v2 σ = some o) (hk : Q (some (.long o.1)) o.2) : am_G X gm_X12_read Q 0 [(0, .ref (am_ad X 12 0)), (1, .int v1), (2, .int v2)] [] σ := by
  unfold f_X12_read at hf
  refine g_aload_n (pc := 0) 0 rfl dX12_read_0 rfl ?_
  refine g_iconst (pc := 1) (v := 0) dX12_read_1 (by decide) ?_
  obtain ⟨s1, hs1, hf⟩ := am_bd hf
  refine g_setI (pc := 2) (in_12 hX (by omega)) fr_X12_122 dX12_read_2 (Option.some.inj hs1) ?_
  refine g_aload_n (pc := 5) 0 rfl dX12_read_5 rfl ?_
  refine g_aload_n (pc := 6) 0 rfl dX12_read_6 rfl ?_
  refine g_iload_n (pc := 7) 1 rfl dX12_read_7 rfl ?_
  refine g_iload_n (pc := 8) 2 rfl dX12_read_8 rfl ?_
  obtain ⟨p2, hp2, hf⟩ := am_bd hf
  refine g_cV (pc := 9) (As := [.int v1, .int v2]) (st := [.ref (am_ad X 12 0)]) (st1 := [.int p2, .ref (am_ad X 12 0)]) (in_12 hX (by omega)) kk_12 mV_X12_placed ln_X12_145 rfl (Nat.le_of_ble_eq_true rfl) (Nat.le_of_ble_eq_true rfl) (k_X12_placed hX v1 v2 s1 hp2) dX12_read_9 rfl rfl ?_
  obtain ⟨s3, hs3, hf⟩ := am_bd hf
  refine g_setI (pc := 12) (in_12 hX (by omega)) fr_X12_125 dX12_read_12 (Option.some.inj hs3) ?_
  refine g_aload_n (pc := 15) 0 rfl dX12_read_15 rfl ?_
  refine g_getI (pc := 16) (in_12 hX (by omega)) fr_X12_125 dX12_read_16 ?_
  refine bz_le (pc := 19) 28 dX12_read_19 rfl (fun c4 => ?_) (fun c4 => ?_)
  · replace hf := am_ifT c4 hf
    refine g_ldc2 (pc := 22) (v := (-1)) (tb_8 (List.mem_of_getElem? (i := 106) (by decide +kernel))) dX12_read_22 ?_
    refine g_goto (pc := 25) 39 dX12_read_25 rfl ?_
    have ho := Option.some.inj hf
    subst ho
    exact g_lreturn (pc := 39) (st := []) rfl dX12_read_39 hk
  replace hf := am_ifF c4 hf
  refine g_aload_n (pc := 28) 0 rfl dX12_read_28 rfl ?_
  refine g_getC (pc := 29) (e := 0) (in_12 hX (by omega)) fr_X12_20 dX12_read_29 rfl ?_
  refine g_bipush (pc := 32) (v := 60) dX12_read_32 (by decide) ?_
  refine g_iload_n (pc := 34) 1 rfl dX12_read_34 rfl ?_
  refine g_imul (pc := 35) dX12_read_35 ?_
  refine g_iload_n (pc := 36) 2 rfl dX12_read_36 rfl ?_
  refine g_iadd (pc := 37) dX12_read_37 ?_
  obtain ⟨j5, hj5, hf⟩ := am_bd hf
  have gj5 := am_ix_lt hj5
  refine g_aJ (pc := 38) (in_1306 hX (by omega)) ak_1306 hj5 dX12_read_38 ?_
  have ho := Option.some.inj hf
  subst ho
  exact g_lreturn (pc := 39) (st := []) rfl dX12_read_39 hk
theorem k_X12_read {X : am_X} (hX : am_ks X = am_ksM) (v1 : Int32) (v2 : Int32) (σ : am_H) {o : Int64 × am_H} (hf : f_X12_read v1 v2 σ = some o) : am_C X gm_X12_read [.ref (am_ad X 12 0), .int v1, .int v2] σ (am_is (some (.long o.1)) o.2) :=
  am_ofG rfl (Nat.le_of_ble_eq_true rfl) rfl (q_X12_read hX v1 v2 σ hf ⟨rfl, rfl⟩)
theorem dX12_pour_0 : decode cX12_pour 0 = .ok (.aload_n 0, 1) := by decide +kernel
theorem dX12_pour_1 : decode cX12_pour 1 = .ok (.iconst 0, 1) := by decide +kernel
theorem dX12_pour_2 : decode cX12_pour 2 = .ok (.putfield 122, 3) := by decide +kernel
theorem dX12_pour_5 : decode cX12_pour 5 = .ok (.aload_n 0, 1) := by decide +kernel
theorem dX12_pour_6 : decode cX12_pour 6 = .ok (.iconst 0, 1) := by decide +kernel
theorem dX12_pour_7 : decode cX12_pour 7 = .ok (.putfield 125, 3) := by decide +kernel
theorem dX12_pour_10 : decode cX12_pour 10 = .ok (.iload_n 1, 1) := by decide +kernel
theorem dX12_pour_11 : decode cX12_pour 11 = .ok (.ifCond .lt 17, 3) := by decide +kernel
theorem dX12_pour_14 : decode cX12_pour 14 = .ok (.iload_n 1, 1) := by decide +kernel
theorem dX12_pour_15 : decode cX12_pour 15 = .ok (.iconst 5, 1) := by decide +kernel
theorem dX12_pour_16 : decode cX12_pour 16 = .ok (.if_icmp .ge 12, 3) := by decide +kernel
theorem dX12_pour_19 : decode cX12_pour 19 = .ok (.iload_n 3, 1) := by decide +kernel
theorem dX12_pour_20 : decode cX12_pour 20 = .ok (.ifCond .lt 8, 3) := by decide +kernel
theorem dX12_pour_23 : decode cX12_pour 23 = .ok (.iload_n 3, 1) := by decide +kernel
theorem dX12_pour_24 : decode cX12_pour 24 = .ok (.iconst 5, 1) := by decide +kernel
theorem dX12_pour_25 : decode cX12_pour 25 = .ok (.if_icmp .lt 9, 3) := by decide +kernel
theorem dX12_pour_28 : decode cX12_pour 28 = .ok (.aload_n 0, 1) := by decide +kernel
theorem dX12_pour_29 : decode cX12_pour 29 = .ok (.iconst 1, 1) := by decide +kernel
theorem dX12_pour_30 : decode cX12_pour 30 = .ok (.invokevirtual 137, 3) := by decide +kernel
theorem dX12_pour_33 : decode cX12_pour 33 = .ok (.ireturn, 1) := by decide +kernel
theorem dX12_pour_34 : decode cX12_pour 34 = .ok (.aload_n 0, 1) := by decide +kernel
theorem dX12_pour_35 : decode cX12_pour 35 = .ok (.getfield 17, 3) := by decide +kernel
theorem dX12_pour_38 : decode cX12_pour 38 = .ok (.iload_n 1, 1) := by decide +kernel
theorem dX12_pour_39 : decode cX12_pour 39 = .ok (.iaload, 1) := by decide +kernel
theorem dX12_pour_40 : decode cX12_pour 40 = .ok (.ifCond .lt 12, 3) := by decide +kernel
theorem dX12_pour_43 : decode cX12_pour 43 = .ok (.aload_n 0, 1) := by decide +kernel
theorem dX12_pour_44 : decode cX12_pour 44 = .ok (.getfield 17, 3) := by decide +kernel
theorem dX12_pour_47 : decode cX12_pour 47 = .ok (.iload_n 3, 1) := by decide +kernel
theorem dX12_pour_48 : decode cX12_pour 48 = .ok (.iaload, 1) := by decide +kernel
theorem dX12_pour_49 : decode cX12_pour 49 = .ok (.ifCond .ge 9, 3) := by decide +kernel
theorem dX12_pour_52 : decode cX12_pour 52 = .ok (.aload_n 0, 1) := by decide +kernel
theorem dX12_pour_53 : decode cX12_pour 53 = .ok (.iconst 3, 1) := by decide +kernel
theorem dX12_pour_54 : decode cX12_pour 54 = .ok (.invokevirtual 137, 3) := by decide +kernel
theorem dX12_pour_57 : decode cX12_pour 57 = .ok (.ireturn, 1) := by decide +kernel
theorem dX12_pour_58 : decode cX12_pour 58 = .ok (.aload_n 0, 1) := by decide +kernel
theorem dX12_pour_59 : decode cX12_pour 59 = .ok (.getfield 13, 3) := by decide +kernel
theorem dX12_pour_62 : decode cX12_pour 62 = .ok (.iload_n 1, 1) := by decide +kernel
theorem dX12_pour_63 : decode cX12_pour 63 = .ok (.iaload, 1) := by decide +kernel
theorem dX12_pour_64 : decode cX12_pour 64 = .ok (.aload_n 0, 1) := by decide +kernel
theorem dX12_pour_65 : decode cX12_pour 65 = .ok (.getfield 13, 3) := by decide +kernel
theorem dX12_pour_68 : decode cX12_pour 68 = .ok (.iload_n 3, 1) := by decide +kernel
theorem dX12_pour_69 : decode cX12_pour 69 = .ok (.iaload, 1) := by decide +kernel
theorem dX12_pour_70 : decode cX12_pour 70 = .ok (.if_icmp .eq 10, 3) := by decide +kernel
theorem dX12_pour_73 : decode cX12_pour 73 = .ok (.aload_n 0, 1) := by decide +kernel
theorem dX12_pour_74 : decode cX12_pour 74 = .ok (.bipush 11, 2) := by decide +kernel
theorem dX12_pour_76 : decode cX12_pour 76 = .ok (.invokevirtual 137, 3) := by decide +kernel
theorem dX12_pour_79 : decode cX12_pour 79 = .ok (.ireturn, 1) := by decide +kernel
theorem dX12_pour_80 : decode cX12_pour 80 = .ok (.iload 5, 2) := by decide +kernel
theorem dX12_pour_82 : decode cX12_pour 82 = .ok (.ifCond .ge 10, 3) := by decide +kernel
theorem dX12_pour_85 : decode cX12_pour 85 = .ok (.aload_n 0, 1) := by decide +kernel
theorem dX12_pour_86 : decode cX12_pour 86 = .ok (.bipush 6, 2) := by decide +kernel
theorem dX12_pour_88 : decode cX12_pour 88 = .ok (.invokevirtual 137, 3) := by decide +kernel
theorem dX12_pour_91 : decode cX12_pour 91 = .ok (.ireturn, 1) := by decide +kernel
theorem dX12_pour_92 : decode cX12_pour 92 = .ok (.iload_n 2, 1) := by decide +kernel
theorem dX12_pour_93 : decode cX12_pour 93 = .ok (.ifCond .lt 43, 3) := by decide +kernel
theorem dX12_pour_96 : decode cX12_pour 96 = .ok (.iload 4, 2) := by decide +kernel
theorem dX12_pour_98 : decode cX12_pour 98 = .ok (.ifCond .lt 38, 3) := by decide +kernel
theorem dX12_pour_101 : decode cX12_pour 101 = .ok (.iload_n 2, 1) := by decide +kernel
theorem dX12_pour_102 : decode cX12_pour 102 = .ok (.i2l, 1) := by decide +kernel
theorem dX12_pour_103 : decode cX12_pour 103 = .ok (.iload 5, 2) := by decide +kernel
theorem dX12_pour_105 : decode cX12_pour 105 = .ok (.i2l, 1) := by decide +kernel
theorem dX12_pour_106 : decode cX12_pour 106 = .ok (.ladd, 1) := by decide +kernel
theorem dX12_pour_107 : decode cX12_pour 107 = .ok (.aload_n 0, 1) := by decide +kernel
theorem dX12_pour_108 : decode cX12_pour 108 = .ok (.getfield 17, 3) := by decide +kernel
theorem dX12_pour_111 : decode cX12_pour 111 = .ok (.iload_n 1, 1) := by decide +kernel
theorem dX12_pour_112 : decode cX12_pour 112 = .ok (.iaload, 1) := by decide +kernel
theorem dX12_pour_113 : decode cX12_pour 113 = .ok (.i2l, 1) := by decide +kernel
theorem dX12_pour_114 : decode cX12_pour 114 = .ok (.lcmp, 1) := by decide +kernel
theorem dX12_pour_115 : decode cX12_pour 115 = .ok (.ifCond .gt 21, 3) := by decide +kernel
theorem dX12_pour_118 : decode cX12_pour 118 = .ok (.iload 4, 2) := by decide +kernel
theorem dX12_pour_120 : decode cX12_pour 120 = .ok (.i2l, 1) := by decide +kernel
theorem dX12_pour_121 : decode cX12_pour 121 = .ok (.iload 5, 2) := by decide +kernel
theorem dX12_pour_123 : decode cX12_pour 123 = .ok (.i2l, 1) := by decide +kernel
theorem dX12_pour_124 : decode cX12_pour 124 = .ok (.ladd, 1) := by decide +kernel
theorem dX12_pour_125 : decode cX12_pour 125 = .ok (.aload_n 0, 1) := by decide +kernel
theorem dX12_pour_126 : decode cX12_pour 126 = .ok (.getfield 17, 3) := by decide +kernel
theorem dX12_pour_129 : decode cX12_pour 129 = .ok (.iload_n 3, 1) := by decide +kernel
theorem dX12_pour_130 : decode cX12_pour 130 = .ok (.iaload, 1) := by decide +kernel
theorem dX12_pour_131 : decode cX12_pour 131 = .ok (.i2l, 1) := by decide +kernel
theorem dX12_pour_132 : decode cX12_pour 132 = .ok (.lcmp, 1) := by decide +kernel
theorem dX12_pour_133 : decode cX12_pour 133 = .ok (.ifCond .le 9, 3) := by decide +kernel
theorem dX12_pour_136 : decode cX12_pour 136 = .ok (.aload_n 0, 1) := by decide +kernel
theorem dX12_pour_137 : decode cX12_pour 137 = .ok (.iconst 4, 1) := by decide +kernel
theorem dX12_pour_138 : decode cX12_pour 138 = .ok (.invokevirtual 137, 3) := by decide +kernel
theorem dX12_pour_141 : decode cX12_pour 141 = .ok (.ireturn, 1) := by decide +kernel
theorem dX12_pour_142 : decode cX12_pour 142 = .ok (.iload_n 2, 1) := by decide +kernel
theorem dX12_pour_143 : decode cX12_pour 143 = .ok (.iload 4, 2) := by decide +kernel
theorem dX12_pour_145 : decode cX12_pour 145 = .ok (.if_icmp .ge 7, 3) := by decide +kernel
theorem dX12_pour_148 : decode cX12_pour 148 = .ok (.iconst 1, 1) := by decide +kernel
theorem dX12_pour_149 : decode cX12_pour 149 = .ok (.goto 4, 3) := by decide +kernel
theorem dX12_pour_152 : decode cX12_pour 152 = .ok (.iconst 0, 1) := by decide +kernel
theorem dX12_pour_153 : decode cX12_pour 153 = .ok (.istore 6, 2) := by decide +kernel
theorem dX12_pour_155 : decode cX12_pour 155 = .ok (.iconst 0, 1) := by decide +kernel
theorem dX12_pour_156 : decode cX12_pour 156 = .ok (.istore 7, 2) := by decide +kernel
theorem dX12_pour_158 : decode cX12_pour 158 = .ok (.iload 7, 2) := by decide +kernel
theorem dX12_pour_160 : decode cX12_pour 160 = .ok (.iload 5, 2) := by decide +kernel
theorem dX12_pour_162 : decode cX12_pour 162 = .ok (.if_icmp .ge 57, 3) := by decide +kernel
theorem dX12_pour_165 : decode cX12_pour 165 = .ok (.iload 6, 2) := by decide +kernel
theorem dX12_pour_167 : decode cX12_pour 167 = .ok (.ifCond .eq 13, 3) := by decide +kernel
theorem dX12_pour_170 : decode cX12_pour 170 = .ok (.iload 5, 2) := by decide +kernel
theorem dX12_pour_172 : decode cX12_pour 172 = .ok (.iconst 1, 1) := by decide +kernel
theorem dX12_pour_173 : decode cX12_pour 173 = .ok (.isub, 1) := by decide +kernel
theorem dX12_pour_174 : decode cX12_pour 174 = .ok (.iload 7, 2) := by decide +kernel
theorem dX12_pour_176 : decode cX12_pour 176 = .ok (.isub, 1) := by decide +kernel
theorem dX12_pour_177 : decode cX12_pour 177 = .ok (.goto 5, 3) := by decide +kernel
theorem dX12_pour_180 : decode cX12_pour 180 = .ok (.iload 7, 2) := by decide +kernel
theorem dX12_pour_182 : decode cX12_pour 182 = .ok (.istore 8, 2) := by decide +kernel
theorem dX12_pour_184 : decode cX12_pour 184 = .ok (.aload_n 0, 1) := by decide +kernel
theorem dX12_pour_185 : decode cX12_pour 185 = .ok (.getfield 20, 3) := by decide +kernel
theorem dX12_pour_188 : decode cX12_pour 188 = .ok (.bipush 60, 2) := by decide +kernel
theorem dX12_pour_190 : decode cX12_pour 190 = .ok (.iload_n 3, 1) := by decide +kernel
theorem dX12_pour_191 : decode cX12_pour 191 = .ok (.imul, 1) := by decide +kernel
theorem dX12_pour_192 : decode cX12_pour 192 = .ok (.iload 4, 2) := by decide +kernel
theorem dX12_pour_194 : decode cX12_pour 194 = .ok (.iadd, 1) := by decide +kernel
theorem dX12_pour_195 : decode cX12_pour 195 = .ok (.iload 8, 2) := by decide +kernel
theorem dX12_pour_197 : decode cX12_pour 197 = .ok (.iadd, 1) := by decide +kernel
theorem dX12_pour_198 : decode cX12_pour 198 = .ok (.aload_n 0, 1) := by decide +kernel
theorem dX12_pour_199 : decode cX12_pour 199 = .ok (.getfield 20, 3) := by decide +kernel
theorem dX12_pour_202 : decode cX12_pour 202 = .ok (.bipush 60, 2) := by decide +kernel
theorem dX12_pour_204 : decode cX12_pour 204 = .ok (.iload_n 1, 1) := by decide +kernel
theorem dX12_pour_205 : decode cX12_pour 205 = .ok (.imul, 1) := by decide +kernel
theorem dX12_pour_206 : decode cX12_pour 206 = .ok (.iload_n 2, 1) := by decide +kernel
theorem dX12_pour_207 : decode cX12_pour 207 = .ok (.iadd, 1) := by decide +kernel
theorem dX12_pour_208 : decode cX12_pour 208 = .ok (.iload 8, 2) := by decide +kernel
theorem dX12_pour_210 : decode cX12_pour 210 = .ok (.iadd, 1) := by decide +kernel
theorem dX12_pour_211 : decode cX12_pour 211 = .ok (.laload, 1) := by decide +kernel
theorem dX12_pour_212 : decode cX12_pour 212 = .ok (.lastore, 1) := by decide +kernel
theorem dX12_pour_213 : decode cX12_pour 213 = .ok (.iinc 7 1, 3) := by decide +kernel
theorem dX12_pour_216 : decode cX12_pour 216 = .ok (.goto (-58), 3) := by decide +kernel
theorem dX12_pour_219 : decode cX12_pour 219 = .ok (.iconst 1, 1) := by decide +kernel
theorem dX12_pour_220 : decode cX12_pour 220 = .ok (.ireturn, 1) := by decide +kernel
noncomputable def f_X12_pour_28 (σ : am_H) : Option (Bool × am_H) :=
  (f_X12_no 1 σ).bind fun p1 =>
  some (p1.1, p1.2)
set_option maxRecDepth 100000 in
set_option maxHeartbeats 4000000 in
theorem q_X12_pour_28 {X : am_X} (hX : am_ks X = am_ksM) {Q : Option Value → am_H → Prop} (σ : am_H) {o : Bool × am_H} (hf : f_X12_pour_28 σ = some o) (hk : Q (some (.int (am_b o.1))) o.2) : am_G X gm_X12_pour Q 28 [(0, .ref (am_ad X 12 0))] [] σ := by
  unfold f_X12_pour_28 at hf
  refine g_aload_n (pc := 28) 0 rfl dX12_pour_28 rfl ?_
  refine g_iconst (pc := 29) (v := 1) dX12_pour_29 (by decide) ?_
  obtain ⟨p1, hp1, hf⟩ := am_bd hf
  refine g_cV (pc := 30) (As := [.int 1]) (st := []) (st1 := [.int (am_b p1.1)]) (in_12 hX (by omega)) kk_12 mV_X12_no ln_X12_137 rfl (Nat.le_of_ble_eq_true rfl) (Nat.le_of_ble_eq_true rfl) (k_X12_no hX 1 σ hp1) dX12_pour_30 rfl rfl ?_
  have ho := Option.some.inj hf
  subst ho
  exact g_zreturn (pc := 33) (st := []) (x := p1.1) rfl dX12_pour_33 hk
noncomputable def f_X12_pour_52 (σ : am_H) : Option (Bool × am_H) :=
  (f_X12_no 3 σ).bind fun p1 =>
  some (p1.1, p1.2)
set_option maxRecDepth 100000 in
set_option maxHeartbeats 4000000 in
theorem q_X12_pour_52 {X : am_X} (hX : am_ks X = am_ksM) {Q : Option Value → am_H → Prop} (σ : am_H) {o : Bool × am_H} (hf : f_X12_pour_52 σ = some o) (hk : Q (some (.int (am_b o.1))) o.2) : am_G X gm_X12_pour Q 52 [(0, .ref (am_ad X 12 0))] [] σ := by
  unfold f_X12_pour_52 at hf
  refine g_aload_n (pc := 52) 0 rfl dX12_pour_52 rfl ?_
  refine g_iconst (pc := 53) (v := 3) dX12_pour_53 (by decide) ?_
  obtain ⟨p1, hp1, hf⟩ := am_bd hf
  refine g_cV (pc := 54) (As := [.int 3]) (st := []) (st1 := [.int (am_b p1.1)]) (in_12 hX (by omega)) kk_12 mV_X12_no ln_X12_137 rfl (Nat.le_of_ble_eq_true rfl) (Nat.le_of_ble_eq_true rfl) (k_X12_no hX 3 σ hp1) dX12_pour_54 rfl rfl ?_
  have ho := Option.some.inj hf
  subst ho
  exact g_zreturn (pc := 57) (st := []) (x := p1.1) rfl dX12_pour_57 hk
noncomputable def f_X12_pour_136 (σ : am_H) : Option (Bool × am_H) :=
  (f_X12_no 4 σ).bind fun p1 =>
  some (p1.1, p1.2)
set_option maxRecDepth 100000 in
set_option maxHeartbeats 4000000 in
theorem q_X12_pour_136 {X : am_X} (hX : am_ks X = am_ksM) {Q : Option Value → am_H → Prop} (σ : am_H) {o : Bool × am_H} (hf : f_X12_pour_136 σ = some o) (hk : Q (some (.int (am_b o.1))) o.2) : am_G X gm_X12_pour Q 136 [(0, .ref (am_ad X 12 0))] [] σ := by
  unfold f_X12_pour_136 at hf
  refine g_aload_n (pc := 136) 0 rfl dX12_pour_136 rfl ?_
  refine g_iconst (pc := 137) (v := 4) dX12_pour_137 (by decide) ?_
  obtain ⟨p1, hp1, hf⟩ := am_bd hf
  refine g_cV (pc := 138) (As := [.int 4]) (st := []) (st1 := [.int (am_b p1.1)]) (in_12 hX (by omega)) kk_12 mV_X12_no ln_X12_137 rfl (Nat.le_of_ble_eq_true rfl) (Nat.le_of_ble_eq_true rfl) (k_X12_no hX 4 σ hp1) dX12_pour_138 rfl rfl ?_
  have ho := Option.some.inj hf
  subst ho
  exact g_zreturn (pc := 141) (st := []) (x := p1.1) rfl dX12_pour_141 hk
noncomputable def f_X12_pour_182 (v1 : Int32) (v2 : Int32) (v3 : Int32) (v4 : Int32) (v5 : Int32) (v6 : Bool) (v7 : Int32) (k0 : Int32) (σ : am_H) : Option ((Int32 × am_H) ⊕ (am_H)) :=
  (am_ix 300 (((60 * v1) + v2) + k0)).bind fun j1 =>
  (am_ix 300 (((60 * v3) + v4) + k0)).bind fun j2 =>
  (some (am_wL σ 1306 0 j2 (σ.2.1 1306 0 j1))).bind fun s3 =>
  some (.inl ((v7 + 1), s3))
set_option maxRecDepth 100000 in
set_option maxHeartbeats 4000000 in
theorem q_X12_pour_182 {X : am_X} (hX : am_ks X = am_ksM) {Q : Option Value → am_H → Prop} (v1 : Int32) (v2 : Int32) (v3 : Int32) (v4 : Int32) (v5 : Int32) (v6 : Bool) (v7 : Int32) (k0 : Int32) (σ : am_H) {o : (Int32 × am_H) ⊕ (am_H)} (hf : f_X12_pour_182 v1 v2 v3 v4 v5 v6 v7 k0 σ = some o) (hk0 : ∀ s, o = .inl s → am_G X gm_X12_pour Q 158 [(0, .ref (am_ad X 12 0)), (1, .int v1), (2, .int v2), (3, .int v3), (4, .int v4), (5, .int v5), (6, .int (am_b v6)), (7, .int s.1)] [] s.2) (hk1 : ∀ t, o = .inr t → am_G X gm_X12_pour Q 219 [] [] t) : am_G X gm_X12_pour Q 182 [(0, .ref (am_ad X 12 0)), (1, .int v1), (2, .int v2), (3, .int v3), (4, .int v4), (5, .int v5), (6, .int (am_b v6)), (7, .int v7)] [.int k0] σ := by
  unfold f_X12_pour_182 at hf
  refine g_istore (pc := 182) [(8, .int k0), (0, .ref (am_ad X 12 0)), (1, .int v1), (2, .int v2), (3, .int v3), (4, .int v4), (5, .int v5), (6, .int (am_b v6)), (7, .int v7)] dX12_pour_182 (Nat.le_of_ble_eq_true rfl) rfl ?_
  refine g_aload_n (pc := 184) 1 rfl dX12_pour_184 rfl ?_
  refine g_getC (pc := 185) (e := 0) (in_12 hX (by omega)) fr_X12_20 dX12_pour_185 rfl ?_
  refine g_bipush (pc := 188) (v := 60) dX12_pour_188 (by decide) ?_
  refine g_iload_n (pc := 190) 4 rfl dX12_pour_190 rfl ?_
  refine g_imul (pc := 191) dX12_pour_191 ?_
  refine g_iload (pc := 192) 5 rfl dX12_pour_192 ?_
  refine g_iadd (pc := 194) dX12_pour_194 ?_
  refine g_iload (pc := 195) 0 rfl dX12_pour_195 ?_
  refine g_iadd (pc := 197) dX12_pour_197 ?_
  refine g_aload_n (pc := 198) 1 rfl dX12_pour_198 rfl ?_
  refine g_getC (pc := 199) (e := 0) (in_12 hX (by omega)) fr_X12_20 dX12_pour_199 rfl ?_
  refine g_bipush (pc := 202) (v := 60) dX12_pour_202 (by decide) ?_
  refine g_iload_n (pc := 204) 2 rfl dX12_pour_204 rfl ?_
  refine g_imul (pc := 205) dX12_pour_205 ?_
  refine g_iload_n (pc := 206) 3 rfl dX12_pour_206 rfl ?_
  refine g_iadd (pc := 207) dX12_pour_207 ?_
  refine g_iload (pc := 208) 0 rfl dX12_pour_208 ?_
  refine g_iadd (pc := 210) dX12_pour_210 ?_
  obtain ⟨j1, hj1, hf⟩ := am_bd hf
  have gj1 := am_ix_lt hj1
  refine g_aJ (pc := 211) (in_1306 hX (by omega)) ak_1306 hj1 dX12_pour_211 ?_
  obtain ⟨j2, hj2, hf⟩ := am_bd hf
  have gj2 := am_ix_lt hj2
  obtain ⟨s3, hs3, hf⟩ := am_bd hf
  refine g_sJ (pc := 212) (in_1306 hX (by omega)) ak_1306 hj2 dX12_pour_212 (Option.some.inj hs3) ?_
  refine g_iinc (pc := 213) (v := (v7 + 1)) 8 [(7, .int (v7 + 1)), (8, .int k0), (0, .ref (am_ad X 12 0)), (1, .int v1), (2, .int v2), (3, .int v3), (4, .int v4), (5, .int v5), (6, .int (am_b v6))] dX12_pour_213 rfl rfl (Nat.le_of_ble_eq_true rfl) rfl ?_
  refine g_goto (pc := 216) 158 dX12_pour_216 rfl ?_
  have hz := hk0 _ (Option.some.inj hf).symm
  exact am_sub [2, 3, 4, 5, 6, 7, 8, 0] rfl hz
noncomputable def f_X12_pour_158 (v1 : Int32) (v2 : Int32) (v3 : Int32) (v4 : Int32) (v5 : Int32) (v6 : Bool) (v7 : Int32) (σ : am_H) : Option ((Int32 × am_H) ⊕ (am_H)) :=
  if v7 < v5 then
   (if v6 = true then
    (f_X12_pour_182 v1 v2 v3 v4 v5 v6 v7 ((v5 - 1) - v7) σ)
   else
   f_X12_pour_182 v1 v2 v3 v4 v5 v6 v7 v7 σ)
  else
  some (.inr σ)
set_option maxRecDepth 100000 in
set_option maxHeartbeats 4000000 in
theorem q_X12_pour_158 {X : am_X} (hX : am_ks X = am_ksM) {Q : Option Value → am_H → Prop} (v1 : Int32) (v2 : Int32) (v3 : Int32) (v4 : Int32) (v5 : Int32) (v6 : Bool) (v7 : Int32) (σ : am_H) {o : (Int32 × am_H) ⊕ (am_H)} (hf : f_X12_pour_158 v1 v2 v3 v4 v5 v6 v7 σ = some o) (hk0 : ∀ s, o = .inl s → am_G X gm_X12_pour Q 158 [(0, .ref (am_ad X 12 0)), (1, .int v1), (2, .int v2), (3, .int v3), (4, .int v4), (5, .int v5), (6, .int (am_b v6)), (7, .int s.1)] [] s.2) (hk1 : ∀ t, o = .inr t → am_G X gm_X12_pour Q 219 [] [] t) : am_G X gm_X12_pour Q 158 [(0, .ref (am_ad X 12 0)), (1, .int v1), (2, .int v2), (3, .int v3), (4, .int v4), (5, .int v5), (6, .int (am_b v6)), (7, .int v7)] [] σ := by
  unfold f_X12_pour_158 at hf
  refine g_iload (pc := 158) 7 rfl dX12_pour_158 ?_
  refine g_iload (pc := 160) 5 rfl dX12_pour_160 ?_
  refine bi_ge (pc := 162) 219 dX12_pour_162 rfl (fun c1 => ?_) (fun c1 => ?_)
  · replace hf := am_ifT c1 hf
    refine g_iload (pc := 165) 6 rfl dX12_pour_165 ?_
    refine bt_eq (pc := 167) 180 dX12_pour_167 rfl (fun c2 => ?_) (fun c2 => ?_)
    · replace hf := am_ifT c2 hf
      refine g_iload (pc := 170) 5 rfl dX12_pour_170 ?_
      refine g_iconst (pc := 172) (v := 1) dX12_pour_172 (by decide) ?_
      refine g_isub (pc := 173) dX12_pour_173 ?_
      refine g_iload (pc := 174) 7 rfl dX12_pour_174 ?_
      refine g_isub (pc := 176) dX12_pour_176 ?_
      refine g_goto (pc := 177) 182 dX12_pour_177 rfl ?_
      exact q_X12_pour_182 hX v1 v2 v3 v4 v5 v6 v7 ((v5 - 1) - v7) σ hf hk0 hk1
    replace hf := am_ifF c2 hf
    refine g_iload (pc := 180) 7 rfl dX12_pour_180 ?_
    exact q_X12_pour_182 hX v1 v2 v3 v4 v5 v6 v7 v7 σ hf hk0 hk1
  replace hf := am_ifF c1 hf
  have hz := hk1 _ (Option.some.inj hf).symm
  exact am_sub [] rfl hz
set_option maxRecDepth 100000 in
set_option maxHeartbeats 4000000 in
theorem l_X12_pour_158 {X : am_X} (hX : am_ks X = am_ksM) {Q : Option Value → am_H → Prop} (v1 : Int32) (v2 : Int32) (v3 : Int32) (v4 : Int32) (v5 : Int32) (v6 : Bool) (σ : am_H) (s : Int32 × am_H) {o : am_H} (hf : am_loop (fun s => f_X12_pour_158 v1 v2 v3 v4 v5 v6 s.1 s.2) s = some o) (hk1 : ∀ t, o = t → am_G X gm_X12_pour Q 219 [] [] t) : am_G X gm_X12_pour Q 158 [(0, .ref (am_ad X 12 0)), (1, .int v1), (2, .int v2), (3, .int v3), (4, .int v4), (5, .int v5), (6, .int (am_b v6)), (7, .int s.1)] [] s.2 := by
  refine am_loop_ind (P := fun s => am_G X gm_X12_pour Q 158 [(0, .ref (am_ad X 12 0)), (1, .int v1), (2, .int v2), (3, .int v3), (4, .int v4), (5, .int v5), (6, .int (am_b v6)), (7, .int s.1)] [] s.2) (K := fun r => r = o) ?_ hf rfl
  intro s o1 hb hi hr
  exact q_X12_pour_158 hX v1 v2 v3 v4 v5 v6 s.1  s.2 hb hi (fun t e => hk1 t (hr _ e).symm)
noncomputable def f_X12_pour (v1 : Int32) (v2 : Int32) (v3 : Int32) (v4 : Int32) (v5 : Int32) (σ : am_H) : Option (Bool × am_H) :=
  (some (am_wI σ 12 0 1 0)).bind fun s1 =>
  (some (am_wI s1 12 0 0 0)).bind fun s2 =>
  if v1 < 0 then
   (f_X12_pour_28 s2)
  else
  if v1 < 5 then
   (if v3 < 0 then
    (f_X12_pour_28 s2)
   else
   if v3 < 5 then
    ((am_ix 5 v1).bind fun j7 =>
    if (s2.1 1305 0 j7) < 0 then
     (f_X12_pour_52 s2)
    else
    (am_ix 5 v3).bind fun j9 =>
    if (s2.1 1305 0 j9) < 0 then
     (f_X12_pour_52 s2)
    else
    (am_ix 5 v1).bind fun j11 =>
    (am_ix 5 v3).bind fun j12 =>
    if (s2.1 1304 0 j11) = (s2.1 1304 0 j12) then
     (if v5 < 0 then
      ((f_X12_no 6 s2).bind fun p15 =>
      some (p15.1, p15.2))
     else
     if v2 < 0 then
      (f_X12_pour_136 s2)
     else
     if v4 < 0 then
      (f_X12_pour_136 s2)
     else
     (am_ix 5 v1).bind fun j18 =>
     if (Int32.toInt64 (s2.1 1305 0 j18)) < ((Int32.toInt64 v2) + (Int32.toInt64 v5)) then
      (f_X12_pour_136 s2)
     else
     (am_ix 5 v3).bind fun j20 =>
     if (Int32.toInt64 (s2.1 1305 0 j20)) < ((Int32.toInt64 v4) + (Int32.toInt64 v5)) then
      (f_X12_pour_136 s2)
     else
     if v2 < v4 then
      ((am_loop (fun s => f_X12_pour_158 v1 v2 v3 v4 v5 true s.1 s.2) (0, s2)).bind fun w23 =>
      some (true, w23))
     else
     (am_loop (fun s => f_X12_pour_158 v1 v2 v3 v4 v5 false s.1 s.2) (0, s2)).bind fun w24 =>
     some (true, w24))
    else
    (f_X12_no 11 s2).bind fun p25 =>
    some (p25.1, p25.2))
   else
   f_X12_pour_28 s2)
  else
  f_X12_pour_28 s2
set_option maxRecDepth 100000 in
set_option maxHeartbeats 4000000 in
theorem q_X12_pour {X : am_X} (hX : am_ks X = am_ksM) {Q : Option Value → am_H → Prop} (v1 : Int32) (v2 : Int32) (v3 : Int32) (v4 : Int32) (v5 : Int32) (σ : am_H) {o : Bool × am_H} (hf : f_X12_pour v1 v2 v3 v4 v5 σ = some o) (hk : Q (some (.int (am_b o.1))) o.2) : am_G X gm_X12_pour Q 0 [(0, .ref (am_ad X 12 0)), (1, .int v1), (2, .int v2), (3, .int v3), (4, .int v4), (5, .int v5)] [] σ := by
  unfold f_X12_pour at hf
  refine g_aload_n (pc := 0) 0 rfl dX12_pour_0 rfl ?_
  refine g_iconst (pc := 1) (v := 0) dX12_pour_1 (by decide) ?_
  obtain ⟨s1, hs1, hf⟩ := am_bd hf
  refine g_setI (pc := 2) (in_12 hX (by omega)) fr_X12_122 dX12_pour_2 (Option.some.inj hs1) ?_
  refine g_aload_n (pc := 5) 0 rfl dX12_pour_5 rfl ?_
  refine g_iconst (pc := 6) (v := 0) dX12_pour_6 (by decide) ?_
  obtain ⟨s2, hs2, hf⟩ := am_bd hf
  refine g_setI (pc := 7) (in_12 hX (by omega)) fr_X12_125 dX12_pour_7 (Option.some.inj hs2) ?_
  refine g_iload_n (pc := 10) 1 rfl dX12_pour_10 rfl ?_
  refine bz_lt (pc := 11) 28 dX12_pour_11 rfl (fun c3 => ?_) (fun c3 => ?_)
  · replace hf := am_ifT c3 hf
    exact am_sub [0] rfl (q_X12_pour_28 hX s2 hf hk)
  replace hf := am_ifF c3 hf
  refine g_iload_n (pc := 14) 1 rfl dX12_pour_14 rfl ?_
  refine g_iconst (pc := 15) (v := 5) dX12_pour_15 (by decide) ?_
  refine bi_ge (pc := 16) 28 dX12_pour_16 rfl (fun c4 => ?_) (fun c4 => ?_)
  · replace hf := am_ifT c4 hf
    refine g_iload_n (pc := 19) 3 rfl dX12_pour_19 rfl ?_
    refine bz_lt (pc := 20) 28 dX12_pour_20 rfl (fun c5 => ?_) (fun c5 => ?_)
    · replace hf := am_ifT c5 hf
      exact am_sub [0] rfl (q_X12_pour_28 hX s2 hf hk)
    replace hf := am_ifF c5 hf
    refine g_iload_n (pc := 23) 3 rfl dX12_pour_23 rfl ?_
    refine g_iconst (pc := 24) (v := 5) dX12_pour_24 (by decide) ?_
    refine bi_lt (pc := 25) 34 dX12_pour_25 rfl (fun c6 => ?_) (fun c6 => ?_)
    · replace hf := am_ifT c6 hf
      refine g_aload_n (pc := 34) 0 rfl dX12_pour_34 rfl ?_
      refine g_getC (pc := 35) (e := 0) (in_12 hX (by omega)) fr_X12_17 dX12_pour_35 rfl ?_
      refine g_iload_n (pc := 38) 1 rfl dX12_pour_38 rfl ?_
      obtain ⟨j7, hj7, hf⟩ := am_bd hf
      have gj7 := am_ix_lt hj7
      refine g_aI (pc := 39) (in_1305 hX (by omega)) ak_1305 hj7 dX12_pour_39 ?_
      refine bz_lt (pc := 40) 52 dX12_pour_40 rfl (fun c8 => ?_) (fun c8 => ?_)
      · replace hf := am_ifT c8 hf
        exact am_sub [0] rfl (q_X12_pour_52 hX s2 hf hk)
      replace hf := am_ifF c8 hf
      refine g_aload_n (pc := 43) 0 rfl dX12_pour_43 rfl ?_
      refine g_getC (pc := 44) (e := 0) (in_12 hX (by omega)) fr_X12_17 dX12_pour_44 rfl ?_
      refine g_iload_n (pc := 47) 3 rfl dX12_pour_47 rfl ?_
      obtain ⟨j9, hj9, hf⟩ := am_bd hf
      have gj9 := am_ix_lt hj9
      refine g_aI (pc := 48) (in_1305 hX (by omega)) ak_1305 hj9 dX12_pour_48 ?_
      refine bz_ge (pc := 49) 58 dX12_pour_49 rfl (fun c10 => ?_) (fun c10 => ?_)
      · replace hf := am_ifT c10 hf
        exact am_sub [0] rfl (q_X12_pour_52 hX s2 hf hk)
      replace hf := am_ifF c10 hf
      refine g_aload_n (pc := 58) 0 rfl dX12_pour_58 rfl ?_
      refine g_getC (pc := 59) (e := 0) (in_12 hX (by omega)) fr_X12_13 dX12_pour_59 rfl ?_
      refine g_iload_n (pc := 62) 1 rfl dX12_pour_62 rfl ?_
      obtain ⟨j11, hj11, hf⟩ := am_bd hf
      have gj11 := am_ix_lt hj11
      refine g_aI (pc := 63) (in_1304 hX (by omega)) ak_1304 hj11 dX12_pour_63 ?_
      refine g_aload_n (pc := 64) 0 rfl dX12_pour_64 rfl ?_
      refine g_getC (pc := 65) (e := 0) (in_12 hX (by omega)) fr_X12_13 dX12_pour_65 rfl ?_
      refine g_iload_n (pc := 68) 3 rfl dX12_pour_68 rfl ?_
      obtain ⟨j12, hj12, hf⟩ := am_bd hf
      have gj12 := am_ix_lt hj12
      refine g_aI (pc := 69) (in_1304 hX (by omega)) ak_1304 hj12 dX12_pour_69 ?_
      refine bi_eq (pc := 70) 80 dX12_pour_70 rfl (fun c13 => ?_) (fun c13 => ?_)
      · replace hf := am_ifT c13 hf
        refine g_iload (pc := 80) 5 rfl dX12_pour_80 ?_
        refine bz_ge (pc := 82) 92 dX12_pour_82 rfl (fun c14 => ?_) (fun c14 => ?_)
        · replace hf := am_ifT c14 hf
          refine g_aload_n (pc := 85) 0 rfl dX12_pour_85 rfl ?_
          refine g_bipush (pc := 86) (v := 6) dX12_pour_86 (by decide) ?_
          obtain ⟨p15, hp15, hf⟩ := am_bd hf
          refine g_cV (pc := 88) (As := [.int 6]) (st := []) (st1 := [.int (am_b p15.1)]) (in_12 hX (by omega)) kk_12 mV_X12_no ln_X12_137 rfl (Nat.le_of_ble_eq_true rfl) (Nat.le_of_ble_eq_true rfl) (k_X12_no hX 6 s2 hp15) dX12_pour_88 rfl rfl ?_
          have ho := Option.some.inj hf
          subst ho
          exact g_zreturn (pc := 91) (st := []) (x := p15.1) rfl dX12_pour_91 hk
        replace hf := am_ifF c14 hf
        refine g_iload_n (pc := 92) 2 rfl dX12_pour_92 rfl ?_
        refine bz_lt (pc := 93) 136 dX12_pour_93 rfl (fun c16 => ?_) (fun c16 => ?_)
        · replace hf := am_ifT c16 hf
          exact am_sub [0] rfl (q_X12_pour_136 hX s2 hf hk)
        replace hf := am_ifF c16 hf
        refine g_iload (pc := 96) 4 rfl dX12_pour_96 ?_
        refine bz_lt (pc := 98) 136 dX12_pour_98 rfl (fun c17 => ?_) (fun c17 => ?_)
        · replace hf := am_ifT c17 hf
          exact am_sub [0] rfl (q_X12_pour_136 hX s2 hf hk)
        replace hf := am_ifF c17 hf
        refine g_iload_n (pc := 101) 2 rfl dX12_pour_101 rfl ?_
        refine g_i2l (pc := 102) dX12_pour_102 ?_
        refine g_iload (pc := 103) 5 rfl dX12_pour_103 ?_
        refine g_i2l (pc := 105) dX12_pour_105 ?_
        refine g_ladd (pc := 106) dX12_pour_106 ?_
        refine g_aload_n (pc := 107) 0 rfl dX12_pour_107 rfl ?_
        refine g_getC (pc := 108) (e := 0) (in_12 hX (by omega)) fr_X12_17 dX12_pour_108 rfl ?_
        refine g_iload_n (pc := 111) 1 rfl dX12_pour_111 rfl ?_
        obtain ⟨j18, hj18, hf⟩ := am_bd hf
        have gj18 := am_ix_lt hj18
        refine g_aI (pc := 112) (in_1305 hX (by omega)) ak_1305 hj18 dX12_pour_112 ?_
        refine g_i2l (pc := 113) dX12_pour_113 ?_
        refine g_lcm (pc := 114) dX12_pour_114 ?_
        refine bl_gt (pc := 115) 136 dX12_pour_115 rfl (fun c19 => ?_) (fun c19 => ?_)
        · replace hf := am_ifT c19 hf
          exact am_sub [0] rfl (q_X12_pour_136 hX s2 hf hk)
        replace hf := am_ifF c19 hf
        refine g_iload (pc := 118) 4 rfl dX12_pour_118 ?_
        refine g_i2l (pc := 120) dX12_pour_120 ?_
        refine g_iload (pc := 121) 5 rfl dX12_pour_121 ?_
        refine g_i2l (pc := 123) dX12_pour_123 ?_
        refine g_ladd (pc := 124) dX12_pour_124 ?_
        refine g_aload_n (pc := 125) 0 rfl dX12_pour_125 rfl ?_
        refine g_getC (pc := 126) (e := 0) (in_12 hX (by omega)) fr_X12_17 dX12_pour_126 rfl ?_
        refine g_iload_n (pc := 129) 3 rfl dX12_pour_129 rfl ?_
        obtain ⟨j20, hj20, hf⟩ := am_bd hf
        have gj20 := am_ix_lt hj20
        refine g_aI (pc := 130) (in_1305 hX (by omega)) ak_1305 hj20 dX12_pour_130 ?_
        refine g_i2l (pc := 131) dX12_pour_131 ?_
        refine g_lcm (pc := 132) dX12_pour_132 ?_
        refine bl_le (pc := 133) 142 dX12_pour_133 rfl (fun c21 => ?_) (fun c21 => ?_)
        · replace hf := am_ifT c21 hf
          exact am_sub [0] rfl (q_X12_pour_136 hX s2 hf hk)
        replace hf := am_ifF c21 hf
        refine g_iload_n (pc := 142) 2 rfl dX12_pour_142 rfl ?_
        refine g_iload (pc := 143) 4 rfl dX12_pour_143 ?_
        refine bi_ge (pc := 145) 152 dX12_pour_145 rfl (fun c22 => ?_) (fun c22 => ?_)
        · replace hf := am_ifT c22 hf
          refine g_iconst (pc := 148) (v := 1) dX12_pour_148 (by decide) ?_
          refine g_goto (pc := 149) 153 dX12_pour_149 rfl ?_
          refine g_istore (pc := 153) [(6, .int 1), (0, .ref (am_ad X 12 0)), (1, .int v1), (2, .int v2), (3, .int v3), (4, .int v4), (5, .int v5)] dX12_pour_153 (Nat.le_of_ble_eq_true rfl) rfl ?_
          refine g_iconst (pc := 155) (v := 0) dX12_pour_155 (by decide) ?_
          refine g_istore (pc := 156) [(7, .int 0), (6, .int 1), (0, .ref (am_ad X 12 0)), (1, .int v1), (2, .int v2), (3, .int v3), (4, .int v4), (5, .int v5)] dX12_pour_156 (Nat.le_of_ble_eq_true rfl) rfl ?_
          obtain ⟨w23, hw23, hf⟩ := am_bd hf
          refine am_sub [2, 3, 4, 5, 6, 7, 1, 0] rfl (l_X12_pour_158 hX v1 v2 v3 v4 v5 true  s2 (0, s2) hw23 ?_)
          intro t e
          subst e
          refine g_iconst (pc := 219) (v := 1) dX12_pour_219 (by decide) ?_
          have ho := Option.some.inj hf
          subst ho
          exact g_zreturn (pc := 220) (st := []) (x := true) rfl dX12_pour_220 hk
        replace hf := am_ifF c22 hf
        refine g_iconst (pc := 152) (v := 0) dX12_pour_152 (by decide) ?_
        refine g_istore (pc := 153) [(6, .int 0), (0, .ref (am_ad X 12 0)), (1, .int v1), (2, .int v2), (3, .int v3), (4, .int v4), (5, .int v5)] dX12_pour_153 (Nat.le_of_ble_eq_true rfl) rfl ?_
        refine g_iconst (pc := 155) (v := 0) dX12_pour_155 (by decide) ?_
        refine g_istore (pc := 156) [(7, .int 0), (6, .int 0), (0, .ref (am_ad X 12 0)), (1, .int v1), (2, .int v2), (3, .int v3), (4, .int v4), (5, .int v5)] dX12_pour_156 (Nat.le_of_ble_eq_true rfl) rfl ?_
        obtain ⟨w24, hw24, hf⟩ := am_bd hf
        refine am_sub [2, 3, 4, 5, 6, 7, 1, 0] rfl (l_X12_pour_158 hX v1 v2 v3 v4 v5 false  s2 (0, s2) hw24 ?_)
        intro t e
        subst e
        refine g_iconst (pc := 219) (v := 1) dX12_pour_219 (by decide) ?_
        have ho := Option.some.inj hf
        subst ho
        exact g_zreturn (pc := 220) (st := []) (x := true) rfl dX12_pour_220 hk
      replace hf := am_ifF c13 hf
      refine g_aload_n (pc := 73) 0 rfl dX12_pour_73 rfl ?_
      refine g_bipush (pc := 74) (v := 11) dX12_pour_74 (by decide) ?_
      obtain ⟨p25, hp25, hf⟩ := am_bd hf
      refine g_cV (pc := 76) (As := [.int 11]) (st := []) (st1 := [.int (am_b p25.1)]) (in_12 hX (by omega)) kk_12 mV_X12_no ln_X12_137 rfl (Nat.le_of_ble_eq_true rfl) (Nat.le_of_ble_eq_true rfl) (k_X12_no hX 11 s2 hp25) dX12_pour_76 rfl rfl ?_
      have ho := Option.some.inj hf
      subst ho
      exact g_zreturn (pc := 79) (st := []) (x := p25.1) rfl dX12_pour_79 hk
    replace hf := am_ifF c6 hf
    exact am_sub [0] rfl (q_X12_pour_28 hX s2 hf hk)
  replace hf := am_ifF c4 hf
  exact am_sub [0] rfl (q_X12_pour_28 hX s2 hf hk)
theorem k_X12_pour {X : am_X} (hX : am_ks X = am_ksM) (v1 : Int32) (v2 : Int32) (v3 : Int32) (v4 : Int32) (v5 : Int32) (σ : am_H) {o : Bool × am_H} (hf : f_X12_pour v1 v2 v3 v4 v5 σ = some o) : am_C X gm_X12_pour [.ref (am_ad X 12 0), .int v1, .int v2, .int v3, .int v4, .int v5] σ (am_is (some (.int (am_b o.1))) o.2) :=
  am_ofG rfl (Nat.le_of_ble_eq_true rfl) rfl (q_X12_pour hX v1 v2 v3 v4 v5 σ hf ⟨rfl, rfl⟩)
theorem dX12_numberOf_0 : decode cX12_numberOf 0 = .ok (.aload_n 0, 1) := by decide +kernel
theorem dX12_numberOf_1 : decode cX12_numberOf 1 = .ok (.getfield 20, 3) := by decide +kernel
theorem dX12_numberOf_4 : decode cX12_numberOf 4 = .ok (.bipush 60, 2) := by decide +kernel
theorem dX12_numberOf_6 : decode cX12_numberOf 6 = .ok (.iload_n 1, 1) := by decide +kernel
theorem dX12_numberOf_7 : decode cX12_numberOf 7 = .ok (.imul, 1) := by decide +kernel
theorem dX12_numberOf_8 : decode cX12_numberOf 8 = .ok (.iload_n 2, 1) := by decide +kernel
theorem dX12_numberOf_9 : decode cX12_numberOf 9 = .ok (.iadd, 1) := by decide +kernel
theorem dX12_numberOf_10 : decode cX12_numberOf 10 = .ok (.laload, 1) := by decide +kernel
theorem dX12_numberOf_11 : decode cX12_numberOf 11 = .ok (.lreturn, 1) := by decide +kernel
noncomputable def f_X12_numberOf (v1 : Int32) (v2 : Int32) (σ : am_H) : Option (Int64) :=
  (am_ix 300 ((60 * v1) + v2)).bind fun j1 =>
  some (σ.2.1 1306 0 j1)
set_option maxRecDepth 100000 in
set_option maxHeartbeats 4000000 in
theorem q_X12_numberOf {X : am_X} (hX : am_ks X = am_ksM) {Q : Option Value → am_H → Prop} (v1 : Int32) (v2 : Int32) (σ : am_H) {o : Int64} (hf : f_X12_numberOf v1 v2 σ = some o) (hk : Q (some (.long o)) σ) : am_G X gm_X12_numberOf Q 0 [(0, .ref (am_ad X 12 0)), (1, .int v1), (2, .int v2)] [] σ := by
  unfold f_X12_numberOf at hf
  refine g_aload_n (pc := 0) 0 rfl dX12_numberOf_0 rfl ?_
  refine g_getC (pc := 1) (e := 0) (in_12 hX (by omega)) fr_X12_20 dX12_numberOf_1 rfl ?_
  refine g_bipush (pc := 4) (v := 60) dX12_numberOf_4 (by decide) ?_
  refine g_iload_n (pc := 6) 1 rfl dX12_numberOf_6 rfl ?_
  refine g_imul (pc := 7) dX12_numberOf_7 ?_
  refine g_iload_n (pc := 8) 2 rfl dX12_numberOf_8 rfl ?_
  refine g_iadd (pc := 9) dX12_numberOf_9 ?_
  obtain ⟨j1, hj1, hf⟩ := am_bd hf
  have gj1 := am_ix_lt hj1
  refine g_aJ (pc := 10) (in_1306 hX (by omega)) ak_1306 hj1 dX12_numberOf_10 ?_
  have ho := Option.some.inj hf
  subst ho
  exact g_lreturn (pc := 11) (st := []) rfl dX12_numberOf_11 hk
theorem k_X12_numberOf {X : am_X} (hX : am_ks X = am_ksM) (v1 : Int32) (v2 : Int32) (σ : am_H) {o : Int64} (hf : f_X12_numberOf v1 v2 σ = some o) : am_C X gm_X12_numberOf [.ref (am_ad X 12 0), .int v1, .int v2] σ (am_is (some (.long o)) σ) :=
  am_ofG rfl (Nat.le_of_ble_eq_true rfl) rfl (q_X12_numberOf hX v1 v2 σ hf ⟨rfl, rfl⟩)
theorem dX12_look_0 : decode cX12_look 0 = .ok (.iload_n 1, 1) := by decide +kernel
theorem dX12_look_1 : decode cX12_look 1 = .ok (.aload_n 0, 1) := by decide +kernel
theorem dX12_look_2 : decode cX12_look 2 = .ok (.getfield 155, 3) := by decide +kernel
theorem dX12_look_5 : decode cX12_look 5 = .ok (.if_icmp .ge 16, 3) := by decide +kernel
theorem dX12_look_8 : decode cX12_look 8 = .ok (.aload_n 0, 1) := by decide +kernel
theorem dX12_look_9 : decode cX12_look 9 = .ok (.getfield 24, 3) := by decide +kernel
theorem dX12_look_12 : decode cX12_look 12 = .ok (.iload_n 1, 1) := by decide +kernel
theorem dX12_look_13 : decode cX12_look 13 = .ok (.baload, 1) := by decide +kernel
theorem dX12_look_14 : decode cX12_look 14 = .ok (.sipush 255, 3) := by decide +kernel
theorem dX12_look_17 : decode cX12_look 17 = .ok (.iand, 1) := by decide +kernel
theorem dX12_look_18 : decode cX12_look 18 = .ok (.goto 4, 3) := by decide +kernel
theorem dX12_look_21 : decode cX12_look 21 = .ok (.iconst 0, 1) := by decide +kernel
theorem dX12_look_22 : decode cX12_look 22 = .ok (.ireturn, 1) := by decide +kernel
noncomputable def f_X12_look (v1 : Int32) (σ : am_H) : Option (Int32) :=
  if v1 < (σ.1 12 0 9) then
   ((am_ix 600 v1).bind fun j2 =>
   some ((σ.1 1307 0 j2) &&& 255))
  else
  some 0
set_option maxRecDepth 100000 in
set_option maxHeartbeats 4000000 in
theorem q_X12_look {X : am_X} (hX : am_ks X = am_ksM) {Q : Option Value → am_H → Prop} (v1 : Int32) (σ : am_H) {o : Int32} (hf : f_X12_look v1 σ = some o) (hk : Q (some (.int o)) σ) : am_G X gm_X12_look Q 0 [(0, .ref (am_ad X 12 0)), (1, .int v1)] [] σ := by
  unfold f_X12_look at hf
  refine g_iload_n (pc := 0) 1 rfl dX12_look_0 rfl ?_
  refine g_aload_n (pc := 1) 0 rfl dX12_look_1 rfl ?_
  refine g_getI (pc := 2) (in_12 hX (by omega)) fr_X12_155 dX12_look_2 ?_
  refine bi_ge (pc := 5) 21 dX12_look_5 rfl (fun c1 => ?_) (fun c1 => ?_)
  · replace hf := am_ifT c1 hf
    refine g_aload_n (pc := 8) 0 rfl dX12_look_8 rfl ?_
    refine g_getC (pc := 9) (e := 0) (in_12 hX (by omega)) fr_X12_24 dX12_look_9 rfl ?_
    refine g_iload_n (pc := 12) 1 rfl dX12_look_12 rfl ?_
    obtain ⟨j2, hj2, hf⟩ := am_bd hf
    have gj2 := am_ix_lt hj2
    refine g_aB (pc := 13) (in_1307 hX (by omega)) ak_1307 hj2 dX12_look_13 ?_
    refine g_sipush (pc := 14) (v := 255) dX12_look_14 (by decide) ?_
    refine g_iand (pc := 17) dX12_look_17 ?_
    refine g_goto (pc := 18) 22 dX12_look_18 rfl ?_
    have ho := Option.some.inj hf
    subst ho
    exact g_ireturn (pc := 22) (st := []) rfl dX12_look_22 hk
  replace hf := am_ifF c1 hf
  refine g_iconst (pc := 21) (v := 0) dX12_look_21 (by decide) ?_
  have ho := Option.some.inj hf
  subst ho
  exact g_ireturn (pc := 22) (st := []) rfl dX12_look_22 hk
theorem k_X12_look {X : am_X} (hX : am_ks X = am_ksM) (v1 : Int32) (σ : am_H) {o : Int32} (hf : f_X12_look v1 σ = some o) : am_C X gm_X12_look [.ref (am_ad X 12 0), .int v1] σ (am_is (some (.int o)) σ) :=
  am_ofG rfl (Nat.le_of_ble_eq_true rfl) rfl (q_X12_look hX v1 σ hf ⟨rfl, rfl⟩)
theorem dX12_isLetter_0 : decode cX12_isLetter 0 = .ok (.iload_n 0, 1) := by decide +kernel
theorem dX12_isLetter_1 : decode cX12_isLetter 1 = .ok (.bipush 97, 2) := by decide +kernel
theorem dX12_isLetter_3 : decode cX12_isLetter 3 = .ok (.if_icmp .lt 13, 3) := by decide +kernel
theorem dX12_isLetter_6 : decode cX12_isLetter 6 = .ok (.iload_n 0, 1) := by decide +kernel
theorem dX12_isLetter_7 : decode cX12_isLetter 7 = .ok (.bipush 122, 2) := by decide +kernel
theorem dX12_isLetter_9 : decode cX12_isLetter 9 = .ok (.if_icmp .gt 7, 3) := by decide +kernel
theorem dX12_isLetter_12 : decode cX12_isLetter 12 = .ok (.iconst 1, 1) := by decide +kernel
theorem dX12_isLetter_13 : decode cX12_isLetter 13 = .ok (.goto 4, 3) := by decide +kernel
theorem dX12_isLetter_16 : decode cX12_isLetter 16 = .ok (.iconst 0, 1) := by decide +kernel
theorem dX12_isLetter_17 : decode cX12_isLetter 17 = .ok (.ireturn, 1) := by decide +kernel
noncomputable def f_X12_isLetter (v0 : Int32) (σ : am_H) : Option (Bool) :=
  if v0 < 97 then
   (some false)
  else
  if 122 < v0 then
   (some false)
  else
  some true
set_option maxRecDepth 100000 in
set_option maxHeartbeats 4000000 in
theorem q_X12_isLetter {X : am_X} (hX : am_ks X = am_ksM) {Q : Option Value → am_H → Prop} (v0 : Int32) (σ : am_H) {o : Bool} (hf : f_X12_isLetter v0 σ = some o) (hk : Q (some (.int (am_b o))) σ) : am_G X gm_X12_isLetter Q 0 [(0, .int v0)] [] σ := by
  unfold f_X12_isLetter at hf
  refine g_iload_n (pc := 0) 0 rfl dX12_isLetter_0 rfl ?_
  refine g_bipush (pc := 1) (v := 97) dX12_isLetter_1 (by decide) ?_
  refine bi_lt (pc := 3) 16 dX12_isLetter_3 rfl (fun c1 => ?_) (fun c1 => ?_)
  · replace hf := am_ifT c1 hf
    refine g_iconst (pc := 16) (v := 0) dX12_isLetter_16 (by decide) ?_
    have ho := Option.some.inj hf
    subst ho
    exact g_zreturn (pc := 17) (st := []) (x := false) rfl dX12_isLetter_17 hk
  replace hf := am_ifF c1 hf
  refine g_iload_n (pc := 6) 0 rfl dX12_isLetter_6 rfl ?_
  refine g_bipush (pc := 7) (v := 122) dX12_isLetter_7 (by decide) ?_
  refine bi_gt (pc := 9) 16 dX12_isLetter_9 rfl (fun c2 => ?_) (fun c2 => ?_)
  · replace hf := am_ifT c2 hf
    refine g_iconst (pc := 16) (v := 0) dX12_isLetter_16 (by decide) ?_
    have ho := Option.some.inj hf
    subst ho
    exact g_zreturn (pc := 17) (st := []) (x := false) rfl dX12_isLetter_17 hk
  replace hf := am_ifF c2 hf
  refine g_iconst (pc := 12) (v := 1) dX12_isLetter_12 (by decide) ?_
  refine g_goto (pc := 13) 17 dX12_isLetter_13 rfl ?_
  have ho := Option.some.inj hf
  subst ho
  exact g_zreturn (pc := 17) (st := []) (x := true) rfl dX12_isLetter_17 hk
theorem k_X12_isLetter {X : am_X} (hX : am_ks X = am_ksM) (v0 : Int32) (σ : am_H) {o : Bool} (hf : f_X12_isLetter v0 σ = some o) : am_C X gm_X12_isLetter [.int v0] σ (am_is (some (.int (am_b o))) σ) :=
  am_ofG rfl (Nat.le_of_ble_eq_true rfl) rfl (q_X12_isLetter hX v0 σ hf ⟨rfl, rfl⟩)
theorem dX12_isDigit_0 : decode cX12_isDigit 0 = .ok (.iload_n 0, 1) := by decide +kernel
theorem dX12_isDigit_1 : decode cX12_isDigit 1 = .ok (.bipush 48, 2) := by decide +kernel
theorem dX12_isDigit_3 : decode cX12_isDigit 3 = .ok (.if_icmp .lt 13, 3) := by decide +kernel
theorem dX12_isDigit_6 : decode cX12_isDigit 6 = .ok (.iload_n 0, 1) := by decide +kernel
theorem dX12_isDigit_7 : decode cX12_isDigit 7 = .ok (.bipush 57, 2) := by decide +kernel
theorem dX12_isDigit_9 : decode cX12_isDigit 9 = .ok (.if_icmp .gt 7, 3) := by decide +kernel
theorem dX12_isDigit_12 : decode cX12_isDigit 12 = .ok (.iconst 1, 1) := by decide +kernel
theorem dX12_isDigit_13 : decode cX12_isDigit 13 = .ok (.goto 4, 3) := by decide +kernel
theorem dX12_isDigit_16 : decode cX12_isDigit 16 = .ok (.iconst 0, 1) := by decide +kernel
theorem dX12_isDigit_17 : decode cX12_isDigit 17 = .ok (.ireturn, 1) := by decide +kernel
noncomputable def f_X12_isDigit (v0 : Int32) (σ : am_H) : Option (Bool) :=
  if v0 < 48 then
   (some false)
  else
  if 57 < v0 then
   (some false)
  else
  some true
set_option maxRecDepth 100000 in
set_option maxHeartbeats 4000000 in
theorem q_X12_isDigit {X : am_X} (hX : am_ks X = am_ksM) {Q : Option Value → am_H → Prop} (v0 : Int32) (σ : am_H) {o : Bool} (hf : f_X12_isDigit v0 σ = some o) (hk : Q (some (.int (am_b o))) σ) : am_G X gm_X12_isDigit Q 0 [(0, .int v0)] [] σ := by
  unfold f_X12_isDigit at hf
  refine g_iload_n (pc := 0) 0 rfl dX12_isDigit_0 rfl ?_
  refine g_bipush (pc := 1) (v := 48) dX12_isDigit_1 (by decide) ?_
  refine bi_lt (pc := 3) 16 dX12_isDigit_3 rfl (fun c1 => ?_) (fun c1 => ?_)
  · replace hf := am_ifT c1 hf
    refine g_iconst (pc := 16) (v := 0) dX12_isDigit_16 (by decide) ?_
    have ho := Option.some.inj hf
    subst ho
    exact g_zreturn (pc := 17) (st := []) (x := false) rfl dX12_isDigit_17 hk
  replace hf := am_ifF c1 hf
  refine g_iload_n (pc := 6) 0 rfl dX12_isDigit_6 rfl ?_
  refine g_bipush (pc := 7) (v := 57) dX12_isDigit_7 (by decide) ?_
  refine bi_gt (pc := 9) 16 dX12_isDigit_9 rfl (fun c2 => ?_) (fun c2 => ?_)
  · replace hf := am_ifT c2 hf
    refine g_iconst (pc := 16) (v := 0) dX12_isDigit_16 (by decide) ?_
    have ho := Option.some.inj hf
    subst ho
    exact g_zreturn (pc := 17) (st := []) (x := false) rfl dX12_isDigit_17 hk
  replace hf := am_ifF c2 hf
  refine g_iconst (pc := 12) (v := 1) dX12_isDigit_12 (by decide) ?_
  refine g_goto (pc := 13) 17 dX12_isDigit_13 rfl ?_
  have ho := Option.some.inj hf
  subst ho
  exact g_zreturn (pc := 17) (st := []) (x := true) rfl dX12_isDigit_17 hk
theorem k_X12_isDigit {X : am_X} (hX : am_ks X = am_ksM) (v0 : Int32) (σ : am_H) {o : Bool} (hf : f_X12_isDigit v0 σ = some o) : am_C X gm_X12_isDigit [.int v0] σ (am_is (some (.int (am_b o))) σ) :=
  am_ofG rfl (Nat.le_of_ble_eq_true rfl) rfl (q_X12_isDigit hX v0 σ hf ⟨rfl, rfl⟩)
theorem dX12_next_0 : decode cX12_next 0 = .ok (.aload_n 0, 1) := by decide +kernel
theorem dX12_next_1 : decode cX12_next 1 = .ok (.aload_n 0, 1) := by decide +kernel
theorem dX12_next_2 : decode cX12_next 2 = .ok (.getfield 158, 3) := by decide +kernel
theorem dX12_next_5 : decode cX12_next 5 = .ok (.putfield 161, 3) := by decide +kernel
theorem dX12_next_8 : decode cX12_next 8 = .ok (.aload_n 0, 1) := by decide +kernel
theorem dX12_next_9 : decode cX12_next 9 = .ok (.getfield 161, 3) := by decide +kernel
theorem dX12_next_12 : decode cX12_next 12 = .ok (.aload_n 0, 1) := by decide +kernel
theorem dX12_next_13 : decode cX12_next 13 = .ok (.getfield 155, 3) := by decide +kernel
theorem dX12_next_16 : decode cX12_next 16 = .ok (.if_icmp .ge 42, 3) := by decide +kernel
theorem dX12_next_19 : decode cX12_next 19 = .ok (.aload_n 0, 1) := by decide +kernel
theorem dX12_next_20 : decode cX12_next 20 = .ok (.aload_n 0, 1) := by decide +kernel
theorem dX12_next_21 : decode cX12_next 21 = .ok (.getfield 161, 3) := by decide +kernel
theorem dX12_next_24 : decode cX12_next 24 = .ok (.invokevirtual 164, 3) := by decide +kernel
theorem dX12_next_27 : decode cX12_next 27 = .ok (.bipush 10, 2) := by decide +kernel
theorem dX12_next_29 : decode cX12_next 29 = .ok (.if_icmp .eq 16, 3) := by decide +kernel
theorem dX12_next_32 : decode cX12_next 32 = .ok (.aload_n 0, 1) := by decide +kernel
theorem dX12_next_33 : decode cX12_next 33 = .ok (.aload_n 0, 1) := by decide +kernel
theorem dX12_next_34 : decode cX12_next 34 = .ok (.getfield 161, 3) := by decide +kernel
theorem dX12_next_37 : decode cX12_next 37 = .ok (.invokevirtual 164, 3) := by decide +kernel
theorem dX12_next_40 : decode cX12_next 40 = .ok (.bipush 32, 2) := by decide +kernel
theorem dX12_next_42 : decode cX12_next 42 = .ok (.if_icmp .ne 16, 3) := by decide +kernel
theorem dX12_next_45 : decode cX12_next 45 = .ok (.aload_n 0, 1) := by decide +kernel
theorem dX12_next_46 : decode cX12_next 46 = .ok (.dup, 1) := by decide +kernel
theorem dX12_next_47 : decode cX12_next 47 = .ok (.getfield 161, 3) := by decide +kernel
theorem dX12_next_50 : decode cX12_next 50 = .ok (.iconst 1, 1) := by decide +kernel
theorem dX12_next_51 : decode cX12_next 51 = .ok (.iadd, 1) := by decide +kernel
theorem dX12_next_52 : decode cX12_next 52 = .ok (.putfield 161, 3) := by decide +kernel
theorem dX12_next_55 : decode cX12_next 55 = .ok (.goto (-47), 3) := by decide +kernel
theorem dX12_next_58 : decode cX12_next 58 = .ok (.aload_n 0, 1) := by decide +kernel
theorem dX12_next_59 : decode cX12_next 59 = .ok (.aload_n 0, 1) := by decide +kernel
theorem dX12_next_60 : decode cX12_next 60 = .ok (.getfield 161, 3) := by decide +kernel
theorem dX12_next_63 : decode cX12_next 63 = .ok (.putfield 158, 3) := by decide +kernel
theorem dX12_next_66 : decode cX12_next 66 = .ok (.aload_n 0, 1) := by decide +kernel
theorem dX12_next_67 : decode cX12_next 67 = .ok (.getfield 161, 3) := by decide +kernel
theorem dX12_next_70 : decode cX12_next 70 = .ok (.aload_n 0, 1) := by decide +kernel
theorem dX12_next_71 : decode cX12_next 71 = .ok (.getfield 155, 3) := by decide +kernel
theorem dX12_next_74 : decode cX12_next 74 = .ok (.if_icmp .lt 9, 3) := by decide +kernel
theorem dX12_next_77 : decode cX12_next 77 = .ok (.aload_n 0, 1) := by decide +kernel
theorem dX12_next_78 : decode cX12_next 78 = .ok (.iconst 0, 1) := by decide +kernel
theorem dX12_next_79 : decode cX12_next 79 = .ok (.putfield 167, 3) := by decide +kernel
theorem dX12_next_82 : decode cX12_next 82 = .ok (.return_, 1) := by decide +kernel
theorem dX12_next_83 : decode cX12_next 83 = .ok (.aload_n 0, 1) := by decide +kernel
theorem dX12_next_84 : decode cX12_next 84 = .ok (.aload_n 0, 1) := by decide +kernel
theorem dX12_next_85 : decode cX12_next 85 = .ok (.getfield 161, 3) := by decide +kernel
theorem dX12_next_88 : decode cX12_next 88 = .ok (.invokevirtual 164, 3) := by decide +kernel
theorem dX12_next_91 : decode cX12_next 91 = .ok (.istore_n 1, 1) := by decide +kernel
theorem dX12_next_92 : decode cX12_next 92 = .ok (.iload_n 1, 1) := by decide +kernel
theorem dX12_next_93 : decode cX12_next 93 = .ok (.invokestatic 170, 3) := by decide +kernel
theorem dX12_next_96 : decode cX12_next 96 = .ok (.ifCond .eq 102, 3) := by decide +kernel
theorem dX12_next_99 : decode cX12_next 99 = .ok (.aload_n 0, 1) := by decide +kernel
theorem dX12_next_100 : decode cX12_next 100 = .ok (.iconst 1, 1) := by decide +kernel
theorem dX12_next_101 : decode cX12_next 101 = .ok (.putfield 167, 3) := by decide +kernel
theorem dX12_next_104 : decode cX12_next 104 = .ok (.aload_n 0, 1) := by decide +kernel
theorem dX12_next_105 : decode cX12_next 105 = .ok (.lconst 0, 1) := by decide +kernel
theorem dX12_next_106 : decode cX12_next 106 = .ok (.putfield 173, 3) := by decide +kernel
theorem dX12_next_109 : decode cX12_next 109 = .ok (.aload_n 0, 1) := by decide +kernel
theorem dX12_next_110 : decode cX12_next 110 = .ok (.aload_n 0, 1) := by decide +kernel
theorem dX12_next_111 : decode cX12_next 111 = .ok (.getfield 158, 3) := by decide +kernel
theorem dX12_next_114 : decode cX12_next 114 = .ok (.invokevirtual 164, 3) := by decide +kernel
theorem dX12_next_117 : decode cX12_next 117 = .ok (.invokestatic 170, 3) := by decide +kernel
theorem dX12_next_120 : decode cX12_next 120 = .ok (.ifCond .eq 62, 3) := by decide +kernel
theorem dX12_next_123 : decode cX12_next 123 = .ok (.aload_n 0, 1) := by decide +kernel
theorem dX12_next_124 : decode cX12_next 124 = .ok (.aload_n 0, 1) := by decide +kernel
theorem dX12_next_125 : decode cX12_next 125 = .ok (.getfield 158, 3) := by decide +kernel
theorem dX12_next_128 : decode cX12_next 128 = .ok (.aload_n 0, 1) := by decide +kernel
theorem dX12_next_129 : decode cX12_next 129 = .ok (.getfield 161, 3) := by decide +kernel
theorem dX12_next_132 : decode cX12_next 132 = .ok (.isub, 1) := by decide +kernel
theorem dX12_next_133 : decode cX12_next 133 = .ok (.bipush 8, 2) := by decide +kernel
theorem dX12_next_135 : decode cX12_next 135 = .ok (.if_icmp .ge 28, 3) := by decide +kernel
theorem dX12_next_138 : decode cX12_next 138 = .ok (.aload_n 0, 1) := by decide +kernel
theorem dX12_next_139 : decode cX12_next 139 = .ok (.getfield 173, 3) := by decide +kernel
theorem dX12_next_142 : decode cX12_next 142 = .ok (.ldc2_w 176, 3) := by decide +kernel
theorem dX12_next_145 : decode cX12_next 145 = .ok (.lmul, 1) := by decide +kernel
theorem dX12_next_146 : decode cX12_next 146 = .ok (.aload_n 0, 1) := by decide +kernel
theorem dX12_next_147 : decode cX12_next 147 = .ok (.aload_n 0, 1) := by decide +kernel
theorem dX12_next_148 : decode cX12_next 148 = .ok (.getfield 158, 3) := by decide +kernel
theorem dX12_next_151 : decode cX12_next 151 = .ok (.invokevirtual 164, 3) := by decide +kernel
theorem dX12_next_154 : decode cX12_next 154 = .ok (.i2l, 1) := by decide +kernel
theorem dX12_next_155 : decode cX12_next 155 = .ok (.ladd, 1) := by decide +kernel
theorem dX12_next_156 : decode cX12_next 156 = .ok (.ldc2_w 178, 3) := by decide +kernel
theorem dX12_next_159 : decode cX12_next 159 = .ok (.lsub, 1) := by decide +kernel
theorem dX12_next_160 : decode cX12_next 160 = .ok (.goto 6, 3) := by decide +kernel
theorem dX12_next_163 : decode cX12_next 163 = .ok (.ldc2_w 153, 3) := by decide +kernel
theorem dX12_next_166 : decode cX12_next 166 = .ok (.putfield 173, 3) := by decide +kernel
theorem dX12_next_169 : decode cX12_next 169 = .ok (.aload_n 0, 1) := by decide +kernel
theorem dX12_next_170 : decode cX12_next 170 = .ok (.dup, 1) := by decide +kernel
theorem dX12_next_171 : decode cX12_next 171 = .ok (.getfield 158, 3) := by decide +kernel
theorem dX12_next_174 : decode cX12_next 174 = .ok (.iconst 1, 1) := by decide +kernel
theorem dX12_next_175 : decode cX12_next 175 = .ok (.iadd, 1) := by decide +kernel
theorem dX12_next_176 : decode cX12_next 176 = .ok (.putfield 158, 3) := by decide +kernel
theorem dX12_next_179 : decode cX12_next 179 = .ok (.goto (-70), 3) := by decide +kernel
theorem dX12_next_182 : decode cX12_next 182 = .ok (.aload_n 0, 1) := by decide +kernel
theorem dX12_next_183 : decode cX12_next 183 = .ok (.aload_n 0, 1) := by decide +kernel
theorem dX12_next_184 : decode cX12_next 184 = .ok (.getfield 158, 3) := by decide +kernel
theorem dX12_next_187 : decode cX12_next 187 = .ok (.aload_n 0, 1) := by decide +kernel
theorem dX12_next_188 : decode cX12_next 188 = .ok (.getfield 161, 3) := by decide +kernel
theorem dX12_next_191 : decode cX12_next 191 = .ok (.isub, 1) := by decide +kernel
theorem dX12_next_192 : decode cX12_next 192 = .ok (.putfield 180, 3) := by decide +kernel
theorem dX12_next_195 : decode cX12_next 195 = .ok (.goto 133, 3) := by decide +kernel
theorem dX12_next_198 : decode cX12_next 198 = .ok (.iload_n 1, 1) := by decide +kernel
theorem dX12_next_199 : decode cX12_next 199 = .ok (.invokestatic 183, 3) := by decide +kernel
theorem dX12_next_202 : decode cX12_next 202 = .ok (.ifCond .eq 96, 3) := by decide +kernel
theorem dX12_next_205 : decode cX12_next 205 = .ok (.aload_n 0, 1) := by decide +kernel
theorem dX12_next_206 : decode cX12_next 206 = .ok (.iconst 0, 1) := by decide +kernel
theorem dX12_next_207 : decode cX12_next 207 = .ok (.putfield 186, 3) := by decide +kernel
theorem dX12_next_210 : decode cX12_next 210 = .ok (.aload_n 0, 1) := by decide +kernel
theorem dX12_next_211 : decode cX12_next 211 = .ok (.aload_n 0, 1) := by decide +kernel
theorem dX12_next_212 : decode cX12_next 212 = .ok (.getfield 158, 3) := by decide +kernel
theorem dX12_next_215 : decode cX12_next 215 = .ok (.invokevirtual 164, 3) := by decide +kernel
theorem dX12_next_218 : decode cX12_next 218 = .ok (.invokestatic 183, 3) := by decide +kernel
theorem dX12_next_221 : decode cX12_next 221 = .ok (.ifCond .eq 52, 3) := by decide +kernel
theorem dX12_next_224 : decode cX12_next 224 = .ok (.aload_n 0, 1) := by decide +kernel
theorem dX12_next_225 : decode cX12_next 225 = .ok (.getfield 158, 3) := by decide +kernel
theorem dX12_next_228 : decode cX12_next 228 = .ok (.aload_n 0, 1) := by decide +kernel
theorem dX12_next_229 : decode cX12_next 229 = .ok (.getfield 161, 3) := by decide +kernel
theorem dX12_next_232 : decode cX12_next 232 = .ok (.isub, 1) := by decide +kernel
theorem dX12_next_233 : decode cX12_next 233 = .ok (.iconst 4, 1) := by decide +kernel
theorem dX12_next_234 : decode cX12_next 234 = .ok (.if_icmp .ge 26, 3) := by decide +kernel
theorem dX12_next_237 : decode cX12_next 237 = .ok (.aload_n 0, 1) := by decide +kernel
theorem dX12_next_238 : decode cX12_next 238 = .ok (.bipush 10, 2) := by decide +kernel
theorem dX12_next_240 : decode cX12_next 240 = .ok (.aload_n 0, 1) := by decide +kernel
theorem dX12_next_241 : decode cX12_next 241 = .ok (.getfield 186, 3) := by decide +kernel
theorem dX12_next_244 : decode cX12_next 244 = .ok (.imul, 1) := by decide +kernel
theorem dX12_next_245 : decode cX12_next 245 = .ok (.aload_n 0, 1) := by decide +kernel
theorem dX12_next_246 : decode cX12_next 246 = .ok (.aload_n 0, 1) := by decide +kernel
theorem dX12_next_247 : decode cX12_next 247 = .ok (.getfield 158, 3) := by decide +kernel
theorem dX12_next_250 : decode cX12_next 250 = .ok (.invokevirtual 164, 3) := by decide +kernel
theorem dX12_next_253 : decode cX12_next 253 = .ok (.iadd, 1) := by decide +kernel
theorem dX12_next_254 : decode cX12_next 254 = .ok (.bipush 48, 2) := by decide +kernel
theorem dX12_next_256 : decode cX12_next 256 = .ok (.isub, 1) := by decide +kernel
theorem dX12_next_257 : decode cX12_next 257 = .ok (.putfield 186, 3) := by decide +kernel
theorem dX12_next_260 : decode cX12_next 260 = .ok (.aload_n 0, 1) := by decide +kernel
theorem dX12_next_261 : decode cX12_next 261 = .ok (.dup, 1) := by decide +kernel
theorem dX12_next_262 : decode cX12_next 262 = .ok (.getfield 158, 3) := by decide +kernel
theorem dX12_next_265 : decode cX12_next 265 = .ok (.iconst 1, 1) := by decide +kernel
theorem dX12_next_266 : decode cX12_next 266 = .ok (.iadd, 1) := by decide +kernel
theorem dX12_next_267 : decode cX12_next 267 = .ok (.putfield 158, 3) := by decide +kernel
theorem dX12_next_270 : decode cX12_next 270 = .ok (.goto (-60), 3) := by decide +kernel
theorem dX12_next_273 : decode cX12_next 273 = .ok (.aload_n 0, 1) := by decide +kernel
theorem dX12_next_274 : decode cX12_next 274 = .ok (.aload_n 0, 1) := by decide +kernel
theorem dX12_next_275 : decode cX12_next 275 = .ok (.getfield 158, 3) := by decide +kernel
theorem dX12_next_278 : decode cX12_next 278 = .ok (.aload_n 0, 1) := by decide +kernel
theorem dX12_next_279 : decode cX12_next 279 = .ok (.getfield 161, 3) := by decide +kernel
theorem dX12_next_282 : decode cX12_next 282 = .ok (.isub, 1) := by decide +kernel
theorem dX12_next_283 : decode cX12_next 283 = .ok (.iconst 4, 1) := by decide +kernel
theorem dX12_next_284 : decode cX12_next 284 = .ok (.if_icmp .le 7, 3) := by decide +kernel
theorem dX12_next_287 : decode cX12_next 287 = .ok (.iconst 4, 1) := by decide +kernel
theorem dX12_next_288 : decode cX12_next 288 = .ok (.goto 4, 3) := by decide +kernel
theorem dX12_next_291 : decode cX12_next 291 = .ok (.iconst 2, 1) := by decide +kernel
theorem dX12_next_292 : decode cX12_next 292 = .ok (.putfield 167, 3) := by decide +kernel
theorem dX12_next_295 : decode cX12_next 295 = .ok (.goto 33, 3) := by decide +kernel
theorem dX12_next_298 : decode cX12_next 298 = .ok (.aload_n 0, 1) := by decide +kernel
theorem dX12_next_299 : decode cX12_next 299 = .ok (.aload_n 0, 1) := by decide +kernel
theorem dX12_next_300 : decode cX12_next 300 = .ok (.getfield 161, 3) := by decide +kernel
theorem dX12_next_303 : decode cX12_next 303 = .ok (.iconst 1, 1) := by decide +kernel
theorem dX12_next_304 : decode cX12_next 304 = .ok (.iadd, 1) := by decide +kernel
theorem dX12_next_305 : decode cX12_next 305 = .ok (.putfield 158, 3) := by decide +kernel
theorem dX12_next_308 : decode cX12_next 308 = .ok (.aload_n 0, 1) := by decide +kernel
theorem dX12_next_309 : decode cX12_next 309 = .ok (.iload_n 1, 1) := by decide +kernel
theorem dX12_next_310 : decode cX12_next 310 = .ok (.putfield 186, 3) := by decide +kernel
theorem dX12_next_313 : decode cX12_next 313 = .ok (.aload_n 0, 1) := by decide +kernel
theorem dX12_next_314 : decode cX12_next 314 = .ok (.iload_n 1, 1) := by decide +kernel
theorem dX12_next_315 : decode cX12_next 315 = .ok (.bipush 59, 2) := by decide +kernel
theorem dX12_next_317 : decode cX12_next 317 = .ok (.if_icmp .ne 7, 3) := by decide +kernel
theorem dX12_next_320 : decode cX12_next 320 = .ok (.iconst 3, 1) := by decide +kernel
theorem dX12_next_321 : decode cX12_next 321 = .ok (.goto 4, 3) := by decide +kernel
theorem dX12_next_324 : decode cX12_next 324 = .ok (.iconst 4, 1) := by decide +kernel
theorem dX12_next_325 : decode cX12_next 325 = .ok (.putfield 167, 3) := by decide +kernel
theorem dX12_next_328 : decode cX12_next 328 = .ok (.return_, 1) := by decide +kernel
noncomputable def f_X12_next_45 (σ : am_H) : Option ((am_H) ⊕ (am_H)) :=
  (some (am_wI σ 12 0 15 ((σ.1 12 0 15) + 1))).bind fun s1 =>
  some (.inl s1)
set_option maxRecDepth 100000 in
set_option maxHeartbeats 4000000 in
theorem q_X12_next_45 {X : am_X} (hX : am_ks X = am_ksM) {Q : Option Value → am_H → Prop} (σ : am_H) {o : (am_H) ⊕ (am_H)} (hf : f_X12_next_45 σ = some o) (hk0 : ∀ s, o = .inl s → am_G X gm_X12_next Q 8 [(0, .ref (am_ad X 12 0))] [] s) (hk1 : ∀ t, o = .inr t → am_G X gm_X12_next Q 58 [(0, .ref (am_ad X 12 0))] [] t) : am_G X gm_X12_next Q 45 [(0, .ref (am_ad X 12 0))] [] σ := by
  unfold f_X12_next_45 at hf
  refine g_aload_n (pc := 45) 0 rfl dX12_next_45 rfl ?_
  refine g_dup (pc := 46) dX12_next_46 rfl ?_
  refine g_getI (pc := 47) (in_12 hX (by omega)) fr_X12_161 dX12_next_47 ?_
  refine g_iconst (pc := 50) (v := 1) dX12_next_50 (by decide) ?_
  refine g_iadd (pc := 51) dX12_next_51 ?_
  obtain ⟨s1, hs1, hf⟩ := am_bd hf
  refine g_setI (pc := 52) (in_12 hX (by omega)) fr_X12_161 dX12_next_52 (Option.some.inj hs1) ?_
  refine g_goto (pc := 55) 8 dX12_next_55 rfl ?_
  have hz := hk0 _ (Option.some.inj hf).symm
  exact hz
noncomputable def f_X12_next_8 (σ : am_H) : Option ((am_H) ⊕ (am_H)) :=
  if (σ.1 12 0 15) < (σ.1 12 0 9) then
   ((f_X12_look (σ.1 12 0 15) σ).bind fun p2 =>
   if p2 = 10 then
    (f_X12_next_45 σ)
   else
   (f_X12_look (σ.1 12 0 15) σ).bind fun p4 =>
   if p4 = 32 then
    (f_X12_next_45 σ)
   else
   some (.inr σ))
  else
  some (.inr σ)
set_option maxRecDepth 100000 in
set_option maxHeartbeats 4000000 in
theorem q_X12_next_8 {X : am_X} (hX : am_ks X = am_ksM) {Q : Option Value → am_H → Prop} (σ : am_H) {o : (am_H) ⊕ (am_H)} (hf : f_X12_next_8 σ = some o) (hk0 : ∀ s, o = .inl s → am_G X gm_X12_next Q 8 [(0, .ref (am_ad X 12 0))] [] s) (hk1 : ∀ t, o = .inr t → am_G X gm_X12_next Q 58 [(0, .ref (am_ad X 12 0))] [] t) : am_G X gm_X12_next Q 8 [(0, .ref (am_ad X 12 0))] [] σ := by
  unfold f_X12_next_8 at hf
  refine g_aload_n (pc := 8) 0 rfl dX12_next_8 rfl ?_
  refine g_getI (pc := 9) (in_12 hX (by omega)) fr_X12_161 dX12_next_9 ?_
  refine g_aload_n (pc := 12) 0 rfl dX12_next_12 rfl ?_
  refine g_getI (pc := 13) (in_12 hX (by omega)) fr_X12_155 dX12_next_13 ?_
  refine bi_ge (pc := 16) 58 dX12_next_16 rfl (fun c1 => ?_) (fun c1 => ?_)
  · replace hf := am_ifT c1 hf
    refine g_aload_n (pc := 19) 0 rfl dX12_next_19 rfl ?_
    refine g_aload_n (pc := 20) 0 rfl dX12_next_20 rfl ?_
    refine g_getI (pc := 21) (in_12 hX (by omega)) fr_X12_161 dX12_next_21 ?_
    obtain ⟨p2, hp2, hf⟩ := am_bd hf
    refine g_cV (pc := 24) (As := [.int (σ.1 12 0 15)]) (st := []) (st1 := [.int p2]) (in_12 hX (by omega)) kk_12 mV_X12_look ln_X12_164 rfl (Nat.le_of_ble_eq_true rfl) (Nat.le_of_ble_eq_true rfl) (k_X12_look hX (σ.1 12 0 15) σ hp2) dX12_next_24 rfl rfl ?_
    refine g_bipush (pc := 27) (v := 10) dX12_next_27 (by decide) ?_
    refine bi_eq (pc := 29) 45 dX12_next_29 rfl (fun c3 => ?_) (fun c3 => ?_)
    · replace hf := am_ifT c3 hf
      exact q_X12_next_45 hX σ hf hk0 hk1
    replace hf := am_ifF c3 hf
    refine g_aload_n (pc := 32) 0 rfl dX12_next_32 rfl ?_
    refine g_aload_n (pc := 33) 0 rfl dX12_next_33 rfl ?_
    refine g_getI (pc := 34) (in_12 hX (by omega)) fr_X12_161 dX12_next_34 ?_
    obtain ⟨p4, hp4, hf⟩ := am_bd hf
    refine g_cV (pc := 37) (As := [.int (σ.1 12 0 15)]) (st := []) (st1 := [.int p4]) (in_12 hX (by omega)) kk_12 mV_X12_look ln_X12_164 rfl (Nat.le_of_ble_eq_true rfl) (Nat.le_of_ble_eq_true rfl) (k_X12_look hX (σ.1 12 0 15) σ hp4) dX12_next_37 rfl rfl ?_
    refine g_bipush (pc := 40) (v := 32) dX12_next_40 (by decide) ?_
    refine bi_ne (pc := 42) 58 dX12_next_42 rfl (fun c5 => ?_) (fun c5 => ?_)
    · replace hf := am_ifT c5 hf
      exact q_X12_next_45 hX σ hf hk0 hk1
    replace hf := am_ifF c5 hf
    have hz := hk1 _ (Option.some.inj hf).symm
    exact hz
  replace hf := am_ifF c1 hf
  have hz := hk1 _ (Option.some.inj hf).symm
  exact hz
set_option maxRecDepth 100000 in
set_option maxHeartbeats 4000000 in
theorem l_X12_next_8 {X : am_X} (hX : am_ks X = am_ksM) {Q : Option Value → am_H → Prop} (σ : am_H) (s : am_H) {o : am_H} (hf : am_loop (fun s => f_X12_next_8 s) s = some o) (hk1 : ∀ t, o = t → am_G X gm_X12_next Q 58 [(0, .ref (am_ad X 12 0))] [] t) : am_G X gm_X12_next Q 8 [(0, .ref (am_ad X 12 0))] [] s := by
  refine am_loop_ind (P := fun s => am_G X gm_X12_next Q 8 [(0, .ref (am_ad X 12 0))] [] s) (K := fun r => r = o) ?_ hf rfl
  intro s o1 hb hi hr
  exact q_X12_next_8 hX  s hb hi (fun t e => hk1 t (hr _ e).symm)
noncomputable def f_X12_next_166 (k1 : Int64) (σ : am_H) : Option ((am_H) ⊕ (am_H)) :=
  (some (am_wL σ 12 0 19 k1)).bind fun s1 =>
  (some (am_wI s1 12 0 16 ((s1.1 12 0 16) + 1))).bind fun s2 =>
  some (.inl s2)
set_option maxRecDepth 100000 in
set_option maxHeartbeats 4000000 in
theorem q_X12_next_166 {X : am_X} (hX : am_ks X = am_ksM) {Q : Option Value → am_H → Prop} (k1 : Int64) (σ : am_H) {o : (am_H) ⊕ (am_H)} (hf : f_X12_next_166 k1 σ = some o) (hk0 : ∀ s, o = .inl s → am_G X gm_X12_next Q 109 [(0, .ref (am_ad X 12 0))] [] s) (hk1 : ∀ t, o = .inr t → am_G X gm_X12_next Q 182 [(0, .ref (am_ad X 12 0))] [] t) : am_G X gm_X12_next Q 166 [(0, .ref (am_ad X 12 0))] [.long k1, .ref (am_ad X 12 0)] σ := by
  unfold f_X12_next_166 at hf
  obtain ⟨s1, hs1, hf⟩ := am_bd hf
  refine g_setJ (pc := 166) (in_12 hX (by omega)) fr_X12_173 dX12_next_166 (Option.some.inj hs1) ?_
  refine g_aload_n (pc := 169) 0 rfl dX12_next_169 rfl ?_
  refine g_dup (pc := 170) dX12_next_170 rfl ?_
  refine g_getI (pc := 171) (in_12 hX (by omega)) fr_X12_158 dX12_next_171 ?_
  refine g_iconst (pc := 174) (v := 1) dX12_next_174 (by decide) ?_
  refine g_iadd (pc := 175) dX12_next_175 ?_
  obtain ⟨s2, hs2, hf⟩ := am_bd hf
  refine g_setI (pc := 176) (in_12 hX (by omega)) fr_X12_158 dX12_next_176 (Option.some.inj hs2) ?_
  refine g_goto (pc := 179) 109 dX12_next_179 rfl ?_
  have hz := hk0 _ (Option.some.inj hf).symm
  exact hz
noncomputable def f_X12_next_109 (σ : am_H) : Option ((am_H) ⊕ (am_H)) :=
  (f_X12_look (σ.1 12 0 16) σ).bind fun p1 =>
  (f_X12_isLetter p1 σ).bind fun p2 =>
  if p2 = true then
   (if ((σ.1 12 0 16) - (σ.1 12 0 15)) < 8 then
    ((f_X12_look (σ.1 12 0 16) σ).bind fun p5 =>
    f_X12_next_166 ((((σ.2.1 12 0 19) * 32) + (Int32.toInt64 p5)) - 96) σ)
   else
   f_X12_next_166 (-1) σ)
  else
  some (.inr σ)
set_option maxRecDepth 100000 in
set_option maxHeartbeats 4000000 in
theorem q_X12_next_109 {X : am_X} (hX : am_ks X = am_ksM) {Q : Option Value → am_H → Prop} (σ : am_H) {o : (am_H) ⊕ (am_H)} (hf : f_X12_next_109 σ = some o) (hk0 : ∀ s, o = .inl s → am_G X gm_X12_next Q 109 [(0, .ref (am_ad X 12 0))] [] s) (hk1 : ∀ t, o = .inr t → am_G X gm_X12_next Q 182 [(0, .ref (am_ad X 12 0))] [] t) : am_G X gm_X12_next Q 109 [(0, .ref (am_ad X 12 0))] [] σ := by
  unfold f_X12_next_109 at hf
  refine g_aload_n (pc := 109) 0 rfl dX12_next_109 rfl ?_
  refine g_aload_n (pc := 110) 0 rfl dX12_next_110 rfl ?_
  refine g_getI (pc := 111) (in_12 hX (by omega)) fr_X12_158 dX12_next_111 ?_
  obtain ⟨p1, hp1, hf⟩ := am_bd hf
  refine g_cV (pc := 114) (As := [.int (σ.1 12 0 16)]) (st := []) (st1 := [.int p1]) (in_12 hX (by omega)) kk_12 mV_X12_look ln_X12_164 rfl (Nat.le_of_ble_eq_true rfl) (Nat.le_of_ble_eq_true rfl) (k_X12_look hX (σ.1 12 0 16) σ hp1) dX12_next_114 rfl rfl ?_
  obtain ⟨p2, hp2, hf⟩ := am_bd hf
  refine g_cS (pc := 117) (As := [.int p1]) (st := []) (st1 := [.int (am_b p2)]) mS_X12_isLetter ln_X12_170 rfl (Nat.le_of_ble_eq_true rfl) (Nat.le_of_ble_eq_true rfl) (k_X12_isLetter hX p1 σ hp2) dX12_next_117 rfl rfl ?_
  refine bt_eq (pc := 120) 182 dX12_next_120 rfl (fun c3 => ?_) (fun c3 => ?_)
  · replace hf := am_ifT c3 hf
    refine g_aload_n (pc := 123) 0 rfl dX12_next_123 rfl ?_
    refine g_aload_n (pc := 124) 0 rfl dX12_next_124 rfl ?_
    refine g_getI (pc := 125) (in_12 hX (by omega)) fr_X12_158 dX12_next_125 ?_
    refine g_aload_n (pc := 128) 0 rfl dX12_next_128 rfl ?_
    refine g_getI (pc := 129) (in_12 hX (by omega)) fr_X12_161 dX12_next_129 ?_
    refine g_isub (pc := 132) dX12_next_132 ?_
    refine g_bipush (pc := 133) (v := 8) dX12_next_133 (by decide) ?_
    refine bi_ge (pc := 135) 163 dX12_next_135 rfl (fun c4 => ?_) (fun c4 => ?_)
    · replace hf := am_ifT c4 hf
      refine g_aload_n (pc := 138) 0 rfl dX12_next_138 rfl ?_
      refine g_getJ (pc := 139) (in_12 hX (by omega)) fr_X12_173 dX12_next_139 ?_
      refine g_ldc2 (pc := 142) (v := 32) (tb_8 (List.mem_of_getElem? (i := 141) (by decide +kernel))) dX12_next_142 ?_
      refine g_lmul (pc := 145) dX12_next_145 ?_
      refine g_aload_n (pc := 146) 0 rfl dX12_next_146 rfl ?_
      refine g_aload_n (pc := 147) 0 rfl dX12_next_147 rfl ?_
      refine g_getI (pc := 148) (in_12 hX (by omega)) fr_X12_158 dX12_next_148 ?_
      obtain ⟨p5, hp5, hf⟩ := am_bd hf
      refine g_cV (pc := 151) (As := [.int (σ.1 12 0 16)]) (st := [.long ((σ.2.1 12 0 19) * 32), .ref (am_ad X 12 0)]) (st1 := [.int p5, .long ((σ.2.1 12 0 19) * 32), .ref (am_ad X 12 0)]) (in_12 hX (by omega)) kk_12 mV_X12_look ln_X12_164 rfl (Nat.le_of_ble_eq_true rfl) (Nat.le_of_ble_eq_true rfl) (k_X12_look hX (σ.1 12 0 16) σ hp5) dX12_next_151 rfl rfl ?_
      refine g_i2l (pc := 154) dX12_next_154 ?_
      refine g_ladd (pc := 155) dX12_next_155 ?_
      refine g_ldc2 (pc := 156) (v := 96) (tb_8 (List.mem_of_getElem? (i := 142) (by decide +kernel))) dX12_next_156 ?_
      refine g_lsub (pc := 159) dX12_next_159 ?_
      refine g_goto (pc := 160) 166 dX12_next_160 rfl ?_
      exact q_X12_next_166 hX ((((σ.2.1 12 0 19) * 32) + (Int32.toInt64 p5)) - 96) σ hf hk0 hk1
    replace hf := am_ifF c4 hf
    refine g_ldc2 (pc := 163) (v := (-1)) (tb_8 (List.mem_of_getElem? (i := 106) (by decide +kernel))) dX12_next_163 ?_
    exact q_X12_next_166 hX (-1) σ hf hk0 hk1
  replace hf := am_ifF c3 hf
  have hz := hk1 _ (Option.some.inj hf).symm
  exact hz
set_option maxRecDepth 100000 in
set_option maxHeartbeats 4000000 in
theorem l_X12_next_109 {X : am_X} (hX : am_ks X = am_ksM) {Q : Option Value → am_H → Prop} (σ : am_H) (s : am_H) {o : am_H} (hf : am_loop (fun s => f_X12_next_109 s) s = some o) (hk1 : ∀ t, o = t → am_G X gm_X12_next Q 182 [(0, .ref (am_ad X 12 0))] [] t) : am_G X gm_X12_next Q 109 [(0, .ref (am_ad X 12 0))] [] s := by
  refine am_loop_ind (P := fun s => am_G X gm_X12_next Q 109 [(0, .ref (am_ad X 12 0))] [] s) (K := fun r => r = o) ?_ hf rfl
  intro s o1 hb hi hr
  exact q_X12_next_109 hX  s hb hi (fun t e => hk1 t (hr _ e).symm)
noncomputable def f_X12_next_260 (σ : am_H) : Option ((am_H) ⊕ (am_H)) :=
  (some (am_wI σ 12 0 16 ((σ.1 12 0 16) + 1))).bind fun s1 =>
  some (.inl s1)
set_option maxRecDepth 100000 in
set_option maxHeartbeats 4000000 in
theorem q_X12_next_260 {X : am_X} (hX : am_ks X = am_ksM) {Q : Option Value → am_H → Prop} (σ : am_H) {o : (am_H) ⊕ (am_H)} (hf : f_X12_next_260 σ = some o) (hk0 : ∀ s, o = .inl s → am_G X gm_X12_next Q 210 [(0, .ref (am_ad X 12 0))] [] s) (hk1 : ∀ t, o = .inr t → am_G X gm_X12_next Q 273 [(0, .ref (am_ad X 12 0))] [] t) : am_G X gm_X12_next Q 260 [(0, .ref (am_ad X 12 0))] [] σ := by
  unfold f_X12_next_260 at hf
  refine g_aload_n (pc := 260) 0 rfl dX12_next_260 rfl ?_
  refine g_dup (pc := 261) dX12_next_261 rfl ?_
  refine g_getI (pc := 262) (in_12 hX (by omega)) fr_X12_158 dX12_next_262 ?_
  refine g_iconst (pc := 265) (v := 1) dX12_next_265 (by decide) ?_
  refine g_iadd (pc := 266) dX12_next_266 ?_
  obtain ⟨s1, hs1, hf⟩ := am_bd hf
  refine g_setI (pc := 267) (in_12 hX (by omega)) fr_X12_158 dX12_next_267 (Option.some.inj hs1) ?_
  refine g_goto (pc := 270) 210 dX12_next_270 rfl ?_
  have hz := hk0 _ (Option.some.inj hf).symm
  exact hz
noncomputable def f_X12_next_210 (σ : am_H) : Option ((am_H) ⊕ (am_H)) :=
  (f_X12_look (σ.1 12 0 16) σ).bind fun p1 =>
  (f_X12_isDigit p1 σ).bind fun p2 =>
  if p2 = true then
   (if ((σ.1 12 0 16) - (σ.1 12 0 15)) < 4 then
    ((f_X12_look (σ.1 12 0 16) σ).bind fun p5 =>
    (some (am_wI σ 12 0 17 (((10 * (σ.1 12 0 17)) + p5) - 48))).bind fun s6 =>
    f_X12_next_260 s6)
   else
   f_X12_next_260 σ)
  else
  some (.inr σ)
set_option maxRecDepth 100000 in
set_option maxHeartbeats 4000000 in
theorem q_X12_next_210 {X : am_X} (hX : am_ks X = am_ksM) {Q : Option Value → am_H → Prop} (σ : am_H) {o : (am_H) ⊕ (am_H)} (hf : f_X12_next_210 σ = some o) (hk0 : ∀ s, o = .inl s → am_G X gm_X12_next Q 210 [(0, .ref (am_ad X 12 0))] [] s) (hk1 : ∀ t, o = .inr t → am_G X gm_X12_next Q 273 [(0, .ref (am_ad X 12 0))] [] t) : am_G X gm_X12_next Q 210 [(0, .ref (am_ad X 12 0))] [] σ := by
  unfold f_X12_next_210 at hf
  refine g_aload_n (pc := 210) 0 rfl dX12_next_210 rfl ?_
  refine g_aload_n (pc := 211) 0 rfl dX12_next_211 rfl ?_
  refine g_getI (pc := 212) (in_12 hX (by omega)) fr_X12_158 dX12_next_212 ?_
  obtain ⟨p1, hp1, hf⟩ := am_bd hf
  refine g_cV (pc := 215) (As := [.int (σ.1 12 0 16)]) (st := []) (st1 := [.int p1]) (in_12 hX (by omega)) kk_12 mV_X12_look ln_X12_164 rfl (Nat.le_of_ble_eq_true rfl) (Nat.le_of_ble_eq_true rfl) (k_X12_look hX (σ.1 12 0 16) σ hp1) dX12_next_215 rfl rfl ?_
  obtain ⟨p2, hp2, hf⟩ := am_bd hf
  refine g_cS (pc := 218) (As := [.int p1]) (st := []) (st1 := [.int (am_b p2)]) mS_X12_isDigit ln_X12_183 rfl (Nat.le_of_ble_eq_true rfl) (Nat.le_of_ble_eq_true rfl) (k_X12_isDigit hX p1 σ hp2) dX12_next_218 rfl rfl ?_
  refine bt_eq (pc := 221) 273 dX12_next_221 rfl (fun c3 => ?_) (fun c3 => ?_)
  · replace hf := am_ifT c3 hf
    refine g_aload_n (pc := 224) 0 rfl dX12_next_224 rfl ?_
    refine g_getI (pc := 225) (in_12 hX (by omega)) fr_X12_158 dX12_next_225 ?_
    refine g_aload_n (pc := 228) 0 rfl dX12_next_228 rfl ?_
    refine g_getI (pc := 229) (in_12 hX (by omega)) fr_X12_161 dX12_next_229 ?_
    refine g_isub (pc := 232) dX12_next_232 ?_
    refine g_iconst (pc := 233) (v := 4) dX12_next_233 (by decide) ?_
    refine bi_ge (pc := 234) 260 dX12_next_234 rfl (fun c4 => ?_) (fun c4 => ?_)
    · replace hf := am_ifT c4 hf
      refine g_aload_n (pc := 237) 0 rfl dX12_next_237 rfl ?_
      refine g_bipush (pc := 238) (v := 10) dX12_next_238 (by decide) ?_
      refine g_aload_n (pc := 240) 0 rfl dX12_next_240 rfl ?_
      refine g_getI (pc := 241) (in_12 hX (by omega)) fr_X12_186 dX12_next_241 ?_
      refine g_imul (pc := 244) dX12_next_244 ?_
      refine g_aload_n (pc := 245) 0 rfl dX12_next_245 rfl ?_
      refine g_aload_n (pc := 246) 0 rfl dX12_next_246 rfl ?_
      refine g_getI (pc := 247) (in_12 hX (by omega)) fr_X12_158 dX12_next_247 ?_
      obtain ⟨p5, hp5, hf⟩ := am_bd hf
      refine g_cV (pc := 250) (As := [.int (σ.1 12 0 16)]) (st := [.int (10 * (σ.1 12 0 17)), .ref (am_ad X 12 0)]) (st1 := [.int p5, .int (10 * (σ.1 12 0 17)), .ref (am_ad X 12 0)]) (in_12 hX (by omega)) kk_12 mV_X12_look ln_X12_164 rfl (Nat.le_of_ble_eq_true rfl) (Nat.le_of_ble_eq_true rfl) (k_X12_look hX (σ.1 12 0 16) σ hp5) dX12_next_250 rfl rfl ?_
      refine g_iadd (pc := 253) dX12_next_253 ?_
      refine g_bipush (pc := 254) (v := 48) dX12_next_254 (by decide) ?_
      refine g_isub (pc := 256) dX12_next_256 ?_
      obtain ⟨s6, hs6, hf⟩ := am_bd hf
      refine g_setI (pc := 257) (in_12 hX (by omega)) fr_X12_186 dX12_next_257 (Option.some.inj hs6) ?_
      exact q_X12_next_260 hX s6 hf hk0 hk1
    replace hf := am_ifF c4 hf
    exact q_X12_next_260 hX σ hf hk0 hk1
  replace hf := am_ifF c3 hf
  have hz := hk1 _ (Option.some.inj hf).symm
  exact hz
set_option maxRecDepth 100000 in
set_option maxHeartbeats 4000000 in
theorem l_X12_next_210 {X : am_X} (hX : am_ks X = am_ksM) {Q : Option Value → am_H → Prop} (σ : am_H) (s : am_H) {o : am_H} (hf : am_loop (fun s => f_X12_next_210 s) s = some o) (hk1 : ∀ t, o = t → am_G X gm_X12_next Q 273 [(0, .ref (am_ad X 12 0))] [] t) : am_G X gm_X12_next Q 210 [(0, .ref (am_ad X 12 0))] [] s := by
  refine am_loop_ind (P := fun s => am_G X gm_X12_next Q 210 [(0, .ref (am_ad X 12 0))] [] s) (K := fun r => r = o) ?_ hf rfl
  intro s o1 hb hi hr
  exact q_X12_next_210 hX  s hb hi (fun t e => hk1 t (hr _ e).symm)
noncomputable def f_X12_next_292 (k1 : Int32) (σ : am_H) : Option (am_H) :=
  (some (am_wI σ 12 0 14 k1)).bind fun s1 =>
  some s1
set_option maxRecDepth 100000 in
set_option maxHeartbeats 4000000 in
theorem q_X12_next_292 {X : am_X} (hX : am_ks X = am_ksM) {Q : Option Value → am_H → Prop} (k1 : Int32) (σ : am_H) {o : am_H} (hf : f_X12_next_292 k1 σ = some o) (hk : Q none o) : am_G X gm_X12_next Q 292 [] [.int k1, .ref (am_ad X 12 0)] σ := by
  unfold f_X12_next_292 at hf
  obtain ⟨s1, hs1, hf⟩ := am_bd hf
  refine g_setI (pc := 292) (in_12 hX (by omega)) fr_X12_167 dX12_next_292 (Option.some.inj hs1) ?_
  refine g_goto (pc := 295) 328 dX12_next_295 rfl ?_
  have ho := Option.some.inj hf
  subst ho
  exact g_vreturn (pc := 328) (st := []) rfl dX12_next_328 hk
noncomputable def f_X12_next_325 (k1 : Int32) (σ : am_H) : Option (am_H) :=
  (some (am_wI σ 12 0 14 k1)).bind fun s1 =>
  some s1
set_option maxRecDepth 100000 in
set_option maxHeartbeats 4000000 in
theorem q_X12_next_325 {X : am_X} (hX : am_ks X = am_ksM) {Q : Option Value → am_H → Prop} (k1 : Int32) (σ : am_H) {o : am_H} (hf : f_X12_next_325 k1 σ = some o) (hk : Q none o) : am_G X gm_X12_next Q 325 [] [.int k1, .ref (am_ad X 12 0)] σ := by
  unfold f_X12_next_325 at hf
  obtain ⟨s1, hs1, hf⟩ := am_bd hf
  refine g_setI (pc := 325) (in_12 hX (by omega)) fr_X12_167 dX12_next_325 (Option.some.inj hs1) ?_
  have ho := Option.some.inj hf
  subst ho
  exact g_vreturn (pc := 328) (st := []) rfl dX12_next_328 hk
noncomputable def f_X12_next (σ : am_H) : Option (am_H) :=
  (some (am_wI σ 12 0 15 (σ.1 12 0 16))).bind fun s1 =>
  (am_loop (fun s => f_X12_next_8 s) s1).bind fun w2 =>
  (some (am_wI w2 12 0 16 (w2.1 12 0 15))).bind fun s3 =>
  if (s3.1 12 0 15) < (s3.1 12 0 9) then
   ((f_X12_look (s3.1 12 0 15) s3).bind fun p5 =>
   (f_X12_isLetter p5 s3).bind fun p6 =>
   if p6 = true then
    ((some (am_wI s3 12 0 14 1)).bind fun s8 =>
    (some (am_wL s8 12 0 19 0)).bind fun s9 =>
    (am_loop (fun s => f_X12_next_109 s) s9).bind fun w10 =>
    (some (am_wI w10 12 0 18 ((w10.1 12 0 16) - (w10.1 12 0 15)))).bind fun s11 =>
    some s11)
   else
   (f_X12_isDigit p5 s3).bind fun p12 =>
   if p12 = true then
    ((some (am_wI s3 12 0 17 0)).bind fun s14 =>
    (am_loop (fun s => f_X12_next_210 s) s14).bind fun w15 =>
    if 4 < ((w15.1 12 0 16) - (w15.1 12 0 15)) then
     (f_X12_next_292 4 w15)
    else
    f_X12_next_292 2 w15)
   else
   (some (am_wI s3 12 0 16 ((s3.1 12 0 15) + 1))).bind fun s17 =>
   (some (am_wI s17 12 0 17 p5)).bind fun s18 =>
   if p5 = 59 then
    (f_X12_next_325 3 s18)
   else
   f_X12_next_325 4 s18)
  else
  (some (am_wI s3 12 0 14 0)).bind fun s20 =>
  some s20
set_option maxRecDepth 100000 in
set_option maxHeartbeats 4000000 in
theorem q_X12_next {X : am_X} (hX : am_ks X = am_ksM) {Q : Option Value → am_H → Prop} (σ : am_H) {o : am_H} (hf : f_X12_next σ = some o) (hk : Q none o) : am_G X gm_X12_next Q 0 [(0, .ref (am_ad X 12 0))] [] σ := by
  unfold f_X12_next at hf
  refine g_aload_n (pc := 0) 0 rfl dX12_next_0 rfl ?_
  refine g_aload_n (pc := 1) 0 rfl dX12_next_1 rfl ?_
  refine g_getI (pc := 2) (in_12 hX (by omega)) fr_X12_158 dX12_next_2 ?_
  obtain ⟨s1, hs1, hf⟩ := am_bd hf
  refine g_setI (pc := 5) (in_12 hX (by omega)) fr_X12_161 dX12_next_5 (Option.some.inj hs1) ?_
  obtain ⟨w2, hw2, hf⟩ := am_bd hf
  refine (l_X12_next_8 hX  s1 s1 hw2 ?_)
  intro t e
  subst e
  refine g_aload_n (pc := 58) 0 rfl dX12_next_58 rfl ?_
  refine g_aload_n (pc := 59) 0 rfl dX12_next_59 rfl ?_
  refine g_getI (pc := 60) (in_12 hX (by omega)) fr_X12_161 dX12_next_60 ?_
  obtain ⟨s3, hs3, hf⟩ := am_bd hf
  refine g_setI (pc := 63) (in_12 hX (by omega)) fr_X12_158 dX12_next_63 (Option.some.inj hs3) ?_
  refine g_aload_n (pc := 66) 0 rfl dX12_next_66 rfl ?_
  refine g_getI (pc := 67) (in_12 hX (by omega)) fr_X12_161 dX12_next_67 ?_
  refine g_aload_n (pc := 70) 0 rfl dX12_next_70 rfl ?_
  refine g_getI (pc := 71) (in_12 hX (by omega)) fr_X12_155 dX12_next_71 ?_
  refine bi_lt (pc := 74) 83 dX12_next_74 rfl (fun c4 => ?_) (fun c4 => ?_)
  · replace hf := am_ifT c4 hf
    refine g_aload_n (pc := 83) 0 rfl dX12_next_83 rfl ?_
    refine g_aload_n (pc := 84) 0 rfl dX12_next_84 rfl ?_
    refine g_getI (pc := 85) (in_12 hX (by omega)) fr_X12_161 dX12_next_85 ?_
    obtain ⟨p5, hp5, hf⟩ := am_bd hf
    refine g_cV (pc := 88) (As := [.int (s3.1 12 0 15)]) (st := []) (st1 := [.int p5]) (in_12 hX (by omega)) kk_12 mV_X12_look ln_X12_164 rfl (Nat.le_of_ble_eq_true rfl) (Nat.le_of_ble_eq_true rfl) (k_X12_look hX (s3.1 12 0 15) s3 hp5) dX12_next_88 rfl rfl ?_
    refine g_istore_n (pc := 91) [(1, .int p5), (0, .ref (am_ad X 12 0))] dX12_next_91 rfl (Nat.le_of_ble_eq_true rfl) rfl ?_
    refine g_iload_n (pc := 92) 0 rfl dX12_next_92 rfl ?_
    obtain ⟨p6, hp6, hf⟩ := am_bd hf
    refine g_cS (pc := 93) (As := [.int p5]) (st := []) (st1 := [.int (am_b p6)]) mS_X12_isLetter ln_X12_170 rfl (Nat.le_of_ble_eq_true rfl) (Nat.le_of_ble_eq_true rfl) (k_X12_isLetter hX p5 s3 hp6) dX12_next_93 rfl rfl ?_
    refine bt_eq (pc := 96) 198 dX12_next_96 rfl (fun c7 => ?_) (fun c7 => ?_)
    · replace hf := am_ifT c7 hf
      refine g_aload_n (pc := 99) 1 rfl dX12_next_99 rfl ?_
      refine g_iconst (pc := 100) (v := 1) dX12_next_100 (by decide) ?_
      obtain ⟨s8, hs8, hf⟩ := am_bd hf
      refine g_setI (pc := 101) (in_12 hX (by omega)) fr_X12_167 dX12_next_101 (Option.some.inj hs8) ?_
      refine g_aload_n (pc := 104) 1 rfl dX12_next_104 rfl ?_
      refine g_lconst (pc := 105) (v := 0) dX12_next_105 (by decide) ?_
      obtain ⟨s9, hs9, hf⟩ := am_bd hf
      refine g_setJ (pc := 106) (in_12 hX (by omega)) fr_X12_173 dX12_next_106 (Option.some.inj hs9) ?_
      obtain ⟨w10, hw10, hf⟩ := am_bd hf
      refine am_sub [1] rfl (l_X12_next_109 hX  s9 s9 hw10 ?_)
      intro t e
      subst e
      refine g_aload_n (pc := 182) 0 rfl dX12_next_182 rfl ?_
      refine g_aload_n (pc := 183) 0 rfl dX12_next_183 rfl ?_
      refine g_getI (pc := 184) (in_12 hX (by omega)) fr_X12_158 dX12_next_184 ?_
      refine g_aload_n (pc := 187) 0 rfl dX12_next_187 rfl ?_
      refine g_getI (pc := 188) (in_12 hX (by omega)) fr_X12_161 dX12_next_188 ?_
      refine g_isub (pc := 191) dX12_next_191 ?_
      obtain ⟨s11, hs11, hf⟩ := am_bd hf
      refine g_setI (pc := 192) (in_12 hX (by omega)) fr_X12_180 dX12_next_192 (Option.some.inj hs11) ?_
      refine g_goto (pc := 195) 328 dX12_next_195 rfl ?_
      have ho := Option.some.inj hf
      subst ho
      exact g_vreturn (pc := 328) (st := []) rfl dX12_next_328 hk
    replace hf := am_ifF c7 hf
    refine g_iload_n (pc := 198) 0 rfl dX12_next_198 rfl ?_
    obtain ⟨p12, hp12, hf⟩ := am_bd hf
    refine g_cS (pc := 199) (As := [.int p5]) (st := []) (st1 := [.int (am_b p12)]) mS_X12_isDigit ln_X12_183 rfl (Nat.le_of_ble_eq_true rfl) (Nat.le_of_ble_eq_true rfl) (k_X12_isDigit hX p5 s3 hp12) dX12_next_199 rfl rfl ?_
    refine bt_eq (pc := 202) 298 dX12_next_202 rfl (fun c13 => ?_) (fun c13 => ?_)
    · replace hf := am_ifT c13 hf
      refine g_aload_n (pc := 205) 1 rfl dX12_next_205 rfl ?_
      refine g_iconst (pc := 206) (v := 0) dX12_next_206 (by decide) ?_
      obtain ⟨s14, hs14, hf⟩ := am_bd hf
      refine g_setI (pc := 207) (in_12 hX (by omega)) fr_X12_186 dX12_next_207 (Option.some.inj hs14) ?_
      obtain ⟨w15, hw15, hf⟩ := am_bd hf
      refine am_sub [1] rfl (l_X12_next_210 hX  s14 s14 hw15 ?_)
      intro t e
      subst e
      refine g_aload_n (pc := 273) 0 rfl dX12_next_273 rfl ?_
      refine g_aload_n (pc := 274) 0 rfl dX12_next_274 rfl ?_
      refine g_getI (pc := 275) (in_12 hX (by omega)) fr_X12_158 dX12_next_275 ?_
      refine g_aload_n (pc := 278) 0 rfl dX12_next_278 rfl ?_
      refine g_getI (pc := 279) (in_12 hX (by omega)) fr_X12_161 dX12_next_279 ?_
      refine g_isub (pc := 282) dX12_next_282 ?_
      refine g_iconst (pc := 283) (v := 4) dX12_next_283 (by decide) ?_
      refine bi_le (pc := 284) 291 dX12_next_284 rfl (fun c16 => ?_) (fun c16 => ?_)
      · replace hf := am_ifT c16 hf
        refine g_iconst (pc := 287) (v := 4) dX12_next_287 (by decide) ?_
        refine g_goto (pc := 288) 292 dX12_next_288 rfl ?_
        exact am_sub [] rfl (q_X12_next_292 hX 4 w15 hf hk)
      replace hf := am_ifF c16 hf
      refine g_iconst (pc := 291) (v := 2) dX12_next_291 (by decide) ?_
      exact am_sub [] rfl (q_X12_next_292 hX 2 w15 hf hk)
    replace hf := am_ifF c13 hf
    refine g_aload_n (pc := 298) 1 rfl dX12_next_298 rfl ?_
    refine g_aload_n (pc := 299) 1 rfl dX12_next_299 rfl ?_
    refine g_getI (pc := 300) (in_12 hX (by omega)) fr_X12_161 dX12_next_300 ?_
    refine g_iconst (pc := 303) (v := 1) dX12_next_303 (by decide) ?_
    refine g_iadd (pc := 304) dX12_next_304 ?_
    obtain ⟨s17, hs17, hf⟩ := am_bd hf
    refine g_setI (pc := 305) (in_12 hX (by omega)) fr_X12_158 dX12_next_305 (Option.some.inj hs17) ?_
    refine g_aload_n (pc := 308) 1 rfl dX12_next_308 rfl ?_
    refine g_iload_n (pc := 309) 0 rfl dX12_next_309 rfl ?_
    obtain ⟨s18, hs18, hf⟩ := am_bd hf
    refine g_setI (pc := 310) (in_12 hX (by omega)) fr_X12_186 dX12_next_310 (Option.some.inj hs18) ?_
    refine g_aload_n (pc := 313) 1 rfl dX12_next_313 rfl ?_
    refine g_iload_n (pc := 314) 0 rfl dX12_next_314 rfl ?_
    refine g_bipush (pc := 315) (v := 59) dX12_next_315 (by decide) ?_
    refine bi_ne (pc := 317) 324 dX12_next_317 rfl (fun c19 => ?_) (fun c19 => ?_)
    · replace hf := am_ifT c19 hf
      refine g_iconst (pc := 320) (v := 3) dX12_next_320 (by decide) ?_
      refine g_goto (pc := 321) 325 dX12_next_321 rfl ?_
      exact am_sub [] rfl (q_X12_next_325 hX 3 s18 hf hk)
    replace hf := am_ifF c19 hf
    refine g_iconst (pc := 324) (v := 4) dX12_next_324 (by decide) ?_
    exact am_sub [] rfl (q_X12_next_325 hX 4 s18 hf hk)
  replace hf := am_ifF c4 hf
  refine g_aload_n (pc := 77) 0 rfl dX12_next_77 rfl ?_
  refine g_iconst (pc := 78) (v := 0) dX12_next_78 (by decide) ?_
  obtain ⟨s20, hs20, hf⟩ := am_bd hf
  refine g_setI (pc := 79) (in_12 hX (by omega)) fr_X12_167 dX12_next_79 (Option.some.inj hs20) ?_
  have ho := Option.some.inj hf
  subst ho
  exact g_vreturn (pc := 82) (st := []) rfl dX12_next_82 hk
theorem k_X12_next {X : am_X} (hX : am_ks X = am_ksM) (σ : am_H) {o : am_H} (hf : f_X12_next σ = some o) : am_C X gm_X12_next [.ref (am_ad X 12 0)] σ (am_is none o) :=
  am_ofG rfl (Nat.le_of_ble_eq_true rfl) rfl (q_X12_next hX σ hf ⟨rfl, rfl⟩)
theorem dX12_spelled_0 : decode cX12_spelled 0 = .ok (.iload_n 0, 1) := by decide +kernel
theorem dX12_spelled_1 : decode cX12_spelled 1 = .ok (.i2l, 1) := by decide +kernel
theorem dX12_spelled_2 : decode cX12_spelled 2 = .ok (.ldc2_w 178, 3) := by decide +kernel
theorem dX12_spelled_5 : decode cX12_spelled 5 = .ok (.lsub, 1) := by decide +kernel
theorem dX12_spelled_6 : decode cX12_spelled 6 = .ok (.lstore 5, 2) := by decide +kernel
theorem dX12_spelled_8 : decode cX12_spelled 8 = .ok (.lload 5, 2) := by decide +kernel
theorem dX12_spelled_10 : decode cX12_spelled 10 = .ok (.ldc2_w 176, 3) := by decide +kernel
theorem dX12_spelled_13 : decode cX12_spelled 13 = .ok (.lmul, 1) := by decide +kernel
theorem dX12_spelled_14 : decode cX12_spelled 14 = .ok (.iload_n 1, 1) := by decide +kernel
theorem dX12_spelled_15 : decode cX12_spelled 15 = .ok (.i2l, 1) := by decide +kernel
theorem dX12_spelled_16 : decode cX12_spelled 16 = .ok (.ladd, 1) := by decide +kernel
theorem dX12_spelled_17 : decode cX12_spelled 17 = .ok (.ldc2_w 178, 3) := by decide +kernel
theorem dX12_spelled_20 : decode cX12_spelled 20 = .ok (.lsub, 1) := by decide +kernel
theorem dX12_spelled_21 : decode cX12_spelled 21 = .ok (.lstore 5, 2) := by decide +kernel
theorem dX12_spelled_23 : decode cX12_spelled 23 = .ok (.iload_n 2, 1) := by decide +kernel
theorem dX12_spelled_24 : decode cX12_spelled 24 = .ok (.ifCond .le 19, 3) := by decide +kernel
theorem dX12_spelled_27 : decode cX12_spelled 27 = .ok (.lload 5, 2) := by decide +kernel
theorem dX12_spelled_29 : decode cX12_spelled 29 = .ok (.ldc2_w 176, 3) := by decide +kernel
theorem dX12_spelled_32 : decode cX12_spelled 32 = .ok (.lmul, 1) := by decide +kernel
theorem dX12_spelled_33 : decode cX12_spelled 33 = .ok (.iload_n 2, 1) := by decide +kernel
theorem dX12_spelled_34 : decode cX12_spelled 34 = .ok (.i2l, 1) := by decide +kernel
theorem dX12_spelled_35 : decode cX12_spelled 35 = .ok (.ladd, 1) := by decide +kernel
theorem dX12_spelled_36 : decode cX12_spelled 36 = .ok (.ldc2_w 178, 3) := by decide +kernel
theorem dX12_spelled_39 : decode cX12_spelled 39 = .ok (.lsub, 1) := by decide +kernel
theorem dX12_spelled_40 : decode cX12_spelled 40 = .ok (.goto 5, 3) := by decide +kernel
theorem dX12_spelled_43 : decode cX12_spelled 43 = .ok (.lload 5, 2) := by decide +kernel
theorem dX12_spelled_45 : decode cX12_spelled 45 = .ok (.lstore 5, 2) := by decide +kernel
theorem dX12_spelled_47 : decode cX12_spelled 47 = .ok (.iload_n 3, 1) := by decide +kernel
theorem dX12_spelled_48 : decode cX12_spelled 48 = .ok (.ifCond .le 19, 3) := by decide +kernel
theorem dX12_spelled_51 : decode cX12_spelled 51 = .ok (.lload 5, 2) := by decide +kernel
theorem dX12_spelled_53 : decode cX12_spelled 53 = .ok (.ldc2_w 176, 3) := by decide +kernel
theorem dX12_spelled_56 : decode cX12_spelled 56 = .ok (.lmul, 1) := by decide +kernel
theorem dX12_spelled_57 : decode cX12_spelled 57 = .ok (.iload_n 3, 1) := by decide +kernel
theorem dX12_spelled_58 : decode cX12_spelled 58 = .ok (.i2l, 1) := by decide +kernel
theorem dX12_spelled_59 : decode cX12_spelled 59 = .ok (.ladd, 1) := by decide +kernel
theorem dX12_spelled_60 : decode cX12_spelled 60 = .ok (.ldc2_w 178, 3) := by decide +kernel
theorem dX12_spelled_63 : decode cX12_spelled 63 = .ok (.lsub, 1) := by decide +kernel
theorem dX12_spelled_64 : decode cX12_spelled 64 = .ok (.goto 5, 3) := by decide +kernel
theorem dX12_spelled_67 : decode cX12_spelled 67 = .ok (.lload 5, 2) := by decide +kernel
theorem dX12_spelled_69 : decode cX12_spelled 69 = .ok (.lstore 5, 2) := by decide +kernel
theorem dX12_spelled_71 : decode cX12_spelled 71 = .ok (.iload 4, 2) := by decide +kernel
theorem dX12_spelled_73 : decode cX12_spelled 73 = .ok (.ifCond .le 20, 3) := by decide +kernel
theorem dX12_spelled_76 : decode cX12_spelled 76 = .ok (.lload 5, 2) := by decide +kernel
theorem dX12_spelled_78 : decode cX12_spelled 78 = .ok (.ldc2_w 176, 3) := by decide +kernel
theorem dX12_spelled_81 : decode cX12_spelled 81 = .ok (.lmul, 1) := by decide +kernel
theorem dX12_spelled_82 : decode cX12_spelled 82 = .ok (.iload 4, 2) := by decide +kernel
theorem dX12_spelled_84 : decode cX12_spelled 84 = .ok (.i2l, 1) := by decide +kernel
theorem dX12_spelled_85 : decode cX12_spelled 85 = .ok (.ladd, 1) := by decide +kernel
theorem dX12_spelled_86 : decode cX12_spelled 86 = .ok (.ldc2_w 178, 3) := by decide +kernel
theorem dX12_spelled_89 : decode cX12_spelled 89 = .ok (.lsub, 1) := by decide +kernel
theorem dX12_spelled_90 : decode cX12_spelled 90 = .ok (.goto 5, 3) := by decide +kernel
theorem dX12_spelled_93 : decode cX12_spelled 93 = .ok (.lload 5, 2) := by decide +kernel
theorem dX12_spelled_95 : decode cX12_spelled 95 = .ok (.lreturn, 1) := by decide +kernel
noncomputable def f_X12_spelled_69 (v4 : Int32) (k0 : Int64) (σ : am_H) : Option (Int64) :=
  if 0 < v4 then
   (some (((k0 * 32) + (Int32.toInt64 v4)) - 96))
  else
  some k0
set_option maxRecDepth 100000 in
set_option maxHeartbeats 4000000 in
theorem q_X12_spelled_69 {X : am_X} (hX : am_ks X = am_ksM) {Q : Option Value → am_H → Prop} (v4 : Int32) (k0 : Int64) (σ : am_H) {o : Int64} (hf : f_X12_spelled_69 v4 k0 σ = some o) (hk : Q (some (.long o)) σ) : am_G X gm_X12_spelled Q 69 [(4, .int v4)] [.long k0] σ := by
  unfold f_X12_spelled_69 at hf
  refine g_lstore (pc := 69) [(5, .long k0), (4, .int v4)] dX12_spelled_69 (Nat.le_of_ble_eq_true rfl) rfl ?_
  refine g_iload (pc := 71) 1 rfl dX12_spelled_71 ?_
  refine bz_le (pc := 73) 93 dX12_spelled_73 rfl (fun c1 => ?_) (fun c1 => ?_)
  · replace hf := am_ifT c1 hf
    refine g_lload (pc := 76) 0 rfl dX12_spelled_76 ?_
    refine g_ldc2 (pc := 78) (v := 32) (tb_8 (List.mem_of_getElem? (i := 141) (by decide +kernel))) dX12_spelled_78 ?_
    refine g_lmul (pc := 81) dX12_spelled_81 ?_
    refine g_iload (pc := 82) 1 rfl dX12_spelled_82 ?_
    refine g_i2l (pc := 84) dX12_spelled_84 ?_
    refine g_ladd (pc := 85) dX12_spelled_85 ?_
    refine g_ldc2 (pc := 86) (v := 96) (tb_8 (List.mem_of_getElem? (i := 142) (by decide +kernel))) dX12_spelled_86 ?_
    refine g_lsub (pc := 89) dX12_spelled_89 ?_
    refine g_goto (pc := 90) 95 dX12_spelled_90 rfl ?_
    have ho := Option.some.inj hf
    subst ho
    exact g_lreturn (pc := 95) (st := []) rfl dX12_spelled_95 hk
  replace hf := am_ifF c1 hf
  refine g_lload (pc := 93) 0 rfl dX12_spelled_93 ?_
  have ho := Option.some.inj hf
  subst ho
  exact g_lreturn (pc := 95) (st := []) rfl dX12_spelled_95 hk
noncomputable def f_X12_spelled_45 (v3 : Int32) (v4 : Int32) (k0 : Int64) (σ : am_H) : Option (Int64) :=
  if 0 < v3 then
   (f_X12_spelled_69 v4 (((k0 * 32) + (Int32.toInt64 v3)) - 96) σ)
  else
  f_X12_spelled_69 v4 k0 σ
set_option maxRecDepth 100000 in
set_option maxHeartbeats 4000000 in
theorem q_X12_spelled_45 {X : am_X} (hX : am_ks X = am_ksM) {Q : Option Value → am_H → Prop} (v3 : Int32) (v4 : Int32) (k0 : Int64) (σ : am_H) {o : Int64} (hf : f_X12_spelled_45 v3 v4 k0 σ = some o) (hk : Q (some (.long o)) σ) : am_G X gm_X12_spelled Q 45 [(3, .int v3), (4, .int v4)] [.long k0] σ := by
  unfold f_X12_spelled_45 at hf
  refine g_lstore (pc := 45) [(5, .long k0), (3, .int v3), (4, .int v4)] dX12_spelled_45 (Nat.le_of_ble_eq_true rfl) rfl ?_
  refine g_iload_n (pc := 47) 1 rfl dX12_spelled_47 rfl ?_
  refine bz_le (pc := 48) 67 dX12_spelled_48 rfl (fun c1 => ?_) (fun c1 => ?_)
  · replace hf := am_ifT c1 hf
    refine g_lload (pc := 51) 0 rfl dX12_spelled_51 ?_
    refine g_ldc2 (pc := 53) (v := 32) (tb_8 (List.mem_of_getElem? (i := 141) (by decide +kernel))) dX12_spelled_53 ?_
    refine g_lmul (pc := 56) dX12_spelled_56 ?_
    refine g_iload_n (pc := 57) 1 rfl dX12_spelled_57 rfl ?_
    refine g_i2l (pc := 58) dX12_spelled_58 ?_
    refine g_ladd (pc := 59) dX12_spelled_59 ?_
    refine g_ldc2 (pc := 60) (v := 96) (tb_8 (List.mem_of_getElem? (i := 142) (by decide +kernel))) dX12_spelled_60 ?_
    refine g_lsub (pc := 63) dX12_spelled_63 ?_
    refine g_goto (pc := 64) 69 dX12_spelled_64 rfl ?_
    exact am_sub [2] rfl (q_X12_spelled_69 hX v4 (((k0 * 32) + (Int32.toInt64 v3)) - 96) σ hf hk)
  replace hf := am_ifF c1 hf
  refine g_lload (pc := 67) 0 rfl dX12_spelled_67 ?_
  exact am_sub [2] rfl (q_X12_spelled_69 hX v4 k0 σ hf hk)
noncomputable def f_X12_spelled (v0 : Int32) (v1 : Int32) (v2 : Int32) (v3 : Int32) (v4 : Int32) (σ : am_H) : Option (Int64) :=
  if 0 < v2 then
   (f_X12_spelled_45 v3 v4 ((((((((Int32.toInt64 v0) - 96) * 32) + (Int32.toInt64 v1)) - 96) * 32) + (Int32.toInt64 v2)) - 96) σ)
  else
  f_X12_spelled_45 v3 v4 (((((Int32.toInt64 v0) - 96) * 32) + (Int32.toInt64 v1)) - 96) σ
set_option maxRecDepth 100000 in
set_option maxHeartbeats 4000000 in
theorem q_X12_spelled {X : am_X} (hX : am_ks X = am_ksM) {Q : Option Value → am_H → Prop} (v0 : Int32) (v1 : Int32) (v2 : Int32) (v3 : Int32) (v4 : Int32) (σ : am_H) {o : Int64} (hf : f_X12_spelled v0 v1 v2 v3 v4 σ = some o) (hk : Q (some (.long o)) σ) : am_G X gm_X12_spelled Q 0 [(0, .int v0), (1, .int v1), (2, .int v2), (3, .int v3), (4, .int v4)] [] σ := by
  unfold f_X12_spelled at hf
  refine g_iload_n (pc := 0) 0 rfl dX12_spelled_0 rfl ?_
  refine g_i2l (pc := 1) dX12_spelled_1 ?_
  refine g_ldc2 (pc := 2) (v := 96) (tb_8 (List.mem_of_getElem? (i := 142) (by decide +kernel))) dX12_spelled_2 ?_
  refine g_lsub (pc := 5) dX12_spelled_5 ?_
  refine g_lstore (pc := 6) [(5, .long ((Int32.toInt64 v0) - 96)), (0, .int v0), (1, .int v1), (2, .int v2), (3, .int v3), (4, .int v4)] dX12_spelled_6 (Nat.le_of_ble_eq_true rfl) rfl ?_
  refine g_lload (pc := 8) 0 rfl dX12_spelled_8 ?_
  refine g_ldc2 (pc := 10) (v := 32) (tb_8 (List.mem_of_getElem? (i := 141) (by decide +kernel))) dX12_spelled_10 ?_
  refine g_lmul (pc := 13) dX12_spelled_13 ?_
  refine g_iload_n (pc := 14) 2 rfl dX12_spelled_14 rfl ?_
  refine g_i2l (pc := 15) dX12_spelled_15 ?_
  refine g_ladd (pc := 16) dX12_spelled_16 ?_
  refine g_ldc2 (pc := 17) (v := 96) (tb_8 (List.mem_of_getElem? (i := 142) (by decide +kernel))) dX12_spelled_17 ?_
  refine g_lsub (pc := 20) dX12_spelled_20 ?_
  refine g_lstore (pc := 21) [(5, .long (((((Int32.toInt64 v0) - 96) * 32) + (Int32.toInt64 v1)) - 96)), (0, .int v0), (1, .int v1), (2, .int v2), (3, .int v3), (4, .int v4)] dX12_spelled_21 (Nat.le_of_ble_eq_true rfl) rfl ?_
  refine g_iload_n (pc := 23) 3 rfl dX12_spelled_23 rfl ?_
  refine bz_le (pc := 24) 43 dX12_spelled_24 rfl (fun c1 => ?_) (fun c1 => ?_)
  · replace hf := am_ifT c1 hf
    refine g_lload (pc := 27) 0 rfl dX12_spelled_27 ?_
    refine g_ldc2 (pc := 29) (v := 32) (tb_8 (List.mem_of_getElem? (i := 141) (by decide +kernel))) dX12_spelled_29 ?_
    refine g_lmul (pc := 32) dX12_spelled_32 ?_
    refine g_iload_n (pc := 33) 3 rfl dX12_spelled_33 rfl ?_
    refine g_i2l (pc := 34) dX12_spelled_34 ?_
    refine g_ladd (pc := 35) dX12_spelled_35 ?_
    refine g_ldc2 (pc := 36) (v := 96) (tb_8 (List.mem_of_getElem? (i := 142) (by decide +kernel))) dX12_spelled_36 ?_
    refine g_lsub (pc := 39) dX12_spelled_39 ?_
    refine g_goto (pc := 40) 45 dX12_spelled_40 rfl ?_
    exact am_sub [4, 5] rfl (q_X12_spelled_45 hX v3 v4 ((((((((Int32.toInt64 v0) - 96) * 32) + (Int32.toInt64 v1)) - 96) * 32) + (Int32.toInt64 v2)) - 96) σ hf hk)
  replace hf := am_ifF c1 hf
  refine g_lload (pc := 43) 0 rfl dX12_spelled_43 ?_
  exact am_sub [4, 5] rfl (q_X12_spelled_45 hX v3 v4 (((((Int32.toInt64 v0) - 96) * 32) + (Int32.toInt64 v1)) - 96) σ hf hk)
theorem k_X12_spelled {X : am_X} (hX : am_ks X = am_ksM) (v0 : Int32) (v1 : Int32) (v2 : Int32) (v3 : Int32) (v4 : Int32) (σ : am_H) {o : Int64} (hf : f_X12_spelled v0 v1 v2 v3 v4 σ = some o) : am_C X gm_X12_spelled [.int v0, .int v1, .int v2, .int v3, .int v4] σ (am_is (some (.long o)) σ) :=
  am_ofG rfl (Nat.le_of_ble_eq_true rfl) rfl (q_X12_spelled hX v0 v1 v2 v3 v4 σ hf ⟨rfl, rfl⟩)
theorem dX12_isWord_0 : decode cX12_isWord 0 = .ok (.aload_n 0, 1) := by decide +kernel
theorem dX12_isWord_1 : decode cX12_isWord 1 = .ok (.getfield 167, 3) := by decide +kernel
theorem dX12_isWord_4 : decode cX12_isWord 4 = .ok (.iconst 1, 1) := by decide +kernel
theorem dX12_isWord_5 : decode cX12_isWord 5 = .ok (.if_icmp .ne 16, 3) := by decide +kernel
theorem dX12_isWord_8 : decode cX12_isWord 8 = .ok (.aload_n 0, 1) := by decide +kernel
theorem dX12_isWord_9 : decode cX12_isWord 9 = .ok (.getfield 173, 3) := by decide +kernel
theorem dX12_isWord_12 : decode cX12_isWord 12 = .ok (.lload_n 1, 1) := by decide +kernel
theorem dX12_isWord_13 : decode cX12_isWord 13 = .ok (.lcmp, 1) := by decide +kernel
theorem dX12_isWord_14 : decode cX12_isWord 14 = .ok (.ifCond .ne 7, 3) := by decide +kernel
theorem dX12_isWord_17 : decode cX12_isWord 17 = .ok (.iconst 1, 1) := by decide +kernel
theorem dX12_isWord_18 : decode cX12_isWord 18 = .ok (.goto 4, 3) := by decide +kernel
theorem dX12_isWord_21 : decode cX12_isWord 21 = .ok (.iconst 0, 1) := by decide +kernel
theorem dX12_isWord_22 : decode cX12_isWord 22 = .ok (.ireturn, 1) := by decide +kernel
noncomputable def f_X12_isWord (v1 : Int64) (σ : am_H) : Option (Bool) :=
  if (σ.1 12 0 14) = 1 then
   (if (σ.2.1 12 0 19) = v1 then
    (some true)
   else
   some false)
  else
  some false
set_option maxRecDepth 100000 in
set_option maxHeartbeats 4000000 in
theorem q_X12_isWord {X : am_X} (hX : am_ks X = am_ksM) {Q : Option Value → am_H → Prop} (v1 : Int64) (σ : am_H) {o : Bool} (hf : f_X12_isWord v1 σ = some o) (hk : Q (some (.int (am_b o))) σ) : am_G X gm_X12_isWord Q 0 [(0, .ref (am_ad X 12 0)), (1, .long v1)] [] σ := by
  unfold f_X12_isWord at hf
  refine g_aload_n (pc := 0) 0 rfl dX12_isWord_0 rfl ?_
  refine g_getI (pc := 1) (in_12 hX (by omega)) fr_X12_167 dX12_isWord_1 ?_
  refine g_iconst (pc := 4) (v := 1) dX12_isWord_4 (by decide) ?_
  refine bi_ne (pc := 5) 21 dX12_isWord_5 rfl (fun c1 => ?_) (fun c1 => ?_)
  · replace hf := am_ifT c1 hf
    refine g_aload_n (pc := 8) 0 rfl dX12_isWord_8 rfl ?_
    refine g_getJ (pc := 9) (in_12 hX (by omega)) fr_X12_173 dX12_isWord_9 ?_
    refine g_lload_n (pc := 12) 1 rfl dX12_isWord_12 rfl ?_
    refine g_lcm (pc := 13) dX12_isWord_13 ?_
    refine bl_ne (pc := 14) 21 dX12_isWord_14 rfl (fun c2 => ?_) (fun c2 => ?_)
    · replace hf := am_ifT c2 hf
      refine g_iconst (pc := 17) (v := 1) dX12_isWord_17 (by decide) ?_
      refine g_goto (pc := 18) 22 dX12_isWord_18 rfl ?_
      have ho := Option.some.inj hf
      subst ho
      exact g_zreturn (pc := 22) (st := []) (x := true) rfl dX12_isWord_22 hk
    replace hf := am_ifF c2 hf
    refine g_iconst (pc := 21) (v := 0) dX12_isWord_21 (by decide) ?_
    have ho := Option.some.inj hf
    subst ho
    exact g_zreturn (pc := 22) (st := []) (x := false) rfl dX12_isWord_22 hk
  replace hf := am_ifF c1 hf
  refine g_iconst (pc := 21) (v := 0) dX12_isWord_21 (by decide) ?_
  have ho := Option.some.inj hf
  subst ho
  exact g_zreturn (pc := 22) (st := []) (x := false) rfl dX12_isWord_22 hk
theorem k_X12_isWord {X : am_X} (hX : am_ks X = am_ksM) (v1 : Int64) (σ : am_H) {o : Bool} (hf : f_X12_isWord v1 σ = some o) : am_C X gm_X12_isWord [.ref (am_ad X 12 0), .long v1] σ (am_is (some (.int (am_b o))) σ) :=
  am_ofG rfl (Nat.le_of_ble_eq_true rfl) rfl (q_X12_isWord hX v1 σ hf ⟨rfl, rfl⟩)
theorem dX12_isWave_0 : decode cX12_isWave 0 = .ok (.aload_n 0, 1) := by decide +kernel
theorem dX12_isWave_1 : decode cX12_isWave 1 = .ok (.bipush 119, 2) := by decide +kernel
theorem dX12_isWave_3 : decode cX12_isWave 3 = .ok (.bipush 97, 2) := by decide +kernel
theorem dX12_isWave_5 : decode cX12_isWave 5 = .ok (.bipush 118, 2) := by decide +kernel
theorem dX12_isWave_7 : decode cX12_isWave 7 = .ok (.bipush 101, 2) := by decide +kernel
theorem dX12_isWave_9 : decode cX12_isWave 9 = .ok (.iconst 0, 1) := by decide +kernel
theorem dX12_isWave_10 : decode cX12_isWave 10 = .ok (.invokestatic 189, 3) := by decide +kernel
theorem dX12_isWave_13 : decode cX12_isWave 13 = .ok (.invokevirtual 193, 3) := by decide +kernel
theorem dX12_isWave_16 : decode cX12_isWave 16 = .ok (.ireturn, 1) := by decide +kernel
noncomputable def f_X12_isWave (σ : am_H) : Option (Bool) :=
  (f_X12_spelled 119 97 118 101 0 σ).bind fun p1 =>
  (f_X12_isWord p1 σ).bind fun p2 =>
  some p2
set_option maxRecDepth 100000 in
set_option maxHeartbeats 4000000 in
theorem q_X12_isWave {X : am_X} (hX : am_ks X = am_ksM) {Q : Option Value → am_H → Prop} (σ : am_H) {o : Bool} (hf : f_X12_isWave σ = some o) (hk : Q (some (.int (am_b o))) σ) : am_G X gm_X12_isWave Q 0 [(0, .ref (am_ad X 12 0))] [] σ := by
  unfold f_X12_isWave at hf
  refine g_aload_n (pc := 0) 0 rfl dX12_isWave_0 rfl ?_
  refine g_bipush (pc := 1) (v := 119) dX12_isWave_1 (by decide) ?_
  refine g_bipush (pc := 3) (v := 97) dX12_isWave_3 (by decide) ?_
  refine g_bipush (pc := 5) (v := 118) dX12_isWave_5 (by decide) ?_
  refine g_bipush (pc := 7) (v := 101) dX12_isWave_7 (by decide) ?_
  refine g_iconst (pc := 9) (v := 0) dX12_isWave_9 (by decide) ?_
  obtain ⟨p1, hp1, hf⟩ := am_bd hf
  refine g_cS (pc := 10) (As := [.int 119, .int 97, .int 118, .int 101, .int 0]) (st := [.ref (am_ad X 12 0)]) (st1 := [.long p1, .ref (am_ad X 12 0)]) mS_X12_spelled ln_X12_189 rfl (Nat.le_of_ble_eq_true rfl) (Nat.le_of_ble_eq_true rfl) (k_X12_spelled hX 119 97 118 101 0 σ hp1) dX12_isWave_10 rfl rfl ?_
  obtain ⟨p2, hp2, hf⟩ := am_bd hf
  refine g_cV (pc := 13) (As := [.long p1]) (st := []) (st1 := [.int (am_b p2)]) (in_12 hX (by omega)) kk_12 mV_X12_isWord ln_X12_193 rfl (Nat.le_of_ble_eq_true rfl) (Nat.le_of_ble_eq_true rfl) (k_X12_isWord hX p1 σ hp2) dX12_isWave_13 rfl rfl ?_
  have ho := Option.some.inj hf
  subst ho
  exact g_zreturn (pc := 16) (st := []) (x := p2) rfl dX12_isWave_16 hk
theorem k_X12_isWave {X : am_X} (hX : am_ks X = am_ksM) (σ : am_H) {o : Bool} (hf : f_X12_isWave σ = some o) : am_C X gm_X12_isWave [.ref (am_ad X 12 0)] σ (am_is (some (.int (am_b o))) σ) :=
  am_ofG rfl (Nat.le_of_ble_eq_true rfl) rfl (q_X12_isWave hX σ hf ⟨rfl, rfl⟩)
theorem dX12_isTurns_0 : decode cX12_isTurns 0 = .ok (.aload_n 0, 1) := by decide +kernel
theorem dX12_isTurns_1 : decode cX12_isTurns 1 = .ok (.bipush 116, 2) := by decide +kernel
theorem dX12_isTurns_3 : decode cX12_isTurns 3 = .ok (.bipush 117, 2) := by decide +kernel
theorem dX12_isTurns_5 : decode cX12_isTurns 5 = .ok (.bipush 114, 2) := by decide +kernel
theorem dX12_isTurns_7 : decode cX12_isTurns 7 = .ok (.bipush 110, 2) := by decide +kernel
theorem dX12_isTurns_9 : decode cX12_isTurns 9 = .ok (.bipush 115, 2) := by decide +kernel
theorem dX12_isTurns_11 : decode cX12_isTurns 11 = .ok (.invokestatic 189, 3) := by decide +kernel
theorem dX12_isTurns_14 : decode cX12_isTurns 14 = .ok (.invokevirtual 193, 3) := by decide +kernel
theorem dX12_isTurns_17 : decode cX12_isTurns 17 = .ok (.ireturn, 1) := by decide +kernel
noncomputable def f_X12_isTurns (σ : am_H) : Option (Bool) :=
  (f_X12_spelled 116 117 114 110 115 σ).bind fun p1 =>
  (f_X12_isWord p1 σ).bind fun p2 =>
  some p2
set_option maxRecDepth 100000 in
set_option maxHeartbeats 4000000 in
theorem q_X12_isTurns {X : am_X} (hX : am_ks X = am_ksM) {Q : Option Value → am_H → Prop} (σ : am_H) {o : Bool} (hf : f_X12_isTurns σ = some o) (hk : Q (some (.int (am_b o))) σ) : am_G X gm_X12_isTurns Q 0 [(0, .ref (am_ad X 12 0))] [] σ := by
  unfold f_X12_isTurns at hf
  refine g_aload_n (pc := 0) 0 rfl dX12_isTurns_0 rfl ?_
  refine g_bipush (pc := 1) (v := 116) dX12_isTurns_1 (by decide) ?_
  refine g_bipush (pc := 3) (v := 117) dX12_isTurns_3 (by decide) ?_
  refine g_bipush (pc := 5) (v := 114) dX12_isTurns_5 (by decide) ?_
  refine g_bipush (pc := 7) (v := 110) dX12_isTurns_7 (by decide) ?_
  refine g_bipush (pc := 9) (v := 115) dX12_isTurns_9 (by decide) ?_
  obtain ⟨p1, hp1, hf⟩ := am_bd hf
  refine g_cS (pc := 11) (As := [.int 116, .int 117, .int 114, .int 110, .int 115]) (st := [.ref (am_ad X 12 0)]) (st1 := [.long p1, .ref (am_ad X 12 0)]) mS_X12_spelled ln_X12_189 rfl (Nat.le_of_ble_eq_true rfl) (Nat.le_of_ble_eq_true rfl) (k_X12_spelled hX 116 117 114 110 115 σ hp1) dX12_isTurns_11 rfl rfl ?_
  obtain ⟨p2, hp2, hf⟩ := am_bd hf
  refine g_cV (pc := 14) (As := [.long p1]) (st := []) (st1 := [.int (am_b p2)]) (in_12 hX (by omega)) kk_12 mV_X12_isWord ln_X12_193 rfl (Nat.le_of_ble_eq_true rfl) (Nat.le_of_ble_eq_true rfl) (k_X12_isWord hX p1 σ hp2) dX12_isTurns_14 rfl rfl ?_
  have ho := Option.some.inj hf
  subst ho
  exact g_zreturn (pc := 17) (st := []) (x := p2) rfl dX12_isTurns_17 hk
theorem k_X12_isTurns {X : am_X} (hX : am_ks X = am_ksM) (σ : am_H) {o : Bool} (hf : f_X12_isTurns σ = some o) : am_C X gm_X12_isTurns [.ref (am_ad X 12 0)] σ (am_is (some (.int (am_b o))) σ) :=
  am_ofG rfl (Nat.le_of_ble_eq_true rfl) rfl (q_X12_isTurns hX σ hf ⟨rfl, rfl⟩)
theorem dX12_isInWord_0 : decode cX12_isInWord 0 = .ok (.aload_n 0, 1) := by decide +kernel
theorem dX12_isInWord_1 : decode cX12_isInWord 1 = .ok (.bipush 105, 2) := by decide +kernel
theorem dX12_isInWord_3 : decode cX12_isInWord 3 = .ok (.bipush 110, 2) := by decide +kernel
theorem dX12_isInWord_5 : decode cX12_isInWord 5 = .ok (.iconst 0, 1) := by decide +kernel
theorem dX12_isInWord_6 : decode cX12_isInWord 6 = .ok (.iconst 0, 1) := by decide +kernel
theorem dX12_isInWord_7 : decode cX12_isInWord 7 = .ok (.iconst 0, 1) := by decide +kernel
theorem dX12_isInWord_8 : decode cX12_isInWord 8 = .ok (.invokestatic 189, 3) := by decide +kernel
theorem dX12_isInWord_11 : decode cX12_isInWord 11 = .ok (.invokevirtual 193, 3) := by decide +kernel
theorem dX12_isInWord_14 : decode cX12_isInWord 14 = .ok (.ireturn, 1) := by decide +kernel
noncomputable def f_X12_isInWord (σ : am_H) : Option (Bool) :=
  (f_X12_spelled 105 110 0 0 0 σ).bind fun p1 =>
  (f_X12_isWord p1 σ).bind fun p2 =>
  some p2
set_option maxRecDepth 100000 in
set_option maxHeartbeats 4000000 in
theorem q_X12_isInWord {X : am_X} (hX : am_ks X = am_ksM) {Q : Option Value → am_H → Prop} (σ : am_H) {o : Bool} (hf : f_X12_isInWord σ = some o) (hk : Q (some (.int (am_b o))) σ) : am_G X gm_X12_isInWord Q 0 [(0, .ref (am_ad X 12 0))] [] σ := by
  unfold f_X12_isInWord at hf
  refine g_aload_n (pc := 0) 0 rfl dX12_isInWord_0 rfl ?_
  refine g_bipush (pc := 1) (v := 105) dX12_isInWord_1 (by decide) ?_
  refine g_bipush (pc := 3) (v := 110) dX12_isInWord_3 (by decide) ?_
  refine g_iconst (pc := 5) (v := 0) dX12_isInWord_5 (by decide) ?_
  refine g_iconst (pc := 6) (v := 0) dX12_isInWord_6 (by decide) ?_
  refine g_iconst (pc := 7) (v := 0) dX12_isInWord_7 (by decide) ?_
  obtain ⟨p1, hp1, hf⟩ := am_bd hf
  refine g_cS (pc := 8) (As := [.int 105, .int 110, .int 0, .int 0, .int 0]) (st := [.ref (am_ad X 12 0)]) (st1 := [.long p1, .ref (am_ad X 12 0)]) mS_X12_spelled ln_X12_189 rfl (Nat.le_of_ble_eq_true rfl) (Nat.le_of_ble_eq_true rfl) (k_X12_spelled hX 105 110 0 0 0 σ hp1) dX12_isInWord_8 rfl rfl ?_
  obtain ⟨p2, hp2, hf⟩ := am_bd hf
  refine g_cV (pc := 11) (As := [.long p1]) (st := []) (st1 := [.int (am_b p2)]) (in_12 hX (by omega)) kk_12 mV_X12_isWord ln_X12_193 rfl (Nat.le_of_ble_eq_true rfl) (Nat.le_of_ble_eq_true rfl) (k_X12_isWord hX p1 σ hp2) dX12_isInWord_11 rfl rfl ?_
  have ho := Option.some.inj hf
  subst ho
  exact g_zreturn (pc := 14) (st := []) (x := p2) rfl dX12_isInWord_14 hk
theorem k_X12_isInWord {X : am_X} (hX : am_ks X = am_ksM) (σ : am_H) {o : Bool} (hf : f_X12_isInWord σ = some o) : am_C X gm_X12_isInWord [.ref (am_ad X 12 0)] σ (am_is (some (.int (am_b o))) σ) :=
  am_ofG rfl (Nat.le_of_ble_eq_true rfl) rfl (q_X12_isInWord hX σ hf ⟨rfl, rfl⟩)
theorem dX12_isBox_0 : decode cX12_isBox 0 = .ok (.aload_n 0, 1) := by decide +kernel
theorem dX12_isBox_1 : decode cX12_isBox 1 = .ok (.bipush 98, 2) := by decide +kernel
theorem dX12_isBox_3 : decode cX12_isBox 3 = .ok (.bipush 111, 2) := by decide +kernel
theorem dX12_isBox_5 : decode cX12_isBox 5 = .ok (.bipush 120, 2) := by decide +kernel
theorem dX12_isBox_7 : decode cX12_isBox 7 = .ok (.iconst 0, 1) := by decide +kernel
theorem dX12_isBox_8 : decode cX12_isBox 8 = .ok (.iconst 0, 1) := by decide +kernel
theorem dX12_isBox_9 : decode cX12_isBox 9 = .ok (.invokestatic 189, 3) := by decide +kernel
theorem dX12_isBox_12 : decode cX12_isBox 12 = .ok (.invokevirtual 193, 3) := by decide +kernel
theorem dX12_isBox_15 : decode cX12_isBox 15 = .ok (.ireturn, 1) := by decide +kernel
noncomputable def f_X12_isBox (σ : am_H) : Option (Bool) :=
  (f_X12_spelled 98 111 120 0 0 σ).bind fun p1 =>
  (f_X12_isWord p1 σ).bind fun p2 =>
  some p2
set_option maxRecDepth 100000 in
set_option maxHeartbeats 4000000 in
theorem q_X12_isBox {X : am_X} (hX : am_ks X = am_ksM) {Q : Option Value → am_H → Prop} (σ : am_H) {o : Bool} (hf : f_X12_isBox σ = some o) (hk : Q (some (.int (am_b o))) σ) : am_G X gm_X12_isBox Q 0 [(0, .ref (am_ad X 12 0))] [] σ := by
  unfold f_X12_isBox at hf
  refine g_aload_n (pc := 0) 0 rfl dX12_isBox_0 rfl ?_
  refine g_bipush (pc := 1) (v := 98) dX12_isBox_1 (by decide) ?_
  refine g_bipush (pc := 3) (v := 111) dX12_isBox_3 (by decide) ?_
  refine g_bipush (pc := 5) (v := 120) dX12_isBox_5 (by decide) ?_
  refine g_iconst (pc := 7) (v := 0) dX12_isBox_7 (by decide) ?_
  refine g_iconst (pc := 8) (v := 0) dX12_isBox_8 (by decide) ?_
  obtain ⟨p1, hp1, hf⟩ := am_bd hf
  refine g_cS (pc := 9) (As := [.int 98, .int 111, .int 120, .int 0, .int 0]) (st := [.ref (am_ad X 12 0)]) (st1 := [.long p1, .ref (am_ad X 12 0)]) mS_X12_spelled ln_X12_189 rfl (Nat.le_of_ble_eq_true rfl) (Nat.le_of_ble_eq_true rfl) (k_X12_spelled hX 98 111 120 0 0 σ hp1) dX12_isBox_9 rfl rfl ?_
  obtain ⟨p2, hp2, hf⟩ := am_bd hf
  refine g_cV (pc := 12) (As := [.long p1]) (st := []) (st1 := [.int (am_b p2)]) (in_12 hX (by omega)) kk_12 mV_X12_isWord ln_X12_193 rfl (Nat.le_of_ble_eq_true rfl) (Nat.le_of_ble_eq_true rfl) (k_X12_isWord hX p1 σ hp2) dX12_isBox_12 rfl rfl ?_
  have ho := Option.some.inj hf
  subst ho
  exact g_zreturn (pc := 15) (st := []) (x := p2) rfl dX12_isBox_15 hk
theorem k_X12_isBox {X : am_X} (hX : am_ks X = am_ksM) (σ : am_H) {o : Bool} (hf : f_X12_isBox σ = some o) : am_C X gm_X12_isBox [.ref (am_ad X 12 0)] σ (am_is (some (.int (am_b o))) σ) :=
  am_ofG rfl (Nat.le_of_ble_eq_true rfl) rfl (q_X12_isBox hX σ hf ⟨rfl, rfl⟩)
theorem dX12_isOf_0 : decode cX12_isOf 0 = .ok (.aload_n 0, 1) := by decide +kernel
theorem dX12_isOf_1 : decode cX12_isOf 1 = .ok (.bipush 111, 2) := by decide +kernel
theorem dX12_isOf_3 : decode cX12_isOf 3 = .ok (.bipush 102, 2) := by decide +kernel
theorem dX12_isOf_5 : decode cX12_isOf 5 = .ok (.iconst 0, 1) := by decide +kernel
theorem dX12_isOf_6 : decode cX12_isOf 6 = .ok (.iconst 0, 1) := by decide +kernel
theorem dX12_isOf_7 : decode cX12_isOf 7 = .ok (.iconst 0, 1) := by decide +kernel
theorem dX12_isOf_8 : decode cX12_isOf 8 = .ok (.invokestatic 189, 3) := by decide +kernel
theorem dX12_isOf_11 : decode cX12_isOf 11 = .ok (.invokevirtual 193, 3) := by decide +kernel
theorem dX12_isOf_14 : decode cX12_isOf 14 = .ok (.ireturn, 1) := by decide +kernel
noncomputable def f_X12_isOf (σ : am_H) : Option (Bool) :=
  (f_X12_spelled 111 102 0 0 0 σ).bind fun p1 =>
  (f_X12_isWord p1 σ).bind fun p2 =>
  some p2
set_option maxRecDepth 100000 in
set_option maxHeartbeats 4000000 in
theorem q_X12_isOf {X : am_X} (hX : am_ks X = am_ksM) {Q : Option Value → am_H → Prop} (σ : am_H) {o : Bool} (hf : f_X12_isOf σ = some o) (hk : Q (some (.int (am_b o))) σ) : am_G X gm_X12_isOf Q 0 [(0, .ref (am_ad X 12 0))] [] σ := by
  unfold f_X12_isOf at hf
  refine g_aload_n (pc := 0) 0 rfl dX12_isOf_0 rfl ?_
  refine g_bipush (pc := 1) (v := 111) dX12_isOf_1 (by decide) ?_
  refine g_bipush (pc := 3) (v := 102) dX12_isOf_3 (by decide) ?_
  refine g_iconst (pc := 5) (v := 0) dX12_isOf_5 (by decide) ?_
  refine g_iconst (pc := 6) (v := 0) dX12_isOf_6 (by decide) ?_
  refine g_iconst (pc := 7) (v := 0) dX12_isOf_7 (by decide) ?_
  obtain ⟨p1, hp1, hf⟩ := am_bd hf
  refine g_cS (pc := 8) (As := [.int 111, .int 102, .int 0, .int 0, .int 0]) (st := [.ref (am_ad X 12 0)]) (st1 := [.long p1, .ref (am_ad X 12 0)]) mS_X12_spelled ln_X12_189 rfl (Nat.le_of_ble_eq_true rfl) (Nat.le_of_ble_eq_true rfl) (k_X12_spelled hX 111 102 0 0 0 σ hp1) dX12_isOf_8 rfl rfl ?_
  obtain ⟨p2, hp2, hf⟩ := am_bd hf
  refine g_cV (pc := 11) (As := [.long p1]) (st := []) (st1 := [.int (am_b p2)]) (in_12 hX (by omega)) kk_12 mV_X12_isWord ln_X12_193 rfl (Nat.le_of_ble_eq_true rfl) (Nat.le_of_ble_eq_true rfl) (k_X12_isWord hX p1 σ hp2) dX12_isOf_11 rfl rfl ?_
  have ho := Option.some.inj hf
  subst ho
  exact g_zreturn (pc := 14) (st := []) (x := p2) rfl dX12_isOf_14 hk
theorem k_X12_isOf {X : am_X} (hX : am_ks X = am_ksM) (σ : am_H) {o : Bool} (hf : f_X12_isOf σ = some o) : am_C X gm_X12_isOf [.ref (am_ad X 12 0)] σ (am_is (some (.int (am_b o))) σ) :=
  am_ofG rfl (Nat.le_of_ble_eq_true rfl) rfl (q_X12_isOf hX σ hf ⟨rfl, rfl⟩)
