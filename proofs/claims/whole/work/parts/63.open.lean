set_option maxRecDepth 100000 in
theorem am_df11 : ∀ j, j < 16 → defaultValue (tyX11 j) = vp_V [.int 0, .long 0, .long 0, .null, .null, .null, .null, .null, .null, .null, .null, .null, .null, .null, .null, .null] j := by decide +kernel
set_option maxRecDepth 100000 in
theorem am_df12 : ∀ j, j < 86 → defaultValue (tyX12 j) = vp_V [.int 0, .int 0, .long 0, .long 0, .null, .null, .null, .null, .int 0, .int 0, .int 0, .int 0, .int 0, .int 0, .int 0, .int 0, .int 0, .int 0, .int 0, .long 0, .null, .null, .null, .null, .null, .null, .null, .int 0, .int 0, .int 0, .int 0, .int 0, .int 0, .int 0, .int 0, .int 0, .int 0, .int 0, .int 0, .int 0, .int 0, .int 0, .int 0, .long 0, .null, .null, .int 0, .int 0, .int 0, .int 0, .int 0, .int 0, .int 0, .int 0, .int 0, .int 0, .int 0, .int 0, .int 0, .int 0, .int 0, .int 0, .int 0, .int 0, .long 0, .int 0, .int 0, .int 0, .null, .null, .null, .null, .null, .null, .null, .null, .null, .null, .int 0, .null, .null, .int 0, .long 0, .null, .null, .null] j := by decide +kernel
set_option maxRecDepth 100000 in
set_option maxHeartbeats 8000000 in
/-- from the entry, if both sides answer alike -/
theorem whole_open {p : Program} {e : Env} {s : State} {m : MethodId} {below : List Frame} {meth : Method} {c : Code} (l : Launch) {b L : Nat} {xs : Nat → Int32} (hL : L ≤ 5120) (C0 : lw_At p s m meth c b L xs) (Rel : am_H → am_H → Prop) (hall : am_all Rel) (h0 : Rel am_zC am_zM) : W p l e room_1 s m #[Value.ref b] below meth c s.heap [] 0 0 (lw_Z below #[Value.ref b] s) (entryFrame m ([Value.ref b] : List Value).toArray 4) := by
  obtain ⟨hx, hb, hr, hml, hown, hts, hX, hbl, hlocks, hgv⟩ := id C0
  have hs := flat_of_before _ hgv
  have hT : am_T s := am_T.of hts
  have hA : ∀ q : Nat, s.heap.size ≤ q → (fun q : Nat => s.heap.size ≤ q) q := fun _ h => h
  obtain ⟨D, hKc⟩ := am_knownC hts
  obtain ⟨ca, hKa⟩ := am_arrs hts
  have hK : va_K D vwCl (am_tz ca) s := ⟨hKc, hKa⟩
  have hO : am_AO s := ⟨va_AO.of (hts _ ow_8), va_AO.of (hts _ ow_3), va_AO.of (hts _ ow_10)⟩
  obtain ⟨kK, kV, co, hCn⟩ := am_Cnof hts hs
  have hl := lv_entry ([.ref b]) (n := 4) (Nat.le_of_ble_eq_true rfl)
  rw [lg_entry_eq]
  generalize (lg_sl ([.ref b]) ++ List.replicate (4 - (lg_sl ([.ref b])).length) Slot.unset).toArray = ls at hl ⊢
  have hl : lv_has ls 4 [(0, .ref b)] := hl
  have hS : va_S (fun q : Nat => s.heap.size ≤ q) s.heap s.heap [] := va_S.rf
  have hP : va_P D vwCl [] s.heap := fun k q h => by simp at h
  have hD : va_D (fun q : Nat => s.heap.size ≤ q) [] := ⟨fun i j p q h => by simp at h, fun k q h => by simp at h⟩
  refine va_new (ci := 11) (fs := [.int 0, .long 0, .long 0, .null, .null, .null, .null, .null, .null, .null, .null, .null, .null, .null, .null, .null]) (C := RX11) (T := TX11) (N := 16) hx hb (Ts := u_ws RX11 TX11 16) (fun w hw => hT.a (kd_11.2.2.2.1 w hw).1 (kd_11.2.2.2.1 w hw).2) (fun _ h => h) tyX11 tyX11_ok hown (hts (.classLink R_law 7 RX11) (tb_1 (List.mem_of_getElem? (i := 21) (by decide +kernel)))) (hts (.instantiable RX11 16) (tb_1 (List.mem_of_getElem? (i := 22) (by decide +kernel)))) (hts (.initialized RX11) ini_RX11) hK hP hD hS hA rfl am_df11 (by decide) (by decide) dL_law_0 (fun q1 H1 hP hD hS => ?_)
  refine lv_dup hx hb dL_law_3 rfl ?_
  refine am_initW (Y := (l, D, am_tz ca)) (st := [.ref q1]) (r := []) hx hb hml hown hT hK hO hA (ce_11 l D ca q1) cd_I11 ini_RX11 nh_RX11 pd_I11 (Nat.le_of_ble_eq_true rfl) rfl iw_I11 (tb_1 (List.mem_of_getElem? (i := 23) (by decide +kernel))) ⟨by decide, by decide⟩ (Nat.le_of_ble_eq_true rfl) (by decide) (by decide) hP hD hS hl.1 dL_law_4 ?_
  intro w1 H2 locs2 hQ1 hP hD hS
  rw [List.append_nil] at hP hD
  refine lv_astore_n (lv' := [(1, .ref q1), (0, .ref b)]) hx hb dL_law_7 rfl hl (by decide) rfl (fun ls hl => ?_)
  refine va_new (ci := 12) (fs := [.int 0, .int 0, .long 0, .long 0, .null, .null, .null, .null, .int 0, .int 0, .int 0, .int 0, .int 0, .int 0, .int 0, .int 0, .int 0, .int 0, .int 0, .long 0, .null, .null, .null, .null, .null, .null, .null, .int 0, .int 0, .int 0, .int 0, .int 0, .int 0, .int 0, .int 0, .int 0, .int 0, .int 0, .int 0, .int 0, .int 0, .int 0, .int 0, .long 0, .null, .null, .int 0, .int 0, .int 0, .int 0, .int 0, .int 0, .int 0, .int 0, .int 0, .int 0, .int 0, .int 0, .int 0, .int 0, .int 0, .int 0, .int 0, .int 0, .long 0, .int 0, .int 0, .int 0, .null, .null, .null, .null, .null, .null, .null, .null, .null, .null, .int 0, .null, .null, .int 0, .long 0, .null, .null, .null]) (C := RX12) (T := TX12) (N := 86) hx hb (Ts := u_ws RX12 TX12 86) (fun w hw => hT.a (kd_12.2.2.2.1 w hw).1 (kd_12.2.2.2.1 w hw).2) (fun _ h => h) tyX12 tyX12_ok hown (hts (.classLink R_law 10 RX12) (tb_7 (List.mem_of_getElem? (i := 42) (by decide +kernel)))) (hts (.instantiable RX12 86) (tb_7 (List.mem_of_getElem? (i := 43) (by decide +kernel)))) (hts (.initialized RX12) ini_RX12) hK hP hD hS hA rfl am_df12 (by decide) (by decide) dL_law_8 (fun q2 H3 hP hD hS => ?_)
  refine lv_dup hx hb dL_law_11 rfl ?_
  have hP := am_prot (f := []) (r := w1) hP
  have hD := am_rot (f := []) (r := w1) hD
  refine am_initW (Y := (l, D, am_tz ca)) (st := [.ref q2]) (r := w1) hx hb hml hown hT hK hO hA (ce_12 l D ca q2) cd_I12 ini_RX12 nh_RX12 pd_I12 (Nat.le_of_ble_eq_true rfl) rfl iw_I12 (tb_7 (List.mem_of_getElem? (i := 44) (by decide +kernel))) ⟨by decide, by decide⟩ (Nat.le_of_ble_eq_true rfl) (by decide) (by decide) hP hD hS hl.1 dL_law_12 ?_
  intro w2 H4 locs4 hQ2 hP hD hS
  refine lv_astore_n (lv' := [(2, .ref q2), (1, .ref q1), (0, .ref b)]) hx hb dL_law_15 rfl hl (by decide) rfl (fun ls hl => ?_)
  refine lv_iconst (v := 0) hx hb dL_law_16 (by decide) ?_
  refine lv_istore_n (lv' := [(3, .int 0), (2, .ref q2), (1, .ref q1), (0, .ref b)]) hx hb dL_law_17 rfl hl (by decide) rfl (fun ls hl => ?_)
  obtain ⟨v1, hn1, hp1, ha1, hw1⟩ := hQ1
  obtain ⟨v2, hn2, hp2, ha2, hw2⟩ := hQ2
  have hPC := hw1 kK kV co H4 (am_Pmem hP (fun q hq => List.mem_append_right _ hq))
  have hPM := hw2 kK kV co H4 (am_Pmem hP (fun q hq => List.mem_append_left _ hq))
  have hDD := am_DD.mp hD
  have hnd := hDD.1
  rw [List.map_append, List.nodup_append] at hnd
  obtain ⟨hndM, hndC, hdis⟩ := hnd
  have hvC : v1.Nodup := hp1.nodup_iff.mpr hndC
  have hvM : v2.Nodup := hp2.nodup_iff.mpr hndM
  have hJ1 : am_J (am_WC l D ca v1 kK kV co) := am_J_of (v := v1) rfl am_ksC_nd hvC hn1
  have hJ2 : am_J (am_WM l D ca v2 kK kV co) := am_J_of (v := v2) rfl am_ksM_nd hvM hn2
  have hA1 : ∀ q, am_A (am_WC l D ca v1 kK kV co) q → q ∈ w1.map Prod.fst := fun q h => hp1.mem_iff.mp (am_A_of (v := v1) rfl am_ksC_nd hn1 h)
  have hA2 : ∀ q, am_A (am_WM l D ca v2 kK kV co) q → q ∈ w2.map Prod.fst := fun q h => hp2.mem_iff.mp (am_A_of (v := v2) rfl am_ksM_nd hn2 h)
  have hS1 : ∀ q, am_A (am_WC l D ca v1 kK kV co) q → s.heap.size ≤ q := by
    intro q h
    obtain ⟨x, hx, ex⟩ := List.mem_map.mp (hA1 q h)
    rw [← ex]
    exact hDD.2 x (List.mem_append_right _ hx)
  have hS2 : ∀ q, am_A (am_WM l D ca v2 kK kV co) q → s.heap.size ≤ q := by
    intro q h
    obtain ⟨x, hx, ex⟩ := List.mem_map.mp (hA2 q h)
    rw [← ex]
    exact hDD.2 x (List.mem_append_left _ hx)
  have C : am_LC (am_WC l D ca v1 kK kV co) (am_WM l D ca v2 kK kV co) l p s m meth c b L xs :=
    ⟨C0, ⟨rfl, rfl⟩, rfl, rfl, rfl, am_Kof (D := D) (c := ca) rfl rfl hK, am_Kof (D := D) (c := ca) rfl rfl hK, hCn _ rfl rfl rfl hS1, hCn _ rfl rfl rfl hS2, hJ1, hJ2, hS1, hS2, fun q h1 h2 => hdis q (hA2 q h2) q (hA1 q h1) rfl⟩
  have fin := law_loop (e := e) (below := below) (nc := 134) (ns := 4441) C hL (by decide) (by decide) Rel hall (L + 10) 0 (by omega) (by omega) am_zC am_zM h0
  refine fin H4 locs4 ls hPC hPM hS (lv_sub hl [3, 2, 1, 0] ?_)
  show [(0, Value.ref b), (1, Value.ref q1), (2, Value.ref q2), (3, Value.int 0)] = [(0, Value.ref b), (1, Value.ref (am_adL am_ksC v1 11 0)), (2, Value.ref (am_adL am_ksM v2 12 0)), (3, Value.int (Int32.ofNat 0))]
  rw [ha1, ha2]
  rfl
