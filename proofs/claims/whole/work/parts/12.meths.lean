theorem nh_RJ6 : RJ6 ≠ "java/lang/invoke/MethodHandle" ∧ RJ6 ≠ "java/lang/invoke/VarHandle" := by decide +kernel
theorem ini_RJ6 : Cond.initialized RJ6 ∈ lw_tbl := (tb_1 (List.mem_of_getElem? (i := 20) (by decide +kernel)))
theorem nh_RX0 : RX0 ≠ "java/lang/invoke/MethodHandle" ∧ RX0 ≠ "java/lang/invoke/VarHandle" := by decide +kernel
theorem ini_RX0 : Cond.initialized RX0 ∈ lw_tbl := (tb_1 (List.mem_of_getElem? (i := 11) (by decide +kernel)))
theorem nh_RX1 : RX1 ≠ "java/lang/invoke/MethodHandle" ∧ RX1 ≠ "java/lang/invoke/VarHandle" := by decide +kernel
theorem ini_RX1 : Cond.initialized RX1 ∈ lw_tbl := (tb_1 (List.mem_of_getElem? (i := 10) (by decide +kernel)))
theorem nh_RX10 : RX10 ≠ "java/lang/invoke/MethodHandle" ∧ RX10 ≠ "java/lang/invoke/VarHandle" := by decide +kernel
theorem ini_RX10 : Cond.initialized RX10 ∈ lw_tbl := (tb_1 (List.mem_of_getElem? (i := 5) (by decide +kernel)))
theorem nh_RX11 : RX11 ≠ "java/lang/invoke/MethodHandle" ∧ RX11 ≠ "java/lang/invoke/VarHandle" := by decide +kernel
theorem ini_RX11 : Cond.initialized RX11 ∈ lw_tbl := (tb_1 (List.mem_of_getElem? (i := 1) (by decide +kernel)))
theorem nh_RX12 : RX12 ≠ "java/lang/invoke/MethodHandle" ∧ RX12 ≠ "java/lang/invoke/VarHandle" := by decide +kernel
theorem ini_RX12 : Cond.initialized RX12 ∈ lw_tbl := (tb_1 (List.mem_of_getElem? (i := 13) (by decide +kernel)))
theorem nh_RX2 : RX2 ≠ "java/lang/invoke/MethodHandle" ∧ RX2 ≠ "java/lang/invoke/VarHandle" := by decide +kernel
theorem ini_RX2 : Cond.initialized RX2 ∈ lw_tbl := (tb_1 (List.mem_of_getElem? (i := 12) (by decide +kernel)))
theorem nh_RX3 : RX3 ≠ "java/lang/invoke/MethodHandle" ∧ RX3 ≠ "java/lang/invoke/VarHandle" := by decide +kernel
theorem ini_RX3 : Cond.initialized RX3 ∈ lw_tbl := (tb_1 (List.mem_of_getElem? (i := 4) (by decide +kernel)))
theorem nh_RX4 : RX4 ≠ "java/lang/invoke/MethodHandle" ∧ RX4 ≠ "java/lang/invoke/VarHandle" := by decide +kernel
theorem ini_RX4 : Cond.initialized RX4 ∈ lw_tbl := (tb_1 (List.mem_of_getElem? (i := 6) (by decide +kernel)))
theorem nh_RX5 : RX5 ≠ "java/lang/invoke/MethodHandle" ∧ RX5 ≠ "java/lang/invoke/VarHandle" := by decide +kernel
theorem ini_RX5 : Cond.initialized RX5 ∈ lw_tbl := (tb_1 (List.mem_of_getElem? (i := 2) (by decide +kernel)))
theorem nh_RX6 : RX6 ≠ "java/lang/invoke/MethodHandle" ∧ RX6 ≠ "java/lang/invoke/VarHandle" := by decide +kernel
theorem ini_RX6 : Cond.initialized RX6 ∈ lw_tbl := (tb_1 (List.mem_of_getElem? (i := 9) (by decide +kernel)))
theorem nh_RX7 : RX7 ≠ "java/lang/invoke/MethodHandle" ∧ RX7 ≠ "java/lang/invoke/VarHandle" := by decide +kernel
theorem ini_RX7 : Cond.initialized RX7 ∈ lw_tbl := (tb_1 (List.mem_of_getElem? (i := 8) (by decide +kernel)))
theorem nh_RX8 : RX8 ≠ "java/lang/invoke/MethodHandle" ∧ RX8 ≠ "java/lang/invoke/VarHandle" := by decide +kernel
theorem ini_RX8 : Cond.initialized RX8 ∈ lw_tbl := (tb_1 (List.mem_of_getElem? (i := 3) (by decide +kernel)))
theorem nh_RX9 : RX9 ≠ "java/lang/invoke/MethodHandle" ∧ RX9 ≠ "java/lang/invoke/VarHandle" := by decide +kernel
theorem ini_RX9 : Cond.initialized RX9 ∈ lw_tbl := (tb_1 (List.mem_of_getElem? (i := 7) (by decide +kernel)))
theorem cd_X3_zeroHeight : Cond.code yX3_zeroHeight cX3_zeroHeight 1 (some .int) ∈ lw_tbl := (tb_4 (List.mem_of_getElem? (i := 193) (by decide +kernel)))
abbrev gm_X3_zeroHeight : am_M := (yX3_zeroHeight, cX3_zeroHeight, 1, (some .int), 2)
theorem pd_X3_zeroHeight : (parseMethodDescriptor yX3_zeroHeight.desc).map (fun d => d.parameters.length) = some 0 := by decide +kernel
theorem iw_X3_zeroHeight : Cond.instanceMethod yX3_zeroHeight ∈ lw_tbl := (tb_4 (List.mem_of_getElem? (i := 191) (by decide +kernel)))
theorem sl_X3_zeroHeight : Cond.selects yX3_zeroHeight.cls yX3_zeroHeight yX3_zeroHeight ∈ lw_tbl := (tb_4 (List.mem_of_getElem? (i := 192) (by decide +kernel)))
theorem mV_X3_zeroHeight : am_mV gm_X3_zeroHeight 0 := ⟨⟨cd_X3_zeroHeight, ini_RX3, nh_RX3, pd_X3_zeroHeight, Nat.le_of_ble_eq_true rfl⟩, iw_X3_zeroHeight, sl_X3_zeroHeight⟩
theorem cd_X10_turnedGone : Cond.code yX10_turnedGone cX10_turnedGone 6 (some .long) ∈ lw_tbl := (tb_4 (List.mem_of_getElem? (i := 176) (by decide +kernel)))
abbrev gm_X10_turnedGone : am_M := (yX10_turnedGone, cX10_turnedGone, 6, (some .long), 1)
theorem pd_X10_turnedGone : (parseMethodDescriptor yX10_turnedGone.desc).map (fun d => d.parameters.length) = some 3 := by decide +kernel
theorem sw_X10_turnedGone : Cond.static yX10_turnedGone ∈ lw_tbl := (tb_4 (List.mem_of_getElem? (i := 175) (by decide +kernel)))
theorem mS_X10_turnedGone : am_mS gm_X10_turnedGone 3 := ⟨⟨cd_X10_turnedGone, ini_RX10, nh_RX10, pd_X10_turnedGone, Nat.le_of_ble_eq_true rfl⟩, sw_X10_turnedGone⟩
theorem cd_X10_trueGone : Cond.code yX10_trueGone cX10_trueGone 3 (some .long) ∈ lw_tbl := (tb_4 (List.mem_of_getElem? (i := 180) (by decide +kernel)))
abbrev gm_X10_trueGone : am_M := (yX10_trueGone, cX10_trueGone, 3, (some .long), 1)
theorem pd_X10_trueGone : (parseMethodDescriptor yX10_trueGone.desc).map (fun d => d.parameters.length) = some 1 := by decide +kernel
theorem iw_X10_trueGone : Cond.instanceMethod yX10_trueGone ∈ lw_tbl := (tb_4 (List.mem_of_getElem? (i := 178) (by decide +kernel)))
theorem sl_X10_trueGone : Cond.selects yX10_trueGone.cls yX10_trueGone yX10_trueGone ∈ lw_tbl := (tb_4 (List.mem_of_getElem? (i := 179) (by decide +kernel)))
theorem mV_X10_trueGone : am_mV gm_X10_trueGone 1 := ⟨⟨cd_X10_trueGone, ini_RX10, nh_RX10, pd_X10_trueGone, Nat.le_of_ble_eq_true rfl⟩, iw_X10_trueGone, sl_X10_trueGone⟩
theorem cd_X10_placeAt : Cond.code yX10_placeAt cX10_placeAt 7 (some .int) ∈ lw_tbl := (tb_4 (List.mem_of_getElem? (i := 173) (by decide +kernel)))
abbrev gm_X10_placeAt : am_M := (yX10_placeAt, cX10_placeAt, 7, (some .int), 2)
theorem pd_X10_placeAt : (parseMethodDescriptor yX10_placeAt.desc).map (fun d => d.parameters.length) = some 2 := by decide +kernel
theorem iw_X10_placeAt : Cond.instanceMethod yX10_placeAt ∈ lw_tbl := (tb_4 (List.mem_of_getElem? (i := 171) (by decide +kernel)))
theorem sl_X10_placeAt : Cond.selects yX10_placeAt.cls yX10_placeAt yX10_placeAt ∈ lw_tbl := (tb_4 (List.mem_of_getElem? (i := 172) (by decide +kernel)))
theorem mV_X10_placeAt : am_mV gm_X10_placeAt 2 := ⟨⟨cd_X10_placeAt, ini_RX10, nh_RX10, pd_X10_placeAt, Nat.le_of_ble_eq_true rfl⟩, iw_X10_placeAt, sl_X10_placeAt⟩
theorem cd_X11_cosOf : Cond.code yX11_cosOf cX11_cosOf 3 (some .int) ∈ lw_tbl := (tb_4 (List.mem_of_getElem? (i := 198) (by decide +kernel)))
abbrev gm_X11_cosOf : am_M := (yX11_cosOf, cX11_cosOf, 3, (some .int), 1)
theorem pd_X11_cosOf : (parseMethodDescriptor yX11_cosOf.desc).map (fun d => d.parameters.length) = some 1 := by decide +kernel
theorem sw_X11_cosOf : Cond.static yX11_cosOf ∈ lw_tbl := (tb_4 (List.mem_of_getElem? (i := 197) (by decide +kernel)))
theorem mS_X11_cosOf : am_mS gm_X11_cosOf 1 := ⟨⟨cd_X11_cosOf, ini_RX11, nh_RX11, pd_X11_cosOf, Nat.le_of_ble_eq_true rfl⟩, sw_X11_cosOf⟩
theorem cd_X3_heightAt : Cond.code yX3_heightAt cX3_heightAt 7 (some .int) ∈ lw_tbl := (tb_4 (List.mem_of_getElem? (i := 189) (by decide +kernel)))
abbrev gm_X3_heightAt : am_M := (yX3_heightAt, cX3_heightAt, 7, (some .int), 3)
theorem pd_X3_heightAt : (parseMethodDescriptor yX3_heightAt.desc).map (fun d => d.parameters.length) = some 2 := by decide +kernel
theorem iw_X3_heightAt : Cond.instanceMethod yX3_heightAt ∈ lw_tbl := (tb_4 (List.mem_of_getElem? (i := 187) (by decide +kernel)))
theorem sl_X3_heightAt : Cond.selects yX3_heightAt.cls yX3_heightAt yX3_heightAt ∈ lw_tbl := (tb_4 (List.mem_of_getElem? (i := 188) (by decide +kernel)))
theorem mV_X3_heightAt : am_mV gm_X3_heightAt 2 := ⟨⟨cd_X3_heightAt, ini_RX3, nh_RX3, pd_X3_heightAt, Nat.le_of_ble_eq_true rfl⟩, iw_X3_heightAt, sl_X3_heightAt⟩
theorem cd_X1_isGap : Cond.code yX1_isGap cX1_isGap 2 (some .boolean) ∈ lw_tbl := (tb_5 (List.mem_of_getElem? (i := 97) (by decide +kernel)))
abbrev gm_X1_isGap : am_M := (yX1_isGap, cX1_isGap, 2, (some .boolean), 1)
theorem pd_X1_isGap : (parseMethodDescriptor yX1_isGap.desc).map (fun d => d.parameters.length) = some 1 := by decide +kernel
theorem iw_X1_isGap : Cond.instanceMethod yX1_isGap ∈ lw_tbl := (tb_5 (List.mem_of_getElem? (i := 95) (by decide +kernel)))
theorem sl_X1_isGap : Cond.selects yX1_isGap.cls yX1_isGap yX1_isGap ∈ lw_tbl := (tb_5 (List.mem_of_getElem? (i := 96) (by decide +kernel)))
theorem mV_X1_isGap : am_mV gm_X1_isGap 1 := ⟨⟨cd_X1_isGap, ini_RX1, nh_RX1, pd_X1_isGap, Nat.le_of_ble_eq_true rfl⟩, iw_X1_isGap, sl_X1_isGap⟩
theorem cd_X1_missOf : Cond.code yX1_missOf cX1_missOf 3 (some .int) ∈ lw_tbl := (tb_5 (List.mem_of_getElem? (i := 142) (by decide +kernel)))
abbrev gm_X1_missOf : am_M := (yX1_missOf, cX1_missOf, 3, (some .int), 2)
theorem pd_X1_missOf : (parseMethodDescriptor yX1_missOf.desc).map (fun d => d.parameters.length) = some 2 := by decide +kernel
theorem iw_X1_missOf : Cond.instanceMethod yX1_missOf ∈ lw_tbl := (tb_5 (List.mem_of_getElem? (i := 140) (by decide +kernel)))
theorem sl_X1_missOf : Cond.selects yX1_missOf.cls yX1_missOf yX1_missOf ∈ lw_tbl := (tb_5 (List.mem_of_getElem? (i := 141) (by decide +kernel)))
theorem mV_X1_missOf : am_mV gm_X1_missOf 2 := ⟨⟨cd_X1_missOf, ini_RX1, nh_RX1, pd_X1_missOf, Nat.le_of_ble_eq_true rfl⟩, iw_X1_missOf, sl_X1_missOf⟩
theorem cd_X0_trySlip : Cond.code yX0_trySlip cX0_trySlip 8 none ∈ lw_tbl := (tb_5 (List.mem_of_getElem? (i := 149) (by decide +kernel)))
abbrev gm_X0_trySlip : am_M := (yX0_trySlip, cX0_trySlip, 8, none, 4)
theorem pd_X0_trySlip : (parseMethodDescriptor yX0_trySlip.desc).map (fun d => d.parameters.length) = some 4 := by decide +kernel
theorem iw_X0_trySlip : Cond.instanceMethod yX0_trySlip ∈ lw_tbl := (tb_5 (List.mem_of_getElem? (i := 148) (by decide +kernel)))
theorem sl_X0_trySlip : Cond.selects yX0_trySlip.cls yX0_trySlip yX0_trySlip ∈ lw_tbl := tb_sel (q := (yX0_trySlip, 17)) 33 (by decide +kernel)
theorem mV_X0_trySlip : am_mV gm_X0_trySlip 4 := ⟨⟨cd_X0_trySlip, ini_RX0, nh_RX0, pd_X0_trySlip, Nat.le_of_ble_eq_true rfl⟩, iw_X0_trySlip, sl_X0_trySlip⟩
theorem cd_X0_findSlip : Cond.code yX0_findSlip cX0_findSlip 6 none ∈ lw_tbl := (tb_5 (List.mem_of_getElem? (i := 137) (by decide +kernel)))
abbrev gm_X0_findSlip : am_M := (yX0_findSlip, cX0_findSlip, 6, none, 5)
theorem pd_X0_findSlip : (parseMethodDescriptor yX0_findSlip.desc).map (fun d => d.parameters.length) = some 3 := by decide +kernel
theorem iw_X0_findSlip : Cond.instanceMethod yX0_findSlip ∈ lw_tbl := (tb_5 (List.mem_of_getElem? (i := 135) (by decide +kernel)))
theorem sl_X0_findSlip : Cond.selects yX0_findSlip.cls yX0_findSlip yX0_findSlip ∈ lw_tbl := (tb_5 (List.mem_of_getElem? (i := 136) (by decide +kernel)))
theorem mV_X0_findSlip : am_mV gm_X0_findSlip 3 := ⟨⟨cd_X0_findSlip, ini_RX0, nh_RX0, pd_X0_findSlip, Nat.le_of_ble_eq_true rfl⟩, iw_X0_findSlip, sl_X0_findSlip⟩
theorem cd_X3_laggedHeightAt : Cond.code yX3_laggedHeightAt cX3_laggedHeightAt 7 (some .int) ∈ lw_tbl := (tb_5 (List.mem_of_getElem? (i := 166) (by decide +kernel)))
abbrev gm_X3_laggedHeightAt : am_M := (yX3_laggedHeightAt, cX3_laggedHeightAt, 7, (some .int), 3)
theorem pd_X3_laggedHeightAt : (parseMethodDescriptor yX3_laggedHeightAt.desc).map (fun d => d.parameters.length) = some 2 := by decide +kernel
theorem iw_X3_laggedHeightAt : Cond.instanceMethod yX3_laggedHeightAt ∈ lw_tbl := (tb_5 (List.mem_of_getElem? (i := 164) (by decide +kernel)))
theorem sl_X3_laggedHeightAt : Cond.selects yX3_laggedHeightAt.cls yX3_laggedHeightAt yX3_laggedHeightAt ∈ lw_tbl := (tb_5 (List.mem_of_getElem? (i := 165) (by decide +kernel)))
theorem mV_X3_laggedHeightAt : am_mV gm_X3_laggedHeightAt 2 := ⟨⟨cd_X3_laggedHeightAt, ini_RX3, nh_RX3, pd_X3_laggedHeightAt, Nat.le_of_ble_eq_true rfl⟩, iw_X3_laggedHeightAt, sl_X3_laggedHeightAt⟩
theorem cd_X0_weighNeighbour : Cond.code yX0_weighNeighbour cX0_weighNeighbour 6 none ∈ lw_tbl := (tb_5 (List.mem_of_getElem? (i := 170) (by decide +kernel)))
abbrev gm_X0_weighNeighbour : am_M := (yX0_weighNeighbour, cX0_weighNeighbour, 6, none, 3)
theorem pd_X0_weighNeighbour : (parseMethodDescriptor yX0_weighNeighbour.desc).map (fun d => d.parameters.length) = some 3 := by decide +kernel
theorem iw_X0_weighNeighbour : Cond.instanceMethod yX0_weighNeighbour ∈ lw_tbl := (tb_5 (List.mem_of_getElem? (i := 169) (by decide +kernel)))
theorem sl_X0_weighNeighbour : Cond.selects yX0_weighNeighbour.cls yX0_weighNeighbour yX0_weighNeighbour ∈ lw_tbl := tb_sel (q := (yX0_weighNeighbour, 17)) 34 (by decide +kernel)
theorem mV_X0_weighNeighbour : am_mV gm_X0_weighNeighbour 3 := ⟨⟨cd_X0_weighNeighbour, ini_RX0, nh_RX0, pd_X0_weighNeighbour, Nat.le_of_ble_eq_true rfl⟩, iw_X0_weighNeighbour, sl_X0_weighNeighbour⟩
theorem cd_X0_findNeighbour : Cond.code yX0_findNeighbour cX0_findNeighbour 5 none ∈ lw_tbl := (tb_5 (List.mem_of_getElem? (i := 162) (by decide +kernel)))
abbrev gm_X0_findNeighbour : am_M := (yX0_findNeighbour, cX0_findNeighbour, 5, none, 4)
theorem pd_X0_findNeighbour : (parseMethodDescriptor yX0_findNeighbour.desc).map (fun d => d.parameters.length) = some 2 := by decide +kernel
theorem iw_X0_findNeighbour : Cond.instanceMethod yX0_findNeighbour ∈ lw_tbl := (tb_5 (List.mem_of_getElem? (i := 160) (by decide +kernel)))
theorem sl_X0_findNeighbour : Cond.selects yX0_findNeighbour.cls yX0_findNeighbour yX0_findNeighbour ∈ lw_tbl := (tb_5 (List.mem_of_getElem? (i := 161) (by decide +kernel)))
theorem mV_X0_findNeighbour : am_mV gm_X0_findNeighbour 2 := ⟨⟨cd_X0_findNeighbour, ini_RX0, nh_RX0, pd_X0_findNeighbour, Nat.le_of_ble_eq_true rfl⟩, iw_X0_findNeighbour, sl_X0_findNeighbour⟩
theorem cd_X10_wheels : Cond.code yX10_wheels cX10_wheels 1 (some .int) ∈ lw_tbl := (tb_5 (List.mem_of_getElem? (i := 186) (by decide +kernel)))
abbrev gm_X10_wheels : am_M := (yX10_wheels, cX10_wheels, 1, (some .int), 1)
theorem pd_X10_wheels : (parseMethodDescriptor yX10_wheels.desc).map (fun d => d.parameters.length) = some 0 := by decide +kernel
theorem iw_X10_wheels : Cond.instanceMethod yX10_wheels ∈ lw_tbl := (tb_5 (List.mem_of_getElem? (i := 184) (by decide +kernel)))
theorem sl_X10_wheels : Cond.selects yX10_wheels.cls yX10_wheels yX10_wheels ∈ lw_tbl := (tb_5 (List.mem_of_getElem? (i := 185) (by decide +kernel)))
theorem mV_X10_wheels : am_mV gm_X10_wheels 0 := ⟨⟨cd_X10_wheels, ini_RX10, nh_RX10, pd_X10_wheels, Nat.le_of_ble_eq_true rfl⟩, iw_X10_wheels, sl_X10_wheels⟩
theorem cd_X10_toothed : Cond.code yX10_toothed cX10_toothed 2 (some .int) ∈ lw_tbl := (tb_4 (List.mem_of_getElem? (i := 154) (by decide +kernel)))
abbrev gm_X10_toothed : am_M := (yX10_toothed, cX10_toothed, 2, (some .int), 1)
theorem pd_X10_toothed : (parseMethodDescriptor yX10_toothed.desc).map (fun d => d.parameters.length) = some 1 := by decide +kernel
theorem iw_X10_toothed : Cond.instanceMethod yX10_toothed ∈ lw_tbl := (tb_4 (List.mem_of_getElem? (i := 152) (by decide +kernel)))
theorem sl_X10_toothed : Cond.selects yX10_toothed.cls yX10_toothed yX10_toothed ∈ lw_tbl := (tb_4 (List.mem_of_getElem? (i := 153) (by decide +kernel)))
theorem mV_X10_toothed : am_mV gm_X10_toothed 1 := ⟨⟨cd_X10_toothed, ini_RX10, nh_RX10, pd_X10_toothed, Nat.le_of_ble_eq_true rfl⟩, iw_X10_toothed, sl_X10_toothed⟩
theorem cd_X10_drivingWith : Cond.code yX10_drivingWith cX10_drivingWith 3 (some .long) ∈ lw_tbl := (tb_5 (List.mem_of_getElem? (i := 195) (by decide +kernel)))
abbrev gm_X10_drivingWith : am_M := (yX10_drivingWith, cX10_drivingWith, 3, (some .long), 1)
theorem pd_X10_drivingWith : (parseMethodDescriptor yX10_drivingWith.desc).map (fun d => d.parameters.length) = some 2 := by decide +kernel
theorem iw_X10_drivingWith : Cond.instanceMethod yX10_drivingWith ∈ lw_tbl := (tb_5 (List.mem_of_getElem? (i := 193) (by decide +kernel)))
theorem sl_X10_drivingWith : Cond.selects yX10_drivingWith.cls yX10_drivingWith yX10_drivingWith ∈ lw_tbl := (tb_5 (List.mem_of_getElem? (i := 194) (by decide +kernel)))
theorem mV_X10_drivingWith : am_mV gm_X10_drivingWith 2 := ⟨⟨cd_X10_drivingWith, ini_RX10, nh_RX10, pd_X10_drivingWith, Nat.le_of_ble_eq_true rfl⟩, iw_X10_drivingWith, sl_X10_drivingWith⟩
theorem cd_X10_drivenWith : Cond.code yX10_drivenWith cX10_drivenWith 3 (some .long) ∈ lw_tbl := (tb_5 (List.mem_of_getElem? (i := 199) (by decide +kernel)))
abbrev gm_X10_drivenWith : am_M := (yX10_drivenWith, cX10_drivenWith, 3, (some .long), 1)
theorem pd_X10_drivenWith : (parseMethodDescriptor yX10_drivenWith.desc).map (fun d => d.parameters.length) = some 2 := by decide +kernel
theorem iw_X10_drivenWith : Cond.instanceMethod yX10_drivenWith ∈ lw_tbl := (tb_5 (List.mem_of_getElem? (i := 197) (by decide +kernel)))
theorem sl_X10_drivenWith : Cond.selects yX10_drivenWith.cls yX10_drivenWith yX10_drivenWith ∈ lw_tbl := (tb_5 (List.mem_of_getElem? (i := 198) (by decide +kernel)))
theorem mV_X10_drivenWith : am_mV gm_X10_drivenWith 2 := ⟨⟨cd_X10_drivenWith, ini_RX10, nh_RX10, pd_X10_drivenWith, Nat.le_of_ble_eq_true rfl⟩, iw_X10_drivenWith, sl_X10_drivenWith⟩
theorem cd_X0_tryTooth : Cond.code yX0_tryTooth cX0_tryTooth 15 none ∈ lw_tbl := (tb_5 (List.mem_of_getElem? (i := 190) (by decide +kernel)))
abbrev gm_X0_tryTooth : am_M := (yX0_tryTooth, cX0_tryTooth, 15, none, 3)
theorem pd_X0_tryTooth : (parseMethodDescriptor yX0_tryTooth.desc).map (fun d => d.parameters.length) = some 5 := by decide +kernel
theorem iw_X0_tryTooth : Cond.instanceMethod yX0_tryTooth ∈ lw_tbl := (tb_5 (List.mem_of_getElem? (i := 189) (by decide +kernel)))
theorem sl_X0_tryTooth : Cond.selects yX0_tryTooth.cls yX0_tryTooth yX0_tryTooth ∈ lw_tbl := tb_sel (q := (yX0_tryTooth, 17)) 35 (by decide +kernel)
theorem mV_X0_tryTooth : am_mV gm_X0_tryTooth 5 := ⟨⟨cd_X0_tryTooth, ini_RX0, nh_RX0, pd_X0_tryTooth, Nat.le_of_ble_eq_true rfl⟩, iw_X0_tryTooth, sl_X0_tryTooth⟩
theorem cd_X0_findWheel : Cond.code yX0_findWheel cX0_findWheel 5 none ∈ lw_tbl := (tb_5 (List.mem_of_getElem? (i := 182) (by decide +kernel)))
abbrev gm_X0_findWheel : am_M := (yX0_findWheel, cX0_findWheel, 5, none, 4)
theorem pd_X0_findWheel : (parseMethodDescriptor yX0_findWheel.desc).map (fun d => d.parameters.length) = some 2 := by decide +kernel
theorem iw_X0_findWheel : Cond.instanceMethod yX0_findWheel ∈ lw_tbl := (tb_5 (List.mem_of_getElem? (i := 180) (by decide +kernel)))
theorem sl_X0_findWheel : Cond.selects yX0_findWheel.cls yX0_findWheel yX0_findWheel ∈ lw_tbl := (tb_5 (List.mem_of_getElem? (i := 181) (by decide +kernel)))
theorem mV_X0_findWheel : am_mV gm_X0_findWheel 2 := ⟨⟨cd_X0_findWheel, ini_RX0, nh_RX0, pd_X0_findWheel, Nat.le_of_ble_eq_true rfl⟩, iw_X0_findWheel, sl_X0_findWheel⟩
theorem cd_X3_waveAt : Cond.code yX3_waveAt cX3_waveAt 2 (some (.object "TideDiscs$Wave")) ∈ lw_tbl := (tb_4 (List.mem_of_getElem? (i := 146) (by decide +kernel)))
abbrev gm_X3_waveAt : am_M := (yX3_waveAt, cX3_waveAt, 2, (some (.object "TideDiscs$Wave")), 1)
theorem pd_X3_waveAt : (parseMethodDescriptor yX3_waveAt.desc).map (fun d => d.parameters.length) = some 1 := by decide +kernel
theorem iw_X3_waveAt : Cond.instanceMethod yX3_waveAt ∈ lw_tbl := (tb_4 (List.mem_of_getElem? (i := 144) (by decide +kernel)))
theorem sl_X3_waveAt : Cond.selects yX3_waveAt.cls yX3_waveAt yX3_waveAt ∈ lw_tbl := (tb_4 (List.mem_of_getElem? (i := 145) (by decide +kernel)))
theorem mV_X3_waveAt : am_mV gm_X3_waveAt 1 := ⟨⟨cd_X3_waveAt, ini_RX3, nh_RX3, pd_X3_waveAt, Nat.le_of_ble_eq_true rfl⟩, iw_X3_waveAt, sl_X3_waveAt⟩
theorem cd_X0_prepareSpread : Cond.code yX0_prepareSpread cX0_prepareSpread 7 none ∈ lw_tbl := (tb_6 (List.mem_of_getElem? (i := 31) (by decide +kernel)))
abbrev gm_X0_prepareSpread : am_M := (yX0_prepareSpread, cX0_prepareSpread, 7, none, 3)
theorem pd_X0_prepareSpread : (parseMethodDescriptor yX0_prepareSpread.desc).map (fun d => d.parameters.length) = some 4 := by decide +kernel
theorem iw_X0_prepareSpread : Cond.instanceMethod yX0_prepareSpread ∈ lw_tbl := (tb_6 (List.mem_of_getElem? (i := 30) (by decide +kernel)))
theorem sl_X0_prepareSpread : Cond.selects yX0_prepareSpread.cls yX0_prepareSpread yX0_prepareSpread ∈ lw_tbl := tb_sel (q := (yX0_prepareSpread, 17)) 39 (by decide +kernel)
theorem mV_X0_prepareSpread : am_mV gm_X0_prepareSpread 4 := ⟨⟨cd_X0_prepareSpread, ini_RX0, nh_RX0, pd_X0_prepareSpread, Nat.le_of_ble_eq_true rfl⟩, iw_X0_prepareSpread, sl_X0_prepareSpread⟩
theorem cd_X0_sumSpread : Cond.code yX0_sumSpread cX0_sumSpread 6 (some .int) ∈ lw_tbl := (tb_6 (List.mem_of_getElem? (i := 45) (by decide +kernel)))
abbrev gm_X0_sumSpread : am_M := (yX0_sumSpread, cX0_sumSpread, 6, (some .int), 2)
theorem pd_X0_sumSpread : (parseMethodDescriptor yX0_sumSpread.desc).map (fun d => d.parameters.length) = some 3 := by decide +kernel
theorem iw_X0_sumSpread : Cond.instanceMethod yX0_sumSpread ∈ lw_tbl := (tb_6 (List.mem_of_getElem? (i := 44) (by decide +kernel)))
theorem sl_X0_sumSpread : Cond.selects yX0_sumSpread.cls yX0_sumSpread yX0_sumSpread ∈ lw_tbl := tb_sel (q := (yX0_sumSpread, 17)) 42 (by decide +kernel)
theorem mV_X0_sumSpread : am_mV gm_X0_sumSpread 3 := ⟨⟨cd_X0_sumSpread, ini_RX0, nh_RX0, pd_X0_sumSpread, Nat.le_of_ble_eq_true rfl⟩, iw_X0_sumSpread, sl_X0_sumSpread⟩
theorem cd_X0_bestSize : Cond.code yX0_bestSize cX0_bestSize 7 (some .int) ∈ lw_tbl := (tb_6 (List.mem_of_getElem? (i := 41) (by decide +kernel)))
abbrev gm_X0_bestSize : am_M := (yX0_bestSize, cX0_bestSize, 7, (some .int), 3)
theorem pd_X0_bestSize : (parseMethodDescriptor yX0_bestSize.desc).map (fun d => d.parameters.length) = some 2 := by decide +kernel
theorem iw_X0_bestSize : Cond.instanceMethod yX0_bestSize ∈ lw_tbl := (tb_6 (List.mem_of_getElem? (i := 40) (by decide +kernel)))
theorem sl_X0_bestSize : Cond.selects yX0_bestSize.cls yX0_bestSize yX0_bestSize ∈ lw_tbl := tb_sel (q := (yX0_bestSize, 17)) 41 (by decide +kernel)
theorem mV_X0_bestSize : am_mV gm_X0_bestSize 2 := ⟨⟨cd_X0_bestSize, ini_RX0, nh_RX0, pd_X0_bestSize, Nat.le_of_ble_eq_true rfl⟩, iw_X0_bestSize, sl_X0_bestSize⟩
theorem cd_X0_trySpread : Cond.code yX0_trySpread cX0_trySpread 7 none ∈ lw_tbl := (tb_6 (List.mem_of_getElem? (i := 37) (by decide +kernel)))
abbrev gm_X0_trySpread : am_M := (yX0_trySpread, cX0_trySpread, 7, none, 4)
theorem pd_X0_trySpread : (parseMethodDescriptor yX0_trySpread.desc).map (fun d => d.parameters.length) = some 2 := by decide +kernel
theorem iw_X0_trySpread : Cond.instanceMethod yX0_trySpread ∈ lw_tbl := (tb_6 (List.mem_of_getElem? (i := 36) (by decide +kernel)))
theorem sl_X0_trySpread : Cond.selects yX0_trySpread.cls yX0_trySpread yX0_trySpread ∈ lw_tbl := tb_sel (q := (yX0_trySpread, 17)) 40 (by decide +kernel)
theorem mV_X0_trySpread : am_mV gm_X0_trySpread 2 := ⟨⟨cd_X0_trySpread, ini_RX0, nh_RX0, pd_X0_trySpread, Nat.le_of_ble_eq_true rfl⟩, iw_X0_trySpread, sl_X0_trySpread⟩
theorem cd_X0_findSpread : Cond.code yX0_findSpread cX0_findSpread 8 none ∈ lw_tbl := (tb_6 (List.mem_of_getElem? (i := 24) (by decide +kernel)))
abbrev gm_X0_findSpread : am_M := (yX0_findSpread, cX0_findSpread, 8, none, 5)
theorem pd_X0_findSpread : (parseMethodDescriptor yX0_findSpread.desc).map (fun d => d.parameters.length) = some 4 := by decide +kernel
theorem iw_X0_findSpread : Cond.instanceMethod yX0_findSpread ∈ lw_tbl := (tb_6 (List.mem_of_getElem? (i := 22) (by decide +kernel)))
theorem sl_X0_findSpread : Cond.selects yX0_findSpread.cls yX0_findSpread yX0_findSpread ∈ lw_tbl := (tb_6 (List.mem_of_getElem? (i := 23) (by decide +kernel)))
theorem mV_X0_findSpread : am_mV gm_X0_findSpread 4 := ⟨⟨cd_X0_findSpread, ini_RX0, nh_RX0, pd_X0_findSpread, Nat.le_of_ble_eq_true rfl⟩, iw_X0_findSpread, sl_X0_findSpread⟩
theorem cd_X8_at : Cond.code yX8_at cX8_at 2 (some .long) ∈ lw_tbl := (tb_3 (List.mem_of_getElem? (i := 135) (by decide +kernel)))
abbrev gm_X8_at : am_M := (yX8_at, cX8_at, 2, (some .long), 1)
theorem pd_X8_at : (parseMethodDescriptor yX8_at.desc).map (fun d => d.parameters.length) = some 1 := by decide +kernel
theorem iw_X8_at : Cond.instanceMethod yX8_at ∈ lw_tbl := (tb_3 (List.mem_of_getElem? (i := 133) (by decide +kernel)))
theorem sl_X8_at : Cond.selects yX8_at.cls yX8_at yX8_at ∈ lw_tbl := (tb_3 (List.mem_of_getElem? (i := 134) (by decide +kernel)))
theorem mV_X8_at : am_mV gm_X8_at 1 := ⟨⟨cd_X8_at, ini_RX8, nh_RX8, pd_X8_at, Nat.le_of_ble_eq_true rfl⟩, iw_X8_at, sl_X8_at⟩
theorem cd_X1_takeFrom : Cond.code yX1_takeFrom cX1_takeFrom 9 (some .boolean) ∈ lw_tbl := (tb_5 (List.mem_of_getElem? (i := 83) (by decide +kernel)))
abbrev gm_X1_takeFrom : am_M := (yX1_takeFrom, cX1_takeFrom, 9, (some .boolean), 2)
theorem pd_X1_takeFrom : (parseMethodDescriptor yX1_takeFrom.desc).map (fun d => d.parameters.length) = some 3 := by decide +kernel
theorem iw_X1_takeFrom : Cond.instanceMethod yX1_takeFrom ∈ lw_tbl := (tb_5 (List.mem_of_getElem? (i := 81) (by decide +kernel)))
theorem sl_X1_takeFrom : Cond.selects yX1_takeFrom.cls yX1_takeFrom yX1_takeFrom ∈ lw_tbl := (tb_5 (List.mem_of_getElem? (i := 82) (by decide +kernel)))
theorem mV_X1_takeFrom : am_mV gm_X1_takeFrom 3 := ⟨⟨cd_X1_takeFrom, ini_RX1, nh_RX1, pd_X1_takeFrom, Nat.le_of_ble_eq_true rfl⟩, iw_X1_takeFrom, sl_X1_takeFrom⟩
theorem cd_X1_addReading : Cond.code yX1_addReading cX1_addReading 10 none ∈ lw_tbl := (tb_5 (List.mem_of_getElem? (i := 101) (by decide +kernel)))
abbrev gm_X1_addReading : am_M := (yX1_addReading, cX1_addReading, 10, none, 2)
theorem pd_X1_addReading : (parseMethodDescriptor yX1_addReading.desc).map (fun d => d.parameters.length) = some 3 := by decide +kernel
theorem iw_X1_addReading : Cond.instanceMethod yX1_addReading ∈ lw_tbl := (tb_5 (List.mem_of_getElem? (i := 100) (by decide +kernel)))
theorem sl_X1_addReading : Cond.selects yX1_addReading.cls yX1_addReading yX1_addReading ∈ lw_tbl := tb_sel (q := (yX1_addReading, 8)) 29 (by decide +kernel)
theorem mV_X1_addReading : am_mV gm_X1_addReading 3 := ⟨⟨cd_X1_addReading, ini_RX1, nh_RX1, pd_X1_addReading, Nat.le_of_ble_eq_true rfl⟩, iw_X1_addReading, sl_X1_addReading⟩
theorem cd_X1_determinant : Cond.code yX1_determinant cX1_determinant 11 (some .long) ∈ lw_tbl := (tb_5 (List.mem_of_getElem? (i := 108) (by decide +kernel)))
abbrev gm_X1_determinant (n : Nat) : am_M := (yX1_determinant, cX1_determinant, 11, (some .long), 2 + 1 * n)
theorem pd_X1_determinant : (parseMethodDescriptor yX1_determinant.desc).map (fun d => d.parameters.length) = some 3 := by decide +kernel
theorem iw_X1_determinant : Cond.instanceMethod yX1_determinant ∈ lw_tbl := (tb_5 (List.mem_of_getElem? (i := 107) (by decide +kernel)))
theorem sl_X1_determinant : Cond.selects yX1_determinant.cls yX1_determinant yX1_determinant ∈ lw_tbl := tb_sel (q := (yX1_determinant, 8)) 30 (by decide +kernel)
theorem mV_X1_determinant (n : Nat) : am_mV (gm_X1_determinant n) 3 := ⟨⟨cd_X1_determinant, ini_RX1, nh_RX1, pd_X1_determinant, Nat.le_of_ble_eq_true rfl⟩, iw_X1_determinant, sl_X1_determinant⟩
theorem cd_X1_partsWaves : Cond.code yX1_partsWaves cX1_partsWaves 5 (some .boolean) ∈ lw_tbl := (tb_5 (List.mem_of_getElem? (i := 93) (by decide +kernel)))
abbrev gm_X1_partsWaves : am_M := (yX1_partsWaves, cX1_partsWaves, 5, (some .boolean), 11)
theorem pd_X1_partsWaves : (parseMethodDescriptor yX1_partsWaves.desc).map (fun d => d.parameters.length) = some 3 := by decide +kernel
theorem iw_X1_partsWaves : Cond.instanceMethod yX1_partsWaves ∈ lw_tbl := (tb_5 (List.mem_of_getElem? (i := 91) (by decide +kernel)))
theorem sl_X1_partsWaves : Cond.selects yX1_partsWaves.cls yX1_partsWaves yX1_partsWaves ∈ lw_tbl := (tb_5 (List.mem_of_getElem? (i := 92) (by decide +kernel)))
theorem mV_X1_partsWaves : am_mV gm_X1_partsWaves 3 := ⟨⟨cd_X1_partsWaves, ini_RX1, nh_RX1, pd_X1_partsWaves, Nat.le_of_ble_eq_true rfl⟩, iw_X1_partsWaves, sl_X1_partsWaves⟩
theorem cd_X1_partTop : Cond.code yX1_partTop cX1_partTop 2 (some .long) ∈ lw_tbl := (tb_5 (List.mem_of_getElem? (i := 112) (by decide +kernel)))
abbrev gm_X1_partTop : am_M := (yX1_partTop, cX1_partTop, 2, (some .long), 11)
theorem pd_X1_partTop : (parseMethodDescriptor yX1_partTop.desc).map (fun d => d.parameters.length) = some 1 := by decide +kernel
theorem iw_X1_partTop : Cond.instanceMethod yX1_partTop ∈ lw_tbl := (tb_5 (List.mem_of_getElem? (i := 110) (by decide +kernel)))
theorem sl_X1_partTop : Cond.selects yX1_partTop.cls yX1_partTop yX1_partTop ∈ lw_tbl := (tb_5 (List.mem_of_getElem? (i := 111) (by decide +kernel)))
theorem mV_X1_partTop : am_mV gm_X1_partTop 1 := ⟨⟨cd_X1_partTop, ini_RX1, nh_RX1, pd_X1_partTop, Nat.le_of_ble_eq_true rfl⟩, iw_X1_partTop, sl_X1_partTop⟩
theorem cd_X1_roundedPart : Cond.code yX1_roundedPart cX1_roundedPart 2 (some .long) ∈ lw_tbl := (tb_5 (List.mem_of_getElem? (i := 124) (by decide +kernel)))
abbrev gm_X1_roundedPart : am_M := (yX1_roundedPart, cX1_roundedPart, 2, (some .long), 12)
theorem pd_X1_roundedPart : (parseMethodDescriptor yX1_roundedPart.desc).map (fun d => d.parameters.length) = some 1 := by decide +kernel
theorem iw_X1_roundedPart : Cond.instanceMethod yX1_roundedPart ∈ lw_tbl := (tb_5 (List.mem_of_getElem? (i := 122) (by decide +kernel)))
theorem sl_X1_roundedPart : Cond.selects yX1_roundedPart.cls yX1_roundedPart yX1_roundedPart ∈ lw_tbl := (tb_5 (List.mem_of_getElem? (i := 123) (by decide +kernel)))
theorem mV_X1_roundedPart : am_mV gm_X1_roundedPart 1 := ⟨⟨cd_X1_roundedPart, ini_RX1, nh_RX1, pd_X1_roundedPart, Nat.le_of_ble_eq_true rfl⟩, iw_X1_roundedPart, sl_X1_roundedPart⟩
theorem cd_X2_isInTime : Cond.code yX2_isInTime cX2_isInTime 3 (some .boolean) ∈ lw_tbl := (tb_6 (List.mem_of_getElem? (i := 3) (by decide +kernel)))
abbrev gm_X2_isInTime : am_M := (yX2_isInTime, cX2_isInTime, 3, (some .boolean), 1)
theorem pd_X2_isInTime : (parseMethodDescriptor yX2_isInTime.desc).map (fun d => d.parameters.length) = some 1 := by decide +kernel
theorem iw_X2_isInTime : Cond.instanceMethod yX2_isInTime ∈ lw_tbl := (tb_6 (List.mem_of_getElem? (i := 2) (by decide +kernel)))
theorem sl_X2_isInTime : Cond.selects yX2_isInTime.cls yX2_isInTime yX2_isInTime ∈ lw_tbl := tb_sel (q := (yX2_isInTime, 8)) 36 (by decide +kernel)
theorem mV_X2_isInTime : am_mV gm_X2_isInTime 1 := ⟨⟨cd_X2_isInTime, ini_RX2, nh_RX2, pd_X2_isInTime, Nat.le_of_ble_eq_true rfl⟩, iw_X2_isInTime, sl_X2_isInTime⟩
theorem cd_X2_isMoonFine : Cond.code yX2_isMoonFine cX2_isMoonFine 4 (some .boolean) ∈ lw_tbl := (tb_6 (List.mem_of_getElem? (i := 7) (by decide +kernel)))
abbrev gm_X2_isMoonFine : am_M := (yX2_isMoonFine, cX2_isMoonFine, 4, (some .boolean), 3)
theorem pd_X2_isMoonFine : (parseMethodDescriptor yX2_isMoonFine.desc).map (fun d => d.parameters.length) = some 2 := by decide +kernel
theorem iw_X2_isMoonFine : Cond.instanceMethod yX2_isMoonFine ∈ lw_tbl := (tb_6 (List.mem_of_getElem? (i := 6) (by decide +kernel)))
theorem sl_X2_isMoonFine : Cond.selects yX2_isMoonFine.cls yX2_isMoonFine yX2_isMoonFine ∈ lw_tbl := tb_sel (q := (yX2_isMoonFine, 8)) 37 (by decide +kernel)
theorem mV_X2_isMoonFine : am_mV gm_X2_isMoonFine 2 := ⟨⟨cd_X2_isMoonFine, ini_RX2, nh_RX2, pd_X2_isMoonFine, Nat.le_of_ble_eq_true rfl⟩, iw_X2_isMoonFine, sl_X2_isMoonFine⟩
theorem cd_X3_extremeCos : Cond.code yX3_extremeCos cX3_extremeCos 6 (some .int) ∈ lw_tbl := (tb_5 (List.mem_of_getElem? (i := 225) (by decide +kernel)))
abbrev gm_X3_extremeCos : am_M := (yX3_extremeCos, cX3_extremeCos, 6, (some .int), 2)
theorem pd_X3_extremeCos : (parseMethodDescriptor yX3_extremeCos.desc).map (fun d => d.parameters.length) = some 3 := by decide +kernel
theorem sw_X3_extremeCos : Cond.static yX3_extremeCos ∈ lw_tbl := (tb_5 (List.mem_of_getElem? (i := 224) (by decide +kernel)))
theorem mS_X3_extremeCos : am_mS gm_X3_extremeCos 3 := ⟨⟨cd_X3_extremeCos, ini_RX3, nh_RX3, pd_X3_extremeCos, Nat.le_of_ble_eq_true rfl⟩, sw_X3_extremeCos⟩
theorem cd_X3_boundAt : Cond.code yX3_boundAt cX3_boundAt 8 (some .int) ∈ lw_tbl := (tb_5 (List.mem_of_getElem? (i := 222) (by decide +kernel)))
abbrev gm_X3_boundAt : am_M := (yX3_boundAt, cX3_boundAt, 8, (some .int), 3)
theorem pd_X3_boundAt : (parseMethodDescriptor yX3_boundAt.desc).map (fun d => d.parameters.length) = some 3 := by decide +kernel
theorem iw_X3_boundAt : Cond.instanceMethod yX3_boundAt ∈ lw_tbl := (tb_5 (List.mem_of_getElem? (i := 220) (by decide +kernel)))
theorem sl_X3_boundAt : Cond.selects yX3_boundAt.cls yX3_boundAt yX3_boundAt ∈ lw_tbl := (tb_5 (List.mem_of_getElem? (i := 221) (by decide +kernel)))
theorem mV_X3_boundAt : am_mV gm_X3_boundAt 3 := ⟨⟨cd_X3_boundAt, ini_RX3, nh_RX3, pd_X3_boundAt, Nat.le_of_ble_eq_true rfl⟩, iw_X3_boundAt, sl_X3_boundAt⟩
theorem cd_X2_isHeightFine : Cond.code yX2_isHeightFine cX2_isHeightFine 3 (some .boolean) ∈ lw_tbl := (tb_6 (List.mem_of_getElem? (i := 14) (by decide +kernel)))
abbrev gm_X2_isHeightFine : am_M := (yX2_isHeightFine, cX2_isHeightFine, 3, (some .boolean), 4)
theorem pd_X2_isHeightFine : (parseMethodDescriptor yX2_isHeightFine.desc).map (fun d => d.parameters.length) = some 2 := by decide +kernel
theorem iw_X2_isHeightFine : Cond.instanceMethod yX2_isHeightFine ∈ lw_tbl := (tb_6 (List.mem_of_getElem? (i := 13) (by decide +kernel)))
theorem sl_X2_isHeightFine : Cond.selects yX2_isHeightFine.cls yX2_isHeightFine yX2_isHeightFine ∈ lw_tbl := tb_sel (q := (yX2_isHeightFine, 8)) 38 (by decide +kernel)
theorem mV_X2_isHeightFine : am_mV gm_X2_isHeightFine 2 := ⟨⟨cd_X2_isHeightFine, ini_RX2, nh_RX2, pd_X2_isHeightFine, Nat.le_of_ble_eq_true rfl⟩, iw_X2_isHeightFine, sl_X2_isHeightFine⟩
theorem cd_X2_firstHour : Cond.code yX2_firstHour cX2_firstHour 5 (some .int) ∈ lw_tbl := (tb_5 (List.mem_of_getElem? (i := 239) (by decide +kernel)))
abbrev gm_X2_firstHour : am_M := (yX2_firstHour, cX2_firstHour, 5, (some .int), 5)
theorem pd_X2_firstHour : (parseMethodDescriptor yX2_firstHour.desc).map (fun d => d.parameters.length) = some 3 := by decide +kernel
theorem iw_X2_firstHour : Cond.instanceMethod yX2_firstHour ∈ lw_tbl := (tb_5 (List.mem_of_getElem? (i := 237) (by decide +kernel)))
theorem sl_X2_firstHour : Cond.selects yX2_firstHour.cls yX2_firstHour yX2_firstHour ∈ lw_tbl := (tb_5 (List.mem_of_getElem? (i := 238) (by decide +kernel)))
theorem mV_X2_firstHour : am_mV gm_X2_firstHour 3 := ⟨⟨cd_X2_firstHour, ini_RX2, nh_RX2, pd_X2_firstHour, Nat.le_of_ble_eq_true rfl⟩, iw_X2_firstHour, sl_X2_firstHour⟩
theorem cd_X5_isAtEnd : Cond.code yX5_isAtEnd cX5_isAtEnd 1 (some .boolean) ∈ lw_tbl := (tb_3 (List.mem_of_getElem? (i := 187) (by decide +kernel)))
abbrev gm_X5_isAtEnd : am_M := (yX5_isAtEnd, cX5_isAtEnd, 1, (some .boolean), 1)
theorem pd_X5_isAtEnd : (parseMethodDescriptor yX5_isAtEnd.desc).map (fun d => d.parameters.length) = some 0 := by decide +kernel
theorem iw_X5_isAtEnd : Cond.instanceMethod yX5_isAtEnd ∈ lw_tbl := (tb_3 (List.mem_of_getElem? (i := 185) (by decide +kernel)))
theorem sl_X5_isAtEnd : Cond.selects yX5_isAtEnd.cls yX5_isAtEnd yX5_isAtEnd ∈ lw_tbl := (tb_3 (List.mem_of_getElem? (i := 186) (by decide +kernel)))
theorem mV_X5_isAtEnd : am_mV gm_X5_isAtEnd 0 := ⟨⟨cd_X5_isAtEnd, ini_RX5, nh_RX5, pd_X5_isAtEnd, Nat.le_of_ble_eq_true rfl⟩, iw_X5_isAtEnd, sl_X5_isAtEnd⟩
theorem cd_X5_byteAt : Cond.code yX5_byteAt cX5_byteAt 2 (some .int) ∈ lw_tbl := (tb_3 (List.mem_of_getElem? (i := 210) (by decide +kernel)))
abbrev gm_X5_byteAt : am_M := (yX5_byteAt, cX5_byteAt, 2, (some .int), 1)
theorem pd_X5_byteAt : (parseMethodDescriptor yX5_byteAt.desc).map (fun d => d.parameters.length) = some 1 := by decide +kernel
theorem iw_X5_byteAt : Cond.instanceMethod yX5_byteAt ∈ lw_tbl := (tb_3 (List.mem_of_getElem? (i := 209) (by decide +kernel)))
theorem sl_X5_byteAt : Cond.selects yX5_byteAt.cls yX5_byteAt yX5_byteAt ∈ lw_tbl := tb_sel (q := (yX5_byteAt, 9)) 7 (by decide +kernel)
theorem mV_X5_byteAt : am_mV gm_X5_byteAt 1 := ⟨⟨cd_X5_byteAt, ini_RX5, nh_RX5, pd_X5_byteAt, Nat.le_of_ble_eq_true rfl⟩, iw_X5_byteAt, sl_X5_byteAt⟩
theorem cd_X5_isWord : Cond.code yX5_isWord cX5_isWord 4 (some .boolean) ∈ lw_tbl := (tb_3 (List.mem_of_getElem? (i := 196) (by decide +kernel)))
abbrev gm_X5_isWord : am_M := (yX5_isWord, cX5_isWord, 4, (some .boolean), 5)
theorem pd_X5_isWord : (parseMethodDescriptor yX5_isWord.desc).map (fun d => d.parameters.length) = some 1 := by decide +kernel
theorem iw_X5_isWord : Cond.instanceMethod yX5_isWord ∈ lw_tbl := (tb_3 (List.mem_of_getElem? (i := 194) (by decide +kernel)))
theorem sl_X5_isWord : Cond.selects yX5_isWord.cls yX5_isWord yX5_isWord ∈ lw_tbl := (tb_3 (List.mem_of_getElem? (i := 195) (by decide +kernel)))
theorem mV_X5_isWord : am_mV gm_X5_isWord 1 := ⟨⟨cd_X5_isWord, ini_RX5, nh_RX5, pd_X5_isWord, Nat.le_of_ble_eq_true rfl⟩, iw_X5_isWord, sl_X5_isWord⟩
theorem cd_X5_isBlank : Cond.code yX5_isBlank cX5_isBlank 1 (some .boolean) ∈ lw_tbl := (tb_3 (List.mem_of_getElem? (i := 176) (by decide +kernel)))
abbrev gm_X5_isBlank : am_M := (yX5_isBlank, cX5_isBlank, 1, (some .boolean), 1)
theorem pd_X5_isBlank : (parseMethodDescriptor yX5_isBlank.desc).map (fun d => d.parameters.length) = some 1 := by decide +kernel
theorem sw_X5_isBlank : Cond.static yX5_isBlank ∈ lw_tbl := (tb_3 (List.mem_of_getElem? (i := 175) (by decide +kernel)))
theorem mS_X5_isBlank : am_mS gm_X5_isBlank 1 := ⟨⟨cd_X5_isBlank, ini_RX5, nh_RX5, pd_X5_isBlank, Nat.le_of_ble_eq_true rfl⟩, sw_X5_isBlank⟩
theorem cd_X5_sortOf : Cond.code yX5_sortOf cX5_sortOf 1 (some .int) ∈ lw_tbl := (tb_3 (List.mem_of_getElem? (i := 179) (by decide +kernel)))
abbrev gm_X5_sortOf : am_M := (yX5_sortOf, cX5_sortOf, 1, (some .int), 1)
theorem pd_X5_sortOf : (parseMethodDescriptor yX5_sortOf.desc).map (fun d => d.parameters.length) = some 1 := by decide +kernel
theorem sw_X5_sortOf : Cond.static yX5_sortOf ∈ lw_tbl := (tb_3 (List.mem_of_getElem? (i := 178) (by decide +kernel)))
theorem mS_X5_sortOf : am_mS gm_X5_sortOf 1 := ⟨⟨cd_X5_sortOf, ini_RX5, nh_RX5, pd_X5_sortOf, Nat.le_of_ble_eq_true rfl⟩, sw_X5_sortOf⟩
theorem cd_X5_advance : Cond.code yX5_advance cX5_advance 2 none ∈ lw_tbl := (tb_3 (List.mem_of_getElem? (i := 173) (by decide +kernel)))
abbrev gm_X5_advance : am_M := (yX5_advance, cX5_advance, 2, none, 2)
theorem pd_X5_advance : (parseMethodDescriptor yX5_advance.desc).map (fun d => d.parameters.length) = some 0 := by decide +kernel
theorem iw_X5_advance : Cond.instanceMethod yX5_advance ∈ lw_tbl := (tb_3 (List.mem_of_getElem? (i := 171) (by decide +kernel)))
theorem sl_X5_advance : Cond.selects yX5_advance.cls yX5_advance yX5_advance ∈ lw_tbl := (tb_3 (List.mem_of_getElem? (i := 172) (by decide +kernel)))
theorem mV_X5_advance : am_mV gm_X5_advance 0 := ⟨⟨cd_X5_advance, ini_RX5, nh_RX5, pd_X5_advance, Nat.le_of_ble_eq_true rfl⟩, iw_X5_advance, sl_X5_advance⟩
theorem cd_X5_isKept : Cond.code yX5_isKept cX5_isKept 1 (some .boolean) ∈ lw_tbl := (tb_4 (List.mem_of_getElem? (i := 21) (by decide +kernel)))
abbrev gm_X5_isKept : am_M := (yX5_isKept, cX5_isKept, 1, (some .boolean), 6)
theorem pd_X5_isKept : (parseMethodDescriptor yX5_isKept.desc).map (fun d => d.parameters.length) = some 0 := by decide +kernel
theorem iw_X5_isKept : Cond.instanceMethod yX5_isKept ∈ lw_tbl := (tb_4 (List.mem_of_getElem? (i := 20) (by decide +kernel)))
theorem sl_X5_isKept : Cond.selects yX5_isKept.cls yX5_isKept yX5_isKept ∈ lw_tbl := tb_sel (q := (yX5_isKept, 9)) 9 (by decide +kernel)
theorem mV_X5_isKept : am_mV gm_X5_isKept 0 := ⟨⟨cd_X5_isKept, ini_RX5, nh_RX5, pd_X5_isKept, Nat.le_of_ble_eq_true rfl⟩, iw_X5_isKept, sl_X5_isKept⟩
theorem cd_X5_isName : Cond.code yX5_isName cX5_isName 1 (some .boolean) ∈ lw_tbl := (tb_4 (List.mem_of_getElem? (i := 17) (by decide +kernel)))
abbrev gm_X5_isName : am_M := (yX5_isName, cX5_isName, 1, (some .boolean), 7)
theorem pd_X5_isName : (parseMethodDescriptor yX5_isName.desc).map (fun d => d.parameters.length) = some 0 := by decide +kernel
theorem iw_X5_isName : Cond.instanceMethod yX5_isName ∈ lw_tbl := (tb_4 (List.mem_of_getElem? (i := 15) (by decide +kernel)))
theorem sl_X5_isName : Cond.selects yX5_isName.cls yX5_isName yX5_isName ∈ lw_tbl := (tb_4 (List.mem_of_getElem? (i := 16) (by decide +kernel)))
theorem mV_X5_isName : am_mV gm_X5_isName 0 := ⟨⟨cd_X5_isName, ini_RX5, nh_RX5, pd_X5_isName, Nat.le_of_ble_eq_true rfl⟩, iw_X5_isName, sl_X5_isName⟩
theorem cd_X5_refuse : Cond.code yX5_refuse cX5_refuse 2 (some .boolean) ∈ lw_tbl := (tb_4 (List.mem_of_getElem? (i := 36) (by decide +kernel)))
abbrev gm_X5_refuse : am_M := (yX5_refuse, cX5_refuse, 2, (some .boolean), 1)
theorem pd_X5_refuse : (parseMethodDescriptor yX5_refuse.desc).map (fun d => d.parameters.length) = some 1 := by decide +kernel
theorem iw_X5_refuse : Cond.instanceMethod yX5_refuse ∈ lw_tbl := (tb_4 (List.mem_of_getElem? (i := 34) (by decide +kernel)))
theorem sl_X5_refuse : Cond.selects yX5_refuse.cls yX5_refuse yX5_refuse ∈ lw_tbl := (tb_4 (List.mem_of_getElem? (i := 35) (by decide +kernel)))
theorem mV_X5_refuse : am_mV gm_X5_refuse 1 := ⟨⟨cd_X5_refuse, ini_RX5, nh_RX5, pd_X5_refuse, Nat.le_of_ble_eq_true rfl⟩, iw_X5_refuse, sl_X5_refuse⟩
theorem cd_X5_nameCode : Cond.code yX5_nameCode cX5_nameCode 4 (some .long) ∈ lw_tbl := (tb_4 (List.mem_of_getElem? (i := 40) (by decide +kernel)))
abbrev gm_X5_nameCode : am_M := (yX5_nameCode, cX5_nameCode, 4, (some .long), 2)
theorem pd_X5_nameCode : (parseMethodDescriptor yX5_nameCode.desc).map (fun d => d.parameters.length) = some 0 := by decide +kernel
theorem iw_X5_nameCode : Cond.instanceMethod yX5_nameCode ∈ lw_tbl := (tb_4 (List.mem_of_getElem? (i := 38) (by decide +kernel)))
theorem sl_X5_nameCode : Cond.selects yX5_nameCode.cls yX5_nameCode yX5_nameCode ∈ lw_tbl := (tb_4 (List.mem_of_getElem? (i := 39) (by decide +kernel)))
theorem mV_X5_nameCode : am_mV gm_X5_nameCode 0 := ⟨⟨cd_X5_nameCode, ini_RX5, nh_RX5, pd_X5_nameCode, Nat.le_of_ble_eq_true rfl⟩, iw_X5_nameCode, sl_X5_nameCode⟩
theorem cd_X3_hasName : Cond.code yX3_hasName cX3_hasName 4 (some .boolean) ∈ lw_tbl := (tb_4 (List.mem_of_getElem? (i := 46) (by decide +kernel)))
abbrev gm_X3_hasName : am_M := (yX3_hasName, cX3_hasName, 4, (some .boolean), 1)
theorem pd_X3_hasName : (parseMethodDescriptor yX3_hasName.desc).map (fun d => d.parameters.length) = some 1 := by decide +kernel
theorem iw_X3_hasName : Cond.instanceMethod yX3_hasName ∈ lw_tbl := (tb_4 (List.mem_of_getElem? (i := 45) (by decide +kernel)))
theorem sl_X3_hasName : Cond.selects yX3_hasName.cls yX3_hasName yX3_hasName ∈ lw_tbl := tb_sel (q := (yX3_hasName, 7)) 10 (by decide +kernel)
theorem mV_X3_hasName : am_mV gm_X3_hasName 1 := ⟨⟨cd_X3_hasName, ini_RX3, nh_RX3, pd_X3_hasName, Nat.le_of_ble_eq_true rfl⟩, iw_X3_hasName, sl_X3_hasName⟩
theorem cd_X10_multiplyTeeth : Cond.code yX10_multiplyTeeth cX10_multiplyTeeth 1 none ∈ lw_tbl := (tb_4 (List.mem_of_getElem? (i := 54) (by decide +kernel)))
abbrev gm_X10_multiplyTeeth : am_M := (yX10_multiplyTeeth, cX10_multiplyTeeth, 1, none, 1)
theorem pd_X10_multiplyTeeth : (parseMethodDescriptor yX10_multiplyTeeth.desc).map (fun d => d.parameters.length) = some 0 := by decide +kernel
theorem iw_X10_multiplyTeeth : Cond.instanceMethod yX10_multiplyTeeth ∈ lw_tbl := (tb_4 (List.mem_of_getElem? (i := 52) (by decide +kernel)))
theorem sl_X10_multiplyTeeth : Cond.selects yX10_multiplyTeeth.cls yX10_multiplyTeeth yX10_multiplyTeeth ∈ lw_tbl := (tb_4 (List.mem_of_getElem? (i := 53) (by decide +kernel)))
theorem mV_X10_multiplyTeeth : am_mV gm_X10_multiplyTeeth 0 := ⟨⟨cd_X10_multiplyTeeth, ini_RX10, nh_RX10, pd_X10_multiplyTeeth, Nat.le_of_ble_eq_true rfl⟩, iw_X10_multiplyTeeth, sl_X10_multiplyTeeth⟩
theorem cd_X10_clear : Cond.code yX10_clear cX10_clear 4 none ∈ lw_tbl := (tb_4 (List.mem_of_getElem? (i := 50) (by decide +kernel)))
abbrev gm_X10_clear : am_M := (yX10_clear, cX10_clear, 4, none, 2)
theorem pd_X10_clear : (parseMethodDescriptor yX10_clear.desc).map (fun d => d.parameters.length) = some 1 := by decide +kernel
theorem iw_X10_clear : Cond.instanceMethod yX10_clear ∈ lw_tbl := (tb_4 (List.mem_of_getElem? (i := 48) (by decide +kernel)))
theorem sl_X10_clear : Cond.selects yX10_clear.cls yX10_clear yX10_clear ∈ lw_tbl := (tb_4 (List.mem_of_getElem? (i := 49) (by decide +kernel)))
theorem mV_X10_clear : am_mV gm_X10_clear 1 := ⟨⟨cd_X10_clear, ini_RX10, nh_RX10, pd_X10_clear, Nat.le_of_ble_eq_true rfl⟩, iw_X10_clear, sl_X10_clear⟩
theorem cd_X5_takesWord : Cond.code yX5_takesWord cX5_takesWord 2 (some .boolean) ∈ lw_tbl := (tb_4 (List.mem_of_getElem? (i := 62) (by decide +kernel)))
abbrev gm_X5_takesWord : am_M := (yX5_takesWord, cX5_takesWord, 2, (some .boolean), 6)
theorem pd_X5_takesWord : (parseMethodDescriptor yX5_takesWord.desc).map (fun d => d.parameters.length) = some 1 := by decide +kernel
theorem iw_X5_takesWord : Cond.instanceMethod yX5_takesWord ∈ lw_tbl := (tb_4 (List.mem_of_getElem? (i := 60) (by decide +kernel)))
theorem sl_X5_takesWord : Cond.selects yX5_takesWord.cls yX5_takesWord yX5_takesWord ∈ lw_tbl := (tb_4 (List.mem_of_getElem? (i := 61) (by decide +kernel)))
theorem mV_X5_takesWord : am_mV gm_X5_takesWord 1 := ⟨⟨cd_X5_takesWord, ini_RX5, nh_RX5, pd_X5_takesWord, Nat.le_of_ble_eq_true rfl⟩, iw_X5_takesWord, sl_X5_takesWord⟩
theorem cd_X5_isNumber : Cond.code yX5_isNumber cX5_isNumber 1 (some .boolean) ∈ lw_tbl := (tb_4 (List.mem_of_getElem? (i := 71) (by decide +kernel)))
abbrev gm_X5_isNumber : am_M := (yX5_isNumber, cX5_isNumber, 1, (some .boolean), 1)
theorem pd_X5_isNumber : (parseMethodDescriptor yX5_isNumber.desc).map (fun d => d.parameters.length) = some 0 := by decide +kernel
theorem iw_X5_isNumber : Cond.instanceMethod yX5_isNumber ∈ lw_tbl := (tb_4 (List.mem_of_getElem? (i := 69) (by decide +kernel)))
theorem sl_X5_isNumber : Cond.selects yX5_isNumber.cls yX5_isNumber yX5_isNumber ∈ lw_tbl := (tb_4 (List.mem_of_getElem? (i := 70) (by decide +kernel)))
theorem mV_X5_isNumber : am_mV gm_X5_isNumber 0 := ⟨⟨cd_X5_isNumber, ini_RX5, nh_RX5, pd_X5_isNumber, Nat.le_of_ble_eq_true rfl⟩, iw_X5_isNumber, sl_X5_isNumber⟩
theorem cd_X5_standsNumber : Cond.code yX5_standsNumber cX5_standsNumber 3 (some .boolean) ∈ lw_tbl := (tb_4 (List.mem_of_getElem? (i := 67) (by decide +kernel)))
abbrev gm_X5_standsNumber : am_M := (yX5_standsNumber, cX5_standsNumber, 3, (some .boolean), 2)
theorem pd_X5_standsNumber : (parseMethodDescriptor yX5_standsNumber.desc).map (fun d => d.parameters.length) = some 2 := by decide +kernel
theorem iw_X5_standsNumber : Cond.instanceMethod yX5_standsNumber ∈ lw_tbl := (tb_4 (List.mem_of_getElem? (i := 65) (by decide +kernel)))
theorem sl_X5_standsNumber : Cond.selects yX5_standsNumber.cls yX5_standsNumber yX5_standsNumber ∈ lw_tbl := (tb_4 (List.mem_of_getElem? (i := 66) (by decide +kernel)))
theorem mV_X5_standsNumber : am_mV gm_X5_standsNumber 2 := ⟨⟨cd_X5_standsNumber, ini_RX5, nh_RX5, pd_X5_standsNumber, Nat.le_of_ble_eq_true rfl⟩, iw_X5_standsNumber, sl_X5_standsNumber⟩
theorem cd_X3_readsTurns : Cond.code yX3_readsTurns cX3_readsTurns 2 (some .boolean) ∈ lw_tbl := (tb_4 (List.mem_of_getElem? (i := 57) (by decide +kernel)))
abbrev gm_X3_readsTurns : am_M := (yX3_readsTurns, cX3_readsTurns, 2, (some .boolean), 7)
theorem pd_X3_readsTurns : (parseMethodDescriptor yX3_readsTurns.desc).map (fun d => d.parameters.length) = some 2 := by decide +kernel
theorem sw_X3_readsTurns : Cond.static yX3_readsTurns ∈ lw_tbl := (tb_4 (List.mem_of_getElem? (i := 56) (by decide +kernel)))
theorem mS_X3_readsTurns : am_mS gm_X3_readsTurns 2 := ⟨⟨cd_X3_readsTurns, ini_RX3, nh_RX3, pd_X3_readsTurns, Nat.le_of_ble_eq_true rfl⟩, sw_X3_readsTurns⟩
theorem cd_X3_settingOf : Cond.code yX3_settingOf cX3_settingOf 1 (some .int) ∈ lw_tbl := (tb_4 (List.mem_of_getElem? (i := 78) (by decide +kernel)))
abbrev gm_X3_settingOf : am_M := (yX3_settingOf, cX3_settingOf, 1, (some .int), 6)
theorem pd_X3_settingOf : (parseMethodDescriptor yX3_settingOf.desc).map (fun d => d.parameters.length) = some 1 := by decide +kernel
theorem sw_X3_settingOf : Cond.static yX3_settingOf ∈ lw_tbl := (tb_4 (List.mem_of_getElem? (i := 77) (by decide +kernel)))
theorem mS_X3_settingOf : am_mS gm_X3_settingOf 1 := ⟨⟨cd_X3_settingOf, ini_RX3, nh_RX3, pd_X3_settingOf, Nat.le_of_ble_eq_true rfl⟩, sw_X3_settingOf⟩
theorem cd_X5_isSign : Cond.code yX5_isSign cX5_isSign 1 (some .boolean) ∈ lw_tbl := (tb_4 (List.mem_of_getElem? (i := 89) (by decide +kernel)))
abbrev gm_X5_isSign : am_M := (yX5_isSign, cX5_isSign, 1, (some .boolean), 1)
theorem pd_X5_isSign : (parseMethodDescriptor yX5_isSign.desc).map (fun d => d.parameters.length) = some 0 := by decide +kernel
theorem iw_X5_isSign : Cond.instanceMethod yX5_isSign ∈ lw_tbl := (tb_4 (List.mem_of_getElem? (i := 87) (by decide +kernel)))
theorem sl_X5_isSign : Cond.selects yX5_isSign.cls yX5_isSign yX5_isSign ∈ lw_tbl := (tb_4 (List.mem_of_getElem? (i := 88) (by decide +kernel)))
theorem mV_X5_isSign : am_mV gm_X5_isSign 0 := ⟨⟨cd_X5_isSign, ini_RX5, nh_RX5, pd_X5_isSign, Nat.le_of_ble_eq_true rfl⟩, iw_X5_isSign, sl_X5_isSign⟩
theorem cd_X5_takesSign : Cond.code yX5_takesSign cX5_takesSign 1 (some .boolean) ∈ lw_tbl := (tb_4 (List.mem_of_getElem? (i := 85) (by decide +kernel)))
abbrev gm_X5_takesSign : am_M := (yX5_takesSign, cX5_takesSign, 1, (some .boolean), 3)
theorem pd_X5_takesSign : (parseMethodDescriptor yX5_takesSign.desc).map (fun d => d.parameters.length) = some 0 := by decide +kernel
theorem iw_X5_takesSign : Cond.instanceMethod yX5_takesSign ∈ lw_tbl := (tb_4 (List.mem_of_getElem? (i := 83) (by decide +kernel)))
theorem sl_X5_takesSign : Cond.selects yX5_takesSign.cls yX5_takesSign yX5_takesSign ∈ lw_tbl := (tb_4 (List.mem_of_getElem? (i := 84) (by decide +kernel)))
theorem mV_X5_takesSign : am_mV gm_X5_takesSign 0 := ⟨⟨cd_X5_takesSign, ini_RX5, nh_RX5, pd_X5_takesSign, Nat.le_of_ble_eq_true rfl⟩, iw_X5_takesSign, sl_X5_takesSign⟩
theorem cd_X3_readsTrain : Cond.code yX3_readsTrain cX3_readsTrain 3 (some .boolean) ∈ lw_tbl := (tb_4 (List.mem_of_getElem? (i := 92) (by decide +kernel)))
abbrev gm_X3_readsTrain : am_M := (yX3_readsTrain, cX3_readsTrain, 3, (some .boolean), 3)
theorem pd_X3_readsTrain : (parseMethodDescriptor yX3_readsTrain.desc).map (fun d => d.parameters.length) = some 2 := by decide +kernel
theorem sw_X3_readsTrain : Cond.static yX3_readsTrain ∈ lw_tbl := (tb_4 (List.mem_of_getElem? (i := 91) (by decide +kernel)))
theorem mS_X3_readsTrain : am_mS gm_X3_readsTrain 2 := ⟨⟨cd_X3_readsTrain, ini_RX3, nh_RX3, pd_X3_readsTrain, Nat.le_of_ble_eq_true rfl⟩, sw_X3_readsTrain⟩
theorem cd_X3_readsNumber : Cond.code yX3_readsNumber cX3_readsNumber 3 (some .boolean) ∈ lw_tbl := (tb_4 (List.mem_of_getElem? (i := 97) (by decide +kernel)))
abbrev gm_X3_readsNumber : am_M := (yX3_readsNumber, cX3_readsNumber, 3, (some .boolean), 3)
theorem pd_X3_readsNumber : (parseMethodDescriptor yX3_readsNumber.desc).map (fun d => d.parameters.length) = some 3 := by decide +kernel
theorem sw_X3_readsNumber : Cond.static yX3_readsNumber ∈ lw_tbl := (tb_4 (List.mem_of_getElem? (i := 96) (by decide +kernel)))
theorem mS_X3_readsNumber : am_mS gm_X3_readsNumber 3 := ⟨⟨cd_X3_readsNumber, ini_RX3, nh_RX3, pd_X3_readsNumber, Nat.le_of_ble_eq_true rfl⟩, sw_X3_readsNumber⟩
theorem cd_X3_readsSettings : Cond.code yX3_readsSettings cX3_readsSettings 6 (some .boolean) ∈ lw_tbl := (tb_4 (List.mem_of_getElem? (i := 75) (by decide +kernel)))
abbrev gm_X3_readsSettings : am_M := (yX3_readsSettings, cX3_readsSettings, 6, (some .boolean), 7)
theorem pd_X3_readsSettings : (parseMethodDescriptor yX3_readsSettings.desc).map (fun d => d.parameters.length) = some 2 := by decide +kernel
theorem sw_X3_readsSettings : Cond.static yX3_readsSettings ∈ lw_tbl := (tb_4 (List.mem_of_getElem? (i := 74) (by decide +kernel)))
theorem mS_X3_readsSettings : am_mS gm_X3_readsSettings 2 := ⟨⟨cd_X3_readsSettings, ini_RX3, nh_RX3, pd_X3_readsSettings, Nat.le_of_ble_eq_true rfl⟩, sw_X3_readsSettings⟩
theorem cd_X3_readsWave : Cond.code yX3_readsWave cX3_readsWave 5 (some .boolean) ∈ lw_tbl := (tb_4 (List.mem_of_getElem? (i := 12) (by decide +kernel)))
abbrev gm_X3_readsWave : am_M := (yX3_readsWave, cX3_readsWave, 5, (some .boolean), 8)
theorem pd_X3_readsWave : (parseMethodDescriptor yX3_readsWave.desc).map (fun d => d.parameters.length) = some 1 := by decide +kernel
theorem iw_X3_readsWave : Cond.instanceMethod yX3_readsWave ∈ lw_tbl := (tb_4 (List.mem_of_getElem? (i := 11) (by decide +kernel)))
theorem sl_X3_readsWave : Cond.selects yX3_readsWave.cls yX3_readsWave yX3_readsWave ∈ lw_tbl := tb_sel (q := (yX3_readsWave, 7)) 8 (by decide +kernel)
theorem mV_X3_readsWave : am_mV gm_X3_readsWave 1 := ⟨⟨cd_X3_readsWave, ini_RX3, nh_RX3, pd_X3_readsWave, Nat.le_of_ble_eq_true rfl⟩, iw_X3_readsWave, sl_X3_readsWave⟩
theorem cd_X3_hasKind : Cond.code yX3_hasKind cX3_hasKind 3 (some .boolean) ∈ lw_tbl := (tb_4 (List.mem_of_getElem? (i := 107) (by decide +kernel)))
abbrev gm_X3_hasKind : am_M := (yX3_hasKind, cX3_hasKind, 3, (some .boolean), 1)
theorem pd_X3_hasKind : (parseMethodDescriptor yX3_hasKind.desc).map (fun d => d.parameters.length) = some 1 := by decide +kernel
theorem iw_X3_hasKind : Cond.instanceMethod yX3_hasKind ∈ lw_tbl := (tb_4 (List.mem_of_getElem? (i := 106) (by decide +kernel)))
theorem sl_X3_hasKind : Cond.selects yX3_hasKind.cls yX3_hasKind yX3_hasKind ∈ lw_tbl := tb_sel (q := (yX3_hasKind, 7)) 12 (by decide +kernel)
theorem mV_X3_hasKind : am_mV gm_X3_hasKind 1 := ⟨⟨cd_X3_hasKind, ini_RX3, nh_RX3, pd_X3_hasKind, Nat.le_of_ble_eq_true rfl⟩, iw_X3_hasKind, sl_X3_hasKind⟩
theorem cd_X3_readsBox : Cond.code yX3_readsBox cX3_readsBox 3 (some .boolean) ∈ lw_tbl := (tb_4 (List.mem_of_getElem? (i := 102) (by decide +kernel)))
abbrev gm_X3_readsBox : am_M := (yX3_readsBox, cX3_readsBox, 3, (some .boolean), 7)
theorem pd_X3_readsBox : (parseMethodDescriptor yX3_readsBox.desc).map (fun d => d.parameters.length) = some 1 := by decide +kernel
theorem iw_X3_readsBox : Cond.instanceMethod yX3_readsBox ∈ lw_tbl := (tb_4 (List.mem_of_getElem? (i := 101) (by decide +kernel)))
theorem sl_X3_readsBox : Cond.selects yX3_readsBox.cls yX3_readsBox yX3_readsBox ∈ lw_tbl := tb_sel (q := (yX3_readsBox, 7)) 11 (by decide +kernel)
theorem mV_X3_readsBox : am_mV gm_X3_readsBox 1 := ⟨⟨cd_X3_readsBox, ini_RX3, nh_RX3, pd_X3_readsBox, Nat.le_of_ble_eq_true rfl⟩, iw_X3_readsBox, sl_X3_readsBox⟩
theorem cd_X3_readsSlack : Cond.code yX3_readsSlack cX3_readsSlack 2 (some .boolean) ∈ lw_tbl := (tb_4 (List.mem_of_getElem? (i := 112) (by decide +kernel)))
abbrev gm_X3_readsSlack : am_M := (yX3_readsSlack, cX3_readsSlack, 2, (some .boolean), 4)
theorem pd_X3_readsSlack : (parseMethodDescriptor yX3_readsSlack.desc).map (fun d => d.parameters.length) = some 1 := by decide +kernel
theorem iw_X3_readsSlack : Cond.instanceMethod yX3_readsSlack ∈ lw_tbl := (tb_4 (List.mem_of_getElem? (i := 111) (by decide +kernel)))
theorem sl_X3_readsSlack : Cond.selects yX3_readsSlack.cls yX3_readsSlack yX3_readsSlack ∈ lw_tbl := tb_sel (q := (yX3_readsSlack, 7)) 13 (by decide +kernel)
theorem mV_X3_readsSlack : am_mV gm_X3_readsSlack 1 := ⟨⟨cd_X3_readsSlack, ini_RX3, nh_RX3, pd_X3_readsSlack, Nat.le_of_ble_eq_true rfl⟩, iw_X3_readsSlack, sl_X3_readsSlack⟩
theorem cd_X3_readsZero : Cond.code yX3_readsZero cX3_readsZero 2 (some .boolean) ∈ lw_tbl := (tb_4 (List.mem_of_getElem? (i := 117) (by decide +kernel)))
abbrev gm_X3_readsZero : am_M := (yX3_readsZero, cX3_readsZero, 2, (some .boolean), 4)
theorem pd_X3_readsZero : (parseMethodDescriptor yX3_readsZero.desc).map (fun d => d.parameters.length) = some 1 := by decide +kernel
theorem iw_X3_readsZero : Cond.instanceMethod yX3_readsZero ∈ lw_tbl := (tb_4 (List.mem_of_getElem? (i := 116) (by decide +kernel)))
theorem sl_X3_readsZero : Cond.selects yX3_readsZero.cls yX3_readsZero yX3_readsZero ∈ lw_tbl := tb_sel (q := (yX3_readsZero, 7)) 14 (by decide +kernel)
theorem mV_X3_readsZero : am_mV gm_X3_readsZero 1 := ⟨⟨cd_X3_readsZero, ini_RX3, nh_RX3, pd_X3_readsZero, Nat.le_of_ble_eq_true rfl⟩, iw_X3_readsZero, sl_X3_readsZero⟩
theorem cd_X3_readsPart : Cond.code yX3_readsPart cX3_readsPart 2 (some .boolean) ∈ lw_tbl := (tb_3 (List.mem_of_getElem? (i := 191) (by decide +kernel)))
abbrev gm_X3_readsPart : am_M := (yX3_readsPart, cX3_readsPart, 2, (some .boolean), 9)
theorem pd_X3_readsPart : (parseMethodDescriptor yX3_readsPart.desc).map (fun d => d.parameters.length) = some 1 := by decide +kernel
theorem iw_X3_readsPart : Cond.instanceMethod yX3_readsPart ∈ lw_tbl := (tb_3 (List.mem_of_getElem? (i := 190) (by decide +kernel)))
theorem sl_X3_readsPart : Cond.selects yX3_readsPart.cls yX3_readsPart yX3_readsPart ∈ lw_tbl := tb_sel (q := (yX3_readsPart, 7)) 6 (by decide +kernel)
theorem mV_X3_readsPart : am_mV gm_X3_readsPart 1 := ⟨⟨cd_X3_readsPart, ini_RX3, nh_RX3, pd_X3_readsPart, Nat.le_of_ble_eq_true rfl⟩, iw_X3_readsPart, sl_X3_readsPart⟩
theorem cd_X3_readFrom : Cond.code yX3_readFrom cX3_readFrom 3 (some .boolean) ∈ lw_tbl := (tb_3 (List.mem_of_getElem? (i := 183) (by decide +kernel)))
abbrev gm_X3_readFrom : am_M := (yX3_readFrom, cX3_readFrom, 3, (some .boolean), 10)
theorem pd_X3_readFrom : (parseMethodDescriptor yX3_readFrom.desc).map (fun d => d.parameters.length) = some 1 := by decide +kernel
theorem iw_X3_readFrom : Cond.instanceMethod yX3_readFrom ∈ lw_tbl := (tb_3 (List.mem_of_getElem? (i := 181) (by decide +kernel)))
theorem sl_X3_readFrom : Cond.selects yX3_readFrom.cls yX3_readFrom yX3_readFrom ∈ lw_tbl := (tb_3 (List.mem_of_getElem? (i := 182) (by decide +kernel)))
theorem mV_X3_readFrom : am_mV gm_X3_readFrom 1 := ⟨⟨cd_X3_readFrom, ini_RX3, nh_RX3, pd_X3_readFrom, Nat.le_of_ble_eq_true rfl⟩, iw_X3_readFrom, sl_X3_readFrom⟩
theorem cd_X3_mostSwing : Cond.code yX3_mostSwing cX3_mostSwing 3 (some .int) ∈ lw_tbl := (tb_6 (List.mem_of_getElem? (i := 74) (by decide +kernel)))
abbrev gm_X3_mostSwing : am_M := (yX3_mostSwing, cX3_mostSwing, 3, (some .int), 1)
theorem pd_X3_mostSwing : (parseMethodDescriptor yX3_mostSwing.desc).map (fun d => d.parameters.length) = some 0 := by decide +kernel
theorem iw_X3_mostSwing : Cond.instanceMethod yX3_mostSwing ∈ lw_tbl := (tb_6 (List.mem_of_getElem? (i := 72) (by decide +kernel)))
theorem sl_X3_mostSwing : Cond.selects yX3_mostSwing.cls yX3_mostSwing yX3_mostSwing ∈ lw_tbl := (tb_6 (List.mem_of_getElem? (i := 73) (by decide +kernel)))
theorem mV_X3_mostSwing : am_mV gm_X3_mostSwing 0 := ⟨⟨cd_X3_mostSwing, ini_RX3, nh_RX3, pd_X3_mostSwing, Nat.le_of_ble_eq_true rfl⟩, iw_X3_mostSwing, sl_X3_mostSwing⟩
theorem cd_X3_pointerAt : Cond.code yX3_pointerAt cX3_pointerAt 7 (some .int) ∈ lw_tbl := (tb_4 (List.mem_of_getElem? (i := 212) (by decide +kernel)))
abbrev gm_X3_pointerAt : am_M := (yX3_pointerAt, cX3_pointerAt, 7, (some .int), 4)
theorem pd_X3_pointerAt : (parseMethodDescriptor yX3_pointerAt.desc).map (fun d => d.parameters.length) = some 2 := by decide +kernel
theorem iw_X3_pointerAt : Cond.instanceMethod yX3_pointerAt ∈ lw_tbl := (tb_4 (List.mem_of_getElem? (i := 210) (by decide +kernel)))
theorem sl_X3_pointerAt : Cond.selects yX3_pointerAt.cls yX3_pointerAt yX3_pointerAt ∈ lw_tbl := (tb_4 (List.mem_of_getElem? (i := 211) (by decide +kernel)))
theorem mV_X3_pointerAt : am_mV gm_X3_pointerAt 2 := ⟨⟨cd_X3_pointerAt, ini_RX3, nh_RX3, pd_X3_pointerAt, Nat.le_of_ble_eq_true rfl⟩, iw_X3_pointerAt, sl_X3_pointerAt⟩
theorem cd_X3_extremeHour : Cond.code yX3_extremeHour cX3_extremeHour 9 (some .int) ∈ lw_tbl := (tb_5 (List.mem_of_getElem? (i := 214) (by decide +kernel)))
abbrev gm_X3_extremeHour : am_M := (yX3_extremeHour, cX3_extremeHour, 9, (some .int), 4)
theorem pd_X3_extremeHour : (parseMethodDescriptor yX3_extremeHour.desc).map (fun d => d.parameters.length) = some 4 := by decide +kernel
theorem iw_X3_extremeHour : Cond.instanceMethod yX3_extremeHour ∈ lw_tbl := (tb_5 (List.mem_of_getElem? (i := 212) (by decide +kernel)))
theorem sl_X3_extremeHour : Cond.selects yX3_extremeHour.cls yX3_extremeHour yX3_extremeHour ∈ lw_tbl := (tb_5 (List.mem_of_getElem? (i := 213) (by decide +kernel)))
theorem mV_X3_extremeHour : am_mV gm_X3_extremeHour 4 := ⟨⟨cd_X3_extremeHour, ini_RX3, nh_RX3, pd_X3_extremeHour, Nat.le_of_ble_eq_true rfl⟩, iw_X3_extremeHour, sl_X3_extremeHour⟩
theorem cd_X3_lastHourOf : Cond.code yX3_lastHourOf cX3_lastHourOf 1 (some .int) ∈ lw_tbl := (tb_6 (List.mem_of_getElem? (i := 65) (by decide +kernel)))
abbrev gm_X3_lastHourOf : am_M := (yX3_lastHourOf, cX3_lastHourOf, 1, (some .int), 2)
theorem pd_X3_lastHourOf : (parseMethodDescriptor yX3_lastHourOf.desc).map (fun d => d.parameters.length) = some 1 := by decide +kernel
theorem sw_X3_lastHourOf : Cond.static yX3_lastHourOf ∈ lw_tbl := (tb_6 (List.mem_of_getElem? (i := 64) (by decide +kernel)))
theorem mS_X3_lastHourOf : am_mS gm_X3_lastHourOf 1 := ⟨⟨cd_X3_lastHourOf, ini_RX3, nh_RX3, pd_X3_lastHourOf, Nat.le_of_ble_eq_true rfl⟩, sw_X3_lastHourOf⟩
theorem cd_X3_rangeOf : Cond.code yX3_rangeOf cX3_rangeOf 6 (some .int) ∈ lw_tbl := (tb_6 (List.mem_of_getElem? (i := 91) (by decide +kernel)))
abbrev gm_X3_rangeOf : am_M := (yX3_rangeOf, cX3_rangeOf, 6, (some .int), 5)
theorem pd_X3_rangeOf : (parseMethodDescriptor yX3_rangeOf.desc).map (fun d => d.parameters.length) = some 2 := by decide +kernel
theorem iw_X3_rangeOf : Cond.instanceMethod yX3_rangeOf ∈ lw_tbl := (tb_6 (List.mem_of_getElem? (i := 89) (by decide +kernel)))
theorem sl_X3_rangeOf : Cond.selects yX3_rangeOf.cls yX3_rangeOf yX3_rangeOf ∈ lw_tbl := (tb_6 (List.mem_of_getElem? (i := 90) (by decide +kernel)))
theorem mV_X3_rangeOf : am_mV gm_X3_rangeOf 2 := ⟨⟨cd_X3_rangeOf, ini_RX3, nh_RX3, pd_X3_rangeOf, Nat.le_of_ble_eq_true rfl⟩, iw_X3_rangeOf, sl_X3_rangeOf⟩
theorem cd_X3_nextWater : Cond.code yX3_nextWater cX3_nextWater 12 (some .int) ∈ lw_tbl := (tb_6 (List.mem_of_getElem? (i := 70) (by decide +kernel)))
abbrev gm_X3_nextWater : am_M := (yX3_nextWater, cX3_nextWater, 12, (some .int), 4)
theorem pd_X3_nextWater : (parseMethodDescriptor yX3_nextWater.desc).map (fun d => d.parameters.length) = some 4 := by decide +kernel
theorem iw_X3_nextWater : Cond.instanceMethod yX3_nextWater ∈ lw_tbl := (tb_6 (List.mem_of_getElem? (i := 68) (by decide +kernel)))
theorem sl_X3_nextWater : Cond.selects yX3_nextWater.cls yX3_nextWater yX3_nextWater ∈ lw_tbl := (tb_6 (List.mem_of_getElem? (i := 69) (by decide +kernel)))
theorem mV_X3_nextWater : am_mV gm_X3_nextWater 4 := ⟨⟨cd_X3_nextWater, ini_RX3, nh_RX3, pd_X3_nextWater, Nat.le_of_ble_eq_true rfl⟩, iw_X3_nextWater, sl_X3_nextWater⟩
theorem cd_X3_watersOf : Cond.code yX3_watersOf cX3_watersOf 8 (some .int) ∈ lw_tbl := (tb_6 (List.mem_of_getElem? (i := 62) (by decide +kernel)))
abbrev gm_X3_watersOf : am_M := (yX3_watersOf, cX3_watersOf, 8, (some .int), 5)
theorem pd_X3_watersOf : (parseMethodDescriptor yX3_watersOf.desc).map (fun d => d.parameters.length) = some 3 := by decide +kernel
theorem iw_X3_watersOf : Cond.instanceMethod yX3_watersOf ∈ lw_tbl := (tb_6 (List.mem_of_getElem? (i := 60) (by decide +kernel)))
theorem sl_X3_watersOf : Cond.selects yX3_watersOf.cls yX3_watersOf yX3_watersOf ∈ lw_tbl := (tb_6 (List.mem_of_getElem? (i := 61) (by decide +kernel)))
theorem mV_X3_watersOf : am_mV gm_X3_watersOf 3 := ⟨⟨cd_X3_watersOf, ini_RX3, nh_RX3, pd_X3_watersOf, Nat.le_of_ble_eq_true rfl⟩, iw_X3_watersOf, sl_X3_watersOf⟩
theorem cd_X3_waterOf : Cond.code yX3_waterOf cX3_waterOf 8 (some .int) ∈ lw_tbl := (tb_6 (List.mem_of_getElem? (i := 83) (by decide +kernel)))
abbrev gm_X3_waterOf : am_M := (yX3_waterOf, cX3_waterOf, 8, (some .int), 5)
theorem pd_X3_waterOf : (parseMethodDescriptor yX3_waterOf.desc).map (fun d => d.parameters.length) = some 4 := by decide +kernel
theorem iw_X3_waterOf : Cond.instanceMethod yX3_waterOf ∈ lw_tbl := (tb_6 (List.mem_of_getElem? (i := 81) (by decide +kernel)))
theorem sl_X3_waterOf : Cond.selects yX3_waterOf.cls yX3_waterOf yX3_waterOf ∈ lw_tbl := (tb_6 (List.mem_of_getElem? (i := 82) (by decide +kernel)))
theorem mV_X3_waterOf : am_mV gm_X3_waterOf 4 := ⟨⟨cd_X3_waterOf, ini_RX3, nh_RX3, pd_X3_waterOf, Nat.le_of_ble_eq_true rfl⟩, iw_X3_waterOf, sl_X3_waterOf⟩
theorem cd_X10_roundedUp : Cond.code yX10_roundedUp cX10_roundedUp 4 (some .long) ∈ lw_tbl := (tb_6 (List.mem_of_getElem? (i := 125) (by decide +kernel)))
abbrev gm_X10_roundedUp : am_M := (yX10_roundedUp, cX10_roundedUp, 4, (some .long), 1)
theorem pd_X10_roundedUp : (parseMethodDescriptor yX10_roundedUp.desc).map (fun d => d.parameters.length) = some 2 := by decide +kernel
theorem sw_X10_roundedUp : Cond.static yX10_roundedUp ∈ lw_tbl := (tb_6 (List.mem_of_getElem? (i := 124) (by decide +kernel)))
theorem mS_X10_roundedUp : am_mS gm_X10_roundedUp 2 := ⟨⟨cd_X10_roundedUp, ini_RX10, nh_RX10, pd_X10_roundedUp, Nat.le_of_ble_eq_true rfl⟩, sw_X10_roundedUp⟩
theorem cd_X10_firstWornHour : Cond.code yX10_firstWornHour cX10_firstWornHour 4 (some .long) ∈ lw_tbl := (tb_6 (List.mem_of_getElem? (i := 121) (by decide +kernel)))
abbrev gm_X10_firstWornHour : am_M := (yX10_firstWornHour, cX10_firstWornHour, 4, (some .long), 2)
theorem pd_X10_firstWornHour : (parseMethodDescriptor yX10_firstWornHour.desc).map (fun d => d.parameters.length) = some 1 := by decide +kernel
theorem iw_X10_firstWornHour : Cond.instanceMethod yX10_firstWornHour ∈ lw_tbl := (tb_6 (List.mem_of_getElem? (i := 119) (by decide +kernel)))
theorem sl_X10_firstWornHour : Cond.selects yX10_firstWornHour.cls yX10_firstWornHour yX10_firstWornHour ∈ lw_tbl := (tb_6 (List.mem_of_getElem? (i := 120) (by decide +kernel)))
theorem mV_X10_firstWornHour : am_mV gm_X10_firstWornHour 1 := ⟨⟨cd_X10_firstWornHour, ini_RX10, nh_RX10, pd_X10_firstWornHour, Nat.le_of_ble_eq_true rfl⟩, iw_X10_firstWornHour, sl_X10_firstWornHour⟩
theorem cd_X3_firstWornHour : Cond.code yX3_firstWornHour cX3_firstWornHour 5 (some .long) ∈ lw_tbl := (tb_6 (List.mem_of_getElem? (i := 116) (by decide +kernel)))
abbrev gm_X3_firstWornHour : am_M := (yX3_firstWornHour, cX3_firstWornHour, 5, (some .long), 3)
theorem pd_X3_firstWornHour : (parseMethodDescriptor yX3_firstWornHour.desc).map (fun d => d.parameters.length) = some 1 := by decide +kernel
theorem iw_X3_firstWornHour : Cond.instanceMethod yX3_firstWornHour ∈ lw_tbl := (tb_6 (List.mem_of_getElem? (i := 114) (by decide +kernel)))
theorem sl_X3_firstWornHour : Cond.selects yX3_firstWornHour.cls yX3_firstWornHour yX3_firstWornHour ∈ lw_tbl := (tb_6 (List.mem_of_getElem? (i := 115) (by decide +kernel)))
theorem mV_X3_firstWornHour : am_mV gm_X3_firstWornHour 1 := ⟨⟨cd_X3_firstWornHour, ini_RX3, nh_RX3, pd_X3_firstWornHour, Nat.le_of_ble_eq_true rfl⟩, iw_X3_firstWornHour, sl_X3_firstWornHour⟩
theorem cd_X4_readsEnd : Cond.code yX4_readsEnd cX4_readsEnd 3 (some .boolean) ∈ lw_tbl := (tb_6 (List.mem_of_getElem? (i := 186) (by decide +kernel)))
abbrev gm_X4_readsEnd : am_M := (yX4_readsEnd, cX4_readsEnd, 3, (some .boolean), 4)
theorem pd_X4_readsEnd : (parseMethodDescriptor yX4_readsEnd.desc).map (fun d => d.parameters.length) = some 1 := by decide +kernel
theorem iw_X4_readsEnd : Cond.instanceMethod yX4_readsEnd ∈ lw_tbl := (tb_6 (List.mem_of_getElem? (i := 185) (by decide +kernel)))
theorem sl_X4_readsEnd : Cond.selects yX4_readsEnd.cls yX4_readsEnd yX4_readsEnd ∈ lw_tbl := tb_sel (q := (yX4_readsEnd, 8)) 47 (by decide +kernel)
theorem mV_X4_readsEnd : am_mV gm_X4_readsEnd 1 := ⟨⟨cd_X4_readsEnd, ini_RX4, nh_RX4, pd_X4_readsEnd, Nat.le_of_ble_eq_true rfl⟩, iw_X4_readsEnd, sl_X4_readsEnd⟩
theorem cd_X4_deedOf : Cond.code yX4_deedOf cX4_deedOf 1 (some .int) ∈ lw_tbl := (tb_6 (List.mem_of_getElem? (i := 195) (by decide +kernel)))
abbrev gm_X4_deedOf : am_M := (yX4_deedOf, cX4_deedOf, 1, (some .int), 6)
theorem pd_X4_deedOf : (parseMethodDescriptor yX4_deedOf.desc).map (fun d => d.parameters.length) = some 1 := by decide +kernel
theorem sw_X4_deedOf : Cond.static yX4_deedOf ∈ lw_tbl := (tb_6 (List.mem_of_getElem? (i := 194) (by decide +kernel)))
theorem mS_X4_deedOf : am_mS gm_X4_deedOf 1 := ⟨⟨cd_X4_deedOf, ini_RX4, nh_RX4, pd_X4_deedOf, Nat.le_of_ble_eq_true rfl⟩, sw_X4_deedOf⟩
theorem cd_X4_readsNumber : Cond.code yX4_readsNumber cX4_readsNumber 4 (some .boolean) ∈ lw_tbl := (tb_6 (List.mem_of_getElem? (i := 209) (by decide +kernel)))
abbrev gm_X4_readsNumber : am_M := (yX4_readsNumber, cX4_readsNumber, 4, (some .boolean), 3)
theorem pd_X4_readsNumber : (parseMethodDescriptor yX4_readsNumber.desc).map (fun d => d.parameters.length) = some 3 := by decide +kernel
theorem iw_X4_readsNumber : Cond.instanceMethod yX4_readsNumber ∈ lw_tbl := (tb_6 (List.mem_of_getElem? (i := 208) (by decide +kernel)))
theorem sl_X4_readsNumber : Cond.selects yX4_readsNumber.cls yX4_readsNumber yX4_readsNumber ∈ lw_tbl := tb_sel (q := (yX4_readsNumber, 8)) 50 (by decide +kernel)
theorem mV_X4_readsNumber : am_mV gm_X4_readsNumber 3 := ⟨⟨cd_X4_readsNumber, ini_RX4, nh_RX4, pd_X4_readsNumber, Nat.le_of_ble_eq_true rfl⟩, iw_X4_readsNumber, sl_X4_readsNumber⟩
theorem cd_X4_readsWater : Cond.code yX4_readsWater cX4_readsWater 3 (some .boolean) ∈ lw_tbl := (tb_6 (List.mem_of_getElem? (i := 214) (by decide +kernel)))
abbrev gm_X4_readsWater : am_M := (yX4_readsWater, cX4_readsWater, 3, (some .boolean), 6)
theorem pd_X4_readsWater : (parseMethodDescriptor yX4_readsWater.desc).map (fun d => d.parameters.length) = some 1 := by decide +kernel
theorem iw_X4_readsWater : Cond.instanceMethod yX4_readsWater ∈ lw_tbl := (tb_6 (List.mem_of_getElem? (i := 213) (by decide +kernel)))
theorem sl_X4_readsWater : Cond.selects yX4_readsWater.cls yX4_readsWater yX4_readsWater ∈ lw_tbl := tb_sel (q := (yX4_readsWater, 8)) 51 (by decide +kernel)
theorem mV_X4_readsWater : am_mV gm_X4_readsWater 1 := ⟨⟨cd_X4_readsWater, ini_RX4, nh_RX4, pd_X4_readsWater, Nat.le_of_ble_eq_true rfl⟩, iw_X4_readsWater, sl_X4_readsWater⟩
theorem cd_X4_readsLevel : Cond.code yX4_readsLevel cX4_readsLevel 4 (some .boolean) ∈ lw_tbl := (tb_6 (List.mem_of_getElem? (i := 220) (by decide +kernel)))
abbrev gm_X4_readsLevel : am_M := (yX4_readsLevel, cX4_readsLevel, 4, (some .boolean), 6)
theorem pd_X4_readsLevel : (parseMethodDescriptor yX4_readsLevel.desc).map (fun d => d.parameters.length) = some 1 := by decide +kernel
theorem iw_X4_readsLevel : Cond.instanceMethod yX4_readsLevel ∈ lw_tbl := (tb_6 (List.mem_of_getElem? (i := 219) (by decide +kernel)))
theorem sl_X4_readsLevel : Cond.selects yX4_readsLevel.cls yX4_readsLevel yX4_readsLevel ∈ lw_tbl := tb_sel (q := (yX4_readsLevel, 8)) 52 (by decide +kernel)
theorem mV_X4_readsLevel : am_mV gm_X4_readsLevel 1 := ⟨⟨cd_X4_readsLevel, ini_RX4, nh_RX4, pd_X4_readsLevel, Nat.le_of_ble_eq_true rfl⟩, iw_X4_readsLevel, sl_X4_readsLevel⟩
theorem cd_X4_readsRest : Cond.code yX4_readsRest cX4_readsRest 3 (some .boolean) ∈ lw_tbl := (tb_6 (List.mem_of_getElem? (i := 205) (by decide +kernel)))
abbrev gm_X4_readsRest : am_M := (yX4_readsRest, cX4_readsRest, 3, (some .boolean), 7)
theorem pd_X4_readsRest : (parseMethodDescriptor yX4_readsRest.desc).map (fun d => d.parameters.length) = some 2 := by decide +kernel
theorem iw_X4_readsRest : Cond.instanceMethod yX4_readsRest ∈ lw_tbl := (tb_6 (List.mem_of_getElem? (i := 204) (by decide +kernel)))
theorem sl_X4_readsRest : Cond.selects yX4_readsRest.cls yX4_readsRest yX4_readsRest ∈ lw_tbl := tb_sel (q := (yX4_readsRest, 8)) 49 (by decide +kernel)
theorem mV_X4_readsRest : am_mV gm_X4_readsRest 2 := ⟨⟨cd_X4_readsRest, ini_RX4, nh_RX4, pd_X4_readsRest, Nat.le_of_ble_eq_true rfl⟩, iw_X4_readsRest, sl_X4_readsRest⟩
theorem cd_X4_readsStep : Cond.code yX4_readsStep cX4_readsStep 4 (some .boolean) ∈ lw_tbl := (tb_6 (List.mem_of_getElem? (i := 192) (by decide +kernel)))
abbrev gm_X4_readsStep : am_M := (yX4_readsStep, cX4_readsStep, 4, (some .boolean), 8)
theorem pd_X4_readsStep : (parseMethodDescriptor yX4_readsStep.desc).map (fun d => d.parameters.length) = some 1 := by decide +kernel
theorem iw_X4_readsStep : Cond.instanceMethod yX4_readsStep ∈ lw_tbl := (tb_6 (List.mem_of_getElem? (i := 191) (by decide +kernel)))
theorem sl_X4_readsStep : Cond.selects yX4_readsStep.cls yX4_readsStep yX4_readsStep ∈ lw_tbl := tb_sel (q := (yX4_readsStep, 8)) 48 (by decide +kernel)
theorem mV_X4_readsStep : am_mV gm_X4_readsStep 1 := ⟨⟨cd_X4_readsStep, ini_RX4, nh_RX4, pd_X4_readsStep, Nat.le_of_ble_eq_true rfl⟩, iw_X4_readsStep, sl_X4_readsStep⟩
theorem cd_X4_readFrom : Cond.code yX4_readFrom cX4_readFrom 4 (some .boolean) ∈ lw_tbl := (tb_6 (List.mem_of_getElem? (i := 178) (by decide +kernel)))
abbrev gm_X4_readFrom : am_M := (yX4_readFrom, cX4_readFrom, 4, (some .boolean), 9)
theorem pd_X4_readFrom : (parseMethodDescriptor yX4_readFrom.desc).map (fun d => d.parameters.length) = some 1 := by decide +kernel
theorem iw_X4_readFrom : Cond.instanceMethod yX4_readFrom ∈ lw_tbl := (tb_6 (List.mem_of_getElem? (i := 176) (by decide +kernel)))
theorem sl_X4_readFrom : Cond.selects yX4_readFrom.cls yX4_readFrom yX4_readFrom ∈ lw_tbl := (tb_6 (List.mem_of_getElem? (i := 177) (by decide +kernel)))
theorem mV_X4_readFrom : am_mV gm_X4_readFrom 1 := ⟨⟨cd_X4_readFrom, ini_RX4, nh_RX4, pd_X4_readFrom, Nat.le_of_ble_eq_true rfl⟩, iw_X4_readFrom, sl_X4_readFrom⟩
theorem cd_X5_append : Cond.code yX5_append cX5_append 3 none ∈ lw_tbl := (tb_3 (List.mem_of_getElem? (i := 155) (by decide +kernel)))
abbrev gm_X5_append : am_M := (yX5_append, cX5_append, 3, none, 1)
theorem pd_X5_append : (parseMethodDescriptor yX5_append.desc).map (fun d => d.parameters.length) = some 1 := by decide +kernel
theorem iw_X5_append : Cond.instanceMethod yX5_append ∈ lw_tbl := (tb_3 (List.mem_of_getElem? (i := 153) (by decide +kernel)))
theorem sl_X5_append : Cond.selects yX5_append.cls yX5_append yX5_append ∈ lw_tbl := (tb_3 (List.mem_of_getElem? (i := 154) (by decide +kernel)))
theorem mV_X5_append : am_mV gm_X5_append 1 := ⟨⟨cd_X5_append, ini_RX5, nh_RX5, pd_X5_append, Nat.le_of_ble_eq_true rfl⟩, iw_X5_append, sl_X5_append⟩
theorem cd_X5_empty : Cond.code yX5_empty cX5_empty 1 none ∈ lw_tbl := (tb_4 (List.mem_of_getElem? (i := 121) (by decide +kernel)))
abbrev gm_X5_empty : am_M := (yX5_empty, cX5_empty, 1, none, 1)
theorem pd_X5_empty : (parseMethodDescriptor yX5_empty.desc).map (fun d => d.parameters.length) = some 0 := by decide +kernel
theorem iw_X5_empty : Cond.instanceMethod yX5_empty ∈ lw_tbl := (tb_4 (List.mem_of_getElem? (i := 119) (by decide +kernel)))
theorem sl_X5_empty : Cond.selects yX5_empty.cls yX5_empty yX5_empty ∈ lw_tbl := (tb_4 (List.mem_of_getElem? (i := 120) (by decide +kernel)))
theorem mV_X5_empty : am_mV gm_X5_empty 0 := ⟨⟨cd_X5_empty, ini_RX5, nh_RX5, pd_X5_empty, Nat.le_of_ble_eq_true rfl⟩, iw_X5_empty, sl_X5_empty⟩
theorem cd_X5_begin : Cond.code yX5_begin cX5_begin 2 none ∈ lw_tbl := (tb_3 (List.mem_of_getElem? (i := 167) (by decide +kernel)))
abbrev gm_X5_begin : am_M := (yX5_begin, cX5_begin, 2, none, 3)
theorem pd_X5_begin : (parseMethodDescriptor yX5_begin.desc).map (fun d => d.parameters.length) = some 1 := by decide +kernel
theorem iw_X5_begin : Cond.instanceMethod yX5_begin ∈ lw_tbl := (tb_3 (List.mem_of_getElem? (i := 165) (by decide +kernel)))
theorem sl_X5_begin : Cond.selects yX5_begin.cls yX5_begin yX5_begin ∈ lw_tbl := (tb_3 (List.mem_of_getElem? (i := 166) (by decide +kernel)))
theorem mV_X5_begin : am_mV gm_X5_begin 1 := ⟨⟨cd_X5_begin, ini_RX5, nh_RX5, pd_X5_begin, Nat.le_of_ble_eq_true rfl⟩, iw_X5_begin, sl_X5_begin⟩
theorem cd_X10_hasTrain : Cond.code yX10_hasTrain cX10_hasTrain 1 (some .boolean) ∈ lw_tbl := (tb_4 (List.mem_of_getElem? (i := 150) (by decide +kernel)))
abbrev gm_X10_hasTrain : am_M := (yX10_hasTrain, cX10_hasTrain, 1, (some .boolean), 1)
theorem pd_X10_hasTrain : (parseMethodDescriptor yX10_hasTrain.desc).map (fun d => d.parameters.length) = some 0 := by decide +kernel
theorem iw_X10_hasTrain : Cond.instanceMethod yX10_hasTrain ∈ lw_tbl := (tb_4 (List.mem_of_getElem? (i := 148) (by decide +kernel)))
theorem sl_X10_hasTrain : Cond.selects yX10_hasTrain.cls yX10_hasTrain yX10_hasTrain ∈ lw_tbl := (tb_4 (List.mem_of_getElem? (i := 149) (by decide +kernel)))
theorem mV_X10_hasTrain : am_mV gm_X10_hasTrain 0 := ⟨⟨cd_X10_hasTrain, ini_RX10, nh_RX10, pd_X10_hasTrain, Nat.le_of_ble_eq_true rfl⟩, iw_X10_hasTrain, sl_X10_hasTrain⟩
theorem cd_X10_offBottom : Cond.code yX10_offBottom cX10_offBottom 3 (some .long) ∈ lw_tbl := (tb_4 (List.mem_of_getElem? (i := 228) (by decide +kernel)))
abbrev gm_X10_offBottom : am_M := (yX10_offBottom, cX10_offBottom, 3, (some .long), 1)
theorem pd_X10_offBottom : (parseMethodDescriptor yX10_offBottom.desc).map (fun d => d.parameters.length) = some 1 := by decide +kernel
theorem iw_X10_offBottom : Cond.instanceMethod yX10_offBottom ∈ lw_tbl := (tb_4 (List.mem_of_getElem? (i := 226) (by decide +kernel)))
theorem sl_X10_offBottom : Cond.selects yX10_offBottom.cls yX10_offBottom yX10_offBottom ∈ lw_tbl := (tb_4 (List.mem_of_getElem? (i := 227) (by decide +kernel)))
theorem mV_X10_offBottom : am_mV gm_X10_offBottom 1 := ⟨⟨cd_X10_offBottom, ini_RX10, nh_RX10, pd_X10_offBottom, Nat.le_of_ble_eq_true rfl⟩, iw_X10_offBottom, sl_X10_offBottom⟩
theorem cd_X10_offTop : Cond.code yX10_offTop cX10_offTop 6 (some .long) ∈ lw_tbl := (tb_4 (List.mem_of_getElem? (i := 221) (by decide +kernel)))
abbrev gm_X10_offTop : am_M := (yX10_offTop, cX10_offTop, 6, (some .long), 2)
theorem pd_X10_offTop : (parseMethodDescriptor yX10_offTop.desc).map (fun d => d.parameters.length) = some 3 := by decide +kernel
theorem iw_X10_offTop : Cond.instanceMethod yX10_offTop ∈ lw_tbl := (tb_4 (List.mem_of_getElem? (i := 219) (by decide +kernel)))
theorem sl_X10_offTop : Cond.selects yX10_offTop.cls yX10_offTop yX10_offTop ∈ lw_tbl := (tb_4 (List.mem_of_getElem? (i := 220) (by decide +kernel)))
theorem mV_X10_offTop : am_mV gm_X10_offTop 3 := ⟨⟨cd_X10_offTop, ini_RX10, nh_RX10, pd_X10_offTop, Nat.le_of_ble_eq_true rfl⟩, iw_X10_offTop, sl_X10_offTop⟩
theorem cd_X10_offThousandths : Cond.code yX10_offThousandths cX10_offThousandths 8 (some .long) ∈ lw_tbl := (tb_6 (List.mem_of_getElem? (i := 151) (by decide +kernel)))
abbrev gm_X10_offThousandths : am_M := (yX10_offThousandths, cX10_offThousandths, 8, (some .long), 3)
theorem pd_X10_offThousandths : (parseMethodDescriptor yX10_offThousandths.desc).map (fun d => d.parameters.length) = some 3 := by decide +kernel
theorem iw_X10_offThousandths : Cond.instanceMethod yX10_offThousandths ∈ lw_tbl := (tb_6 (List.mem_of_getElem? (i := 149) (by decide +kernel)))
theorem sl_X10_offThousandths : Cond.selects yX10_offThousandths.cls yX10_offThousandths yX10_offThousandths ∈ lw_tbl := (tb_6 (List.mem_of_getElem? (i := 150) (by decide +kernel)))
theorem mV_X10_offThousandths : am_mV gm_X10_offThousandths 3 := ⟨⟨cd_X10_offThousandths, ini_RX10, nh_RX10, pd_X10_offThousandths, Nat.le_of_ble_eq_true rfl⟩, iw_X10_offThousandths, sl_X10_offThousandths⟩
theorem cd_X6_offNow : Cond.code yX6_offNow cX6_offNow 2 (some .long) ∈ lw_tbl := (tb_6 (List.mem_of_getElem? (i := 146) (by decide +kernel)))
abbrev gm_X6_offNow : am_M := (yX6_offNow, cX6_offNow, 2, (some .long), 4)
theorem pd_X6_offNow : (parseMethodDescriptor yX6_offNow.desc).map (fun d => d.parameters.length) = some 1 := by decide +kernel
theorem iw_X6_offNow : Cond.instanceMethod yX6_offNow ∈ lw_tbl := (tb_6 (List.mem_of_getElem? (i := 145) (by decide +kernel)))
theorem sl_X6_offNow : Cond.selects yX6_offNow.cls yX6_offNow yX6_offNow ∈ lw_tbl := tb_sel (q := (yX6_offNow, 5)) 44 (by decide +kernel)
theorem mV_X6_offNow : am_mV gm_X6_offNow 1 := ⟨⟨cd_X6_offNow, ini_RX6, nh_RX6, pd_X6_offNow, Nat.le_of_ble_eq_true rfl⟩, iw_X6_offNow, sl_X6_offNow⟩
theorem cd_X6_sumOff : Cond.code yX6_sumOff cX6_sumOff 5 (some .long) ∈ lw_tbl := (tb_6 (List.mem_of_getElem? (i := 142) (by decide +kernel)))
abbrev gm_X6_sumOff : am_M := (yX6_sumOff, cX6_sumOff, 5, (some .long), 5)
theorem pd_X6_sumOff : (parseMethodDescriptor yX6_sumOff.desc).map (fun d => d.parameters.length) = some 1 := by decide +kernel
theorem iw_X6_sumOff : Cond.instanceMethod yX6_sumOff ∈ lw_tbl := (tb_6 (List.mem_of_getElem? (i := 141) (by decide +kernel)))
theorem sl_X6_sumOff : Cond.selects yX6_sumOff.cls yX6_sumOff yX6_sumOff ∈ lw_tbl := tb_sel (q := (yX6_sumOff, 5)) 43 (by decide +kernel)
theorem mV_X6_sumOff : am_mV gm_X6_sumOff 1 := ⟨⟨cd_X6_sumOff, ini_RX6, nh_RX6, pd_X6_sumOff, Nat.le_of_ble_eq_true rfl⟩, iw_X6_sumOff, sl_X6_sumOff⟩
theorem cd_X6_offWith : Cond.code yX6_offWith cX6_offWith 4 (some .long) ∈ lw_tbl := (tb_6 (List.mem_of_getElem? (i := 164) (by decide +kernel)))
abbrev gm_X6_offWith : am_M := (yX6_offWith, cX6_offWith, 4, (some .long), 4)
theorem pd_X6_offWith : (parseMethodDescriptor yX6_offWith.desc).map (fun d => d.parameters.length) = some 3 := by decide +kernel
theorem iw_X6_offWith : Cond.instanceMethod yX6_offWith ∈ lw_tbl := (tb_6 (List.mem_of_getElem? (i := 163) (by decide +kernel)))
theorem sl_X6_offWith : Cond.selects yX6_offWith.cls yX6_offWith yX6_offWith ∈ lw_tbl := tb_sel (q := (yX6_offWith, 5)) 46 (by decide +kernel)
theorem mV_X6_offWith : am_mV gm_X6_offWith 3 := ⟨⟨cd_X6_offWith, ini_RX6, nh_RX6, pd_X6_offWith, Nat.le_of_ble_eq_true rfl⟩, iw_X6_offWith, sl_X6_offWith⟩
theorem cd_X6_tryAll : Cond.code yX6_tryAll cX6_tryAll 16 none ∈ lw_tbl := (tb_6 (List.mem_of_getElem? (i := 159) (by decide +kernel)))
abbrev gm_X6_tryAll : am_M := (yX6_tryAll, cX6_tryAll, 16, none, 5)
theorem pd_X6_tryAll : (parseMethodDescriptor yX6_tryAll.desc).map (fun d => d.parameters.length) = some 4 := by decide +kernel
theorem iw_X6_tryAll : Cond.instanceMethod yX6_tryAll ∈ lw_tbl := (tb_6 (List.mem_of_getElem? (i := 158) (by decide +kernel)))
theorem sl_X6_tryAll : Cond.selects yX6_tryAll.cls yX6_tryAll yX6_tryAll ∈ lw_tbl := tb_sel (q := (yX6_tryAll, 5)) 45 (by decide +kernel)
theorem mV_X6_tryAll : am_mV gm_X6_tryAll 4 := ⟨⟨cd_X6_tryAll, ini_RX6, nh_RX6, pd_X6_tryAll, Nat.le_of_ble_eq_true rfl⟩, iw_X6_tryAll, sl_X6_tryAll⟩
theorem cd_X6_findTrade : Cond.code yX6_findTrade cX6_findTrade 6 none ∈ lw_tbl := (tb_6 (List.mem_of_getElem? (i := 138) (by decide +kernel)))
abbrev gm_X6_findTrade : am_M := (yX6_findTrade, cX6_findTrade, 6, none, 6)
theorem pd_X6_findTrade : (parseMethodDescriptor yX6_findTrade.desc).map (fun d => d.parameters.length) = some 3 := by decide +kernel
theorem iw_X6_findTrade : Cond.instanceMethod yX6_findTrade ∈ lw_tbl := (tb_6 (List.mem_of_getElem? (i := 136) (by decide +kernel)))
theorem sl_X6_findTrade : Cond.selects yX6_findTrade.cls yX6_findTrade yX6_findTrade ∈ lw_tbl := (tb_6 (List.mem_of_getElem? (i := 137) (by decide +kernel)))
theorem mV_X6_findTrade : am_mV gm_X6_findTrade 3 := ⟨⟨cd_X6_findTrade, ini_RX6, nh_RX6, pd_X6_findTrade, Nat.le_of_ble_eq_true rfl⟩, iw_X6_findTrade, sl_X6_findTrade⟩
theorem cd_X7_emptiedBox : Cond.code yX7_emptiedBox cX7_emptiedBox 4 (some .int) ∈ lw_tbl := (tb_5 (List.mem_of_getElem? (i := 8) (by decide +kernel)))
abbrev gm_X7_emptiedBox : am_M := (yX7_emptiedBox, cX7_emptiedBox, 4, (some .int), 1)
theorem pd_X7_emptiedBox : (parseMethodDescriptor yX7_emptiedBox.desc).map (fun d => d.parameters.length) = some 1 := by decide +kernel
theorem iw_X7_emptiedBox : Cond.instanceMethod yX7_emptiedBox ∈ lw_tbl := (tb_5 (List.mem_of_getElem? (i := 7) (by decide +kernel)))
theorem sl_X7_emptiedBox : Cond.selects yX7_emptiedBox.cls yX7_emptiedBox yX7_emptiedBox ∈ lw_tbl := tb_sel (q := (yX7_emptiedBox, 15)) 18 (by decide +kernel)
theorem mV_X7_emptiedBox : am_mV gm_X7_emptiedBox 1 := ⟨⟨cd_X7_emptiedBox, ini_RX7, nh_RX7, pd_X7_emptiedBox, Nat.le_of_ble_eq_true rfl⟩, iw_X7_emptiedBox, sl_X7_emptiedBox⟩
theorem cd_X7_keepTried : Cond.code yX7_keepTried cX7_keepTried 2 none ∈ lw_tbl := (tb_5 (List.mem_of_getElem? (i := 22) (by decide +kernel)))
abbrev gm_X7_keepTried : am_M := (yX7_keepTried, cX7_keepTried, 2, none, 1)
theorem pd_X7_keepTried : (parseMethodDescriptor yX7_keepTried.desc).map (fun d => d.parameters.length) = some 0 := by decide +kernel
theorem iw_X7_keepTried : Cond.instanceMethod yX7_keepTried ∈ lw_tbl := (tb_5 (List.mem_of_getElem? (i := 21) (by decide +kernel)))
theorem sl_X7_keepTried : Cond.selects yX7_keepTried.cls yX7_keepTried yX7_keepTried ∈ lw_tbl := tb_sel (q := (yX7_keepTried, 15)) 21 (by decide +kernel)
theorem mV_X7_keepTried : am_mV gm_X7_keepTried 0 := ⟨⟨cd_X7_keepTried, ini_RX7, nh_RX7, pd_X7_keepTried, Nat.le_of_ble_eq_true rfl⟩, iw_X7_keepTried, sl_X7_keepTried⟩
theorem cd_X7_weighTrain : Cond.code yX7_weighTrain cX7_weighTrain 11 none ∈ lw_tbl := (tb_5 (List.mem_of_getElem? (i := 16) (by decide +kernel)))
abbrev gm_X7_weighTrain : am_M := (yX7_weighTrain, cX7_weighTrain, 11, none, 3)
theorem pd_X7_weighTrain : (parseMethodDescriptor yX7_weighTrain.desc).map (fun d => d.parameters.length) = some 0 := by decide +kernel
theorem iw_X7_weighTrain : Cond.instanceMethod yX7_weighTrain ∈ lw_tbl := (tb_5 (List.mem_of_getElem? (i := 15) (by decide +kernel)))
theorem sl_X7_weighTrain : Cond.selects yX7_weighTrain.cls yX7_weighTrain yX7_weighTrain ∈ lw_tbl := tb_sel (q := (yX7_weighTrain, 15)) 20 (by decide +kernel)
theorem mV_X7_weighTrain : am_mV gm_X7_weighTrain 0 := ⟨⟨cd_X7_weighTrain, ini_RX7, nh_RX7, pd_X7_weighTrain, Nat.le_of_ble_eq_true rfl⟩, iw_X7_weighTrain, sl_X7_weighTrain⟩
theorem cd_X7_tryWheel : Cond.code yX7_tryWheel cX7_tryWheel 3 none ∈ lw_tbl := (tb_5 (List.mem_of_getElem? (i := 12) (by decide +kernel)))
abbrev gm_X7_tryWheel (n : Nat) : am_M := (yX7_tryWheel, cX7_tryWheel, 3, none, 5 + 1 * n)
theorem pd_X7_tryWheel : (parseMethodDescriptor yX7_tryWheel.desc).map (fun d => d.parameters.length) = some 1 := by decide +kernel
theorem iw_X7_tryWheel : Cond.instanceMethod yX7_tryWheel ∈ lw_tbl := (tb_5 (List.mem_of_getElem? (i := 11) (by decide +kernel)))
theorem sl_X7_tryWheel : Cond.selects yX7_tryWheel.cls yX7_tryWheel yX7_tryWheel ∈ lw_tbl := tb_sel (q := (yX7_tryWheel, 15)) 19 (by decide +kernel)
theorem mV_X7_tryWheel (n : Nat) : am_mV (gm_X7_tryWheel n) 1 := ⟨⟨cd_X7_tryWheel, ini_RX7, nh_RX7, pd_X7_tryWheel, Nat.le_of_ble_eq_true rfl⟩, iw_X7_tryWheel, sl_X7_tryWheel⟩
theorem cd_X7_findBest : Cond.code yX7_findBest cX7_findBest 6 (some .boolean) ∈ lw_tbl := (tb_5 (List.mem_of_getElem? (i := 4) (by decide +kernel)))
abbrev gm_X7_findBest : am_M := (yX7_findBest, cX7_findBest, 6, (some .boolean), 14)
theorem pd_X7_findBest : (parseMethodDescriptor yX7_findBest.desc).map (fun d => d.parameters.length) = some 3 := by decide +kernel
theorem iw_X7_findBest : Cond.instanceMethod yX7_findBest ∈ lw_tbl := (tb_5 (List.mem_of_getElem? (i := 2) (by decide +kernel)))
theorem sl_X7_findBest : Cond.selects yX7_findBest.cls yX7_findBest yX7_findBest ∈ lw_tbl := (tb_5 (List.mem_of_getElem? (i := 3) (by decide +kernel)))
theorem mV_X7_findBest : am_mV gm_X7_findBest 3 := ⟨⟨cd_X7_findBest, ini_RX7, nh_RX7, pd_X7_findBest, Nat.le_of_ble_eq_true rfl⟩, iw_X7_findBest, sl_X7_findBest⟩
theorem cd_X7_noteFitting : Cond.code yX7_noteFitting cX7_noteFitting 9 none ∈ lw_tbl := (tb_5 (List.mem_of_getElem? (i := 44) (by decide +kernel)))
abbrev gm_X7_noteFitting : am_M := (yX7_noteFitting, cX7_noteFitting, 9, none, 3)
theorem pd_X7_noteFitting : (parseMethodDescriptor yX7_noteFitting.desc).map (fun d => d.parameters.length) = some 3 := by decide +kernel
theorem iw_X7_noteFitting : Cond.instanceMethod yX7_noteFitting ∈ lw_tbl := (tb_5 (List.mem_of_getElem? (i := 43) (by decide +kernel)))
theorem sl_X7_noteFitting : Cond.selects yX7_noteFitting.cls yX7_noteFitting yX7_noteFitting ∈ lw_tbl := tb_sel (q := (yX7_noteFitting, 15)) 22 (by decide +kernel)
theorem mV_X7_noteFitting : am_mV gm_X7_noteFitting 3 := ⟨⟨cd_X7_noteFitting, ini_RX7, nh_RX7, pd_X7_noteFitting, Nat.le_of_ble_eq_true rfl⟩, iw_X7_noteFitting, sl_X7_noteFitting⟩
theorem cd_X7_sumLeast : Cond.code yX7_sumLeast cX7_sumLeast 3 none ∈ lw_tbl := (tb_5 (List.mem_of_getElem? (i := 51) (by decide +kernel)))
abbrev gm_X7_sumLeast : am_M := (yX7_sumLeast, cX7_sumLeast, 3, none, 2)
theorem pd_X7_sumLeast : (parseMethodDescriptor yX7_sumLeast.desc).map (fun d => d.parameters.length) = some 0 := by decide +kernel
theorem iw_X7_sumLeast : Cond.instanceMethod yX7_sumLeast ∈ lw_tbl := (tb_5 (List.mem_of_getElem? (i := 50) (by decide +kernel)))
theorem sl_X7_sumLeast : Cond.selects yX7_sumLeast.cls yX7_sumLeast yX7_sumLeast ∈ lw_tbl := tb_sel (q := (yX7_sumLeast, 15)) 23 (by decide +kernel)
theorem mV_X7_sumLeast : am_mV gm_X7_sumLeast 0 := ⟨⟨cd_X7_sumLeast, ini_RX7, nh_RX7, pd_X7_sumLeast, Nat.le_of_ble_eq_true rfl⟩, iw_X7_sumLeast, sl_X7_sumLeast⟩
theorem cd_X7_tryDriven : Cond.code yX7_tryDriven cX7_tryDriven 7 none ∈ lw_tbl := (tb_5 (List.mem_of_getElem? (i := 59) (by decide +kernel)))
abbrev gm_X7_tryDriven (n : Nat) : am_M := (yX7_tryDriven, cX7_tryDriven, 7, none, 4 + 2 * n)
theorem pd_X7_tryDriven : (parseMethodDescriptor yX7_tryDriven.desc).map (fun d => d.parameters.length) = some 3 := by decide +kernel
theorem iw_X7_tryDriven : Cond.instanceMethod yX7_tryDriven ∈ lw_tbl := (tb_5 (List.mem_of_getElem? (i := 58) (by decide +kernel)))
theorem sl_X7_tryDriven : Cond.selects yX7_tryDriven.cls yX7_tryDriven yX7_tryDriven ∈ lw_tbl := tb_sel (q := (yX7_tryDriven, 15)) 25 (by decide +kernel)
theorem mV_X7_tryDriven (n : Nat) : am_mV (gm_X7_tryDriven n) 3 := ⟨⟨cd_X7_tryDriven, ini_RX7, nh_RX7, pd_X7_tryDriven, Nat.le_of_ble_eq_true rfl⟩, iw_X7_tryDriven, sl_X7_tryDriven⟩
theorem cd_X7_tryCouple : Cond.code yX7_tryCouple cX7_tryCouple 4 none ∈ lw_tbl := (tb_5 (List.mem_of_getElem? (i := 55) (by decide +kernel)))
abbrev gm_X7_tryCouple (n : Nat) : am_M := (yX7_tryCouple, cX7_tryCouple, 4, none, 3 + 2 * n)
theorem pd_X7_tryCouple : (parseMethodDescriptor yX7_tryCouple.desc).map (fun d => d.parameters.length) = some 2 := by decide +kernel
theorem iw_X7_tryCouple : Cond.instanceMethod yX7_tryCouple ∈ lw_tbl := (tb_5 (List.mem_of_getElem? (i := 54) (by decide +kernel)))
theorem sl_X7_tryCouple : Cond.selects yX7_tryCouple.cls yX7_tryCouple yX7_tryCouple ∈ lw_tbl := tb_sel (q := (yX7_tryCouple, 15)) 24 (by decide +kernel)
theorem mV_X7_tryCouple (n : Nat) : am_mV (gm_X7_tryCouple n) 2 := ⟨⟨cd_X7_tryCouple, ini_RX7, nh_RX7, pd_X7_tryCouple, Nat.le_of_ble_eq_true rfl⟩, iw_X7_tryCouple, sl_X7_tryCouple⟩
theorem cd_X7_findShared : Cond.code yX7_findShared cX7_findShared 6 (some .boolean) ∈ lw_tbl := (tb_5 (List.mem_of_getElem? (i := 40) (by decide +kernel)))
abbrev gm_X7_findShared : am_M := (yX7_findShared, cX7_findShared, 6, (some .boolean), 20)
theorem pd_X7_findShared : (parseMethodDescriptor yX7_findShared.desc).map (fun d => d.parameters.length) = some 4 := by decide +kernel
theorem iw_X7_findShared : Cond.instanceMethod yX7_findShared ∈ lw_tbl := (tb_5 (List.mem_of_getElem? (i := 38) (by decide +kernel)))
theorem sl_X7_findShared : Cond.selects yX7_findShared.cls yX7_findShared yX7_findShared ∈ lw_tbl := (tb_5 (List.mem_of_getElem? (i := 39) (by decide +kernel)))
theorem mV_X7_findShared : am_mV gm_X7_findShared 4 := ⟨⟨cd_X7_findShared, ini_RX7, nh_RX7, pd_X7_findShared, Nat.le_of_ble_eq_true rfl⟩, iw_X7_findShared, sl_X7_findShared⟩
theorem cd_X8_isMissing : Cond.code yX8_isMissing cX8_isMissing 1 (some .boolean) ∈ lw_tbl := (tb_3 (List.mem_of_getElem? (i := 119) (by decide +kernel)))
abbrev gm_X8_isMissing : am_M := (yX8_isMissing, cX8_isMissing, 1, (some .boolean), 1)
theorem pd_X8_isMissing : (parseMethodDescriptor yX8_isMissing.desc).map (fun d => d.parameters.length) = some 0 := by decide +kernel
theorem iw_X8_isMissing : Cond.instanceMethod yX8_isMissing ∈ lw_tbl := (tb_3 (List.mem_of_getElem? (i := 117) (by decide +kernel)))
theorem sl_X8_isMissing : Cond.selects yX8_isMissing.cls yX8_isMissing yX8_isMissing ∈ lw_tbl := (tb_3 (List.mem_of_getElem? (i := 118) (by decide +kernel)))
theorem mV_X8_isMissing : am_mV gm_X8_isMissing 0 := ⟨⟨cd_X8_isMissing, ini_RX8, nh_RX8, pd_X8_isMissing, Nat.le_of_ble_eq_true rfl⟩, iw_X8_isMissing, sl_X8_isMissing⟩
theorem cd_X8_makeAnew : Cond.code yX8_makeAnew cX8_makeAnew 4 none ∈ lw_tbl := (tb_3 (List.mem_of_getElem? (i := 97) (by decide +kernel)))
abbrev gm_X8_makeAnew : am_M := (yX8_makeAnew, cX8_makeAnew, 4, none, 2)
theorem pd_X8_makeAnew : (parseMethodDescriptor yX8_makeAnew.desc).map (fun d => d.parameters.length) = some 2 := by decide +kernel
theorem iw_X8_makeAnew : Cond.instanceMethod yX8_makeAnew ∈ lw_tbl := (tb_3 (List.mem_of_getElem? (i := 95) (by decide +kernel)))
theorem sl_X8_makeAnew : Cond.selects yX8_makeAnew.cls yX8_makeAnew yX8_makeAnew ∈ lw_tbl := (tb_3 (List.mem_of_getElem? (i := 96) (by decide +kernel)))
theorem mV_X8_makeAnew : am_mV gm_X8_makeAnew 2 := ⟨⟨cd_X8_makeAnew, ini_RX8, nh_RX8, pd_X8_makeAnew, Nat.le_of_ble_eq_true rfl⟩, iw_X8_makeAnew, sl_X8_makeAnew⟩
theorem cd_X8_hasRun : Cond.code yX8_hasRun cX8_hasRun 3 (some .boolean) ∈ lw_tbl := (tb_3 (List.mem_of_getElem? (i := 144) (by decide +kernel)))
abbrev gm_X8_hasRun : am_M := (yX8_hasRun, cX8_hasRun, 3, (some .boolean), 1)
theorem pd_X8_hasRun : (parseMethodDescriptor yX8_hasRun.desc).map (fun d => d.parameters.length) = some 2 := by decide +kernel
theorem iw_X8_hasRun : Cond.instanceMethod yX8_hasRun ∈ lw_tbl := (tb_3 (List.mem_of_getElem? (i := 142) (by decide +kernel)))
theorem sl_X8_hasRun : Cond.selects yX8_hasRun.cls yX8_hasRun yX8_hasRun ∈ lw_tbl := (tb_3 (List.mem_of_getElem? (i := 143) (by decide +kernel)))
theorem mV_X8_hasRun : am_mV gm_X8_hasRun 2 := ⟨⟨cd_X8_hasRun, ini_RX8, nh_RX8, pd_X8_hasRun, Nat.le_of_ble_eq_true rfl⟩, iw_X8_hasRun, sl_X8_hasRun⟩
theorem cd_X8_put : Cond.code yX8_put cX8_put 4 none ∈ lw_tbl := (tb_3 (List.mem_of_getElem? (i := 123) (by decide +kernel)))
abbrev gm_X8_put : am_M := (yX8_put, cX8_put, 4, none, 1)
theorem pd_X8_put : (parseMethodDescriptor yX8_put.desc).map (fun d => d.parameters.length) = some 2 := by decide +kernel
theorem iw_X8_put : Cond.instanceMethod yX8_put ∈ lw_tbl := (tb_3 (List.mem_of_getElem? (i := 121) (by decide +kernel)))
theorem sl_X8_put : Cond.selects yX8_put.cls yX8_put yX8_put ∈ lw_tbl := (tb_3 (List.mem_of_getElem? (i := 122) (by decide +kernel)))
theorem mV_X8_put : am_mV gm_X8_put 2 := ⟨⟨cd_X8_put, ini_RX8, nh_RX8, pd_X8_put, Nat.le_of_ble_eq_true rfl⟩, iw_X8_put, sl_X8_put⟩
theorem cd_X9_passEnds : Cond.code yX9_passEnds cX9_passEnds 3 none ∈ lw_tbl := (tb_6 (List.mem_of_getElem? (i := 235) (by decide +kernel)))
abbrev gm_X9_passEnds : am_M := (yX9_passEnds, cX9_passEnds, 3, none, 1)
theorem pd_X9_passEnds : (parseMethodDescriptor yX9_passEnds.desc).map (fun d => d.parameters.length) = some 0 := by decide +kernel
theorem iw_X9_passEnds : Cond.instanceMethod yX9_passEnds ∈ lw_tbl := (tb_6 (List.mem_of_getElem? (i := 234) (by decide +kernel)))
theorem sl_X9_passEnds : Cond.selects yX9_passEnds.cls yX9_passEnds yX9_passEnds ∈ lw_tbl := tb_sel (q := (yX9_passEnds, 12)) 53 (by decide +kernel)
theorem mV_X9_passEnds : am_mV gm_X9_passEnds 0 := ⟨⟨cd_X9_passEnds, ini_RX9, nh_RX9, pd_X9_passEnds, Nat.le_of_ble_eq_true rfl⟩, iw_X9_passEnds, sl_X9_passEnds⟩
theorem cd_X9_goTo : Cond.code yX9_goTo cX9_goTo 2 none ∈ lw_tbl := (tb_7 (List.mem_of_getElem? (i := 3) (by decide +kernel)))
abbrev gm_X9_goTo : am_M := (yX9_goTo, cX9_goTo, 2, none, 1)
theorem pd_X9_goTo : (parseMethodDescriptor yX9_goTo.desc).map (fun d => d.parameters.length) = some 1 := by decide +kernel
theorem iw_X9_goTo : Cond.instanceMethod yX9_goTo ∈ lw_tbl := (tb_7 (List.mem_of_getElem? (i := 2) (by decide +kernel)))
theorem sl_X9_goTo : Cond.selects yX9_goTo.cls yX9_goTo yX9_goTo ∈ lw_tbl := tb_sel (q := (yX9_goTo, 12)) 55 (by decide +kernel)
theorem mV_X9_goTo : am_mV gm_X9_goTo 1 := ⟨⟨cd_X9_goTo, ini_RX9, nh_RX9, pd_X9_goTo, Nat.le_of_ble_eq_true rfl⟩, iw_X9_goTo, sl_X9_goTo⟩
theorem cd_X9_canReach : Cond.code yX9_canReach cX9_canReach 5 (some .boolean) ∈ lw_tbl := (tb_7 (List.mem_of_getElem? (i := 13) (by decide +kernel)))
abbrev gm_X9_canReach : am_M := (yX9_canReach, cX9_canReach, 5, (some .boolean), 3)
theorem pd_X9_canReach : (parseMethodDescriptor yX9_canReach.desc).map (fun d => d.parameters.length) = some 2 := by decide +kernel
theorem iw_X9_canReach : Cond.instanceMethod yX9_canReach ∈ lw_tbl := (tb_7 (List.mem_of_getElem? (i := 12) (by decide +kernel)))
theorem sl_X9_canReach : Cond.selects yX9_canReach.cls yX9_canReach yX9_canReach ∈ lw_tbl := tb_sel (q := (yX9_canReach, 12)) 57 (by decide +kernel)
theorem mV_X9_canReach : am_mV gm_X9_canReach 2 := ⟨⟨cd_X9_canReach, ini_RX9, nh_RX9, pd_X9_canReach, Nat.le_of_ble_eq_true rfl⟩, iw_X9_canReach, sl_X9_canReach⟩
theorem cd_X9_nextLevel : Cond.code yX9_nextLevel cX9_nextLevel 5 (some .int) ∈ lw_tbl := (tb_7 (List.mem_of_getElem? (i := 19) (by decide +kernel)))
abbrev gm_X9_nextLevel : am_M := (yX9_nextLevel, cX9_nextLevel, 5, (some .int), 4)
theorem pd_X9_nextLevel : (parseMethodDescriptor yX9_nextLevel.desc).map (fun d => d.parameters.length) = some 2 := by decide +kernel
theorem iw_X9_nextLevel : Cond.instanceMethod yX9_nextLevel ∈ lw_tbl := (tb_7 (List.mem_of_getElem? (i := 18) (by decide +kernel)))
theorem sl_X9_nextLevel : Cond.selects yX9_nextLevel.cls yX9_nextLevel yX9_nextLevel ∈ lw_tbl := tb_sel (q := (yX9_nextLevel, 12)) 58 (by decide +kernel)
theorem mV_X9_nextLevel : am_mV gm_X9_nextLevel 2 := ⟨⟨cd_X9_nextLevel, ini_RX9, nh_RX9, pd_X9_nextLevel, Nat.le_of_ble_eq_true rfl⟩, iw_X9_nextLevel, sl_X9_nextLevel⟩
theorem cd_X9_goUntil : Cond.code yX9_goUntil cX9_goUntil 4 none ∈ lw_tbl := (tb_7 (List.mem_of_getElem? (i := 8) (by decide +kernel)))
abbrev gm_X9_goUntil : am_M := (yX9_goUntil, cX9_goUntil, 4, none, 5)
theorem pd_X9_goUntil : (parseMethodDescriptor yX9_goUntil.desc).map (fun d => d.parameters.length) = some 2 := by decide +kernel
theorem iw_X9_goUntil : Cond.instanceMethod yX9_goUntil ∈ lw_tbl := (tb_7 (List.mem_of_getElem? (i := 7) (by decide +kernel)))
theorem sl_X9_goUntil : Cond.selects yX9_goUntil.cls yX9_goUntil yX9_goUntil ∈ lw_tbl := tb_sel (q := (yX9_goUntil, 12)) 56 (by decide +kernel)
theorem mV_X9_goUntil : am_mV gm_X9_goUntil 2 := ⟨⟨cd_X9_goUntil, ini_RX9, nh_RX9, pd_X9_goUntil, Nat.le_of_ble_eq_true rfl⟩, iw_X9_goUntil, sl_X9_goUntil⟩
theorem cd_X9_markHour : Cond.code yX9_markHour cX9_markHour 1 none ∈ lw_tbl := (tb_7 (List.mem_of_getElem? (i := 25) (by decide +kernel)))
abbrev gm_X9_markHour : am_M := (yX9_markHour, cX9_markHour, 1, none, 1)
theorem pd_X9_markHour : (parseMethodDescriptor yX9_markHour.desc).map (fun d => d.parameters.length) = some 0 := by decide +kernel
theorem iw_X9_markHour : Cond.instanceMethod yX9_markHour ∈ lw_tbl := (tb_7 (List.mem_of_getElem? (i := 24) (by decide +kernel)))
theorem sl_X9_markHour : Cond.selects yX9_markHour.cls yX9_markHour yX9_markHour ∈ lw_tbl := tb_sel (q := (yX9_markHour, 12)) 59 (by decide +kernel)
theorem mV_X9_markHour : am_mV gm_X9_markHour 0 := ⟨⟨cd_X9_markHour, ini_RX9, nh_RX9, pd_X9_markHour, Nat.le_of_ble_eq_true rfl⟩, iw_X9_markHour, sl_X9_markHour⟩
theorem cd_X9_isLevel : Cond.code yX9_isLevel cX9_isLevel 4 (some .boolean) ∈ lw_tbl := (tb_7 (List.mem_of_getElem? (i := 29) (by decide +kernel)))
abbrev gm_X9_isLevel : am_M := (yX9_isLevel, cX9_isLevel, 4, (some .boolean), 4)
theorem pd_X9_isLevel : (parseMethodDescriptor yX9_isLevel.desc).map (fun d => d.parameters.length) = some 2 := by decide +kernel
theorem iw_X9_isLevel : Cond.instanceMethod yX9_isLevel ∈ lw_tbl := (tb_7 (List.mem_of_getElem? (i := 28) (by decide +kernel)))
theorem sl_X9_isLevel : Cond.selects yX9_isLevel.cls yX9_isLevel yX9_isLevel ∈ lw_tbl := tb_sel (q := (yX9_isLevel, 12)) 60 (by decide +kernel)
theorem mV_X9_isLevel : am_mV gm_X9_isLevel 2 := ⟨⟨cd_X9_isLevel, ini_RX9, nh_RX9, pd_X9_isLevel, Nat.le_of_ble_eq_true rfl⟩, iw_X9_isLevel, sl_X9_isLevel⟩
theorem cd_X9_doStep : Cond.code yX9_doStep cX9_doStep 3 none ∈ lw_tbl := (tb_6 (List.mem_of_getElem? (i := 239) (by decide +kernel)))
abbrev gm_X9_doStep : am_M := (yX9_doStep, cX9_doStep, 3, none, 6)
theorem pd_X9_doStep : (parseMethodDescriptor yX9_doStep.desc).map (fun d => d.parameters.length) = some 0 := by decide +kernel
theorem iw_X9_doStep : Cond.instanceMethod yX9_doStep ∈ lw_tbl := (tb_6 (List.mem_of_getElem? (i := 238) (by decide +kernel)))
theorem sl_X9_doStep : Cond.selects yX9_doStep.cls yX9_doStep yX9_doStep ∈ lw_tbl := tb_sel (q := (yX9_doStep, 12)) 54 (by decide +kernel)
theorem mV_X9_doStep : am_mV gm_X9_doStep 0 := ⟨⟨cd_X9_doStep, ini_RX9, nh_RX9, pd_X9_doStep, Nat.le_of_ble_eq_true rfl⟩, iw_X9_doStep, sl_X9_doStep⟩
theorem cd_X9_goThrough : Cond.code yX9_goThrough cX9_goThrough 5 none ∈ lw_tbl := (tb_6 (List.mem_of_getElem? (i := 231) (by decide +kernel)))
abbrev gm_X9_goThrough : am_M := (yX9_goThrough, cX9_goThrough, 5, none, 7)
theorem pd_X9_goThrough : (parseMethodDescriptor yX9_goThrough.desc).map (fun d => d.parameters.length) = some 3 := by decide +kernel
theorem iw_X9_goThrough : Cond.instanceMethod yX9_goThrough ∈ lw_tbl := (tb_6 (List.mem_of_getElem? (i := 229) (by decide +kernel)))
theorem sl_X9_goThrough : Cond.selects yX9_goThrough.cls yX9_goThrough yX9_goThrough ∈ lw_tbl := (tb_6 (List.mem_of_getElem? (i := 230) (by decide +kernel)))
theorem mV_X9_goThrough : am_mV gm_X9_goThrough 3 := ⟨⟨cd_X9_goThrough, ini_RX9, nh_RX9, pd_X9_goThrough, Nat.le_of_ble_eq_true rfl⟩, iw_X9_goThrough, sl_X9_goThrough⟩
theorem cd_X10_wearOf : Cond.code yX10_wearOf cX10_wearOf 7 (some .int) ∈ lw_tbl := (tb_6 (List.mem_of_getElem? (i := 107) (by decide +kernel)))
abbrev gm_X10_wearOf : am_M := (yX10_wearOf, cX10_wearOf, 7, (some .int), 1)
theorem pd_X10_wearOf : (parseMethodDescriptor yX10_wearOf.desc).map (fun d => d.parameters.length) = some 2 := by decide +kernel
theorem iw_X10_wearOf : Cond.instanceMethod yX10_wearOf ∈ lw_tbl := (tb_6 (List.mem_of_getElem? (i := 105) (by decide +kernel)))
theorem sl_X10_wearOf : Cond.selects yX10_wearOf.cls yX10_wearOf yX10_wearOf ∈ lw_tbl := (tb_6 (List.mem_of_getElem? (i := 106) (by decide +kernel)))
theorem mV_X10_wearOf : am_mV gm_X10_wearOf 2 := ⟨⟨cd_X10_wearOf, ini_RX10, nh_RX10, pd_X10_wearOf, Nat.le_of_ble_eq_true rfl⟩, iw_X10_wearOf, sl_X10_wearOf⟩
theorem cd_X11_status : Cond.code yX11_status cX11_status 1 (some .int) ∈ lw_tbl := (tb_3 (List.mem_of_getElem? (i := 73) (by decide +kernel)))
abbrev gm_X11_status : am_M := (yX11_status, cX11_status, 1, (some .int), 1)
theorem pd_X11_status : (parseMethodDescriptor yX11_status.desc).map (fun d => d.parameters.length) = some 0 := by decide +kernel
theorem iw_X11_status : Cond.instanceMethod yX11_status ∈ lw_tbl := (tb_3 (List.mem_of_getElem? (i := 71) (by decide +kernel)))
theorem sl_X11_status : Cond.selects yX11_status.cls yX11_status yX11_status ∈ lw_tbl := (tb_3 (List.mem_of_getElem? (i := 72) (by decide +kernel)))
theorem mV_X11_status : am_mV gm_X11_status 0 := ⟨⟨cd_X11_status, ini_RX11, nh_RX11, pd_X11_status, Nat.le_of_ble_eq_true rfl⟩, iw_X11_status, sl_X11_status⟩
theorem cd_X11_top : Cond.code yX11_top cX11_top 1 (some .long) ∈ lw_tbl := (tb_3 (List.mem_of_getElem? (i := 77) (by decide +kernel)))
abbrev gm_X11_top : am_M := (yX11_top, cX11_top, 1, (some .long), 1)
theorem pd_X11_top : (parseMethodDescriptor yX11_top.desc).map (fun d => d.parameters.length) = some 0 := by decide +kernel
theorem iw_X11_top : Cond.instanceMethod yX11_top ∈ lw_tbl := (tb_3 (List.mem_of_getElem? (i := 75) (by decide +kernel)))
theorem sl_X11_top : Cond.selects yX11_top.cls yX11_top yX11_top ∈ lw_tbl := (tb_3 (List.mem_of_getElem? (i := 76) (by decide +kernel)))
theorem mV_X11_top : am_mV gm_X11_top 0 := ⟨⟨cd_X11_top, ini_RX11, nh_RX11, pd_X11_top, Nat.le_of_ble_eq_true rfl⟩, iw_X11_top, sl_X11_top⟩
theorem cd_X11_bottom : Cond.code yX11_bottom cX11_bottom 1 (some .long) ∈ lw_tbl := (tb_3 (List.mem_of_getElem? (i := 81) (by decide +kernel)))
abbrev gm_X11_bottom : am_M := (yX11_bottom, cX11_bottom, 1, (some .long), 1)
theorem pd_X11_bottom : (parseMethodDescriptor yX11_bottom.desc).map (fun d => d.parameters.length) = some 0 := by decide +kernel
theorem iw_X11_bottom : Cond.instanceMethod yX11_bottom ∈ lw_tbl := (tb_3 (List.mem_of_getElem? (i := 79) (by decide +kernel)))
theorem sl_X11_bottom : Cond.selects yX11_bottom.cls yX11_bottom yX11_bottom ∈ lw_tbl := (tb_3 (List.mem_of_getElem? (i := 80) (by decide +kernel)))
theorem mV_X11_bottom : am_mV gm_X11_bottom 0 := ⟨⟨cd_X11_bottom, ini_RX11, nh_RX11, pd_X11_bottom, Nat.le_of_ble_eq_true rfl⟩, iw_X11_bottom, sl_X11_bottom⟩
theorem cd_X11_trayOf : Cond.code yX11_trayOf cX11_trayOf 2 (some (.object "TideDiscs$Tray")) ∈ lw_tbl := (tb_3 (List.mem_of_getElem? (i := 89) (by decide +kernel)))
abbrev gm_X11_trayOf : am_M := (yX11_trayOf, cX11_trayOf, 2, (some (.object "TideDiscs$Tray")), 1)
theorem pd_X11_trayOf : (parseMethodDescriptor yX11_trayOf.desc).map (fun d => d.parameters.length) = some 1 := by decide +kernel
theorem iw_X11_trayOf : Cond.instanceMethod yX11_trayOf ∈ lw_tbl := (tb_3 (List.mem_of_getElem? (i := 88) (by decide +kernel)))
theorem sl_X11_trayOf : Cond.selects yX11_trayOf.cls yX11_trayOf yX11_trayOf ∈ lw_tbl := tb_sel (q := (yX11_trayOf, 16)) 0 (by decide +kernel)
theorem mV_X11_trayOf : am_mV gm_X11_trayOf 1 := ⟨⟨cd_X11_trayOf, ini_RX11, nh_RX11, pd_X11_trayOf, Nat.le_of_ble_eq_true rfl⟩, iw_X11_trayOf, sl_X11_trayOf⟩
theorem cd_X11_no : Cond.code yX11_no cX11_no 2 (some .boolean) ∈ lw_tbl := (tb_3 (List.mem_of_getElem? (i := 93) (by decide +kernel)))
abbrev gm_X11_no : am_M := (yX11_no, cX11_no, 2, (some .boolean), 1)
theorem pd_X11_no : (parseMethodDescriptor yX11_no.desc).map (fun d => d.parameters.length) = some 1 := by decide +kernel
theorem iw_X11_no : Cond.instanceMethod yX11_no ∈ lw_tbl := (tb_3 (List.mem_of_getElem? (i := 92) (by decide +kernel)))
theorem sl_X11_no : Cond.selects yX11_no.cls yX11_no yX11_no ∈ lw_tbl := tb_sel (q := (yX11_no, 16)) 1 (by decide +kernel)
theorem mV_X11_no : am_mV gm_X11_no 1 := ⟨⟨cd_X11_no, ini_RX11, nh_RX11, pd_X11_no, Nat.le_of_ble_eq_true rfl⟩, iw_X11_no, sl_X11_no⟩
theorem cd_X11_yes : Cond.code yX11_yes cX11_yes 1 (some .boolean) ∈ lw_tbl := (tb_3 (List.mem_of_getElem? (i := 107) (by decide +kernel)))
abbrev gm_X11_yes : am_M := (yX11_yes, cX11_yes, 1, (some .boolean), 1)
theorem pd_X11_yes : (parseMethodDescriptor yX11_yes.desc).map (fun d => d.parameters.length) = some 0 := by decide +kernel
theorem iw_X11_yes : Cond.instanceMethod yX11_yes ∈ lw_tbl := (tb_3 (List.mem_of_getElem? (i := 106) (by decide +kernel)))
theorem sl_X11_yes : Cond.selects yX11_yes.cls yX11_yes yX11_yes ∈ lw_tbl := tb_sel (q := (yX11_yes, 16)) 2 (by decide +kernel)
theorem mV_X11_yes : am_mV gm_X11_yes 0 := ⟨⟨cd_X11_yes, ini_RX11, nh_RX11, pd_X11_yes, Nat.le_of_ble_eq_true rfl⟩, iw_X11_yes, sl_X11_yes⟩
theorem cd_X11_tray : Cond.code yX11_tray cX11_tray 5 (some .boolean) ∈ lw_tbl := (tb_3 (List.mem_of_getElem? (i := 85) (by decide +kernel)))
abbrev gm_X11_tray : am_M := (yX11_tray, cX11_tray, 5, (some .boolean), 3)
theorem pd_X11_tray : (parseMethodDescriptor yX11_tray.desc).map (fun d => d.parameters.length) = some 3 := by decide +kernel
theorem iw_X11_tray : Cond.instanceMethod yX11_tray ∈ lw_tbl := (tb_3 (List.mem_of_getElem? (i := 83) (by decide +kernel)))
theorem sl_X11_tray : Cond.selects yX11_tray.cls yX11_tray yX11_tray ∈ lw_tbl := (tb_3 (List.mem_of_getElem? (i := 84) (by decide +kernel)))
theorem mV_X11_tray : am_mV gm_X11_tray 3 := ⟨⟨cd_X11_tray, ini_RX11, nh_RX11, pd_X11_tray, Nat.le_of_ble_eq_true rfl⟩, iw_X11_tray, sl_X11_tray⟩
theorem cd_X11_whyNoPlace : Cond.code yX11_whyNoPlace cX11_whyNoPlace 4 (some .int) ∈ lw_tbl := (tb_3 (List.mem_of_getElem? (i := 115) (by decide +kernel)))
abbrev gm_X11_whyNoPlace : am_M := (yX11_whyNoPlace, cX11_whyNoPlace, 4, (some .int), 2)
theorem pd_X11_whyNoPlace : (parseMethodDescriptor yX11_whyNoPlace.desc).map (fun d => d.parameters.length) = some 2 := by decide +kernel
theorem iw_X11_whyNoPlace : Cond.instanceMethod yX11_whyNoPlace ∈ lw_tbl := (tb_3 (List.mem_of_getElem? (i := 114) (by decide +kernel)))
theorem sl_X11_whyNoPlace : Cond.selects yX11_whyNoPlace.cls yX11_whyNoPlace yX11_whyNoPlace ∈ lw_tbl := tb_sel (q := (yX11_whyNoPlace, 16)) 3 (by decide +kernel)
theorem mV_X11_whyNoPlace : am_mV gm_X11_whyNoPlace 2 := ⟨⟨cd_X11_whyNoPlace, ini_RX11, nh_RX11, pd_X11_whyNoPlace, Nat.le_of_ble_eq_true rfl⟩, iw_X11_whyNoPlace, sl_X11_whyNoPlace⟩
theorem cd_X11_write : Cond.code yX11_write cX11_write 6 (some .boolean) ∈ lw_tbl := (tb_3 (List.mem_of_getElem? (i := 111) (by decide +kernel)))
abbrev gm_X11_write : am_M := (yX11_write, cX11_write, 6, (some .boolean), 3)
theorem pd_X11_write : (parseMethodDescriptor yX11_write.desc).map (fun d => d.parameters.length) = some 3 := by decide +kernel
theorem iw_X11_write : Cond.instanceMethod yX11_write ∈ lw_tbl := (tb_3 (List.mem_of_getElem? (i := 109) (by decide +kernel)))
theorem sl_X11_write : Cond.selects yX11_write.cls yX11_write yX11_write ∈ lw_tbl := (tb_3 (List.mem_of_getElem? (i := 110) (by decide +kernel)))
theorem mV_X11_write : am_mV gm_X11_write 3 := ⟨⟨cd_X11_write, ini_RX11, nh_RX11, pd_X11_write, Nat.le_of_ble_eq_true rfl⟩, iw_X11_write, sl_X11_write⟩
theorem cd_X11_none : Cond.code yX11_none cX11_none 2 (some .int) ∈ lw_tbl := (tb_3 (List.mem_of_getElem? (i := 131) (by decide +kernel)))
abbrev gm_X11_none : am_M := (yX11_none, cX11_none, 2, (some .int), 1)
theorem pd_X11_none : (parseMethodDescriptor yX11_none.desc).map (fun d => d.parameters.length) = some 1 := by decide +kernel
theorem iw_X11_none : Cond.instanceMethod yX11_none ∈ lw_tbl := (tb_3 (List.mem_of_getElem? (i := 130) (by decide +kernel)))
theorem sl_X11_none : Cond.selects yX11_none.cls yX11_none yX11_none ∈ lw_tbl := tb_sel (q := (yX11_none, 16)) 4 (by decide +kernel)
theorem mV_X11_none : am_mV gm_X11_none 1 := ⟨⟨cd_X11_none, ini_RX11, nh_RX11, pd_X11_none, Nat.le_of_ble_eq_true rfl⟩, iw_X11_none, sl_X11_none⟩
theorem cd_X11_read : Cond.code yX11_read cX11_read 4 (some .long) ∈ lw_tbl := (tb_3 (List.mem_of_getElem? (i := 127) (by decide +kernel)))
abbrev gm_X11_read : am_M := (yX11_read, cX11_read, 4, (some .long), 3)
theorem pd_X11_read : (parseMethodDescriptor yX11_read.desc).map (fun d => d.parameters.length) = some 2 := by decide +kernel
theorem iw_X11_read : Cond.instanceMethod yX11_read ∈ lw_tbl := (tb_3 (List.mem_of_getElem? (i := 125) (by decide +kernel)))
theorem sl_X11_read : Cond.selects yX11_read.cls yX11_read yX11_read ∈ lw_tbl := (tb_3 (List.mem_of_getElem? (i := 126) (by decide +kernel)))
theorem mV_X11_read : am_mV gm_X11_read 2 := ⟨⟨cd_X11_read, ini_RX11, nh_RX11, pd_X11_read, Nat.le_of_ble_eq_true rfl⟩, iw_X11_read, sl_X11_read⟩
theorem cd_X11_pour : Cond.code yX11_pour cX11_pour 8 (some .boolean) ∈ lw_tbl := (tb_3 (List.mem_of_getElem? (i := 140) (by decide +kernel)))
abbrev gm_X11_pour : am_M := (yX11_pour, cX11_pour, 8, (some .boolean), 2)
theorem pd_X11_pour : (parseMethodDescriptor yX11_pour.desc).map (fun d => d.parameters.length) = some 5 := by decide +kernel
theorem iw_X11_pour : Cond.instanceMethod yX11_pour ∈ lw_tbl := (tb_3 (List.mem_of_getElem? (i := 138) (by decide +kernel)))
theorem sl_X11_pour : Cond.selects yX11_pour.cls yX11_pour yX11_pour ∈ lw_tbl := (tb_3 (List.mem_of_getElem? (i := 139) (by decide +kernel)))
theorem mV_X11_pour : am_mV gm_X11_pour 5 := ⟨⟨cd_X11_pour, ini_RX11, nh_RX11, pd_X11_pour, Nat.le_of_ble_eq_true rfl⟩, iw_X11_pour, sl_X11_pour⟩
theorem cd_X11_feed : Cond.code yX11_feed cX11_feed 6 (some .int) ∈ lw_tbl := (tb_3 (List.mem_of_getElem? (i := 151) (by decide +kernel)))
abbrev gm_X11_feed : am_M := (yX11_feed, cX11_feed, 6, (some .int), 2)
theorem pd_X11_feed : (parseMethodDescriptor yX11_feed.desc).map (fun d => d.parameters.length) = some 5 := by decide +kernel
theorem iw_X11_feed : Cond.instanceMethod yX11_feed ∈ lw_tbl := (tb_3 (List.mem_of_getElem? (i := 149) (by decide +kernel)))
theorem sl_X11_feed : Cond.selects yX11_feed.cls yX11_feed yX11_feed ∈ lw_tbl := (tb_3 (List.mem_of_getElem? (i := 150) (by decide +kernel)))
theorem mV_X11_feed : am_mV gm_X11_feed 5 := ⟨⟨cd_X11_feed, ini_RX11, nh_RX11, pd_X11_feed, Nat.le_of_ble_eq_true rfl⟩, iw_X11_feed, sl_X11_feed⟩
theorem cd_X11_machineOf : Cond.code yX11_machineOf cX11_machineOf 2 (some (.object "TideDiscs$Machine")) ∈ lw_tbl := (tb_3 (List.mem_of_getElem? (i := 163) (by decide +kernel)))
abbrev gm_X11_machineOf : am_M := (yX11_machineOf, cX11_machineOf, 2, (some (.object "TideDiscs$Machine")), 1)
theorem pd_X11_machineOf : (parseMethodDescriptor yX11_machineOf.desc).map (fun d => d.parameters.length) = some 1 := by decide +kernel
theorem iw_X11_machineOf : Cond.instanceMethod yX11_machineOf ∈ lw_tbl := (tb_3 (List.mem_of_getElem? (i := 162) (by decide +kernel)))
theorem sl_X11_machineOf : Cond.selects yX11_machineOf.cls yX11_machineOf yX11_machineOf ∈ lw_tbl := tb_sel (q := (yX11_machineOf, 16)) 5 (by decide +kernel)
theorem mV_X11_machineOf : am_mV gm_X11_machineOf 1 := ⟨⟨cd_X11_machineOf, ini_RX11, nh_RX11, pd_X11_machineOf, Nat.le_of_ble_eq_true rfl⟩, iw_X11_machineOf, sl_X11_machineOf⟩
theorem cd_X11_answer : Cond.code yX11_answer cX11_answer 2 (some .int) ∈ lw_tbl := (tb_4 (List.mem_of_getElem? (i := 125) (by decide +kernel)))
abbrev gm_X11_answer : am_M := (yX11_answer, cX11_answer, 2, (some .int), 1)
theorem pd_X11_answer : (parseMethodDescriptor yX11_answer.desc).map (fun d => d.parameters.length) = some 1 := by decide +kernel
theorem iw_X11_answer : Cond.instanceMethod yX11_answer ∈ lw_tbl := (tb_4 (List.mem_of_getElem? (i := 124) (by decide +kernel)))
theorem sl_X11_answer : Cond.selects yX11_answer.cls yX11_answer yX11_answer ∈ lw_tbl := tb_sel (q := (yX11_answer, 16)) 15 (by decide +kernel)
theorem mV_X11_answer : am_mV gm_X11_answer 1 := ⟨⟨cd_X11_answer, ini_RX11, nh_RX11, pd_X11_answer, Nat.le_of_ble_eq_true rfl⟩, iw_X11_answer, sl_X11_answer⟩
theorem cd_X11_machine : Cond.code yX11_machine cX11_machine 5 (some .int) ∈ lw_tbl := (tb_3 (List.mem_of_getElem? (i := 159) (by decide +kernel)))
abbrev gm_X11_machine : am_M := (yX11_machine, cX11_machine, 5, (some .int), 11)
theorem pd_X11_machine : (parseMethodDescriptor yX11_machine.desc).map (fun d => d.parameters.length) = some 2 := by decide +kernel
theorem iw_X11_machine : Cond.instanceMethod yX11_machine ∈ lw_tbl := (tb_3 (List.mem_of_getElem? (i := 157) (by decide +kernel)))
theorem sl_X11_machine : Cond.selects yX11_machine.cls yX11_machine yX11_machine ∈ lw_tbl := (tb_3 (List.mem_of_getElem? (i := 158) (by decide +kernel)))
theorem mV_X11_machine : am_mV gm_X11_machine 2 := ⟨⟨cd_X11_machine, ini_RX11, nh_RX11, pd_X11_machine, Nat.le_of_ble_eq_true rfl⟩, iw_X11_machine, sl_X11_machine⟩
theorem cd_X11_fault : Cond.code yX11_fault cX11_fault 2 (some .int) ∈ lw_tbl := (tb_4 (List.mem_of_getElem? (i := 129) (by decide +kernel)))
abbrev gm_X11_fault : am_M := (yX11_fault, cX11_fault, 2, (some .int), 1)
theorem pd_X11_fault : (parseMethodDescriptor yX11_fault.desc).map (fun d => d.parameters.length) = some 1 := by decide +kernel
theorem iw_X11_fault : Cond.instanceMethod yX11_fault ∈ lw_tbl := (tb_4 (List.mem_of_getElem? (i := 127) (by decide +kernel)))
theorem sl_X11_fault : Cond.selects yX11_fault.cls yX11_fault yX11_fault ∈ lw_tbl := (tb_4 (List.mem_of_getElem? (i := 128) (by decide +kernel)))
theorem mV_X11_fault : am_mV gm_X11_fault 1 := ⟨⟨cd_X11_fault, ini_RX11, nh_RX11, pd_X11_fault, Nat.le_of_ble_eq_true rfl⟩, iw_X11_fault, sl_X11_fault⟩
theorem cd_X11_told : Cond.code yX11_told cX11_told 4 (some .int) ∈ lw_tbl := (tb_4 (List.mem_of_getElem? (i := 133) (by decide +kernel)))
abbrev gm_X11_told : am_M := (yX11_told, cX11_told, 4, (some .int), 2)
theorem pd_X11_told : (parseMethodDescriptor yX11_told.desc).map (fun d => d.parameters.length) = some 2 := by decide +kernel
theorem iw_X11_told : Cond.instanceMethod yX11_told ∈ lw_tbl := (tb_4 (List.mem_of_getElem? (i := 131) (by decide +kernel)))
theorem sl_X11_told : Cond.selects yX11_told.cls yX11_told yX11_told ∈ lw_tbl := (tb_4 (List.mem_of_getElem? (i := 132) (by decide +kernel)))
theorem mV_X11_told : am_mV gm_X11_told 2 := ⟨⟨cd_X11_told, ini_RX11, nh_RX11, pd_X11_told, Nat.le_of_ble_eq_true rfl⟩, iw_X11_told, sl_X11_told⟩
theorem cd_X11_waveOf : Cond.code yX11_waveOf cX11_waveOf 4 (some (.object "TideDiscs$Wave")) ∈ lw_tbl := (tb_4 (List.mem_of_getElem? (i := 142) (by decide +kernel)))
abbrev gm_X11_waveOf : am_M := (yX11_waveOf, cX11_waveOf, 4, (some (.object "TideDiscs$Wave")), 2)
theorem pd_X11_waveOf : (parseMethodDescriptor yX11_waveOf.desc).map (fun d => d.parameters.length) = some 2 := by decide +kernel
theorem iw_X11_waveOf : Cond.instanceMethod yX11_waveOf ∈ lw_tbl := (tb_4 (List.mem_of_getElem? (i := 141) (by decide +kernel)))
theorem sl_X11_waveOf : Cond.selects yX11_waveOf.cls yX11_waveOf yX11_waveOf ∈ lw_tbl := tb_sel (q := (yX11_waveOf, 16)) 16 (by decide +kernel)
theorem mV_X11_waveOf : am_mV gm_X11_waveOf 2 := ⟨⟨cd_X11_waveOf, ini_RX11, nh_RX11, pd_X11_waveOf, Nat.le_of_ble_eq_true rfl⟩, iw_X11_waveOf, sl_X11_waveOf⟩
theorem cd_X11_wave : Cond.code yX11_wave cX11_wave 5 (some .int) ∈ lw_tbl := (tb_4 (List.mem_of_getElem? (i := 138) (by decide +kernel)))
abbrev gm_X11_wave : am_M := (yX11_wave, cX11_wave, 5, (some .int), 3)
theorem pd_X11_wave : (parseMethodDescriptor yX11_wave.desc).map (fun d => d.parameters.length) = some 3 := by decide +kernel
theorem iw_X11_wave : Cond.instanceMethod yX11_wave ∈ lw_tbl := (tb_4 (List.mem_of_getElem? (i := 136) (by decide +kernel)))
theorem sl_X11_wave : Cond.selects yX11_wave.cls yX11_wave yX11_wave ∈ lw_tbl := (tb_4 (List.mem_of_getElem? (i := 137) (by decide +kernel)))
theorem mV_X11_wave : am_mV gm_X11_wave 3 := ⟨⟨cd_X11_wave, ini_RX11, nh_RX11, pd_X11_wave, Nat.le_of_ble_eq_true rfl⟩, iw_X11_wave, sl_X11_wave⟩
theorem cd_X11_isWithin : Cond.code yX11_isWithin cX11_isWithin 3 (some .boolean) ∈ lw_tbl := (tb_4 (List.mem_of_getElem? (i := 161) (by decide +kernel)))
abbrev gm_X11_isWithin : am_M := (yX11_isWithin, cX11_isWithin, 3, (some .boolean), 1)
theorem pd_X11_isWithin : (parseMethodDescriptor yX11_isWithin.desc).map (fun d => d.parameters.length) = some 3 := by decide +kernel
theorem sw_X11_isWithin : Cond.static yX11_isWithin ∈ lw_tbl := (tb_4 (List.mem_of_getElem? (i := 160) (by decide +kernel)))
theorem mS_X11_isWithin : am_mS gm_X11_isWithin 3 := ⟨⟨cd_X11_isWithin, ini_RX11, nh_RX11, pd_X11_isWithin, Nat.le_of_ble_eq_true rfl⟩, sw_X11_isWithin⟩
theorem cd_X11_set : Cond.code yX11_set cX11_set 6 (some .boolean) ∈ lw_tbl := (tb_4 (List.mem_of_getElem? (i := 158) (by decide +kernel)))
abbrev gm_X11_set : am_M := (yX11_set, cX11_set, 6, (some .boolean), 3)
theorem pd_X11_set : (parseMethodDescriptor yX11_set.desc).map (fun d => d.parameters.length) = some 4 := by decide +kernel
theorem iw_X11_set : Cond.instanceMethod yX11_set ∈ lw_tbl := (tb_4 (List.mem_of_getElem? (i := 156) (by decide +kernel)))
theorem sl_X11_set : Cond.selects yX11_set.cls yX11_set yX11_set ∈ lw_tbl := (tb_4 (List.mem_of_getElem? (i := 157) (by decide +kernel)))
theorem mV_X11_set : am_mV gm_X11_set 4 := ⟨⟨cd_X11_set, ini_RX11, nh_RX11, pd_X11_set, Nat.le_of_ble_eq_true rfl⟩, iw_X11_set, sl_X11_set⟩
theorem cd_X11_isHour : Cond.code yX11_isHour cX11_isHour 1 (some .boolean) ∈ lw_tbl := (tb_4 (List.mem_of_getElem? (i := 168) (by decide +kernel)))
abbrev gm_X11_isHour : am_M := (yX11_isHour, cX11_isHour, 1, (some .boolean), 1)
theorem pd_X11_isHour : (parseMethodDescriptor yX11_isHour.desc).map (fun d => d.parameters.length) = some 1 := by decide +kernel
theorem sw_X11_isHour : Cond.static yX11_isHour ∈ lw_tbl := (tb_4 (List.mem_of_getElem? (i := 167) (by decide +kernel)))
theorem mS_X11_isHour : am_mS gm_X11_isHour 1 := ⟨⟨cd_X11_isHour, ini_RX11, nh_RX11, pd_X11_isHour, Nat.le_of_ble_eq_true rfl⟩, sw_X11_isHour⟩
theorem cd_X11_place : Cond.code yX11_place cX11_place 6 (some .int) ∈ lw_tbl := (tb_4 (List.mem_of_getElem? (i := 165) (by decide +kernel)))
abbrev gm_X11_place : am_M := (yX11_place, cX11_place, 6, (some .int), 3)
theorem pd_X11_place : (parseMethodDescriptor yX11_place.desc).map (fun d => d.parameters.length) = some 4 := by decide +kernel
theorem iw_X11_place : Cond.instanceMethod yX11_place ∈ lw_tbl := (tb_4 (List.mem_of_getElem? (i := 163) (by decide +kernel)))
theorem sl_X11_place : Cond.selects yX11_place.cls yX11_place yX11_place ∈ lw_tbl := (tb_4 (List.mem_of_getElem? (i := 164) (by decide +kernel)))
theorem mV_X11_place : am_mV gm_X11_place 4 := ⟨⟨cd_X11_place, ini_RX11, nh_RX11, pd_X11_place, Nat.le_of_ble_eq_true rfl⟩, iw_X11_place, sl_X11_place⟩
theorem cd_X11_height : Cond.code yX11_height cX11_height 5 (some .int) ∈ lw_tbl := (tb_4 (List.mem_of_getElem? (i := 185) (by decide +kernel)))
abbrev gm_X11_height : am_M := (yX11_height, cX11_height, 5, (some .int), 4)
theorem pd_X11_height : (parseMethodDescriptor yX11_height.desc).map (fun d => d.parameters.length) = some 3 := by decide +kernel
theorem iw_X11_height : Cond.instanceMethod yX11_height ∈ lw_tbl := (tb_4 (List.mem_of_getElem? (i := 183) (by decide +kernel)))
theorem sl_X11_height : Cond.selects yX11_height.cls yX11_height yX11_height ∈ lw_tbl := (tb_4 (List.mem_of_getElem? (i := 184) (by decide +kernel)))
theorem mV_X11_height : am_mV gm_X11_height 3 := ⟨⟨cd_X11_height, ini_RX11, nh_RX11, pd_X11_height, Nat.le_of_ble_eq_true rfl⟩, iw_X11_height, sl_X11_height⟩
theorem cd_X11_isSpan : Cond.code yX11_isSpan cX11_isSpan 3 (some .boolean) ∈ lw_tbl := (tb_4 (List.mem_of_getElem? (i := 208) (by decide +kernel)))
abbrev gm_X11_isSpan : am_M := (yX11_isSpan, cX11_isSpan, 3, (some .boolean), 2)
theorem pd_X11_isSpan : (parseMethodDescriptor yX11_isSpan.desc).map (fun d => d.parameters.length) = some 3 := by decide +kernel
theorem sw_X11_isSpan : Cond.static yX11_isSpan ∈ lw_tbl := (tb_4 (List.mem_of_getElem? (i := 207) (by decide +kernel)))
theorem mS_X11_isSpan : am_mS gm_X11_isSpan 3 := ⟨⟨cd_X11_isSpan, ini_RX11, nh_RX11, pd_X11_isSpan, Nat.le_of_ble_eq_true rfl⟩, sw_X11_isSpan⟩
theorem cd_X11_pointer : Cond.code yX11_pointer cX11_pointer 5 (some .int) ∈ lw_tbl := (tb_4 (List.mem_of_getElem? (i := 205) (by decide +kernel)))
abbrev gm_X11_pointer : am_M := (yX11_pointer, cX11_pointer, 5, (some .int), 5)
theorem pd_X11_pointer : (parseMethodDescriptor yX11_pointer.desc).map (fun d => d.parameters.length) = some 3 := by decide +kernel
theorem iw_X11_pointer : Cond.instanceMethod yX11_pointer ∈ lw_tbl := (tb_4 (List.mem_of_getElem? (i := 203) (by decide +kernel)))
theorem sl_X11_pointer : Cond.selects yX11_pointer.cls yX11_pointer yX11_pointer ∈ lw_tbl := (tb_4 (List.mem_of_getElem? (i := 204) (by decide +kernel)))
theorem mV_X11_pointer : am_mV gm_X11_pointer 3 := ⟨⟨cd_X11_pointer, ini_RX11, nh_RX11, pd_X11_pointer, Nat.le_of_ble_eq_true rfl⟩, iw_X11_pointer, sl_X11_pointer⟩
theorem cd_X11_commonDivisor : Cond.code yX11_commonDivisor cX11_commonDivisor 7 (some .long) ∈ lw_tbl := (tb_4 (List.mem_of_getElem? (i := 236) (by decide +kernel)))
abbrev gm_X11_commonDivisor : am_M := (yX11_commonDivisor, cX11_commonDivisor, 7, (some .long), 1)
theorem pd_X11_commonDivisor : (parseMethodDescriptor yX11_commonDivisor.desc).map (fun d => d.parameters.length) = some 2 := by decide +kernel
theorem sw_X11_commonDivisor : Cond.static yX11_commonDivisor ∈ lw_tbl := (tb_4 (List.mem_of_getElem? (i := 235) (by decide +kernel)))
theorem mS_X11_commonDivisor : am_mS gm_X11_commonDivisor 2 := ⟨⟨cd_X11_commonDivisor, ini_RX11, nh_RX11, pd_X11_commonDivisor, Nat.le_of_ble_eq_true rfl⟩, sw_X11_commonDivisor⟩
theorem cd_X11_tellFraction : Cond.code yX11_tellFraction cX11_tellFraction 7 none ∈ lw_tbl := (tb_4 (List.mem_of_getElem? (i := 232) (by decide +kernel)))
abbrev gm_X11_tellFraction : am_M := (yX11_tellFraction, cX11_tellFraction, 7, none, 2)
theorem pd_X11_tellFraction : (parseMethodDescriptor yX11_tellFraction.desc).map (fun d => d.parameters.length) = some 2 := by decide +kernel
theorem iw_X11_tellFraction : Cond.instanceMethod yX11_tellFraction ∈ lw_tbl := (tb_4 (List.mem_of_getElem? (i := 231) (by decide +kernel)))
theorem sl_X11_tellFraction : Cond.selects yX11_tellFraction.cls yX11_tellFraction yX11_tellFraction ∈ lw_tbl := tb_sel (q := (yX11_tellFraction, 16)) 17 (by decide +kernel)
theorem mV_X11_tellFraction : am_mV gm_X11_tellFraction 2 := ⟨⟨cd_X11_tellFraction, ini_RX11, nh_RX11, pd_X11_tellFraction, Nat.le_of_ble_eq_true rfl⟩, iw_X11_tellFraction, sl_X11_tellFraction⟩
theorem cd_X11_off : Cond.code yX11_off cX11_off 5 (some .boolean) ∈ lw_tbl := (tb_4 (List.mem_of_getElem? (i := 217) (by decide +kernel)))
abbrev gm_X11_off : am_M := (yX11_off, cX11_off, 5, (some .boolean), 3)
theorem pd_X11_off : (parseMethodDescriptor yX11_off.desc).map (fun d => d.parameters.length) = some 3 := by decide +kernel
theorem iw_X11_off : Cond.instanceMethod yX11_off ∈ lw_tbl := (tb_4 (List.mem_of_getElem? (i := 215) (by decide +kernel)))
theorem sl_X11_off : Cond.selects yX11_off.cls yX11_off yX11_off ∈ lw_tbl := (tb_4 (List.mem_of_getElem? (i := 216) (by decide +kernel)))
theorem mV_X11_off : am_mV gm_X11_off 3 := ⟨⟨cd_X11_off, ini_RX11, nh_RX11, pd_X11_off, Nat.le_of_ble_eq_true rfl⟩, iw_X11_off, sl_X11_off⟩
theorem cd_X11_train : Cond.code yX11_train cX11_train 6 (some .int) ∈ lw_tbl := (tb_5 (List.mem_of_getElem? (i := 0) (by decide +kernel)))
abbrev gm_X11_train : am_M := (yX11_train, cX11_train, 6, (some .int), 15)
theorem pd_X11_train : (parseMethodDescriptor yX11_train.desc).map (fun d => d.parameters.length) = some 3 := by decide +kernel
theorem iw_X11_train : Cond.instanceMethod yX11_train ∈ lw_tbl := (tb_4 (List.mem_of_getElem? (i := 238) (by decide +kernel)))
theorem sl_X11_train : Cond.selects yX11_train.cls yX11_train yX11_train ∈ lw_tbl := (tb_4 (List.mem_of_getElem? (i := 239) (by decide +kernel)))
theorem mV_X11_train : am_mV gm_X11_train 3 := ⟨⟨cd_X11_train, ini_RX11, nh_RX11, pd_X11_train, Nat.le_of_ble_eq_true rfl⟩, iw_X11_train, sl_X11_train⟩
theorem cd_X11_trained : Cond.code yX11_trained cX11_trained 2 (some .int) ∈ lw_tbl := (tb_5 (List.mem_of_getElem? (i := 26) (by decide +kernel)))
abbrev gm_X11_trained : am_M := (yX11_trained, cX11_trained, 2, (some .int), 2)
theorem pd_X11_trained : (parseMethodDescriptor yX11_trained.desc).map (fun d => d.parameters.length) = some 1 := by decide +kernel
theorem iw_X11_trained : Cond.instanceMethod yX11_trained ∈ lw_tbl := (tb_5 (List.mem_of_getElem? (i := 24) (by decide +kernel)))
theorem sl_X11_trained : Cond.selects yX11_trained.cls yX11_trained yX11_trained ∈ lw_tbl := (tb_5 (List.mem_of_getElem? (i := 25) (by decide +kernel)))
theorem mV_X11_trained : am_mV gm_X11_trained 1 := ⟨⟨cd_X11_trained, ini_RX11, nh_RX11, pd_X11_trained, Nat.le_of_ble_eq_true rfl⟩, iw_X11_trained, sl_X11_trained⟩
theorem cd_J6_bitCount_0f7a4 : Cond.code yJ6_bitCount_0f7a4 cJ6_bitCount_0f7a4 1 (some .int) ∈ lw_tbl := (tb_5 (List.mem_of_getElem? (i := 33) (by decide +kernel)))
abbrev gm_J6_bitCount_0f7a4 : am_M := (yJ6_bitCount_0f7a4, cJ6_bitCount_0f7a4, 1, (some .int), 1)
theorem pd_J6_bitCount_0f7a4 : (parseMethodDescriptor yJ6_bitCount_0f7a4.desc).map (fun d => d.parameters.length) = some 1 := by decide +kernel
theorem sw_J6_bitCount_0f7a4 : Cond.static yJ6_bitCount_0f7a4 ∈ lw_tbl := (tb_5 (List.mem_of_getElem? (i := 32) (by decide +kernel)))
theorem mS_J6_bitCount_0f7a4 : am_mS gm_J6_bitCount_0f7a4 1 := ⟨⟨cd_J6_bitCount_0f7a4, ini_RJ6, nh_RJ6, pd_J6_bitCount_0f7a4, Nat.le_of_ble_eq_true rfl⟩, sw_J6_bitCount_0f7a4⟩
theorem cd_X11_share : Cond.code yX11_share cX11_share 6 (some .int) ∈ lw_tbl := (tb_5 (List.mem_of_getElem? (i := 30) (by decide +kernel)))
abbrev gm_X11_share : am_M := (yX11_share, cX11_share, 6, (some .int), 21)
theorem pd_X11_share : (parseMethodDescriptor yX11_share.desc).map (fun d => d.parameters.length) = some 4 := by decide +kernel
theorem iw_X11_share : Cond.instanceMethod yX11_share ∈ lw_tbl := (tb_5 (List.mem_of_getElem? (i := 28) (by decide +kernel)))
theorem sl_X11_share : Cond.selects yX11_share.cls yX11_share yX11_share ∈ lw_tbl := (tb_5 (List.mem_of_getElem? (i := 29) (by decide +kernel)))
theorem mV_X11_share : am_mV gm_X11_share 4 := ⟨⟨cd_X11_share, ini_RX11, nh_RX11, pd_X11_share, Nat.le_of_ble_eq_true rfl⟩, iw_X11_share, sl_X11_share⟩
theorem cd_X11_shared : Cond.code yX11_shared cX11_shared 2 (some .int) ∈ lw_tbl := (tb_5 (List.mem_of_getElem? (i := 63) (by decide +kernel)))
abbrev gm_X11_shared : am_M := (yX11_shared, cX11_shared, 2, (some .int), 2)
theorem pd_X11_shared : (parseMethodDescriptor yX11_shared.desc).map (fun d => d.parameters.length) = some 1 := by decide +kernel
theorem iw_X11_shared : Cond.instanceMethod yX11_shared ∈ lw_tbl := (tb_5 (List.mem_of_getElem? (i := 61) (by decide +kernel)))
theorem sl_X11_shared : Cond.selects yX11_shared.cls yX11_shared yX11_shared ∈ lw_tbl := (tb_5 (List.mem_of_getElem? (i := 62) (by decide +kernel)))
theorem mV_X11_shared : am_mV gm_X11_shared 1 := ⟨⟨cd_X11_shared, ini_RX11, nh_RX11, pd_X11_shared, Nat.le_of_ble_eq_true rfl⟩, iw_X11_shared, sl_X11_shared⟩
theorem cd_X11_areTrays : Cond.code yX11_areTrays cX11_areTrays 3 (some .boolean) ∈ lw_tbl := (tb_5 (List.mem_of_getElem? (i := 71) (by decide +kernel)))
abbrev gm_X11_areTrays : am_M := (yX11_areTrays, cX11_areTrays, 3, (some .boolean), 2)
theorem pd_X11_areTrays : (parseMethodDescriptor yX11_areTrays.desc).map (fun d => d.parameters.length) = some 2 := by decide +kernel
theorem iw_X11_areTrays : Cond.instanceMethod yX11_areTrays ∈ lw_tbl := (tb_5 (List.mem_of_getElem? (i := 70) (by decide +kernel)))
theorem sl_X11_areTrays : Cond.selects yX11_areTrays.cls yX11_areTrays yX11_areTrays ∈ lw_tbl := tb_sel (q := (yX11_areTrays, 16)) 26 (by decide +kernel)
theorem mV_X11_areTrays : am_mV gm_X11_areTrays 2 := ⟨⟨cd_X11_areTrays, ini_RX11, nh_RX11, pd_X11_areTrays, Nat.le_of_ble_eq_true rfl⟩, iw_X11_areTrays, sl_X11_areTrays⟩
theorem cd_X11_isOneMissing : Cond.code yX11_isOneMissing cX11_isOneMissing 3 (some .boolean) ∈ lw_tbl := (tb_5 (List.mem_of_getElem? (i := 75) (by decide +kernel)))
abbrev gm_X11_isOneMissing : am_M := (yX11_isOneMissing, cX11_isOneMissing, 3, (some .boolean), 2)
theorem pd_X11_isOneMissing : (parseMethodDescriptor yX11_isOneMissing.desc).map (fun d => d.parameters.length) = some 2 := by decide +kernel
theorem iw_X11_isOneMissing : Cond.instanceMethod yX11_isOneMissing ∈ lw_tbl := (tb_5 (List.mem_of_getElem? (i := 74) (by decide +kernel)))
theorem sl_X11_isOneMissing : Cond.selects yX11_isOneMissing.cls yX11_isOneMissing yX11_isOneMissing ∈ lw_tbl := tb_sel (q := (yX11_isOneMissing, 16)) 27 (by decide +kernel)
theorem mV_X11_isOneMissing : am_mV gm_X11_isOneMissing 2 := ⟨⟨cd_X11_isOneMissing, ini_RX11, nh_RX11, pd_X11_isOneMissing, Nat.le_of_ble_eq_true rfl⟩, iw_X11_isOneMissing, sl_X11_isOneMissing⟩
theorem cd_X11_haveBoth : Cond.code yX11_haveBoth cX11_haveBoth 4 (some .boolean) ∈ lw_tbl := (tb_5 (List.mem_of_getElem? (i := 79) (by decide +kernel)))
abbrev gm_X11_haveBoth : am_M := (yX11_haveBoth, cX11_haveBoth, 4, (some .boolean), 2)
theorem pd_X11_haveBoth : (parseMethodDescriptor yX11_haveBoth.desc).map (fun d => d.parameters.length) = some 3 := by decide +kernel
theorem iw_X11_haveBoth : Cond.instanceMethod yX11_haveBoth ∈ lw_tbl := (tb_5 (List.mem_of_getElem? (i := 78) (by decide +kernel)))
theorem sl_X11_haveBoth : Cond.selects yX11_haveBoth.cls yX11_haveBoth yX11_haveBoth ∈ lw_tbl := tb_sel (q := (yX11_haveBoth, 16)) 28 (by decide +kernel)
theorem mV_X11_haveBoth : am_mV gm_X11_haveBoth 3 := ⟨⟨cd_X11_haveBoth, ini_RX11, nh_RX11, pd_X11_haveBoth, Nat.le_of_ble_eq_true rfl⟩, iw_X11_haveBoth, sl_X11_haveBoth⟩
theorem cd_X11_settings : Cond.code yX11_settings cX11_settings 10 (some .boolean) ∈ lw_tbl := (tb_5 (List.mem_of_getElem? (i := 67) (by decide +kernel)))
abbrev gm_X11_settings : am_M := (yX11_settings, cX11_settings, 10, (some .boolean), 12)
theorem pd_X11_settings : (parseMethodDescriptor yX11_settings.desc).map (fun d => d.parameters.length) = some 7 := by decide +kernel
theorem iw_X11_settings : Cond.instanceMethod yX11_settings ∈ lw_tbl := (tb_5 (List.mem_of_getElem? (i := 65) (by decide +kernel)))
theorem sl_X11_settings : Cond.selects yX11_settings.cls yX11_settings yX11_settings ∈ lw_tbl := (tb_5 (List.mem_of_getElem? (i := 66) (by decide +kernel)))
theorem mV_X11_settings : am_mV gm_X11_settings 7 := ⟨⟨cd_X11_settings, ini_RX11, nh_RX11, pd_X11_settings, Nat.le_of_ble_eq_true rfl⟩, iw_X11_settings, sl_X11_settings⟩
theorem cd_X11_haveMoved : Cond.code yX11_haveMoved cX11_haveMoved 7 (some .boolean) ∈ lw_tbl := (tb_5 (List.mem_of_getElem? (i := 120) (by decide +kernel)))
abbrev gm_X11_haveMoved : am_M := (yX11_haveMoved, cX11_haveMoved, 7, (some .boolean), 13)
theorem pd_X11_haveMoved : (parseMethodDescriptor yX11_haveMoved.desc).map (fun d => d.parameters.length) = some 2 := by decide +kernel
theorem iw_X11_haveMoved : Cond.instanceMethod yX11_haveMoved ∈ lw_tbl := (tb_5 (List.mem_of_getElem? (i := 119) (by decide +kernel)))
theorem sl_X11_haveMoved : Cond.selects yX11_haveMoved.cls yX11_haveMoved yX11_haveMoved ∈ lw_tbl := tb_sel (q := (yX11_haveMoved, 16)) 31 (by decide +kernel)
theorem mV_X11_haveMoved : am_mV gm_X11_haveMoved 2 := ⟨⟨cd_X11_haveMoved, ini_RX11, nh_RX11, pd_X11_haveMoved, Nat.le_of_ble_eq_true rfl⟩, iw_X11_haveMoved, sl_X11_haveMoved⟩
theorem cd_X11_changed : Cond.code yX11_changed cX11_changed 14 (some .int) ∈ lw_tbl := (tb_5 (List.mem_of_getElem? (i := 116) (by decide +kernel)))
abbrev gm_X11_changed : am_M := (yX11_changed, cX11_changed, 14, (some .int), 14)
theorem pd_X11_changed : (parseMethodDescriptor yX11_changed.desc).map (fun d => d.parameters.length) = some 9 := by decide +kernel
theorem iw_X11_changed : Cond.instanceMethod yX11_changed ∈ lw_tbl := (tb_5 (List.mem_of_getElem? (i := 114) (by decide +kernel)))
theorem sl_X11_changed : Cond.selects yX11_changed.cls yX11_changed yX11_changed ∈ lw_tbl := (tb_5 (List.mem_of_getElem? (i := 115) (by decide +kernel)))
theorem mV_X11_changed : am_mV gm_X11_changed 9 := ⟨⟨cd_X11_changed, ini_RX11, nh_RX11, pd_X11_changed, Nat.le_of_ble_eq_true rfl⟩, iw_X11_changed, sl_X11_changed⟩
theorem cd_X11_whyNoGauge : Cond.code yX11_whyNoGauge cX11_whyNoGauge 6 (some .int) ∈ lw_tbl := (tb_5 (List.mem_of_getElem? (i := 133) (by decide +kernel)))
abbrev gm_X11_whyNoGauge : am_M := (yX11_whyNoGauge, cX11_whyNoGauge, 6, (some .int), 3)
theorem pd_X11_whyNoGauge : (parseMethodDescriptor yX11_whyNoGauge.desc).map (fun d => d.parameters.length) = some 5 := by decide +kernel
theorem iw_X11_whyNoGauge : Cond.instanceMethod yX11_whyNoGauge ∈ lw_tbl := (tb_5 (List.mem_of_getElem? (i := 132) (by decide +kernel)))
theorem sl_X11_whyNoGauge : Cond.selects yX11_whyNoGauge.cls yX11_whyNoGauge yX11_whyNoGauge ∈ lw_tbl := tb_sel (q := (yX11_whyNoGauge, 16)) 32 (by decide +kernel)
theorem mV_X11_whyNoGauge : am_mV gm_X11_whyNoGauge 5 := ⟨⟨cd_X11_whyNoGauge, ini_RX11, nh_RX11, pd_X11_whyNoGauge, Nat.le_of_ble_eq_true rfl⟩, iw_X11_whyNoGauge, sl_X11_whyNoGauge⟩
theorem cd_X11_slipped : Cond.code yX11_slipped cX11_slipped 7 (some .int) ∈ lw_tbl := (tb_5 (List.mem_of_getElem? (i := 129) (by decide +kernel)))
abbrev gm_X11_slipped : am_M := (yX11_slipped, cX11_slipped, 7, (some .int), 6)
theorem pd_X11_slipped : (parseMethodDescriptor yX11_slipped.desc).map (fun d => d.parameters.length) = some 5 := by decide +kernel
theorem iw_X11_slipped : Cond.instanceMethod yX11_slipped ∈ lw_tbl := (tb_5 (List.mem_of_getElem? (i := 127) (by decide +kernel)))
theorem sl_X11_slipped : Cond.selects yX11_slipped.cls yX11_slipped yX11_slipped ∈ lw_tbl := (tb_5 (List.mem_of_getElem? (i := 128) (by decide +kernel)))
theorem mV_X11_slipped : am_mV gm_X11_slipped 5 := ⟨⟨cd_X11_slipped, ini_RX11, nh_RX11, pd_X11_slipped, Nat.le_of_ble_eq_true rfl⟩, iw_X11_slipped, sl_X11_slipped⟩
theorem cd_X11_slip : Cond.code yX11_slip cX11_slip 1 (some .int) ∈ lw_tbl := (tb_5 (List.mem_of_getElem? (i := 154) (by decide +kernel)))
abbrev gm_X11_slip : am_M := (yX11_slip, cX11_slip, 1, (some .int), 2)
theorem pd_X11_slip : (parseMethodDescriptor yX11_slip.desc).map (fun d => d.parameters.length) = some 0 := by decide +kernel
theorem iw_X11_slip : Cond.instanceMethod yX11_slip ∈ lw_tbl := (tb_5 (List.mem_of_getElem? (i := 152) (by decide +kernel)))
theorem sl_X11_slip : Cond.selects yX11_slip.cls yX11_slip yX11_slip ∈ lw_tbl := (tb_5 (List.mem_of_getElem? (i := 153) (by decide +kernel)))
theorem mV_X11_slip : am_mV gm_X11_slip 0 := ⟨⟨cd_X11_slip, ini_RX11, nh_RX11, pd_X11_slip, Nat.le_of_ble_eq_true rfl⟩, iw_X11_slip, sl_X11_slip⟩
theorem cd_X11_neighbour : Cond.code yX11_neighbour cX11_neighbour 6 (some .int) ∈ lw_tbl := (tb_5 (List.mem_of_getElem? (i := 158) (by decide +kernel)))
abbrev gm_X11_neighbour : am_M := (yX11_neighbour, cX11_neighbour, 6, (some .int), 5)
theorem pd_X11_neighbour : (parseMethodDescriptor yX11_neighbour.desc).map (fun d => d.parameters.length) = some 4 := by decide +kernel
theorem iw_X11_neighbour : Cond.instanceMethod yX11_neighbour ∈ lw_tbl := (tb_5 (List.mem_of_getElem? (i := 156) (by decide +kernel)))
theorem sl_X11_neighbour : Cond.selects yX11_neighbour.cls yX11_neighbour yX11_neighbour ∈ lw_tbl := (tb_5 (List.mem_of_getElem? (i := 157) (by decide +kernel)))
theorem mV_X11_neighbour : am_mV gm_X11_neighbour 4 := ⟨⟨cd_X11_neighbour, ini_RX11, nh_RX11, pd_X11_neighbour, Nat.le_of_ble_eq_true rfl⟩, iw_X11_neighbour, sl_X11_neighbour⟩
theorem cd_X11_lag : Cond.code yX11_lag cX11_lag 1 (some .int) ∈ lw_tbl := (tb_5 (List.mem_of_getElem? (i := 174) (by decide +kernel)))
abbrev gm_X11_lag : am_M := (yX11_lag, cX11_lag, 1, (some .int), 2)
theorem pd_X11_lag : (parseMethodDescriptor yX11_lag.desc).map (fun d => d.parameters.length) = some 0 := by decide +kernel
theorem iw_X11_lag : Cond.instanceMethod yX11_lag ∈ lw_tbl := (tb_5 (List.mem_of_getElem? (i := 172) (by decide +kernel)))
theorem sl_X11_lag : Cond.selects yX11_lag.cls yX11_lag yX11_lag ∈ lw_tbl := (tb_5 (List.mem_of_getElem? (i := 173) (by decide +kernel)))
theorem mV_X11_lag : am_mV gm_X11_lag 0 := ⟨⟨cd_X11_lag, ini_RX11, nh_RX11, pd_X11_lag, Nat.le_of_ble_eq_true rfl⟩, iw_X11_lag, sl_X11_lag⟩
theorem cd_X11_led : Cond.code yX11_led cX11_led 6 (some .int) ∈ lw_tbl := (tb_5 (List.mem_of_getElem? (i := 178) (by decide +kernel)))
abbrev gm_X11_led : am_M := (yX11_led, cX11_led, 6, (some .int), 5)
theorem pd_X11_led : (parseMethodDescriptor yX11_led.desc).map (fun d => d.parameters.length) = some 4 := by decide +kernel
theorem iw_X11_led : Cond.instanceMethod yX11_led ∈ lw_tbl := (tb_5 (List.mem_of_getElem? (i := 176) (by decide +kernel)))
theorem sl_X11_led : Cond.selects yX11_led.cls yX11_led yX11_led ∈ lw_tbl := (tb_5 (List.mem_of_getElem? (i := 177) (by decide +kernel)))
theorem mV_X11_led : am_mV gm_X11_led 4 := ⟨⟨cd_X11_led, ini_RX11, nh_RX11, pd_X11_led, Nat.le_of_ble_eq_true rfl⟩, iw_X11_led, sl_X11_led⟩
theorem cd_X11_wheel : Cond.code yX11_wheel cX11_wheel 2 (some .int) ∈ lw_tbl := (tb_5 (List.mem_of_getElem? (i := 206) (by decide +kernel)))
abbrev gm_X11_wheel : am_M := (yX11_wheel, cX11_wheel, 2, (some .int), 2)
theorem pd_X11_wheel : (parseMethodDescriptor yX11_wheel.desc).map (fun d => d.parameters.length) = some 1 := by decide +kernel
theorem iw_X11_wheel : Cond.instanceMethod yX11_wheel ∈ lw_tbl := (tb_5 (List.mem_of_getElem? (i := 204) (by decide +kernel)))
theorem sl_X11_wheel : Cond.selects yX11_wheel.cls yX11_wheel yX11_wheel ∈ lw_tbl := (tb_5 (List.mem_of_getElem? (i := 205) (by decide +kernel)))
theorem mV_X11_wheel : am_mV gm_X11_wheel 1 := ⟨⟨cd_X11_wheel, ini_RX11, nh_RX11, pd_X11_wheel, Nat.le_of_ble_eq_true rfl⟩, iw_X11_wheel, sl_X11_wheel⟩
theorem cd_X11_extreme : Cond.code yX11_extreme cX11_extreme 7 (some .int) ∈ lw_tbl := (tb_5 (List.mem_of_getElem? (i := 210) (by decide +kernel)))
abbrev gm_X11_extreme : am_M := (yX11_extreme, cX11_extreme, 7, (some .int), 5)
theorem pd_X11_extreme : (parseMethodDescriptor yX11_extreme.desc).map (fun d => d.parameters.length) = some 5 := by decide +kernel
theorem iw_X11_extreme : Cond.instanceMethod yX11_extreme ∈ lw_tbl := (tb_5 (List.mem_of_getElem? (i := 208) (by decide +kernel)))
theorem sl_X11_extreme : Cond.selects yX11_extreme.cls yX11_extreme yX11_extreme ∈ lw_tbl := (tb_5 (List.mem_of_getElem? (i := 209) (by decide +kernel)))
theorem mV_X11_extreme : am_mV gm_X11_extreme 5 := ⟨⟨cd_X11_extreme, ini_RX11, nh_RX11, pd_X11_extreme, Nat.le_of_ble_eq_true rfl⟩, iw_X11_extreme, sl_X11_extreme⟩
theorem cd_X11_bounds : Cond.code yX11_bounds cX11_bounds 6 (some .int) ∈ lw_tbl := (tb_5 (List.mem_of_getElem? (i := 218) (by decide +kernel)))
abbrev gm_X11_bounds : am_M := (yX11_bounds, cX11_bounds, 6, (some .int), 4)
theorem pd_X11_bounds : (parseMethodDescriptor yX11_bounds.desc).map (fun d => d.parameters.length) = some 4 := by decide +kernel
theorem iw_X11_bounds : Cond.instanceMethod yX11_bounds ∈ lw_tbl := (tb_5 (List.mem_of_getElem? (i := 216) (by decide +kernel)))
theorem sl_X11_bounds : Cond.selects yX11_bounds.cls yX11_bounds yX11_bounds ∈ lw_tbl := (tb_5 (List.mem_of_getElem? (i := 217) (by decide +kernel)))
theorem mV_X11_bounds : am_mV gm_X11_bounds 4 := ⟨⟨cd_X11_bounds, ini_RX11, nh_RX11, pd_X11_bounds, Nat.le_of_ble_eq_true rfl⟩, iw_X11_bounds, sl_X11_bounds⟩
theorem cd_X11_ask : Cond.code yX11_ask cX11_ask 11 (some .boolean) ∈ lw_tbl := (tb_5 (List.mem_of_getElem? (i := 230) (by decide +kernel)))
abbrev gm_X11_ask : am_M := (yX11_ask, cX11_ask, 11, (some .boolean), 2)
theorem pd_X11_ask : (parseMethodDescriptor yX11_ask.desc).map (fun d => d.parameters.length) = some 8 := by decide +kernel
theorem iw_X11_ask : Cond.instanceMethod yX11_ask ∈ lw_tbl := (tb_5 (List.mem_of_getElem? (i := 228) (by decide +kernel)))
theorem sl_X11_ask : Cond.selects yX11_ask.cls yX11_ask yX11_ask ∈ lw_tbl := (tb_5 (List.mem_of_getElem? (i := 229) (by decide +kernel)))
theorem mV_X11_ask : am_mV gm_X11_ask 8 := ⟨⟨cd_X11_ask, ini_RX11, nh_RX11, pd_X11_ask, Nat.le_of_ble_eq_true rfl⟩, iw_X11_ask, sl_X11_ask⟩
theorem cd_X11_landing : Cond.code yX11_landing cX11_landing 6 (some .int) ∈ lw_tbl := (tb_5 (List.mem_of_getElem? (i := 235) (by decide +kernel)))
abbrev gm_X11_landing : am_M := (yX11_landing, cX11_landing, 6, (some .int), 6)
theorem pd_X11_landing : (parseMethodDescriptor yX11_landing.desc).map (fun d => d.parameters.length) = some 3 := by decide +kernel
theorem iw_X11_landing : Cond.instanceMethod yX11_landing ∈ lw_tbl := (tb_5 (List.mem_of_getElem? (i := 233) (by decide +kernel)))
theorem sl_X11_landing : Cond.selects yX11_landing.cls yX11_landing yX11_landing ∈ lw_tbl := (tb_5 (List.mem_of_getElem? (i := 234) (by decide +kernel)))
theorem mV_X11_landing : am_mV gm_X11_landing 3 := ⟨⟨cd_X11_landing, ini_RX11, nh_RX11, pd_X11_landing, Nat.le_of_ble_eq_true rfl⟩, iw_X11_landing, sl_X11_landing⟩
theorem cd_X11_spread : Cond.code yX11_spread cX11_spread 6 (some .int) ∈ lw_tbl := (tb_6 (List.mem_of_getElem? (i := 20) (by decide +kernel)))
abbrev gm_X11_spread : am_M := (yX11_spread, cX11_spread, 6, (some .int), 6)
theorem pd_X11_spread : (parseMethodDescriptor yX11_spread.desc).map (fun d => d.parameters.length) = some 4 := by decide +kernel
theorem iw_X11_spread : Cond.instanceMethod yX11_spread ∈ lw_tbl := (tb_6 (List.mem_of_getElem? (i := 18) (by decide +kernel)))
theorem sl_X11_spread : Cond.selects yX11_spread.cls yX11_spread yX11_spread ∈ lw_tbl := (tb_6 (List.mem_of_getElem? (i := 19) (by decide +kernel)))
theorem mV_X11_spread : am_mV gm_X11_spread 4 := ⟨⟨cd_X11_spread, ini_RX11, nh_RX11, pd_X11_spread, Nat.le_of_ble_eq_true rfl⟩, iw_X11_spread, sl_X11_spread⟩
theorem cd_X11_spreadTold : Cond.code yX11_spreadTold cX11_spreadTold 2 (some .int) ∈ lw_tbl := (tb_6 (List.mem_of_getElem? (i := 49) (by decide +kernel)))
abbrev gm_X11_spreadTold : am_M := (yX11_spreadTold, cX11_spreadTold, 2, (some .int), 2)
theorem pd_X11_spreadTold : (parseMethodDescriptor yX11_spreadTold.desc).map (fun d => d.parameters.length) = some 1 := by decide +kernel
theorem iw_X11_spreadTold : Cond.instanceMethod yX11_spreadTold ∈ lw_tbl := (tb_6 (List.mem_of_getElem? (i := 47) (by decide +kernel)))
theorem sl_X11_spreadTold : Cond.selects yX11_spreadTold.cls yX11_spreadTold yX11_spreadTold ∈ lw_tbl := (tb_6 (List.mem_of_getElem? (i := 48) (by decide +kernel)))
theorem mV_X11_spreadTold : am_mV gm_X11_spreadTold 1 := ⟨⟨cd_X11_spreadTold, ini_RX11, nh_RX11, pd_X11_spreadTold, Nat.le_of_ble_eq_true rfl⟩, iw_X11_spreadTold, sl_X11_spreadTold⟩
theorem cd_X11_compare : Cond.code yX11_compare cX11_compare 6 (some .int) ∈ lw_tbl := (tb_6 (List.mem_of_getElem? (i := 53) (by decide +kernel)))
abbrev gm_X11_compare : am_M := (yX11_compare, cX11_compare, 6, (some .int), 4)
theorem pd_X11_compare : (parseMethodDescriptor yX11_compare.desc).map (fun d => d.parameters.length) = some 3 := by decide +kernel
theorem iw_X11_compare : Cond.instanceMethod yX11_compare ∈ lw_tbl := (tb_6 (List.mem_of_getElem? (i := 51) (by decide +kernel)))
theorem sl_X11_compare : Cond.selects yX11_compare.cls yX11_compare yX11_compare ∈ lw_tbl := (tb_6 (List.mem_of_getElem? (i := 52) (by decide +kernel)))
theorem mV_X11_compare : am_mV gm_X11_compare 3 := ⟨⟨cd_X11_compare, ini_RX11, nh_RX11, pd_X11_compare, Nat.le_of_ble_eq_true rfl⟩, iw_X11_compare, sl_X11_compare⟩
theorem cd_X11_waters : Cond.code yX11_waters cX11_waters 6 (some .int) ∈ lw_tbl := (tb_6 (List.mem_of_getElem? (i := 58) (by decide +kernel)))
abbrev gm_X11_waters : am_M := (yX11_waters, cX11_waters, 6, (some .int), 6)
theorem pd_X11_waters : (parseMethodDescriptor yX11_waters.desc).map (fun d => d.parameters.length) = some 4 := by decide +kernel
theorem iw_X11_waters : Cond.instanceMethod yX11_waters ∈ lw_tbl := (tb_6 (List.mem_of_getElem? (i := 56) (by decide +kernel)))
theorem sl_X11_waters : Cond.selects yX11_waters.cls yX11_waters yX11_waters ∈ lw_tbl := (tb_6 (List.mem_of_getElem? (i := 57) (by decide +kernel)))
theorem mV_X11_waters : am_mV gm_X11_waters 4 := ⟨⟨cd_X11_waters, ini_RX11, nh_RX11, pd_X11_waters, Nat.le_of_ble_eq_true rfl⟩, iw_X11_waters, sl_X11_waters⟩
theorem cd_X11_water : Cond.code yX11_water cX11_water 8 (some .int) ∈ lw_tbl := (tb_6 (List.mem_of_getElem? (i := 79) (by decide +kernel)))
abbrev gm_X11_water : am_M := (yX11_water, cX11_water, 8, (some .int), 6)
theorem pd_X11_water : (parseMethodDescriptor yX11_water.desc).map (fun d => d.parameters.length) = some 5 := by decide +kernel
theorem iw_X11_water : Cond.instanceMethod yX11_water ∈ lw_tbl := (tb_6 (List.mem_of_getElem? (i := 77) (by decide +kernel)))
theorem sl_X11_water : Cond.selects yX11_water.cls yX11_water yX11_water ∈ lw_tbl := (tb_6 (List.mem_of_getElem? (i := 78) (by decide +kernel)))
theorem mV_X11_water : am_mV gm_X11_water 5 := ⟨⟨cd_X11_water, ini_RX11, nh_RX11, pd_X11_water, Nat.le_of_ble_eq_true rfl⟩, iw_X11_water, sl_X11_water⟩
theorem cd_X11_range : Cond.code yX11_range cX11_range 5 (some .int) ∈ lw_tbl := (tb_6 (List.mem_of_getElem? (i := 87) (by decide +kernel)))
abbrev gm_X11_range : am_M := (yX11_range, cX11_range, 5, (some .int), 6)
theorem pd_X11_range : (parseMethodDescriptor yX11_range.desc).map (fun d => d.parameters.length) = some 3 := by decide +kernel
theorem iw_X11_range : Cond.instanceMethod yX11_range ∈ lw_tbl := (tb_6 (List.mem_of_getElem? (i := 85) (by decide +kernel)))
theorem sl_X11_range : Cond.selects yX11_range.cls yX11_range yX11_range ∈ lw_tbl := (tb_6 (List.mem_of_getElem? (i := 86) (by decide +kernel)))
theorem mV_X11_range : am_mV gm_X11_range 3 := ⟨⟨cd_X11_range, ini_RX11, nh_RX11, pd_X11_range, Nat.le_of_ble_eq_true rfl⟩, iw_X11_range, sl_X11_range⟩
theorem cd_X11_gap : Cond.code yX11_gap cX11_gap 8 (some .int) ∈ lw_tbl := (tb_6 (List.mem_of_getElem? (i := 96) (by decide +kernel)))
abbrev gm_X11_gap : am_M := (yX11_gap, cX11_gap, 8, (some .int), 6)
theorem pd_X11_gap : (parseMethodDescriptor yX11_gap.desc).map (fun d => d.parameters.length) = some 4 := by decide +kernel
theorem iw_X11_gap : Cond.instanceMethod yX11_gap ∈ lw_tbl := (tb_6 (List.mem_of_getElem? (i := 94) (by decide +kernel)))
theorem sl_X11_gap : Cond.selects yX11_gap.cls yX11_gap yX11_gap ∈ lw_tbl := (tb_6 (List.mem_of_getElem? (i := 95) (by decide +kernel)))
theorem mV_X11_gap : am_mV gm_X11_gap 4 := ⟨⟨cd_X11_gap, ini_RX11, nh_RX11, pd_X11_gap, Nat.le_of_ble_eq_true rfl⟩, iw_X11_gap, sl_X11_gap⟩
theorem cd_X11_worn : Cond.code yX11_worn cX11_worn 6 (some .int) ∈ lw_tbl := (tb_6 (List.mem_of_getElem? (i := 102) (by decide +kernel)))
abbrev gm_X11_worn : am_M := (yX11_worn, cX11_worn, 6, (some .int), 3)
theorem pd_X11_worn : (parseMethodDescriptor yX11_worn.desc).map (fun d => d.parameters.length) = some 4 := by decide +kernel
theorem iw_X11_worn : Cond.instanceMethod yX11_worn ∈ lw_tbl := (tb_6 (List.mem_of_getElem? (i := 100) (by decide +kernel)))
theorem sl_X11_worn : Cond.selects yX11_worn.cls yX11_worn yX11_worn ∈ lw_tbl := (tb_6 (List.mem_of_getElem? (i := 101) (by decide +kernel)))
theorem mV_X11_worn : am_mV gm_X11_worn 4 := ⟨⟨cd_X11_worn, ini_RX11, nh_RX11, pd_X11_worn, Nat.le_of_ble_eq_true rfl⟩, iw_X11_worn, sl_X11_worn⟩
theorem cd_X11_lasts : Cond.code yX11_lasts cX11_lasts 6 (some .int) ∈ lw_tbl := (tb_6 (List.mem_of_getElem? (i := 111) (by decide +kernel)))
abbrev gm_X11_lasts : am_M := (yX11_lasts, cX11_lasts, 6, (some .int), 4)
theorem pd_X11_lasts : (parseMethodDescriptor yX11_lasts.desc).map (fun d => d.parameters.length) = some 2 := by decide +kernel
theorem iw_X11_lasts : Cond.instanceMethod yX11_lasts ∈ lw_tbl := (tb_6 (List.mem_of_getElem? (i := 109) (by decide +kernel)))
theorem sl_X11_lasts : Cond.selects yX11_lasts.cls yX11_lasts yX11_lasts ∈ lw_tbl := (tb_6 (List.mem_of_getElem? (i := 110) (by decide +kernel)))
theorem mV_X11_lasts : am_mV gm_X11_lasts 2 := ⟨⟨cd_X11_lasts, ini_RX11, nh_RX11, pd_X11_lasts, Nat.le_of_ble_eq_true rfl⟩, iw_X11_lasts, sl_X11_lasts⟩
theorem cd_X11_trade : Cond.code yX11_trade cX11_trade 2 (some .long) ∈ lw_tbl := (tb_6 (List.mem_of_getElem? (i := 134) (by decide +kernel)))
abbrev gm_X11_trade : am_M := (yX11_trade, cX11_trade, 2, (some .long), 7)
theorem pd_X11_trade : (parseMethodDescriptor yX11_trade.desc).map (fun d => d.parameters.length) = some 1 := by decide +kernel
theorem iw_X11_trade : Cond.instanceMethod yX11_trade ∈ lw_tbl := (tb_6 (List.mem_of_getElem? (i := 132) (by decide +kernel)))
theorem sl_X11_trade : Cond.selects yX11_trade.cls yX11_trade yX11_trade ∈ lw_tbl := (tb_6 (List.mem_of_getElem? (i := 133) (by decide +kernel)))
theorem mV_X11_trade : am_mV gm_X11_trade 1 := ⟨⟨cd_X11_trade, ini_RX11, nh_RX11, pd_X11_trade, Nat.le_of_ble_eq_true rfl⟩, iw_X11_trade, sl_X11_trade⟩
theorem cd_X11_traded : Cond.code yX11_traded cX11_traded 2 (some .int) ∈ lw_tbl := (tb_6 (List.mem_of_getElem? (i := 170) (by decide +kernel)))
abbrev gm_X11_traded : am_M := (yX11_traded, cX11_traded, 2, (some .int), 2)
theorem pd_X11_traded : (parseMethodDescriptor yX11_traded.desc).map (fun d => d.parameters.length) = some 1 := by decide +kernel
theorem iw_X11_traded : Cond.instanceMethod yX11_traded ∈ lw_tbl := (tb_6 (List.mem_of_getElem? (i := 168) (by decide +kernel)))
theorem sl_X11_traded : Cond.selects yX11_traded.cls yX11_traded yX11_traded ∈ lw_tbl := (tb_6 (List.mem_of_getElem? (i := 169) (by decide +kernel)))
theorem mV_X11_traded : am_mV gm_X11_traded 1 := ⟨⟨cd_X11_traded, ini_RX11, nh_RX11, pd_X11_traded, Nat.le_of_ble_eq_true rfl⟩, iw_X11_traded, sl_X11_traded⟩
theorem cd_X11_orders : Cond.code yX11_orders cX11_orders 4 (some .int) ∈ lw_tbl := (tb_6 (List.mem_of_getElem? (i := 174) (by decide +kernel)))
abbrev gm_X11_orders : am_M := (yX11_orders, cX11_orders, 4, (some .int), 10)
theorem pd_X11_orders : (parseMethodDescriptor yX11_orders.desc).map (fun d => d.parameters.length) = some 1 := by decide +kernel
theorem iw_X11_orders : Cond.instanceMethod yX11_orders ∈ lw_tbl := (tb_6 (List.mem_of_getElem? (i := 172) (by decide +kernel)))
theorem sl_X11_orders : Cond.selects yX11_orders.cls yX11_orders yX11_orders ∈ lw_tbl := (tb_6 (List.mem_of_getElem? (i := 173) (by decide +kernel)))
theorem mV_X11_orders : am_mV gm_X11_orders 1 := ⟨⟨cd_X11_orders, ini_RX11, nh_RX11, pd_X11_orders, Nat.le_of_ble_eq_true rfl⟩, iw_X11_orders, sl_X11_orders⟩
theorem cd_X11_obey : Cond.code yX11_obey cX11_obey 4 (some .int) ∈ lw_tbl := (tb_6 (List.mem_of_getElem? (i := 227) (by decide +kernel)))
abbrev gm_X11_obey : am_M := (yX11_obey, cX11_obey, 4, (some .int), 8)
theorem pd_X11_obey : (parseMethodDescriptor yX11_obey.desc).map (fun d => d.parameters.length) = some 2 := by decide +kernel
theorem iw_X11_obey : Cond.instanceMethod yX11_obey ∈ lw_tbl := (tb_6 (List.mem_of_getElem? (i := 225) (by decide +kernel)))
theorem sl_X11_obey : Cond.selects yX11_obey.cls yX11_obey yX11_obey ∈ lw_tbl := (tb_6 (List.mem_of_getElem? (i := 226) (by decide +kernel)))
theorem mV_X11_obey : am_mV gm_X11_obey 2 := ⟨⟨cd_X11_obey, ini_RX11, nh_RX11, pd_X11_obey, Nat.le_of_ble_eq_true rfl⟩, iw_X11_obey, sl_X11_obey⟩
theorem cd_X11_obeyed : Cond.code yX11_obeyed cX11_obeyed 2 (some .long) ∈ lw_tbl := (tb_7 (List.mem_of_getElem? (i := 33) (by decide +kernel)))
abbrev gm_X11_obeyed : am_M := (yX11_obeyed, cX11_obeyed, 2, (some .long), 2)
theorem pd_X11_obeyed : (parseMethodDescriptor yX11_obeyed.desc).map (fun d => d.parameters.length) = some 1 := by decide +kernel
theorem iw_X11_obeyed : Cond.instanceMethod yX11_obeyed ∈ lw_tbl := (tb_7 (List.mem_of_getElem? (i := 31) (by decide +kernel)))
theorem sl_X11_obeyed : Cond.selects yX11_obeyed.cls yX11_obeyed yX11_obeyed ∈ lw_tbl := (tb_7 (List.mem_of_getElem? (i := 32) (by decide +kernel)))
theorem mV_X11_obeyed : am_mV gm_X11_obeyed 1 := ⟨⟨cd_X11_obeyed, ini_RX11, nh_RX11, pd_X11_obeyed, Nat.le_of_ble_eq_true rfl⟩, iw_X11_obeyed, sl_X11_obeyed⟩
theorem cd_X11_marked : Cond.code yX11_marked cX11_marked 2 (some .int) ∈ lw_tbl := (tb_7 (List.mem_of_getElem? (i := 37) (by decide +kernel)))
abbrev gm_X11_marked : am_M := (yX11_marked, cX11_marked, 2, (some .int), 2)
theorem pd_X11_marked : (parseMethodDescriptor yX11_marked.desc).map (fun d => d.parameters.length) = some 1 := by decide +kernel
theorem iw_X11_marked : Cond.instanceMethod yX11_marked ∈ lw_tbl := (tb_7 (List.mem_of_getElem? (i := 35) (by decide +kernel)))
theorem sl_X11_marked : Cond.selects yX11_marked.cls yX11_marked yX11_marked ∈ lw_tbl := (tb_7 (List.mem_of_getElem? (i := 36) (by decide +kernel)))
theorem mV_X11_marked : am_mV gm_X11_marked 1 := ⟨⟨cd_X11_marked, ini_RX11, nh_RX11, pd_X11_marked, Nat.le_of_ble_eq_true rfl⟩, iw_X11_marked, sl_X11_marked⟩
theorem cd_X11_table : Cond.code yX11_table cX11_table 8 (some .int) ∈ lw_tbl := (tb_7 (List.mem_of_getElem? (i := 41) (by decide +kernel)))
abbrev gm_X11_table : am_M := (yX11_table, cX11_table, 8, (some .int), 4)
theorem pd_X11_table : (parseMethodDescriptor yX11_table.desc).map (fun d => d.parameters.length) = some 4 := by decide +kernel
theorem iw_X11_table : Cond.instanceMethod yX11_table ∈ lw_tbl := (tb_7 (List.mem_of_getElem? (i := 39) (by decide +kernel)))
theorem sl_X11_table : Cond.selects yX11_table.cls yX11_table yX11_table ∈ lw_tbl := (tb_7 (List.mem_of_getElem? (i := 40) (by decide +kernel)))
theorem mV_X11_table : am_mV gm_X11_table 4 := ⟨⟨cd_X11_table, ini_RX11, nh_RX11, pd_X11_table, Nat.le_of_ble_eq_true rfl⟩, iw_X11_table, sl_X11_table⟩
theorem cd_X12_status : Cond.code yX12_status cX12_status 1 (some .int) ∈ lw_tbl := (tb_8 (List.mem_of_getElem? (i := 70) (by decide +kernel)))
abbrev gm_X12_status : am_M := (yX12_status, cX12_status, 1, (some .int), 1)
theorem pd_X12_status : (parseMethodDescriptor yX12_status.desc).map (fun d => d.parameters.length) = some 0 := by decide +kernel
theorem iw_X12_status : Cond.instanceMethod yX12_status ∈ lw_tbl := (tb_8 (List.mem_of_getElem? (i := 68) (by decide +kernel)))
theorem sl_X12_status : Cond.selects yX12_status.cls yX12_status yX12_status ∈ lw_tbl := (tb_8 (List.mem_of_getElem? (i := 69) (by decide +kernel)))
theorem mV_X12_status : am_mV gm_X12_status 0 := ⟨⟨cd_X12_status, ini_RX12, nh_RX12, pd_X12_status, Nat.le_of_ble_eq_true rfl⟩, iw_X12_status, sl_X12_status⟩
theorem cd_X12_top : Cond.code yX12_top cX12_top 1 (some .long) ∈ lw_tbl := (tb_8 (List.mem_of_getElem? (i := 74) (by decide +kernel)))
abbrev gm_X12_top : am_M := (yX12_top, cX12_top, 1, (some .long), 1)
theorem pd_X12_top : (parseMethodDescriptor yX12_top.desc).map (fun d => d.parameters.length) = some 0 := by decide +kernel
theorem iw_X12_top : Cond.instanceMethod yX12_top ∈ lw_tbl := (tb_8 (List.mem_of_getElem? (i := 72) (by decide +kernel)))
theorem sl_X12_top : Cond.selects yX12_top.cls yX12_top yX12_top ∈ lw_tbl := (tb_8 (List.mem_of_getElem? (i := 73) (by decide +kernel)))
theorem mV_X12_top : am_mV gm_X12_top 0 := ⟨⟨cd_X12_top, ini_RX12, nh_RX12, pd_X12_top, Nat.le_of_ble_eq_true rfl⟩, iw_X12_top, sl_X12_top⟩
theorem cd_X12_bottom : Cond.code yX12_bottom cX12_bottom 1 (some .long) ∈ lw_tbl := (tb_8 (List.mem_of_getElem? (i := 78) (by decide +kernel)))
abbrev gm_X12_bottom : am_M := (yX12_bottom, cX12_bottom, 1, (some .long), 1)
theorem pd_X12_bottom : (parseMethodDescriptor yX12_bottom.desc).map (fun d => d.parameters.length) = some 0 := by decide +kernel
theorem iw_X12_bottom : Cond.instanceMethod yX12_bottom ∈ lw_tbl := (tb_8 (List.mem_of_getElem? (i := 76) (by decide +kernel)))
theorem sl_X12_bottom : Cond.selects yX12_bottom.cls yX12_bottom yX12_bottom ∈ lw_tbl := (tb_8 (List.mem_of_getElem? (i := 77) (by decide +kernel)))
theorem mV_X12_bottom : am_mV gm_X12_bottom 0 := ⟨⟨cd_X12_bottom, ini_RX12, nh_RX12, pd_X12_bottom, Nat.le_of_ble_eq_true rfl⟩, iw_X12_bottom, sl_X12_bottom⟩
theorem cd_X12_refuse : Cond.code yX12_refuse cX12_refuse 2 (some .int) ∈ lw_tbl := (tb_8 (List.mem_of_getElem? (i := 129) (by decide +kernel)))
abbrev gm_X12_refuse : am_M := (yX12_refuse, cX12_refuse, 2, (some .int), 1)
theorem pd_X12_refuse : (parseMethodDescriptor yX12_refuse.desc).map (fun d => d.parameters.length) = some 1 := by decide +kernel
theorem iw_X12_refuse : Cond.instanceMethod yX12_refuse ∈ lw_tbl := (tb_8 (List.mem_of_getElem? (i := 128) (by decide +kernel)))
theorem sl_X12_refuse : Cond.selects yX12_refuse.cls yX12_refuse yX12_refuse ∈ lw_tbl := tb_sel (q := (yX12_refuse, 86)) 65 (by decide +kernel)
theorem mV_X12_refuse : am_mV gm_X12_refuse 1 := ⟨⟨cd_X12_refuse, ini_RX12, nh_RX12, pd_X12_refuse, Nat.le_of_ble_eq_true rfl⟩, iw_X12_refuse, sl_X12_refuse⟩
theorem cd_X12_no : Cond.code yX12_no cX12_no 2 (some .boolean) ∈ lw_tbl := (tb_8 (List.mem_of_getElem? (i := 86) (by decide +kernel)))
abbrev gm_X12_no : am_M := (yX12_no, cX12_no, 2, (some .boolean), 1)
theorem pd_X12_no : (parseMethodDescriptor yX12_no.desc).map (fun d => d.parameters.length) = some 1 := by decide +kernel
theorem iw_X12_no : Cond.instanceMethod yX12_no ∈ lw_tbl := (tb_8 (List.mem_of_getElem? (i := 85) (by decide +kernel)))
theorem sl_X12_no : Cond.selects yX12_no.cls yX12_no yX12_no ∈ lw_tbl := tb_sel (q := (yX12_no, 86)) 61 (by decide +kernel)
theorem mV_X12_no : am_mV gm_X12_no 1 := ⟨⟨cd_X12_no, ini_RX12, nh_RX12, pd_X12_no, Nat.le_of_ble_eq_true rfl⟩, iw_X12_no, sl_X12_no⟩
theorem cd_X12_isIn : Cond.code yX12_isIn cX12_isIn 6 (some .boolean) ∈ lw_tbl := (tb_8 (List.mem_of_getElem? (i := 223) (by decide +kernel)))
abbrev gm_X12_isIn : am_M := (yX12_isIn, cX12_isIn, 6, (some .boolean), 1)
theorem pd_X12_isIn : (parseMethodDescriptor yX12_isIn.desc).map (fun d => d.parameters.length) = some 3 := by decide +kernel
theorem sw_X12_isIn : Cond.static yX12_isIn ∈ lw_tbl := (tb_8 (List.mem_of_getElem? (i := 222) (by decide +kernel)))
theorem mS_X12_isIn : am_mS gm_X12_isIn 3 := ⟨⟨cd_X12_isIn, ini_RX12, nh_RX12, pd_X12_isIn, Nat.le_of_ble_eq_true rfl⟩, sw_X12_isIn⟩
theorem cd_X12_fraction : Cond.code yX12_fraction cX12_fraction 11 none ∈ lw_tbl := (tb_9 (List.mem_of_getElem? (i := 80) (by decide +kernel)))
abbrev gm_X12_fraction : am_M := (yX12_fraction, cX12_fraction, 11, none, 2)
theorem pd_X12_fraction : (parseMethodDescriptor yX12_fraction.desc).map (fun d => d.parameters.length) = some 2 := by decide +kernel
theorem iw_X12_fraction : Cond.instanceMethod yX12_fraction ∈ lw_tbl := (tb_9 (List.mem_of_getElem? (i := 79) (by decide +kernel)))
theorem sl_X12_fraction : Cond.selects yX12_fraction.cls yX12_fraction yX12_fraction ∈ lw_tbl := tb_sel (q := (yX12_fraction, 86)) 98 (by decide +kernel)
theorem mV_X12_fraction : am_mV gm_X12_fraction 2 := ⟨⟨cd_X12_fraction, ini_RX12, nh_RX12, pd_X12_fraction, Nat.le_of_ble_eq_true rfl⟩, iw_X12_fraction, sl_X12_fraction⟩
theorem cd_X12_cut : Cond.code yX12_cut cX12_cut 3 (some .long) ∈ lw_tbl := (tb_8 (List.mem_of_getElem? (i := 101) (by decide +kernel)))
abbrev gm_X12_cut : am_M := (yX12_cut, cX12_cut, 3, (some .long), 1)
theorem pd_X12_cut : (parseMethodDescriptor yX12_cut.desc).map (fun d => d.parameters.length) = some 2 := by decide +kernel
theorem sw_X12_cut : Cond.static yX12_cut ∈ lw_tbl := (tb_8 (List.mem_of_getElem? (i := 100) (by decide +kernel)))
theorem mS_X12_cut : am_mS gm_X12_cut 2 := ⟨⟨cd_X12_cut, ini_RX12, nh_RX12, pd_X12_cut, Nat.le_of_ble_eq_true rfl⟩, sw_X12_cut⟩
theorem cd_X12_tray : Cond.code yX12_tray cX12_tray 5 (some .boolean) ∈ lw_tbl := (tb_8 (List.mem_of_getElem? (i := 82) (by decide +kernel)))
abbrev gm_X12_tray : am_M := (yX12_tray, cX12_tray, 5, (some .boolean), 2)
theorem pd_X12_tray : (parseMethodDescriptor yX12_tray.desc).map (fun d => d.parameters.length) = some 3 := by decide +kernel
theorem iw_X12_tray : Cond.instanceMethod yX12_tray ∈ lw_tbl := (tb_8 (List.mem_of_getElem? (i := 80) (by decide +kernel)))
theorem sl_X12_tray : Cond.selects yX12_tray.cls yX12_tray yX12_tray ∈ lw_tbl := (tb_8 (List.mem_of_getElem? (i := 81) (by decide +kernel)))
theorem mV_X12_tray : am_mV gm_X12_tray 3 := ⟨⟨cd_X12_tray, ini_RX12, nh_RX12, pd_X12_tray, Nat.le_of_ble_eq_true rfl⟩, iw_X12_tray, sl_X12_tray⟩
theorem cd_X12_trayed : Cond.code yX12_trayed cX12_trayed 2 (some .int) ∈ lw_tbl := (tb_8 (List.mem_of_getElem? (i := 98) (by decide +kernel)))
abbrev gm_X12_trayed : am_M := (yX12_trayed, cX12_trayed, 2, (some .int), 1)
theorem pd_X12_trayed : (parseMethodDescriptor yX12_trayed.desc).map (fun d => d.parameters.length) = some 1 := by decide +kernel
theorem iw_X12_trayed : Cond.instanceMethod yX12_trayed ∈ lw_tbl := (tb_8 (List.mem_of_getElem? (i := 97) (by decide +kernel)))
theorem sl_X12_trayed : Cond.selects yX12_trayed.cls yX12_trayed yX12_trayed ∈ lw_tbl := tb_sel (q := (yX12_trayed, 86)) 63 (by decide +kernel)
theorem mV_X12_trayed : am_mV gm_X12_trayed 1 := ⟨⟨cd_X12_trayed, ini_RX12, nh_RX12, pd_X12_trayed, Nat.le_of_ble_eq_true rfl⟩, iw_X12_trayed, sl_X12_trayed⟩
theorem cd_X12_placed : Cond.code yX12_placed cX12_placed 4 (some .int) ∈ lw_tbl := (tb_8 (List.mem_of_getElem? (i := 94) (by decide +kernel)))
abbrev gm_X12_placed : am_M := (yX12_placed, cX12_placed, 4, (some .int), 2)
theorem pd_X12_placed : (parseMethodDescriptor yX12_placed.desc).map (fun d => d.parameters.length) = some 2 := by decide +kernel
theorem iw_X12_placed : Cond.instanceMethod yX12_placed ∈ lw_tbl := (tb_8 (List.mem_of_getElem? (i := 93) (by decide +kernel)))
theorem sl_X12_placed : Cond.selects yX12_placed.cls yX12_placed yX12_placed ∈ lw_tbl := tb_sel (q := (yX12_placed, 86)) 62 (by decide +kernel)
theorem mV_X12_placed : am_mV gm_X12_placed 2 := ⟨⟨cd_X12_placed, ini_RX12, nh_RX12, pd_X12_placed, Nat.le_of_ble_eq_true rfl⟩, iw_X12_placed, sl_X12_placed⟩
theorem cd_X12_write : Cond.code yX12_write cX12_write 5 (some .boolean) ∈ lw_tbl := (tb_8 (List.mem_of_getElem? (i := 90) (by decide +kernel)))
abbrev gm_X12_write : am_M := (yX12_write, cX12_write, 5, (some .boolean), 3)
theorem pd_X12_write : (parseMethodDescriptor yX12_write.desc).map (fun d => d.parameters.length) = some 3 := by decide +kernel
theorem iw_X12_write : Cond.instanceMethod yX12_write ∈ lw_tbl := (tb_8 (List.mem_of_getElem? (i := 88) (by decide +kernel)))
theorem sl_X12_write : Cond.selects yX12_write.cls yX12_write yX12_write ∈ lw_tbl := (tb_8 (List.mem_of_getElem? (i := 89) (by decide +kernel)))
theorem mV_X12_write : am_mV gm_X12_write 3 := ⟨⟨cd_X12_write, ini_RX12, nh_RX12, pd_X12_write, Nat.le_of_ble_eq_true rfl⟩, iw_X12_write, sl_X12_write⟩
theorem cd_X12_read : Cond.code yX12_read cX12_read 3 (some .long) ∈ lw_tbl := (tb_8 (List.mem_of_getElem? (i := 105) (by decide +kernel)))
abbrev gm_X12_read : am_M := (yX12_read, cX12_read, 3, (some .long), 3)
theorem pd_X12_read : (parseMethodDescriptor yX12_read.desc).map (fun d => d.parameters.length) = some 2 := by decide +kernel
theorem iw_X12_read : Cond.instanceMethod yX12_read ∈ lw_tbl := (tb_8 (List.mem_of_getElem? (i := 103) (by decide +kernel)))
theorem sl_X12_read : Cond.selects yX12_read.cls yX12_read yX12_read ∈ lw_tbl := (tb_8 (List.mem_of_getElem? (i := 104) (by decide +kernel)))
theorem mV_X12_read : am_mV gm_X12_read 2 := ⟨⟨cd_X12_read, ini_RX12, nh_RX12, pd_X12_read, Nat.le_of_ble_eq_true rfl⟩, iw_X12_read, sl_X12_read⟩
theorem cd_X12_pour : Cond.code yX12_pour cX12_pour 9 (some .boolean) ∈ lw_tbl := (tb_8 (List.mem_of_getElem? (i := 110) (by decide +kernel)))
abbrev gm_X12_pour : am_M := (yX12_pour, cX12_pour, 9, (some .boolean), 2)
theorem pd_X12_pour : (parseMethodDescriptor yX12_pour.desc).map (fun d => d.parameters.length) = some 5 := by decide +kernel
theorem iw_X12_pour : Cond.instanceMethod yX12_pour ∈ lw_tbl := (tb_8 (List.mem_of_getElem? (i := 108) (by decide +kernel)))
theorem sl_X12_pour : Cond.selects yX12_pour.cls yX12_pour yX12_pour ∈ lw_tbl := (tb_8 (List.mem_of_getElem? (i := 109) (by decide +kernel)))
theorem mV_X12_pour : am_mV gm_X12_pour 5 := ⟨⟨cd_X12_pour, ini_RX12, nh_RX12, pd_X12_pour, Nat.le_of_ble_eq_true rfl⟩, iw_X12_pour, sl_X12_pour⟩
theorem cd_X12_numberOf : Cond.code yX12_numberOf cX12_numberOf 3 (some .long) ∈ lw_tbl := (tb_9 (List.mem_of_getElem? (i := 152) (by decide +kernel)))
abbrev gm_X12_numberOf : am_M := (yX12_numberOf, cX12_numberOf, 3, (some .long), 1)
theorem pd_X12_numberOf : (parseMethodDescriptor yX12_numberOf.desc).map (fun d => d.parameters.length) = some 2 := by decide +kernel
theorem iw_X12_numberOf : Cond.instanceMethod yX12_numberOf ∈ lw_tbl := (tb_9 (List.mem_of_getElem? (i := 151) (by decide +kernel)))
theorem sl_X12_numberOf : Cond.selects yX12_numberOf.cls yX12_numberOf yX12_numberOf ∈ lw_tbl := tb_sel (q := (yX12_numberOf, 86)) 109 (by decide +kernel)
theorem mV_X12_numberOf : am_mV gm_X12_numberOf 2 := ⟨⟨cd_X12_numberOf, ini_RX12, nh_RX12, pd_X12_numberOf, Nat.le_of_ble_eq_true rfl⟩, iw_X12_numberOf, sl_X12_numberOf⟩
theorem cd_X12_look : Cond.code yX12_look cX12_look 2 (some .int) ∈ lw_tbl := (tb_8 (List.mem_of_getElem? (i := 137) (by decide +kernel)))
abbrev gm_X12_look : am_M := (yX12_look, cX12_look, 2, (some .int), 1)
theorem pd_X12_look : (parseMethodDescriptor yX12_look.desc).map (fun d => d.parameters.length) = some 1 := by decide +kernel
theorem iw_X12_look : Cond.instanceMethod yX12_look ∈ lw_tbl := (tb_8 (List.mem_of_getElem? (i := 136) (by decide +kernel)))
theorem sl_X12_look : Cond.selects yX12_look.cls yX12_look yX12_look ∈ lw_tbl := tb_sel (q := (yX12_look, 86)) 67 (by decide +kernel)
theorem mV_X12_look : am_mV gm_X12_look 1 := ⟨⟨cd_X12_look, ini_RX12, nh_RX12, pd_X12_look, Nat.le_of_ble_eq_true rfl⟩, iw_X12_look, sl_X12_look⟩
theorem cd_X12_isLetter : Cond.code yX12_isLetter cX12_isLetter 1 (some .boolean) ∈ lw_tbl := (tb_8 (List.mem_of_getElem? (i := 140) (by decide +kernel)))
abbrev gm_X12_isLetter : am_M := (yX12_isLetter, cX12_isLetter, 1, (some .boolean), 1)
theorem pd_X12_isLetter : (parseMethodDescriptor yX12_isLetter.desc).map (fun d => d.parameters.length) = some 1 := by decide +kernel
theorem sw_X12_isLetter : Cond.static yX12_isLetter ∈ lw_tbl := (tb_8 (List.mem_of_getElem? (i := 139) (by decide +kernel)))
theorem mS_X12_isLetter : am_mS gm_X12_isLetter 1 := ⟨⟨cd_X12_isLetter, ini_RX12, nh_RX12, pd_X12_isLetter, Nat.le_of_ble_eq_true rfl⟩, sw_X12_isLetter⟩
theorem cd_X12_isDigit : Cond.code yX12_isDigit cX12_isDigit 1 (some .boolean) ∈ lw_tbl := (tb_8 (List.mem_of_getElem? (i := 145) (by decide +kernel)))
abbrev gm_X12_isDigit : am_M := (yX12_isDigit, cX12_isDigit, 1, (some .boolean), 1)
theorem pd_X12_isDigit : (parseMethodDescriptor yX12_isDigit.desc).map (fun d => d.parameters.length) = some 1 := by decide +kernel
theorem sw_X12_isDigit : Cond.static yX12_isDigit ∈ lw_tbl := (tb_8 (List.mem_of_getElem? (i := 144) (by decide +kernel)))
theorem mS_X12_isDigit : am_mS gm_X12_isDigit 1 := ⟨⟨cd_X12_isDigit, ini_RX12, nh_RX12, pd_X12_isDigit, Nat.le_of_ble_eq_true rfl⟩, sw_X12_isDigit⟩
theorem cd_X12_next : Cond.code yX12_next cX12_next 2 none ∈ lw_tbl := (tb_8 (List.mem_of_getElem? (i := 133) (by decide +kernel)))
abbrev gm_X12_next : am_M := (yX12_next, cX12_next, 2, none, 2)
theorem pd_X12_next : (parseMethodDescriptor yX12_next.desc).map (fun d => d.parameters.length) = some 0 := by decide +kernel
theorem iw_X12_next : Cond.instanceMethod yX12_next ∈ lw_tbl := (tb_8 (List.mem_of_getElem? (i := 132) (by decide +kernel)))
theorem sl_X12_next : Cond.selects yX12_next.cls yX12_next yX12_next ∈ lw_tbl := tb_sel (q := (yX12_next, 86)) 66 (by decide +kernel)
theorem mV_X12_next : am_mV gm_X12_next 0 := ⟨⟨cd_X12_next, ini_RX12, nh_RX12, pd_X12_next, Nat.le_of_ble_eq_true rfl⟩, iw_X12_next, sl_X12_next⟩
theorem cd_X12_spelled : Cond.code yX12_spelled cX12_spelled 7 (some .long) ∈ lw_tbl := (tb_8 (List.mem_of_getElem? (i := 152) (by decide +kernel)))
abbrev gm_X12_spelled : am_M := (yX12_spelled, cX12_spelled, 7, (some .long), 1)
theorem pd_X12_spelled : (parseMethodDescriptor yX12_spelled.desc).map (fun d => d.parameters.length) = some 5 := by decide +kernel
theorem sw_X12_spelled : Cond.static yX12_spelled ∈ lw_tbl := (tb_8 (List.mem_of_getElem? (i := 151) (by decide +kernel)))
theorem mS_X12_spelled : am_mS gm_X12_spelled 5 := ⟨⟨cd_X12_spelled, ini_RX12, nh_RX12, pd_X12_spelled, Nat.le_of_ble_eq_true rfl⟩, sw_X12_spelled⟩
theorem cd_X12_isWord : Cond.code yX12_isWord cX12_isWord 3 (some .boolean) ∈ lw_tbl := (tb_8 (List.mem_of_getElem? (i := 156) (by decide +kernel)))
abbrev gm_X12_isWord : am_M := (yX12_isWord, cX12_isWord, 3, (some .boolean), 1)
theorem pd_X12_isWord : (parseMethodDescriptor yX12_isWord.desc).map (fun d => d.parameters.length) = some 1 := by decide +kernel
theorem iw_X12_isWord : Cond.instanceMethod yX12_isWord ∈ lw_tbl := (tb_8 (List.mem_of_getElem? (i := 155) (by decide +kernel)))
theorem sl_X12_isWord : Cond.selects yX12_isWord.cls yX12_isWord yX12_isWord ∈ lw_tbl := tb_sel (q := (yX12_isWord, 86)) 69 (by decide +kernel)
theorem mV_X12_isWord : am_mV gm_X12_isWord 1 := ⟨⟨cd_X12_isWord, ini_RX12, nh_RX12, pd_X12_isWord, Nat.le_of_ble_eq_true rfl⟩, iw_X12_isWord, sl_X12_isWord⟩
theorem cd_X12_isWave : Cond.code yX12_isWave cX12_isWave 1 (some .boolean) ∈ lw_tbl := (tb_8 (List.mem_of_getElem? (i := 149) (by decide +kernel)))
abbrev gm_X12_isWave : am_M := (yX12_isWave, cX12_isWave, 1, (some .boolean), 2)
theorem pd_X12_isWave : (parseMethodDescriptor yX12_isWave.desc).map (fun d => d.parameters.length) = some 0 := by decide +kernel
theorem iw_X12_isWave : Cond.instanceMethod yX12_isWave ∈ lw_tbl := (tb_8 (List.mem_of_getElem? (i := 148) (by decide +kernel)))
theorem sl_X12_isWave : Cond.selects yX12_isWave.cls yX12_isWave yX12_isWave ∈ lw_tbl := tb_sel (q := (yX12_isWave, 86)) 68 (by decide +kernel)
theorem mV_X12_isWave : am_mV gm_X12_isWave 0 := ⟨⟨cd_X12_isWave, ini_RX12, nh_RX12, pd_X12_isWave, Nat.le_of_ble_eq_true rfl⟩, iw_X12_isWave, sl_X12_isWave⟩
theorem cd_X12_isTurns : Cond.code yX12_isTurns cX12_isTurns 1 (some .boolean) ∈ lw_tbl := (tb_8 (List.mem_of_getElem? (i := 172) (by decide +kernel)))
abbrev gm_X12_isTurns : am_M := (yX12_isTurns, cX12_isTurns, 1, (some .boolean), 2)
theorem pd_X12_isTurns : (parseMethodDescriptor yX12_isTurns.desc).map (fun d => d.parameters.length) = some 0 := by decide +kernel
theorem iw_X12_isTurns : Cond.instanceMethod yX12_isTurns ∈ lw_tbl := (tb_8 (List.mem_of_getElem? (i := 171) (by decide +kernel)))
theorem sl_X12_isTurns : Cond.selects yX12_isTurns.cls yX12_isTurns yX12_isTurns ∈ lw_tbl := tb_sel (q := (yX12_isTurns, 86)) 73 (by decide +kernel)
theorem mV_X12_isTurns : am_mV gm_X12_isTurns 0 := ⟨⟨cd_X12_isTurns, ini_RX12, nh_RX12, pd_X12_isTurns, Nat.le_of_ble_eq_true rfl⟩, iw_X12_isTurns, sl_X12_isTurns⟩
theorem cd_X12_isInWord : Cond.code yX12_isInWord cX12_isInWord 1 (some .boolean) ∈ lw_tbl := (tb_8 (List.mem_of_getElem? (i := 176) (by decide +kernel)))
abbrev gm_X12_isInWord : am_M := (yX12_isInWord, cX12_isInWord, 1, (some .boolean), 2)
theorem pd_X12_isInWord : (parseMethodDescriptor yX12_isInWord.desc).map (fun d => d.parameters.length) = some 0 := by decide +kernel
theorem iw_X12_isInWord : Cond.instanceMethod yX12_isInWord ∈ lw_tbl := (tb_8 (List.mem_of_getElem? (i := 175) (by decide +kernel)))
theorem sl_X12_isInWord : Cond.selects yX12_isInWord.cls yX12_isInWord yX12_isInWord ∈ lw_tbl := tb_sel (q := (yX12_isInWord, 86)) 74 (by decide +kernel)
theorem mV_X12_isInWord : am_mV gm_X12_isInWord 0 := ⟨⟨cd_X12_isInWord, ini_RX12, nh_RX12, pd_X12_isInWord, Nat.le_of_ble_eq_true rfl⟩, iw_X12_isInWord, sl_X12_isInWord⟩
theorem cd_X12_isBox : Cond.code yX12_isBox cX12_isBox 1 (some .boolean) ∈ lw_tbl := (tb_8 (List.mem_of_getElem? (i := 180) (by decide +kernel)))
abbrev gm_X12_isBox : am_M := (yX12_isBox, cX12_isBox, 1, (some .boolean), 2)
theorem pd_X12_isBox : (parseMethodDescriptor yX12_isBox.desc).map (fun d => d.parameters.length) = some 0 := by decide +kernel
theorem iw_X12_isBox : Cond.instanceMethod yX12_isBox ∈ lw_tbl := (tb_8 (List.mem_of_getElem? (i := 179) (by decide +kernel)))
theorem sl_X12_isBox : Cond.selects yX12_isBox.cls yX12_isBox yX12_isBox ∈ lw_tbl := tb_sel (q := (yX12_isBox, 86)) 75 (by decide +kernel)
theorem mV_X12_isBox : am_mV gm_X12_isBox 0 := ⟨⟨cd_X12_isBox, ini_RX12, nh_RX12, pd_X12_isBox, Nat.le_of_ble_eq_true rfl⟩, iw_X12_isBox, sl_X12_isBox⟩
theorem cd_X12_isOf : Cond.code yX12_isOf cX12_isOf 1 (some .boolean) ∈ lw_tbl := (tb_8 (List.mem_of_getElem? (i := 184) (by decide +kernel)))
abbrev gm_X12_isOf : am_M := (yX12_isOf, cX12_isOf, 1, (some .boolean), 2)
theorem pd_X12_isOf : (parseMethodDescriptor yX12_isOf.desc).map (fun d => d.parameters.length) = some 0 := by decide +kernel
theorem iw_X12_isOf : Cond.instanceMethod yX12_isOf ∈ lw_tbl := (tb_8 (List.mem_of_getElem? (i := 183) (by decide +kernel)))
theorem sl_X12_isOf : Cond.selects yX12_isOf.cls yX12_isOf yX12_isOf ∈ lw_tbl := tb_sel (q := (yX12_isOf, 86)) 76 (by decide +kernel)
theorem mV_X12_isOf : am_mV gm_X12_isOf 0 := ⟨⟨cd_X12_isOf, ini_RX12, nh_RX12, pd_X12_isOf, Nat.le_of_ble_eq_true rfl⟩, iw_X12_isOf, sl_X12_isOf⟩
theorem cd_X12_isSlack : Cond.code yX12_isSlack cX12_isSlack 1 (some .boolean) ∈ lw_tbl := (tb_8 (List.mem_of_getElem? (i := 188) (by decide +kernel)))
abbrev gm_X12_isSlack : am_M := (yX12_isSlack, cX12_isSlack, 1, (some .boolean), 2)
theorem pd_X12_isSlack : (parseMethodDescriptor yX12_isSlack.desc).map (fun d => d.parameters.length) = some 0 := by decide +kernel
theorem iw_X12_isSlack : Cond.instanceMethod yX12_isSlack ∈ lw_tbl := (tb_8 (List.mem_of_getElem? (i := 187) (by decide +kernel)))
theorem sl_X12_isSlack : Cond.selects yX12_isSlack.cls yX12_isSlack yX12_isSlack ∈ lw_tbl := tb_sel (q := (yX12_isSlack, 86)) 77 (by decide +kernel)
theorem mV_X12_isSlack : am_mV gm_X12_isSlack 0 := ⟨⟨cd_X12_isSlack, ini_RX12, nh_RX12, pd_X12_isSlack, Nat.le_of_ble_eq_true rfl⟩, iw_X12_isSlack, sl_X12_isSlack⟩
theorem cd_X12_isZero : Cond.code yX12_isZero cX12_isZero 1 (some .boolean) ∈ lw_tbl := (tb_8 (List.mem_of_getElem? (i := 192) (by decide +kernel)))
abbrev gm_X12_isZero : am_M := (yX12_isZero, cX12_isZero, 1, (some .boolean), 2)
theorem pd_X12_isZero : (parseMethodDescriptor yX12_isZero.desc).map (fun d => d.parameters.length) = some 0 := by decide +kernel
theorem iw_X12_isZero : Cond.instanceMethod yX12_isZero ∈ lw_tbl := (tb_8 (List.mem_of_getElem? (i := 191) (by decide +kernel)))
theorem sl_X12_isZero : Cond.selects yX12_isZero.cls yX12_isZero yX12_isZero ∈ lw_tbl := tb_sel (q := (yX12_isZero, 86)) 78 (by decide +kernel)
theorem mV_X12_isZero : am_mV gm_X12_isZero 0 := ⟨⟨cd_X12_isZero, ini_RX12, nh_RX12, pd_X12_isZero, Nat.le_of_ble_eq_true rfl⟩, iw_X12_isZero, sl_X12_isZero⟩
theorem cd_X12_setting : Cond.code yX12_setting cX12_setting 1 (some .int) ∈ lw_tbl := (tb_8 (List.mem_of_getElem? (i := 168) (by decide +kernel)))
abbrev gm_X12_setting : am_M := (yX12_setting, cX12_setting, 1, (some .int), 2)
theorem pd_X12_setting : (parseMethodDescriptor yX12_setting.desc).map (fun d => d.parameters.length) = some 0 := by decide +kernel
theorem iw_X12_setting : Cond.instanceMethod yX12_setting ∈ lw_tbl := (tb_8 (List.mem_of_getElem? (i := 167) (by decide +kernel)))
theorem sl_X12_setting : Cond.selects yX12_setting.cls yX12_setting yX12_setting ∈ lw_tbl := tb_sel (q := (yX12_setting, 86)) 72 (by decide +kernel)
theorem mV_X12_setting : am_mV gm_X12_setting 0 := ⟨⟨cd_X12_setting, ini_RX12, nh_RX12, pd_X12_setting, Nat.le_of_ble_eq_true rfl⟩, iw_X12_setting, sl_X12_setting⟩
theorem cd_X12_isName : Cond.code yX12_isName cX12_isName 1 (some .boolean) ∈ lw_tbl := (tb_8 (List.mem_of_getElem? (i := 164) (by decide +kernel)))
abbrev gm_X12_isName : am_M := (yX12_isName, cX12_isName, 1, (some .boolean), 3)
theorem pd_X12_isName : (parseMethodDescriptor yX12_isName.desc).map (fun d => d.parameters.length) = some 0 := by decide +kernel
theorem iw_X12_isName : Cond.instanceMethod yX12_isName ∈ lw_tbl := (tb_8 (List.mem_of_getElem? (i := 163) (by decide +kernel)))
theorem sl_X12_isName : Cond.selects yX12_isName.cls yX12_isName yX12_isName ∈ lw_tbl := tb_sel (q := (yX12_isName, 86)) 71 (by decide +kernel)
theorem mV_X12_isName : am_mV gm_X12_isName 0 := ⟨⟨cd_X12_isName, ini_RX12, nh_RX12, pd_X12_isName, Nat.le_of_ble_eq_true rfl⟩, iw_X12_isName, sl_X12_isName⟩
theorem cd_X12_fail : Cond.code yX12_fail cX12_fail 3 none ∈ lw_tbl := (tb_8 (List.mem_of_getElem? (i := 200) (by decide +kernel)))
abbrev gm_X12_fail : am_M := (yX12_fail, cX12_fail, 3, none, 1)
theorem pd_X12_fail : (parseMethodDescriptor yX12_fail.desc).map (fun d => d.parameters.length) = some 2 := by decide +kernel
theorem iw_X12_fail : Cond.instanceMethod yX12_fail ∈ lw_tbl := (tb_8 (List.mem_of_getElem? (i := 199) (by decide +kernel)))
theorem sl_X12_fail : Cond.selects yX12_fail.cls yX12_fail yX12_fail ∈ lw_tbl := tb_sel (q := (yX12_fail, 86)) 80 (by decide +kernel)
theorem mV_X12_fail : am_mV gm_X12_fail 2 := ⟨⟨cd_X12_fail, ini_RX12, nh_RX12, pd_X12_fail, Nat.le_of_ble_eq_true rfl⟩, iw_X12_fail, sl_X12_fail⟩
theorem cd_X12_wrong : Cond.code yX12_wrong cX12_wrong 1 none ∈ lw_tbl := (tb_8 (List.mem_of_getElem? (i := 196) (by decide +kernel)))
abbrev gm_X12_wrong : am_M := (yX12_wrong, cX12_wrong, 1, none, 2)
theorem pd_X12_wrong : (parseMethodDescriptor yX12_wrong.desc).map (fun d => d.parameters.length) = some 0 := by decide +kernel
theorem iw_X12_wrong : Cond.instanceMethod yX12_wrong ∈ lw_tbl := (tb_8 (List.mem_of_getElem? (i := 195) (by decide +kernel)))
theorem sl_X12_wrong : Cond.selects yX12_wrong.cls yX12_wrong yX12_wrong ∈ lw_tbl := tb_sel (q := (yX12_wrong, 86)) 79 (by decide +kernel)
theorem mV_X12_wrong : am_mV gm_X12_wrong 0 := ⟨⟨cd_X12_wrong, ini_RX12, nh_RX12, pd_X12_wrong, Nat.le_of_ble_eq_true rfl⟩, iw_X12_wrong, sl_X12_wrong⟩
theorem cd_X12_must : Cond.code yX12_must cX12_must 2 none ∈ lw_tbl := (tb_8 (List.mem_of_getElem? (i := 212) (by decide +kernel)))
abbrev gm_X12_must : am_M := (yX12_must, cX12_must, 2, none, 3)
theorem pd_X12_must : (parseMethodDescriptor yX12_must.desc).map (fun d => d.parameters.length) = some 1 := by decide +kernel
theorem iw_X12_must : Cond.instanceMethod yX12_must ∈ lw_tbl := (tb_8 (List.mem_of_getElem? (i := 211) (by decide +kernel)))
theorem sl_X12_must : Cond.selects yX12_must.cls yX12_must yX12_must ∈ lw_tbl := tb_sel (q := (yX12_must, 86)) 83 (by decide +kernel)
theorem mV_X12_must : am_mV gm_X12_must 1 := ⟨⟨cd_X12_must, ini_RX12, nh_RX12, pd_X12_must, Nat.le_of_ble_eq_true rfl⟩, iw_X12_must, sl_X12_must⟩
theorem cd_X12_seen : Cond.code yX12_seen cX12_seen 3 (some .int) ∈ lw_tbl := (tb_8 (List.mem_of_getElem? (i := 220) (by decide +kernel)))
abbrev gm_X12_seen : am_M := (yX12_seen, cX12_seen, 3, (some .int), 3)
theorem pd_X12_seen : (parseMethodDescriptor yX12_seen.desc).map (fun d => d.parameters.length) = some 2 := by decide +kernel
theorem iw_X12_seen : Cond.instanceMethod yX12_seen ∈ lw_tbl := (tb_8 (List.mem_of_getElem? (i := 219) (by decide +kernel)))
theorem sl_X12_seen : Cond.selects yX12_seen.cls yX12_seen yX12_seen ∈ lw_tbl := tb_sel (q := (yX12_seen, 86)) 85 (by decide +kernel)
theorem mV_X12_seen : am_mV gm_X12_seen 2 := ⟨⟨cd_X12_seen, ini_RX12, nh_RX12, pd_X12_seen, Nat.le_of_ble_eq_true rfl⟩, iw_X12_seen, sl_X12_seen⟩
theorem cd_X12_count : Cond.code yX12_count cX12_count 4 (some .int) ∈ lw_tbl := (tb_8 (List.mem_of_getElem? (i := 216) (by decide +kernel)))
abbrev gm_X12_count : am_M := (yX12_count, cX12_count, 4, (some .int), 4)
theorem pd_X12_count : (parseMethodDescriptor yX12_count.desc).map (fun d => d.parameters.length) = some 2 := by decide +kernel
theorem iw_X12_count : Cond.instanceMethod yX12_count ∈ lw_tbl := (tb_8 (List.mem_of_getElem? (i := 215) (by decide +kernel)))
theorem sl_X12_count : Cond.selects yX12_count.cls yX12_count yX12_count ∈ lw_tbl := tb_sel (q := (yX12_count, 86)) 84 (by decide +kernel)
theorem mV_X12_count : am_mV gm_X12_count 2 := ⟨⟨cd_X12_count, ini_RX12, nh_RX12, pd_X12_count, Nat.le_of_ble_eq_true rfl⟩, iw_X12_count, sl_X12_count⟩
theorem cd_X12_isNamed : Cond.code yX12_isNamed cX12_isNamed 2 (some .boolean) ∈ lw_tbl := (tb_8 (List.mem_of_getElem? (i := 204) (by decide +kernel)))
abbrev gm_X12_isNamed : am_M := (yX12_isNamed, cX12_isNamed, 2, (some .boolean), 1)
theorem pd_X12_isNamed : (parseMethodDescriptor yX12_isNamed.desc).map (fun d => d.parameters.length) = some 0 := by decide +kernel
theorem iw_X12_isNamed : Cond.instanceMethod yX12_isNamed ∈ lw_tbl := (tb_8 (List.mem_of_getElem? (i := 203) (by decide +kernel)))
theorem sl_X12_isNamed : Cond.selects yX12_isNamed.cls yX12_isNamed yX12_isNamed ∈ lw_tbl := tb_sel (q := (yX12_isNamed, 86)) 81 (by decide +kernel)
theorem mV_X12_isNamed : am_mV gm_X12_isNamed 0 := ⟨⟨cd_X12_isNamed, ini_RX12, nh_RX12, pd_X12_isNamed, Nat.le_of_ble_eq_true rfl⟩, iw_X12_isNamed, sl_X12_isNamed⟩
theorem cd_X12_cell : Cond.code yX12_cell cX12_cell 4 (some .int) ∈ lw_tbl := (tb_8 (List.mem_of_getElem? (i := 208) (by decide +kernel)))
abbrev gm_X12_cell : am_M := (yX12_cell, cX12_cell, 4, (some .int), 1)
theorem pd_X12_cell : (parseMethodDescriptor yX12_cell.desc).map (fun d => d.parameters.length) = some 3 := by decide +kernel
theorem iw_X12_cell : Cond.instanceMethod yX12_cell ∈ lw_tbl := (tb_8 (List.mem_of_getElem? (i := 207) (by decide +kernel)))
theorem sl_X12_cell : Cond.selects yX12_cell.cls yX12_cell yX12_cell ∈ lw_tbl := tb_sel (q := (yX12_cell, 86)) 82 (by decide +kernel)
theorem mV_X12_cell : am_mV gm_X12_cell 3 := ⟨⟨cd_X12_cell, ini_RX12, nh_RX12, pd_X12_cell, Nat.le_of_ble_eq_true rfl⟩, iw_X12_cell, sl_X12_cell⟩
theorem cd_X12_readTrain : Cond.code yX12_readTrain cX12_readTrain 2 none ∈ lw_tbl := (tb_8 (List.mem_of_getElem? (i := 227) (by decide +kernel)))
abbrev gm_X12_readTrain : am_M := (yX12_readTrain, cX12_readTrain, 2, none, 5)
theorem pd_X12_readTrain : (parseMethodDescriptor yX12_readTrain.desc).map (fun d => d.parameters.length) = some 1 := by decide +kernel
theorem iw_X12_readTrain : Cond.instanceMethod yX12_readTrain ∈ lw_tbl := (tb_8 (List.mem_of_getElem? (i := 226) (by decide +kernel)))
theorem sl_X12_readTrain : Cond.selects yX12_readTrain.cls yX12_readTrain yX12_readTrain ∈ lw_tbl := tb_sel (q := (yX12_readTrain, 86)) 86 (by decide +kernel)
theorem mV_X12_readTrain : am_mV gm_X12_readTrain 1 := ⟨⟨cd_X12_readTrain, ini_RX12, nh_RX12, pd_X12_readTrain, Nat.le_of_ble_eq_true rfl⟩, iw_X12_readTrain, sl_X12_readTrain⟩
theorem cd_X12_readWave : Cond.code yX12_readWave cX12_readWave 4 none ∈ lw_tbl := (tb_8 (List.mem_of_getElem? (i := 160) (by decide +kernel)))
abbrev gm_X12_readWave : am_M := (yX12_readWave, cX12_readWave, 4, none, 6)
theorem pd_X12_readWave : (parseMethodDescriptor yX12_readWave.desc).map (fun d => d.parameters.length) = some 0 := by decide +kernel
theorem iw_X12_readWave : Cond.instanceMethod yX12_readWave ∈ lw_tbl := (tb_8 (List.mem_of_getElem? (i := 159) (by decide +kernel)))
theorem sl_X12_readWave : Cond.selects yX12_readWave.cls yX12_readWave yX12_readWave ∈ lw_tbl := tb_sel (q := (yX12_readWave, 86)) 70 (by decide +kernel)
theorem mV_X12_readWave : am_mV gm_X12_readWave 0 := ⟨⟨cd_X12_readWave, ini_RX12, nh_RX12, pd_X12_readWave, Nat.le_of_ble_eq_true rfl⟩, iw_X12_readWave, sl_X12_readWave⟩
theorem cd_X12_readBox : Cond.code yX12_readBox cX12_readBox 4 none ∈ lw_tbl := (tb_8 (List.mem_of_getElem? (i := 231) (by decide +kernel)))
abbrev gm_X12_readBox : am_M := (yX12_readBox, cX12_readBox, 4, none, 5)
theorem pd_X12_readBox : (parseMethodDescriptor yX12_readBox.desc).map (fun d => d.parameters.length) = some 0 := by decide +kernel
theorem iw_X12_readBox : Cond.instanceMethod yX12_readBox ∈ lw_tbl := (tb_8 (List.mem_of_getElem? (i := 230) (by decide +kernel)))
theorem sl_X12_readBox : Cond.selects yX12_readBox.cls yX12_readBox yX12_readBox ∈ lw_tbl := tb_sel (q := (yX12_readBox, 86)) 87 (by decide +kernel)
theorem mV_X12_readBox : am_mV gm_X12_readBox 0 := ⟨⟨cd_X12_readBox, ini_RX12, nh_RX12, pd_X12_readBox, Nat.le_of_ble_eq_true rfl⟩, iw_X12_readBox, sl_X12_readBox⟩
theorem cd_X12_readRest : Cond.code yX12_readRest cX12_readRest 3 none ∈ lw_tbl := (tb_8 (List.mem_of_getElem? (i := 235) (by decide +kernel)))
abbrev gm_X12_readRest : am_M := (yX12_readRest, cX12_readRest, 3, none, 5)
theorem pd_X12_readRest : (parseMethodDescriptor yX12_readRest.desc).map (fun d => d.parameters.length) = some 0 := by decide +kernel
theorem iw_X12_readRest : Cond.instanceMethod yX12_readRest ∈ lw_tbl := (tb_8 (List.mem_of_getElem? (i := 234) (by decide +kernel)))
theorem sl_X12_readRest : Cond.selects yX12_readRest.cls yX12_readRest yX12_readRest ∈ lw_tbl := tb_sel (q := (yX12_readRest, 86)) 88 (by decide +kernel)
theorem mV_X12_readRest : am_mV gm_X12_readRest 0 := ⟨⟨cd_X12_readRest, ini_RX12, nh_RX12, pd_X12_readRest, Nat.le_of_ble_eq_true rfl⟩, iw_X12_readRest, sl_X12_readRest⟩
theorem cd_X12_lay : Cond.code yX12_lay cX12_lay 3 none ∈ lw_tbl := (tb_8 (List.mem_of_getElem? (i := 118) (by decide +kernel)))
abbrev gm_X12_lay : am_M := (yX12_lay, cX12_lay, 3, none, 1)
theorem pd_X12_lay : (parseMethodDescriptor yX12_lay.desc).map (fun d => d.parameters.length) = some 1 := by decide +kernel
theorem iw_X12_lay : Cond.instanceMethod yX12_lay ∈ lw_tbl := (tb_8 (List.mem_of_getElem? (i := 117) (by decide +kernel)))
theorem sl_X12_lay : Cond.selects yX12_lay.cls yX12_lay yX12_lay ∈ lw_tbl := tb_sel (q := (yX12_lay, 86)) 64 (by decide +kernel)
theorem mV_X12_lay : am_mV gm_X12_lay 1 := ⟨⟨cd_X12_lay, ini_RX12, nh_RX12, pd_X12_lay, Nat.le_of_ble_eq_true rfl⟩, iw_X12_lay, sl_X12_lay⟩
theorem cd_X12_feed : Cond.code yX12_feed cX12_feed 6 (some .int) ∈ lw_tbl := (tb_8 (List.mem_of_getElem? (i := 114) (by decide +kernel)))
abbrev gm_X12_feed : am_M := (yX12_feed, cX12_feed, 6, (some .int), 2)
theorem pd_X12_feed : (parseMethodDescriptor yX12_feed.desc).map (fun d => d.parameters.length) = some 5 := by decide +kernel
theorem iw_X12_feed : Cond.instanceMethod yX12_feed ∈ lw_tbl := (tb_8 (List.mem_of_getElem? (i := 112) (by decide +kernel)))
theorem sl_X12_feed : Cond.selects yX12_feed.cls yX12_feed yX12_feed ∈ lw_tbl := (tb_8 (List.mem_of_getElem? (i := 113) (by decide +kernel)))
theorem mV_X12_feed : am_mV gm_X12_feed 5 := ⟨⟨cd_X12_feed, ini_RX12, nh_RX12, pd_X12_feed, Nat.le_of_ble_eq_true rfl⟩, iw_X12_feed, sl_X12_feed⟩
theorem cd_X12_isMachine : Cond.code yX12_isMachine cX12_isMachine 1 (some .boolean) ∈ lw_tbl := (tb_8 (List.mem_of_getElem? (i := 125) (by decide +kernel)))
abbrev gm_X12_isMachine : am_M := (yX12_isMachine, cX12_isMachine, 1, (some .boolean), 1)
theorem pd_X12_isMachine : (parseMethodDescriptor yX12_isMachine.desc).map (fun d => d.parameters.length) = some 1 := by decide +kernel
theorem sw_X12_isMachine : Cond.static yX12_isMachine ∈ lw_tbl := (tb_8 (List.mem_of_getElem? (i := 124) (by decide +kernel)))
theorem mS_X12_isMachine : am_mS gm_X12_isMachine 1 := ⟨⟨cd_X12_isMachine, ini_RX12, nh_RX12, pd_X12_isMachine, Nat.le_of_ble_eq_true rfl⟩, sw_X12_isMachine⟩
theorem cd_X12_machine : Cond.code yX12_machine cX12_machine 4 (some .int) ∈ lw_tbl := (tb_8 (List.mem_of_getElem? (i := 122) (by decide +kernel)))
abbrev gm_X12_machine : am_M := (yX12_machine, cX12_machine, 4, (some .int), 7)
theorem pd_X12_machine : (parseMethodDescriptor yX12_machine.desc).map (fun d => d.parameters.length) = some 2 := by decide +kernel
theorem iw_X12_machine : Cond.instanceMethod yX12_machine ∈ lw_tbl := (tb_8 (List.mem_of_getElem? (i := 120) (by decide +kernel)))
theorem sl_X12_machine : Cond.selects yX12_machine.cls yX12_machine yX12_machine ∈ lw_tbl := (tb_8 (List.mem_of_getElem? (i := 121) (by decide +kernel)))
theorem mV_X12_machine : am_mV gm_X12_machine 2 := ⟨⟨cd_X12_machine, ini_RX12, nh_RX12, pd_X12_machine, Nat.le_of_ble_eq_true rfl⟩, iw_X12_machine, sl_X12_machine⟩
theorem cd_X12_fault : Cond.code yX12_fault cX12_fault 2 (some .int) ∈ lw_tbl := (tb_8 (List.mem_of_getElem? (i := 239) (by decide +kernel)))
abbrev gm_X12_fault : am_M := (yX12_fault, cX12_fault, 2, (some .int), 1)
theorem pd_X12_fault : (parseMethodDescriptor yX12_fault.desc).map (fun d => d.parameters.length) = some 1 := by decide +kernel
theorem iw_X12_fault : Cond.instanceMethod yX12_fault ∈ lw_tbl := (tb_8 (List.mem_of_getElem? (i := 237) (by decide +kernel)))
theorem sl_X12_fault : Cond.selects yX12_fault.cls yX12_fault yX12_fault ∈ lw_tbl := (tb_8 (List.mem_of_getElem? (i := 238) (by decide +kernel)))
theorem mV_X12_fault : am_mV gm_X12_fault 1 := ⟨⟨cd_X12_fault, ini_RX12, nh_RX12, pd_X12_fault, Nat.le_of_ble_eq_true rfl⟩, iw_X12_fault, sl_X12_fault⟩
theorem cd_X12_isWaveOf : Cond.code yX12_isWaveOf cX12_isWaveOf 3 (some .boolean) ∈ lw_tbl := (tb_9 (List.mem_of_getElem? (i := 11) (by decide +kernel)))
abbrev gm_X12_isWaveOf : am_M := (yX12_isWaveOf, cX12_isWaveOf, 3, (some .boolean), 2)
theorem pd_X12_isWaveOf : (parseMethodDescriptor yX12_isWaveOf.desc).map (fun d => d.parameters.length) = some 2 := by decide +kernel
theorem iw_X12_isWaveOf : Cond.instanceMethod yX12_isWaveOf ∈ lw_tbl := (tb_9 (List.mem_of_getElem? (i := 10) (by decide +kernel)))
theorem sl_X12_isWaveOf : Cond.selects yX12_isWaveOf.cls yX12_isWaveOf yX12_isWaveOf ∈ lw_tbl := tb_sel (q := (yX12_isWaveOf, 86)) 89 (by decide +kernel)
theorem mV_X12_isWaveOf : am_mV gm_X12_isWaveOf 2 := ⟨⟨cd_X12_isWaveOf, ini_RX12, nh_RX12, pd_X12_isWaveOf, Nat.le_of_ble_eq_true rfl⟩, iw_X12_isWaveOf, sl_X12_isWaveOf⟩
theorem cd_X12_isHour : Cond.code yX12_isHour cX12_isHour 1 (some .boolean) ∈ lw_tbl := (tb_9 (List.mem_of_getElem? (i := 33) (by decide +kernel)))
abbrev gm_X12_isHour : am_M := (yX12_isHour, cX12_isHour, 1, (some .boolean), 2)
theorem pd_X12_isHour : (parseMethodDescriptor yX12_isHour.desc).map (fun d => d.parameters.length) = some 1 := by decide +kernel
theorem sw_X12_isHour : Cond.static yX12_isHour ∈ lw_tbl := (tb_9 (List.mem_of_getElem? (i := 32) (by decide +kernel)))
theorem mS_X12_isHour : am_mS gm_X12_isHour 1 := ⟨⟨cd_X12_isHour, ini_RX12, nh_RX12, pd_X12_isHour, Nat.le_of_ble_eq_true rfl⟩, sw_X12_isHour⟩
theorem cd_X12_told : Cond.code yX12_told cX12_told 3 (some .int) ∈ lw_tbl := (tb_9 (List.mem_of_getElem? (i := 3) (by decide +kernel)))
abbrev gm_X12_told : am_M := (yX12_told, cX12_told, 3, (some .int), 2)
theorem pd_X12_told : (parseMethodDescriptor yX12_told.desc).map (fun d => d.parameters.length) = some 2 := by decide +kernel
theorem iw_X12_told : Cond.instanceMethod yX12_told ∈ lw_tbl := (tb_9 (List.mem_of_getElem? (i := 1) (by decide +kernel)))
theorem sl_X12_told : Cond.selects yX12_told.cls yX12_told yX12_told ∈ lw_tbl := (tb_9 (List.mem_of_getElem? (i := 2) (by decide +kernel)))
theorem mV_X12_told : am_mV gm_X12_told 2 := ⟨⟨cd_X12_told, ini_RX12, nh_RX12, pd_X12_told, Nat.le_of_ble_eq_true rfl⟩, iw_X12_told, sl_X12_told⟩
theorem cd_X12_of : Cond.code yX12_of cX12_of 4 (some .int) ∈ lw_tbl := (tb_9 (List.mem_of_getElem? (i := 20) (by decide +kernel)))
abbrev gm_X12_of : am_M := (yX12_of, cX12_of, 4, (some .int), 2)
theorem pd_X12_of : (parseMethodDescriptor yX12_of.desc).map (fun d => d.parameters.length) = some 3 := by decide +kernel
theorem iw_X12_of : Cond.instanceMethod yX12_of ∈ lw_tbl := (tb_9 (List.mem_of_getElem? (i := 19) (by decide +kernel)))
theorem sl_X12_of : Cond.selects yX12_of.cls yX12_of yX12_of ∈ lw_tbl := tb_sel (q := (yX12_of, 86)) 91 (by decide +kernel)
theorem mV_X12_of : am_mV gm_X12_of 3 := ⟨⟨cd_X12_of, ini_RX12, nh_RX12, pd_X12_of, Nat.le_of_ble_eq_true rfl⟩, iw_X12_of, sl_X12_of⟩
theorem cd_X12_hasTrain : Cond.code yX12_hasTrain cX12_hasTrain 3 (some .boolean) ∈ lw_tbl := (tb_9 (List.mem_of_getElem? (i := 16) (by decide +kernel)))
abbrev gm_X12_hasTrain : am_M := (yX12_hasTrain, cX12_hasTrain, 3, (some .boolean), 3)
theorem pd_X12_hasTrain : (parseMethodDescriptor yX12_hasTrain.desc).map (fun d => d.parameters.length) = some 2 := by decide +kernel
theorem iw_X12_hasTrain : Cond.instanceMethod yX12_hasTrain ∈ lw_tbl := (tb_9 (List.mem_of_getElem? (i := 15) (by decide +kernel)))
theorem sl_X12_hasTrain : Cond.selects yX12_hasTrain.cls yX12_hasTrain yX12_hasTrain ∈ lw_tbl := tb_sel (q := (yX12_hasTrain, 86)) 90 (by decide +kernel)
theorem mV_X12_hasTrain : am_mV gm_X12_hasTrain 2 := ⟨⟨cd_X12_hasTrain, ini_RX12, nh_RX12, pd_X12_hasTrain, Nat.le_of_ble_eq_true rfl⟩, iw_X12_hasTrain, sl_X12_hasTrain⟩
theorem cd_X12_wave : Cond.code yX12_wave cX12_wave 4 (some .int) ∈ lw_tbl := (tb_9 (List.mem_of_getElem? (i := 7) (by decide +kernel)))
abbrev gm_X12_wave : am_M := (yX12_wave, cX12_wave, 4, (some .int), 4)
theorem pd_X12_wave : (parseMethodDescriptor yX12_wave.desc).map (fun d => d.parameters.length) = some 3 := by decide +kernel
theorem iw_X12_wave : Cond.instanceMethod yX12_wave ∈ lw_tbl := (tb_9 (List.mem_of_getElem? (i := 5) (by decide +kernel)))
theorem sl_X12_wave : Cond.selects yX12_wave.cls yX12_wave yX12_wave ∈ lw_tbl := (tb_9 (List.mem_of_getElem? (i := 6) (by decide +kernel)))
theorem mV_X12_wave : am_mV gm_X12_wave 3 := ⟨⟨cd_X12_wave, ini_RX12, nh_RX12, pd_X12_wave, Nat.le_of_ble_eq_true rfl⟩, iw_X12_wave, sl_X12_wave⟩
theorem cd_X12_set : Cond.code yX12_set cX12_set 5 (some .boolean) ∈ lw_tbl := (tb_9 (List.mem_of_getElem? (i := 24) (by decide +kernel)))
abbrev gm_X12_set : am_M := (yX12_set, cX12_set, 5, (some .boolean), 3)
theorem pd_X12_set : (parseMethodDescriptor yX12_set.desc).map (fun d => d.parameters.length) = some 4 := by decide +kernel
theorem iw_X12_set : Cond.instanceMethod yX12_set ∈ lw_tbl := (tb_9 (List.mem_of_getElem? (i := 22) (by decide +kernel)))
theorem sl_X12_set : Cond.selects yX12_set.cls yX12_set yX12_set ∈ lw_tbl := (tb_9 (List.mem_of_getElem? (i := 23) (by decide +kernel)))
theorem mV_X12_set : am_mV gm_X12_set 4 := ⟨⟨cd_X12_set, ini_RX12, nh_RX12, pd_X12_set, Nat.le_of_ble_eq_true rfl⟩, iw_X12_set, sl_X12_set⟩
theorem cd_X12_cosine : Cond.code yX12_cosine cX12_cosine 2 (some .int) ∈ lw_tbl := (tb_9 (List.mem_of_getElem? (i := 62) (by decide +kernel)))
abbrev gm_X12_cosine : am_M := (yX12_cosine, cX12_cosine, 2, (some .int), 1)
theorem pd_X12_cosine : (parseMethodDescriptor yX12_cosine.desc).map (fun d => d.parameters.length) = some 1 := by decide +kernel
theorem sw_X12_cosine : Cond.static yX12_cosine ∈ lw_tbl := (tb_9 (List.mem_of_getElem? (i := 61) (by decide +kernel)))
theorem mS_X12_cosine : am_mS gm_X12_cosine 1 := ⟨⟨cd_X12_cosine, ini_RX12, nh_RX12, pd_X12_cosine, Nat.le_of_ble_eq_true rfl⟩, sw_X12_cosine⟩
theorem cd_X12_sine : Cond.code yX12_sine cX12_sine 1 (some .int) ∈ lw_tbl := (tb_9 (List.mem_of_getElem? (i := 169) (by decide +kernel)))
abbrev gm_X12_sine : am_M := (yX12_sine, cX12_sine, 1, (some .int), 2)
theorem pd_X12_sine : (parseMethodDescriptor yX12_sine.desc).map (fun d => d.parameters.length) = some 1 := by decide +kernel
theorem sw_X12_sine : Cond.static yX12_sine ∈ lw_tbl := (tb_9 (List.mem_of_getElem? (i := 168) (by decide +kernel)))
theorem mS_X12_sine : am_mS gm_X12_sine 1 := ⟨⟨cd_X12_sine, ini_RX12, nh_RX12, pd_X12_sine, Nat.le_of_ble_eq_true rfl⟩, sw_X12_sine⟩
theorem cd_X12_trueFrom : Cond.code yX12_trueFrom cX12_trueFrom 4 (some .int) ∈ lw_tbl := (tb_9 (List.mem_of_getElem? (i := 50) (by decide +kernel)))
abbrev gm_X12_trueFrom : am_M := (yX12_trueFrom, cX12_trueFrom, 4, (some .int), 3)
theorem pd_X12_trueFrom : (parseMethodDescriptor yX12_trueFrom.desc).map (fun d => d.parameters.length) = some 3 := by decide +kernel
theorem iw_X12_trueFrom : Cond.instanceMethod yX12_trueFrom ∈ lw_tbl := (tb_9 (List.mem_of_getElem? (i := 49) (by decide +kernel)))
theorem sl_X12_trueFrom : Cond.selects yX12_trueFrom.cls yX12_trueFrom yX12_trueFrom ∈ lw_tbl := tb_sel (q := (yX12_trueFrom, 86)) 95 (by decide +kernel)
theorem mV_X12_trueFrom : am_mV gm_X12_trueFrom 3 := ⟨⟨cd_X12_trueFrom, ini_RX12, nh_RX12, pd_X12_trueFrom, Nat.le_of_ble_eq_true rfl⟩, iw_X12_trueFrom, sl_X12_trueFrom⟩
theorem cd_X12_truePlace : Cond.code yX12_truePlace cX12_truePlace 4 (some .int) ∈ lw_tbl := (tb_9 (List.mem_of_getElem? (i := 46) (by decide +kernel)))
abbrev gm_X12_truePlace : am_M := (yX12_truePlace, cX12_truePlace, 4, (some .int), 4)
theorem pd_X12_truePlace : (parseMethodDescriptor yX12_truePlace.desc).map (fun d => d.parameters.length) = some 3 := by decide +kernel
theorem iw_X12_truePlace : Cond.instanceMethod yX12_truePlace ∈ lw_tbl := (tb_9 (List.mem_of_getElem? (i := 45) (by decide +kernel)))
theorem sl_X12_truePlace : Cond.selects yX12_truePlace.cls yX12_truePlace yX12_truePlace ∈ lw_tbl := tb_sel (q := (yX12_truePlace, 86)) 94 (by decide +kernel)
theorem mV_X12_truePlace : am_mV gm_X12_truePlace 3 := ⟨⟨cd_X12_truePlace, ini_RX12, nh_RX12, pd_X12_truePlace, Nat.le_of_ble_eq_true rfl⟩, iw_X12_truePlace, sl_X12_truePlace⟩
theorem cd_X12_turnedPlace : Cond.code yX12_turnedPlace cX12_turnedPlace 8 (some .int) ∈ lw_tbl := (tb_9 (List.mem_of_getElem? (i := 42) (by decide +kernel)))
abbrev gm_X12_turnedPlace : am_M := (yX12_turnedPlace, cX12_turnedPlace, 8, (some .int), 5)
theorem pd_X12_turnedPlace : (parseMethodDescriptor yX12_turnedPlace.desc).map (fun d => d.parameters.length) = some 3 := by decide +kernel
theorem iw_X12_turnedPlace : Cond.instanceMethod yX12_turnedPlace ∈ lw_tbl := (tb_9 (List.mem_of_getElem? (i := 41) (by decide +kernel)))
theorem sl_X12_turnedPlace : Cond.selects yX12_turnedPlace.cls yX12_turnedPlace yX12_turnedPlace ∈ lw_tbl := tb_sel (q := (yX12_turnedPlace, 86)) 93 (by decide +kernel)
theorem mV_X12_turnedPlace : am_mV gm_X12_turnedPlace 3 := ⟨⟨cd_X12_turnedPlace, ini_RX12, nh_RX12, pd_X12_turnedPlace, Nat.le_of_ble_eq_true rfl⟩, iw_X12_turnedPlace, sl_X12_turnedPlace⟩
theorem cd_X12_placeOf : Cond.code yX12_placeOf cX12_placeOf 5 (some .int) ∈ lw_tbl := (tb_9 (List.mem_of_getElem? (i := 38) (by decide +kernel)))
abbrev gm_X12_placeOf : am_M := (yX12_placeOf, cX12_placeOf, 5, (some .int), 6)
theorem pd_X12_placeOf : (parseMethodDescriptor yX12_placeOf.desc).map (fun d => d.parameters.length) = some 4 := by decide +kernel
theorem iw_X12_placeOf : Cond.instanceMethod yX12_placeOf ∈ lw_tbl := (tb_9 (List.mem_of_getElem? (i := 37) (by decide +kernel)))
theorem sl_X12_placeOf : Cond.selects yX12_placeOf.cls yX12_placeOf yX12_placeOf ∈ lw_tbl := tb_sel (q := (yX12_placeOf, 86)) 92 (by decide +kernel)
theorem mV_X12_placeOf : am_mV gm_X12_placeOf 4 := ⟨⟨cd_X12_placeOf, ini_RX12, nh_RX12, pd_X12_placeOf, Nat.le_of_ble_eq_true rfl⟩, iw_X12_placeOf, sl_X12_placeOf⟩
theorem cd_X12_heightOf : Cond.code yX12_heightOf cX12_heightOf 6 (some .int) ∈ lw_tbl := (tb_9 (List.mem_of_getElem? (i := 59) (by decide +kernel)))
abbrev gm_X12_heightOf : am_M := (yX12_heightOf, cX12_heightOf, 6, (some .int), 7)
theorem pd_X12_heightOf : (parseMethodDescriptor yX12_heightOf.desc).map (fun d => d.parameters.length) = some 3 := by decide +kernel
theorem iw_X12_heightOf : Cond.instanceMethod yX12_heightOf ∈ lw_tbl := (tb_9 (List.mem_of_getElem? (i := 58) (by decide +kernel)))
theorem sl_X12_heightOf : Cond.selects yX12_heightOf.cls yX12_heightOf yX12_heightOf ∈ lw_tbl := tb_sel (q := (yX12_heightOf, 86)) 96 (by decide +kernel)
theorem mV_X12_heightOf : am_mV gm_X12_heightOf 3 := ⟨⟨cd_X12_heightOf, ini_RX12, nh_RX12, pd_X12_heightOf, Nat.le_of_ble_eq_true rfl⟩, iw_X12_heightOf, sl_X12_heightOf⟩
theorem cd_X12_place : Cond.code yX12_place cX12_place 5 (some .int) ∈ lw_tbl := (tb_9 (List.mem_of_getElem? (i := 30) (by decide +kernel)))
abbrev gm_X12_place : am_M := (yX12_place, cX12_place, 5, (some .int), 7)
theorem pd_X12_place : (parseMethodDescriptor yX12_place.desc).map (fun d => d.parameters.length) = some 4 := by decide +kernel
theorem iw_X12_place : Cond.instanceMethod yX12_place ∈ lw_tbl := (tb_9 (List.mem_of_getElem? (i := 28) (by decide +kernel)))
theorem sl_X12_place : Cond.selects yX12_place.cls yX12_place yX12_place ∈ lw_tbl := (tb_9 (List.mem_of_getElem? (i := 29) (by decide +kernel)))
theorem mV_X12_place : am_mV gm_X12_place 4 := ⟨⟨cd_X12_place, ini_RX12, nh_RX12, pd_X12_place, Nat.le_of_ble_eq_true rfl⟩, iw_X12_place, sl_X12_place⟩
theorem cd_X12_height : Cond.code yX12_height cX12_height 4 (some .int) ∈ lw_tbl := (tb_9 (List.mem_of_getElem? (i := 55) (by decide +kernel)))
abbrev gm_X12_height : am_M := (yX12_height, cX12_height, 4, (some .int), 8)
theorem pd_X12_height : (parseMethodDescriptor yX12_height.desc).map (fun d => d.parameters.length) = some 3 := by decide +kernel
theorem iw_X12_height : Cond.instanceMethod yX12_height ∈ lw_tbl := (tb_9 (List.mem_of_getElem? (i := 53) (by decide +kernel)))
theorem sl_X12_height : Cond.selects yX12_height.cls yX12_height yX12_height ∈ lw_tbl := (tb_9 (List.mem_of_getElem? (i := 54) (by decide +kernel)))
theorem mV_X12_height : am_mV gm_X12_height 3 := ⟨⟨cd_X12_height, ini_RX12, nh_RX12, pd_X12_height, Nat.le_of_ble_eq_true rfl⟩, iw_X12_height, sl_X12_height⟩
theorem cd_X12_pointer : Cond.code yX12_pointer cX12_pointer 7 (some .int) ∈ lw_tbl := (tb_9 (List.mem_of_getElem? (i := 66) (by decide +kernel)))
abbrev gm_X12_pointer : am_M := (yX12_pointer, cX12_pointer, 7, (some .int), 8)
theorem pd_X12_pointer : (parseMethodDescriptor yX12_pointer.desc).map (fun d => d.parameters.length) = some 3 := by decide +kernel
theorem iw_X12_pointer : Cond.instanceMethod yX12_pointer ∈ lw_tbl := (tb_9 (List.mem_of_getElem? (i := 64) (by decide +kernel)))
theorem sl_X12_pointer : Cond.selects yX12_pointer.cls yX12_pointer yX12_pointer ∈ lw_tbl := (tb_9 (List.mem_of_getElem? (i := 65) (by decide +kernel)))
theorem mV_X12_pointer : am_mV gm_X12_pointer 3 := ⟨⟨cd_X12_pointer, ini_RX12, nh_RX12, pd_X12_pointer, Nat.le_of_ble_eq_true rfl⟩, iw_X12_pointer, sl_X12_pointer⟩
theorem cd_X12_offOf : Cond.code yX12_offOf cX12_offOf 7 (some .long) ∈ lw_tbl := (tb_9 (List.mem_of_getElem? (i := 75) (by decide +kernel)))
abbrev gm_X12_offOf : am_M := (yX12_offOf, cX12_offOf, 7, (some .long), 3)
theorem pd_X12_offOf : (parseMethodDescriptor yX12_offOf.desc).map (fun d => d.parameters.length) = some 4 := by decide +kernel
theorem iw_X12_offOf : Cond.instanceMethod yX12_offOf ∈ lw_tbl := (tb_9 (List.mem_of_getElem? (i := 74) (by decide +kernel)))
theorem sl_X12_offOf : Cond.selects yX12_offOf.cls yX12_offOf yX12_offOf ∈ lw_tbl := tb_sel (q := (yX12_offOf, 86)) 97 (by decide +kernel)
theorem mV_X12_offOf : am_mV gm_X12_offOf 4 := ⟨⟨cd_X12_offOf, ini_RX12, nh_RX12, pd_X12_offOf, Nat.le_of_ble_eq_true rfl⟩, iw_X12_offOf, sl_X12_offOf⟩
theorem cd_X12_off : Cond.code yX12_off cX12_off 6 (some .boolean) ∈ lw_tbl := (tb_9 (List.mem_of_getElem? (i := 71) (by decide +kernel)))
abbrev gm_X12_off : am_M := (yX12_off, cX12_off, 6, (some .boolean), 4)
theorem pd_X12_off : (parseMethodDescriptor yX12_off.desc).map (fun d => d.parameters.length) = some 3 := by decide +kernel
theorem iw_X12_off : Cond.instanceMethod yX12_off ∈ lw_tbl := (tb_9 (List.mem_of_getElem? (i := 69) (by decide +kernel)))
theorem sl_X12_off : Cond.selects yX12_off.cls yX12_off yX12_off ∈ lw_tbl := (tb_9 (List.mem_of_getElem? (i := 70) (by decide +kernel)))
theorem mV_X12_off : am_mV gm_X12_off 3 := ⟨⟨cd_X12_off, ini_RX12, nh_RX12, pd_X12_off, Nat.le_of_ble_eq_true rfl⟩, iw_X12_off, sl_X12_off⟩
theorem cd_X12_teeth : Cond.code yX12_teeth cX12_teeth 3 (some .int) ∈ lw_tbl := (tb_9 (List.mem_of_getElem? (i := 101) (by decide +kernel)))
abbrev gm_X12_teeth : am_M := (yX12_teeth, cX12_teeth, 3, (some .int), 1)
theorem pd_X12_teeth : (parseMethodDescriptor yX12_teeth.desc).map (fun d => d.parameters.length) = some 2 := by decide +kernel
theorem iw_X12_teeth : Cond.instanceMethod yX12_teeth ∈ lw_tbl := (tb_9 (List.mem_of_getElem? (i := 100) (by decide +kernel)))
theorem sl_X12_teeth : Cond.selects yX12_teeth.cls yX12_teeth yX12_teeth ∈ lw_tbl := tb_sel (q := (yX12_teeth, 86)) 102 (by decide +kernel)
theorem mV_X12_teeth : am_mV gm_X12_teeth 2 := ⟨⟨cd_X12_teeth, ini_RX12, nh_RX12, pd_X12_teeth, Nat.le_of_ble_eq_true rfl⟩, iw_X12_teeth, sl_X12_teeth⟩
theorem cd_X12_boxed : Cond.code yX12_boxed cX12_boxed 3 (some .int) ∈ lw_tbl := (tb_9 (List.mem_of_getElem? (i := 93) (by decide +kernel)))
abbrev gm_X12_boxed : am_M := (yX12_boxed, cX12_boxed, 3, (some .int), 1)
theorem pd_X12_boxed : (parseMethodDescriptor yX12_boxed.desc).map (fun d => d.parameters.length) = some 2 := by decide +kernel
theorem iw_X12_boxed : Cond.instanceMethod yX12_boxed ∈ lw_tbl := (tb_9 (List.mem_of_getElem? (i := 92) (by decide +kernel)))
theorem sl_X12_boxed : Cond.selects yX12_boxed.cls yX12_boxed yX12_boxed ∈ lw_tbl := tb_sel (q := (yX12_boxed, 86)) 100 (by decide +kernel)
theorem mV_X12_boxed : am_mV gm_X12_boxed 2 := ⟨⟨cd_X12_boxed, ini_RX12, nh_RX12, pd_X12_boxed, Nat.le_of_ble_eq_true rfl⟩, iw_X12_boxed, sl_X12_boxed⟩
theorem cd_X12_hasAll : Cond.code yX12_hasAll cX12_hasAll 6 (some .boolean) ∈ lw_tbl := (tb_9 (List.mem_of_getElem? (i := 89) (by decide +kernel)))
abbrev gm_X12_hasAll : am_M := (yX12_hasAll, cX12_hasAll, 6, (some .boolean), 2)
theorem pd_X12_hasAll : (parseMethodDescriptor yX12_hasAll.desc).map (fun d => d.parameters.length) = some 2 := by decide +kernel
theorem iw_X12_hasAll : Cond.instanceMethod yX12_hasAll ∈ lw_tbl := (tb_9 (List.mem_of_getElem? (i := 88) (by decide +kernel)))
theorem sl_X12_hasAll : Cond.selects yX12_hasAll.cls yX12_hasAll yX12_hasAll ∈ lw_tbl := tb_sel (q := (yX12_hasAll, 86)) 99 (by decide +kernel)
theorem mV_X12_hasAll : am_mV gm_X12_hasAll 2 := ⟨⟨cd_X12_hasAll, ini_RX12, nh_RX12, pd_X12_hasAll, Nat.le_of_ble_eq_true rfl⟩, iw_X12_hasAll, sl_X12_hasAll⟩
theorem cd_X12_goesOn : Cond.code yX12_goesOn cX12_goesOn 4 (some .boolean) ∈ lw_tbl := (tb_9 (List.mem_of_getElem? (i := 109) (by decide +kernel)))
abbrev gm_X12_goesOn : am_M := (yX12_goesOn, cX12_goesOn, 4, (some .boolean), 1)
theorem pd_X12_goesOn : (parseMethodDescriptor yX12_goesOn.desc).map (fun d => d.parameters.length) = some 2 := by decide +kernel
theorem iw_X12_goesOn : Cond.instanceMethod yX12_goesOn ∈ lw_tbl := (tb_9 (List.mem_of_getElem? (i := 108) (by decide +kernel)))
theorem sl_X12_goesOn : Cond.selects yX12_goesOn.cls yX12_goesOn yX12_goesOn ∈ lw_tbl := tb_sel (q := (yX12_goesOn, 86)) 104 (by decide +kernel)
theorem mV_X12_goesOn : am_mV gm_X12_goesOn 2 := ⟨⟨cd_X12_goesOn, ini_RX12, nh_RX12, pd_X12_goesOn, Nat.le_of_ble_eq_true rfl⟩, iw_X12_goesOn, sl_X12_goesOn⟩
theorem cd_X12_product : Cond.code yX12_product cX12_product 7 (some .long) ∈ lw_tbl := (tb_9 (List.mem_of_getElem? (i := 97) (by decide +kernel)))
abbrev gm_X12_product : am_M := (yX12_product, cX12_product, 7, (some .long), 2)
theorem pd_X12_product : (parseMethodDescriptor yX12_product.desc).map (fun d => d.parameters.length) = some 3 := by decide +kernel
theorem iw_X12_product : Cond.instanceMethod yX12_product ∈ lw_tbl := (tb_9 (List.mem_of_getElem? (i := 96) (by decide +kernel)))
theorem sl_X12_product : Cond.selects yX12_product.cls yX12_product yX12_product ∈ lw_tbl := tb_sel (q := (yX12_product, 86)) 101 (by decide +kernel)
theorem mV_X12_product : am_mV gm_X12_product 3 := ⟨⟨cd_X12_product, ini_RX12, nh_RX12, pd_X12_product, Nat.le_of_ble_eq_true rfl⟩, iw_X12_product, sl_X12_product⟩
theorem cd_X12_teethOf : Cond.code yX12_teethOf cX12_teethOf 5 (some .int) ∈ lw_tbl := (tb_9 (List.mem_of_getElem? (i := 105) (by decide +kernel)))
abbrev gm_X12_teethOf : am_M := (yX12_teethOf, cX12_teethOf, 5, (some .int), 2)
theorem pd_X12_teethOf : (parseMethodDescriptor yX12_teethOf.desc).map (fun d => d.parameters.length) = some 2 := by decide +kernel
theorem iw_X12_teethOf : Cond.instanceMethod yX12_teethOf ∈ lw_tbl := (tb_9 (List.mem_of_getElem? (i := 104) (by decide +kernel)))
theorem sl_X12_teethOf : Cond.selects yX12_teethOf.cls yX12_teethOf yX12_teethOf ∈ lw_tbl := tb_sel (q := (yX12_teethOf, 86)) 103 (by decide +kernel)
theorem mV_X12_teethOf : am_mV gm_X12_teethOf 2 := ⟨⟨cd_X12_teethOf, ini_RX12, nh_RX12, pd_X12_teethOf, Nat.le_of_ble_eq_true rfl⟩, iw_X12_teethOf, sl_X12_teethOf⟩
theorem cd_X12_train : Cond.code yX12_train cX12_train 19 (some .int) ∈ lw_tbl := (tb_9 (List.mem_of_getElem? (i := 84) (by decide +kernel)))
abbrev gm_X12_train : am_M := (yX12_train, cX12_train, 19, (some .int), 4)
theorem pd_X12_train : (parseMethodDescriptor yX12_train.desc).map (fun d => d.parameters.length) = some 3 := by decide +kernel
theorem iw_X12_train : Cond.instanceMethod yX12_train ∈ lw_tbl := (tb_9 (List.mem_of_getElem? (i := 82) (by decide +kernel)))
theorem sl_X12_train : Cond.selects yX12_train.cls yX12_train yX12_train ∈ lw_tbl := (tb_9 (List.mem_of_getElem? (i := 83) (by decide +kernel)))
theorem mV_X12_train : am_mV gm_X12_train 3 := ⟨⟨cd_X12_train, ini_RX12, nh_RX12, pd_X12_train, Nat.le_of_ble_eq_true rfl⟩, iw_X12_train, sl_X12_train⟩
theorem cd_X12_trained : Cond.code yX12_trained cX12_trained 2 (some .int) ∈ lw_tbl := (tb_9 (List.mem_of_getElem? (i := 113) (by decide +kernel)))
abbrev gm_X12_trained : am_M := (yX12_trained, cX12_trained, 2, (some .int), 2)
theorem pd_X12_trained : (parseMethodDescriptor yX12_trained.desc).map (fun d => d.parameters.length) = some 1 := by decide +kernel
theorem iw_X12_trained : Cond.instanceMethod yX12_trained ∈ lw_tbl := (tb_9 (List.mem_of_getElem? (i := 111) (by decide +kernel)))
theorem sl_X12_trained : Cond.selects yX12_trained.cls yX12_trained yX12_trained ∈ lw_tbl := (tb_9 (List.mem_of_getElem? (i := 112) (by decide +kernel)))
theorem mV_X12_trained : am_mV gm_X12_trained 1 := ⟨⟨cd_X12_trained, ini_RX12, nh_RX12, pd_X12_trained, Nat.le_of_ble_eq_true rfl⟩, iw_X12_trained, sl_X12_trained⟩
theorem cd_J6_numberOfTrailingZeros_0f7a4 : Cond.code yJ6_numberOfTrailingZeros_0f7a4 cJ6_numberOfTrailingZeros_0f7a4 2 (some .int) ∈ lw_tbl := (tb_9 (List.mem_of_getElem? (i := 126) (by decide +kernel)))
abbrev gm_J6_numberOfTrailingZeros_0f7a4 : am_M := (yJ6_numberOfTrailingZeros_0f7a4, cJ6_numberOfTrailingZeros_0f7a4, 2, (some .int), 1)
theorem pd_J6_numberOfTrailingZeros_0f7a4 : (parseMethodDescriptor yJ6_numberOfTrailingZeros_0f7a4.desc).map (fun d => d.parameters.length) = some 1 := by decide +kernel
theorem sw_J6_numberOfTrailingZeros_0f7a4 : Cond.static yJ6_numberOfTrailingZeros_0f7a4 ∈ lw_tbl := (tb_9 (List.mem_of_getElem? (i := 125) (by decide +kernel)))
theorem mS_J6_numberOfTrailingZeros_0f7a4 : am_mS gm_J6_numberOfTrailingZeros_0f7a4 1 := ⟨⟨cd_J6_numberOfTrailingZeros_0f7a4, ini_RJ6, nh_RJ6, pd_J6_numberOfTrailingZeros_0f7a4, Nat.le_of_ble_eq_true rfl⟩, sw_J6_numberOfTrailingZeros_0f7a4⟩
theorem cd_X12_shareFrom : Cond.code yX12_shareFrom cX12_shareFrom 11 none ∈ lw_tbl := (tb_9 (List.mem_of_getElem? (i := 123) (by decide +kernel)))
abbrev gm_X12_shareFrom (n : Nat) : am_M := (yX12_shareFrom, cX12_shareFrom, 11, none, 5 + 1 * n)
theorem pd_X12_shareFrom : (parseMethodDescriptor yX12_shareFrom.desc).map (fun d => d.parameters.length) = some 5 := by decide +kernel
theorem iw_X12_shareFrom : Cond.instanceMethod yX12_shareFrom ∈ lw_tbl := (tb_9 (List.mem_of_getElem? (i := 122) (by decide +kernel)))
theorem sl_X12_shareFrom : Cond.selects yX12_shareFrom.cls yX12_shareFrom yX12_shareFrom ∈ lw_tbl := tb_sel (q := (yX12_shareFrom, 86)) 105 (by decide +kernel)
theorem mV_X12_shareFrom (n : Nat) : am_mV (gm_X12_shareFrom n) 5 := ⟨⟨cd_X12_shareFrom, ini_RX12, nh_RX12, pd_X12_shareFrom, Nat.le_of_ble_eq_true rfl⟩, iw_X12_shareFrom, sl_X12_shareFrom⟩
theorem cd_X12_share : Cond.code yX12_share cX12_share 5 (some .int) ∈ lw_tbl := (tb_9 (List.mem_of_getElem? (i := 117) (by decide +kernel)))
abbrev gm_X12_share : am_M := (yX12_share, cX12_share, 5, (some .int), 14)
theorem pd_X12_share : (parseMethodDescriptor yX12_share.desc).map (fun d => d.parameters.length) = some 4 := by decide +kernel
theorem iw_X12_share : Cond.instanceMethod yX12_share ∈ lw_tbl := (tb_9 (List.mem_of_getElem? (i := 115) (by decide +kernel)))
theorem sl_X12_share : Cond.selects yX12_share.cls yX12_share yX12_share ∈ lw_tbl := (tb_9 (List.mem_of_getElem? (i := 116) (by decide +kernel)))
theorem mV_X12_share : am_mV gm_X12_share 4 := ⟨⟨cd_X12_share, ini_RX12, nh_RX12, pd_X12_share, Nat.le_of_ble_eq_true rfl⟩, iw_X12_share, sl_X12_share⟩
theorem cd_X12_shared : Cond.code yX12_shared cX12_shared 2 (some .int) ∈ lw_tbl := (tb_9 (List.mem_of_getElem? (i := 131) (by decide +kernel)))
abbrev gm_X12_shared : am_M := (yX12_shared, cX12_shared, 2, (some .int), 2)
theorem pd_X12_shared : (parseMethodDescriptor yX12_shared.desc).map (fun d => d.parameters.length) = some 1 := by decide +kernel
theorem iw_X12_shared : Cond.instanceMethod yX12_shared ∈ lw_tbl := (tb_9 (List.mem_of_getElem? (i := 129) (by decide +kernel)))
theorem sl_X12_shared : Cond.selects yX12_shared.cls yX12_shared yX12_shared ∈ lw_tbl := (tb_9 (List.mem_of_getElem? (i := 130) (by decide +kernel)))
theorem mV_X12_shared : am_mV gm_X12_shared 1 := ⟨⟨cd_X12_shared, ini_RX12, nh_RX12, pd_X12_shared, Nat.le_of_ble_eq_true rfl⟩, iw_X12_shared, sl_X12_shared⟩
theorem cd_X12_isTray : Cond.code yX12_isTray cX12_isTray 2 (some .boolean) ∈ lw_tbl := (tb_9 (List.mem_of_getElem? (i := 139) (by decide +kernel)))
abbrev gm_X12_isTray : am_M := (yX12_isTray, cX12_isTray, 2, (some .boolean), 2)
theorem pd_X12_isTray : (parseMethodDescriptor yX12_isTray.desc).map (fun d => d.parameters.length) = some 1 := by decide +kernel
theorem iw_X12_isTray : Cond.instanceMethod yX12_isTray ∈ lw_tbl := (tb_9 (List.mem_of_getElem? (i := 138) (by decide +kernel)))
theorem sl_X12_isTray : Cond.selects yX12_isTray.cls yX12_isTray yX12_isTray ∈ lw_tbl := tb_sel (q := (yX12_isTray, 86)) 106 (by decide +kernel)
theorem mV_X12_isTray : am_mV gm_X12_isTray 1 := ⟨⟨cd_X12_isTray, ini_RX12, nh_RX12, pd_X12_isTray, Nat.le_of_ble_eq_true rfl⟩, iw_X12_isTray, sl_X12_isTray⟩
theorem cd_X12_areRead : Cond.code yX12_areRead cX12_areRead 5 (some .boolean) ∈ lw_tbl := (tb_9 (List.mem_of_getElem? (i := 148) (by decide +kernel)))
abbrev gm_X12_areRead : am_M := (yX12_areRead, cX12_areRead, 5, (some .boolean), 2)
theorem pd_X12_areRead : (parseMethodDescriptor yX12_areRead.desc).map (fun d => d.parameters.length) = some 3 := by decide +kernel
theorem iw_X12_areRead : Cond.instanceMethod yX12_areRead ∈ lw_tbl := (tb_9 (List.mem_of_getElem? (i := 147) (by decide +kernel)))
theorem sl_X12_areRead : Cond.selects yX12_areRead.cls yX12_areRead yX12_areRead ∈ lw_tbl := tb_sel (q := (yX12_areRead, 86)) 108 (by decide +kernel)
theorem mV_X12_areRead : am_mV gm_X12_areRead 3 := ⟨⟨cd_X12_areRead, ini_RX12, nh_RX12, pd_X12_areRead, Nat.le_of_ble_eq_true rfl⟩, iw_X12_areRead, sl_X12_areRead⟩
theorem cd_X12_hourOf : Cond.code yX12_hourOf cX12_hourOf 3 (some .int) ∈ lw_tbl := (tb_9 (List.mem_of_getElem? (i := 162) (by decide +kernel)))
abbrev gm_X12_hourOf : am_M := (yX12_hourOf, cX12_hourOf, 3, (some .int), 2)
theorem pd_X12_hourOf : (parseMethodDescriptor yX12_hourOf.desc).map (fun d => d.parameters.length) = some 2 := by decide +kernel
theorem iw_X12_hourOf : Cond.instanceMethod yX12_hourOf ∈ lw_tbl := (tb_9 (List.mem_of_getElem? (i := 161) (by decide +kernel)))
theorem sl_X12_hourOf : Cond.selects yX12_hourOf.cls yX12_hourOf yX12_hourOf ∈ lw_tbl := tb_sel (q := (yX12_hourOf, 86)) 111 (by decide +kernel)
theorem mV_X12_hourOf : am_mV gm_X12_hourOf 2 := ⟨⟨cd_X12_hourOf, ini_RX12, nh_RX12, pd_X12_hourOf, Nat.le_of_ble_eq_true rfl⟩, iw_X12_hourOf, sl_X12_hourOf⟩
theorem cd_X12_partOf : Cond.code yX12_partOf cX12_partOf 7 (some .int) ∈ lw_tbl := (tb_9 (List.mem_of_getElem? (i := 166) (by decide +kernel)))
abbrev gm_X12_partOf : am_M := (yX12_partOf, cX12_partOf, 7, (some .int), 4)
theorem pd_X12_partOf : (parseMethodDescriptor yX12_partOf.desc).map (fun d => d.parameters.length) = some 5 := by decide +kernel
theorem iw_X12_partOf : Cond.instanceMethod yX12_partOf ∈ lw_tbl := (tb_9 (List.mem_of_getElem? (i := 165) (by decide +kernel)))
theorem sl_X12_partOf : Cond.selects yX12_partOf.cls yX12_partOf yX12_partOf ∈ lw_tbl := tb_sel (q := (yX12_partOf, 86)) 112 (by decide +kernel)
theorem mV_X12_partOf : am_mV gm_X12_partOf 5 := ⟨⟨cd_X12_partOf, ini_RX12, nh_RX12, pd_X12_partOf, Nat.le_of_ble_eq_true rfl⟩, iw_X12_partOf, sl_X12_partOf⟩
theorem cd_X12_reckon : Cond.code yX12_reckon cX12_reckon 11 (some .long) ∈ lw_tbl := (tb_9 (List.mem_of_getElem? (i := 173) (by decide +kernel)))
abbrev gm_X12_reckon (n : Nat) : am_M := (yX12_reckon, cX12_reckon, 11, (some .long), 2 + 1 * n)
theorem pd_X12_reckon : (parseMethodDescriptor yX12_reckon.desc).map (fun d => d.parameters.length) = some 3 := by decide +kernel
theorem iw_X12_reckon : Cond.instanceMethod yX12_reckon ∈ lw_tbl := (tb_9 (List.mem_of_getElem? (i := 172) (by decide +kernel)))
theorem sl_X12_reckon : Cond.selects yX12_reckon.cls yX12_reckon yX12_reckon ∈ lw_tbl := tb_sel (q := (yX12_reckon, 86)) 113 (by decide +kernel)
theorem mV_X12_reckon (n : Nat) : am_mV (gm_X12_reckon n) 3 := ⟨⟨cd_X12_reckon, ini_RX12, nh_RX12, pd_X12_reckon, Nat.le_of_ble_eq_true rfl⟩, iw_X12_reckon, sl_X12_reckon⟩
theorem cd_X12_square : Cond.code yX12_square cX12_square 10 none ∈ lw_tbl := (tb_9 (List.mem_of_getElem? (i := 158) (by decide +kernel)))
abbrev gm_X12_square : am_M := (yX12_square, cX12_square, 10, none, 11)
theorem pd_X12_square : (parseMethodDescriptor yX12_square.desc).map (fun d => d.parameters.length) = some 6 := by decide +kernel
theorem iw_X12_square : Cond.instanceMethod yX12_square ∈ lw_tbl := (tb_9 (List.mem_of_getElem? (i := 157) (by decide +kernel)))
theorem sl_X12_square : Cond.selects yX12_square.cls yX12_square yX12_square ∈ lw_tbl := tb_sel (q := (yX12_square, 86)) 110 (by decide +kernel)
theorem mV_X12_square : am_mV gm_X12_square 6 := ⟨⟨cd_X12_square, ini_RX12, nh_RX12, pd_X12_square, Nat.le_of_ble_eq_true rfl⟩, iw_X12_square, sl_X12_square⟩
theorem cd_X12_asksGauge : Cond.code yX12_asksGauge cX12_asksGauge 6 (some .int) ∈ lw_tbl := (tb_9 (List.mem_of_getElem? (i := 144) (by decide +kernel)))
abbrev gm_X12_asksGauge : am_M := (yX12_asksGauge, cX12_asksGauge, 6, (some .int), 3)
theorem pd_X12_asksGauge : (parseMethodDescriptor yX12_asksGauge.desc).map (fun d => d.parameters.length) = some 5 := by decide +kernel
theorem iw_X12_asksGauge : Cond.instanceMethod yX12_asksGauge ∈ lw_tbl := (tb_9 (List.mem_of_getElem? (i := 143) (by decide +kernel)))
theorem sl_X12_asksGauge : Cond.selects yX12_asksGauge.cls yX12_asksGauge yX12_asksGauge ∈ lw_tbl := tb_sel (q := (yX12_asksGauge, 86)) 107 (by decide +kernel)
theorem mV_X12_asksGauge : am_mV gm_X12_asksGauge 5 := ⟨⟨cd_X12_asksGauge, ini_RX12, nh_RX12, pd_X12_asksGauge, Nat.le_of_ble_eq_true rfl⟩, iw_X12_asksGauge, sl_X12_asksGauge⟩
theorem cd_X12_settings : Cond.code yX12_settings cX12_settings 10 (some .boolean) ∈ lw_tbl := (tb_9 (List.mem_of_getElem? (i := 135) (by decide +kernel)))
abbrev gm_X12_settings : am_M := (yX12_settings, cX12_settings, 10, (some .boolean), 12)
theorem pd_X12_settings : (parseMethodDescriptor yX12_settings.desc).map (fun d => d.parameters.length) = some 7 := by decide +kernel
theorem iw_X12_settings : Cond.instanceMethod yX12_settings ∈ lw_tbl := (tb_9 (List.mem_of_getElem? (i := 133) (by decide +kernel)))
theorem sl_X12_settings : Cond.selects yX12_settings.cls yX12_settings yX12_settings ∈ lw_tbl := (tb_9 (List.mem_of_getElem? (i := 134) (by decide +kernel)))
theorem mV_X12_settings : am_mV gm_X12_settings 7 := ⟨⟨cd_X12_settings, ini_RX12, nh_RX12, pd_X12_settings, Nat.le_of_ble_eq_true rfl⟩, iw_X12_settings, sl_X12_settings⟩
theorem cd_X12_changed : Cond.code yX12_changed cX12_changed 12 (some .int) ∈ lw_tbl := (tb_9 (List.mem_of_getElem? (i := 177) (by decide +kernel)))
abbrev gm_X12_changed : am_M := (yX12_changed, cX12_changed, 12, (some .int), 12)
theorem pd_X12_changed : (parseMethodDescriptor yX12_changed.desc).map (fun d => d.parameters.length) = some 9 := by decide +kernel
theorem iw_X12_changed : Cond.instanceMethod yX12_changed ∈ lw_tbl := (tb_9 (List.mem_of_getElem? (i := 175) (by decide +kernel)))
theorem sl_X12_changed : Cond.selects yX12_changed.cls yX12_changed yX12_changed ∈ lw_tbl := (tb_9 (List.mem_of_getElem? (i := 176) (by decide +kernel)))
theorem mV_X12_changed : am_mV gm_X12_changed 9 := ⟨⟨cd_X12_changed, ini_RX12, nh_RX12, pd_X12_changed, Nat.le_of_ble_eq_true rfl⟩, iw_X12_changed, sl_X12_changed⟩
theorem cd_X12_differs : Cond.code yX12_differs cX12_differs 12 (some .long) ∈ lw_tbl := (tb_9 (List.mem_of_getElem? (i := 186) (by decide +kernel)))
abbrev gm_X12_differs : am_M := (yX12_differs, cX12_differs, 12, (some .long), 8)
theorem pd_X12_differs : (parseMethodDescriptor yX12_differs.desc).map (fun d => d.parameters.length) = some 7 := by decide +kernel
theorem iw_X12_differs : Cond.instanceMethod yX12_differs ∈ lw_tbl := (tb_9 (List.mem_of_getElem? (i := 185) (by decide +kernel)))
theorem sl_X12_differs : Cond.selects yX12_differs.cls yX12_differs yX12_differs ∈ lw_tbl := tb_sel (q := (yX12_differs, 86)) 114 (by decide +kernel)
theorem mV_X12_differs : am_mV gm_X12_differs 7 := ⟨⟨cd_X12_differs, ini_RX12, nh_RX12, pd_X12_differs, Nat.le_of_ble_eq_true rfl⟩, iw_X12_differs, sl_X12_differs⟩
theorem cd_X12_slipped : Cond.code yX12_slipped cX12_slipped 16 (some .int) ∈ lw_tbl := (tb_9 (List.mem_of_getElem? (i := 182) (by decide +kernel)))
abbrev gm_X12_slipped : am_M := (yX12_slipped, cX12_slipped, 16, (some .int), 9)
theorem pd_X12_slipped : (parseMethodDescriptor yX12_slipped.desc).map (fun d => d.parameters.length) = some 5 := by decide +kernel
theorem iw_X12_slipped : Cond.instanceMethod yX12_slipped ∈ lw_tbl := (tb_9 (List.mem_of_getElem? (i := 180) (by decide +kernel)))
theorem sl_X12_slipped : Cond.selects yX12_slipped.cls yX12_slipped yX12_slipped ∈ lw_tbl := (tb_9 (List.mem_of_getElem? (i := 181) (by decide +kernel)))
theorem mV_X12_slipped : am_mV gm_X12_slipped 5 := ⟨⟨cd_X12_slipped, ini_RX12, nh_RX12, pd_X12_slipped, Nat.le_of_ble_eq_true rfl⟩, iw_X12_slipped, sl_X12_slipped⟩
theorem cd_X12_slip : Cond.code yX12_slip cX12_slip 1 (some .int) ∈ lw_tbl := (tb_9 (List.mem_of_getElem? (i := 191) (by decide +kernel)))
abbrev gm_X12_slip : am_M := (yX12_slip, cX12_slip, 1, (some .int), 2)
theorem pd_X12_slip : (parseMethodDescriptor yX12_slip.desc).map (fun d => d.parameters.length) = some 0 := by decide +kernel
theorem iw_X12_slip : Cond.instanceMethod yX12_slip ∈ lw_tbl := (tb_9 (List.mem_of_getElem? (i := 189) (by decide +kernel)))
theorem sl_X12_slip : Cond.selects yX12_slip.cls yX12_slip yX12_slip ∈ lw_tbl := (tb_9 (List.mem_of_getElem? (i := 190) (by decide +kernel)))
theorem mV_X12_slip : am_mV gm_X12_slip 0 := ⟨⟨cd_X12_slip, ini_RX12, nh_RX12, pd_X12_slip, Nat.le_of_ble_eq_true rfl⟩, iw_X12_slip, sl_X12_slip⟩
theorem cd_X12_there : Cond.code yX12_there cX12_there 12 (some .long) ∈ lw_tbl := (tb_9 (List.mem_of_getElem? (i := 199) (by decide +kernel)))
abbrev gm_X12_there : am_M := (yX12_there, cX12_there, 12, (some .long), 5)
theorem pd_X12_there : (parseMethodDescriptor yX12_there.desc).map (fun d => d.parameters.length) = some 6 := by decide +kernel
theorem iw_X12_there : Cond.instanceMethod yX12_there ∈ lw_tbl := (tb_9 (List.mem_of_getElem? (i := 198) (by decide +kernel)))
theorem sl_X12_there : Cond.selects yX12_there.cls yX12_there yX12_there ∈ lw_tbl := tb_sel (q := (yX12_there, 86)) 115 (by decide +kernel)
theorem mV_X12_there : am_mV gm_X12_there 6 := ⟨⟨cd_X12_there, ini_RX12, nh_RX12, pd_X12_there, Nat.le_of_ble_eq_true rfl⟩, iw_X12_there, sl_X12_there⟩
theorem cd_X12_neighbour : Cond.code yX12_neighbour cX12_neighbour 12 (some .int) ∈ lw_tbl := (tb_9 (List.mem_of_getElem? (i := 195) (by decide +kernel)))
abbrev gm_X12_neighbour : am_M := (yX12_neighbour, cX12_neighbour, 12, (some .int), 6)
theorem pd_X12_neighbour : (parseMethodDescriptor yX12_neighbour.desc).map (fun d => d.parameters.length) = some 4 := by decide +kernel
theorem iw_X12_neighbour : Cond.instanceMethod yX12_neighbour ∈ lw_tbl := (tb_9 (List.mem_of_getElem? (i := 193) (by decide +kernel)))
theorem sl_X12_neighbour : Cond.selects yX12_neighbour.cls yX12_neighbour yX12_neighbour ∈ lw_tbl := (tb_9 (List.mem_of_getElem? (i := 194) (by decide +kernel)))
theorem mV_X12_neighbour : am_mV gm_X12_neighbour 4 := ⟨⟨cd_X12_neighbour, ini_RX12, nh_RX12, pd_X12_neighbour, Nat.le_of_ble_eq_true rfl⟩, iw_X12_neighbour, sl_X12_neighbour⟩
theorem cd_X12_lag : Cond.code yX12_lag cX12_lag 1 (some .int) ∈ lw_tbl := (tb_9 (List.mem_of_getElem? (i := 203) (by decide +kernel)))
abbrev gm_X12_lag : am_M := (yX12_lag, cX12_lag, 1, (some .int), 2)
theorem pd_X12_lag : (parseMethodDescriptor yX12_lag.desc).map (fun d => d.parameters.length) = some 0 := by decide +kernel
theorem iw_X12_lag : Cond.instanceMethod yX12_lag ∈ lw_tbl := (tb_9 (List.mem_of_getElem? (i := 201) (by decide +kernel)))
theorem sl_X12_lag : Cond.selects yX12_lag.cls yX12_lag yX12_lag ∈ lw_tbl := (tb_9 (List.mem_of_getElem? (i := 202) (by decide +kernel)))
theorem mV_X12_lag : am_mV gm_X12_lag 0 := ⟨⟨cd_X12_lag, ini_RX12, nh_RX12, pd_X12_lag, Nat.le_of_ble_eq_true rfl⟩, iw_X12_lag, sl_X12_lag⟩
theorem cd_X12_differsTurned : Cond.code yX12_differsTurned cX12_differsTurned 8 (some .long) ∈ lw_tbl := (tb_9 (List.mem_of_getElem? (i := 211) (by decide +kernel)))
abbrev gm_X12_differsTurned : am_M := (yX12_differsTurned, cX12_differsTurned, 8, (some .long), 8)
theorem pd_X12_differsTurned : (parseMethodDescriptor yX12_differsTurned.desc).map (fun d => d.parameters.length) = some 4 := by decide +kernel
theorem iw_X12_differsTurned : Cond.instanceMethod yX12_differsTurned ∈ lw_tbl := (tb_9 (List.mem_of_getElem? (i := 210) (by decide +kernel)))
theorem sl_X12_differsTurned : Cond.selects yX12_differsTurned.cls yX12_differsTurned yX12_differsTurned ∈ lw_tbl := tb_sel (q := (yX12_differsTurned, 86)) 116 (by decide +kernel)
theorem mV_X12_differsTurned : am_mV gm_X12_differsTurned 4 := ⟨⟨cd_X12_differsTurned, ini_RX12, nh_RX12, pd_X12_differsTurned, Nat.le_of_ble_eq_true rfl⟩, iw_X12_differsTurned, sl_X12_differsTurned⟩
theorem cd_X12_led : Cond.code yX12_led cX12_led 12 (some .int) ∈ lw_tbl := (tb_9 (List.mem_of_getElem? (i := 207) (by decide +kernel)))
abbrev gm_X12_led : am_M := (yX12_led, cX12_led, 12, (some .int), 9)
theorem pd_X12_led : (parseMethodDescriptor yX12_led.desc).map (fun d => d.parameters.length) = some 4 := by decide +kernel
theorem iw_X12_led : Cond.instanceMethod yX12_led ∈ lw_tbl := (tb_9 (List.mem_of_getElem? (i := 205) (by decide +kernel)))
theorem sl_X12_led : Cond.selects yX12_led.cls yX12_led yX12_led ∈ lw_tbl := (tb_9 (List.mem_of_getElem? (i := 206) (by decide +kernel)))
theorem mV_X12_led : am_mV gm_X12_led 4 := ⟨⟨cd_X12_led, ini_RX12, nh_RX12, pd_X12_led, Nat.le_of_ble_eq_true rfl⟩, iw_X12_led, sl_X12_led⟩
theorem cd_X12_wheel : Cond.code yX12_wheel cX12_wheel 2 (some .int) ∈ lw_tbl := (tb_9 (List.mem_of_getElem? (i := 215) (by decide +kernel)))
abbrev gm_X12_wheel : am_M := (yX12_wheel, cX12_wheel, 2, (some .int), 2)
theorem pd_X12_wheel : (parseMethodDescriptor yX12_wheel.desc).map (fun d => d.parameters.length) = some 1 := by decide +kernel
theorem iw_X12_wheel : Cond.instanceMethod yX12_wheel ∈ lw_tbl := (tb_9 (List.mem_of_getElem? (i := 213) (by decide +kernel)))
theorem sl_X12_wheel : Cond.selects yX12_wheel.cls yX12_wheel yX12_wheel ∈ lw_tbl := (tb_9 (List.mem_of_getElem? (i := 214) (by decide +kernel)))
theorem mV_X12_wheel : am_mV gm_X12_wheel 1 := ⟨⟨cd_X12_wheel, ini_RX12, nh_RX12, pd_X12_wheel, Nat.le_of_ble_eq_true rfl⟩, iw_X12_wheel, sl_X12_wheel⟩
theorem cd_X12_isSpan : Cond.code yX12_isSpan cX12_isSpan 3 (some .boolean) ∈ lw_tbl := (tb_9 (List.mem_of_getElem? (i := 222) (by decide +kernel)))
abbrev gm_X12_isSpan : am_M := (yX12_isSpan, cX12_isSpan, 3, (some .boolean), 3)
theorem pd_X12_isSpan : (parseMethodDescriptor yX12_isSpan.desc).map (fun d => d.parameters.length) = some 3 := by decide +kernel
theorem sw_X12_isSpan : Cond.static yX12_isSpan ∈ lw_tbl := (tb_9 (List.mem_of_getElem? (i := 221) (by decide +kernel)))
theorem mS_X12_isSpan : am_mS gm_X12_isSpan 3 := ⟨⟨cd_X12_isSpan, ini_RX12, nh_RX12, pd_X12_isSpan, Nat.le_of_ble_eq_true rfl⟩, sw_X12_isSpan⟩
theorem cd_X12_extreme : Cond.code yX12_extreme cX12_extreme 9 (some .int) ∈ lw_tbl := (tb_9 (List.mem_of_getElem? (i := 219) (by decide +kernel)))
abbrev gm_X12_extreme : am_M := (yX12_extreme, cX12_extreme, 9, (some .int), 8)
theorem pd_X12_extreme : (parseMethodDescriptor yX12_extreme.desc).map (fun d => d.parameters.length) = some 5 := by decide +kernel
theorem iw_X12_extreme : Cond.instanceMethod yX12_extreme ∈ lw_tbl := (tb_9 (List.mem_of_getElem? (i := 217) (by decide +kernel)))
theorem sl_X12_extreme : Cond.selects yX12_extreme.cls yX12_extreme yX12_extreme ∈ lw_tbl := (tb_9 (List.mem_of_getElem? (i := 218) (by decide +kernel)))
theorem mV_X12_extreme : am_mV gm_X12_extreme 5 := ⟨⟨cd_X12_extreme, ini_RX12, nh_RX12, pd_X12_extreme, Nat.le_of_ble_eq_true rfl⟩, iw_X12_extreme, sl_X12_extreme⟩
theorem cd_X12_bound : Cond.code yX12_bound cX12_bound 11 (some .int) ∈ lw_tbl := (tb_9 (List.mem_of_getElem? (i := 231) (by decide +kernel)))
abbrev gm_X12_bound : am_M := (yX12_bound, cX12_bound, 11, (some .int), 5)
theorem pd_X12_bound : (parseMethodDescriptor yX12_bound.desc).map (fun d => d.parameters.length) = some 4 := by decide +kernel
theorem iw_X12_bound : Cond.instanceMethod yX12_bound ∈ lw_tbl := (tb_9 (List.mem_of_getElem? (i := 230) (by decide +kernel)))
theorem sl_X12_bound : Cond.selects yX12_bound.cls yX12_bound yX12_bound ∈ lw_tbl := tb_sel (q := (yX12_bound, 86)) 117 (by decide +kernel)
theorem mV_X12_bound : am_mV gm_X12_bound 4 := ⟨⟨cd_X12_bound, ini_RX12, nh_RX12, pd_X12_bound, Nat.le_of_ble_eq_true rfl⟩, iw_X12_bound, sl_X12_bound⟩
theorem cd_X12_bounds : Cond.code yX12_bounds cX12_bounds 5 (some .int) ∈ lw_tbl := (tb_9 (List.mem_of_getElem? (i := 226) (by decide +kernel)))
abbrev gm_X12_bounds : am_M := (yX12_bounds, cX12_bounds, 5, (some .int), 6)
theorem pd_X12_bounds : (parseMethodDescriptor yX12_bounds.desc).map (fun d => d.parameters.length) = some 4 := by decide +kernel
theorem iw_X12_bounds : Cond.instanceMethod yX12_bounds ∈ lw_tbl := (tb_9 (List.mem_of_getElem? (i := 224) (by decide +kernel)))
theorem sl_X12_bounds : Cond.selects yX12_bounds.cls yX12_bounds yX12_bounds ∈ lw_tbl := (tb_9 (List.mem_of_getElem? (i := 225) (by decide +kernel)))
theorem mV_X12_bounds : am_mV gm_X12_bounds 4 := ⟨⟨cd_X12_bounds, ini_RX12, nh_RX12, pd_X12_bounds, Nat.le_of_ble_eq_true rfl⟩, iw_X12_bounds, sl_X12_bounds⟩
theorem cd_X12_ask : Cond.code yX12_ask cX12_ask 9 (some .boolean) ∈ lw_tbl := (tb_9 (List.mem_of_getElem? (i := 236) (by decide +kernel)))
abbrev gm_X12_ask : am_M := (yX12_ask, cX12_ask, 9, (some .boolean), 2)
theorem pd_X12_ask : (parseMethodDescriptor yX12_ask.desc).map (fun d => d.parameters.length) = some 8 := by decide +kernel
theorem iw_X12_ask : Cond.instanceMethod yX12_ask ∈ lw_tbl := (tb_9 (List.mem_of_getElem? (i := 234) (by decide +kernel)))
theorem sl_X12_ask : Cond.selects yX12_ask.cls yX12_ask yX12_ask ∈ lw_tbl := (tb_9 (List.mem_of_getElem? (i := 235) (by decide +kernel)))
theorem mV_X12_ask : am_mV gm_X12_ask 8 := ⟨⟨cd_X12_ask, ini_RX12, nh_RX12, pd_X12_ask, Nat.le_of_ble_eq_true rfl⟩, iw_X12_ask, sl_X12_ask⟩
theorem cd_X12_lands : Cond.code yX12_lands cX12_lands 4 (some .boolean) ∈ lw_tbl := (tb_10 (List.mem_of_getElem? (i := 6) (by decide +kernel)))
abbrev gm_X12_lands : am_M := (yX12_lands, cX12_lands, 4, (some .boolean), 8)
theorem pd_X12_lands : (parseMethodDescriptor yX12_lands.desc).map (fun d => d.parameters.length) = some 2 := by decide +kernel
theorem iw_X12_lands : Cond.instanceMethod yX12_lands ∈ lw_tbl := (tb_10 (List.mem_of_getElem? (i := 5) (by decide +kernel)))
theorem sl_X12_lands : Cond.selects yX12_lands.cls yX12_lands yX12_lands ∈ lw_tbl := tb_sel (q := (yX12_lands, 86)) 118 (by decide +kernel)
theorem mV_X12_lands : am_mV gm_X12_lands 2 := ⟨⟨cd_X12_lands, ini_RX12, nh_RX12, pd_X12_lands, Nat.le_of_ble_eq_true rfl⟩, iw_X12_lands, sl_X12_lands⟩
theorem cd_X12_landing : Cond.code yX12_landing cX12_landing 5 (some .int) ∈ lw_tbl := (tb_10 (List.mem_of_getElem? (i := 2) (by decide +kernel)))
abbrev gm_X12_landing : am_M := (yX12_landing, cX12_landing, 5, (some .int), 9)
theorem pd_X12_landing : (parseMethodDescriptor yX12_landing.desc).map (fun d => d.parameters.length) = some 3 := by decide +kernel
theorem iw_X12_landing : Cond.instanceMethod yX12_landing ∈ lw_tbl := (tb_10 (List.mem_of_getElem? (i := 0) (by decide +kernel)))
theorem sl_X12_landing : Cond.selects yX12_landing.cls yX12_landing yX12_landing ∈ lw_tbl := (tb_10 (List.mem_of_getElem? (i := 1) (by decide +kernel)))
theorem mV_X12_landing : am_mV gm_X12_landing 3 := ⟨⟨cd_X12_landing, ini_RX12, nh_RX12, pd_X12_landing, Nat.le_of_ble_eq_true rfl⟩, iw_X12_landing, sl_X12_landing⟩
theorem cd_X12_spread : Cond.code yX12_spread cX12_spread 13 (some .int) ∈ lw_tbl := (tb_10 (List.mem_of_getElem? (i := 11) (by decide +kernel)))
abbrev gm_X12_spread : am_M := (yX12_spread, cX12_spread, 13, (some .int), 5)
theorem pd_X12_spread : (parseMethodDescriptor yX12_spread.desc).map (fun d => d.parameters.length) = some 4 := by decide +kernel
theorem iw_X12_spread : Cond.instanceMethod yX12_spread ∈ lw_tbl := (tb_10 (List.mem_of_getElem? (i := 9) (by decide +kernel)))
theorem sl_X12_spread : Cond.selects yX12_spread.cls yX12_spread yX12_spread ∈ lw_tbl := (tb_10 (List.mem_of_getElem? (i := 10) (by decide +kernel)))
theorem mV_X12_spread : am_mV gm_X12_spread 4 := ⟨⟨cd_X12_spread, ini_RX12, nh_RX12, pd_X12_spread, Nat.le_of_ble_eq_true rfl⟩, iw_X12_spread, sl_X12_spread⟩
theorem cd_X12_spreadTold : Cond.code yX12_spreadTold cX12_spreadTold 2 (some .int) ∈ lw_tbl := (tb_10 (List.mem_of_getElem? (i := 15) (by decide +kernel)))
abbrev gm_X12_spreadTold : am_M := (yX12_spreadTold, cX12_spreadTold, 2, (some .int), 2)
theorem pd_X12_spreadTold : (parseMethodDescriptor yX12_spreadTold.desc).map (fun d => d.parameters.length) = some 1 := by decide +kernel
theorem iw_X12_spreadTold : Cond.instanceMethod yX12_spreadTold ∈ lw_tbl := (tb_10 (List.mem_of_getElem? (i := 13) (by decide +kernel)))
theorem sl_X12_spreadTold : Cond.selects yX12_spreadTold.cls yX12_spreadTold yX12_spreadTold ∈ lw_tbl := (tb_10 (List.mem_of_getElem? (i := 14) (by decide +kernel)))
theorem mV_X12_spreadTold : am_mV gm_X12_spreadTold 1 := ⟨⟨cd_X12_spreadTold, ini_RX12, nh_RX12, pd_X12_spreadTold, Nat.le_of_ble_eq_true rfl⟩, iw_X12_spreadTold, sl_X12_spreadTold⟩
theorem cd_X12_compare : Cond.code yX12_compare cX12_compare 5 (some .int) ∈ lw_tbl := (tb_10 (List.mem_of_getElem? (i := 19) (by decide +kernel)))
abbrev gm_X12_compare : am_M := (yX12_compare, cX12_compare, 5, (some .int), 8)
theorem pd_X12_compare : (parseMethodDescriptor yX12_compare.desc).map (fun d => d.parameters.length) = some 3 := by decide +kernel
theorem iw_X12_compare : Cond.instanceMethod yX12_compare ∈ lw_tbl := (tb_10 (List.mem_of_getElem? (i := 17) (by decide +kernel)))
theorem sl_X12_compare : Cond.selects yX12_compare.cls yX12_compare yX12_compare ∈ lw_tbl := (tb_10 (List.mem_of_getElem? (i := 18) (by decide +kernel)))
theorem mV_X12_compare : am_mV gm_X12_compare 3 := ⟨⟨cd_X12_compare, ini_RX12, nh_RX12, pd_X12_compare, Nat.le_of_ble_eq_true rfl⟩, iw_X12_compare, sl_X12_compare⟩
theorem cd_X12_isDay : Cond.code yX12_isDay cX12_isDay 1 (some .boolean) ∈ lw_tbl := (tb_10 (List.mem_of_getElem? (i := 26) (by decide +kernel)))
abbrev gm_X12_isDay : am_M := (yX12_isDay, cX12_isDay, 1, (some .boolean), 2)
theorem pd_X12_isDay : (parseMethodDescriptor yX12_isDay.desc).map (fun d => d.parameters.length) = some 1 := by decide +kernel
theorem sw_X12_isDay : Cond.static yX12_isDay ∈ lw_tbl := (tb_10 (List.mem_of_getElem? (i := 25) (by decide +kernel)))
theorem mS_X12_isDay : am_mS gm_X12_isDay 1 := ⟨⟨cd_X12_isDay, ini_RX12, nh_RX12, pd_X12_isDay, Nat.le_of_ble_eq_true rfl⟩, sw_X12_isDay⟩
theorem cd_X12_lastHour : Cond.code yX12_lastHour cX12_lastHour 1 (some .int) ∈ lw_tbl := (tb_10 (List.mem_of_getElem? (i := 30) (by decide +kernel)))
abbrev gm_X12_lastHour : am_M := (yX12_lastHour, cX12_lastHour, 1, (some .int), 2)
theorem pd_X12_lastHour : (parseMethodDescriptor yX12_lastHour.desc).map (fun d => d.parameters.length) = some 1 := by decide +kernel
theorem sw_X12_lastHour : Cond.static yX12_lastHour ∈ lw_tbl := (tb_10 (List.mem_of_getElem? (i := 29) (by decide +kernel)))
theorem mS_X12_lastHour : am_mS gm_X12_lastHour 1 := ⟨⟨cd_X12_lastHour, ini_RX12, nh_RX12, pd_X12_lastHour, Nat.le_of_ble_eq_true rfl⟩, sw_X12_lastHour⟩
theorem cd_X12_isWater : Cond.code yX12_isWater cX12_isWater 9 (some .boolean) ∈ lw_tbl := (tb_10 (List.mem_of_getElem? (i := 35) (by decide +kernel)))
abbrev gm_X12_isWater : am_M := (yX12_isWater, cX12_isWater, 9, (some .boolean), 8)
theorem pd_X12_isWater : (parseMethodDescriptor yX12_isWater.desc).map (fun d => d.parameters.length) = some 4 := by decide +kernel
theorem iw_X12_isWater : Cond.instanceMethod yX12_isWater ∈ lw_tbl := (tb_10 (List.mem_of_getElem? (i := 34) (by decide +kernel)))
theorem sl_X12_isWater : Cond.selects yX12_isWater.cls yX12_isWater yX12_isWater ∈ lw_tbl := tb_sel (q := (yX12_isWater, 86)) 119 (by decide +kernel)
theorem mV_X12_isWater : am_mV gm_X12_isWater 4 := ⟨⟨cd_X12_isWater, ini_RX12, nh_RX12, pd_X12_isWater, Nat.le_of_ble_eq_true rfl⟩, iw_X12_isWater, sl_X12_isWater⟩
theorem cd_X12_waters : Cond.code yX12_waters cX12_waters 7 (some .int) ∈ lw_tbl := (tb_10 (List.mem_of_getElem? (i := 23) (by decide +kernel)))
abbrev gm_X12_waters : am_M := (yX12_waters, cX12_waters, 7, (some .int), 9)
theorem pd_X12_waters : (parseMethodDescriptor yX12_waters.desc).map (fun d => d.parameters.length) = some 4 := by decide +kernel
theorem iw_X12_waters : Cond.instanceMethod yX12_waters ∈ lw_tbl := (tb_10 (List.mem_of_getElem? (i := 21) (by decide +kernel)))
theorem sl_X12_waters : Cond.selects yX12_waters.cls yX12_waters yX12_waters ∈ lw_tbl := (tb_10 (List.mem_of_getElem? (i := 22) (by decide +kernel)))
theorem mV_X12_waters : am_mV gm_X12_waters 4 := ⟨⟨cd_X12_waters, ini_RX12, nh_RX12, pd_X12_waters, Nat.le_of_ble_eq_true rfl⟩, iw_X12_waters, sl_X12_waters⟩
theorem cd_X12_waterOf : Cond.code yX12_waterOf cX12_waterOf 8 (some .int) ∈ lw_tbl := (tb_10 (List.mem_of_getElem? (i := 44) (by decide +kernel)))
abbrev gm_X12_waterOf : am_M := (yX12_waterOf, cX12_waterOf, 8, (some .int), 9)
theorem pd_X12_waterOf : (parseMethodDescriptor yX12_waterOf.desc).map (fun d => d.parameters.length) = some 5 := by decide +kernel
theorem iw_X12_waterOf : Cond.instanceMethod yX12_waterOf ∈ lw_tbl := (tb_10 (List.mem_of_getElem? (i := 43) (by decide +kernel)))
theorem sl_X12_waterOf : Cond.selects yX12_waterOf.cls yX12_waterOf yX12_waterOf ∈ lw_tbl := tb_sel (q := (yX12_waterOf, 86)) 120 (by decide +kernel)
theorem mV_X12_waterOf : am_mV gm_X12_waterOf 5 := ⟨⟨cd_X12_waterOf, ini_RX12, nh_RX12, pd_X12_waterOf, Nat.le_of_ble_eq_true rfl⟩, iw_X12_waterOf, sl_X12_waterOf⟩
theorem cd_X12_water : Cond.code yX12_water cX12_water 7 (some .int) ∈ lw_tbl := (tb_10 (List.mem_of_getElem? (i := 40) (by decide +kernel)))
abbrev gm_X12_water : am_M := (yX12_water, cX12_water, 7, (some .int), 10)
theorem pd_X12_water : (parseMethodDescriptor yX12_water.desc).map (fun d => d.parameters.length) = some 5 := by decide +kernel
theorem iw_X12_water : Cond.instanceMethod yX12_water ∈ lw_tbl := (tb_10 (List.mem_of_getElem? (i := 38) (by decide +kernel)))
theorem sl_X12_water : Cond.selects yX12_water.cls yX12_water yX12_water ∈ lw_tbl := (tb_10 (List.mem_of_getElem? (i := 39) (by decide +kernel)))
theorem mV_X12_water : am_mV gm_X12_water 5 := ⟨⟨cd_X12_water, ini_RX12, nh_RX12, pd_X12_water, Nat.le_of_ble_eq_true rfl⟩, iw_X12_water, sl_X12_water⟩
theorem cd_X12_range : Cond.code yX12_range cX12_range 7 (some .int) ∈ lw_tbl := (tb_10 (List.mem_of_getElem? (i := 48) (by decide +kernel)))
abbrev gm_X12_range : am_M := (yX12_range, cX12_range, 7, (some .int), 8)
theorem pd_X12_range : (parseMethodDescriptor yX12_range.desc).map (fun d => d.parameters.length) = some 3 := by decide +kernel
theorem iw_X12_range : Cond.instanceMethod yX12_range ∈ lw_tbl := (tb_10 (List.mem_of_getElem? (i := 46) (by decide +kernel)))
theorem sl_X12_range : Cond.selects yX12_range.cls yX12_range yX12_range ∈ lw_tbl := (tb_10 (List.mem_of_getElem? (i := 47) (by decide +kernel)))
theorem mV_X12_range : am_mV gm_X12_range 3 := ⟨⟨cd_X12_range, ini_RX12, nh_RX12, pd_X12_range, Nat.le_of_ble_eq_true rfl⟩, iw_X12_range, sl_X12_range⟩
theorem cd_X12_gap : Cond.code yX12_gap cX12_gap 7 (some .int) ∈ lw_tbl := (tb_10 (List.mem_of_getElem? (i := 52) (by decide +kernel)))
abbrev gm_X12_gap : am_M := (yX12_gap, cX12_gap, 7, (some .int), 10)
theorem pd_X12_gap : (parseMethodDescriptor yX12_gap.desc).map (fun d => d.parameters.length) = some 4 := by decide +kernel
theorem iw_X12_gap : Cond.instanceMethod yX12_gap ∈ lw_tbl := (tb_10 (List.mem_of_getElem? (i := 50) (by decide +kernel)))
theorem sl_X12_gap : Cond.selects yX12_gap.cls yX12_gap yX12_gap ∈ lw_tbl := (tb_10 (List.mem_of_getElem? (i := 51) (by decide +kernel)))
theorem mV_X12_gap : am_mV gm_X12_gap 4 := ⟨⟨cd_X12_gap, ini_RX12, nh_RX12, pd_X12_gap, Nat.le_of_ble_eq_true rfl⟩, iw_X12_gap, sl_X12_gap⟩
theorem cd_X12_wheels : Cond.code yX12_wheels cX12_wheels 3 (some .int) ∈ lw_tbl := (tb_10 (List.mem_of_getElem? (i := 60) (by decide +kernel)))
abbrev gm_X12_wheels : am_M := (yX12_wheels, cX12_wheels, 3, (some .int), 3)
theorem pd_X12_wheels : (parseMethodDescriptor yX12_wheels.desc).map (fun d => d.parameters.length) = some 2 := by decide +kernel
theorem iw_X12_wheels : Cond.instanceMethod yX12_wheels ∈ lw_tbl := (tb_10 (List.mem_of_getElem? (i := 59) (by decide +kernel)))
theorem sl_X12_wheels : Cond.selects yX12_wheels.cls yX12_wheels yX12_wheels ∈ lw_tbl := tb_sel (q := (yX12_wheels, 86)) 121 (by decide +kernel)
theorem mV_X12_wheels : am_mV gm_X12_wheels 2 := ⟨⟨cd_X12_wheels, ini_RX12, nh_RX12, pd_X12_wheels, Nat.le_of_ble_eq_true rfl⟩, iw_X12_wheels, sl_X12_wheels⟩
theorem cd_X12_wear : Cond.code yX12_wear cX12_wear 7 (some .long) ∈ lw_tbl := (tb_10 (List.mem_of_getElem? (i := 64) (by decide +kernel)))
abbrev gm_X12_wear : am_M := (yX12_wear, cX12_wear, 7, (some .long), 3)
theorem pd_X12_wear : (parseMethodDescriptor yX12_wear.desc).map (fun d => d.parameters.length) = some 4 := by decide +kernel
theorem iw_X12_wear : Cond.instanceMethod yX12_wear ∈ lw_tbl := (tb_10 (List.mem_of_getElem? (i := 63) (by decide +kernel)))
theorem sl_X12_wear : Cond.selects yX12_wear.cls yX12_wear yX12_wear ∈ lw_tbl := tb_sel (q := (yX12_wear, 86)) 122 (by decide +kernel)
theorem mV_X12_wear : am_mV gm_X12_wear 4 := ⟨⟨cd_X12_wear, ini_RX12, nh_RX12, pd_X12_wear, Nat.le_of_ble_eq_true rfl⟩, iw_X12_wear, sl_X12_wear⟩
theorem cd_X12_worn : Cond.code yX12_worn cX12_worn 5 (some .int) ∈ lw_tbl := (tb_10 (List.mem_of_getElem? (i := 56) (by decide +kernel)))
abbrev gm_X12_worn : am_M := (yX12_worn, cX12_worn, 5, (some .int), 4)
theorem pd_X12_worn : (parseMethodDescriptor yX12_worn.desc).map (fun d => d.parameters.length) = some 4 := by decide +kernel
theorem iw_X12_worn : Cond.instanceMethod yX12_worn ∈ lw_tbl := (tb_10 (List.mem_of_getElem? (i := 54) (by decide +kernel)))
theorem sl_X12_worn : Cond.selects yX12_worn.cls yX12_worn yX12_worn ∈ lw_tbl := (tb_10 (List.mem_of_getElem? (i := 55) (by decide +kernel)))
theorem mV_X12_worn : am_mV gm_X12_worn 4 := ⟨⟨cd_X12_worn, ini_RX12, nh_RX12, pd_X12_worn, Nat.le_of_ble_eq_true rfl⟩, iw_X12_worn, sl_X12_worn⟩
theorem cd_X12_isWorn : Cond.code yX12_isWorn cX12_isWorn 6 (some .boolean) ∈ lw_tbl := (tb_10 (List.mem_of_getElem? (i := 73) (by decide +kernel)))
abbrev gm_X12_isWorn : am_M := (yX12_isWorn, cX12_isWorn, 6, (some .boolean), 4)
theorem pd_X12_isWorn : (parseMethodDescriptor yX12_isWorn.desc).map (fun d => d.parameters.length) = some 3 := by decide +kernel
theorem iw_X12_isWorn : Cond.instanceMethod yX12_isWorn ∈ lw_tbl := (tb_10 (List.mem_of_getElem? (i := 72) (by decide +kernel)))
theorem sl_X12_isWorn : Cond.selects yX12_isWorn.cls yX12_isWorn yX12_isWorn ∈ lw_tbl := tb_sel (q := (yX12_isWorn, 86)) 123 (by decide +kernel)
theorem mV_X12_isWorn : am_mV gm_X12_isWorn 3 := ⟨⟨cd_X12_isWorn, ini_RX12, nh_RX12, pd_X12_isWorn, Nat.le_of_ble_eq_true rfl⟩, iw_X12_isWorn, sl_X12_isWorn⟩
theorem cd_X12_lasts : Cond.code yX12_lasts cX12_lasts 6 (some .int) ∈ lw_tbl := (tb_10 (List.mem_of_getElem? (i := 68) (by decide +kernel)))
abbrev gm_X12_lasts : am_M := (yX12_lasts, cX12_lasts, 6, (some .int), 5)
theorem pd_X12_lasts : (parseMethodDescriptor yX12_lasts.desc).map (fun d => d.parameters.length) = some 2 := by decide +kernel
theorem iw_X12_lasts : Cond.instanceMethod yX12_lasts ∈ lw_tbl := (tb_10 (List.mem_of_getElem? (i := 66) (by decide +kernel)))
theorem sl_X12_lasts : Cond.selects yX12_lasts.cls yX12_lasts yX12_lasts ∈ lw_tbl := (tb_10 (List.mem_of_getElem? (i := 67) (by decide +kernel)))
theorem mV_X12_lasts : am_mV gm_X12_lasts 2 := ⟨⟨cd_X12_lasts, ini_RX12, nh_RX12, pd_X12_lasts, Nat.le_of_ble_eq_true rfl⟩, iw_X12_lasts, sl_X12_lasts⟩
theorem cd_X12_allOff : Cond.code yX12_allOff cX12_allOff 8 (some .long) ∈ lw_tbl := (tb_10 (List.mem_of_getElem? (i := 81) (by decide +kernel)))
abbrev gm_X12_allOff : am_M := (yX12_allOff, cX12_allOff, 8, (some .long), 4)
theorem pd_X12_allOff : (parseMethodDescriptor yX12_allOff.desc).map (fun d => d.parameters.length) = some 1 := by decide +kernel
theorem iw_X12_allOff : Cond.instanceMethod yX12_allOff ∈ lw_tbl := (tb_10 (List.mem_of_getElem? (i := 80) (by decide +kernel)))
theorem sl_X12_allOff : Cond.selects yX12_allOff.cls yX12_allOff yX12_allOff ∈ lw_tbl := tb_sel (q := (yX12_allOff, 86)) 124 (by decide +kernel)
theorem mV_X12_allOff : am_mV gm_X12_allOff 1 := ⟨⟨cd_X12_allOff, ini_RX12, nh_RX12, pd_X12_allOff, Nat.le_of_ble_eq_true rfl⟩, iw_X12_allOff, sl_X12_allOff⟩
theorem cd_X12_exchange : Cond.code yX12_exchange cX12_exchange 6 none ∈ lw_tbl := (tb_10 (List.mem_of_getElem? (i := 85) (by decide +kernel)))
abbrev gm_X12_exchange : am_M := (yX12_exchange, cX12_exchange, 6, none, 3)
theorem pd_X12_exchange : (parseMethodDescriptor yX12_exchange.desc).map (fun d => d.parameters.length) = some 4 := by decide +kernel
theorem iw_X12_exchange : Cond.instanceMethod yX12_exchange ∈ lw_tbl := (tb_10 (List.mem_of_getElem? (i := 84) (by decide +kernel)))
theorem sl_X12_exchange : Cond.selects yX12_exchange.cls yX12_exchange yX12_exchange ∈ lw_tbl := tb_sel (q := (yX12_exchange, 86)) 125 (by decide +kernel)
theorem mV_X12_exchange : am_mV gm_X12_exchange 4 := ⟨⟨cd_X12_exchange, ini_RX12, nh_RX12, pd_X12_exchange, Nat.le_of_ble_eq_true rfl⟩, iw_X12_exchange, sl_X12_exchange⟩
theorem cd_X12_trade : Cond.code yX12_trade cX12_trade 10 (some .long) ∈ lw_tbl := (tb_10 (List.mem_of_getElem? (i := 77) (by decide +kernel)))
abbrev gm_X12_trade : am_M := (yX12_trade, cX12_trade, 10, (some .long), 5)
theorem pd_X12_trade : (parseMethodDescriptor yX12_trade.desc).map (fun d => d.parameters.length) = some 1 := by decide +kernel
theorem iw_X12_trade : Cond.instanceMethod yX12_trade ∈ lw_tbl := (tb_10 (List.mem_of_getElem? (i := 75) (by decide +kernel)))
theorem sl_X12_trade : Cond.selects yX12_trade.cls yX12_trade yX12_trade ∈ lw_tbl := (tb_10 (List.mem_of_getElem? (i := 76) (by decide +kernel)))
theorem mV_X12_trade : am_mV gm_X12_trade 1 := ⟨⟨cd_X12_trade, ini_RX12, nh_RX12, pd_X12_trade, Nat.le_of_ble_eq_true rfl⟩, iw_X12_trade, sl_X12_trade⟩
theorem cd_X12_traded : Cond.code yX12_traded cX12_traded 2 (some .int) ∈ lw_tbl := (tb_10 (List.mem_of_getElem? (i := 89) (by decide +kernel)))
abbrev gm_X12_traded : am_M := (yX12_traded, cX12_traded, 2, (some .int), 2)
theorem pd_X12_traded : (parseMethodDescriptor yX12_traded.desc).map (fun d => d.parameters.length) = some 1 := by decide +kernel
theorem iw_X12_traded : Cond.instanceMethod yX12_traded ∈ lw_tbl := (tb_10 (List.mem_of_getElem? (i := 87) (by decide +kernel)))
theorem sl_X12_traded : Cond.selects yX12_traded.cls yX12_traded yX12_traded ∈ lw_tbl := (tb_10 (List.mem_of_getElem? (i := 88) (by decide +kernel)))
theorem mV_X12_traded : am_mV gm_X12_traded 1 := ⟨⟨cd_X12_traded, ini_RX12, nh_RX12, pd_X12_traded, Nat.le_of_ble_eq_true rfl⟩, iw_X12_traded, sl_X12_traded⟩
theorem cd_X12_stepWord : Cond.code yX12_stepWord cX12_stepWord 1 (some .int) ∈ lw_tbl := (tb_10 (List.mem_of_getElem? (i := 101) (by decide +kernel)))
abbrev gm_X12_stepWord : am_M := (yX12_stepWord, cX12_stepWord, 1, (some .int), 2)
theorem pd_X12_stepWord : (parseMethodDescriptor yX12_stepWord.desc).map (fun d => d.parameters.length) = some 0 := by decide +kernel
theorem iw_X12_stepWord : Cond.instanceMethod yX12_stepWord ∈ lw_tbl := (tb_10 (List.mem_of_getElem? (i := 100) (by decide +kernel)))
theorem sl_X12_stepWord : Cond.selects yX12_stepWord.cls yX12_stepWord yX12_stepWord ∈ lw_tbl := tb_sel (q := (yX12_stepWord, 86)) 127 (by decide +kernel)
theorem mV_X12_stepWord : am_mV gm_X12_stepWord 0 := ⟨⟨cd_X12_stepWord, ini_RX12, nh_RX12, pd_X12_stepWord, Nat.le_of_ble_eq_true rfl⟩, iw_X12_stepWord, sl_X12_stepWord⟩
theorem cd_X12_isEnd : Cond.code yX12_isEnd cX12_isEnd 1 (some .boolean) ∈ lw_tbl := (tb_10 (List.mem_of_getElem? (i := 113) (by decide +kernel)))
abbrev gm_X12_isEnd : am_M := (yX12_isEnd, cX12_isEnd, 1, (some .boolean), 2)
theorem pd_X12_isEnd : (parseMethodDescriptor yX12_isEnd.desc).map (fun d => d.parameters.length) = some 0 := by decide +kernel
theorem iw_X12_isEnd : Cond.instanceMethod yX12_isEnd ∈ lw_tbl := (tb_10 (List.mem_of_getElem? (i := 112) (by decide +kernel)))
theorem sl_X12_isEnd : Cond.selects yX12_isEnd.cls yX12_isEnd yX12_isEnd ∈ lw_tbl := tb_sel (q := (yX12_isEnd, 86)) 130 (by decide +kernel)
theorem mV_X12_isEnd : am_mV gm_X12_isEnd 0 := ⟨⟨cd_X12_isEnd, ini_RX12, nh_RX12, pd_X12_isEnd, Nat.le_of_ble_eq_true rfl⟩, iw_X12_isEnd, sl_X12_isEnd⟩
theorem cd_X12_whatWord : Cond.code yX12_whatWord cX12_whatWord 1 (some .int) ∈ lw_tbl := (tb_10 (List.mem_of_getElem? (i := 109) (by decide +kernel)))
abbrev gm_X12_whatWord : am_M := (yX12_whatWord, cX12_whatWord, 1, (some .int), 2)
theorem pd_X12_whatWord : (parseMethodDescriptor yX12_whatWord.desc).map (fun d => d.parameters.length) = some 0 := by decide +kernel
theorem iw_X12_whatWord : Cond.instanceMethod yX12_whatWord ∈ lw_tbl := (tb_10 (List.mem_of_getElem? (i := 108) (by decide +kernel)))
theorem sl_X12_whatWord : Cond.selects yX12_whatWord.cls yX12_whatWord yX12_whatWord ∈ lw_tbl := tb_sel (q := (yX12_whatWord, 86)) 129 (by decide +kernel)
theorem mV_X12_whatWord : am_mV gm_X12_whatWord 0 := ⟨⟨cd_X12_whatWord, ini_RX12, nh_RX12, pd_X12_whatWord, Nat.le_of_ble_eq_true rfl⟩, iw_X12_whatWord, sl_X12_whatWord⟩
theorem cd_X12_readWhat : Cond.code yX12_readWhat cX12_readWhat 6 none ∈ lw_tbl := (tb_10 (List.mem_of_getElem? (i := 105) (by decide +kernel)))
abbrev gm_X12_readWhat : am_M := (yX12_readWhat, cX12_readWhat, 6, none, 5)
theorem pd_X12_readWhat : (parseMethodDescriptor yX12_readWhat.desc).map (fun d => d.parameters.length) = some 2 := by decide +kernel
theorem iw_X12_readWhat : Cond.instanceMethod yX12_readWhat ∈ lw_tbl := (tb_10 (List.mem_of_getElem? (i := 104) (by decide +kernel)))
theorem sl_X12_readWhat : Cond.selects yX12_readWhat.cls yX12_readWhat yX12_readWhat ∈ lw_tbl := tb_sel (q := (yX12_readWhat, 86)) 128 (by decide +kernel)
theorem mV_X12_readWhat : am_mV gm_X12_readWhat 2 := ⟨⟨cd_X12_readWhat, ini_RX12, nh_RX12, pd_X12_readWhat, Nat.le_of_ble_eq_true rfl⟩, iw_X12_readWhat, sl_X12_readWhat⟩
theorem cd_X12_readStep : Cond.code yX12_readStep cX12_readStep 5 none ∈ lw_tbl := (tb_10 (List.mem_of_getElem? (i := 97) (by decide +kernel)))
abbrev gm_X12_readStep (n : Nat) : am_M := (yX12_readStep, cX12_readStep, 5, none, 7 + 1 * n)
theorem pd_X12_readStep : (parseMethodDescriptor yX12_readStep.desc).map (fun d => d.parameters.length) = some 1 := by decide +kernel
theorem iw_X12_readStep : Cond.instanceMethod yX12_readStep ∈ lw_tbl := (tb_10 (List.mem_of_getElem? (i := 96) (by decide +kernel)))
theorem sl_X12_readStep : Cond.selects yX12_readStep.cls yX12_readStep yX12_readStep ∈ lw_tbl := tb_sel (q := (yX12_readStep, 86)) 126 (by decide +kernel)
theorem mV_X12_readStep (n : Nat) : am_mV (gm_X12_readStep n) 1 := ⟨⟨cd_X12_readStep, ini_RX12, nh_RX12, pd_X12_readStep, Nat.le_of_ble_eq_true rfl⟩, iw_X12_readStep, sl_X12_readStep⟩
theorem cd_X12_orders : Cond.code yX12_orders cX12_orders 3 (some .int) ∈ lw_tbl := (tb_10 (List.mem_of_getElem? (i := 93) (by decide +kernel)))
abbrev gm_X12_orders : am_M := (yX12_orders, cX12_orders, 3, (some .int), 16)
theorem pd_X12_orders : (parseMethodDescriptor yX12_orders.desc).map (fun d => d.parameters.length) = some 1 := by decide +kernel
theorem iw_X12_orders : Cond.instanceMethod yX12_orders ∈ lw_tbl := (tb_10 (List.mem_of_getElem? (i := 91) (by decide +kernel)))
theorem sl_X12_orders : Cond.selects yX12_orders.cls yX12_orders yX12_orders ∈ lw_tbl := (tb_10 (List.mem_of_getElem? (i := 92) (by decide +kernel)))
theorem mV_X12_orders : am_mV gm_X12_orders 1 := ⟨⟨cd_X12_orders, ini_RX12, nh_RX12, pd_X12_orders, Nat.le_of_ble_eq_true rfl⟩, iw_X12_orders, sl_X12_orders⟩
theorem cd_X12_isSo : Cond.code yX12_isSo cX12_isSo 5 (some .boolean) ∈ lw_tbl := (tb_10 (List.mem_of_getElem? (i := 133) (by decide +kernel)))
abbrev gm_X12_isSo : am_M := (yX12_isSo, cX12_isSo, 5, (some .boolean), 9)
theorem pd_X12_isSo : (parseMethodDescriptor yX12_isSo.desc).map (fun d => d.parameters.length) = some 2 := by decide +kernel
theorem iw_X12_isSo : Cond.instanceMethod yX12_isSo ∈ lw_tbl := (tb_10 (List.mem_of_getElem? (i := 132) (by decide +kernel)))
theorem sl_X12_isSo : Cond.selects yX12_isSo.cls yX12_isSo yX12_isSo ∈ lw_tbl := tb_sel (q := (yX12_isSo, 86)) 134 (by decide +kernel)
theorem mV_X12_isSo : am_mV gm_X12_isSo 2 := ⟨⟨cd_X12_isSo, ini_RX12, nh_RX12, pd_X12_isSo, Nat.le_of_ble_eq_true rfl⟩, iw_X12_isSo, sl_X12_isSo⟩
theorem cd_X12_goUntil : Cond.code yX12_goUntil cX12_goUntil 4 none ∈ lw_tbl := (tb_10 (List.mem_of_getElem? (i := 129) (by decide +kernel)))
abbrev gm_X12_goUntil : am_M := (yX12_goUntil, cX12_goUntil, 4, none, 10)
theorem pd_X12_goUntil : (parseMethodDescriptor yX12_goUntil.desc).map (fun d => d.parameters.length) = some 2 := by decide +kernel
theorem iw_X12_goUntil : Cond.instanceMethod yX12_goUntil ∈ lw_tbl := (tb_10 (List.mem_of_getElem? (i := 128) (by decide +kernel)))
theorem sl_X12_goUntil : Cond.selects yX12_goUntil.cls yX12_goUntil yX12_goUntil ∈ lw_tbl := tb_sel (q := (yX12_goUntil, 86)) 133 (by decide +kernel)
theorem mV_X12_goUntil : am_mV gm_X12_goUntil 2 := ⟨⟨cd_X12_goUntil, ini_RX12, nh_RX12, pd_X12_goUntil, Nat.le_of_ble_eq_true rfl⟩, iw_X12_goUntil, sl_X12_goUntil⟩
theorem cd_X12_obeyOne : Cond.code yX12_obeyOne cX12_obeyOne 4 none ∈ lw_tbl := (tb_10 (List.mem_of_getElem? (i := 125) (by decide +kernel)))
abbrev gm_X12_obeyOne (n : Nat) : am_M := (yX12_obeyOne, cX12_obeyOne, 4, none, 13 + 2 * n)
theorem pd_X12_obeyOne : (parseMethodDescriptor yX12_obeyOne.desc).map (fun d => d.parameters.length) = some 2 := by decide +kernel
theorem iw_X12_obeyOne : Cond.instanceMethod yX12_obeyOne ∈ lw_tbl := (tb_10 (List.mem_of_getElem? (i := 124) (by decide +kernel)))
theorem sl_X12_obeyOne : Cond.selects yX12_obeyOne.cls yX12_obeyOne yX12_obeyOne ∈ lw_tbl := tb_sel (q := (yX12_obeyOne, 86)) 132 (by decide +kernel)
theorem mV_X12_obeyOne (n : Nat) : am_mV (gm_X12_obeyOne n) 2 := ⟨⟨cd_X12_obeyOne, ini_RX12, nh_RX12, pd_X12_obeyOne, Nat.le_of_ble_eq_true rfl⟩, iw_X12_obeyOne, sl_X12_obeyOne⟩
theorem cd_X12_obeyAll : Cond.code yX12_obeyAll cX12_obeyAll 5 none ∈ lw_tbl := (tb_10 (List.mem_of_getElem? (i := 121) (by decide +kernel)))
abbrev gm_X12_obeyAll (n : Nat) : am_M := (yX12_obeyAll, cX12_obeyAll, 5, none, 12 + 2 * n)
theorem pd_X12_obeyAll : (parseMethodDescriptor yX12_obeyAll.desc).map (fun d => d.parameters.length) = some 3 := by decide +kernel
theorem iw_X12_obeyAll : Cond.instanceMethod yX12_obeyAll ∈ lw_tbl := (tb_10 (List.mem_of_getElem? (i := 120) (by decide +kernel)))
theorem sl_X12_obeyAll : Cond.selects yX12_obeyAll.cls yX12_obeyAll yX12_obeyAll ∈ lw_tbl := tb_sel (q := (yX12_obeyAll, 86)) 131 (by decide +kernel)
theorem mV_X12_obeyAll (n : Nat) : am_mV (gm_X12_obeyAll n) 3 := ⟨⟨cd_X12_obeyAll, ini_RX12, nh_RX12, pd_X12_obeyAll, Nat.le_of_ble_eq_true rfl⟩, iw_X12_obeyAll, sl_X12_obeyAll⟩
theorem cd_X12_obey : Cond.code yX12_obey cX12_obey 3 (some .int) ∈ lw_tbl := (tb_10 (List.mem_of_getElem? (i := 117) (by decide +kernel)))
abbrev gm_X12_obey : am_M := (yX12_obey, cX12_obey, 3, (some .int), 29)
theorem pd_X12_obey : (parseMethodDescriptor yX12_obey.desc).map (fun d => d.parameters.length) = some 2 := by decide +kernel
theorem iw_X12_obey : Cond.instanceMethod yX12_obey ∈ lw_tbl := (tb_10 (List.mem_of_getElem? (i := 115) (by decide +kernel)))
theorem sl_X12_obey : Cond.selects yX12_obey.cls yX12_obey yX12_obey ∈ lw_tbl := (tb_10 (List.mem_of_getElem? (i := 116) (by decide +kernel)))
theorem mV_X12_obey : am_mV gm_X12_obey 2 := ⟨⟨cd_X12_obey, ini_RX12, nh_RX12, pd_X12_obey, Nat.le_of_ble_eq_true rfl⟩, iw_X12_obey, sl_X12_obey⟩
theorem cd_X12_obeyed : Cond.code yX12_obeyed cX12_obeyed 2 (some .long) ∈ lw_tbl := (tb_10 (List.mem_of_getElem? (i := 137) (by decide +kernel)))
abbrev gm_X12_obeyed : am_M := (yX12_obeyed, cX12_obeyed, 2, (some .long), 2)
theorem pd_X12_obeyed : (parseMethodDescriptor yX12_obeyed.desc).map (fun d => d.parameters.length) = some 1 := by decide +kernel
theorem iw_X12_obeyed : Cond.instanceMethod yX12_obeyed ∈ lw_tbl := (tb_10 (List.mem_of_getElem? (i := 135) (by decide +kernel)))
theorem sl_X12_obeyed : Cond.selects yX12_obeyed.cls yX12_obeyed yX12_obeyed ∈ lw_tbl := (tb_10 (List.mem_of_getElem? (i := 136) (by decide +kernel)))
theorem mV_X12_obeyed : am_mV gm_X12_obeyed 1 := ⟨⟨cd_X12_obeyed, ini_RX12, nh_RX12, pd_X12_obeyed, Nat.le_of_ble_eq_true rfl⟩, iw_X12_obeyed, sl_X12_obeyed⟩
theorem cd_X12_marked : Cond.code yX12_marked cX12_marked 2 (some .int) ∈ lw_tbl := (tb_10 (List.mem_of_getElem? (i := 141) (by decide +kernel)))
abbrev gm_X12_marked : am_M := (yX12_marked, cX12_marked, 2, (some .int), 2)
theorem pd_X12_marked : (parseMethodDescriptor yX12_marked.desc).map (fun d => d.parameters.length) = some 1 := by decide +kernel
theorem iw_X12_marked : Cond.instanceMethod yX12_marked ∈ lw_tbl := (tb_10 (List.mem_of_getElem? (i := 139) (by decide +kernel)))
theorem sl_X12_marked : Cond.selects yX12_marked.cls yX12_marked yX12_marked ∈ lw_tbl := (tb_10 (List.mem_of_getElem? (i := 140) (by decide +kernel)))
theorem mV_X12_marked : am_mV gm_X12_marked 1 := ⟨⟨cd_X12_marked, ini_RX12, nh_RX12, pd_X12_marked, Nat.le_of_ble_eq_true rfl⟩, iw_X12_marked, sl_X12_marked⟩
theorem cd_X12_table : Cond.code yX12_table cX12_table 6 (some .int) ∈ lw_tbl := (tb_10 (List.mem_of_getElem? (i := 145) (by decide +kernel)))
abbrev gm_X12_table : am_M := (yX12_table, cX12_table, 6, (some .int), 8)
theorem pd_X12_table : (parseMethodDescriptor yX12_table.desc).map (fun d => d.parameters.length) = some 4 := by decide +kernel
theorem iw_X12_table : Cond.instanceMethod yX12_table ∈ lw_tbl := (tb_10 (List.mem_of_getElem? (i := 143) (by decide +kernel)))
theorem sl_X12_table : Cond.selects yX12_table.cls yX12_table yX12_table ∈ lw_tbl := (tb_10 (List.mem_of_getElem? (i := 144) (by decide +kernel)))
theorem mV_X12_table : am_mV gm_X12_table 4 := ⟨⟨cd_X12_table, ini_RX12, nh_RX12, pd_X12_table, Nat.le_of_ble_eq_true rfl⟩, iw_X12_table, sl_X12_table⟩
theorem sp_X3_163 : Cond.methodLink RX3 163 Lib.Math.max.name ∈ lw_tbl := (tb_4 (List.mem_of_getElem? (i := 194) (by decide +kernel)))
theorem ln_X10_46 : am_ln RX10 46 yX10_turnedGone := Or.inl (tb_4 (List.mem_of_getElem? (i := 174) (by decide +kernel)))
theorem ln_X10_50 : am_ln RX10 50 yX10_trueGone := Or.inl (tb_4 (List.mem_of_getElem? (i := 177) (by decide +kernel)))
theorem ln_X3_169 : am_ln RX3 169 yX3_zeroHeight := Or.inl (tb_4 (List.mem_of_getElem? (i := 190) (by decide +kernel)))
theorem ln_X3_173 : am_ln RX3 173 yX10_placeAt := Or.inl (tb_4 (List.mem_of_getElem? (i := 195) (by decide +kernel)))
theorem ln_X3_177 : am_ln RX3 177 yX11_cosOf := Or.inr ⟨"TideDiscs", (tb_4 (List.mem_of_getElem? (i := 196) (by decide +kernel)))⟩
theorem ln_X1_53 : am_ln RX1 53 yX1_isGap := Or.inl (tb_5 (List.mem_of_getElem? (i := 94) (by decide +kernel)))
theorem sp_X1_57 : Cond.methodLink RX1 57 Lib.Math.abs.name ∈ lw_tbl := (tb_5 (List.mem_of_getElem? (i := 143) (by decide +kernel)))
theorem sp_X0_66 : Cond.methodLink RX0 66 Lib.Math.max.name ∈ lw_tbl := (tb_5 (List.mem_of_getElem? (i := 150) (by decide +kernel)))
theorem ln_X0_42 : am_ln RX0 42 yX3_heightAt := Or.inl (tb_5 (List.mem_of_getElem? (i := 138) (by decide +kernel)))
theorem ln_X0_48 : am_ln RX0 48 yX1_missOf := Or.inl (tb_5 (List.mem_of_getElem? (i := 139) (by decide +kernel)))
theorem ln_X0_62 : am_ln RX0 62 yX0_trySlip := Or.inl (tb_5 (List.mem_of_getElem? (i := 146) (by decide +kernel)))
theorem ln_X0_71 : am_ln RX0 71 yX3_laggedHeightAt := Or.inl (tb_5 (List.mem_of_getElem? (i := 163) (by decide +kernel)))
theorem ln_X0_75 : am_ln RX0 75 yX0_weighNeighbour := Or.inl (tb_5 (List.mem_of_getElem? (i := 167) (by decide +kernel)))
theorem ln_X0_99 : am_ln RX0 99 yX10_toothed := Or.inl (tb_5 (List.mem_of_getElem? (i := 191) (by decide +kernel)))
theorem ln_X0_103 : am_ln RX0 103 yX10_drivingWith := Or.inl (tb_5 (List.mem_of_getElem? (i := 192) (by decide +kernel)))
theorem ln_X0_107 : am_ln RX0 107 yX10_drivenWith := Or.inl (tb_5 (List.mem_of_getElem? (i := 196) (by decide +kernel)))
theorem ln_X0_110 : am_ln RX0 110 yX10_placeAt := Or.inl (tb_5 (List.mem_of_getElem? (i := 200) (by decide +kernel)))
theorem ln_X0_113 : am_ln RX0 113 yX11_cosOf := Or.inr ⟨"TideDiscs", (tb_5 (List.mem_of_getElem? (i := 201) (by decide +kernel)))⟩
theorem ln_X0_120 : am_ln RX0 120 yX10_turnedGone := Or.inl (tb_5 (List.mem_of_getElem? (i := 202) (by decide +kernel)))
theorem ln_X0_89 : am_ln RX0 89 yX10_wheels := Or.inl (tb_5 (List.mem_of_getElem? (i := 183) (by decide +kernel)))
theorem ln_X0_95 : am_ln RX0 95 yX0_tryTooth := Or.inl (tb_5 (List.mem_of_getElem? (i := 187) (by decide +kernel)))
theorem ln_X0_157 : am_ln RX0 157 yX10_trueGone := Or.inl (tb_6 (List.mem_of_getElem? (i := 32) (by decide +kernel)))
theorem sp_X0_146 : Cond.methodLink RX0 146 Lib.Math.abs.name ∈ lw_tbl := (tb_6 (List.mem_of_getElem? (i := 27) (by decide +kernel)))
theorem ln_X0_166 : am_ln RX0 166 yX0_sumSpread := Or.inl (tb_6 (List.mem_of_getElem? (i := 42) (by decide +kernel)))
theorem ln_X0_163 : am_ln RX0 163 yX0_bestSize := Or.inl (tb_6 (List.mem_of_getElem? (i := 38) (by decide +kernel)))
theorem sp_X0_133 : Cond.methodLink RX0 133 Lib.Math.min.name ∈ lw_tbl := (tb_6 (List.mem_of_getElem? (i := 25) (by decide +kernel)))
theorem ln_X0_136 : am_ln RX0 136 yX3_waveAt := Or.inl (tb_6 (List.mem_of_getElem? (i := 26) (by decide +kernel)))
theorem ln_X0_149 : am_ln RX0 149 yX0_prepareSpread := Or.inl (tb_6 (List.mem_of_getElem? (i := 28) (by decide +kernel)))
theorem ln_X0_153 : am_ln RX0 153 yX0_trySpread := Or.inl (tb_6 (List.mem_of_getElem? (i := 34) (by decide +kernel)))
theorem sp_X1_28 : Cond.methodLink RX1 28 Lib.Math.min.name ∈ lw_tbl := (tb_5 (List.mem_of_getElem? (i := 84) (by decide +kernel)))
theorem sp_X1_34 : Cond.methodLink RX1 34 Lib.Math.max.name ∈ lw_tbl := (tb_5 (List.mem_of_getElem? (i := 85) (by decide +kernel)))
theorem ln_X1_41 : am_ln RX1 41 yX8_at := Or.inl (tb_5 (List.mem_of_getElem? (i := 86) (by decide +kernel)))
theorem ln_X1_76 : am_ln RX1 76 yX10_trueGone := Or.inl (tb_5 (List.mem_of_getElem? (i := 102) (by decide +kernel)))
theorem ln_X1_82 : am_ln RX1 82 yX11_cosOf := Or.inr ⟨"TideDiscs", (tb_5 (List.mem_of_getElem? (i := 103) (by decide +kernel)))⟩
theorem ln_X1_68 : am_ln RX1 68 yX1_determinant := Or.inl (tb_5 (List.mem_of_getElem? (i := 105) (by decide +kernel)))
theorem ln_X1_64 : am_ln RX1 64 yX1_addReading := Or.inl (tb_5 (List.mem_of_getElem? (i := 98) (by decide +kernel)))
theorem ln_X1_88 : am_ln RX1 88 yX1_partTop := Or.inl (tb_5 (List.mem_of_getElem? (i := 125) (by decide +kernel)))
theorem ln_X2_32 : am_ln RX2 32 yX3_waveAt := Or.inl (tb_6 (List.mem_of_getElem? (i := 8) (by decide +kernel)))
theorem ln_X2_38 : am_ln RX2 38 yX10_placeAt := Or.inl (tb_6 (List.mem_of_getElem? (i := 9) (by decide +kernel)))
theorem sp_X2_44 : Cond.methodLink RX2 44 Lib.Math.abs.name ∈ lw_tbl := (tb_6 (List.mem_of_getElem? (i := 10) (by decide +kernel)))
theorem sp_X3_185 : Cond.methodLink RX3 185 Lib.Math.min.name ∈ lw_tbl := (tb_5 (List.mem_of_getElem? (i := 226) (by decide +kernel)))
theorem ln_X3_181 : am_ln RX3 181 yX3_extremeCos := Or.inl (tb_5 (List.mem_of_getElem? (i := 223) (by decide +kernel)))
theorem ln_X2_56 : am_ln RX2 56 yX3_boundAt := Or.inl (tb_6 (List.mem_of_getElem? (i := 15) (by decide +kernel)))
theorem ln_X2_70 : am_ln RX2 70 yX3_heightAt := Or.inl (tb_6 (List.mem_of_getElem? (i := 16) (by decide +kernel)))
theorem ln_X2_18 : am_ln RX2 18 yX2_isInTime := Or.inl (tb_6 (List.mem_of_getElem? (i := 0) (by decide +kernel)))
theorem ln_X2_22 : am_ln RX2 22 yX2_isMoonFine := Or.inl (tb_6 (List.mem_of_getElem? (i := 4) (by decide +kernel)))
theorem ln_X2_26 : am_ln RX2 26 yX2_isHeightFine := Or.inl (tb_6 (List.mem_of_getElem? (i := 11) (by decide +kernel)))
theorem sp_X5_60 : Cond.methodLink RX5 60 yJ0_length_8abf5 ∈ lw_tbl := (tb_3 (List.mem_of_getElem? (i := 197) (by decide +kernel)))
theorem ln_X5_65 : am_ln RX5 65 yX5_byteAt := Or.inl (tb_3 (List.mem_of_getElem? (i := 207) (by decide +kernel)))
theorem sp_X5_68 : Cond.methodLink RX5 68 yJ0_charAt_5068e ∈ lw_tbl := (tb_3 (List.mem_of_getElem? (i := 211) (by decide +kernel)))
theorem ln_X5_43 : am_ln RX5 43 yX5_isBlank := Or.inl (tb_3 (List.mem_of_getElem? (i := 174) (by decide +kernel)))
theorem ln_X5_53 : am_ln RX5 53 yX5_sortOf := Or.inl (tb_3 (List.mem_of_getElem? (i := 177) (by decide +kernel)))
theorem ln_X5_78 : am_ln RX5 78 yX5_isWord := Or.inl (tb_4 (List.mem_of_getElem? (i := 23) (by decide +kernel)))
theorem ln_X5_72 : am_ln RX5 72 yX5_isKept := Or.inl (tb_4 (List.mem_of_getElem? (i := 18) (by decide +kernel)))
theorem ln_X10_41 : am_ln RX10 41 yX10_multiplyTeeth := Or.inl (tb_4 (List.mem_of_getElem? (i := 51) (by decide +kernel)))
theorem ln_X5_104 : am_ln RX5 104 yX5_refuse := Or.inl (tb_4 (List.mem_of_getElem? (i := 63) (by decide +kernel)))
theorem ln_X5_40 : am_ln RX5 40 yX5_advance := Or.inl (tb_3 (List.mem_of_getElem? (i := 170) (by decide +kernel)))
theorem ln_X5_110 : am_ln RX5 110 yX5_isNumber := Or.inl (tb_4 (List.mem_of_getElem? (i := 68) (by decide +kernel)))
theorem ln_X3_105 : am_ln RX3 105 yX5_takesWord := Or.inl (tb_4 (List.mem_of_getElem? (i := 59) (by decide +kernel)))
theorem ln_X3_108 : am_ln RX3 108 yX5_standsNumber := Or.inl (tb_4 (List.mem_of_getElem? (i := 64) (by decide +kernel)))
theorem ln_X3_74 : am_ln RX3 74 yX5_advance := Or.inl (tb_4 (List.mem_of_getElem? (i := 13) (by decide +kernel)))
theorem ln_X3_54 : am_ln RX3 54 yX5_isWord := Or.inl (tb_3 (List.mem_of_getElem? (i := 193) (by decide +kernel)))
theorem ln_X5_107 : am_ln RX5 107 yX5_isSign := Or.inl (tb_4 (List.mem_of_getElem? (i := 86) (by decide +kernel)))
theorem ln_X3_146 : am_ln RX3 146 yX5_isNumber := Or.inl (tb_4 (List.mem_of_getElem? (i := 93) (by decide +kernel)))
theorem ln_X3_155 : am_ln RX3 155 yX10_multiplyTeeth := Or.inl (tb_4 (List.mem_of_getElem? (i := 94) (by decide +kernel)))
theorem ln_X3_122 : am_ln RX3 122 yX3_settingOf := Or.inl (tb_4 (List.mem_of_getElem? (i := 76) (by decide +kernel)))
theorem ln_X3_126 : am_ln RX3 126 yX5_takesSign := Or.inl (tb_4 (List.mem_of_getElem? (i := 82) (by decide +kernel)))
theorem ln_X3_48 : am_ln RX3 48 yX5_refuse := Or.inl (tb_4 (List.mem_of_getElem? (i := 33) (by decide +kernel)))
theorem ln_X3_129 : am_ln RX3 129 yX3_readsTrain := Or.inl (tb_4 (List.mem_of_getElem? (i := 90) (by decide +kernel)))
theorem ln_X3_132 : am_ln RX3 132 yX3_readsNumber := Or.inl (tb_4 (List.mem_of_getElem? (i := 95) (by decide +kernel)))
theorem ln_X3_77 : am_ln RX3 77 yX5_isName := Or.inl (tb_4 (List.mem_of_getElem? (i := 14) (by decide +kernel)))
theorem ln_X3_80 : am_ln RX3 80 yX5_nameCode := Or.inl (tb_4 (List.mem_of_getElem? (i := 37) (by decide +kernel)))
theorem ln_X3_84 : am_ln RX3 84 yX3_hasName := Or.inl (tb_4 (List.mem_of_getElem? (i := 43) (by decide +kernel)))
theorem ln_X3_88 : am_ln RX3 88 yX10_clear := Or.inl (tb_4 (List.mem_of_getElem? (i := 47) (by decide +kernel)))
theorem ln_X3_92 : am_ln RX3 92 yX3_readsTurns := Or.inl (tb_4 (List.mem_of_getElem? (i := 55) (by decide +kernel)))
theorem ln_X3_96 : am_ln RX3 96 yX3_readsSettings := Or.inl (tb_4 (List.mem_of_getElem? (i := 73) (by decide +kernel)))
theorem ln_X3_160 : am_ln RX3 160 yX3_hasKind := Or.inl (tb_4 (List.mem_of_getElem? (i := 104) (by decide +kernel)))
theorem ln_X3_58 : am_ln RX3 58 yX3_readsWave := Or.inl (tb_4 (List.mem_of_getElem? (i := 9) (by decide +kernel)))
theorem ln_X3_63 : am_ln RX3 63 yX3_readsBox := Or.inl (tb_4 (List.mem_of_getElem? (i := 99) (by decide +kernel)))
theorem ln_X3_67 : am_ln RX3 67 yX3_readsSlack := Or.inl (tb_4 (List.mem_of_getElem? (i := 109) (by decide +kernel)))
theorem ln_X3_71 : am_ln RX3 71 yX3_readsZero := Or.inl (tb_4 (List.mem_of_getElem? (i := 114) (by decide +kernel)))
theorem ln_X3_38 : am_ln RX3 38 yX5_isAtEnd := Or.inl (tb_3 (List.mem_of_getElem? (i := 184) (by decide +kernel)))
theorem ln_X3_44 : am_ln RX3 44 yX3_readsPart := Or.inl (tb_3 (List.mem_of_getElem? (i := 188) (by decide +kernel)))
theorem ln_X3_188 : am_ln RX3 188 yX3_heightAt := Or.inl (tb_4 (List.mem_of_getElem? (i := 213) (by decide +kernel)))
theorem ln_X3_192 : am_ln RX3 192 yX3_lastHourOf := Or.inl (tb_6 (List.mem_of_getElem? (i := 63) (by decide +kernel)))
theorem ln_X3_196 : am_ln RX3 196 yX3_extremeHour := Or.inl (tb_6 (List.mem_of_getElem? (i := 92) (by decide +kernel)))
theorem ln_X3_203 : am_ln RX3 203 yX3_mostSwing := Or.inl (tb_6 (List.mem_of_getElem? (i := 71) (by decide +kernel)))
theorem ln_X3_200 : am_ln RX3 200 yX3_nextWater := Or.inl (tb_6 (List.mem_of_getElem? (i := 67) (by decide +kernel)))
theorem ln_X10_70 : am_ln RX10 70 yX10_roundedUp := Or.inl (tb_6 (List.mem_of_getElem? (i := 123) (by decide +kernel)))
theorem sp_X10_74 : Cond.methodLink RX10 74 Lib.MathLoose.min_long.x ∈ lw_tbl := (tb_6 (List.mem_of_getElem? (i := 126) (by decide +kernel)))
theorem ln_X3_209 : am_ln RX3 209 yX10_firstWornHour := Or.inl (tb_6 (List.mem_of_getElem? (i := 118) (by decide +kernel)))
theorem sp_X3_213 : Cond.methodLink RX3 213 Lib.MathLoose.min_long.x ∈ lw_tbl := (tb_6 (List.mem_of_getElem? (i := 129) (by decide +kernel)))
theorem ln_X4_43 : am_ln RX4 43 yX5_refuse := Or.inl (tb_6 (List.mem_of_getElem? (i := 180) (by decide +kernel)))
theorem ln_X4_60 : am_ln RX4 60 yX5_advance := Or.inl (tb_6 (List.mem_of_getElem? (i := 187) (by decide +kernel)))
theorem ln_X4_63 : am_ln RX4 63 yX5_takesSign := Or.inl (tb_6 (List.mem_of_getElem? (i := 188) (by decide +kernel)))
theorem ln_X4_49 : am_ln RX4 49 yX5_isWord := Or.inl (tb_6 (List.mem_of_getElem? (i := 182) (by decide +kernel)))
theorem ln_X4_96 : am_ln RX4 96 yX5_standsNumber := Or.inl (tb_6 (List.mem_of_getElem? (i := 210) (by decide +kernel)))
theorem ln_X4_86 : am_ln RX4 86 yX4_readsNumber := Or.inl (tb_6 (List.mem_of_getElem? (i := 206) (by decide +kernel)))
theorem ln_X4_90 : am_ln RX4 90 yX4_readsWater := Or.inl (tb_6 (List.mem_of_getElem? (i := 211) (by decide +kernel)))
theorem ln_X4_93 : am_ln RX4 93 yX4_readsLevel := Or.inl (tb_6 (List.mem_of_getElem? (i := 217) (by decide +kernel)))
theorem ln_X4_66 : am_ln RX4 66 yX4_deedOf := Or.inl (tb_6 (List.mem_of_getElem? (i := 193) (by decide +kernel)))
theorem ln_X4_70 : am_ln RX4 70 yX4_readsRest := Or.inl (tb_6 (List.mem_of_getElem? (i := 202) (by decide +kernel)))
theorem ln_X4_37 : am_ln RX4 37 yX5_isAtEnd := Or.inl (tb_6 (List.mem_of_getElem? (i := 179) (by decide +kernel)))
theorem ln_X4_53 : am_ln RX4 53 yX4_readsEnd := Or.inl (tb_6 (List.mem_of_getElem? (i := 183) (by decide +kernel)))
theorem ln_X4_57 : am_ln RX4 57 yX4_readsStep := Or.inl (tb_6 (List.mem_of_getElem? (i := 189) (by decide +kernel)))
theorem sp_X5_25 : Cond.methodLink RX5 25 Lib.Math.min.name ∈ lw_tbl := (tb_3 (List.mem_of_getElem? (i := 168) (by decide +kernel)))
theorem sp_X5_31 : Cond.methodLink RX5 31 Lib.Math.max.name ∈ lw_tbl := (tb_3 (List.mem_of_getElem? (i := 169) (by decide +kernel)))
theorem sp_X10_54 : Cond.methodLink RX10 54 Lib.MathLoose.abs_long.x ∈ lw_tbl := (tb_4 (List.mem_of_getElem? (i := 222) (by decide +kernel)))
theorem ln_X10_59 : am_ln RX10 59 yX10_offBottom := Or.inl (tb_6 (List.mem_of_getElem? (i := 152) (by decide +kernel)))
theorem ln_X10_62 : am_ln RX10 62 yX10_offTop := Or.inl (tb_6 (List.mem_of_getElem? (i := 153) (by decide +kernel)))
theorem ln_X6_55 : am_ln RX6 55 yX10_hasTrain := Or.inl (tb_6 (List.mem_of_getElem? (i := 147) (by decide +kernel)))
theorem ln_X6_65 : am_ln RX6 65 yX10_offThousandths := Or.inl (tb_6 (List.mem_of_getElem? (i := 148) (by decide +kernel)))
theorem ln_X6_51 : am_ln RX6 51 yX6_offNow := Or.inl (tb_6 (List.mem_of_getElem? (i := 143) (by decide +kernel)))
theorem ln_X6_69 : am_ln RX6 69 yX10_drivingWith := Or.inl (tb_6 (List.mem_of_getElem? (i := 165) (by decide +kernel)))
theorem ln_X6_73 : am_ln RX6 73 yX10_drivenWith := Or.inl (tb_6 (List.mem_of_getElem? (i := 166) (by decide +kernel)))
theorem ln_X6_41 : am_ln RX6 41 yX10_wheels := Or.inl (tb_6 (List.mem_of_getElem? (i := 155) (by decide +kernel)))
theorem ln_X6_76 : am_ln RX6 76 yX10_toothed := Or.inl (tb_6 (List.mem_of_getElem? (i := 160) (by decide +kernel)))
theorem ln_X6_80 : am_ln RX6 80 yX6_offWith := Or.inl (tb_6 (List.mem_of_getElem? (i := 161) (by decide +kernel)))
theorem ln_X6_17 : am_ln RX6 17 yX6_sumOff := Or.inl (tb_6 (List.mem_of_getElem? (i := 139) (by decide +kernel)))
theorem ln_X6_47 : am_ln RX6 47 yX6_tryAll := Or.inl (tb_6 (List.mem_of_getElem? (i := 156) (by decide +kernel)))
theorem ln_X7_75 : am_ln RX7 75 yX10_offTop := Or.inl (tb_5 (List.mem_of_getElem? (i := 17) (by decide +kernel)))
theorem ln_X7_89 : am_ln RX7 89 yX7_keepTried := Or.inl (tb_5 (List.mem_of_getElem? (i := 19) (by decide +kernel)))
theorem ln_X7_69 : am_ln RX7 69 yX7_weighTrain := Or.inl (tb_5 (List.mem_of_getElem? (i := 13) (by decide +kernel)))
theorem ln_X7_62 : am_ln RX7 62 yX7_tryWheel := Or.inl (tb_5 (List.mem_of_getElem? (i := 9) (by decide +kernel)))
theorem ln_X7_47 : am_ln RX7 47 yX7_emptiedBox := Or.inl (tb_5 (List.mem_of_getElem? (i := 5) (by decide +kernel)))
theorem ln_X7_114 : am_ln RX7 114 yX10_offBottom := Or.inl (tb_5 (List.mem_of_getElem? (i := 46) (by decide +kernel)))
theorem sp_X7_118 : Cond.methodLink RX7 118 Lib.Math.min.name ∈ lw_tbl := (tb_5 (List.mem_of_getElem? (i := 47) (by decide +kernel)))
theorem ln_X7_107 : am_ln RX7 107 yX7_tryCouple := Or.inl (tb_5 (List.mem_of_getElem? (i := 52) (by decide +kernel)))
theorem ln_X7_124 : am_ln RX7 124 yX7_tryDriven := Or.inl (tb_5 (List.mem_of_getElem? (i := 56) (by decide +kernel)))
theorem ln_X7_99 : am_ln RX7 99 yX7_noteFitting := Or.inl (tb_5 (List.mem_of_getElem? (i := 41) (by decide +kernel)))
theorem ln_X7_104 : am_ln RX7 104 yX7_sumLeast := Or.inl (tb_5 (List.mem_of_getElem? (i := 48) (by decide +kernel)))
theorem sp_X8_19 : Cond.methodLink RX8 19 Lib.Math.min.name ∈ lw_tbl := (tb_3 (List.mem_of_getElem? (i := 98) (by decide +kernel)))
theorem sp_X8_25 : Cond.methodLink RX8 25 Lib.Math.max.name ∈ lw_tbl := (tb_3 (List.mem_of_getElem? (i := 101) (by decide +kernel)))
theorem ln_X9_110 : am_ln RX9 110 yX3_mostSwing := Or.inl (tb_7 (List.mem_of_getElem? (i := 14) (by decide +kernel)))
theorem ln_X9_114 : am_ln RX9 114 yX3_zeroHeight := Or.inl (tb_7 (List.mem_of_getElem? (i := 15) (by decide +kernel)))
theorem ln_X9_87 : am_ln RX9 87 yX3_heightAt := Or.inl (tb_7 (List.mem_of_getElem? (i := 20) (by decide +kernel)))
theorem ln_X9_98 : am_ln RX9 98 yX3_nextWater := Or.inl (tb_7 (List.mem_of_getElem? (i := 9) (by decide +kernel)))
theorem ln_X9_102 : am_ln RX9 102 yX9_canReach := Or.inl (tb_7 (List.mem_of_getElem? (i := 10) (by decide +kernel)))
theorem ln_X9_105 : am_ln RX9 105 yX9_nextLevel := Or.inl (tb_7 (List.mem_of_getElem? (i := 16) (by decide +kernel)))
theorem ln_X9_73 : am_ln RX9 73 yX9_goTo := Or.inl (tb_7 (List.mem_of_getElem? (i := 0) (by decide +kernel)))
theorem ln_X9_80 : am_ln RX9 80 yX9_goUntil := Or.inl (tb_7 (List.mem_of_getElem? (i := 5) (by decide +kernel)))
theorem ln_X9_84 : am_ln RX9 84 yX9_markHour := Or.inl (tb_7 (List.mem_of_getElem? (i := 22) (by decide +kernel)))
theorem ln_X9_93 : am_ln RX9 93 yX9_isLevel := Or.inl (tb_7 (List.mem_of_getElem? (i := 26) (by decide +kernel)))
theorem ln_X9_50 : am_ln RX9 50 yX9_passEnds := Or.inl (tb_6 (List.mem_of_getElem? (i := 232) (by decide +kernel)))
theorem ln_X9_58 : am_ln RX9 58 yX9_doStep := Or.inl (tb_6 (List.mem_of_getElem? (i := 236) (by decide +kernel)))
theorem ln_X11_100 : am_ln RX11 100 yX11_trayOf := Or.inl (tb_3 (List.mem_of_getElem? (i := 86) (by decide +kernel)))
theorem ln_X11_104 : am_ln RX11 104 yX11_no := Or.inl (tb_3 (List.mem_of_getElem? (i := 90) (by decide +kernel)))
theorem ln_X11_108 : am_ln RX11 108 yX8_makeAnew := Or.inl (tb_3 (List.mem_of_getElem? (i := 94) (by decide +kernel)))
theorem ln_X11_112 : am_ln RX11 112 yX11_yes := Or.inl (tb_3 (List.mem_of_getElem? (i := 104) (by decide +kernel)))
theorem ln_X11_132 : am_ln RX11 132 yX8_isMissing := Or.inl (tb_3 (List.mem_of_getElem? (i := 116) (by decide +kernel)))
theorem ln_X11_116 : am_ln RX11 116 yX11_whyNoPlace := Or.inl (tb_3 (List.mem_of_getElem? (i := 112) (by decide +kernel)))
theorem ln_X11_120 : am_ln RX11 120 yX8_put := Or.inl (tb_3 (List.mem_of_getElem? (i := 120) (by decide +kernel)))
theorem ln_X11_124 : am_ln RX11 124 yX11_none := Or.inl (tb_3 (List.mem_of_getElem? (i := 128) (by decide +kernel)))
theorem ln_X11_128 : am_ln RX11 128 yX8_at := Or.inl (tb_3 (List.mem_of_getElem? (i := 132) (by decide +kernel)))
theorem ln_X11_138 : am_ln RX11 138 yX8_hasRun := Or.inl (tb_3 (List.mem_of_getElem? (i := 141) (by decide +kernel)))
theorem sp_X11_146 : Cond.methodLink RX11 146 arraycopyName ∈ lw_tbl := (tb_3 (List.mem_of_getElem? (i := 145) (by decide +kernel)))
theorem ln_X11_155 : am_ln RX11 155 yX5_append := Or.inl (tb_3 (List.mem_of_getElem? (i := 152) (by decide +kernel)))
theorem ln_X11_159 : am_ln RX11 159 yX11_machineOf := Or.inl (tb_3 (List.mem_of_getElem? (i := 160) (by decide +kernel)))
theorem ln_X11_163 : am_ln RX11 163 yX5_begin := Or.inl (tb_3 (List.mem_of_getElem? (i := 164) (by decide +kernel)))
theorem ln_X11_166 : am_ln RX11 166 yX3_readFrom := Or.inl (tb_3 (List.mem_of_getElem? (i := 180) (by decide +kernel)))
theorem ln_X11_170 : am_ln RX11 170 yX5_empty := Or.inl (tb_4 (List.mem_of_getElem? (i := 118) (by decide +kernel)))
theorem ln_X11_176 : am_ln RX11 176 yX11_answer := Or.inl (tb_4 (List.mem_of_getElem? (i := 122) (by decide +kernel)))
theorem sp_X11_191 : Cond.methodLink RX11 191 Lib.Math.max.name ∈ lw_tbl := (tb_4 (List.mem_of_getElem? (i := 134) (by decide +kernel)))
theorem ln_X11_401 : am_ln RX11 401 yX3_waveAt := Or.inl (tb_4 (List.mem_of_getElem? (i := 143) (by decide +kernel)))
theorem ln_X11_199 : am_ln RX11 199 yX11_waveOf := Or.inl (tb_4 (List.mem_of_getElem? (i := 139) (by decide +kernel)))
theorem ln_X11_216 : am_ln RX11 216 yX10_hasTrain := Or.inl (tb_4 (List.mem_of_getElem? (i := 147) (by decide +kernel)))
theorem ln_X11_219 : am_ln RX11 219 yX10_toothed := Or.inl (tb_4 (List.mem_of_getElem? (i := 151) (by decide +kernel)))
theorem ln_X11_222 : am_ln RX11 222 yX11_isWithin := Or.inl (tb_4 (List.mem_of_getElem? (i := 159) (by decide +kernel)))
theorem ln_X11_226 : am_ln RX11 226 yX11_isHour := Or.inl (tb_4 (List.mem_of_getElem? (i := 166) (by decide +kernel)))
theorem ln_X11_229 : am_ln RX11 229 yX10_placeAt := Or.inl (tb_4 (List.mem_of_getElem? (i := 170) (by decide +kernel)))
theorem ln_X11_233 : am_ln RX11 233 yX3_heightAt := Or.inl (tb_4 (List.mem_of_getElem? (i := 186) (by decide +kernel)))
theorem ln_X11_236 : am_ln RX11 236 yX11_isSpan := Or.inl (tb_4 (List.mem_of_getElem? (i := 206) (by decide +kernel)))
theorem ln_X11_239 : am_ln RX11 239 yX3_pointerAt := Or.inl (tb_4 (List.mem_of_getElem? (i := 209) (by decide +kernel)))
theorem sp_X11_503 : Cond.methodLink RX11 503 Lib.MathLoose.abs_long.x ∈ lw_tbl := (tb_4 (List.mem_of_getElem? (i := 233) (by decide +kernel)))
theorem ln_X11_505 : am_ln RX11 505 yX11_commonDivisor := Or.inl (tb_4 (List.mem_of_getElem? (i := 234) (by decide +kernel)))
theorem ln_X11_248 : am_ln RX11 248 yX10_offTop := Or.inl (tb_4 (List.mem_of_getElem? (i := 218) (by decide +kernel)))
theorem ln_X11_252 : am_ln RX11 252 yX10_offBottom := Or.inl (tb_4 (List.mem_of_getElem? (i := 225) (by decide +kernel)))
theorem ln_X11_256 : am_ln RX11 256 yX11_tellFraction := Or.inl (tb_4 (List.mem_of_getElem? (i := 229) (by decide +kernel)))
theorem ln_X11_260 : am_ln RX11 260 yX7_findBest := Or.inl (tb_5 (List.mem_of_getElem? (i := 1) (by decide +kernel)))
theorem ln_X11_282 : am_ln RX11 282 yJ6_bitCount_0f7a4 := Or.inl (tb_5 (List.mem_of_getElem? (i := 31) (by decide +kernel)))
theorem ln_X11_287 : am_ln RX11 287 yX7_findShared := Or.inl (tb_5 (List.mem_of_getElem? (i := 37) (by decide +kernel)))
theorem ln_X11_297 : am_ln RX11 297 yX11_areTrays := Or.inl (tb_5 (List.mem_of_getElem? (i := 68) (by decide +kernel)))
theorem ln_X11_300 : am_ln RX11 300 yX11_isOneMissing := Or.inl (tb_5 (List.mem_of_getElem? (i := 72) (by decide +kernel)))
theorem ln_X11_303 : am_ln RX11 303 yX11_haveBoth := Or.inl (tb_5 (List.mem_of_getElem? (i := 76) (by decide +kernel)))
theorem ln_X11_306 : am_ln RX11 306 yX1_takeFrom := Or.inl (tb_5 (List.mem_of_getElem? (i := 80) (by decide +kernel)))
theorem ln_X11_310 : am_ln RX11 310 yX1_partsWaves := Or.inl (tb_5 (List.mem_of_getElem? (i := 90) (by decide +kernel)))
theorem ln_X11_314 : am_ln RX11 314 yX1_partTop := Or.inl (tb_5 (List.mem_of_getElem? (i := 109) (by decide +kernel)))
theorem ln_X11_500 : am_ln RX11 500 yX1_roundedPart := Or.inl (tb_5 (List.mem_of_getElem? (i := 121) (by decide +kernel)))
theorem ln_X11_320 : am_ln RX11 320 yX11_haveMoved := Or.inl (tb_5 (List.mem_of_getElem? (i := 117) (by decide +kernel)))
theorem ln_X11_323 : am_ln RX11 323 yX11_whyNoGauge := Or.inl (tb_5 (List.mem_of_getElem? (i := 130) (by decide +kernel)))
theorem ln_X11_327 : am_ln RX11 327 yX0_findSlip := Or.inl (tb_5 (List.mem_of_getElem? (i := 134) (by decide +kernel)))
theorem ln_X11_341 : am_ln RX11 341 yX0_findNeighbour := Or.inl (tb_5 (List.mem_of_getElem? (i := 159) (by decide +kernel)))
theorem ln_X11_351 : am_ln RX11 351 yX0_findWheel := Or.inl (tb_5 (List.mem_of_getElem? (i := 179) (by decide +kernel)))
theorem ln_X11_363 : am_ln RX11 363 yX3_extremeHour := Or.inl (tb_5 (List.mem_of_getElem? (i := 211) (by decide +kernel)))
theorem ln_X11_367 : am_ln RX11 367 yX3_boundAt := Or.inl (tb_5 (List.mem_of_getElem? (i := 219) (by decide +kernel)))
theorem ln_X11_397 : am_ln RX11 397 yX2_firstHour := Or.inl (tb_5 (List.mem_of_getElem? (i := 236) (by decide +kernel)))
theorem ln_X11_405 : am_ln RX11 405 yX0_findSpread := Or.inl (tb_6 (List.mem_of_getElem? (i := 21) (by decide +kernel)))
theorem sp_X11_424 : Cond.methodLink RX11 424 Lib.Math.abs.name ∈ lw_tbl := (tb_6 (List.mem_of_getElem? (i := 54) (by decide +kernel)))
theorem ln_X11_427 : am_ln RX11 427 yX3_watersOf := Or.inl (tb_6 (List.mem_of_getElem? (i := 59) (by decide +kernel)))
theorem ln_X11_431 : am_ln RX11 431 yX3_waterOf := Or.inl (tb_6 (List.mem_of_getElem? (i := 80) (by decide +kernel)))
theorem ln_X11_435 : am_ln RX11 435 yX3_rangeOf := Or.inl (tb_6 (List.mem_of_getElem? (i := 88) (by decide +kernel)))
theorem sp_X11_439 : Cond.methodLink RX11 439 Lib.Math.min.name ∈ lw_tbl := (tb_6 (List.mem_of_getElem? (i := 97) (by decide +kernel)))
theorem ln_X11_442 : am_ln RX11 442 yX3_nextWater := Or.inl (tb_6 (List.mem_of_getElem? (i := 98) (by decide +kernel)))
theorem ln_X11_445 : am_ln RX11 445 yX10_wheels := Or.inl (tb_6 (List.mem_of_getElem? (i := 103) (by decide +kernel)))
theorem ln_X11_449 : am_ln RX11 449 yX10_wearOf := Or.inl (tb_6 (List.mem_of_getElem? (i := 104) (by decide +kernel)))
theorem ln_X11_453 : am_ln RX11 453 yX3_firstWornHour := Or.inl (tb_6 (List.mem_of_getElem? (i := 113) (by decide +kernel)))
theorem ln_X11_458 : am_ln RX11 458 yX6_findTrade := Or.inl (tb_6 (List.mem_of_getElem? (i := 135) (by decide +kernel)))
theorem ln_X11_470 : am_ln RX11 470 yX4_readFrom := Or.inl (tb_6 (List.mem_of_getElem? (i := 175) (by decide +kernel)))
theorem ln_X11_474 : am_ln RX11 474 yX9_goThrough := Or.inl (tb_6 (List.mem_of_getElem? (i := 228) (by decide +kernel)))
theorem sp_X12_131 : Cond.methodLink RX12 131 Lib.MathLoose.abs_long.x ∈ lw_tbl := (tb_9 (List.mem_of_getElem? (i := 76) (by decide +kernel)))
theorem ln_X12_137 : am_ln RX12 137 yX12_no := Or.inl (tb_8 (List.mem_of_getElem? (i := 83) (by decide +kernel)))
theorem ln_X12_141 : am_ln RX12 141 yX12_trayed := Or.inl (tb_8 (List.mem_of_getElem? (i := 95) (by decide +kernel)))
theorem ln_X12_145 : am_ln RX12 145 yX12_placed := Or.inl (tb_8 (List.mem_of_getElem? (i := 91) (by decide +kernel)))
theorem ln_X12_149 : am_ln RX12 149 yX12_cut := Or.inl (tb_8 (List.mem_of_getElem? (i := 99) (by decide +kernel)))
theorem ln_X12_164 : am_ln RX12 164 yX12_look := Or.inl (tb_8 (List.mem_of_getElem? (i := 134) (by decide +kernel)))
theorem ln_X12_170 : am_ln RX12 170 yX12_isLetter := Or.inl (tb_8 (List.mem_of_getElem? (i := 138) (by decide +kernel)))
theorem ln_X12_183 : am_ln RX12 183 yX12_isDigit := Or.inl (tb_8 (List.mem_of_getElem? (i := 143) (by decide +kernel)))
theorem ln_X12_189 : am_ln RX12 189 yX12_spelled := Or.inl (tb_8 (List.mem_of_getElem? (i := 150) (by decide +kernel)))
theorem ln_X12_193 : am_ln RX12 193 yX12_isWord := Or.inl (tb_8 (List.mem_of_getElem? (i := 153) (by decide +kernel)))
theorem ln_X12_197 : am_ln RX12 197 yX12_setting := Or.inl (tb_8 (List.mem_of_getElem? (i := 165) (by decide +kernel)))
theorem ln_X12_201 : am_ln RX12 201 yX12_isWave := Or.inl (tb_8 (List.mem_of_getElem? (i := 146) (by decide +kernel)))
theorem ln_X12_205 : am_ln RX12 205 yX12_isTurns := Or.inl (tb_8 (List.mem_of_getElem? (i := 169) (by decide +kernel)))
theorem ln_X12_208 : am_ln RX12 208 yX12_isInWord := Or.inl (tb_8 (List.mem_of_getElem? (i := 173) (by decide +kernel)))
theorem ln_X12_211 : am_ln RX12 211 yX12_isBox := Or.inl (tb_8 (List.mem_of_getElem? (i := 177) (by decide +kernel)))
theorem ln_X12_214 : am_ln RX12 214 yX12_isOf := Or.inl (tb_8 (List.mem_of_getElem? (i := 181) (by decide +kernel)))
theorem ln_X12_217 : am_ln RX12 217 yX12_isSlack := Or.inl (tb_8 (List.mem_of_getElem? (i := 185) (by decide +kernel)))
theorem ln_X12_220 : am_ln RX12 220 yX12_isZero := Or.inl (tb_8 (List.mem_of_getElem? (i := 189) (by decide +kernel)))
theorem ln_X12_229 : am_ln RX12 229 yX12_fail := Or.inl (tb_8 (List.mem_of_getElem? (i := 197) (by decide +kernel)))
theorem ln_X12_233 : am_ln RX12 233 yX12_next := Or.inl (tb_8 (List.mem_of_getElem? (i := 130) (by decide +kernel)))
theorem ln_X12_236 : am_ln RX12 236 yX12_wrong := Or.inl (tb_8 (List.mem_of_getElem? (i := 193) (by decide +kernel)))
theorem ln_X12_239 : am_ln RX12 239 yX12_isIn := Or.inl (tb_8 (List.mem_of_getElem? (i := 221) (by decide +kernel)))
theorem ln_X12_243 : am_ln RX12 243 yX12_seen := Or.inl (tb_8 (List.mem_of_getElem? (i := 217) (by decide +kernel)))
theorem ln_X12_252 : am_ln RX12 252 yX12_cell := Or.inl (tb_8 (List.mem_of_getElem? (i := 205) (by decide +kernel)))
theorem ln_X12_260 : am_ln RX12 260 yX12_count := Or.inl (tb_8 (List.mem_of_getElem? (i := 213) (by decide +kernel)))
theorem ln_X12_246 : am_ln RX12 246 yX12_isName := Or.inl (tb_8 (List.mem_of_getElem? (i := 161) (by decide +kernel)))
theorem ln_X12_249 : am_ln RX12 249 yX12_isNamed := Or.inl (tb_8 (List.mem_of_getElem? (i := 201) (by decide +kernel)))
theorem ln_X12_256 : am_ln RX12 256 yX12_must := Or.inl (tb_8 (List.mem_of_getElem? (i := 209) (by decide +kernel)))
theorem ln_X12_263 : am_ln RX12 263 yX12_readTrain := Or.inl (tb_8 (List.mem_of_getElem? (i := 224) (by decide +kernel)))
theorem ln_X12_277 : am_ln RX12 277 yX12_lay := Or.inl (tb_8 (List.mem_of_getElem? (i := 115) (by decide +kernel)))
theorem ln_X12_280 : am_ln RX12 280 yX12_isMachine := Or.inl (tb_8 (List.mem_of_getElem? (i := 123) (by decide +kernel)))
theorem ln_X12_283 : am_ln RX12 283 yX12_refuse := Or.inl (tb_8 (List.mem_of_getElem? (i := 126) (by decide +kernel)))
theorem ln_X12_286 : am_ln RX12 286 yX12_readWave := Or.inl (tb_8 (List.mem_of_getElem? (i := 157) (by decide +kernel)))
theorem ln_X12_289 : am_ln RX12 289 yX12_readBox := Or.inl (tb_8 (List.mem_of_getElem? (i := 228) (by decide +kernel)))
theorem ln_X12_292 : am_ln RX12 292 yX12_readRest := Or.inl (tb_8 (List.mem_of_getElem? (i := 232) (by decide +kernel)))
theorem ln_X12_297 : am_ln RX12 297 yX12_of := Or.inl (tb_9 (List.mem_of_getElem? (i := 17) (by decide +kernel)))
theorem ln_X12_300 : am_ln RX12 300 yX12_isWaveOf := Or.inl (tb_9 (List.mem_of_getElem? (i := 8) (by decide +kernel)))
theorem ln_X12_306 : am_ln RX12 306 yX12_hasTrain := Or.inl (tb_9 (List.mem_of_getElem? (i := 13) (by decide +kernel)))
theorem ln_X12_313 : am_ln RX12 313 yX12_cosine := Or.inl (tb_9 (List.mem_of_getElem? (i := 60) (by decide +kernel)))
theorem ln_X12_318 : am_ln RX12 318 yX12_trueFrom := Or.inl (tb_9 (List.mem_of_getElem? (i := 47) (by decide +kernel)))
theorem ln_X12_321 : am_ln RX12 321 yX12_truePlace := Or.inl (tb_9 (List.mem_of_getElem? (i := 43) (by decide +kernel)))
theorem ln_X12_324 : am_ln RX12 324 yX12_turnedPlace := Or.inl (tb_9 (List.mem_of_getElem? (i := 39) (by decide +kernel)))
theorem ln_X12_327 : am_ln RX12 327 yX12_placeOf := Or.inl (tb_9 (List.mem_of_getElem? (i := 35) (by decide +kernel)))
theorem ln_X12_331 : am_ln RX12 331 yX12_isHour := Or.inl (tb_9 (List.mem_of_getElem? (i := 31) (by decide +kernel)))
theorem ln_X12_334 : am_ln RX12 334 yX12_heightOf := Or.inl (tb_9 (List.mem_of_getElem? (i := 56) (by decide +kernel)))
theorem ln_X12_340 : am_ln RX12 340 yX12_offOf := Or.inl (tb_9 (List.mem_of_getElem? (i := 72) (by decide +kernel)))
theorem ln_X12_344 : am_ln RX12 344 yX12_fraction := Or.inl (tb_9 (List.mem_of_getElem? (i := 77) (by decide +kernel)))
theorem ln_X12_348 : am_ln RX12 348 yX12_boxed := Or.inl (tb_9 (List.mem_of_getElem? (i := 90) (by decide +kernel)))
theorem ln_X12_351 : am_ln RX12 351 yX12_teeth := Or.inl (tb_9 (List.mem_of_getElem? (i := 98) (by decide +kernel)))
theorem ln_X12_356 : am_ln RX12 356 yX12_hasAll := Or.inl (tb_9 (List.mem_of_getElem? (i := 86) (by decide +kernel)))
theorem ln_X12_359 : am_ln RX12 359 yX12_product := Or.inl (tb_9 (List.mem_of_getElem? (i := 94) (by decide +kernel)))
theorem ln_X12_363 : am_ln RX12 363 yX12_teethOf := Or.inl (tb_9 (List.mem_of_getElem? (i := 102) (by decide +kernel)))
theorem ln_X12_369 : am_ln RX12 369 yX12_goesOn := Or.inl (tb_9 (List.mem_of_getElem? (i := 106) (by decide +kernel)))
theorem ln_X12_378 : am_ln RX12 378 yJ6_numberOfTrailingZeros_0f7a4 := Or.inl (tb_9 (List.mem_of_getElem? (i := 124) (by decide +kernel)))
theorem ln_X12_383 : am_ln RX12 383 yX12_shareFrom := Or.inl (tb_9 (List.mem_of_getElem? (i := 120) (by decide +kernel)))
theorem ln_X12_387 : am_ln RX12 387 yJ6_bitCount_0f7a4 := Or.inl (tb_9 (List.mem_of_getElem? (i := 118) (by decide +kernel)))
theorem ln_X12_394 : am_ln RX12 394 yX12_numberOf := Or.inl (tb_9 (List.mem_of_getElem? (i := 149) (by decide +kernel)))
theorem ln_X12_402 : am_ln RX12 402 yX12_sine := Or.inl (tb_9 (List.mem_of_getElem? (i := 167) (by decide +kernel)))
theorem ln_X12_415 : am_ln RX12 415 yX12_reckon := Or.inl (tb_9 (List.mem_of_getElem? (i := 170) (by decide +kernel)))
theorem ln_X12_408 : am_ln RX12 408 yX12_hourOf := Or.inl (tb_9 (List.mem_of_getElem? (i := 159) (by decide +kernel)))
theorem ln_X12_411 : am_ln RX12 411 yX12_partOf := Or.inl (tb_9 (List.mem_of_getElem? (i := 163) (by decide +kernel)))
theorem ln_X12_421 : am_ln RX12 421 yX12_isTray := Or.inl (tb_9 (List.mem_of_getElem? (i := 136) (by decide +kernel)))
theorem ln_X12_424 : am_ln RX12 424 yX12_areRead := Or.inl (tb_9 (List.mem_of_getElem? (i := 145) (by decide +kernel)))
theorem ln_X12_428 : am_ln RX12 428 yX12_asksGauge := Or.inl (tb_9 (List.mem_of_getElem? (i := 141) (by decide +kernel)))
theorem ln_X12_432 : am_ln RX12 432 yX12_square := Or.inl (tb_9 (List.mem_of_getElem? (i := 155) (by decide +kernel)))
theorem sp_X12_438 : Cond.methodLink RX12 438 Lib.Math.max.name ∈ lw_tbl := (tb_9 (List.mem_of_getElem? (i := 187) (by decide +kernel)))
theorem ln_X12_441 : am_ln RX12 441 yX12_differs := Or.inl (tb_9 (List.mem_of_getElem? (i := 183) (by decide +kernel)))
theorem ln_X12_451 : am_ln RX12 451 yX12_there := Or.inl (tb_9 (List.mem_of_getElem? (i := 196) (by decide +kernel)))
theorem ln_X12_461 : am_ln RX12 461 yX12_differsTurned := Or.inl (tb_9 (List.mem_of_getElem? (i := 208) (by decide +kernel)))
theorem ln_X12_474 : am_ln RX12 474 yX12_isSpan := Or.inl (tb_9 (List.mem_of_getElem? (i := 220) (by decide +kernel)))
theorem sp_X12_477 : Cond.methodLink RX12 477 Lib.Math.min.name ∈ lw_tbl := (tb_9 (List.mem_of_getElem? (i := 232) (by decide +kernel)))
theorem ln_X12_482 : am_ln RX12 482 yX12_bound := Or.inl (tb_9 (List.mem_of_getElem? (i := 228) (by decide +kernel)))
theorem sp_X12_507 : Cond.methodLink RX12 507 Lib.Math.abs.name ∈ lw_tbl := (tb_10 (List.mem_of_getElem? (i := 7) (by decide +kernel)))
theorem ln_X12_509 : am_ln RX12 509 yX12_lands := Or.inl (tb_10 (List.mem_of_getElem? (i := 3) (by decide +kernel)))
theorem ln_X12_528 : am_ln RX12 528 yX12_isDay := Or.inl (tb_10 (List.mem_of_getElem? (i := 24) (by decide +kernel)))
theorem ln_X12_531 : am_ln RX12 531 yX12_lastHour := Or.inl (tb_10 (List.mem_of_getElem? (i := 28) (by decide +kernel)))
theorem ln_X12_534 : am_ln RX12 534 yX12_isWater := Or.inl (tb_10 (List.mem_of_getElem? (i := 32) (by decide +kernel)))
theorem ln_X12_538 : am_ln RX12 538 yX12_waterOf := Or.inl (tb_10 (List.mem_of_getElem? (i := 41) (by decide +kernel)))
theorem ln_X12_542 : am_ln RX12 542 yX12_wheels := Or.inl (tb_10 (List.mem_of_getElem? (i := 57) (by decide +kernel)))
theorem ln_X12_545 : am_ln RX12 545 yX12_wear := Or.inl (tb_10 (List.mem_of_getElem? (i := 61) (by decide +kernel)))
theorem ln_X12_550 : am_ln RX12 550 yX12_isWorn := Or.inl (tb_10 (List.mem_of_getElem? (i := 70) (by decide +kernel)))
theorem ln_X12_553 : am_ln RX12 553 yX12_allOff := Or.inl (tb_10 (List.mem_of_getElem? (i := 78) (by decide +kernel)))
theorem ln_X12_557 : am_ln RX12 557 yX12_exchange := Or.inl (tb_10 (List.mem_of_getElem? (i := 82) (by decide +kernel)))
theorem ln_X12_573 : am_ln RX12 573 yX12_whatWord := Or.inl (tb_10 (List.mem_of_getElem? (i := 106) (by decide +kernel)))
theorem ln_X12_576 : am_ln RX12 576 yX12_stepWord := Or.inl (tb_10 (List.mem_of_getElem? (i := 98) (by decide +kernel)))
theorem ln_X12_582 : am_ln RX12 582 yX12_readWhat := Or.inl (tb_10 (List.mem_of_getElem? (i := 102) (by decide +kernel)))
theorem ln_X12_586 : am_ln RX12 586 yX12_isEnd := Or.inl (tb_10 (List.mem_of_getElem? (i := 110) (by decide +kernel)))
theorem ln_X12_589 : am_ln RX12 589 yX12_readStep := Or.inl (tb_10 (List.mem_of_getElem? (i := 94) (by decide +kernel)))
theorem ln_X12_601 : am_ln RX12 601 yX12_isSo := Or.inl (tb_10 (List.mem_of_getElem? (i := 130) (by decide +kernel)))
theorem ln_X12_613 : am_ln RX12 613 yX12_goUntil := Or.inl (tb_10 (List.mem_of_getElem? (i := 126) (by decide +kernel)))
theorem ln_X12_622 : am_ln RX12 622 yX12_obeyAll := Or.inl (tb_10 (List.mem_of_getElem? (i := 118) (by decide +kernel)))
theorem ln_X12_607 : am_ln RX12 607 yX12_obeyOne := Or.inl (tb_10 (List.mem_of_getElem? (i := 122) (by decide +kernel)))
