/-! ===== the rules in short: what the tables say is bundled ===== -/
abbrev am_iR (x y : Int32) : Int32 := x - x / y * y
abbrev am_lR (x y : Int64) : Int64 := x - x / y * y
abbrev am_mx (x y : Int32) : Int32 := if x < y then y else x
abbrev am_mn (x y : Int32) : Int32 := if y < x then y else x
abbrev am_ab (x : Int32) : Int32 := if 0 ≤ x then x else 0 - x
/-- a null leads one way, a reference to a place of n the other -/
def am_nn {β : Type} (n : Nat) (r : Option Nat) (z : Option β) (f : Nat → Option β) : Option β := r.elim z (fun a => if a < n then f a else none)
theorem am_nn_c {β : Type} {n : Nat} {r : Option Nat} {z : Option β} {f : Nat → Option β} {o : β} (h : am_nn n r z f = some o) : (r = none ∧ z = some o) ∨ (∃ a, r = some a ∧ a < n ∧ f a = some o) := by
  cases r with
  | none => exact Or.inl ⟨rfl, h⟩
  | some a =>
    by_cases ha : a < n
    · exact Or.inr ⟨a, rfl, ha, am_ifT ha h⟩
    · have := am_ifF ha h
      cases this
theorem am_el_c {α β γ : Type} {f : α → Option γ} {g : β → Option γ} {r : α ⊕ β} {o : γ} (h : Sum.elim f g r = some o) : (∃ t, r = .inl t ∧ f t = some o) ∨ (∃ t, r = .inr t ∧ g t = some o) := by
  cases r with
  | inl t => exact Or.inl ⟨t, rfl, h⟩
  | inr t => exact Or.inr ⟨t, rfl, h⟩
/-- an object's class by its kind -/
def am_kk (k : Nat) (C : String) : Prop := ∃ (T : u_T) (N : Nat) (ty : Nat → FieldType), am_kd k C T N ty
/-- a field by its entry: kind, slot, sort -/
def am_fr (own : String) (idx k j : Nat) (z : Nat × Nat × Nat) : Prop := ∃ (C : String) (T : u_T) (N : Nat) (ty : Nat → FieldType), am_kd k C T N ty ∧ j < N ∧ am_fk own idx T j ∧ am_ft k j = z ∧ (z.1 = 0 → ty j = .int ∧ (T j).2.2.2 = false) ∧ (z.1 = 4 → ty j = .boolean ∧ (T j).2.2.2 = false) ∧ (z.1 = 1 → ty j = .long ∧ (T j).2.2.2 = false) ∧ (z.1 = 3 → (∃ D, ty j = .object D) ∧ (T j).2.2.2 = false)
/-- an array's kind -/
def am_ak (k : Nat) (z : Nat × Nat × Nat) : Prop := k ∈ am_aks ∧ ¬ k < 13 ∧ am_at k = z
section
variable {X : am_X} {Γ : am_M} {Q : Option Value → am_H → Prop} {pc : Nat} {lv : List (Nat × Value)} {st : List Value} {σ : am_H}
theorem am_hp {σ' : am_H} (h : σ = σ') (k : am_G X Γ Q pc lv st σ') : am_G X Γ Q pc lv st σ := h ▸ k
theorem am_fvI {k i j : Nat} {z : Nat × Nat × Nat} (h : am_ft k j = z) (hz : z.1 = 0 ∨ z.1 = 4) : am_fv X σ k i j = .int (σ.1 k i j) := by
  obtain ⟨a, b, c⟩ := z
  unfold am_fv
  rw [h]
  rcases hz with hz | hz <;> (dsimp only at hz; subst hz; rfl)
theorem g_getI {k i j idx : Nat} {t o : Nat} (hi : (k, i) ∈ am_ks X) (h : am_fr Γ.1.cls idx k j (0, t, o)) (d : decode Γ.2.1 pc = .ok (.getfield idx, 3)) (kk : am_G X Γ Q (pc + 3) lv (.int (σ.1 k i j) :: st) σ) : am_G X Γ Q pc lv (.ref (am_ad X k i) :: st) σ := by
  obtain ⟨C, T, N, ty, h1, h2, h3, h4, -⟩ := h
  exact g_get h1 hi h2 h3 (am_fvI h4 (Or.inl rfl)) d kk
theorem g_getZ {k i j idx : Nat} {t o : Nat} (hi : (k, i) ∈ am_ks X) (h : am_fr Γ.1.cls idx k j (4, t, o)) (d : decode Γ.2.1 pc = .ok (.getfield idx, 3)) (kk : am_G X Γ Q (pc + 3) lv (.int (σ.1 k i j) :: st) σ) : am_G X Γ Q pc lv (.ref (am_ad X k i) :: st) σ := by
  obtain ⟨C, T, N, ty, h1, h2, h3, h4, -⟩ := h
  exact g_get h1 hi h2 h3 (am_fvI h4 (Or.inr rfl)) d kk
theorem g_getJ {k i j idx : Nat} {t o : Nat} (hi : (k, i) ∈ am_ks X) (h : am_fr Γ.1.cls idx k j (1, t, o)) (d : decode Γ.2.1 pc = .ok (.getfield idx, 3)) (kk : am_G X Γ Q (pc + 3) lv (.long (σ.2.1 k i j) :: st) σ) : am_G X Γ Q pc lv (.ref (am_ad X k i) :: st) σ := by
  obtain ⟨C, T, N, ty, h1, h2, h3, h4, -⟩ := h
  exact g_get h1 hi h2 h3 (by unfold am_fv; rw [h4]; rfl) d kk
theorem g_getC {k i j idx : Nat} {t o : Nat} (hi : (k, i) ∈ am_ks X) (h : am_fr Γ.1.cls idx k j (2, t, o)) (d : decode Γ.2.1 pc = .ok (.getfield idx, 3)) {e : Nat} (he : i + o = e) (kk : am_G X Γ Q (pc + 3) lv (.ref (am_ad X t e) :: st) σ) : am_G X Γ Q pc lv (.ref (am_ad X k i) :: st) σ := by
  obtain ⟨C, T, N, ty, h1, h2, h3, h4, -⟩ := h
  subst he
  exact g_get h1 hi h2 h3 (by unfold am_fv; rw [h4]; rfl) d kk
theorem g_getM {k i j idx : Nat} {t o a : Nat} (hi : (k, i) ∈ am_ks X) (h : am_fr Γ.1.cls idx k j (3, t, o)) (hr : σ.2.2 k i j = some a) (d : decode Γ.2.1 pc = .ok (.getfield idx, 3)) (kk : am_G X Γ Q (pc + 3) lv (.ref (am_ad X t a) :: st) σ) : am_G X Γ Q pc lv (.ref (am_ad X k i) :: st) σ := by
  obtain ⟨C, T, N, ty, h1, h2, h3, h4, -⟩ := h
  exact g_get h1 hi h2 h3 (by unfold am_fv; rw [h4]; show va_rf ((σ.2.2 k i j).map (am_ad X t)) = _; rw [hr]; rfl) d kk
theorem g_setI {k i j idx : Nat} {t o : Nat} (hi : (k, i) ∈ am_ks X) (h : am_fr Γ.1.cls idx k j (0, t, o)) {x : Int32} (d : decode Γ.2.1 pc = .ok (.putfield idx, 3)) {σ' : am_H} (hs : am_wI σ k i j x = σ') (kk : am_G X Γ Q (pc + 3) lv st σ') : am_G X Γ Q pc lv (.int x :: .ref (am_ad X k i) :: st) σ := by
  obtain ⟨C, T, N, ty, h1, h2, h3, h4, h5, -⟩ := h
  subst hs
  exact g_putI h1 hi h2 h3 (h5 rfl).2 (h5 rfl).1 (by rw [h4]) d kk
theorem g_setZ {k i j idx : Nat} {t o : Nat} (hi : (k, i) ∈ am_ks X) (h : am_fr Γ.1.cls idx k j (4, t, o)) {x : Bool} (d : decode Γ.2.1 pc = .ok (.putfield idx, 3)) {σ' : am_H} (hs : am_wI σ k i j (am_b x) = σ') (kk : am_G X Γ Q (pc + 3) lv st σ') : am_G X Γ Q pc lv (.int (am_b x) :: .ref (am_ad X k i) :: st) σ := by
  obtain ⟨C, T, N, ty, h1, h2, h3, h4, -, h5, -⟩ := h
  subst hs
  exact g_putZ h1 hi h2 h3 (h5 rfl).2 (h5 rfl).1 (by rw [h4]) d kk
theorem g_setJ {k i j idx : Nat} {t o : Nat} (hi : (k, i) ∈ am_ks X) (h : am_fr Γ.1.cls idx k j (1, t, o)) {x : Int64} (d : decode Γ.2.1 pc = .ok (.putfield idx, 3)) {σ' : am_H} (hs : am_wL σ k i j x = σ') (kk : am_G X Γ Q (pc + 3) lv st σ') : am_G X Γ Q pc lv (.long x :: .ref (am_ad X k i) :: st) σ := by
  obtain ⟨C, T, N, ty, h1, h2, h3, h4, -, -, h5, -⟩ := h
  subst hs
  exact g_putL h1 hi h2 h3 (h5 rfl).2 (h5 rfl).1 (by rw [h4]) d kk
theorem g_setM {k i j idx : Nat} {t a : Nat} (hi : (k, i) ∈ am_ks X) (h : am_fr Γ.1.cls idx k j (3, t, 0)) (d : decode Γ.2.1 pc = .ok (.putfield idx, 3)) {σ' : am_H} (hs : am_wR σ k i j (some a) = σ') (kk : am_G X Γ Q (pc + 3) lv st σ') : am_G X Γ Q pc lv (.ref (am_ad X t a) :: .ref (am_ad X k i) :: st) σ := by
  obtain ⟨C, T, N, ty, h1, h2, h3, h4, -, -, -, h5⟩ := h
  subst hs
  obtain ⟨D, hD⟩ := (h5 rfl).1
  exact g_putR h1 hi h2 h3 (h5 rfl).2 hD h4 d kk
theorem g_aI {k i j n t : Nat} {x : Int32} (hi : (k, i) ∈ am_ks X) (h : am_ak k (0, n, t)) (hx : am_ix n x = some j) (d : decode Γ.2.1 pc = .ok (.iaload, 1)) (kk : am_G X Γ Q (pc + 1) lv (.int (σ.1 k i j) :: st) σ) : am_G X Γ Q pc lv (.int x :: .ref (am_ad X k i) :: st) σ := by
  obtain ⟨h1, h2, h3⟩ := h
  exact g_iald hi h1 h2 (by rw [h3]) (by rw [h3]; exact hx) d kk
theorem g_aB {k i j n t : Nat} {x : Int32} (hi : (k, i) ∈ am_ks X) (h : am_ak k (2, n, t)) (hx : am_ix n x = some j) (d : decode Γ.2.1 pc = .ok (.baload, 1)) (kk : am_G X Γ Q (pc + 1) lv (.int (σ.1 k i j) :: st) σ) : am_G X Γ Q pc lv (.int x :: .ref (am_ad X k i) :: st) σ := by
  obtain ⟨h1, h2, h3⟩ := h
  exact g_bald hi h1 h2 (by rw [h3]) (by rw [h3]; exact hx) d kk
theorem g_aZ {k i j n t : Nat} {x : Int32} (hi : (k, i) ∈ am_ks X) (h : am_ak k (3, n, t)) (hx : am_ix n x = some j) (d : decode Γ.2.1 pc = .ok (.baload, 1)) (kk : am_G X Γ Q (pc + 1) lv (.int (σ.1 k i j) :: st) σ) : am_G X Γ Q pc lv (.int x :: .ref (am_ad X k i) :: st) σ := by
  obtain ⟨h1, h2, h3⟩ := h
  exact g_zald hi h1 h2 (by rw [h3]) (by rw [h3]; exact hx) d kk
theorem g_aJ {k i j n t : Nat} {x : Int32} (hi : (k, i) ∈ am_ks X) (h : am_ak k (1, n, t)) (hx : am_ix n x = some j) (d : decode Γ.2.1 pc = .ok (.laload, 1)) (kk : am_G X Γ Q (pc + 1) lv (.long (σ.2.1 k i j) :: st) σ) : am_G X Γ Q pc lv (.int x :: .ref (am_ad X k i) :: st) σ := by
  obtain ⟨h1, h2, h3⟩ := h
  exact g_lald hi h1 h2 (by rw [h3]) (by rw [h3]; exact hx) d kk
theorem g_aC {k i j n t e : Nat} {x : Int32} (hi : (k, i) ∈ am_ks X) (h : am_ak k (4, n, t)) (hx : am_ix n x = some j) (he : am_el k i j = e) (d : decode Γ.2.1 pc = .ok (.aaload, 1)) (kk : am_G X Γ Q (pc + 1) lv (.ref (am_ad X t e) :: st) σ) : am_G X Γ Q pc lv (.int x :: .ref (am_ad X k i) :: st) σ := by
  obtain ⟨h1, h2, h3⟩ := h
  subst he
  exact g_aaldC hi h1 h2 (by rw [h3]) (by rw [h3]; exact hx) d (by rw [h3]; exact kk)
theorem g_aM {k i j n t a : Nat} {x : Int32} (hi : (k, i) ∈ am_ks X) (h : am_ak k (5, n, t)) (hx : am_ix n x = some j) (hr : σ.2.2 k i j = some a) (d : decode Γ.2.1 pc = .ok (.aaload, 1)) (kk : am_G X Γ Q (pc + 1) lv (.ref (am_ad X t a) :: st) σ) : am_G X Γ Q pc lv (.int x :: .ref (am_ad X k i) :: st) σ := by
  obtain ⟨h1, h2, h3⟩ := h
  exact g_aaldD hi h1 h2 (by rw [h3]) (by rw [h3]; exact hx) hr d (by rw [h3]; exact kk)
theorem g_sI {k i j n t : Nat} {x v : Int32} (hi : (k, i) ∈ am_ks X) (h : am_ak k (0, n, t)) (hx : am_ix n x = some j) (d : decode Γ.2.1 pc = .ok (.iastore, 1)) {σ' : am_H} (hs : am_wI σ k i j v = σ') (kk : am_G X Γ Q (pc + 1) lv st σ') : am_G X Γ Q pc lv (.int v :: .int x :: .ref (am_ad X k i) :: st) σ := by
  obtain ⟨h1, h2, h3⟩ := h
  subst hs
  exact g_iast hi h1 h2 (by rw [h3]) (by rw [h3]; exact hx) d kk
theorem g_sB {k i j n t : Nat} {x v : Int32} (hi : (k, i) ∈ am_ks X) (h : am_ak k (2, n, t)) (hx : am_ix n x = some j) (d : decode Γ.2.1 pc = .ok (.bastore, 1)) {σ' : am_H} (hs : am_wI σ k i j v.toInt8.toInt32 = σ') (kk : am_G X Γ Q (pc + 1) lv st σ') : am_G X Γ Q pc lv (.int v :: .int x :: .ref (am_ad X k i) :: st) σ := by
  obtain ⟨h1, h2, h3⟩ := h
  subst hs
  exact g_bast hi h1 h2 (by rw [h3]) (by rw [h3]; exact hx) d kk
theorem g_sZ {k i j n t : Nat} {x : Int32} {v : Bool} (hi : (k, i) ∈ am_ks X) (h : am_ak k (3, n, t)) (hx : am_ix n x = some j) (d : decode Γ.2.1 pc = .ok (.bastore, 1)) {σ' : am_H} (hs : am_wI σ k i j (am_b v) = σ') (kk : am_G X Γ Q (pc + 1) lv st σ') : am_G X Γ Q pc lv (.int (am_b v) :: .int x :: .ref (am_ad X k i) :: st) σ := by
  obtain ⟨h1, h2, h3⟩ := h
  subst hs
  exact g_zast hi h1 h2 (by rw [h3]) (by rw [h3]; exact hx) d kk
theorem g_sJ {k i j n t : Nat} {x : Int32} {v : Int64} (hi : (k, i) ∈ am_ks X) (h : am_ak k (1, n, t)) (hx : am_ix n x = some j) (d : decode Γ.2.1 pc = .ok (.lastore, 1)) {σ' : am_H} (hs : am_wL σ k i j v = σ') (kk : am_G X Γ Q (pc + 1) lv st σ') : am_G X Γ Q pc lv (.long v :: .int x :: .ref (am_ad X k i) :: st) σ := by
  obtain ⟨h1, h2, h3⟩ := h
  subst hs
  exact g_last hi h1 h2 (by rw [h3]) (by rw [h3]; exact hx) d kk
theorem g_sM {k i j n t a : Nat} {x : Int32} {C : String} (hi : (k, i) ∈ am_ks X) (h : am_ak k (5, n, t)) (hk : am_kk t C) (hai : (t, a) ∈ am_ks X) (hx : am_ix n x = some j) (d : decode Γ.2.1 pc = .ok (.aastore, 1)) {σ' : am_H} (hs : am_wR σ k i j (some a) = σ') (kk : am_G X Γ Q (pc + 1) lv st σ') : am_G X Γ Q pc lv (.ref (am_ad X t a) :: .int x :: .ref (am_ad X k i) :: st) σ := by
  obtain ⟨h1, h2, h3⟩ := h
  subst hs
  obtain ⟨T, N, ty, hd⟩ := hk
  exact g_aastD (t := t) hi h1 h2 (by rw [h3]) hd hai (by rw [h3]; exact hx) d kk
theorem g_cV {Γ' : am_M} {k i n idx : Nat} {As st0 st1 : List Value} {r0 : Option Value} {σ0 : am_H} (hi : (k, i) ∈ am_ks X) (hk : am_kk k Γ'.1.cls) (hm : am_mV Γ' n) (hln : am_ln Γ.1.cls idx Γ'.1) (hn : As.length = n) (hr : Γ'.2.2.2.2 + 1 ≤ Γ.2.2.2.2) (hst : (st.map fun v => v.category).sum ≤ 8)
    (hM : am_C X Γ' (.ref (am_ad X k i) :: As) σ (am_is r0 σ0)) (d : decode Γ.2.1 pc = .ok (.invokevirtual idx, 3)) (hA : As.reverse ++ .ref (am_ad X k i) :: st = st0) (hB : r0.toList ++ st = st1) (kk : am_G X Γ Q (pc + 3) lv st1 σ0) : am_G X Γ Q pc lv st0 σ := by
  obtain ⟨T, N, ty, hd⟩ := hk
  subst hB
  exact g_callV hd hi hm rfl hln hn hr hst hM d hA kk
theorem g_cS {Γ' : am_M} {n idx : Nat} {As st0 st1 : List Value} {r0 : Option Value} {σ0 : am_H} (hm : am_mS Γ' n) (hln : am_ln Γ.1.cls idx Γ'.1) (hn : As.length = n) (hr : Γ'.2.2.2.2 + 1 ≤ Γ.2.2.2.2) (hst : (st.map fun v => v.category).sum ≤ 8)
    (hM : am_C X Γ' As σ (am_is r0 σ0)) (d : decode Γ.2.1 pc = .ok (.invokestatic idx, 3)) (hA : As.reverse ++ st = st0) (hB : r0.toList ++ st = st1) (kk : am_G X Γ Q (pc + 3) lv st1 σ0) : am_G X Γ Q pc lv st0 σ := by
  subst hB
  exact g_callS hm hln hn hr hst hM d hA kk
-- branches, the condition always = or <
theorem bi_eq {x y : Int32} {off : Int} (tgt : Nat) (d : decode Γ.2.1 pc = .ok (.if_icmp .eq off, 3)) (ht : (pc : Int) + off = (tgt : Int)) (kt : x = y → am_G X Γ Q tgt lv st σ) (kf : ¬ x = y → am_G X Γ Q (pc + 3) lv st σ) : am_G X Γ Q pc lv (.int y :: .int x :: st) σ := g_icmp_eq tgt d ht kt kf
theorem bi_ne {x y : Int32} {off : Int} (tgt : Nat) (d : decode Γ.2.1 pc = .ok (.if_icmp .ne off, 3)) (ht : (pc : Int) + off = (tgt : Int)) (kt : x = y → am_G X Γ Q (pc + 3) lv st σ) (kf : ¬ x = y → am_G X Γ Q tgt lv st σ) : am_G X Γ Q pc lv (.int y :: .int x :: st) σ := g_icmp_ne tgt d ht kf (fun h => kt (Decidable.not_not.mp h))
theorem bi_lt {x y : Int32} {off : Int} (tgt : Nat) (d : decode Γ.2.1 pc = .ok (.if_icmp .lt off, 3)) (ht : (pc : Int) + off = (tgt : Int)) (kt : x < y → am_G X Γ Q tgt lv st σ) (kf : ¬ x < y → am_G X Γ Q (pc + 3) lv st σ) : am_G X Γ Q pc lv (.int y :: .int x :: st) σ := g_icmp_lt tgt d ht kt kf
theorem bi_ge {x y : Int32} {off : Int} (tgt : Nat) (d : decode Γ.2.1 pc = .ok (.if_icmp .ge off, 3)) (ht : (pc : Int) + off = (tgt : Int)) (kt : x < y → am_G X Γ Q (pc + 3) lv st σ) (kf : ¬ x < y → am_G X Γ Q tgt lv st σ) : am_G X Γ Q pc lv (.int y :: .int x :: st) σ := g_icmp_ge tgt d ht (fun h => kf (Int32.not_lt.mpr h)) (fun h => kt (Int32.not_le.mp h))
theorem bi_gt {x y : Int32} {off : Int} (tgt : Nat) (d : decode Γ.2.1 pc = .ok (.if_icmp .gt off, 3)) (ht : (pc : Int) + off = (tgt : Int)) (kt : y < x → am_G X Γ Q tgt lv st σ) (kf : ¬ y < x → am_G X Γ Q (pc + 3) lv st σ) : am_G X Γ Q pc lv (.int y :: .int x :: st) σ := g_icmp_gt tgt d ht kt kf
theorem bi_le {x y : Int32} {off : Int} (tgt : Nat) (d : decode Γ.2.1 pc = .ok (.if_icmp .le off, 3)) (ht : (pc : Int) + off = (tgt : Int)) (kt : y < x → am_G X Γ Q (pc + 3) lv st σ) (kf : ¬ y < x → am_G X Γ Q tgt lv st σ) : am_G X Γ Q pc lv (.int y :: .int x :: st) σ := g_icmp_le tgt d ht (fun h => kf (Int32.not_lt.mpr h)) (fun h => kt (Int32.not_le.mp h))
theorem bz_eq {x : Int32} {off : Int} (tgt : Nat) (d : decode Γ.2.1 pc = .ok (.ifCond .eq off, 3)) (ht : (pc : Int) + off = (tgt : Int)) (kt : x = 0 → am_G X Γ Q tgt lv st σ) (kf : ¬ x = 0 → am_G X Γ Q (pc + 3) lv st σ) : am_G X Γ Q pc lv (.int x :: st) σ := g_if_eq tgt d ht kt kf
theorem bz_ne {x : Int32} {off : Int} (tgt : Nat) (d : decode Γ.2.1 pc = .ok (.ifCond .ne off, 3)) (ht : (pc : Int) + off = (tgt : Int)) (kt : x = 0 → am_G X Γ Q (pc + 3) lv st σ) (kf : ¬ x = 0 → am_G X Γ Q tgt lv st σ) : am_G X Γ Q pc lv (.int x :: st) σ := g_if_ne tgt d ht kf (fun h => kt (Decidable.not_not.mp h))
theorem bz_lt {x : Int32} {off : Int} (tgt : Nat) (d : decode Γ.2.1 pc = .ok (.ifCond .lt off, 3)) (ht : (pc : Int) + off = (tgt : Int)) (kt : x < 0 → am_G X Γ Q tgt lv st σ) (kf : ¬ x < 0 → am_G X Γ Q (pc + 3) lv st σ) : am_G X Γ Q pc lv (.int x :: st) σ := g_if_lt tgt d ht kt kf
theorem bz_ge {x : Int32} {off : Int} (tgt : Nat) (d : decode Γ.2.1 pc = .ok (.ifCond .ge off, 3)) (ht : (pc : Int) + off = (tgt : Int)) (kt : x < 0 → am_G X Γ Q (pc + 3) lv st σ) (kf : ¬ x < 0 → am_G X Γ Q tgt lv st σ) : am_G X Γ Q pc lv (.int x :: st) σ := g_if_ge tgt d ht (fun h => kf (Int32.not_lt.mpr h)) (fun h => kt (Int32.not_le.mp h))
theorem bz_gt {x : Int32} {off : Int} (tgt : Nat) (d : decode Γ.2.1 pc = .ok (.ifCond .gt off, 3)) (ht : (pc : Int) + off = (tgt : Int)) (kt : 0 < x → am_G X Γ Q tgt lv st σ) (kf : ¬ 0 < x → am_G X Γ Q (pc + 3) lv st σ) : am_G X Γ Q pc lv (.int x :: st) σ := g_if_gt tgt d ht kt kf
theorem bz_le {x : Int32} {off : Int} (tgt : Nat) (d : decode Γ.2.1 pc = .ok (.ifCond .le off, 3)) (ht : (pc : Int) + off = (tgt : Int)) (kt : 0 < x → am_G X Γ Q (pc + 3) lv st σ) (kf : ¬ 0 < x → am_G X Γ Q tgt lv st σ) : am_G X Γ Q pc lv (.int x :: st) σ := g_if_le tgt d ht (fun h => kf (Int32.not_lt.mpr h)) (fun h => kt (Int32.not_le.mp h))
theorem am_b_z {x : Bool} : am_b x = 0 ↔ ¬ x = true := by cases x <;> decide
theorem bt_eq {x : Bool} {off : Int} (tgt : Nat) (d : decode Γ.2.1 pc = .ok (.ifCond .eq off, 3)) (ht : (pc : Int) + off = (tgt : Int)) (kt : x = true → am_G X Γ Q (pc + 3) lv st σ) (kf : ¬ x = true → am_G X Γ Q tgt lv st σ) : am_G X Γ Q pc lv (.int (am_b x) :: st) σ := g_if_eq tgt d ht (fun h => kf (am_b_z.mp h)) (fun h => kt (Decidable.not_not.mp (fun z => h (am_b_z.mpr z))))
theorem bt_ne {x : Bool} {off : Int} (tgt : Nat) (d : decode Γ.2.1 pc = .ok (.ifCond .ne off, 3)) (ht : (pc : Int) + off = (tgt : Int)) (kt : x = true → am_G X Γ Q tgt lv st σ) (kf : ¬ x = true → am_G X Γ Q (pc + 3) lv st σ) : am_G X Γ Q pc lv (.int (am_b x) :: st) σ := g_if_ne tgt d ht (fun h => kt (Decidable.not_not.mp (fun z => h (am_b_z.mpr z)))) (fun h => kf (fun z => h (fun y => am_b_z.mp y z)))
theorem g_lcm {x y : Int64} (d : decode Γ.2.1 pc = .ok (.lcmp, 1)) (k : am_G X Γ Q (pc + 1) lv (.int (lg_cmp x y) :: st) σ) : am_G X Γ Q pc lv (.long y :: .long x :: st) σ := g_lcmp d rfl k
theorem bl_eq {x y : Int64} {off : Int} (tgt : Nat) (d : decode Γ.2.1 pc = .ok (.ifCond .eq off, 3)) (ht : (pc : Int) + off = (tgt : Int)) (kt : x = y → am_G X Γ Q tgt lv st σ) (kf : ¬ x = y → am_G X Γ Q (pc + 3) lv st σ) : am_G X Γ Q pc lv (.int (lg_cmp x y) :: st) σ := g_lc_eq tgt d ht kt kf
theorem bl_ne {x y : Int64} {off : Int} (tgt : Nat) (d : decode Γ.2.1 pc = .ok (.ifCond .ne off, 3)) (ht : (pc : Int) + off = (tgt : Int)) (kt : x = y → am_G X Γ Q (pc + 3) lv st σ) (kf : ¬ x = y → am_G X Γ Q tgt lv st σ) : am_G X Γ Q pc lv (.int (lg_cmp x y) :: st) σ := g_lc_ne tgt d ht kf (fun h => kt (Decidable.not_not.mp h))
theorem bl_lt {x y : Int64} {off : Int} (tgt : Nat) (d : decode Γ.2.1 pc = .ok (.ifCond .lt off, 3)) (ht : (pc : Int) + off = (tgt : Int)) (kt : x < y → am_G X Γ Q tgt lv st σ) (kf : ¬ x < y → am_G X Γ Q (pc + 3) lv st σ) : am_G X Γ Q pc lv (.int (lg_cmp x y) :: st) σ := g_lc_lt tgt d ht kt kf
theorem bl_ge {x y : Int64} {off : Int} (tgt : Nat) (d : decode Γ.2.1 pc = .ok (.ifCond .ge off, 3)) (ht : (pc : Int) + off = (tgt : Int)) (kt : x < y → am_G X Γ Q (pc + 3) lv st σ) (kf : ¬ x < y → am_G X Γ Q tgt lv st σ) : am_G X Γ Q pc lv (.int (lg_cmp x y) :: st) σ := g_lc_ge tgt d ht (fun h => kf (Int64.not_lt.mpr h)) (fun h => kt (Int64.not_le.mp h))
theorem bl_gt {x y : Int64} {off : Int} (tgt : Nat) (d : decode Γ.2.1 pc = .ok (.ifCond .gt off, 3)) (ht : (pc : Int) + off = (tgt : Int)) (kt : y < x → am_G X Γ Q tgt lv st σ) (kf : ¬ y < x → am_G X Γ Q (pc + 3) lv st σ) : am_G X Γ Q pc lv (.int (lg_cmp x y) :: st) σ := g_lc_gt tgt d ht kt kf
theorem bl_le {x y : Int64} {off : Int} (tgt : Nat) (d : decode Γ.2.1 pc = .ok (.ifCond .le off, 3)) (ht : (pc : Int) + off = (tgt : Int)) (kt : y < x → am_G X Γ Q (pc + 3) lv st σ) (kf : ¬ y < x → am_G X Γ Q tgt lv st σ) : am_G X Γ Q pc lv (.int (lg_cmp x y) :: st) σ := g_lc_le tgt d ht (fun h => kf (Int64.not_lt.mpr h)) (fun h => kt (Int64.not_le.mp h))
theorem g_swE {dflt lo hi : Int} {offs : Array Int} {len : Nat} {x c : Int32} {off : Int} (tgt : Nat) (hc : x = c) (d : decode Γ.2.1 pc = .ok (.tableswitch dflt lo hi offs, len)) (h1 : ¬ c.toInt < lo) (h2 : ¬ hi < c.toInt) (ho : offs[(c.toInt - lo).toNat]? = some off) (ht : (pc : Int) + off = (tgt : Int)) (k : am_G X Γ Q tgt lv st σ) : am_G X Γ Q pc lv (.int x :: st) σ := by
  subst hc
  exact g_tabI tgt d h1 h2 ho ht k
theorem am_sw_out {x : Int32} (n : Nat) (hn : n < 1000) (h : ∀ k : Nat, k < n → ¬ x = Int32.ofNat k) : x.toInt < 0 ∨ (n : Int) - 1 < x.toInt := by
  by_cases h0 : x.toInt < 0
  · exact Or.inl h0
  · refine Or.inr (Int.not_le.mp fun h1 => h x.toInt.toNat (by omega) ?_)
    apply Int32.toInt_inj.mp
    rw [Int32.toInt_ofNat_of_lt (by omega)]
    omega
-- what Math says
theorem am_mthI {own : String} {p : Program} {R : Room} {s : State} {m : MethodId} {meth : Method} {c : Code} (S : am_S X Γ p R s m meth c) (hd : 1 ≤ Γ.2.2.2.2) (hst : (st.map fun v => v.category).sum ≤ 8) : 1 ≤ R.frames ∧ (st.map fun v => v.category).sum + 13 ≤ R.locals := by
  obtain ⟨-, -, -, -, -, -, -, hR, -⟩ := id S
  have h1 := hR.1
  have h2 := hR.2
  exact ⟨by omega, by omega⟩
end
