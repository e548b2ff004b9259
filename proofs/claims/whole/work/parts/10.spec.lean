/-! ===== what the JDK's own members do ===== -/
abbrev am_us (x y : Int32) : Int32 := (x.toUInt32 >>> (y.toUInt32 &&& Int32.toUInt32 31)).toInt32
abbrev am_abL (x : Int64) : Int64 := if 0 < x then x else -x
abbrev am_mnL (x y : Int64) : Int64 := if y < x then y else x
def am_slen (n : Nat) : Int32 := Int32.ofNat (am_sL.getD n 0)
def am_sch (n j : Nat) : Int32 := (am_sB.getD n []).getD j 0
/-- the class's world -/
def am_wC (X : am_X) : Prop := am_ks X = am_ksC ∧ am_fl1 X = true
theorem am_elL {α β γ : Type} {f : α → Option γ} {g : β → Option γ} {t : α} {o : γ} (h : Sum.elim f g (.inl t) = some o) : f t = some o := h
theorem am_elR {α β γ : Type} {f : α → Option γ} {g : β → Option γ} {t : β} {o : γ} (h : Sum.elim f g (.inr t) = some o) : g t = some o := h
/-- numbers of a row to another one, or the same -/
def am_cp (N : Nat) (σ : am_H) (k i : Nat) (sp : Int32) (i' : Nat) (dp n : Int32) : Option am_H :=
  if sp < 0 ∨ dp < 0 ∨ n < 0 ∨ N < sp.toNatClampNeg + n.toNatClampNeg ∨ N < dp.toNatClampNeg + n.toNatClampNeg then none
  else some (σ.1, fun a b c => if a = k ∧ b = i' then va_cpy (σ.2.1 k i) (σ.2.1 k i') sp.toNatClampNeg dp.toNatClampNeg n.toNatClampNeg c else σ.2.1 a b c, σ.2.2)
section
variable {X : am_X} {Γ : am_M} {Q : Option Value → am_H → Prop} {pc : Nat} {lv : List (Nat × Value)} {st : List Value} {σ : am_H}
theorem g_astoreN_n {k0 : Fin 4} {i : Nat} (lv' : List (Nat × Value)) (d : decode Γ.2.1 pc = .ok (.astore_n k0, 1)) (hi : (k0 : Nat) = i) (hn : i < Γ.2.2.1) (hl' : (i, Value.null) :: lv.filter (fun q => !(q.1 == i) && !(q.1 + 1 == i && q.2.category == 2)) = lv') (k : am_G X Γ Q (pc + 1) lv' st σ) : am_G X Γ Q pc lv (.null :: st) σ := by
  intro p e R s m args below meth c S H locs ls hP hS hl
  obtain ⟨hx, hb, -⟩ := id S
  exact lv_astore_nN hx hb d hi hl hn hl' (fun ls' h' => k p e R s m args below meth c S H locs ls' hP hS h')
theorem g_astoreN {i : Nat} (lv' : List (Nat × Value)) (d : decode Γ.2.1 pc = .ok (.astore i, 2)) (hn : i < Γ.2.2.1) (hl' : (i, Value.null) :: lv.filter (fun q => !(q.1 == i) && !(q.1 + 1 == i && q.2.category == 2)) = lv') (k : am_G X Γ Q (pc + 2) lv' st σ) : am_G X Γ Q pc lv (.null :: st) σ := by
  intro p e R s m args below meth c S H locs ls hP hS hl
  obtain ⟨hx, hb, -⟩ := id S
  exact lv_astoreN hx hb d hl hn hl' (fun ls' h' => k p e R s m args below meth c S H locs ls' hP hS h')
theorem am_mwx : Cond.static Lib.Math.max.name ∈ lw_tbl ∧ Cond.initialized "java/lang/Math" ∈ lw_tbl ∧ Cond.code Lib.Math.max.name Lib.Math.max.code 2 (some .int) ∈ lw_tbl := by decide +kernel
theorem am_mwn : Cond.static Lib.Math.min.name ∈ lw_tbl ∧ Cond.initialized "java/lang/Math" ∈ lw_tbl ∧ Cond.code Lib.Math.min.name Lib.Math.min.code 2 (some .int) ∈ lw_tbl := by decide +kernel
theorem am_mwa : Cond.static Lib.Math.abs.name ∈ lw_tbl ∧ Cond.initialized "java/lang/Math" ∈ lw_tbl ∧ Cond.code Lib.Math.abs.name Lib.Math.abs.code 1 (some .int) ∈ lw_tbl := by decide +kernel
theorem am_mwA : Cond.static Lib.MathLoose.abs_long.x ∈ lw_tbl ∧ Cond.initialized "java/lang/Math" ∈ lw_tbl ∧ Cond.code Lib.MathLoose.abs_long.x Lib.MathLoose.abs_long.code 2 (some .long) ∈ lw_tbl := by decide +kernel
theorem am_mwN : Cond.static Lib.MathLoose.min_long.x ∈ lw_tbl ∧ Cond.initialized "java/lang/Math" ∈ lw_tbl ∧ Cond.code Lib.MathLoose.min_long.x Lib.MathLoose.min_long.code 4 (some .long) ∈ lw_tbl := by decide +kernel
theorem g_mmax {idx : Nat} {x y : Int32} (hd : 1 ≤ Γ.2.2.2.2) (hst : (st.map fun v => v.category).sum ≤ 8) (hln : Cond.methodLink Γ.1.cls idx Lib.Math.max.name ∈ lw_tbl) (d : decode Γ.2.1 pc = .ok (.invokestatic idx, 3)) (kk : am_G X Γ Q (pc + 3) lv (.int (am_mx x y) :: st) σ) : am_G X Γ Q pc lv (.int y :: .int x :: st) σ := by
  intro p e R s m args below meth c S H locs ls hP hS hl
  obtain ⟨hx, hb, -, hml, hown, -, hT, ⟨hR1, hR2⟩, -⟩ := id S
  exact va_mmax hx hb (hml.trans hl.1.symm) hown (hT.a hln rfl) (hT.a am_mwx.1 rfl) (hT.a am_mwx.2.1 rfl) (hT.a am_mwx.2.2 rfl) (by omega) (by omega) (Nat.zero_le _) (Nat.zero_le _) d (kk p e R s m args below meth c S H locs ls hP hS hl)
theorem g_mmin {idx : Nat} {x y : Int32} (hd : 1 ≤ Γ.2.2.2.2) (hst : (st.map fun v => v.category).sum ≤ 8) (hln : Cond.methodLink Γ.1.cls idx Lib.Math.min.name ∈ lw_tbl) (d : decode Γ.2.1 pc = .ok (.invokestatic idx, 3)) (kk : am_G X Γ Q (pc + 3) lv (.int (am_mn x y) :: st) σ) : am_G X Γ Q pc lv (.int y :: .int x :: st) σ := by
  intro p e R s m args below meth c S H locs ls hP hS hl
  obtain ⟨hx, hb, -, hml, hown, -, hT, ⟨hR1, hR2⟩, -⟩ := id S
  exact va_mmin hx hb (hml.trans hl.1.symm) hown (hT.a hln rfl) (hT.a am_mwn.1 rfl) (hT.a am_mwn.2.1 rfl) (hT.a am_mwn.2.2 rfl) (by omega) (by omega) (Nat.zero_le _) (Nat.zero_le _) d (kk p e R s m args below meth c S H locs ls hP hS hl)
theorem g_mabs {idx : Nat} {x : Int32} (hd : 1 ≤ Γ.2.2.2.2) (hst : (st.map fun v => v.category).sum ≤ 8) (hln : Cond.methodLink Γ.1.cls idx Lib.Math.abs.name ∈ lw_tbl) (d : decode Γ.2.1 pc = .ok (.invokestatic idx, 3)) (kk : am_G X Γ Q (pc + 3) lv (.int (am_ab x) :: st) σ) : am_G X Γ Q pc lv (.int x :: st) σ := by
  intro p e R s m args below meth c S H locs ls hP hS hl
  obtain ⟨hx, hb, -, hml, hown, -, hT, ⟨hR1, hR2⟩, -⟩ := id S
  exact va_mabs hx hb (hml.trans hl.1.symm) hown (hT.a hln rfl) (hT.a am_mwa.1 rfl) (hT.a am_mwa.2.1 rfl) (hT.a am_mwa.2.2 rfl) (by omega) (by omega) (Nat.zero_le _) (Nat.zero_le _) d (kk p e R s m args below meth c S H locs ls hP hS hl)
theorem g_mabsL {idx : Nat} {x : Int64} (hd : 1 ≤ Γ.2.2.2.2) (hst : (st.map fun v => v.category).sum ≤ 8) (hln : Cond.methodLink Γ.1.cls idx Lib.MathLoose.abs_long.x ∈ lw_tbl) (d : decode Γ.2.1 pc = .ok (.invokestatic idx, 3)) (kk : am_G X Γ Q (pc + 3) lv (.long (am_abL x) :: st) σ) : am_G X Γ Q pc lv (.long x :: st) σ := by
  intro p e R s m args below meth c S H locs ls hP hS hl
  obtain ⟨hx, hb, -, hml, hown, -, hT, ⟨hR1, hR2⟩, -⟩ := id S
  exact va_mabs_long hx hb (hml.trans hl.1.symm) hown (hT.a hln rfl) (hT.a am_mwA.1 rfl) (hT.a am_mwA.2.1 rfl) (hT.a am_mwA.2.2 rfl) (by omega) (by omega) (Nat.zero_le _) (Nat.zero_le _) d (kk p e R s m args below meth c S H locs ls hP hS hl)
theorem g_mminL {idx : Nat} {x y : Int64} (hd : 1 ≤ Γ.2.2.2.2) (hst : (st.map fun v => v.category).sum ≤ 8) (hln : Cond.methodLink Γ.1.cls idx Lib.MathLoose.min_long.x ∈ lw_tbl) (d : decode Γ.2.1 pc = .ok (.invokestatic idx, 3)) (kk : am_G X Γ Q (pc + 3) lv (.long (am_mnL x y) :: st) σ) : am_G X Γ Q pc lv (.long y :: .long x :: st) σ := by
  intro p e R s m args below meth c S H locs ls hP hS hl
  obtain ⟨hx, hb, -, hml, hown, -, hT, ⟨hR1, hR2⟩, -⟩ := id S
  exact va_mmin_long hx hb (hml.trans hl.1.symm) hown (hT.a hln rfl) (hT.a am_mwN.1 rfl) (hT.a am_mwN.2.1 rfl) (hT.a am_mwN.2.2 rfl) (by omega) (by omega) (Nat.zero_le _) (Nat.zero_le _) d (kk p e R s m args below meth c S H locs ls hP hS hl)
/-- the table of COS -/
theorem g_cosS {idx : Nat} (hf : am_fl1 X = true) (hln : Cond.fieldLink Γ.1.cls idx "TideDiscs" "COS" "[I" ∈ lw_tbl) (d : decode Γ.2.1 pc = .ok (.getstatic idx, 3)) (kk : am_G X Γ Q (pc + 3) lv (.ref (am_co X) :: st) σ) : am_G X Γ Q pc lv st σ := by
  intro p e R s m args below meth c S H locs ls hP hS hl
  obtain ⟨hx, hb, -, hml, hown, -, hT, -, -, hC, -⟩ := id S
  exact va_gets hx hb (hC hf).2.1 hS hown (hT.a hln rfl) (fun _ h => h) d (kk p e R s m args below meth c S H locs ls hP hS hl)
theorem g_cosL {x : Int32} {j : Nat} (hf : am_fl1 X = true) (hj : am_ix 24 x = some j) (d : decode Γ.2.1 pc = .ok (.iaload, 1)) (kk : am_G X Γ Q (pc + 1) lv (.int (am_cosl.getD j 0) :: st) σ) : am_G X Γ Q pc lv (.int x :: .ref (am_co X) :: st) σ := by
  intro p e R s m args below meth c S H locs ls hP hS hl
  obtain ⟨hx, hb, -, hml, hown, -, hT, -, -, hC, -⟩ := id S
  obtain ⟨h1, rfl⟩ := am_ix_in hj
  exact va_ti hx hb (hC hf).2.2.1 hS h1 rfl d (kk p e R s m args below meth c S H locs ls hP hS hl)
theorem am_acw : Cond.native arraycopyName ∈ lw_tbl ∧ Cond.static arraycopyName ∈ lw_tbl ∧ Cond.initialized "java/lang/System" ∈ lw_tbl := by decide +kernel
theorem g_acp {idx k i i' N t : Nat} {sp dp n : Int32} {σ' : am_H} (hi : (k, i) ∈ am_ks X) (hi' : (k, i') ∈ am_ks X) (h : am_ak k (1, N, t)) (hd : 1 ≤ Γ.2.2.2.2) (hst : (st.map fun v => v.category).sum ≤ 8) (hln : Cond.methodLink Γ.1.cls idx arraycopyName ∈ lw_tbl) (hc : am_cp N σ k i sp i' dp n = some σ') (d : decode Γ.2.1 pc = .ok (.invokestatic idx, 3)) (kk : am_G X Γ Q (pc + 3) lv st σ') : am_G X Γ Q pc lv (.int n :: .int dp :: .ref (am_ad X k i') :: .int sp :: .ref (am_ad X k i) :: st) σ := by
  intro p e R s m args below meth c S H locs ls hP hS hl
  obtain ⟨hx, hb, -, hml, hown, -, hT, ⟨hR1, hR2⟩, hK, -, hJ⟩ := id S
  obtain ⟨q0, hq0⟩ := am_key hi
  obtain ⟨q1, hq1⟩ := am_key hi'
  obtain ⟨h1, h2, h3⟩ := h
  obtain ⟨t0, ht0⟩ := am_tyat (X := X) h1
  have hty : am_ety k = .long := by unfold am_ety; rw [h3]; rfl
  rw [hty] at ht0
  have h0 : (am_at k).1 = 1 := by rw [h3]
  have hN : (am_at k).2.1 = N := by rw [h3]
  by_cases hg : sp < 0 ∨ dp < 0 ∨ n < 0 ∨ N < sp.toNatClampNeg + n.toNatClampNeg ∨ N < dp.toNatClampNeg + n.toNatClampNeg
  · exact absurd (am_ifT hg hc) (by simp)
  have hc2 := Option.some.inj (am_ifF hg hc)
  have e1 : ¬ sp < 0 := fun z => hg (Or.inl z)
  have e2 : ¬ dp < 0 := fun z => hg (Or.inr (Or.inl z))
  have e3 : ¬ n < 0 := fun z => hg (Or.inr (Or.inr (Or.inl z)))
  have e4 : sp.toNatClampNeg + n.toNatClampNeg ≤ (am_at k).2.1 := by rw [hN]; exact Nat.not_lt.mp fun z => hg (Or.inr (Or.inr (Or.inr (Or.inl z))))
  have e5 : dp.toNatClampNeg + n.toNatClampNeg ≤ (am_at k).2.1 := by rw [hN]; exact Nat.not_lt.mp fun z => hg (Or.inr (Or.inr (Or.inr (Or.inr z))))
  have hne : ∀ a b, ¬ (a = k ∧ b = i') → am_ev X σ' a b = am_ev X σ a b := by
    intro a b hab
    subst hc2
    have e : (fun c => if a = k ∧ b = i' then va_cpy (σ.2.1 k i) (σ.2.1 k i') sp.toNatClampNeg dp.toNatClampNeg n.toNatClampNeg c else σ.2.1 a b c) = σ.2.1 a b := by
      funext c
      rw [if_neg hab]
    unfold am_ev
    congr 2
    · congr 1
      congr 1
      funext c
      unfold am_fv
      split <;> (try rfl)
      show Value.long (if a = k ∧ b = i' then _ else σ.2.1 a b c) = _
      rw [if_neg hab]
    · congr 2
      unfold am_ct
      split <;> (try rfl)
      exact congrArg (fun z => Sum.inr (Sum.inl z)) e
  have he : am_ev X σ' k i' = .inl (am_cA X k, (am_at k).2.1, .inr (.inl (va_cpy (σ.2.1 k i) (σ.2.1 k i') sp.toNatClampNeg dp.toNatClampNeg n.toNatClampNeg))) := by
    rw [am_ev_at h2, am_ct_L h0]
    subst hc2
    congr 5
    funext c
    exact if_pos ⟨rfl, rfl⟩
  have hset := am_set (σ := σ) hJ hq1 he hne
  have hnw : nativeFrameWords "java/lang/System" "arraycopy" 5 ≤ 60 := by decide +kernel
  exact va_copyl hx hb (hml.trans hl.1.symm) hown (hT.a hln rfl) (hT.a am_acw.1 rfl) (hT.a am_acw.2.1 rfl) (hT.a am_acw.2.2 rfl) hK hP (am_Dl hJ) hS q0 q1 t0 t0 (am_arrL h2 h0 hq0) (am_arrL h2 h0 hq1) ht0 ht0 rfl e1 e2 e3 e4 e5 (fun _ _ => rfl) (by omega) (by omega) d (fun H1 locs1 hP1 hD1 hS1 => kk p e R s m args below meth c S H1 locs1 ls (by rw [← hset]; exact hP1) hS1 hl)
end
