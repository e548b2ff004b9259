def am_b (x : Bool) : Int32 := if x then 1 else 0
/-- an index of a row of n places -/
def am_ix (n : Nat) (x : Int32) : Option Nat := if x < 0 ∨ n ≤ x.toNatClampNeg then none else some x.toNatClampNeg
theorem am_ix_in {n j : Nat} {x : Int32} (h : am_ix n x = some j) : vp_in x n ∧ x.toNatClampNeg = j := by
  unfold am_ix at h
  split at h
  · cases h
  · next hc => exact ⟨hc, Option.some.inj h⟩
theorem am_lc_3 (x y : Int64) : (x < y ∧ ¬ x = y ∧ ¬ y < x ∧ lg_cmp x y = -1) ∨ (x = y ∧ ¬ x < y ∧ ¬ y < x ∧ lg_cmp x y = 0) ∨ (y < x ∧ ¬ x = y ∧ ¬ x < y ∧ lg_cmp x y = 1) := by
  have e1 : x < y ↔ x.toInt < y.toInt := Int64.lt_iff_toInt_lt
  have e2 : y < x ↔ y.toInt < x.toInt := Int64.lt_iff_toInt_lt
  have e3 : x = y ↔ x.toInt = y.toInt := Int64.toInt_inj.symm
  rcases Int.lt_trichotomy x.toInt y.toInt with h | h | h
  · have a1 : ¬ y < x := by rw [e2]; omega
    have a2 : ¬ x = y := by rw [e3]; omega
    exact Or.inl ⟨e1.mpr h, a2, a1, by simp [lg_cmp, a1, a2]⟩
  · have a0 := e3.mpr h
    subst a0
    exact Or.inr (Or.inl ⟨rfl, by rw [e1]; omega, by rw [e1]; omega, by simp [lg_cmp]⟩)
  · have a1 : y < x := e2.mpr h
    exact Or.inr (Or.inr ⟨a1, by rw [e3]; omega, by rw [e1]; omega, by simp [lg_cmp, a1]⟩)
theorem am_lc_le0 (x y : Int64) : x ≤ y ↔ ¬ y < x := by
  have e1 : x ≤ y ↔ x.toInt ≤ y.toInt := Int64.le_iff_toInt_le
  have e2 : y < x ↔ y.toInt < x.toInt := Int64.lt_iff_toInt_lt
  rw [e1, e2]; omega
theorem am_lc_eq (x y : Int64) : lg_cmp x y = 0 ↔ x = y := by
  rcases am_lc_3 x y with ⟨a, b, c, e⟩ | ⟨a, b, c, e⟩ | ⟨a, b, c, e⟩
  · rw [e]; simp [b]
  · exact ⟨fun _ => a, fun _ => e⟩
  · rw [e]; simp [b]
theorem am_lc_ne (x y : Int64) : ¬ lg_cmp x y = 0 ↔ ¬ x = y := by rw [am_lc_eq]
theorem am_lc_lt (x y : Int64) : lg_cmp x y < 0 ↔ x < y := by
  rcases am_lc_3 x y with ⟨a, b, c, e⟩ | ⟨a, b, c, e⟩ | ⟨a, b, c, e⟩ <;> rw [e] <;> simp [a, b, c]
theorem am_lc_gt (x y : Int64) : 0 < lg_cmp x y ↔ y < x := by
  rcases am_lc_3 x y with ⟨a, b, c, e⟩ | ⟨a, b, c, e⟩ | ⟨a, b, c, e⟩ <;> rw [e] <;> simp [a, b, c]
theorem am_lc_ge (x y : Int64) : 0 ≤ lg_cmp x y ↔ y ≤ x := by
  rw [am_lc_le0]
  rcases am_lc_3 x y with ⟨a, b, c, e⟩ | ⟨a, b, c, e⟩ | ⟨a, b, c, e⟩ <;> rw [e] <;> simp [a, b, c]
theorem am_lc_le (x y : Int64) : lg_cmp x y ≤ 0 ↔ x ≤ y := by
  rw [am_lc_le0]
  rcases am_lc_3 x y with ⟨a, b, c, e⟩ | ⟨a, b, c, e⟩ | ⟨a, b, c, e⟩ <;> rw [e] <;> simp [a, b, c]
theorem am_b0 : (0 : Int32) = am_b false := rfl
theorem am_b1 : (1 : Int32) = am_b true := rfl
theorem g_iadd {X : am_X} {Γ : am_M} {Q : Option Value → am_H → Prop} {pc : Nat} {lv : List (Nat × Value)} {st : List Value} {σ : am_H} {x y : Int32} (d : decode Γ.2.1 pc = .ok (.iadd, 1)) (k : am_G X Γ Q (pc + 1) lv (.int (x + y) :: st) σ) : am_G X Γ Q pc lv (.int y :: .int x :: st) σ := by
  intro p e R s m args below meth c S H locs ls hP hS hl
  obtain ⟨hx, hb, -⟩ := id S
  exact lv_iadd hx hb d (k p e R s m args below meth c S H locs ls hP hS hl)

theorem g_isub {X : am_X} {Γ : am_M} {Q : Option Value → am_H → Prop} {pc : Nat} {lv : List (Nat × Value)} {st : List Value} {σ : am_H} {x y : Int32} (d : decode Γ.2.1 pc = .ok (.isub, 1)) (k : am_G X Γ Q (pc + 1) lv (.int (x - y) :: st) σ) : am_G X Γ Q pc lv (.int y :: .int x :: st) σ := by
  intro p e R s m args below meth c S H locs ls hP hS hl
  obtain ⟨hx, hb, -⟩ := id S
  exact lv_isub hx hb d (k p e R s m args below meth c S H locs ls hP hS hl)

theorem g_imul {X : am_X} {Γ : am_M} {Q : Option Value → am_H → Prop} {pc : Nat} {lv : List (Nat × Value)} {st : List Value} {σ : am_H} {x y : Int32} (d : decode Γ.2.1 pc = .ok (.imul, 1)) (k : am_G X Γ Q (pc + 1) lv (.int (x * y) :: st) σ) : am_G X Γ Q pc lv (.int y :: .int x :: st) σ := by
  intro p e R s m args below meth c S H locs ls hP hS hl
  obtain ⟨hx, hb, -⟩ := id S
  exact lv_imul hx hb d (k p e R s m args below meth c S H locs ls hP hS hl)

theorem g_iand {X : am_X} {Γ : am_M} {Q : Option Value → am_H → Prop} {pc : Nat} {lv : List (Nat × Value)} {st : List Value} {σ : am_H} {x y : Int32} (d : decode Γ.2.1 pc = .ok (.iand, 1)) (k : am_G X Γ Q (pc + 1) lv (.int (x &&& y) :: st) σ) : am_G X Γ Q pc lv (.int y :: .int x :: st) σ := by
  intro p e R s m args below meth c S H locs ls hP hS hl
  obtain ⟨hx, hb, -⟩ := id S
  exact lv_iand hx hb d (k p e R s m args below meth c S H locs ls hP hS hl)

theorem g_ior {X : am_X} {Γ : am_M} {Q : Option Value → am_H → Prop} {pc : Nat} {lv : List (Nat × Value)} {st : List Value} {σ : am_H} {x y : Int32} (d : decode Γ.2.1 pc = .ok (.ior, 1)) (k : am_G X Γ Q (pc + 1) lv (.int (x ||| y) :: st) σ) : am_G X Γ Q pc lv (.int y :: .int x :: st) σ := by
  intro p e R s m args below meth c S H locs ls hP hS hl
  obtain ⟨hx, hb, -⟩ := id S
  exact lv_ior hx hb d (k p e R s m args below meth c S H locs ls hP hS hl)

theorem g_ixor {X : am_X} {Γ : am_M} {Q : Option Value → am_H → Prop} {pc : Nat} {lv : List (Nat × Value)} {st : List Value} {σ : am_H} {x y : Int32} (d : decode Γ.2.1 pc = .ok (.ixor, 1)) (k : am_G X Γ Q (pc + 1) lv (.int (x ^^^ y) :: st) σ) : am_G X Γ Q pc lv (.int y :: .int x :: st) σ := by
  intro p e R s m args below meth c S H locs ls hP hS hl
  obtain ⟨hx, hb, -⟩ := id S
  exact lv_ixor hx hb d (k p e R s m args below meth c S H locs ls hP hS hl)

theorem g_ladd {X : am_X} {Γ : am_M} {Q : Option Value → am_H → Prop} {pc : Nat} {lv : List (Nat × Value)} {st : List Value} {σ : am_H} {x y : Int64} (d : decode Γ.2.1 pc = .ok (.ladd, 1)) (k : am_G X Γ Q (pc + 1) lv (.long (x + y) :: st) σ) : am_G X Γ Q pc lv (.long y :: .long x :: st) σ := by
  intro p e R s m args below meth c S H locs ls hP hS hl
  obtain ⟨hx, hb, -⟩ := id S
  exact lv_ladd hx hb d (k p e R s m args below meth c S H locs ls hP hS hl)

theorem g_lsub {X : am_X} {Γ : am_M} {Q : Option Value → am_H → Prop} {pc : Nat} {lv : List (Nat × Value)} {st : List Value} {σ : am_H} {x y : Int64} (d : decode Γ.2.1 pc = .ok (.lsub, 1)) (k : am_G X Γ Q (pc + 1) lv (.long (x - y) :: st) σ) : am_G X Γ Q pc lv (.long y :: .long x :: st) σ := by
  intro p e R s m args below meth c S H locs ls hP hS hl
  obtain ⟨hx, hb, -⟩ := id S
  exact lv_lsub hx hb d (k p e R s m args below meth c S H locs ls hP hS hl)

theorem g_lmul {X : am_X} {Γ : am_M} {Q : Option Value → am_H → Prop} {pc : Nat} {lv : List (Nat × Value)} {st : List Value} {σ : am_H} {x y : Int64} (d : decode Γ.2.1 pc = .ok (.lmul, 1)) (k : am_G X Γ Q (pc + 1) lv (.long (x * y) :: st) σ) : am_G X Γ Q pc lv (.long y :: .long x :: st) σ := by
  intro p e R s m args below meth c S H locs ls hP hS hl
  obtain ⟨hx, hb, -⟩ := id S
  exact lv_lmul hx hb d (k p e R s m args below meth c S H locs ls hP hS hl)

theorem g_land {X : am_X} {Γ : am_M} {Q : Option Value → am_H → Prop} {pc : Nat} {lv : List (Nat × Value)} {st : List Value} {σ : am_H} {x y : Int64} (d : decode Γ.2.1 pc = .ok (.land, 1)) (k : am_G X Γ Q (pc + 1) lv (.long (x &&& y) :: st) σ) : am_G X Γ Q pc lv (.long y :: .long x :: st) σ := by
  intro p e R s m args below meth c S H locs ls hP hS hl
  obtain ⟨hx, hb, -⟩ := id S
  exact lv_land hx hb d (k p e R s m args below meth c S H locs ls hP hS hl)

theorem g_lor {X : am_X} {Γ : am_M} {Q : Option Value → am_H → Prop} {pc : Nat} {lv : List (Nat × Value)} {st : List Value} {σ : am_H} {x y : Int64} (d : decode Γ.2.1 pc = .ok (.lor, 1)) (k : am_G X Γ Q (pc + 1) lv (.long (x ||| y) :: st) σ) : am_G X Γ Q pc lv (.long y :: .long x :: st) σ := by
  intro p e R s m args below meth c S H locs ls hP hS hl
  obtain ⟨hx, hb, -⟩ := id S
  exact lv_lor hx hb d (k p e R s m args below meth c S H locs ls hP hS hl)

theorem g_lxor {X : am_X} {Γ : am_M} {Q : Option Value → am_H → Prop} {pc : Nat} {lv : List (Nat × Value)} {st : List Value} {σ : am_H} {x y : Int64} (d : decode Γ.2.1 pc = .ok (.lxor, 1)) (k : am_G X Γ Q (pc + 1) lv (.long (x ^^^ y) :: st) σ) : am_G X Γ Q pc lv (.long y :: .long x :: st) σ := by
  intro p e R s m args below meth c S H locs ls hP hS hl
  obtain ⟨hx, hb, -⟩ := id S
  exact lv_lxor hx hb d (k p e R s m args below meth c S H locs ls hP hS hl)

theorem g_idiv {X : am_X} {Γ : am_M} {Q : Option Value → am_H → Prop} {pc : Nat} {lv : List (Nat × Value)} {st : List Value} {σ : am_H} {x y : Int32} (d : decode Γ.2.1 pc = .ok (.idiv, 1)) (hne : ¬ y = 0) (k : am_G X Γ Q (pc + 1) lv (.int (x / y) :: st) σ) : am_G X Γ Q pc lv (.int y :: .int x :: st) σ := by
  intro p e R s m args below meth c S H locs ls hP hS hl
  obtain ⟨hx, hb, -⟩ := id S
  exact lv_idiv hx hb d hne (k p e R s m args below meth c S H locs ls hP hS hl)

theorem g_irem {X : am_X} {Γ : am_M} {Q : Option Value → am_H → Prop} {pc : Nat} {lv : List (Nat × Value)} {st : List Value} {σ : am_H} {x y : Int32} (d : decode Γ.2.1 pc = .ok (.irem, 1)) (hne : ¬ y = 0) (k : am_G X Γ Q (pc + 1) lv (.int (x - x / y * y) :: st) σ) : am_G X Γ Q pc lv (.int y :: .int x :: st) σ := by
  intro p e R s m args below meth c S H locs ls hP hS hl
  obtain ⟨hx, hb, -⟩ := id S
  exact lv_irem hx hb d hne (k p e R s m args below meth c S H locs ls hP hS hl)

theorem g_ldiv {X : am_X} {Γ : am_M} {Q : Option Value → am_H → Prop} {pc : Nat} {lv : List (Nat × Value)} {st : List Value} {σ : am_H} {x y : Int64} (d : decode Γ.2.1 pc = .ok (.ldiv, 1)) (hne : ¬ y = 0) (k : am_G X Γ Q (pc + 1) lv (.long (x / y) :: st) σ) : am_G X Γ Q pc lv (.long y :: .long x :: st) σ := by
  intro p e R s m args below meth c S H locs ls hP hS hl
  obtain ⟨hx, hb, -⟩ := id S
  exact lv_ldiv hx hb d hne (k p e R s m args below meth c S H locs ls hP hS hl)

theorem g_lrem {X : am_X} {Γ : am_M} {Q : Option Value → am_H → Prop} {pc : Nat} {lv : List (Nat × Value)} {st : List Value} {σ : am_H} {x y : Int64} (d : decode Γ.2.1 pc = .ok (.lrem, 1)) (hne : ¬ y = 0) (k : am_G X Γ Q (pc + 1) lv (.long (x - x / y * y) :: st) σ) : am_G X Γ Q pc lv (.long y :: .long x :: st) σ := by
  intro p e R s m args below meth c S H locs ls hP hS hl
  obtain ⟨hx, hb, -⟩ := id S
  exact lv_lrem hx hb d hne (k p e R s m args below meth c S H locs ls hP hS hl)

theorem g_ineg {X : am_X} {Γ : am_M} {Q : Option Value → am_H → Prop} {pc : Nat} {lv : List (Nat × Value)} {st : List Value} {σ : am_H} {x : Int32} (d : decode Γ.2.1 pc = .ok (.ineg, 1)) (k : am_G X Γ Q (pc + 1) lv (.int (-x) :: st) σ) : am_G X Γ Q pc lv (.int x :: st) σ := by
  intro p e R s m args below meth c S H locs ls hP hS hl
  obtain ⟨hx, hb, -⟩ := id S
  exact lv_ineg hx hb d (k p e R s m args below meth c S H locs ls hP hS hl)

theorem g_lneg {X : am_X} {Γ : am_M} {Q : Option Value → am_H → Prop} {pc : Nat} {lv : List (Nat × Value)} {st : List Value} {σ : am_H} {x : Int64} (d : decode Γ.2.1 pc = .ok (.lneg, 1)) (k : am_G X Γ Q (pc + 1) lv (.long (-x) :: st) σ) : am_G X Γ Q pc lv (.long x :: st) σ := by
  intro p e R s m args below meth c S H locs ls hP hS hl
  obtain ⟨hx, hb, -⟩ := id S
  exact lv_lneg hx hb d (k p e R s m args below meth c S H locs ls hP hS hl)

theorem g_ishl {X : am_X} {Γ : am_M} {Q : Option Value → am_H → Prop} {pc : Nat} {lv : List (Nat × Value)} {st : List Value} {σ : am_H} {x y : Int32} (d : decode Γ.2.1 pc = .ok (.ishl, 1)) (k : am_G X Γ Q (pc + 1) lv (.int (x <<< (y &&& 31)) :: st) σ) : am_G X Γ Q pc lv (.int y :: .int x :: st) σ := by
  intro p e R s m args below meth c S H locs ls hP hS hl
  obtain ⟨hx, hb, -⟩ := id S
  exact lv_ishl hx hb d (k p e R s m args below meth c S H locs ls hP hS hl)

theorem g_ishr {X : am_X} {Γ : am_M} {Q : Option Value → am_H → Prop} {pc : Nat} {lv : List (Nat × Value)} {st : List Value} {σ : am_H} {x y : Int32} (d : decode Γ.2.1 pc = .ok (.ishr, 1)) (k : am_G X Γ Q (pc + 1) lv (.int (x >>> (y &&& 31)) :: st) σ) : am_G X Γ Q pc lv (.int y :: .int x :: st) σ := by
  intro p e R s m args below meth c S H locs ls hP hS hl
  obtain ⟨hx, hb, -⟩ := id S
  exact lv_ishr hx hb d (k p e R s m args below meth c S H locs ls hP hS hl)

theorem g_iushr {X : am_X} {Γ : am_M} {Q : Option Value → am_H → Prop} {pc : Nat} {lv : List (Nat × Value)} {st : List Value} {σ : am_H} {x y : Int32} (d : decode Γ.2.1 pc = .ok (.iushr, 1)) (k : am_G X Γ Q (pc + 1) lv (.int ((x.toUInt32 >>> (y.toUInt32 &&& Int32.toUInt32 31)).toInt32) :: st) σ) : am_G X Γ Q pc lv (.int y :: .int x :: st) σ := by
  intro p e R s m args below meth c S H locs ls hP hS hl
  obtain ⟨hx, hb, -⟩ := id S
  exact lv_iushr hx hb d rfl (k p e R s m args below meth c S H locs ls hP hS hl)

theorem g_lshl {X : am_X} {Γ : am_M} {Q : Option Value → am_H → Prop} {pc : Nat} {lv : List (Nat × Value)} {st : List Value} {σ : am_H} {x : Int64} {y : Int32} (d : decode Γ.2.1 pc = .ok (.lshl, 1)) (k : am_G X Γ Q (pc + 1) lv (.long (x <<< (y.toInt64 &&& 63)) :: st) σ) : am_G X Γ Q pc lv (.int y :: .long x :: st) σ := by
  intro p e R s m args below meth c S H locs ls hP hS hl
  obtain ⟨hx, hb, -⟩ := id S
  exact lv_lshl hx hb d rfl (k p e R s m args below meth c S H locs ls hP hS hl)

theorem g_i2l {X : am_X} {Γ : am_M} {Q : Option Value → am_H → Prop} {pc : Nat} {lv : List (Nat × Value)} {st : List Value} {σ : am_H} {x : Int32} (d : decode Γ.2.1 pc = .ok (.i2l, 1)) (k : am_G X Γ Q (pc + 1) lv (.long x.toInt64 :: st) σ) : am_G X Γ Q pc lv (.int x :: st) σ := by
  intro p e R s m args below meth c S H locs ls hP hS hl
  obtain ⟨hx, hb, -⟩ := id S
  exact lv_i2l hx hb d rfl (k p e R s m args below meth c S H locs ls hP hS hl)

theorem g_l2i {X : am_X} {Γ : am_M} {Q : Option Value → am_H → Prop} {pc : Nat} {lv : List (Nat × Value)} {st : List Value} {σ : am_H} {x : Int64} (d : decode Γ.2.1 pc = .ok (.l2i, 1)) (k : am_G X Γ Q (pc + 1) lv (.int x.toInt32 :: st) σ) : am_G X Γ Q pc lv (.long x :: st) σ := by
  intro p e R s m args below meth c S H locs ls hP hS hl
  obtain ⟨hx, hb, -⟩ := id S
  exact lv_l2i hx hb d rfl (k p e R s m args below meth c S H locs ls hP hS hl)

theorem g_i2b {X : am_X} {Γ : am_M} {Q : Option Value → am_H → Prop} {pc : Nat} {lv : List (Nat × Value)} {st : List Value} {σ : am_H} {x : Int32} (d : decode Γ.2.1 pc = .ok (.i2b, 1)) (k : am_G X Γ Q (pc + 1) lv (.int x.toInt8.toInt32 :: st) σ) : am_G X Γ Q pc lv (.int x :: st) σ := by
  intro p e R s m args below meth c S H locs ls hP hS hl
  obtain ⟨hx, hb, -⟩ := id S
  exact lv_i2b hx hb d rfl (k p e R s m args below meth c S H locs ls hP hS hl)

theorem g_i2s {X : am_X} {Γ : am_M} {Q : Option Value → am_H → Prop} {pc : Nat} {lv : List (Nat × Value)} {st : List Value} {σ : am_H} {x : Int32} (d : decode Γ.2.1 pc = .ok (.i2s, 1)) (k : am_G X Γ Q (pc + 1) lv (.int x.toInt16.toInt32 :: st) σ) : am_G X Γ Q pc lv (.int x :: st) σ := by
  intro p e R s m args below meth c S H locs ls hP hS hl
  obtain ⟨hx, hb, -⟩ := id S
  exact lv_i2s hx hb d rfl (k p e R s m args below meth c S H locs ls hP hS hl)

theorem g_iconst {X : am_X} {Γ : am_M} {Q : Option Value → am_H → Prop} {pc : Nat} {lv : List (Nat × Value)} {st : List Value} {σ : am_H} {n : Int} {v : Int32} (d : decode Γ.2.1 pc = .ok (.iconst n, 1)) (hv : Int32.ofInt n = v) (k : am_G X Γ Q (pc + 1) lv (.int v :: st) σ) : am_G X Γ Q pc lv (st) σ := by
  intro p e R s m args below meth c S H locs ls hP hS hl
  obtain ⟨hx, hb, -⟩ := id S
  exact lv_iconst hx hb d hv (k p e R s m args below meth c S H locs ls hP hS hl)

theorem g_bipush {X : am_X} {Γ : am_M} {Q : Option Value → am_H → Prop} {pc : Nat} {lv : List (Nat × Value)} {st : List Value} {σ : am_H} {n : Int} {v : Int32} (d : decode Γ.2.1 pc = .ok (.bipush n, 2)) (hv : (Int8.ofInt n).toInt32 = v) (k : am_G X Γ Q (pc + 2) lv (.int v :: st) σ) : am_G X Γ Q pc lv (st) σ := by
  intro p e R s m args below meth c S H locs ls hP hS hl
  obtain ⟨hx, hb, -⟩ := id S
  exact lv_bipush hx hb d hv (k p e R s m args below meth c S H locs ls hP hS hl)

theorem g_sipush {X : am_X} {Γ : am_M} {Q : Option Value → am_H → Prop} {pc : Nat} {lv : List (Nat × Value)} {st : List Value} {σ : am_H} {n : Int} {v : Int32} (d : decode Γ.2.1 pc = .ok (.sipush n, 3)) (hv : (Int16.ofInt n).toInt32 = v) (k : am_G X Γ Q (pc + 3) lv (.int v :: st) σ) : am_G X Γ Q pc lv (st) σ := by
  intro p e R s m args below meth c S H locs ls hP hS hl
  obtain ⟨hx, hb, -⟩ := id S
  exact lv_sipush hx hb d hv (k p e R s m args below meth c S H locs ls hP hS hl)

theorem g_lconst {X : am_X} {Γ : am_M} {Q : Option Value → am_H → Prop} {pc : Nat} {lv : List (Nat × Value)} {st : List Value} {σ : am_H} {n : Fin 2} {v : Int64} (d : decode Γ.2.1 pc = .ok (.lconst n, 1)) (hv : Int64.ofNat (n : Nat) = v) (k : am_G X Γ Q (pc + 1) lv (.long v :: st) σ) : am_G X Γ Q pc lv (st) σ := by
  intro p e R s m args below meth c S H locs ls hP hS hl
  obtain ⟨hx, hb, -⟩ := id S
  exact lv_lconst hx hb d hv (k p e R s m args below meth c S H locs ls hP hS hl)

theorem g_dup {X : am_X} {Γ : am_M} {Q : Option Value → am_H → Prop} {pc : Nat} {lv : List (Nat × Value)} {st : List Value} {σ : am_H} {v : Value} (d : decode Γ.2.1 pc = .ok (.dup, 1)) (hv : v.category = 1) (k : am_G X Γ Q (pc + 1) lv (v :: v :: st) σ) : am_G X Γ Q pc lv (v :: st) σ := by
  intro p e R s m args below meth c S H locs ls hP hS hl
  obtain ⟨hx, hb, -⟩ := id S
  exact lv_dup hx hb d hv (k p e R s m args below meth c S H locs ls hP hS hl)

theorem g_pop {X : am_X} {Γ : am_M} {Q : Option Value → am_H → Prop} {pc : Nat} {lv : List (Nat × Value)} {st : List Value} {σ : am_H} {v : Value} (d : decode Γ.2.1 pc = .ok (.pop, 1)) (hv : v.category = 1) (k : am_G X Γ Q (pc + 1) lv (st) σ) : am_G X Γ Q pc lv (v :: st) σ := by
  intro p e R s m args below meth c S H locs ls hP hS hl
  obtain ⟨hx, hb, -⟩ := id S
  exact lv_pop hx hb d hv (k p e R s m args below meth c S H locs ls hP hS hl)

theorem g_dup2_11 {X : am_X} {Γ : am_M} {Q : Option Value → am_H → Prop} {pc : Nat} {lv : List (Nat × Value)} {st : List Value} {σ : am_H} {v w : Value} (d : decode Γ.2.1 pc = .ok (.dup2, 1)) (hv : v.category = 1) (hw : w.category = 1) (k : am_G X Γ Q (pc + 1) lv (v :: w :: v :: w :: st) σ) : am_G X Γ Q pc lv (v :: w :: st) σ := by
  intro p e R s m args below meth c S H locs ls hP hS hl
  obtain ⟨hx, hb, -⟩ := id S
  exact lv_dup2_11 hx hb d hv hw (k p e R s m args below meth c S H locs ls hP hS hl)

theorem g_dup2_2 {X : am_X} {Γ : am_M} {Q : Option Value → am_H → Prop} {pc : Nat} {lv : List (Nat × Value)} {st : List Value} {σ : am_H} {v : Value} (d : decode Γ.2.1 pc = .ok (.dup2, 1)) (hv : v.category = 2) (k : am_G X Γ Q (pc + 1) lv (v :: v :: st) σ) : am_G X Γ Q pc lv (v :: st) σ := by
  intro p e R s m args below meth c S H locs ls hP hS hl
  obtain ⟨hx, hb, -⟩ := id S
  exact lv_dup2_2 hx hb d hv (k p e R s m args below meth c S H locs ls hP hS hl)

theorem g_null {X : am_X} {Γ : am_M} {Q : Option Value → am_H → Prop} {pc : Nat} {lv : List (Nat × Value)} {st : List Value} {σ : am_H}  (d : decode Γ.2.1 pc = .ok (.aconst_null, 1)) (k : am_G X Γ Q (pc + 1) lv (.null :: st) σ) : am_G X Γ Q pc lv (st) σ := by
  intro p e R s m args below meth c S H locs ls hP hS hl
  obtain ⟨hx, hb, -⟩ := id S
  exact lv_null hx hb d (k p e R s m args below meth c S H locs ls hP hS hl)

theorem g_lcmp {X : am_X} {Γ : am_M} {Q : Option Value → am_H → Prop} {pc : Nat} {lv : List (Nat × Value)} {st : List Value} {σ : am_H} {x y : Int64} (d : decode Γ.2.1 pc = .ok (.lcmp, 1)) {z : Int32} (hz : lg_cmp x y = z) (k : am_G X Γ Q (pc + 1) lv (.int z :: st) σ) : am_G X Γ Q pc lv (.long y :: .long x :: st) σ := by
  intro p e R s m args below meth c S H locs ls hP hS hl
  obtain ⟨hx, hb, -⟩ := id S
  subst hz
  exact W.lcmp hx hb d (k p e R s m args below meth c S H locs ls hP hS hl)

theorem g_iload_n {X : am_X} {Γ : am_M} {Q : Option Value → am_H → Prop} {pc : Nat} {lv : List (Nat × Value)} {st : List Value} {σ : am_H} {k0 : Fin 4} {i : Nat} {x : Int32} (q : Nat) (hq : lv[q]? = some (i, .int x)) (d : decode Γ.2.1 pc = .ok (.iload_n k0, 1)) (hi : (k0 : Nat) = i) (k : am_G X Γ Q (pc + 1) lv (.int x :: st) σ) : am_G X Γ Q pc lv st σ := by
  intro p e R s m args below meth c S H locs ls hP hS hl
  obtain ⟨hx, hb, -⟩ := id S
  exact lv_iload_n hx hb d hi (lv_at hl q hq) (k p e R s m args below meth c S H locs ls hP hS hl)

theorem g_iload {X : am_X} {Γ : am_M} {Q : Option Value → am_H → Prop} {pc : Nat} {lv : List (Nat × Value)} {st : List Value} {σ : am_H} {i : Nat} {x : Int32} (q : Nat) (hq : lv[q]? = some (i, .int x)) (d : decode Γ.2.1 pc = .ok (.iload i, 2)) (k : am_G X Γ Q (pc + 2) lv (.int x :: st) σ) : am_G X Γ Q pc lv st σ := by
  intro p e R s m args below meth c S H locs ls hP hS hl
  obtain ⟨hx, hb, -⟩ := id S
  exact lv_iload hx hb d (lv_at hl q hq) (k p e R s m args below meth c S H locs ls hP hS hl)

theorem g_lload_n {X : am_X} {Γ : am_M} {Q : Option Value → am_H → Prop} {pc : Nat} {lv : List (Nat × Value)} {st : List Value} {σ : am_H} {k0 : Fin 4} {i : Nat} {x : Int64} (q : Nat) (hq : lv[q]? = some (i, .long x)) (d : decode Γ.2.1 pc = .ok (.lload_n k0, 1)) (hi : (k0 : Nat) = i) (k : am_G X Γ Q (pc + 1) lv (.long x :: st) σ) : am_G X Γ Q pc lv st σ := by
  intro p e R s m args below meth c S H locs ls hP hS hl
  obtain ⟨hx, hb, -⟩ := id S
  exact lv_lload_n hx hb d hi (lv_at hl q hq) (k p e R s m args below meth c S H locs ls hP hS hl)

theorem g_lload {X : am_X} {Γ : am_M} {Q : Option Value → am_H → Prop} {pc : Nat} {lv : List (Nat × Value)} {st : List Value} {σ : am_H} {i : Nat} {x : Int64} (q : Nat) (hq : lv[q]? = some (i, .long x)) (d : decode Γ.2.1 pc = .ok (.lload i, 2)) (k : am_G X Γ Q (pc + 2) lv (.long x :: st) σ) : am_G X Γ Q pc lv st σ := by
  intro p e R s m args below meth c S H locs ls hP hS hl
  obtain ⟨hx, hb, -⟩ := id S
  exact lv_lload hx hb d (lv_at hl q hq) (k p e R s m args below meth c S H locs ls hP hS hl)

theorem g_aload_n {X : am_X} {Γ : am_M} {Q : Option Value → am_H → Prop} {pc : Nat} {lv : List (Nat × Value)} {st : List Value} {σ : am_H} {k0 : Fin 4} {i : Nat} {x : Nat} (q : Nat) (hq : lv[q]? = some (i, .ref x)) (d : decode Γ.2.1 pc = .ok (.aload_n k0, 1)) (hi : (k0 : Nat) = i) (k : am_G X Γ Q (pc + 1) lv (.ref x :: st) σ) : am_G X Γ Q pc lv st σ := by
  intro p e R s m args below meth c S H locs ls hP hS hl
  obtain ⟨hx, hb, -⟩ := id S
  exact lv_aload_n hx hb d hi (lv_at hl q hq) (k p e R s m args below meth c S H locs ls hP hS hl)

theorem g_aload {X : am_X} {Γ : am_M} {Q : Option Value → am_H → Prop} {pc : Nat} {lv : List (Nat × Value)} {st : List Value} {σ : am_H} {i : Nat} {x : Nat} (q : Nat) (hq : lv[q]? = some (i, .ref x)) (d : decode Γ.2.1 pc = .ok (.aload i, 2)) (k : am_G X Γ Q (pc + 2) lv (.ref x :: st) σ) : am_G X Γ Q pc lv st σ := by
  intro p e R s m args below meth c S H locs ls hP hS hl
  obtain ⟨hx, hb, -⟩ := id S
  exact lv_aload hx hb d (lv_at hl q hq) (k p e R s m args below meth c S H locs ls hP hS hl)

theorem g_aloadN_n {X : am_X} {Γ : am_M} {Q : Option Value → am_H → Prop} {pc : Nat} {lv : List (Nat × Value)} {st : List Value} {σ : am_H} {k0 : Fin 4} {i : Nat} (q : Nat) (hq : lv[q]? = some (i, .null)) (d : decode Γ.2.1 pc = .ok (.aload_n k0, 1)) (hi : (k0 : Nat) = i) (k : am_G X Γ Q (pc + 1) lv (.null :: st) σ) : am_G X Γ Q pc lv st σ := by
  intro p e R s m args below meth c S H locs ls hP hS hl
  obtain ⟨hx, hb, -⟩ := id S
  exact lv_aload_nN hx hb d hi (lv_at hl q hq) (k p e R s m args below meth c S H locs ls hP hS hl)

theorem g_aloadN {X : am_X} {Γ : am_M} {Q : Option Value → am_H → Prop} {pc : Nat} {lv : List (Nat × Value)} {st : List Value} {σ : am_H} {i : Nat} (q : Nat) (hq : lv[q]? = some (i, .null)) (d : decode Γ.2.1 pc = .ok (.aload i, 2)) (k : am_G X Γ Q (pc + 2) lv (.null :: st) σ) : am_G X Γ Q pc lv st σ := by
  intro p e R s m args below meth c S H locs ls hP hS hl
  obtain ⟨hx, hb, -⟩ := id S
  exact lv_aloadN hx hb d (lv_at hl q hq) (k p e R s m args below meth c S H locs ls hP hS hl)

theorem g_istore_n {X : am_X} {Γ : am_M} {Q : Option Value → am_H → Prop} {pc : Nat} {lv : List (Nat × Value)} {st : List Value} {σ : am_H} {k0 : Fin 4} {i : Nat} {x : Int32} (lv' : List (Nat × Value)) (d : decode Γ.2.1 pc = .ok (.istore_n k0, 1)) (hi : (k0 : Nat) = i) (hn : i < Γ.2.2.1) (hl' : (i, Value.int x) :: lv.filter (fun q => !(q.1 == i) && !(q.1 + 1 == i && q.2.category == 2)) = lv') (k : am_G X Γ Q (pc + 1) lv' st σ) : am_G X Γ Q pc lv (.int x :: st) σ := by
  intro p e R s m args below meth c S H locs ls hP hS hl
  obtain ⟨hx, hb, -⟩ := id S
  exact lv_istore_n hx hb d hi hl hn hl' (fun ls' h' => k p e R s m args below meth c S H locs ls' hP hS h')

theorem g_istore {X : am_X} {Γ : am_M} {Q : Option Value → am_H → Prop} {pc : Nat} {lv : List (Nat × Value)} {st : List Value} {σ : am_H} {i : Nat} {x : Int32} (lv' : List (Nat × Value)) (d : decode Γ.2.1 pc = .ok (.istore i, 2)) (hn : i < Γ.2.2.1) (hl' : (i, Value.int x) :: lv.filter (fun q => !(q.1 == i) && !(q.1 + 1 == i && q.2.category == 2)) = lv') (k : am_G X Γ Q (pc + 2) lv' st σ) : am_G X Γ Q pc lv (.int x :: st) σ := by
  intro p e R s m args below meth c S H locs ls hP hS hl
  obtain ⟨hx, hb, -⟩ := id S
  exact lv_istore hx hb d hl hn hl' (fun ls' h' => k p e R s m args below meth c S H locs ls' hP hS h')

theorem g_lstore_n {X : am_X} {Γ : am_M} {Q : Option Value → am_H → Prop} {pc : Nat} {lv : List (Nat × Value)} {st : List Value} {σ : am_H} {k0 : Fin 4} {i : Nat} {x : Int64} (lv' : List (Nat × Value)) (d : decode Γ.2.1 pc = .ok (.lstore_n k0, 1)) (hi : (k0 : Nat) = i) (hn : i + 1 < Γ.2.2.1) (hl' : (i, Value.long x) :: lv.filter (fun q => !(q.1 == i) && (!(q.1 == i + 1) && !(q.1 + 1 == i && q.2.category == 2))) = lv') (k : am_G X Γ Q (pc + 1) lv' st σ) : am_G X Γ Q pc lv (.long x :: st) σ := by
  intro p e R s m args below meth c S H locs ls hP hS hl
  obtain ⟨hx, hb, -⟩ := id S
  exact lv_lstore_n hx hb d hi hl hn hl' (fun ls' h' => k p e R s m args below meth c S H locs ls' hP hS h')

theorem g_lstore {X : am_X} {Γ : am_M} {Q : Option Value → am_H → Prop} {pc : Nat} {lv : List (Nat × Value)} {st : List Value} {σ : am_H} {i : Nat} {x : Int64} (lv' : List (Nat × Value)) (d : decode Γ.2.1 pc = .ok (.lstore i, 2)) (hn : i + 1 < Γ.2.2.1) (hl' : (i, Value.long x) :: lv.filter (fun q => !(q.1 == i) && (!(q.1 == i + 1) && !(q.1 + 1 == i && q.2.category == 2))) = lv') (k : am_G X Γ Q (pc + 2) lv' st σ) : am_G X Γ Q pc lv (.long x :: st) σ := by
  intro p e R s m args below meth c S H locs ls hP hS hl
  obtain ⟨hx, hb, -⟩ := id S
  exact lv_lstore hx hb d hl hn hl' (fun ls' h' => k p e R s m args below meth c S H locs ls' hP hS h')

theorem g_astore_n {X : am_X} {Γ : am_M} {Q : Option Value → am_H → Prop} {pc : Nat} {lv : List (Nat × Value)} {st : List Value} {σ : am_H} {k0 : Fin 4} {i : Nat} {x : Nat} (lv' : List (Nat × Value)) (d : decode Γ.2.1 pc = .ok (.astore_n k0, 1)) (hi : (k0 : Nat) = i) (hn : i < Γ.2.2.1) (hl' : (i, Value.ref x) :: lv.filter (fun q => !(q.1 == i) && !(q.1 + 1 == i && q.2.category == 2)) = lv') (k : am_G X Γ Q (pc + 1) lv' st σ) : am_G X Γ Q pc lv (.ref x :: st) σ := by
  intro p e R s m args below meth c S H locs ls hP hS hl
  obtain ⟨hx, hb, -⟩ := id S
  exact lv_astore_n hx hb d hi hl hn hl' (fun ls' h' => k p e R s m args below meth c S H locs ls' hP hS h')

theorem g_astore {X : am_X} {Γ : am_M} {Q : Option Value → am_H → Prop} {pc : Nat} {lv : List (Nat × Value)} {st : List Value} {σ : am_H} {i : Nat} {x : Nat} (lv' : List (Nat × Value)) (d : decode Γ.2.1 pc = .ok (.astore i, 2)) (hn : i < Γ.2.2.1) (hl' : (i, Value.ref x) :: lv.filter (fun q => !(q.1 == i) && !(q.1 + 1 == i && q.2.category == 2)) = lv') (k : am_G X Γ Q (pc + 2) lv' st σ) : am_G X Γ Q pc lv (.ref x :: st) σ := by
  intro p e R s m args below meth c S H locs ls hP hS hl
  obtain ⟨hx, hb, -⟩ := id S
  exact lv_astore hx hb d hl hn hl' (fun ls' h' => k p e R s m args below meth c S H locs ls' hP hS h')

theorem g_iinc {X : am_X} {Γ : am_M} {Q : Option Value → am_H → Prop} {pc : Nat} {lv : List (Nat × Value)} {st : List Value} {σ : am_H} {i : Nat} {n : Int} {x v : Int32} (q : Nat) (lv' : List (Nat × Value)) (d : decode Γ.2.1 pc = .ok (.iinc i n, 3)) (hq : lv[q]? = some (i, .int x)) (hv : x + Int32.ofInt n = v) (hn : i < Γ.2.2.1) (hl' : (i, Value.int v) :: lv.filter (fun q => !(q.1 == i) && !(q.1 + 1 == i && q.2.category == 2)) = lv') (k : am_G X Γ Q (pc + 3) lv' st σ) : am_G X Γ Q pc lv st σ := by
  intro p e R s m args below meth c S H locs ls hP hS hl
  obtain ⟨hx, hb, -⟩ := id S
  exact lv_iinc hx hb d hl hq hv hn hl' (fun ls' h' => k p e R s m args below meth c S H locs ls' hP hS h')

theorem g_if_eq {X : am_X} {Γ : am_M} {Q : Option Value → am_H → Prop} {pc : Nat} {lv : List (Nat × Value)} {st : List Value} {σ : am_H} {x : Int32} {off : Int} (tgt : Nat) (d : decode Γ.2.1 pc = .ok (.ifCond .eq off, 3)) (ht : (pc : Int) + off = (tgt : Int)) (kt : x = 0 → am_G X Γ Q tgt lv st σ) (kf : ¬ (x = 0) → am_G X Γ Q (pc + 3) lv st σ) : am_G X Γ Q pc lv (.int x :: st) σ := by
  intro p e R s m args below meth c S H locs ls hP hS hl
  obtain ⟨hx, hb, -⟩ := id S
  exact lv_if_eq hx hb d ht (fun q => kt (by first | exact q | simpa using q) p e R s m args below meth c S H locs ls hP hS hl) (fun q => kf (by first | exact q | simpa using q) p e R s m args below meth c S H locs ls hP hS hl)

theorem g_icmp_eq {X : am_X} {Γ : am_M} {Q : Option Value → am_H → Prop} {pc : Nat} {lv : List (Nat × Value)} {st : List Value} {σ : am_H} {x y : Int32} {off : Int} (tgt : Nat) (d : decode Γ.2.1 pc = .ok (.if_icmp .eq off, 3)) (ht : (pc : Int) + off = (tgt : Int)) (kt : x = y → am_G X Γ Q tgt lv st σ) (kf : ¬ (x = y) → am_G X Γ Q (pc + 3) lv st σ) : am_G X Γ Q pc lv (.int y :: .int x :: st) σ := by
  intro p e R s m args below meth c S H locs ls hP hS hl
  obtain ⟨hx, hb, -⟩ := id S
  exact lv_icmp_eq hx hb d ht (fun q => kt (by first | exact q | simpa using q) p e R s m args below meth c S H locs ls hP hS hl) (fun q => kf (by first | exact q | simpa using q) p e R s m args below meth c S H locs ls hP hS hl)

theorem g_if_ne {X : am_X} {Γ : am_M} {Q : Option Value → am_H → Prop} {pc : Nat} {lv : List (Nat × Value)} {st : List Value} {σ : am_H} {x : Int32} {off : Int} (tgt : Nat) (d : decode Γ.2.1 pc = .ok (.ifCond .ne off, 3)) (ht : (pc : Int) + off = (tgt : Int)) (kt : ¬ x = 0 → am_G X Γ Q tgt lv st σ) (kf : ¬ (¬ x = 0) → am_G X Γ Q (pc + 3) lv st σ) : am_G X Γ Q pc lv (.int x :: st) σ := by
  intro p e R s m args below meth c S H locs ls hP hS hl
  obtain ⟨hx, hb, -⟩ := id S
  exact lv_if_ne hx hb d ht (fun q => kt (by first | exact q | simpa using q) p e R s m args below meth c S H locs ls hP hS hl) (fun q => kf (by first | exact q | simpa using q) p e R s m args below meth c S H locs ls hP hS hl)

theorem g_icmp_ne {X : am_X} {Γ : am_M} {Q : Option Value → am_H → Prop} {pc : Nat} {lv : List (Nat × Value)} {st : List Value} {σ : am_H} {x y : Int32} {off : Int} (tgt : Nat) (d : decode Γ.2.1 pc = .ok (.if_icmp .ne off, 3)) (ht : (pc : Int) + off = (tgt : Int)) (kt : ¬ x = y → am_G X Γ Q tgt lv st σ) (kf : ¬ (¬ x = y) → am_G X Γ Q (pc + 3) lv st σ) : am_G X Γ Q pc lv (.int y :: .int x :: st) σ := by
  intro p e R s m args below meth c S H locs ls hP hS hl
  obtain ⟨hx, hb, -⟩ := id S
  exact lv_icmp_ne hx hb d ht (fun q => kt (by first | exact q | simpa using q) p e R s m args below meth c S H locs ls hP hS hl) (fun q => kf (by first | exact q | simpa using q) p e R s m args below meth c S H locs ls hP hS hl)

theorem g_if_lt {X : am_X} {Γ : am_M} {Q : Option Value → am_H → Prop} {pc : Nat} {lv : List (Nat × Value)} {st : List Value} {σ : am_H} {x : Int32} {off : Int} (tgt : Nat) (d : decode Γ.2.1 pc = .ok (.ifCond .lt off, 3)) (ht : (pc : Int) + off = (tgt : Int)) (kt : x < 0 → am_G X Γ Q tgt lv st σ) (kf : ¬ (x < 0) → am_G X Γ Q (pc + 3) lv st σ) : am_G X Γ Q pc lv (.int x :: st) σ := by
  intro p e R s m args below meth c S H locs ls hP hS hl
  obtain ⟨hx, hb, -⟩ := id S
  exact lv_if_lt hx hb d ht (fun q => kt (by first | exact q | simpa using q) p e R s m args below meth c S H locs ls hP hS hl) (fun q => kf (by first | exact q | simpa using q) p e R s m args below meth c S H locs ls hP hS hl)

theorem g_icmp_lt {X : am_X} {Γ : am_M} {Q : Option Value → am_H → Prop} {pc : Nat} {lv : List (Nat × Value)} {st : List Value} {σ : am_H} {x y : Int32} {off : Int} (tgt : Nat) (d : decode Γ.2.1 pc = .ok (.if_icmp .lt off, 3)) (ht : (pc : Int) + off = (tgt : Int)) (kt : x < y → am_G X Γ Q tgt lv st σ) (kf : ¬ (x < y) → am_G X Γ Q (pc + 3) lv st σ) : am_G X Γ Q pc lv (.int y :: .int x :: st) σ := by
  intro p e R s m args below meth c S H locs ls hP hS hl
  obtain ⟨hx, hb, -⟩ := id S
  exact lv_icmp_lt hx hb d ht (fun q => kt (by first | exact q | simpa using q) p e R s m args below meth c S H locs ls hP hS hl) (fun q => kf (by first | exact q | simpa using q) p e R s m args below meth c S H locs ls hP hS hl)

theorem g_if_ge {X : am_X} {Γ : am_M} {Q : Option Value → am_H → Prop} {pc : Nat} {lv : List (Nat × Value)} {st : List Value} {σ : am_H} {x : Int32} {off : Int} (tgt : Nat) (d : decode Γ.2.1 pc = .ok (.ifCond .ge off, 3)) (ht : (pc : Int) + off = (tgt : Int)) (kt : 0 ≤ x → am_G X Γ Q tgt lv st σ) (kf : ¬ (0 ≤ x) → am_G X Γ Q (pc + 3) lv st σ) : am_G X Γ Q pc lv (.int x :: st) σ := by
  intro p e R s m args below meth c S H locs ls hP hS hl
  obtain ⟨hx, hb, -⟩ := id S
  exact lv_if_ge hx hb d ht (fun q => kt (by first | exact q | simpa using q) p e R s m args below meth c S H locs ls hP hS hl) (fun q => kf (by first | exact q | simpa using q) p e R s m args below meth c S H locs ls hP hS hl)

theorem g_icmp_ge {X : am_X} {Γ : am_M} {Q : Option Value → am_H → Prop} {pc : Nat} {lv : List (Nat × Value)} {st : List Value} {σ : am_H} {x y : Int32} {off : Int} (tgt : Nat) (d : decode Γ.2.1 pc = .ok (.if_icmp .ge off, 3)) (ht : (pc : Int) + off = (tgt : Int)) (kt : y ≤ x → am_G X Γ Q tgt lv st σ) (kf : ¬ (y ≤ x) → am_G X Γ Q (pc + 3) lv st σ) : am_G X Γ Q pc lv (.int y :: .int x :: st) σ := by
  intro p e R s m args below meth c S H locs ls hP hS hl
  obtain ⟨hx, hb, -⟩ := id S
  exact lv_icmp_ge hx hb d ht (fun q => kt (by first | exact q | simpa using q) p e R s m args below meth c S H locs ls hP hS hl) (fun q => kf (by first | exact q | simpa using q) p e R s m args below meth c S H locs ls hP hS hl)

theorem g_if_gt {X : am_X} {Γ : am_M} {Q : Option Value → am_H → Prop} {pc : Nat} {lv : List (Nat × Value)} {st : List Value} {σ : am_H} {x : Int32} {off : Int} (tgt : Nat) (d : decode Γ.2.1 pc = .ok (.ifCond .gt off, 3)) (ht : (pc : Int) + off = (tgt : Int)) (kt : 0 < x → am_G X Γ Q tgt lv st σ) (kf : ¬ (0 < x) → am_G X Γ Q (pc + 3) lv st σ) : am_G X Γ Q pc lv (.int x :: st) σ := by
  intro p e R s m args below meth c S H locs ls hP hS hl
  obtain ⟨hx, hb, -⟩ := id S
  exact lv_if_gt hx hb d ht (fun q => kt (by first | exact q | simpa using q) p e R s m args below meth c S H locs ls hP hS hl) (fun q => kf (by first | exact q | simpa using q) p e R s m args below meth c S H locs ls hP hS hl)

theorem g_icmp_gt {X : am_X} {Γ : am_M} {Q : Option Value → am_H → Prop} {pc : Nat} {lv : List (Nat × Value)} {st : List Value} {σ : am_H} {x y : Int32} {off : Int} (tgt : Nat) (d : decode Γ.2.1 pc = .ok (.if_icmp .gt off, 3)) (ht : (pc : Int) + off = (tgt : Int)) (kt : y < x → am_G X Γ Q tgt lv st σ) (kf : ¬ (y < x) → am_G X Γ Q (pc + 3) lv st σ) : am_G X Γ Q pc lv (.int y :: .int x :: st) σ := by
  intro p e R s m args below meth c S H locs ls hP hS hl
  obtain ⟨hx, hb, -⟩ := id S
  exact lv_icmp_gt hx hb d ht (fun q => kt (by first | exact q | simpa using q) p e R s m args below meth c S H locs ls hP hS hl) (fun q => kf (by first | exact q | simpa using q) p e R s m args below meth c S H locs ls hP hS hl)

theorem g_if_le {X : am_X} {Γ : am_M} {Q : Option Value → am_H → Prop} {pc : Nat} {lv : List (Nat × Value)} {st : List Value} {σ : am_H} {x : Int32} {off : Int} (tgt : Nat) (d : decode Γ.2.1 pc = .ok (.ifCond .le off, 3)) (ht : (pc : Int) + off = (tgt : Int)) (kt : x ≤ 0 → am_G X Γ Q tgt lv st σ) (kf : ¬ (x ≤ 0) → am_G X Γ Q (pc + 3) lv st σ) : am_G X Γ Q pc lv (.int x :: st) σ := by
  intro p e R s m args below meth c S H locs ls hP hS hl
  obtain ⟨hx, hb, -⟩ := id S
  exact lv_if_le hx hb d ht (fun q => kt (by first | exact q | simpa using q) p e R s m args below meth c S H locs ls hP hS hl) (fun q => kf (by first | exact q | simpa using q) p e R s m args below meth c S H locs ls hP hS hl)

theorem g_icmp_le {X : am_X} {Γ : am_M} {Q : Option Value → am_H → Prop} {pc : Nat} {lv : List (Nat × Value)} {st : List Value} {σ : am_H} {x y : Int32} {off : Int} (tgt : Nat) (d : decode Γ.2.1 pc = .ok (.if_icmp .le off, 3)) (ht : (pc : Int) + off = (tgt : Int)) (kt : x ≤ y → am_G X Γ Q tgt lv st σ) (kf : ¬ (x ≤ y) → am_G X Γ Q (pc + 3) lv st σ) : am_G X Γ Q pc lv (.int y :: .int x :: st) σ := by
  intro p e R s m args below meth c S H locs ls hP hS hl
  obtain ⟨hx, hb, -⟩ := id S
  exact lv_icmp_le hx hb d ht (fun q => kt (by first | exact q | simpa using q) p e R s m args below meth c S H locs ls hP hS hl) (fun q => kf (by first | exact q | simpa using q) p e R s m args below meth c S H locs ls hP hS hl)

theorem g_goto {X : am_X} {Γ : am_M} {Q : Option Value → am_H → Prop} {pc : Nat} {lv : List (Nat × Value)} {st : List Value} {σ : am_H} {off : Int} (tgt : Nat) (d : decode Γ.2.1 pc = .ok (.goto off, 3)) (ht : (pc : Int) + off = (tgt : Int)) (k : am_G X Γ Q tgt lv st σ) : am_G X Γ Q pc lv st σ := by
  intro p e R s m args below meth c S H locs ls hP hS hl
  obtain ⟨hx, hb, -⟩ := id S
  exact lv_goto hx hb d ht (k p e R s m args below meth c S H locs ls hP hS hl)

theorem g_ifnonnull {X : am_X} {Γ : am_M} {Q : Option Value → am_H → Prop} {pc : Nat} {lv : List (Nat × Value)} {st : List Value} {σ : am_H} {x : Nat} {off : Int} (tgt : Nat) (d : decode Γ.2.1 pc = .ok (.ifnonnull off, 3)) (ht : (pc : Int) + off = (tgt : Int)) (k : am_G X Γ Q tgt lv st σ) : am_G X Γ Q pc lv (.ref x :: st) σ := by
  intro p e R s m args below meth c S H locs ls hP hS hl
  obtain ⟨hx, hb, -⟩ := id S
  exact lv_ifnonnull hx hb d ht (k p e R s m args below meth c S H locs ls hP hS hl)

theorem g_ifnonnullN {X : am_X} {Γ : am_M} {Q : Option Value → am_H → Prop} {pc : Nat} {lv : List (Nat × Value)} {st : List Value} {σ : am_H} {off : Int} (d : decode Γ.2.1 pc = .ok (.ifnonnull off, 3)) (k : am_G X Γ Q (pc + 3) lv st σ) : am_G X Γ Q pc lv (.null :: st) σ := by
  intro p e R s m args below meth c S H locs ls hP hS hl
  obtain ⟨hx, hb, -⟩ := id S
  exact lv_ifnonnullN hx hb d (k p e R s m args below meth c S H locs ls hP hS hl)

theorem g_ifnull {X : am_X} {Γ : am_M} {Q : Option Value → am_H → Prop} {pc : Nat} {lv : List (Nat × Value)} {st : List Value} {σ : am_H} {x : Nat} {off : Int} (d : decode Γ.2.1 pc = .ok (.ifnull off, 3)) (k : am_G X Γ Q (pc + 3) lv st σ) : am_G X Γ Q pc lv (.ref x :: st) σ := by
  intro p e R s m args below meth c S H locs ls hP hS hl
  obtain ⟨hx, hb, -⟩ := id S
  exact lv_ifnull hx hb d (k p e R s m args below meth c S H locs ls hP hS hl)

theorem g_ifnullN {X : am_X} {Γ : am_M} {Q : Option Value → am_H → Prop} {pc : Nat} {lv : List (Nat × Value)} {st : List Value} {σ : am_H} {off : Int} (tgt : Nat) (d : decode Γ.2.1 pc = .ok (.ifnull off, 3)) (ht : (pc : Int) + off = (tgt : Int)) (k : am_G X Γ Q tgt lv st σ) : am_G X Γ Q pc lv (.null :: st) σ := by
  intro p e R s m args below meth c S H locs ls hP hS hl
  obtain ⟨hx, hb, -⟩ := id S
  exact lv_ifnullN hx hb d ht (k p e R s m args below meth c S H locs ls hP hS hl)

theorem g_tabO {X : am_X} {Γ : am_M} {Q : Option Value → am_H → Prop} {pc : Nat} {lv : List (Nat × Value)} {st : List Value} {σ : am_H} {dflt lo hi : Int} {offs : Array Int} {len : Nat} {x : Int32} (tgt : Nat) (d : decode Γ.2.1 pc = .ok (.tableswitch dflt lo hi offs, len)) (h : x.toInt < lo ∨ hi < x.toInt) (ht : (pc : Int) + dflt = (tgt : Int)) (k : am_G X Γ Q tgt lv st σ) : am_G X Γ Q pc lv (.int x :: st) σ := by
  intro p e R s m args below meth c S H locs ls hP hS hl
  obtain ⟨hx, hb, -⟩ := id S
  exact lv_tableOut hx hb d h ht (k p e R s m args below meth c S H locs ls hP hS hl)

theorem g_tabI {X : am_X} {Γ : am_M} {Q : Option Value → am_H → Prop} {pc : Nat} {lv : List (Nat × Value)} {st : List Value} {σ : am_H} {dflt lo hi : Int} {offs : Array Int} {len : Nat} {x : Int32} {off : Int} (tgt : Nat) (d : decode Γ.2.1 pc = .ok (.tableswitch dflt lo hi offs, len)) (h1 : ¬ x.toInt < lo) (h2 : ¬ hi < x.toInt) (ho : offs[(x.toInt - lo).toNat]? = some off) (ht : (pc : Int) + off = (tgt : Int)) (k : am_G X Γ Q tgt lv st σ) : am_G X Γ Q pc lv (.int x :: st) σ := by
  intro p e R s m args below meth c S H locs ls hP hS hl
  obtain ⟨hx, hb, -⟩ := id S
  exact lv_tableIn hx hb d h1 h2 ho ht (k p e R s m args below meth c S H locs ls hP hS hl)

theorem g_ldc {X : am_X} {Γ : am_M} {Q : Option Value → am_H → Prop} {pc : Nat} {lv : List (Nat × Value)} {st : List Value} {σ : am_H} {i : Nat} {v : Int32} (hm : Cond.constant Γ.1.cls i v ∈ lw_tbl) (d : decode Γ.2.1 pc = .ok (.ldc i, 2)) (k : am_G X Γ Q (pc + 2) lv (.int v :: st) σ) : am_G X Γ Q pc lv st σ := by
  intro p e R s m args below meth c S H locs ls hP hS hl
  obtain ⟨hx, hb, -, -, hown, -, hT, -⟩ := id S
  exact lv_ldc hx hb hown (hT.a hm rfl) d (k p e R s m args below meth c S H locs ls hP hS hl)

theorem g_ldcw {X : am_X} {Γ : am_M} {Q : Option Value → am_H → Prop} {pc : Nat} {lv : List (Nat × Value)} {st : List Value} {σ : am_H} {i : Nat} {v : Int32} (hm : Cond.constant Γ.1.cls i v ∈ lw_tbl) (d : decode Γ.2.1 pc = .ok (.ldc_w i, 3)) (k : am_G X Γ Q (pc + 3) lv (.int v :: st) σ) : am_G X Γ Q pc lv st σ := by
  intro p e R s m args below meth c S H locs ls hP hS hl
  obtain ⟨hx, hb, -, -, hown, -, hT, -⟩ := id S
  exact lv_ldcw hx hb hown (hT.a hm rfl) d (k p e R s m args below meth c S H locs ls hP hS hl)

theorem g_ldc2 {X : am_X} {Γ : am_M} {Q : Option Value → am_H → Prop} {pc : Nat} {lv : List (Nat × Value)} {st : List Value} {σ : am_H} {i : Nat} {v : Int64} (hm : Cond.constantLong Γ.1.cls i v ∈ lw_tbl) (d : decode Γ.2.1 pc = .ok (.ldc2_w i, 3)) (k : am_G X Γ Q (pc + 3) lv (.long v :: st) σ) : am_G X Γ Q pc lv st σ := by
  intro p e R s m args below meth c S H locs ls hP hS hl
  obtain ⟨hx, hb, -, -, hown, -, hT, -⟩ := id S
  exact lv_ldc2 hx hb hown (hT.a hm rfl) d (k p e R s m args below meth c S H locs ls hP hS hl)

theorem g_ldcS {X : am_X} {Γ : am_M} {Q : Option Value → am_H → Prop} {pc : Nat} {lv : List (Nat × Value)} {st : List Value} {σ : am_H} {i : Nat} (q : Nat) {tx : String} {n : Nat} (hf : am_fl1 X = true) (hq : am_sR[q]? = some (Γ.1.cls, i, tx, n)) (d : decode Γ.2.1 pc = .ok (.ldc i, 2)) (k : am_G X Γ Q (pc + 2) lv (.ref (am_kK X n) :: st) σ) : am_G X Γ Q pc lv st σ := by
  intro p e R s m args below meth c S H locs ls hP hS hl
  obtain ⟨hx, hb, -, -, hown, -, hT, -, -, hC, -⟩ := id S
  exact va_ldcS hx hb hown ((hC hf).1.2 _ (List.mem_of_getElem? hq)) d (k p e R s m args below meth c S H locs ls hP hS hl)

theorem g_ireturn {X : am_X} {Γ : am_M} {Q : Option Value → am_H → Prop} {pc : Nat} {lv : List (Nat × Value)} {st : List Value} {σ : am_H} {x : Int32} (hr : Γ.2.2.2.1 = some .int) (d : decode Γ.2.1 pc = .ok (.ireturn, 1)) (hq : Q (some (.int x)) σ) : am_G X Γ Q pc lv [.int x] σ := by
  intro p e R s m args below meth c S H locs ls hP hS hl
  obtain ⟨hx, hb, hret, -, -, hlk, -⟩ := id S
  exact W.iret hx hb (hret.trans hr) (fun t ht hW => ⟨⟨_, σ, rfl, hq, by rw [ht]; exact hP⟩, hS.F ht⟩) hS.2.2 d hlk

theorem g_zreturn {X : am_X} {Γ : am_M} {Q : Option Value → am_H → Prop} {pc : Nat} {lv : List (Nat × Value)} {st : List Value} {σ : am_H} {x : Bool} (hr : Γ.2.2.2.1 = some .boolean) (d : decode Γ.2.1 pc = .ok (.ireturn, 1)) (hq : Q (some (.int (am_b x))) σ) : am_G X Γ Q pc lv [.int (am_b x)] σ := by
  intro p e R s m args below meth c S H locs ls hP hS hl
  obtain ⟨hx, hb, hret, -, -, hlk, -⟩ := id S
  exact W.zret hx hb (hret.trans hr) (by cases x <;> rfl) (fun t ht hW => ⟨⟨_, σ, rfl, hq, by rw [ht]; exact hP⟩, hS.F ht⟩) hS.2.2 d hlk

theorem g_lreturn {X : am_X} {Γ : am_M} {Q : Option Value → am_H → Prop} {pc : Nat} {lv : List (Nat × Value)} {st : List Value} {σ : am_H} {x : Int64} (hr : Γ.2.2.2.1 = some .long) (d : decode Γ.2.1 pc = .ok (.lreturn, 1)) (hq : Q (some (.long x)) σ) : am_G X Γ Q pc lv [.long x] σ := by
  intro p e R s m args below meth c S H locs ls hP hS hl
  obtain ⟨hx, hb, hret, -, -, hlk, -⟩ := id S
  exact W.lret hx hb (hret.trans hr) (fun t ht hW => ⟨⟨_, σ, rfl, hq, by rw [ht]; exact hP⟩, hS.F ht⟩) hS.2.2 d hlk

theorem g_vreturn {X : am_X} {Γ : am_M} {Q : Option Value → am_H → Prop} {pc : Nat} {lv : List (Nat × Value)} {st : List Value} {σ : am_H} (hr : Γ.2.2.2.1 = none) (d : decode Γ.2.1 pc = .ok (.return_, 1)) (hq : Q none σ) : am_G X Γ Q pc lv [] σ := by
  intro p e R s m args below meth c S H locs ls hP hS hl
  obtain ⟨hx, hb, hret, -, -, hlk, -⟩ := id S
  exact W.vret hx hb (hret.trans hr) (fun t ht hW => ⟨⟨_, σ, rfl, hq, by rw [ht]; exact hP⟩, hS.F ht⟩) hS.2.2 d hlk

theorem g_areturn {X : am_X} {Γ : am_M} {Q : Option Value → am_H → Prop} {pc : Nat} {lv : List (Nat × Value)} {st : List Value} {σ : am_H} {v : Value} {C : String} (hr : Γ.2.2.2.1 = some (.object C)) (hv : v = .null ∨ ∃ a, v = .ref a) (d : decode Γ.2.1 pc = .ok (.areturn, 1)) (hq : Q (some v) σ) : am_G X Γ Q pc lv [v] σ := by
  intro p e R s m args below meth c S H locs ls hP hS hl
  obtain ⟨hx, hb, hret, -, -, hlk, -⟩ := id S
  exact W.aret hx hb (hret.trans hr) (Or.inl ⟨_, rfl⟩) hv (fun t ht hW => ⟨⟨_, σ, rfl, hq, by rw [ht]; exact hP⟩, hS.F ht⟩) hS.2.2 d hlk

theorem g_lc_eq {X : am_X} {Γ : am_M} {Q : Option Value → am_H → Prop} {pc : Nat} {lv : List (Nat × Value)} {st : List Value} {σ : am_H} {x y : Int64} {off : Int} (tgt : Nat) (d : decode Γ.2.1 pc = .ok (.ifCond .eq off, 3)) (ht : (pc : Int) + off = (tgt : Int)) (kt : x = y → am_G X Γ Q tgt lv st σ) (kf : ¬ (x = y) → am_G X Γ Q (pc + 3) lv st σ) : am_G X Γ Q pc lv (.int (lg_cmp x y) :: st) σ := g_if_eq tgt d ht (fun q => kt ((am_lc_eq x y).mp q)) (fun q => kf (fun z => q ((am_lc_eq x y).mpr z)))
theorem g_lc_ne {X : am_X} {Γ : am_M} {Q : Option Value → am_H → Prop} {pc : Nat} {lv : List (Nat × Value)} {st : List Value} {σ : am_H} {x y : Int64} {off : Int} (tgt : Nat) (d : decode Γ.2.1 pc = .ok (.ifCond .ne off, 3)) (ht : (pc : Int) + off = (tgt : Int)) (kt : ¬ x = y → am_G X Γ Q tgt lv st σ) (kf : ¬ (¬ x = y) → am_G X Γ Q (pc + 3) lv st σ) : am_G X Γ Q pc lv (.int (lg_cmp x y) :: st) σ := g_if_ne tgt d ht (fun q => kt ((am_lc_ne x y).mp q)) (fun q => kf (fun z => q ((am_lc_ne x y).mpr z)))
theorem g_lc_lt {X : am_X} {Γ : am_M} {Q : Option Value → am_H → Prop} {pc : Nat} {lv : List (Nat × Value)} {st : List Value} {σ : am_H} {x y : Int64} {off : Int} (tgt : Nat) (d : decode Γ.2.1 pc = .ok (.ifCond .lt off, 3)) (ht : (pc : Int) + off = (tgt : Int)) (kt : x < y → am_G X Γ Q tgt lv st σ) (kf : ¬ (x < y) → am_G X Γ Q (pc + 3) lv st σ) : am_G X Γ Q pc lv (.int (lg_cmp x y) :: st) σ := g_if_lt tgt d ht (fun q => kt ((am_lc_lt x y).mp q)) (fun q => kf (fun z => q ((am_lc_lt x y).mpr z)))
theorem g_lc_ge {X : am_X} {Γ : am_M} {Q : Option Value → am_H → Prop} {pc : Nat} {lv : List (Nat × Value)} {st : List Value} {σ : am_H} {x y : Int64} {off : Int} (tgt : Nat) (d : decode Γ.2.1 pc = .ok (.ifCond .ge off, 3)) (ht : (pc : Int) + off = (tgt : Int)) (kt : y ≤ x → am_G X Γ Q tgt lv st σ) (kf : ¬ (y ≤ x) → am_G X Γ Q (pc + 3) lv st σ) : am_G X Γ Q pc lv (.int (lg_cmp x y) :: st) σ := g_if_ge tgt d ht (fun q => kt ((am_lc_ge x y).mp q)) (fun q => kf (fun z => q ((am_lc_ge x y).mpr z)))
theorem g_lc_gt {X : am_X} {Γ : am_M} {Q : Option Value → am_H → Prop} {pc : Nat} {lv : List (Nat × Value)} {st : List Value} {σ : am_H} {x y : Int64} {off : Int} (tgt : Nat) (d : decode Γ.2.1 pc = .ok (.ifCond .gt off, 3)) (ht : (pc : Int) + off = (tgt : Int)) (kt : y < x → am_G X Γ Q tgt lv st σ) (kf : ¬ (y < x) → am_G X Γ Q (pc + 3) lv st σ) : am_G X Γ Q pc lv (.int (lg_cmp x y) :: st) σ := g_if_gt tgt d ht (fun q => kt ((am_lc_gt x y).mp q)) (fun q => kf (fun z => q ((am_lc_gt x y).mpr z)))
theorem g_lc_le {X : am_X} {Γ : am_M} {Q : Option Value → am_H → Prop} {pc : Nat} {lv : List (Nat × Value)} {st : List Value} {σ : am_H} {x y : Int64} {off : Int} (tgt : Nat) (d : decode Γ.2.1 pc = .ok (.ifCond .le off, 3)) (ht : (pc : Int) + off = (tgt : Int)) (kt : x ≤ y → am_G X Γ Q tgt lv st σ) (kf : ¬ (x ≤ y) → am_G X Γ Q (pc + 3) lv st σ) : am_G X Γ Q pc lv (.int (lg_cmp x y) :: st) σ := g_if_le tgt d ht (fun q => kt ((am_lc_le x y).mp q)) (fun q => kf (fun z => q ((am_lc_le x y).mpr z)))