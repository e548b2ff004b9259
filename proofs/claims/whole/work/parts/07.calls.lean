/-! ===== calls ===== -/
section
variable {X : am_X} {Γ : am_M} {Q : Option Value → am_H → Prop} {pc : Nat} {lv : List (Nat × Value)} {st : List Value} {σ : am_H}
/-- just this answer, just this heap -/
def am_is (r0 : Option Value) (σ0 : am_H) : Option Value → am_H → Prop := fun r σ => r = r0 ∧ σ = σ0
/-- a method's link from a class: the plain one, or a nest mate's -/
def am_ln (own : String) (idx : Nat) (y : MethodName) : Prop := Cond.methodLink own idx y ∈ lw_tbl ∨ ∃ host, Cond.methodLinkNest own idx y host ∈ lw_tbl
/-- what the tables say of a method: its code, its class, how many parameters -/
def am_mc (Γ' : am_M) (n : Nat) : Prop := Cond.code Γ'.1 Γ'.2.1 Γ'.2.2.1 Γ'.2.2.2.1 ∈ lw_tbl ∧ Cond.initialized Γ'.1.cls ∈ lw_tbl ∧ (Γ'.1.cls ≠ "java/lang/invoke/MethodHandle" ∧ Γ'.1.cls ≠ "java/lang/invoke/VarHandle") ∧ (parseMethodDescriptor Γ'.1.desc).map (fun d => d.parameters.length) = some n ∧ Γ'.2.2.1 ≤ 81
def am_mV (Γ' : am_M) (n : Nat) : Prop := am_mc Γ' n ∧ Cond.instanceMethod Γ'.1 ∈ lw_tbl ∧ Cond.selects Γ'.1.cls Γ'.1 Γ'.1 ∈ lw_tbl
def am_mS (Γ' : am_M) (n : Nat) : Prop := am_mc Γ' n ∧ Cond.static Γ'.1 ∈ lw_tbl
theorem am_pre {s U : State} {H : Heap} {locs : List Loc} (hT : am_T s) (hK : va_K (am_D X) vwCl (am_ty X) s) (hC : am_Cn X s s.heap) (hJ : am_J X) (hP : va_P (am_D X) vwCl (am_wl X σ) H) (hS : va_S (am_A X) s.heap H locs) (hU : U.heap = H) (hW : s.WarmedH U.vm) : am_B X σ U :=
  ⟨hT.warm hW, va_K.moved hW.alike hK, by rw [hU]; exact (hC.kept hS.2.1).warm hW, hJ, by rw [hU]; exact hP⟩
theorem am_run {p : Program} {e : Env} {R : Room} {s : State} {m : MethodId} {args : Array Value} {below : List Frame} {meth : Method} {c : Code} {H : Heap} {locs : List Loc} {ls : Array Slot} {st0 : List Value} {a : Array Value} {r0 : Option Value} {σ0 : am_H}
    (S : am_S X Γ p R s m meth c) (hS : va_S (am_A X) s.heap H locs) (hl : lv_has ls Γ.2.2.1 lv)
    (hr : va_Run p X.1 e R s m args below meth c H locs 0 0 0 0 (F0 m pc ls st0) st (am_Qc X (am_is r0 σ0) a) (am_A X))
    (kk : am_G X Γ Q (pc + 3) lv (r0.toList ++ st) σ0) : W p X.1 e R s m args below meth c H locs 0 0 (MQ below (am_Qc X Q) args s 0 0 (am_A X)) (F0 m pc ls st0) := by
  intro T hT Y
  obtain ⟨v, st₀, t, T', L, h0, X', hL, e1, e2, ⟨⟨r, σ1, hv, ⟨hr1, hr2⟩, hp⟩, hz, hk⟩, stp⟩ := hr T hT Y
  cases hv
  subst hr1; subst hr2
  rw [h0] at hz hk
  obtain ⟨t2, a1, b1⟩ := kk p e R s m args below meth c S T'.heap (locs ++ L) ls (by rw [e1]; exact hp)
    ⟨Nat.le_trans hS.1 (by rw [e1]; exact hz), fun q h1 h2 => by rw [e1, hk q (Nat.lt_of_lt_of_le h1 hS.1) h2]; exact hS.2.1 q h1 h2, fun q hq => by
      rcases List.mem_append.mp hq with h | h
      · exact hS.2.2 q h
      · exact hL q h⟩ hl T' rfl X'
  exact ⟨t2, stp t2 a1, b1⟩
theorem am_pay {Γ' : am_M} {s : State} (hT : am_T s) (hc : Cond.code Γ'.1 Γ'.2.1 Γ'.2.2.1 Γ'.2.2.2.1 ∈ lw_tbl) : ∀ w ∈ [Cond.code Γ'.1 Γ'.2.1 Γ'.2.2.1 Γ'.2.2.2.1], ∀ (a' : Array Value) (U : State), s.WarmedH U.vm → w.before a' U = true := by
  intro w hw a' U hW
  rw [List.mem_singleton.mp hw]
  exact hT.at hW hc rfl
theorem g_callV {Γ' : am_M} {k i n idx : Nat} {C : String} {T : u_T} {N : Nat} {ty : Nat → FieldType} {As : List Value} {r0 : Option Value} {σ0 : am_H} (hd : am_kd k C T N ty) (hi : (k, i) ∈ am_ks X) (hm : am_mV Γ' n) (hcl : Γ'.1.cls = C) (hln : am_ln Γ.1.cls idx Γ'.1) (hn : As.length = n) (hr : Γ'.2.2.2.2 + 1 ≤ Γ.2.2.2.2) (hst : (st.map fun v => v.category).sum ≤ 8)
    (hM : am_C X Γ' (.ref (am_ad X k i) :: As) σ (am_is r0 σ0)) (d : decode Γ.2.1 pc = .ok (.invokevirtual idx, 3)) {st0 : List Value} (hA : As.reverse ++ .ref (am_ad X k i) :: st = st0) (kk : am_G X Γ Q (pc + 3) lv (r0.toList ++ st) σ0) : am_G X Γ Q pc lv st0 σ := by
  intro p e R s m args below meth c S H locs ls hP hS hl
  obtain ⟨hx, hb, hret, hml, hown, hlk, hT, hR, hK, hC, hJ⟩ := id S
  obtain ⟨⟨hcd, hini, hmh, hpd, hmx⟩, hins, hsel⟩ := hm
  obtain ⟨q, hq⟩ := am_key hi
  have h1 := am_wl_at (σ := σ) hq
  rw [am_ob hd] at h1
  subst hA
  subst hcl
  have hlen : ∀ sig, parseMethodDescriptor Γ'.1.desc = some sig → n = sig.parameters.length := by
    intro sig h
    rw [h] at hpd
    exact (Option.some.inj hpd).symm
  have hrm : (am_rm Γ'.2.2.2.2).frames + 1 ≤ R.frames ∧ 8 + (Γ'.2.2.1 + 11) + (am_rm Γ'.2.2.2.2).locals ≤ R.locals := by
    refine ⟨Nat.le_trans hr hR.1, ?_⟩
    have h2 := hR.2
    show 8 + (Γ'.2.2.1 + 11) + 100 * Γ'.2.2.2.2 ≤ R.locals
    omega
  have hpv : PreV s H Γ'.1.cls (am_ad X k i) (va_Pc (.ref (am_ad X k i) :: As) (am_B X σ)) As := ⟨am_blind, va_recv (q := (Γ'.1.cls, T, N)) hK hP hd.2.1 h1, fun U hU hW => ⟨rfl, am_pre hT hK hC hJ hP hS hU hW⟩⟩
  rcases hln with hln | ⟨host, hln⟩
  · exact am_run S hS hl (va_runV (As := As) (rest := st) (Ts := []) (own := Γ.1.cls) ⟨hx, hb, rfl, hown, fun _ h => absurd h List.not_mem_nil⟩ hM ⟨⟨rfl, rfl, hrm.1, hrm.2, am_pay hT hcd, List.mem_singleton.mpr rfl, hT.a hcd rfl, hT.a hini rfl, hmh, hlen, hT.a hln rfl⟩, hT.a hins rfl, hT.a hsel rfl⟩ hpv rfl hn (hl.1.trans hml.symm) rfl (by show 2 * 0 + _ ≤ 8; omega) d ⟨Nat.zero_le _, Nat.zero_le _⟩) kk
  · exact am_run S hS hl (va_runVN (As := As) (rest := st) (Ts := []) (own := Γ.1.cls) (host := host) ⟨hx, hb, rfl, hown, fun _ h => absurd h List.not_mem_nil⟩ hM ⟨⟨⟨rfl, rfl, hrm.1, hrm.2, am_pay hT hcd, List.mem_singleton.mpr rfl⟩, hT.a hcd rfl, hT.a hini rfl, hmh, hlen, hT.a hln rfl⟩, hT.a hins rfl, hT.a hsel rfl⟩ hpv rfl hn (hl.1.trans hml.symm) rfl (by show 2 * 0 + _ ≤ 8; omega) d ⟨Nat.zero_le _, Nat.zero_le _⟩) kk
theorem g_callS {Γ' : am_M} {n idx : Nat} {As : List Value} {r0 : Option Value} {σ0 : am_H} (hm : am_mS Γ' n) (hln : am_ln Γ.1.cls idx Γ'.1) (hn : As.length = n) (hr : Γ'.2.2.2.2 + 1 ≤ Γ.2.2.2.2) (hst : (st.map fun v => v.category).sum ≤ 8)
    (hM : am_C X Γ' As σ (am_is r0 σ0)) (d : decode Γ.2.1 pc = .ok (.invokestatic idx, 3)) {st0 : List Value} (hA : As.reverse ++ st = st0) (kk : am_G X Γ Q (pc + 3) lv (r0.toList ++ st) σ0) : am_G X Γ Q pc lv st0 σ := by
  intro p e R s m args below meth c S H locs ls hP hS hl
  obtain ⟨hx, hb, hret, hml, hown, hlk, hT, hR, hK, hC, hJ⟩ := id S
  obtain ⟨⟨hcd, hini, hmh, hpd, hmx⟩, hins⟩ := hm
  subst hA
  have hlen : ∀ sig, parseMethodDescriptor Γ'.1.desc = some sig → n = sig.parameters.length := by
    intro sig h
    rw [h] at hpd
    exact (Option.some.inj hpd).symm
  have hrm : (am_rm Γ'.2.2.2.2).frames + 1 ≤ R.frames ∧ 8 + (Γ'.2.2.1 + 11) + (am_rm Γ'.2.2.2.2).locals ≤ R.locals := by
    refine ⟨Nat.le_trans hr hR.1, ?_⟩
    have h2 := hR.2
    show 8 + (Γ'.2.2.1 + 11) + 100 * Γ'.2.2.2.2 ≤ R.locals
    omega
  have hpv : PreS s H (va_Pc As (am_B X σ)) As := ⟨am_blind, fun U hU hW => ⟨rfl, am_pre hT hK hC hJ hP hS hU hW⟩⟩
  rcases hln with hln | ⟨host, hln⟩
  · exact am_run S hS hl (va_runS (As := As) (rest := st) (Ts := []) (own := Γ.1.cls) ⟨hx, hb, rfl, hown, fun _ h => absurd h List.not_mem_nil⟩ hM ⟨⟨rfl, rfl, hrm.1, hrm.2, am_pay hT hcd, List.mem_singleton.mpr rfl, hT.a hcd rfl, hT.a hini rfl, hmh, hlen, hT.a hln rfl⟩, hT.a hins rfl⟩ hpv rfl hn (hl.1.trans hml.symm) rfl (by show 2 * 0 + _ ≤ 8; omega) d ⟨Nat.zero_le _, Nat.zero_le _⟩) kk
  · exact am_run S hS hl (va_runSN (As := As) (rest := st) (Ts := []) (own := Γ.1.cls) (host := host) ⟨hx, hb, rfl, hown, fun _ h => absurd h List.not_mem_nil⟩ hM ⟨⟨⟨rfl, rfl, hrm.1, hrm.2, am_pay hT hcd, List.mem_singleton.mpr rfl⟩, hT.a hcd rfl, hT.a hini rfl, hmh, hlen, hT.a hln rfl⟩, hT.a hins rfl, trivial⟩ hpv rfl hn (hl.1.trans hml.symm) rfl (by show 2 * 0 + _ ≤ 8; omega) d ⟨Nat.zero_le _, Nat.zero_le _⟩) kk
end
/-! ===== loops: a body over and over, till it leaves ===== -/
section
variable {S : Type} {R : Type}
def am_it (body : S → Option (S ⊕ R)) : Nat → S → Option R
  | 0, _ => none
  | n + 1, s => match body s with
    | none => none
    | some (.inl s') => am_it body n s'
    | some (.inr r) => some r
theorem am_it_mono {body : S → Option (S ⊕ R)} {n : Nat} {s : S} {r : R} (h : am_it body n s = some r) (m : Nat) : am_it body (n + m) s = some r := by
  induction n generalizing s with
  | zero => cases h
  | succ n ih =>
    have e : n + 1 + m = (n + m) + 1 := by omega
    rw [e]
    unfold am_it at h ⊢
    cases hb : body s with
    | none => rw [hb] at h; cases h
    | some o =>
      rw [hb] at h
      cases o with
      | inl s' => exact ih h
      | inr r' => exact h
theorem am_it_one {body : S → Option (S ⊕ R)} {n m : Nat} {s : S} {r r' : R} (h : am_it body n s = some r) (h' : am_it body m s = some r') : r = r' := by
  have a := am_it_mono h m
  have b := am_it_mono h' n
  rw [Nat.add_comm] at b
  exact Option.some.inj (a.symm.trans b)
/-- the loop's end: no fuel stands in it -/
noncomputable def am_loop (body : S → Option (S ⊕ R)) (s : S) : Option R :=
  (Classical.propDecidable (∃ r, ∃ n, am_it body n s = some r)).byCases (fun h => some (Classical.choose h)) (fun _ => none)
theorem am_loop_some {body : S → Option (S ⊕ R)} {s : S} {r : R} : am_loop body s = some r ↔ ∃ n, am_it body n s = some r := by
  unfold am_loop
  cases Classical.propDecidable (∃ r, ∃ n, am_it body n s = some r) with
  | isTrue h =>
    show some (Classical.choose h) = some r ↔ _
    obtain ⟨n, hn⟩ := Classical.choose_spec h
    constructor
    · intro e
      cases e
      exact ⟨n, hn⟩
    · intro ⟨m, hm⟩
      rw [am_it_one hn hm]
  | isFalse h =>
    show (none : Option R) = some r ↔ _
    constructor
    · intro e; cases e
    · intro e; exact absurd ⟨r, e⟩ h
theorem am_loop_eq (body : S → Option (S ⊕ R)) (s : S) : am_loop body s = match body s with
    | none => none
    | some (.inl s') => am_loop body s'
    | some (.inr r) => some r := by
  apply Option.ext
  intro r
  show am_loop body s = some r ↔ _
  rw [am_loop_some]
  cases hb : body s with
  | none =>
    constructor
    · intro ⟨n, hn⟩
      cases n with
      | zero => cases hn
      | succ n => unfold am_it at hn; rw [hb] at hn; cases hn
    · intro e; cases e
  | some o =>
    cases o with
    | inl s' =>
      show _ ↔ am_loop body s' = some r
      rw [am_loop_some]
      constructor
      · intro ⟨n, hn⟩
        cases n with
        | zero => cases hn
        | succ n => unfold am_it at hn; rw [hb] at hn; exact ⟨n, hn⟩
      · intro ⟨n, hn⟩
        exact ⟨n + 1, by unfold am_it; rw [hb]; exact hn⟩
    | inr r' =>
      constructor
      · intro ⟨n, hn⟩
        cases n with
        | zero => cases hn
        | succ n => unfold am_it at hn; rw [hb] at hn; exact hn
      · intro e
        exact ⟨1, by unfold am_it; rw [hb]; exact e⟩
/-- what holds at a loop's head, if each turn leads there from the next one or from its end -/
theorem am_loop_ind {body : S → Option (S ⊕ R)} {P : S → Prop} {K : R → Prop} (h : ∀ s o, body s = some o → (∀ s', o = .inl s' → P s') → (∀ r, o = .inr r → K r) → P s) {s : S} {r : R} (hf : am_loop body s = some r) (hk : K r) : P s := by
  obtain ⟨n, hn⟩ := am_loop_some.mp hf
  clear hf
  induction n generalizing s with
  | zero => cases hn
  | succ n ih =>
    unfold am_it at hn
    cases hb : body s with
    | none => rw [hb] at hn; cases hn
    | some o =>
      rw [hb] at hn
      refine h s o hb (fun s' e => ?_) (fun r' e => ?_)
      · subst e; exact ih hn
      · subst e; cases hn; exact hk
end
theorem am_bd {α β : Type} {a : Option α} {f : α → Option β} {o : β} (hf : a.bind f = some o) : ∃ x, a = some x ∧ f x = some o := by
  cases a with
  | none => cases hf
  | some x => exact ⟨x, rfl, hf⟩
theorem am_ifT {α : Type} {c : Prop} [Decidable c] {a b : Option α} {o : α} (h : c) (hf : (if c then a else b) = some o) : a = some o := by rw [if_pos h] at hf; exact hf
theorem am_ifF {α : Type} {c : Prop} [Decidable c] {a b : Option α} {o : α} (h : ¬ c) (hf : (if c then a else b) = some o) : b = some o := by rw [if_neg h] at hf; exact hf
/-- a reference to a place of n: no null, and it is there -/
def am_rr (n : Nat) (r : Option Nat) : Option Nat := r.bind fun a => if a < n then some a else none
theorem am_rr_in {n a : Nat} {r : Option Nat} (h : am_rr n r = some a) : r = some a ∧ a < n := by
  cases r with
  | none => cases h
  | some b =>
    by_cases hb : b < n
    · have h2 := am_ifT hb (show (if b < n then some b else none) = some a from h)
      cases h2; exact ⟨rfl, hb⟩
    · have h2 := am_ifF hb (show (if b < n then some b else none) = some a from h)
      cases h2
theorem am_ix_lt {n j : Nat} {x : Int32} (h : am_ix n x = some j) : j < n := by
  obtain ⟨h1, h2⟩ := am_ix_in h
  unfold vp_in at h1
  omega
