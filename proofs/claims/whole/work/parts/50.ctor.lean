/-! ===== constructors: a world that grows: the cells in hand ahead, those that are done behind ===== -/
/-- the array classes of objects can be made -/
def am_AO (U : State) : Prop := va_AO RX8 U ∧ va_AO RX3 U ∧ va_AO RX10 U
theorem am_AO.mv {u U : State} (hvm : u.vm.Alike U.vm) (h : am_AO u) : am_AO U := ⟨h.1.moved hvm, h.2.1.moved hvm, h.2.2.moved hvm⟩
/-- the surroundings: launch, class numbers and slots, array classes -/
abbrev am_Y : Type := Launch × va_G × List (ClassId × FieldType)
def am_NQ (D : va_G) (A : Nat → Prop) (Q : va_W → Prop) : Array Value → State → Outcome → State → Prop := fun _ st o t => (o = .returned none ∧ ∃ ws, Q ws ∧ va_P D vwCl ws t.heap ∧ va_D A ws) ∧ va_F A st t
def am_NS (Y : am_Y) (Γ : am_M) (mc ms : Nat) (p : Program) (R : Room) (s : State) (m : MethodId) (meth : Method) (c : Code) : Prop :=
  p.tables.exec = Jvm.exec ∧ c.code = Γ.2.1 ∧ meth.sig.returnType = none ∧ c.maxLocals = Γ.2.2.1 ∧ s.vm.findClass Γ.1.cls = some m.cls ∧ meth.locks = false ∧ am_T s ∧ (Γ.2.2.2.2 ≤ R.frames ∧ 100 * Γ.2.2.2.2 ≤ R.locals) ∧ va_K Y.2.1 vwCl Y.2.2 s ∧ meth.name = "<init>" ∧ (mc ≤ R.cells ∧ ms ≤ R.slots) ∧ am_AO s
def am_N (Y : am_Y) (Γ : am_M) (mc ms : Nat) (Q : va_W → Prop) (k n pc : Nat) (lv : List (Nat × Value)) (st : List Value) (f r : va_W) : Prop :=
  ∀ (p : Program) (e : Env) (R : Room) (s : State) (m : MethodId) (args : Array Value) (below : List Frame) (meth : Method) (c : Code), am_NS Y Γ mc ms p R s m meth c → ∀ (A : Nat → Prop), (∀ q, s.heap.size ≤ q → A q) →
  ∀ (H : Heap) (locs : List Loc) (ls : Array Slot), va_P Y.2.1 vwCl (f ++ r) H → va_D A (f ++ r) → va_S A s.heap H locs → lv_has ls Γ.2.2.1 lv →
    W p Y.1 e R s m args below meth c H locs k n (MQ below (am_NQ Y.2.1 A Q) args s mc ms A) (F0 m pc ls st)
def am_NB (Y : am_Y) (h0 : Nat) (e0 : va_E) (sz : Nat) (U : State) : Prop := U.heap.size = sz ∧ am_T U ∧ va_K Y.2.1 vwCl Y.2.2 U ∧ va_P Y.2.1 vwCl [(h0, e0)] U.heap ∧ am_AO U
def am_nrm (d mc ms : Nat) : Room := { frames := d, cells := mc, slots := ms, locals := 100 * d }
def am_NC (Y : am_Y) (Γ : am_M) (mc ms h0 : Nat) (e0 : va_E) (Q : va_W → Prop) : Prop :=
  ∀ sz : Nat, Met Y.1 Γ.1 [.code Γ.1 Γ.2.1 Γ.2.2.1 none] (am_nrm Γ.2.2.2.2 mc ms) (va_Pc [.ref h0] (am_NB Y h0 e0 sz)) (am_NQ Y.2.1 (va_A [(h0, e0)] sz) Q) mc ms (va_A [(h0, e0)] sz)
theorem am_nblind {Y : am_Y} {h0 sz : Nat} {e0 : va_E} {As : List Value} : FrameBlind (va_Pc As (am_NB Y h0 e0 sz)) := by
  intro a U g mk ⟨h0, h1, h2, h3, h4, h5⟩
  exact ⟨h0, h1, h2.warm (U := U.calling g mk a) (State.WarmedH.refl U), va_K.moved (u := U) (U := U.calling g mk a) (Vm.Alike.refl U.vm) h3, h4, h5.mv (u := U) (U := U.calling g mk a) (Vm.Alike.refl U.vm)⟩
theorem am_ofN {Y : am_Y} {Γ : am_M} {mc ms h0 : Nat} {e0 : va_E} {Q : va_W → Prop} (hy : plainName Γ.1.cls = true) (hi : Γ.1.name = "<init>") (hn : 1 ≤ Γ.2.2.1) (k : am_N Y Γ mc ms Q 0 0 0 [(0, .ref h0)] [] [(h0, e0)] []) : am_NC Y Γ mc ms h0 e0 Q := by
  intro sz
  refine Met.ofW (cc := Γ.2.1) (maxL := Γ.2.2.1) (ret := none) hy rfl ?_
  intro p e s m args below meth c s₁ B hml hv
  obtain ⟨rfl, hsz, hT, hK, hP, hO⟩ := hv
  subst hsz
  rw [lg_entry_eq]
  have h1 := lv_entry [Value.ref h0] (n := Γ.2.2.1) hn
  have hin : meth.name = "<init>" := by rw [(name_of_methodNamed B.named B.method).1, hi]
  refine k p e _ s m _ below meth c ⟨B.exec, B.bytes, B.returns, hml, findClass_of_methodNamed B.named, B.notSynchronized, hT, ⟨Nat.le_refl _, Nat.le_refl _⟩, hK, hin, ⟨Nat.le_refl _, Nat.le_refl _⟩, hO⟩ (va_A [(h0, e0)] s.heap.size) (fun q h => Or.inr h) s.heap [] _ hP ?_ va_S.rf h1
  refine ⟨fun i j p q h1 h2 _ => ?_, fun i p h => Or.inl ⟨i, p.2, h⟩⟩
  have a1 := (List.getElem?_eq_some_iff.mp h1).1
  have a2 := (List.getElem?_eq_some_iff.mp h2).1
  simp at a1 a2
  omega
-- cells by membership
theorem am_Pmem {D : va_G} {ws ws' : va_W} {H : Heap} (h : va_P D vwCl ws H) (hs : ∀ q ∈ ws', q ∈ ws) : va_P D vwCl ws' H := by
  intro k q hq
  obtain ⟨i, hi⟩ := List.getElem?_of_mem (hs q (List.mem_of_getElem? hq))
  exact h i q hi
theorem am_DD {A : Nat → Prop} {ws : va_W} : va_D A ws ↔ (ws.map Prod.fst).Nodup ∧ ∀ p ∈ ws, A p.1 := by
  constructor
  · intro ⟨h1, h2⟩
    refine ⟨?_, fun p hp => ?_⟩
    · show List.Pairwise (· ≠ ·) _
      rw [List.pairwise_iff_getElem]
      intro i j hi hj hij he
      rw [List.length_map] at hi hj
      rw [List.getElem_map, List.getElem_map] at he
      have := h1 i j _ _ (List.getElem?_eq_getElem hi) (List.getElem?_eq_getElem hj) he
      omega
    · obtain ⟨i, hi⟩ := List.getElem?_of_mem hp
      exact h2 i p hi
  · intro ⟨h1, h2⟩
    refine ⟨fun i j p q hi hj he => ?_, fun k q hq => h2 q (List.mem_of_getElem? hq)⟩
    have h1 : List.Pairwise (· ≠ ·) _ := h1
    rw [List.pairwise_iff_getElem] at h1
    obtain ⟨li, ei⟩ := List.getElem?_eq_some_iff.mp hi
    obtain ⟨lj, ej⟩ := List.getElem?_eq_some_iff.mp hj
    rcases Nat.lt_trichotomy i j with h | h | h
    · exact absurd (by rw [List.getElem_map, List.getElem_map, ei, ej]; exact he) (h1 i j (by rw [List.length_map]; exact li) (by rw [List.length_map]; exact lj) h)
    · exact h
    · exact absurd (by rw [List.getElem_map, List.getElem_map, ei, ej]; exact he.symm) (h1 j i (by rw [List.length_map]; exact lj) (by rw [List.length_map]; exact li) h)
theorem am_rot {A : Nat → Prop} {f r : va_W} {x : Nat × va_E} (h : va_D A ((f ++ r) ++ [x])) : va_D A ((x :: f) ++ r) := by
  rw [am_DD] at h ⊢
  refine ⟨?_, fun p hp => h.2 p ?_⟩
  · have h1 := h.1
    rw [List.map_append, List.nodup_append] at h1
    show (x.1 :: (f ++ r).map Prod.fst).Nodup
    rw [List.nodup_cons]
    refine ⟨fun z => h1.2.2 x.1 z x.1 (by simp) rfl, h1.1⟩
  · rcases List.mem_cons.mp (show p ∈ x :: (f ++ r) from hp) with z | z
    · rw [z]; exact List.mem_append_right _ (List.mem_singleton.mpr rfl)
    · exact List.mem_append_left _ z
theorem am_prot {D : va_G} {H : Heap} {f r : va_W} {x : Nat × va_E} (h : va_P D vwCl ((f ++ r) ++ [x]) H) : va_P D vwCl ((x :: f) ++ r) H := by
  refine am_Pmem h (fun p hp => ?_)
  rcases List.mem_cons.mp (show p ∈ x :: (f ++ r) from hp) with z | z
  · rw [z]; exact List.mem_append_right _ (List.mem_singleton.mpr rfl)
  · exact List.mem_append_left _ z
/-- a field of a constructor's own class -/
def am_fp (own : String) (idx ci j : Nat) (fin : Bool) (ty : FieldType) : Prop := ∃ (T : u_T) (N : Nat) (ty0 : Nat → FieldType), am_kd ci own T N ty0 ∧ j < N ∧ Cond.fieldLink own idx (T j).1 (T j).2.1 (T j).2.2.1 ∈ lw_tbl ∧ (T j).2.2.2 = fin ∧ (T j).1 = own ∧ ty0 j = ty
theorem am_obw : Cond.instanceMethod Lib.objectInit ∈ lw_tbl ∧ Cond.code Lib.objectInit ⟨#[0xb1]⟩ 1 none ∈ lw_tbl := by decide +kernel
section
variable {Y : am_Y} {Γ : am_M} {mc ms : Nat} {Q : va_W → Prop} {k n pc : Nat} {lv : List (Nat × Value)} {st : List Value} {f r : va_W}
theorem n_aload_n {k0 : Fin 4} {i x : Nat} (q : Nat) (hq : lv[q]? = some (i, .ref x)) (d : decode Γ.2.1 pc = .ok (.aload_n k0, 1)) (hi : (k0 : Nat) = i) (kk : am_N Y Γ mc ms Q k n (pc + 1) lv (.ref x :: st) f r) : am_N Y Γ mc ms Q k n pc lv st f r := by
  intro p e R s m args below meth c S A hA H locs ls hP hD hS hl
  obtain ⟨hx, hb, -⟩ := id S
  exact lv_aload_n hx hb d hi (lv_at hl q hq) (kk p e R s m args below meth c S A hA H locs ls hP hD hS hl)
theorem n_iload_n {k0 : Fin 4} {i : Nat} {x : Int32} (q : Nat) (hq : lv[q]? = some (i, .int x)) (d : decode Γ.2.1 pc = .ok (.iload_n k0, 1)) (hi : (k0 : Nat) = i) (kk : am_N Y Γ mc ms Q k n (pc + 1) lv (.int x :: st) f r) : am_N Y Γ mc ms Q k n pc lv st f r := by
  intro p e R s m args below meth c S A hA H locs ls hP hD hS hl
  obtain ⟨hx, hb, -⟩ := id S
  exact lv_iload_n hx hb d hi (lv_at hl q hq) (kk p e R s m args below meth c S A hA H locs ls hP hD hS hl)
theorem n_iconst {z : Int} {v : Int32} (d : decode Γ.2.1 pc = .ok (.iconst z, 1)) (hv : Int32.ofInt z = v) (kk : am_N Y Γ mc ms Q k n (pc + 1) lv (.int v :: st) f r) : am_N Y Γ mc ms Q k n pc lv st f r := by
  intro p e R s m args below meth c S A hA H locs ls hP hD hS hl
  obtain ⟨hx, hb, -⟩ := id S
  exact lv_iconst hx hb d hv (kk p e R s m args below meth c S A hA H locs ls hP hD hS hl)
theorem n_bipush {z : Int} {v : Int32} (d : decode Γ.2.1 pc = .ok (.bipush z, 2)) (hv : (Int8.ofInt z).toInt32 = v) (kk : am_N Y Γ mc ms Q k n (pc + 2) lv (.int v :: st) f r) : am_N Y Γ mc ms Q k n pc lv st f r := by
  intro p e R s m args below meth c S A hA H locs ls hP hD hS hl
  obtain ⟨hx, hb, -⟩ := id S
  exact lv_bipush hx hb d hv (kk p e R s m args below meth c S A hA H locs ls hP hD hS hl)
theorem n_sipush {z : Int} {v : Int32} (d : decode Γ.2.1 pc = .ok (.sipush z, 3)) (hv : (Int16.ofInt z).toInt32 = v) (kk : am_N Y Γ mc ms Q k n (pc + 3) lv (.int v :: st) f r) : am_N Y Γ mc ms Q k n pc lv st f r := by
  intro p e R s m args below meth c S A hA H locs ls hP hD hS hl
  obtain ⟨hx, hb, -⟩ := id S
  exact lv_sipush hx hb d hv (kk p e R s m args below meth c S A hA H locs ls hP hD hS hl)
theorem n_lconst {z : Fin 2} {v : Int64} (d : decode Γ.2.1 pc = .ok (.lconst z, 1)) (hv : Int64.ofNat (z : Nat) = v) (kk : am_N Y Γ mc ms Q k n (pc + 1) lv (.long v :: st) f r) : am_N Y Γ mc ms Q k n pc lv st f r := by
  intro p e R s m args below meth c S A hA H locs ls hP hD hS hl
  obtain ⟨hx, hb, -⟩ := id S
  exact lv_lconst hx hb d hv (kk p e R s m args below meth c S A hA H locs ls hP hD hS hl)
theorem n_dup {v : Value} (d : decode Γ.2.1 pc = .ok (.dup, 1)) (hv : v.category = 1) (kk : am_N Y Γ mc ms Q k n (pc + 1) lv (v :: v :: st) f r) : am_N Y Γ mc ms Q k n pc lv (v :: st) f r := by
  intro p e R s m args below meth c S A hA H locs ls hP hD hS hl
  obtain ⟨hx, hb, -⟩ := id S
  exact lv_dup hx hb d hv (kk p e R s m args below meth c S A hA H locs ls hP hD hS hl)
theorem n_istore_n {k0 : Fin 4} {i : Nat} {x : Int32} (lv' : List (Nat × Value)) (d : decode Γ.2.1 pc = .ok (.istore_n k0, 1)) (hi : (k0 : Nat) = i) (hn : i < Γ.2.2.1) (hl' : (i, Value.int x) :: lv.filter (fun q => !(q.1 == i) && !(q.1 + 1 == i && q.2.category == 2)) = lv') (kk : am_N Y Γ mc ms Q k n (pc + 1) lv' st f r) : am_N Y Γ mc ms Q k n pc lv (.int x :: st) f r := by
  intro p e R s m args below meth c S A hA H locs ls hP hD hS hl
  obtain ⟨hx, hb, -⟩ := id S
  exact lv_istore_n hx hb d hi hl hn hl' (fun ls' h' => kk p e R s m args below meth c S A hA H locs ls' hP hD hS h')
theorem n_iinc {i : Nat} {z : Int} {x v : Int32} (q : Nat) (lv' : List (Nat × Value)) (d : decode Γ.2.1 pc = .ok (.iinc i z, 3)) (hq : lv[q]? = some (i, .int x)) (hv : x + Int32.ofInt z = v) (hn : i < Γ.2.2.1) (hl' : (i, Value.int v) :: lv.filter (fun q => !(q.1 == i) && !(q.1 + 1 == i && q.2.category == 2)) = lv') (kk : am_N Y Γ mc ms Q k n (pc + 3) lv' st f r) : am_N Y Γ mc ms Q k n pc lv st f r := by
  intro p e R s m args below meth c S A hA H locs ls hP hD hS hl
  obtain ⟨hx, hb, -⟩ := id S
  exact lv_iinc hx hb d hl hq hv hn hl' (fun ls' h' => kk p e R s m args below meth c S A hA H locs ls' hP hD hS h')
theorem n_goto {off : Int} (tgt : Nat) (d : decode Γ.2.1 pc = .ok (.goto off, 3)) (ht : (pc : Int) + off = (tgt : Int)) (kk : am_N Y Γ mc ms Q k n tgt lv st f r) : am_N Y Γ mc ms Q k n pc lv st f r := by
  intro p e R s m args below meth c S A hA H locs ls hP hD hS hl
  obtain ⟨hx, hb, -⟩ := id S
  exact lv_goto hx hb d ht (kk p e R s m args below meth c S A hA H locs ls hP hD hS hl)
theorem n_geT {x y : Int32} {off : Int} (tgt : Nat) (h : y ≤ x) (d : decode Γ.2.1 pc = .ok (.if_icmp .ge off, 3)) (ht : (pc : Int) + off = (tgt : Int)) (kk : am_N Y Γ mc ms Q k n tgt lv st f r) : am_N Y Γ mc ms Q k n pc lv (.int y :: .int x :: st) f r := by
  intro p e R s m args below meth c S A hA H locs ls hP hD hS hl
  obtain ⟨hx, hb, -⟩ := id S
  exact lv_icmp_ge hx hb d ht (fun _ => kk p e R s m args below meth c S A hA H locs ls hP hD hS hl) (fun q => absurd h (by first | exact q | simpa using q))
theorem n_geF {x y : Int32} {off : Int} (tgt : Nat) (h : ¬ y ≤ x) (d : decode Γ.2.1 pc = .ok (.if_icmp .ge off, 3)) (ht : (pc : Int) + off = (tgt : Int)) (kk : am_N Y Γ mc ms Q k n (pc + 3) lv st f r) : am_N Y Γ mc ms Q k n pc lv (.int y :: .int x :: st) f r := by
  intro p e R s m args below meth c S A hA H locs ls hP hD hS hl
  obtain ⟨hx, hb, -⟩ := id S
  exact lv_icmp_ge hx hb d ht (fun q => absurd (show y ≤ x by first | exact q | simpa using q) h) (fun _ => kk p e R s m args below meth c S A hA H locs ls hP hD hS hl)
theorem n_obj {a idx : Nat} (hln : Cond.methodLink Γ.1.cls idx Lib.objectInit ∈ lw_tbl) (hd : 1 ≤ Γ.2.2.2.2) (hst : (st.map fun v => v.category).sum ≤ 8) (d : decode Γ.2.1 pc = .ok (.invokespecial idx, 3)) (kk : am_N Y Γ mc ms Q k n (pc + 3) lv st f r) : am_N Y Γ mc ms Q k n pc lv (.ref a :: st) f r := by
  intro p e R s m args below meth c S A hA H locs ls hP hD hS hl
  obtain ⟨hx, hb, -, hml, hown, -, hT, ⟨hR1, hR2⟩, -⟩ := id S
  exact W.objInit hx hb hown (hT.a hln rfl) (hT.a am_obw.1 rfl) (hT.a am_obw.2 rfl) rfl (hl.1.trans hml.symm) rfl d (by omega) (by show 2 * 0 + _ + 12 ≤ _; omega) (kk p e R s m args below meth c S A hA H locs ls hP hD hS hl)
theorem n_new {ci N idx : Nat} {C : String} {T : u_T} {ty : Nat → FieldType} {fs : List Value} (hd : am_kd ci C T N ty) (hcl : Cond.classLink Γ.1.cls idx C ∈ lw_tbl) (hin : Cond.instantiable C N ∈ lw_tbl) (hini : Cond.initialized C ∈ lw_tbl) (hfs : (List.range N).map (fun j => defaultValue (ty j)) = fs) (hk : k + 1 ≤ mc) (hn : n + N ≤ ms) (d : decode Γ.2.1 pc = .ok (.new idx, 3)) (kk : ∀ q : Nat, am_N Y Γ mc ms Q (k + 1) (n + N) (pc + 3) lv (.ref q :: st) ((q, .inr (ci, fs)) :: f) r) : am_N Y Γ mc ms Q k n pc lv st f r := by
  intro p e R s m args below meth c S A hA H locs ls hP hD hS hl
  obtain ⟨hx, hb, -, hml, hown, -, hT, -, hK, -, ⟨hC, hZ⟩, hO⟩ := id S
  refine va_new (ci := ci) (fs := fs) (C := C) (T := T) (N := N) hx hb (Ts := u_ws C T N) (fun w hw => hT.a (hd.2.2.2.1 w hw).1 (hd.2.2.2.1 w hw).2) (fun _ h => h) ty hd.2.2.2.2.1 hown (hT.a hcl rfl) (hT.a hin rfl) (hT.a hini rfl) hK hP hD hS hA hd.2.1 (fun j hj => ?_) (by omega) (by omega) d (fun q H1 hP1 hD1 hS1 => kk q p e R s m args below meth c S A hA H1 locs ls (am_prot hP1) (am_rot hD1) hS1 hl)
  subst hfs
  unfold vp_V
  rw [List.getD_eq_getElem?_getD, List.getElem?_map, List.getElem?_range hj]
  rfl
theorem n_newa {atype : ArrayType} {ty : FieldType} {z : Int32} {N' t0 : Nat} {cI : ClassId} {a0 : vp_A} (ht0 : Y.2.2[t0]? = some (cI, ty)) (hu : ∀ (s : State) (cA cB : ClassId), va_RA s cA ty → va_RA s cB ty → cA = cB) (harr : Cond.arrayClass (newarray.typeOf atype) ∈ lw_tbl) (hty : newarray.typeOf atype = ty) (ha : ∀ cA : ClassId, vp_cell cA a0 = arrV cA N' (fun _ => defaultValue ty)) (hn0 : ¬ z < 0) (hN : z.toNatClampNeg = N') (hbytes : N' * componentBytes ty ≤ 536870912) (hk : k + 1 ≤ mc) (hn : n + N' ≤ ms) (d : decode Γ.2.1 pc = .ok (.newarray atype, 2)) (kk : ∀ q : Nat, am_N Y Γ mc ms Q (k + 1) (n + N') (pc + 2) lv (.ref q :: st) ((q, .inl (cI, a0)) :: f) r) : am_N Y Γ mc ms Q k n pc lv (.int z :: st) f r := by
  intro p e R s m args below meth c S A hA H locs ls hP hD hS hl
  obtain ⟨hx, hb, -, hml, hown, -, hT, -, hK, -, ⟨hC, hZ⟩, hO⟩ := id S
  refine va_newa hx hb (hT.a harr rfl) hty hK hP hD hS hA ha hn0 hN hbytes (by omega) (by omega) d (fun q cA H1 hK1 hP1 hD1 hS1 => ?_)
  have e1 := (hK.2 t0 _ ht0).2
  have e2 := (hK1.2 Y.2.2.length (cA, ty) (by rw [List.getElem?_append_right (Nat.le_refl _), Nat.sub_self]; rfl)).2
  have e3 : cA = cI := hu s cA cI e2 e1
  subst e3
  exact kk q p e R s m args below meth c S A hA H1 locs ls (am_prot hP1) (am_rot hD1) hS1 hl
theorem n_newq {C : String} {idx : Nat} {z : Int32} {N' t0 : Nat} {cI : ClassId} (ht0 : Y.2.2[t0]? = some (cI, .object C)) (hcl : Cond.classLink Γ.1.cls idx C ∈ lw_tbl) (hov : ∀ U, am_AO U → va_AO C U) (hn0 : ¬ z < 0) (hN : z.toNatClampNeg = N') (hbytes : N' * 4 ≤ 536870912) (hk : k + 1 ≤ mc) (hn : n + N' ≤ ms) (d : decode Γ.2.1 pc = .ok (.anewarray idx, 3)) (kk : ∀ q : Nat, am_N Y Γ mc ms Q (k + 1) (n + N') (pc + 3) lv (.ref q :: st) ((q, .inl (cI, N', .inr (.inr (.inr (.inr (fun _ => none)))))) :: f) r) : am_N Y Γ mc ms Q k n pc lv (.int z :: st) f r := by
  intro p e R s m args below meth c S A hA H locs ls hP hD hS hl
  obtain ⟨hx, hb, -, hml, hown, -, hT, -, hK, -, ⟨hC, hZ⟩, hO⟩ := id S
  refine va_newq hx hb hown (hT.a hcl rfl) (hov s hO) hK hP hD hS hA hn0 hN hbytes (by omega) (by omega) d (fun q cA H1 hK1 hP1 hD1 hS1 => ?_)
  have e1 := (hK.2 t0 _ ht0).2
  have e2 := (hK1.2 Y.2.2.length (cA, .object C) (by rw [List.getElem?_append_right (Nat.le_refl _), Nat.sub_self]; rfl)).2
  obtain ⟨k1, c1, -, -, -, e1⟩ := e1
  obtain ⟨k2, c2, -, -, -, e2⟩ := e2
  have e3 : cA = cI := Option.some.inj (e2.symm.trans e1)
  subst e3
  exact kk q p e R s m args below meth c S A hA H1 locs ls (am_prot hP1) (am_rot hD1) hS1 hl
theorem n_put {i a ci j idx : Nat} {fs : List Value} {fin : Bool} {ty : FieldType} {v : Value} {f' : va_W} (hf : f[i]? = some (a, .inr (ci, fs))) (h : am_fp Γ.1.cls idx ci j fin ty) (hn : narrow ty v = v) (hfit : fits ty v = true) (hj : j < fs.length) (hs : f.set i (a, .inr (ci, fs.set j v)) = f') (d : decode Γ.2.1 pc = .ok (.putfield idx, 3)) (kk : am_N Y Γ mc ms Q k n (pc + 3) lv st f' r) : am_N Y Γ mc ms Q k n pc lv (v :: .ref a :: st) f r := by
  intro p e R s m args below meth c S A hA H locs ls hP hD hS hl
  obtain ⟨hx, hb, -, hml, hown, -, hT, -, hK, hin, -⟩ := id S
  obtain ⟨T, N, ty0, hd, h2, h3, h4, h5, h6⟩ := h
  have hi := (List.getElem?_eq_some_iff.mp hf).1
  have he : (f ++ r)[i]? = some (a, .inr (ci, fs)) := by rw [List.getElem?_append_left hi]; exact hf
  have hset : ∀ y, (f ++ r).set i y = f.set i y ++ r := fun y => List.set_append_left _ _ hi
  subst hs
  have hp : parseFieldDescriptor (T j).2.2.1 = some ty := by rw [hd.2.2.2.2.1 j h2, h6]
  cases fin with
  | true => exact va_putF (ci := ci) (v := v) (ty := ty) (T := T) (N := N) hx hb (Ts := u_ws Γ.1.cls T N) (fun w hw => hT.a (hd.2.2.2.1 w hw).1 (hd.2.2.2.1 w hw).2) (fun _ h => h) ty0 hd.2.2.2.2.1 hd.2.2.2.2.2 hown hK hP hD hS i he hd.2.1 j h2 (hT.a h3 rfl) (fun _ h => h) h4 hin h5 hp hn hfit hj d (fun H1 locs1 hP1 hD1 hS1 => kk p e R s m args below meth c S A hA H1 locs1 ls (by rw [hset] at hP1; exact hP1) (by rw [hset] at hD1; exact hD1) hS1 hl)
  | false => exact va_put (ci := ci) (v := v) (ty := ty) (T := T) (N := N) hx hb (Ts := u_ws Γ.1.cls T N) (fun w hw => hT.a (hd.2.2.2.1 w hw).1 (hd.2.2.2.1 w hw).2) (fun _ h => h) ty0 hd.2.2.2.2.1 hd.2.2.2.2.2 hown hK hP hD hS i he hd.2.1 j h2 (hT.a h3 rfl) (fun _ h => h) h4 hp hn hfit hj d (fun H1 locs1 hP1 hD1 hS1 => kk p e R s m args below meth c S A hA H1 locs1 ls (by rw [hset] at hP1; exact hP1) (by rw [hset] at hD1; exact hD1) hS1 hl)
theorem n_get {i a ci j idx : Nat} {fs : List Value} {fin : Bool} {ty : FieldType} {v : Value} (hf : f[i]? = some (a, .inr (ci, fs))) (h : am_fp Γ.1.cls idx ci j fin ty) (hv : fs[j]? = some v) (d : decode Γ.2.1 pc = .ok (.getfield idx, 3)) (kk : am_N Y Γ mc ms Q k n (pc + 3) lv (v :: st) f r) : am_N Y Γ mc ms Q k n pc lv (.ref a :: st) f r := by
  intro p e R s m args below meth c S A hA H locs ls hP hD hS hl
  obtain ⟨hx, hb, -, hml, hown, -, hT, -, hK, hin, -⟩ := id S
  obtain ⟨T, N, ty0, hd, h2, h3, h4, h5, h6⟩ := h
  have hi := (List.getElem?_eq_some_iff.mp hf).1
  have he : (f ++ r)[i]? = some (a, .inr (ci, fs)) := by rw [List.getElem?_append_left hi]; exact hf
  exact va_get hx hb (Ts := u_ws Γ.1.cls T N) (fun w hw => hT.a (hd.2.2.2.1 w hw).1 (hd.2.2.2.1 w hw).2) (fun _ h => h) hown hK hP i he hd.2.1 j h2 (hT.a h3 rfl) (fun _ h => h) hv d (kk p e R s m args below meth c S A hA H locs ls hP hD hS hl)
theorem n_iast {i a N' t0 : Nat} {cI : ClassId} {g : Nat → Int32} {z x : Int32} {f' : va_W} (hf : f[i]? = some (a, .inl (cI, N', .inl g))) (ht0 : Y.2.2[t0]? = some (cI, .int)) (hz : vp_in z N') (hs : f.set i (a, .inl (cI, N', .inl (upd g z.toNatClampNeg x))) = f') (d : decode Γ.2.1 pc = .ok (.iastore, 1)) (kk : am_N Y Γ mc ms Q k n (pc + 1) lv st f' r) : am_N Y Γ mc ms Q k n pc lv (.int x :: .int z :: .ref a :: st) f r := by
  intro p e R s m args below meth c S A hA H locs ls hP hD hS hl
  obtain ⟨hx, hb, -, hml, hown, -, hT, -, hK, hin, -⟩ := id S
  have hi := (List.getElem?_eq_some_iff.mp hf).1
  have he : (f ++ r)[i]? = some (a, .inl (cI, N', .inl g)) := by rw [List.getElem?_append_left hi]; exact hf
  have hset : ∀ y, (f ++ r).set i y = f.set i y ++ r := fun y => List.set_append_left _ _ hi
  subst hs
  exact va_iast hx hb hK hP hD hS i t0 he ht0 hz d (fun H1 locs1 hP1 hD1 hS1 => kk p e R s m args below meth c S A hA H1 locs1 ls (by rw [hset] at hP1; exact hP1) (by rw [hset] at hD1; exact hD1) hS1 hl)
theorem n_aast {i a v N' t0 ci : Nat} {vs : List Value} {rc : vw_C} {cI : ClassId} {g : Nat → Option Nat} {z : Int32} {f' : va_W} (hf : f[i]? = some (a, .inl (cI, N', .inr (.inr (.inr (.inr g)))))) (ht0 : Y.2.2[t0]? = some (cI, .object rc.1)) (hv : (v, .inr (ci, vs)) ∈ f ++ r) (hc : vwCl[ci]? = some rc) (hz : vp_in z N') (hs : f.set i (a, .inl (cI, N', .inr (.inr (.inr (.inr (va_up g z.toNatClampNeg (some v))))))) = f') (d : decode Γ.2.1 pc = .ok (.aastore, 1)) (kk : am_N Y Γ mc ms Q k n (pc + 1) lv st f' r) : am_N Y Γ mc ms Q k n pc lv (.ref v :: .int z :: .ref a :: st) f r := by
  intro p e R s m args below meth c S A hA H locs ls hP hD hS hl
  obtain ⟨hx, hb, -, hml, hown, -, hT, -, hK, hin, -⟩ := id S
  have hi := (List.getElem?_eq_some_iff.mp hf).1
  have he : (f ++ r)[i]? = some (a, .inl (cI, N', .inr (.inr (.inr (.inr g))))) := by rw [List.getElem?_append_left hi]; exact hf
  have hset : ∀ y, (f ++ r).set i y = f.set i y ++ r := fun y => List.set_append_left _ _ hi
  obtain ⟨q2, hq2⟩ := List.getElem?_of_mem hv
  subst hs
  exact va_astq hx hb hK hP hD hS i t0 q2 ci he ht0 hq2 hc hz d (fun H1 locs1 hP1 hD1 hS1 => kk p e R s m args below meth c S A hA H1 locs1 ls (by rw [hset] at hP1; exact hP1) (by rw [hset] at hD1; exact hD1) hS1 hl)
theorem n_ret (d : decode Γ.2.1 pc = .ok (.return_, 1)) (hk : k ≤ mc) (hn : n ≤ ms) (hq : ∃ ws, Q ws ∧ ws.Perm (f ++ r)) : am_N Y Γ mc ms Q k n pc lv [] f r := by
  intro p e R s m args below meth c S A hA H locs ls hP hD hS hl
  obtain ⟨hx, hb, hret, hml, hown, hlk, hT, -, hK, hin, -⟩ := id S
  obtain ⟨ws, hQ, hp⟩ := hq
  refine W.widen (k := mc) (n := ms) hk hn ?_
  refine W.vret hx hb hret (fun t ht hW => ⟨⟨rfl, ws, hQ, ?_, ?_⟩, hS.F ht⟩) hS.2.2 d hlk
  · rw [ht]; exact am_Pmem hP (fun q hq => hp.mem_iff.mp hq)
  · rw [am_DD] at hD ⊢
    exact ⟨((hp.map Prod.fst).nodup_iff).mpr hD.1, fun q hq => hD.2 q (hp.mem_iff.mp hq)⟩
theorem n_init {Γ' : am_M} {mc' ms' a idx : Nat} {e0 : va_E} {Q' : va_W → Prop} {f0 : va_W} (hM : am_NC Y Γ' mc' ms' a e0 Q') (hf : f = (a, e0) :: f0) (hcd : Cond.code Γ'.1 Γ'.2.1 Γ'.2.2.1 none ∈ lw_tbl) (hini : Cond.initialized Γ'.1.cls ∈ lw_tbl) (hmh : Γ'.1.cls ≠ "java/lang/invoke/MethodHandle" ∧ Γ'.1.cls ≠ "java/lang/invoke/VarHandle") (hpd : (parseMethodDescriptor Γ'.1.desc).map (fun d => d.parameters.length) = some 0) (hmx : Γ'.2.2.1 ≤ 81) (hy : Γ'.1.name = "<init>") (hins : Cond.instanceMethod Γ'.1 ∈ lw_tbl) (hln : am_ln Γ.1.cls idx Γ'.1) (hr : Γ'.2.2.2.2 + 1 ≤ Γ.2.2.2.2) (hst : (st.map fun v => v.category).sum ≤ 8) (hk : k + mc' ≤ mc) (hn : n + ms' ≤ ms) (d : decode Γ.2.1 pc = .ok (.invokespecial idx, 3))
    (kk : ∀ w1, Q' w1 → am_N Y Γ mc ms Q (k + mc') (n + ms') (pc + 3) lv st f0 (w1 ++ r)) : am_N Y Γ mc ms Q k n pc lv (.ref a :: st) f r := by
  intro p e R s m args below meth c S A hA H locs ls hP hD hS hl
  obtain ⟨hx, hb, hret, hml, hown, hlk, hT, hR, hK, hin, ⟨hC, hZ⟩, hO⟩ := id S
  subst hf
  have hlen : ∀ sig, parseMethodDescriptor Γ'.1.desc = some sig → 0 = sig.parameters.length := by
    intro sig h
    rw [h] at hpd
    exact (Option.some.inj hpd).symm
  have hrm : (am_nrm Γ'.2.2.2.2 mc' ms').frames + 1 ≤ R.frames ∧ 8 + (Γ'.2.2.1 + 11) + (am_nrm Γ'.2.2.2.2 mc' ms').locals ≤ R.locals := by
    refine ⟨Nat.le_trans hr hR.1, ?_⟩
    have h2 := hR.2
    show 8 + (Γ'.2.2.1 + 11) + 100 * Γ'.2.2.2.2 ≤ R.locals
    omega
  have hP0 : va_P Y.2.1 vwCl [(a, e0)] H := am_Pmem hP (fun q hq => by rw [List.mem_singleton.mp hq]; exact List.mem_cons_self)
  have hpv : PreS s H (va_Pc [.ref a] (am_NB Y a e0 H.size)) [.ref a] := ⟨am_nblind, fun U hU hW => ⟨rfl, by rw [hU], hT.warm hW, va_K.moved hW.alike hK, by rw [hU]; exact hP0, hO.mv hW.alike⟩⟩
  have hpay : ∀ w ∈ [Cond.code Γ'.1 Γ'.2.1 Γ'.2.2.1 none], ∀ (a' : Array Value) (U : State), s.WarmedH U.vm → w.before a' U = true := by
    intro w hw a' U hW
    rw [List.mem_singleton.mp hw]
    exact hT.at hW hcd rfl
  have run : va_Run p Y.1 e R s m args below meth c H locs k n mc' ms' (F0 m pc ls (.ref a :: st)) st (am_NQ Y.2.1 (va_A [(a, e0)] H.size) Q' (Value.ref a :: []).toArray) (va_A [(a, e0)] H.size) := by
    rcases hln with hln | ⟨host, hln⟩
    · exact va_runI (As := []) (rest := st) (Ts := []) (own := Γ.1.cls) ⟨hx, hb, rfl, hown, fun _ h => absurd h List.not_mem_nil⟩ (hM H.size) ⟨⟨rfl, rfl, hrm.1, hrm.2, hpay, List.mem_singleton.mpr rfl, hT.a hcd rfl, hT.a hini rfl, hmh, hlen, hT.a hln rfl⟩, hy, hT.a hins rfl⟩ hpv rfl rfl (hl.1.trans hml.symm) rfl (by show 2 * 0 + _ ≤ 8; omega) d ⟨by omega, by omega⟩
    · exact va_runIN (As := []) (rest := st) (Ts := []) (own := Γ.1.cls) (host := host) ⟨hx, hb, rfl, hown, fun _ h => absurd h List.not_mem_nil⟩ (hM H.size) ⟨⟨⟨rfl, rfl, hrm.1, hrm.2, hpay, List.mem_singleton.mpr rfl⟩, hT.a hcd rfl, hT.a hini rfl, hmh, hlen, hT.a hln rfl⟩, hy, hT.a hins rfl⟩ hpv rfl rfl (hl.1.trans hml.symm) rfl (by show 2 * 0 + _ ≤ 8; omega) d ⟨by omega, by omega⟩
  intro T hTh X
  obtain ⟨v, st₀, t, T', L, g0, X', hL, z1, z2, ⟨⟨hv, w1, hQ1, hP1, hD1⟩, hz, hkp⟩, stp⟩ := run T hTh X
  cases hv
  rw [g0] at hz hkp
  have hA1 : ∀ q, va_A [(a, e0)] H.size q → A q := by
    intro q hq
    rcases hq with ⟨j, e, hj⟩ | hq
    · have h1 := (List.getElem?_eq_some_iff.mp hj).1
      simp at h1
      subst h1
      cases hj
      exact hD.2 0 (a, e0) rfl
    · exact hA q (Nat.le_trans hS.1 hq)
  have hne : ∀ q ∈ f0 ++ r, q.1 < H.size ∧ ¬ va_A [(a, e0)] H.size q.1 := by
    intro q hq
    obtain ⟨i, hi⟩ := List.getElem?_of_mem hq
    have hlt : q.1 < H.size := (hP (i + 1) q hi).lt
    refine ⟨hlt, fun hz => ?_⟩
    rcases hz with ⟨j, e, hj⟩ | hz
    · have h1 := (List.getElem?_eq_some_iff.mp hj).1
      simp at h1
      subst h1
      have h2 : q.1 = a := (congrArg Prod.fst (Option.some.inj hj)).symm
      have := hD.1 (i + 1) 0 q (a, e0) hi rfl h2
      omega
    · omega
  have hP2 : va_P Y.2.1 vwCl (f0 ++ (w1 ++ r)) T'.heap := by
    have h1 : va_P Y.2.1 vwCl (f0 ++ r) T'.heap := by
      intro i q hi
      have h2 := hne q (List.mem_of_getElem? hi)
      exact (hP (i + 1) q hi).kept (by rw [z1]; exact hkp q.1 h2.1 h2.2)
    have h3 : va_P Y.2.1 vwCl w1 T'.heap := by rw [z1]; exact hP1
    refine am_Pmem (h3.app h1) (fun q hq => ?_)
    simp only [List.mem_append] at hq ⊢
    rcases hq with h | h | h
    · exact Or.inr (Or.inl h)
    · exact Or.inl h
    · exact Or.inr (Or.inr h)
  have hD2 : va_D A (f0 ++ (w1 ++ r)) := by
    have h1 := am_DD.mp hD
    have h2 := am_DD.mp hD1
    have h3 : ((f0 ++ r).map Prod.fst).Nodup := (List.nodup_cons.mp (show (a :: (f0 ++ r).map Prod.fst).Nodup from h1.1)).2
    refine am_DD.mpr ⟨?_, fun q hq => ?_⟩
    · have hp : (f0 ++ (w1 ++ r)).Perm (w1 ++ (f0 ++ r)) := by
        rw [← List.append_assoc, ← List.append_assoc]
        exact List.Perm.append_right r List.perm_append_comm
      refine ((hp.map Prod.fst).nodup_iff).mpr ?_
      rw [List.map_append, List.nodup_append]
      refine ⟨h2.1, h3, fun x hx y hy hxy => ?_⟩
      obtain ⟨qx, hqx, ex⟩ := List.mem_map.mp hx
      obtain ⟨qy, hqy, ey⟩ := List.mem_map.mp hy
      exact (hne qy hqy).2 (by rw [ey, ← hxy, ← ex]; exact h2.2 qx hqx)
    · simp only [List.mem_append] at hq
      rcases hq with h | h | h
      · exact h1.2 q (List.mem_cons_of_mem _ (List.mem_append_left _ h))
      · exact hA1 q.1 (h2.2 q h)
      · exact h1.2 q (List.mem_cons_of_mem _ (List.mem_append_right _ h))
  obtain ⟨t2, a1, b1⟩ := kk w1 hQ1 p e R s m args below meth c S A hA T'.heap (locs ++ L) ls hP2 hD2
    ⟨Nat.le_trans hS.1 (by rw [z1]; exact hz), fun q h1 h2 => by rw [z1, hkp q (Nat.lt_of_lt_of_le h1 hS.1) (fun z => h2 (hA1 q z))]; exact hS.2.1 q h1 h2, fun q hq => by
      rcases List.mem_append.mp hq with h | h
      · exact hS.2.2 q h
      · exact hA1 _ (hL q h)⟩ hl T' rfl X'
  exact ⟨t2, stp t2 a1, b1⟩
end
