theorem am_known {s : State} {a : Array Value} (hts : ∀ w ∈ lw_tbl, w.before a s = true) (k : Nat) (q : vw_C) (hq : vwCl[k]? = some q) : ∃ (cC : ClassId) (iS : Nat → Nat), u_Kn s q.1 q.2.1 q.2.2 cC iS := by
  match k, hq with
  | 0, hq => cases hq; exact u_known hts (fun w hw => (kd_0.2.2.2.1 w hw).1) (hts (.instantiable RX0 17) (tb_2 (List.mem_of_getElem? (i := 152) (by decide +kernel))))
  | 1, hq => cases hq; exact u_known hts (fun w hw => (kd_1.2.2.2.1 w hw).1) (hts (.instantiable RX1 8) (tb_2 (List.mem_of_getElem? (i := 118) (by decide +kernel))))
  | 2, hq => cases hq; exact u_known hts (fun w hw => (kd_2.2.2.2.1 w hw).1) (hts (.instantiable RX2 8) (tb_2 (List.mem_of_getElem? (i := 223) (by decide +kernel))))
  | 3, hq => cases hq; exact u_known hts (fun w hw => (kd_3.2.2.2.1 w hw).1) (hts (.instantiable RX3 7) (tb_1 (List.mem_of_getElem? (i := 92) (by decide +kernel))))
  | 4, hq => cases hq; exact u_known hts (fun w hw => (kd_4.2.2.2.1 w hw).1) (hts (.instantiable RX4 8) (tb_1 (List.mem_of_getElem? (i := 186) (by decide +kernel))))
  | 5, hq => cases hq; exact u_known hts (fun w hw => (kd_5.2.2.2.1 w hw).1) (hts (.instantiable RX5 9) (tb_1 (List.mem_of_getElem? (i := 30) (by decide +kernel))))
  | 6, hq => cases hq; exact u_known hts (fun w hw => (kd_6.2.2.2.1 w hw).1) (hts (.instantiable RX6 5) (tb_2 (List.mem_of_getElem? (i := 93) (by decide +kernel))))
  | 7, hq => cases hq; exact u_known hts (fun w hw => (kd_7.2.2.2.1 w hw).1) (hts (.instantiable RX7 15) (tb_2 (List.mem_of_getElem? (i := 33) (by decide +kernel))))
  | 8, hq => cases hq; exact u_known hts (fun w hw => (kd_8.2.2.2.1 w hw).1) (hts (.instantiable RX8 3) (tb_1 (List.mem_of_getElem? (i := 71) (by decide +kernel))))
  | 9, hq => cases hq; exact u_known hts (fun w hw => (kd_9.2.2.2.1 w hw).1) (hts (.instantiable RX9 12) (tb_1 (List.mem_of_getElem? (i := 223) (by decide +kernel))))
  | 10, hq => cases hq; exact u_known hts (fun w hw => (kd_10.2.2.2.1 w hw).1) (hts (.instantiable RX10 9) (tb_1 (List.mem_of_getElem? (i := 99) (by decide +kernel))))
  | 11, hq => cases hq; exact u_known hts (fun w hw => (kd_11.2.2.2.1 w hw).1) (hts (.instantiable RX11 16) (tb_1 (List.mem_of_getElem? (i := 22) (by decide +kernel))))
  | 12, hq => cases hq; exact u_known hts (fun w hw => (kd_12.2.2.2.1 w hw).1) (hts (.instantiable RX12 86) (tb_7 (List.mem_of_getElem? (i := 43) (by decide +kernel))))
  | k + 13, hq => exact absurd (List.getElem?_eq_some_iff.mp hq).1 (by simp)
theorem am_knownC {s : State} {a : Array Value} (hts : ∀ w ∈ lw_tbl, w.before a s = true) : ∃ D : va_G, ∀ (k : Nat) (q : vw_C), vwCl[k]? = some q → u_Kn s q.1 q.2.1 q.2.2 (D.1 k) (D.2 k) := by
  have h : ∀ k : Nat, ∃ p : ClassId × (Nat → Nat), ∀ q : vw_C, vwCl[k]? = some q → u_Kn s q.1 q.2.1 q.2.2 p.1 p.2 := by
    intro k
    cases hk : vwCl[k]? with
    | none => exact ⟨(0, fun _ => 0), fun q hq => by cases hq⟩
    | some q =>
      obtain ⟨cC, iS, h⟩ := am_known hts k q hk
      exact ⟨(cC, iS), fun q' hq => by cases hq; exact h⟩
  obtain ⟨g, hg⟩ := Classical.axiomOfChoice h
  exact ⟨(fun k => (g k).1, fun k => (g k).2), fun k q hq => hg k q hq⟩
theorem am_arrP {s : State} {a : Array Value} {ty : FieldType} (h : (Cond.arrayClass ty).before a s = true) (hp : ∀ C, ty ≠ .object C) : ∃ cA : ClassId, ArrOfT s cA ty ∧ va_RA s cA ty := by
  obtain ⟨cA, kA, comp, h1, h2, h3⟩ := Cond.arrayClass_spec h
  refine ⟨cA, fun n z => ⟨fun k h => (by cases h), kA, h2, comp, h3⟩, ?_⟩
  cases ty <;> first | exact h1 | exact absurd rfl (hp _)
theorem am_arrO {s : State} {a : Array Value} {C : String} (h : (Cond.arrayOver (.object C)).before a s = true) : ∃ cA : ClassId, ArrOfT s cA (.object C) ∧ va_RA s cA (.object C) := by
  obtain ⟨comp, cA, kA, h1, -, h2, h3, h4⟩ := Cond.arrayOver_spec h
  exact ⟨cA, fun n z => ⟨fun k h => (by cases h), kA, h2, comp, h3⟩, kA, comp, h2, h3, h1, h4⟩
theorem am_arrs {s : State} {a : Array Value} (hts : ∀ w ∈ lw_tbl, w.before a s = true) : ∃ c : Nat → ClassId, ∀ (k : Nat) (q : ClassId × FieldType), (am_tz c)[k]? = some q → ArrOfT s q.1 q.2 ∧ va_RA s q.1 q.2 := by
  obtain ⟨c0, h0⟩ := am_arrP (hts _ aw_int) (fun C h => by cases h)
  obtain ⟨c1, h1⟩ := am_arrP (hts _ aw_long) (fun C h => by cases h)
  obtain ⟨c2, h2⟩ := am_arrP (hts _ aw_byte) (fun C h => by cases h)
  obtain ⟨c3, h3⟩ := am_arrP (hts _ aw_boolean) (fun C h => by cases h)
  obtain ⟨c4, h4⟩ := am_arrO (hts _ ow_8)
  obtain ⟨c5, h5⟩ := am_arrO (hts _ ow_3)
  obtain ⟨c6, h6⟩ := am_arrO (hts _ ow_10)
  refine ⟨fun i => match i with
    | 0 => c0
    | 1 => c1
    | 2 => c2
    | 3 => c3
    | 4 => c4
    | 5 => c5
    | _ => c6, ?_⟩
  intro k q hq
  match k, hq with
  | 0, hq => cases hq; exact h0
  | 1, hq => cases hq; exact h1
  | 2, hq => cases hq; exact h2
  | 3, hq => cases hq; exact h3
  | 4, hq => cases hq; exact h4
  | 5, hq => cases hq; exact h5
  | 6, hq => cases hq; exact h6
  | k + 7, hq => exact absurd (List.getElem?_eq_some_iff.mp hq).1 (by simp [am_tz])
theorem am_Kof {D : va_G} {c : Nat → ClassId} {s : State} {X : am_X} (hD : am_D X = D) (hc : am_cA X = am_cK c) (h : va_K D vwCl (am_tz c) s) : va_K (am_D X) vwCl (am_ty X) s := by
  rw [hD]
  refine h.sub [0, 0, 0, 0, 0, 1, 1, 1, 6, 0, 0, 0, 0, 0, 0, 0, 2, 0, 0, 0, 0, 3, 0, 0, 0, 1, 0, 0, 0, 4, 5, 0, 0, 1, 2, 0, 0, 0, 0, 0, 0, 1, 0, 0, 0, 0, 0, 0, 0, 0, 0, 0, 0, 0, 1, 1, 0, 1, 0] ?_
  unfold am_ty
  rw [hc]
  rfl
def am_stm (i : Nat) : Term := ([.string "TideDiscs$Machine" 52, .string "TideDiscs$Tokens" 82, .string "TideDiscs$Tokens" 84, .string "TideDiscs$Tokens" 86, .string "TideDiscs$Tokens" 88, .string "TideDiscs$Tokens" 90, .string "TideDiscs$Tokens" 92, .string "TideDiscs$Tokens" 94, .string "TideDiscs$Tokens" 96, .string "TideDiscs$Tokens" 98, .string "TideDiscs$Orders" 47, .string "TideDiscs$Orders" 74, .string "TideDiscs$Orders" 76, .string "TideDiscs$Orders" 78, .string "TideDiscs$Orders" 80, .string "TideDiscs$Orders" 82, .string "TideDiscs$Orders" 84, .string "TideDiscs$Orders" 103, .string "TideDiscs$Orders" 105, .string "TideDiscs$Orders" 107, .string "TideDiscs$Orders" 109, .string "TideDiscs$Orders" 111] : List Term).getD i (.int 0)
theorem am_evL {args : Array Value} {s : State} {t u : Term} (h : t.eval args s none [] s = u.eval args s none [] s) : (Term.length t).eval args s none [] s = (Term.length u).eval args s none [] s := by simp only [Term.eval, h]
theorem am_evE {args : Array Value} {s : State} {t u : Term} {z : Int32} (h : t.eval args s none [] s = u.eval args s none [] s) : (Term.elem t (.int z)).eval args s none [] s = (Term.elem u (.int z)).eval args s none [] s := by simp only [Term.eval, h]
theorem am_sT1 : ∀ i : Nat, i < am_sN → am_sL.getD i 0 < 2 ^ 31 := by decide +kernel
theorem am_sT2 : ∀ i : Nat, i < am_sN → Cond.exactly (am_stm i) "java/lang/String" ∈ flatC (.and given_1 narrow_1) := by decide +kernel
theorem am_sT3 : ∀ i : Nat, i < am_sN → Cond.eq (.field (am_stm i) "java/lang/String" "coder" "B") (.int 0) ∈ flatC (.and given_1 narrow_1) := by decide +kernel
theorem am_sT4 : ∀ i : Nat, i < am_sN → Cond.arrayOf (.field (am_stm i) "java/lang/String" "value" "[B") .byte ∈ flatC (.and given_1 narrow_1) := by decide +kernel
theorem am_sT5 : ∀ i : Nat, i < am_sN → Cond.eq (.length (.field (am_stm i) "java/lang/String" "value" "[B")) (.int (Int32.ofNat (am_sL.getD i 0))) ∈ flatC (.and given_1 narrow_1) := by decide +kernel
theorem am_sT6 : ∀ i : Nat, i < am_sN → ∀ j : Nat, j < am_sL.getD i 0 → Cond.eq (.elem (.field (am_stm i) "java/lang/String" "value" "[B") (.int (Int32.ofNat j))) (.int ((am_sB.getD i []).getD j 0)) ∈ flatC (.and given_1 narrow_1) := by decide +kernel
theorem am_sT7 : ∀ i : Nat, i < am_sN → ∀ j : Nat, j < am_sN → i ≠ j → Int32.ofNat (am_sL.getD i 0) ≠ Int32.ofNat (am_sL.getD j 0) ∨ (am_sL.getD i 0 = am_sL.getD j 0 ∧ ∃ k : Nat, k < am_sL.getD i 0 ∧ (am_sB.getD i []).getD k 0 ≠ (am_sB.getD j []).getD k 0) := by decide +kernel
theorem am_Sof {args : Array Value} {s : State} {A : Nat → Prop} (hs : ∀ c ∈ flatC (.and given_1 narrow_1), c.before args s = true) (hA : ∀ a : Nat, a < s.heap.size → ¬ A a) : ∃ adK adV : Nat → Nat, vk_S am_sN am_sL am_sB adK adV A s s.heap ∧ ∀ i : Nat, i < am_sN → (am_stm i).eval args s none [] s = some (.ref (adK i)) := by
  have h0 : ∀ i : Nat, ∃ q : Nat × Nat, i < am_sN → (am_stm i).eval args s none [] s = some (.ref q.1) ∧ va_O "java/lang/String" q.1 A s s.heap ∧ va_OF "java/lang/String" "coder" "B" (.int 0) q.1 A s s.heap ∧ va_OF "java/lang/String" "value" "[B" (.ref q.2) q.1 A s s.heap ∧ va_T .byte q.2 (am_sL.getD i 0) (fun j => .int ((am_sB.getD i []).getD j 0)) A s s.heap := by
    intro i
    by_cases hi : i < am_sN
    · obtain ⟨a, c, cA, kA, q1, q2, q3, q4, q5, q6, -⟩ := Cond.exactly_spec (args := args) (first := s) (o := none) (s := s) (idx := []) (t := am_stm i) (cls := "java/lang/String") (hs _ (am_sT2 i hi))
      obtain ⟨t, ht, hT⟩ := va_Tof (f := fun j => .int ((am_sB.getD i []).getD j 0)) (A := A) (am_sT1 i hi) (hs _ (am_sT4 i hi)) (va_eqt (hs _ (am_sT5 i hi))) (fun j hj => va_eqt (hs _ (am_sT6 i hi j hj))) hA
      exact ⟨(a, t), fun _ => ⟨q1, ⟨cA, q3, q5, by rw [q6]; exact q2, hA a (Array.getElem?_eq_some_iff.mp q3).1⟩, vk_OFof q1 (va_eqt (hs _ (am_sT3 i hi))) hA, vk_OFof q1 ht hA, hT⟩⟩
    · exact ⟨(0, 0), fun h => absurd h hi⟩
  obtain ⟨ad, had⟩ := Classical.axiomOfChoice h0
  refine ⟨fun i => (ad i).1, fun i => (ad i).2, ⟨fun i hi => (had i hi).2, fun i j hi hj e => ?_⟩, fun i hi => (had i hi).1⟩
  by_cases hij : i = j
  · exact hij
  · exfalso
    have e1 := (had i hi).1
    have e2 := (had j hj).1
    have e' : (ad i).1 = (ad j).1 := e
    rw [← e'] at e2
    have ef : (Term.field (am_stm i) "java/lang/String" "value" "[B").eval args s none [] s = (Term.field (am_stm j) "java/lang/String" "value" "[B").eval args s none [] s := by rw [va_fe e1, va_fe e2]
    rcases am_sT7 i hi j hj hij with h | ⟨hl, k, hk, h⟩
    · have l1 := va_eqt (hs _ (am_sT5 i hi))
      have l2 := va_eqt (hs _ (am_sT5 j hj))
      have el := am_evL ef
      rw [l1, l2] at el
      exact h (Value.int.inj (Option.some.inj el))
    · have l1 := va_eqt (hs _ (am_sT6 i hi k hk))
      have l2 := va_eqt (hs _ (am_sT6 j hj k (by omega)))
      have el := am_evE (z := Int32.ofNat k) ef
      rw [l1, l2] at el
      exact h (Value.int.inj (Option.some.inj el))
theorem am_eqT {args : Array Value} {s : State} {t u : Term} {a : Nat} (h : (Cond.eq t u).before args s = true) (ht : t.eval args s none [] s = some (.ref a)) (hu : ∃ b, u.eval args s none [] s = some (.ref b)) : u.eval args s none [] s = some (.ref a) := by
  obtain ⟨b, hb⟩ := hu
  simp [Cond.before, Cond.holds, Cond.value, ht, hb] at h
  rw [hb, h]
theorem am_exr {args : Array Value} {s : State} {t : Term} {C : String} (h : (Cond.exactly t C).before args s = true) : ∃ b, t.eval args s none [] s = some (.ref b) := by
  obtain ⟨a, c, cA, kA, q1, -⟩ := Cond.exactly_spec (args := args) (first := s) (o := none) (s := s) (idx := []) (t := t) (cls := C) h
  exact ⟨a, q1⟩
theorem am_eqT2 {args : Array Value} {s : State} {t u : Term} {a : Nat} (h : (Cond.eq u t).before args s = true) (ht : t.eval args s none [] s = some (.ref a)) (hu : ∃ b, u.eval args s none [] s = some (.ref b)) : u.eval args s none [] s = some (.ref a) := by
  obtain ⟨b, hb⟩ := hu
  simp [Cond.before, Cond.holds, Cond.value, ht, hb] at h
  rw [hb, ← h]
set_option maxRecDepth 100000 in
theorem am_Rof {b : Nat} {s : State} {kK : Nat → Nat} (hts : ∀ w ∈ lw_tbl, w.before #[Value.ref b] s = true) (hs : ∀ c ∈ flatC (.and given_1 narrow_1), c.before #[Value.ref b] s = true) (hk : ∀ i : Nat, i < am_sN → (am_stm i).eval #[Value.ref b] s none [] s = some (.ref (kK i))) : ∀ q ∈ am_sR, vk_R q.1 q.2.1 q.2.2.1 (kK q.2.2.2) s := by
  have Term_ev : ∀ (own : String) (k : Nat) (a : Nat), (Term.string own k).eval #[Value.ref b] s none [] s = some (.ref a) → (Term.string own k).eval #[] s none [] s = some (.ref a) := by
    intro own k a h
    rw [← h]
    exact Term.string_eval_of_vm (args := #[]) rfl
  unfold am_sR
  refine List.forall_mem_cons.mpr ⟨vk_R.of (hts (.stringRef "TideDiscs$Machine" 52 "wave") (tb_3 (List.mem_of_getElem? (i := 192) (by decide +kernel)))) (hk 0 (by decide)), ?_⟩
  refine List.forall_mem_cons.mpr ⟨vk_R.of (hts (.stringRef "TideDiscs$Tokens" 76 "wave") (tb_4 (List.mem_of_getElem? (i := 22) (by decide +kernel)))) (am_eqT (hs (.eq (.string "TideDiscs$Machine" 52) (.string "TideDiscs$Tokens" 76)) (by decide +kernel)) (hk 0 (by decide)) (am_exr (hs (.exactly (.string "TideDiscs$Tokens" 76) "java/lang/String") (by decide +kernel)))), ?_⟩
  refine List.forall_mem_cons.mpr ⟨vk_R.of (hts (.stringRef "TideDiscs$Tokens" 82 "turns") (tb_4 (List.mem_of_getElem? (i := 24) (by decide +kernel)))) (hk 1 (by decide)), ?_⟩
  refine List.forall_mem_cons.mpr ⟨vk_R.of (hts (.stringRef "TideDiscs$Tokens" 84 "in") (tb_4 (List.mem_of_getElem? (i := 25) (by decide +kernel)))) (hk 2 (by decide)), ?_⟩
  refine List.forall_mem_cons.mpr ⟨vk_R.of (hts (.stringRef "TideDiscs$Tokens" 86 "size") (tb_4 (List.mem_of_getElem? (i := 26) (by decide +kernel)))) (hk 3 (by decide)), ?_⟩
  refine List.forall_mem_cons.mpr ⟨vk_R.of (hts (.stringRef "TideDiscs$Tokens" 88 "at") (tb_4 (List.mem_of_getElem? (i := 27) (by decide +kernel)))) (hk 4 (by decide)), ?_⟩
  refine List.forall_mem_cons.mpr ⟨vk_R.of (hts (.stringRef "TideDiscs$Tokens" 90 "train") (tb_4 (List.mem_of_getElem? (i := 28) (by decide +kernel)))) (hk 5 (by decide)), ?_⟩
  refine List.forall_mem_cons.mpr ⟨vk_R.of (hts (.stringRef "TideDiscs$Tokens" 92 "box") (tb_4 (List.mem_of_getElem? (i := 29) (by decide +kernel)))) (hk 6 (by decide)), ?_⟩
  refine List.forall_mem_cons.mpr ⟨vk_R.of (hts (.stringRef "TideDiscs$Tokens" 94 "of") (tb_4 (List.mem_of_getElem? (i := 30) (by decide +kernel)))) (hk 7 (by decide)), ?_⟩
  refine List.forall_mem_cons.mpr ⟨vk_R.of (hts (.stringRef "TideDiscs$Tokens" 96 "slack") (tb_4 (List.mem_of_getElem? (i := 31) (by decide +kernel)))) (hk 8 (by decide)), ?_⟩
  refine List.forall_mem_cons.mpr ⟨vk_R.of (hts (.stringRef "TideDiscs$Tokens" 98 "zero") (tb_4 (List.mem_of_getElem? (i := 32) (by decide +kernel)))) (hk 9 (by decide)), ?_⟩
  refine List.forall_mem_cons.mpr ⟨vk_R.of (hts (.stringRef "TideDiscs$Machine" 103 "turns") (tb_4 (List.mem_of_getElem? (i := 58) (by decide +kernel)))) (am_eqT (hs (.eq (.string "TideDiscs$Tokens" 82) (.string "TideDiscs$Machine" 103)) (by decide +kernel)) (hk 1 (by decide)) (am_exr (hs (.exactly (.string "TideDiscs$Machine" 103) "java/lang/String") (by decide +kernel)))), ?_⟩
  refine List.forall_mem_cons.mpr ⟨vk_R.of (hts (.stringRef "TideDiscs$Machine" 117 "in") (tb_4 (List.mem_of_getElem? (i := 72) (by decide +kernel)))) (am_eqT (hs (.eq (.string "TideDiscs$Tokens" 84) (.string "TideDiscs$Machine" 117)) (by decide +kernel)) (hk 2 (by decide)) (am_exr (hs (.exactly (.string "TideDiscs$Machine" 117) "java/lang/String") (by decide +kernel)))), ?_⟩
  refine List.forall_mem_cons.mpr ⟨vk_R.of (hts (.stringRef "TideDiscs$Machine" 136 "size") (tb_4 (List.mem_of_getElem? (i := 79) (by decide +kernel)))) (am_eqT (hs (.eq (.string "TideDiscs$Tokens" 86) (.string "TideDiscs$Machine" 136)) (by decide +kernel)) (hk 3 (by decide)) (am_exr (hs (.exactly (.string "TideDiscs$Machine" 136) "java/lang/String") (by decide +kernel)))), ?_⟩
  refine List.forall_mem_cons.mpr ⟨vk_R.of (hts (.stringRef "TideDiscs$Machine" 138 "at") (tb_4 (List.mem_of_getElem? (i := 80) (by decide +kernel)))) (am_eqT (hs (.eq (.string "TideDiscs$Tokens" 88) (.string "TideDiscs$Machine" 138)) (by decide +kernel)) (hk 4 (by decide)) (am_exr (hs (.exactly (.string "TideDiscs$Machine" 138) "java/lang/String") (by decide +kernel)))), ?_⟩
  refine List.forall_mem_cons.mpr ⟨vk_R.of (hts (.stringRef "TideDiscs$Machine" 140 "train") (tb_4 (List.mem_of_getElem? (i := 81) (by decide +kernel)))) (am_eqT (hs (.eq (.string "TideDiscs$Tokens" 90) (.string "TideDiscs$Machine" 140)) (by decide +kernel)) (hk 5 (by decide)) (am_exr (hs (.exactly (.string "TideDiscs$Machine" 140) "java/lang/String") (by decide +kernel)))), ?_⟩
  refine List.forall_mem_cons.mpr ⟨vk_R.of (hts (.stringRef "TideDiscs$Machine" 61 "box") (tb_4 (List.mem_of_getElem? (i := 98) (by decide +kernel)))) (am_eqT (hs (.eq (.string "TideDiscs$Tokens" 92) (.string "TideDiscs$Machine" 61)) (by decide +kernel)) (hk 6 (by decide)) (am_exr (hs (.exactly (.string "TideDiscs$Machine" 61) "java/lang/String") (by decide +kernel)))), ?_⟩
  refine List.forall_mem_cons.mpr ⟨vk_R.of (hts (.stringRef "TideDiscs$Machine" 158 "of") (tb_4 (List.mem_of_getElem? (i := 103) (by decide +kernel)))) (am_eqT (hs (.eq (.string "TideDiscs$Tokens" 94) (.string "TideDiscs$Machine" 158)) (by decide +kernel)) (hk 7 (by decide)) (am_exr (hs (.exactly (.string "TideDiscs$Machine" 158) "java/lang/String") (by decide +kernel)))), ?_⟩
  refine List.forall_mem_cons.mpr ⟨vk_R.of (hts (.stringRef "TideDiscs$Machine" 66 "slack") (tb_4 (List.mem_of_getElem? (i := 108) (by decide +kernel)))) (am_eqT (hs (.eq (.string "TideDiscs$Tokens" 96) (.string "TideDiscs$Machine" 66)) (by decide +kernel)) (hk 8 (by decide)) (am_exr (hs (.exactly (.string "TideDiscs$Machine" 66) "java/lang/String") (by decide +kernel)))), ?_⟩
  refine List.forall_mem_cons.mpr ⟨vk_R.of (hts (.stringRef "TideDiscs$Machine" 70 "zero") (tb_4 (List.mem_of_getElem? (i := 113) (by decide +kernel)))) (am_eqT (hs (.eq (.string "TideDiscs$Tokens" 98) (.string "TideDiscs$Machine" 70)) (by decide +kernel)) (hk 9 (by decide)) (am_exr (hs (.exactly (.string "TideDiscs$Machine" 70) "java/lang/String") (by decide +kernel)))), ?_⟩
  refine List.forall_mem_cons.mpr ⟨vk_R.of (hts (.stringRef "TideDiscs$Orders" 47 "end") (tb_6 (List.mem_of_getElem? (i := 181) (by decide +kernel)))) (hk 10 (by decide)), ?_⟩
  refine List.forall_mem_cons.mpr ⟨vk_R.of (hts (.stringRef "TideDiscs$Orders" 74 "go") (tb_6 (List.mem_of_getElem? (i := 196) (by decide +kernel)))) (hk 11 (by decide)), ?_⟩
  refine List.forall_mem_cons.mpr ⟨vk_R.of (hts (.stringRef "TideDiscs$Orders" 76 "until") (tb_6 (List.mem_of_getElem? (i := 197) (by decide +kernel)))) (hk 12 (by decide)), ?_⟩
  refine List.forall_mem_cons.mpr ⟨vk_R.of (hts (.stringRef "TideDiscs$Orders" 78 "mark") (tb_6 (List.mem_of_getElem? (i := 198) (by decide +kernel)))) (hk 13 (by decide)), ?_⟩
  refine List.forall_mem_cons.mpr ⟨vk_R.of (hts (.stringRef "TideDiscs$Orders" 80 "read") (tb_6 (List.mem_of_getElem? (i := 199) (by decide +kernel)))) (hk 14 (by decide)), ?_⟩
  refine List.forall_mem_cons.mpr ⟨vk_R.of (hts (.stringRef "TideDiscs$Orders" 82 "loop") (tb_6 (List.mem_of_getElem? (i := 200) (by decide +kernel)))) (hk 15 (by decide)), ?_⟩
  refine List.forall_mem_cons.mpr ⟨vk_R.of (hts (.stringRef "TideDiscs$Orders" 84 "when") (tb_6 (List.mem_of_getElem? (i := 201) (by decide +kernel)))) (hk 16 (by decide)), ?_⟩
  refine List.forall_mem_cons.mpr ⟨vk_R.of (hts (.stringRef "TideDiscs$Orders" 103 "high") (tb_6 (List.mem_of_getElem? (i := 215) (by decide +kernel)))) (hk 17 (by decide)), ?_⟩
  refine List.forall_mem_cons.mpr ⟨vk_R.of (hts (.stringRef "TideDiscs$Orders" 105 "low") (tb_6 (List.mem_of_getElem? (i := 216) (by decide +kernel)))) (hk 18 (by decide)), ?_⟩
  refine List.forall_mem_cons.mpr ⟨vk_R.of (hts (.stringRef "TideDiscs$Orders" 107 "above") (tb_6 (List.mem_of_getElem? (i := 221) (by decide +kernel)))) (hk 19 (by decide)), ?_⟩
  refine List.forall_mem_cons.mpr ⟨vk_R.of (hts (.stringRef "TideDiscs$Orders" 109 "below") (tb_6 (List.mem_of_getElem? (i := 222) (by decide +kernel)))) (hk 20 (by decide)), ?_⟩
  refine List.forall_mem_cons.mpr ⟨vk_R.of (hts (.stringRef "TideDiscs$Orders" 111 "less") (tb_6 (List.mem_of_getElem? (i := 223) (by decide +kernel)))) (hk 21 (by decide)), ?_⟩
  exact fun _ h => absurd h List.not_mem_nil
theorem am_cosT : ∀ j : Nat, j < 24 → Cond.eq (.elem (.static "TideDiscs" "COS" "[I") (.int (Int32.ofNat j))) (.int (am_cosl.getD j 0)) ∈ flatC (.and given_1 narrow_1) := by decide +kernel
/-- the constants of the start -/
theorem am_Cnof {b : Nat} {s : State} (hts : ∀ w ∈ lw_tbl, w.before #[Value.ref b] s = true) (hs : ∀ c ∈ flatC (.and given_1 narrow_1), c.before #[Value.ref b] s = true) : ∃ (kK kV : Nat → Nat) (co : Nat), ∀ X : am_X, am_kK X = kK → am_kV X = kV → am_co X = co → (∀ q, am_A X q → s.heap.size ≤ q) → am_Cn X s s.heap := by
  have hA : ∀ a : Nat, a < s.heap.size → ¬ (fun q : Nat => s.heap.size ≤ q) a := fun a h => Nat.not_le.mpr h
  obtain ⟨kK, kV, hS, hk⟩ := am_Sof (A := fun q : Nat => s.heap.size ≤ q) hs hA
  obtain ⟨co, hco, hT⟩ := va_Tof (tm := .static "TideDiscs" "COS" "[I") (ty := .int) (N := 24) (f := fun j => .int (am_cosl.getD j 0)) (A := fun q : Nat => s.heap.size ≤ q) (by decide) (hs (.arrayOf (.static "TideDiscs" "COS" "[I") .int) (by decide +kernel)) (va_eqt (hs (.eq (.length (.static "TideDiscs" "COS" "[I")) (.int 24)) (by decide +kernel))) (fun j hj => va_eqt (hs _ (am_cosT j hj))) hA
  have hR := am_Rof hts hs hk
  refine ⟨kK, kV, co, fun X e1 e2 e3 hX _ => ?_⟩
  rw [e1, e2, e3]
  refine ⟨⟨hS.narrow hX, hR⟩, (va_Zref (hts (.laysStatic "TideDiscs" "COS" "[I") (tb_4 (List.mem_of_getElem? (i := 201) (by decide +kernel)))) (hts (.initialized "TideDiscs") (tb_1 (List.mem_of_getElem? (i := 1) (by decide +kernel)))) hco hA).narrow hX, hT.narrow hX, (va_Zof (hts (.laysStatic "java/lang/String" "COMPACT_STRINGS" "Z") (tb_3 (List.mem_of_getElem? (i := 206) (by decide +kernel)))) (hts (.initialized "java/lang/String") (tb_1 (List.mem_of_getElem? (i := 16) (by decide +kernel)))) (va_eqt (hs (.eq (.static "java/lang/String" "COMPACT_STRINGS" "Z") (.int 1)) (by decide +kernel))) hA).narrow hX, (va_Zqof (hts (.laysStatic "jdk/internal/util/Preconditions" "SIOOBE_FORMATTER" "Ljava/util/function/BiFunction;") (tb_3 (List.mem_of_getElem? (i := 226) (by decide +kernel)))) (hts (.initialized "jdk/internal/util/Preconditions") (tb_1 (List.mem_of_getElem? (i := 18) (by decide +kernel)))) (hs (.isRef (.static "jdk/internal/util/Preconditions" "SIOOBE_FORMATTER" "Ljava/util/function/BiFunction;")) (by decide +kernel)) hA).narrow hX⟩
theorem am_initW {Y : am_Y} {p : Program} {e : Env} {R : Room} {s : State} {m : MethodId} {args : Array Value} {below : List Frame} {meth : Method} {c : Code} {H : Heap} {locs : List Loc} {k n pc nL : Nat} {ls : Array Slot} {st : List Value} {r : va_W} {A : Nat → Prop} {Z : State → Prop} {cc : ByteArray} {own : String} {Γ' : am_M} {mc' ms' a idx : Nat} {e0 : va_E} {Q' : va_W → Prop} (hx : p.tables.exec = Jvm.exec) (hb : c.code = cc) (hml : c.maxLocals = nL) (hown : s.vm.findClass own = some m.cls) (hT : am_T s) (hK : va_K Y.2.1 vwCl Y.2.2 s) (hO : am_AO s) (hA : ∀ q, s.heap.size ≤ q → A q) (hM : am_NC Y Γ' mc' ms' a e0 Q') (hcd : Cond.code Γ'.1 Γ'.2.1 Γ'.2.2.1 none ∈ lw_tbl) (hini : Cond.initialized Γ'.1.cls ∈ lw_tbl) (hmh : Γ'.1.cls ≠ "java/lang/invoke/MethodHandle" ∧ Γ'.1.cls ≠ "java/lang/invoke/VarHandle") (hpd : (parseMethodDescriptor Γ'.1.desc).map (fun d => d.parameters.length) = some 0) (hmx : Γ'.2.2.1 ≤ 81) (hy : Γ'.1.name = "<init>") (hins : Cond.instanceMethod Γ'.1 ∈ lw_tbl) (hln : Cond.methodLink own idx Γ'.1 ∈ lw_tbl) (hr : Γ'.2.2.2.2 + 1 ≤ R.frames ∧ 100 * Γ'.2.2.2.2 + 100 ≤ R.locals) (hst : (st.map fun v => v.category).sum ≤ 8) (hk : k + mc' ≤ R.cells) (hn : n + ms' ≤ R.slots) (hP : va_P Y.2.1 vwCl ((a, e0) :: r) H) (hD : va_D A ((a, e0) :: r)) (hS : va_S A s.heap H locs) (hls : ls.size = nL) (d : decode cc pc = .ok (.invokespecial idx, 3))
    (kk : ∀ (w1 : va_W) (H1 : Heap) (locs1 : List Loc), Q' w1 → va_P Y.2.1 vwCl (w1 ++ r) H1 → va_D A (w1 ++ r) → va_S A s.heap H1 locs1 → W p Y.1 e R s m args below meth c H1 locs1 (k + mc') (n + ms') Z (F0 m (pc + 3) ls st)) : W p Y.1 e R s m args below meth c H locs k n Z (F0 m pc ls (.ref a :: st)) := by
  have hlen : ∀ sig, parseMethodDescriptor Γ'.1.desc = some sig → 0 = sig.parameters.length := by
    intro sig h
    rw [h] at hpd
    exact (Option.some.inj hpd).symm
  have hrm : (am_nrm Γ'.2.2.2.2 mc' ms').frames + 1 ≤ R.frames ∧ 8 + (Γ'.2.2.1 + 11) + (am_nrm Γ'.2.2.2.2 mc' ms').locals ≤ R.locals := by
    refine ⟨hr.1, ?_⟩
    have h2 := hr.2
    show 8 + (Γ'.2.2.1 + 11) + 100 * Γ'.2.2.2.2 ≤ R.locals
    omega
  have hP0 : va_P Y.2.1 vwCl [(a, e0)] H := am_Pmem hP (fun q hq => by rw [List.mem_singleton.mp hq]; exact List.mem_cons_self)
  have hpv : PreS s H (va_Pc [.ref a] (am_NB Y a e0 H.size)) [.ref a] := ⟨am_nblind, fun U hU hW => ⟨rfl, by rw [hU], hT.warm hW, va_K.moved hW.alike hK, by rw [hU]; exact hP0, hO.mv hW.alike⟩⟩
  have hpay : ∀ w ∈ [Cond.code Γ'.1 Γ'.2.1 Γ'.2.2.1 none], ∀ (a' : Array Value) (U : State), s.WarmedH U.vm → w.before a' U = true := by
    intro w hw a' U hW
    rw [List.mem_singleton.mp hw]
    exact hT.at hW hcd rfl
  have run : va_Run p Y.1 e R s m args below meth c H locs k n mc' ms' (F0 m pc ls (.ref a :: st)) st (am_NQ Y.2.1 (va_A [(a, e0)] H.size) Q' (Value.ref a :: []).toArray) (va_A [(a, e0)] H.size) :=
    va_runI (As := []) (rest := st) (Ts := []) (own := own) ⟨hx, hb, rfl, hown, fun _ h => absurd h List.not_mem_nil⟩ (hM H.size) ⟨⟨rfl, rfl, hrm.1, hrm.2, hpay, List.mem_singleton.mpr rfl, hT.a hcd rfl, hT.a hini rfl, hmh, hlen, hT.a hln rfl⟩, hy, hT.a hins rfl⟩ hpv rfl rfl (hls.trans hml.symm) rfl (by show 2 * 0 + _ ≤ 8; omega) d ⟨hk, hn⟩
  intro T hTh X
  obtain ⟨v, st₀, t, T', L, g0, X', hL, z1, z2, ⟨⟨hv, w1, hQ1, hP1, hD1⟩, hz, hkp⟩, stp⟩ := run T hTh X
  cases hv
  rw [g0] at hz hkp
  have hA1 : ∀ q, va_A [(a, e0)] H.size q → A q := by
    intro q hq
    rcases hq with ⟨j, e, hj⟩ | hq
    · have h1 := (List.getElem?_eq_some_iff.mp hj).1
      simp at h1
      subst h1
      cases hj
      exact hD.2 0 (a, e0) rfl
    · exact hA q (Nat.le_trans hS.1 hq)
  have hne : ∀ q ∈ r, q.1 < H.size ∧ ¬ va_A [(a, e0)] H.size q.1 := by
    intro q hq
    obtain ⟨i, hi⟩ := List.getElem?_of_mem hq
    have hlt : q.1 < H.size := (hP (i + 1) q hi).lt
    refine ⟨hlt, fun hz => ?_⟩
    rcases hz with ⟨j, e, hj⟩ | hz
    · have h1 := (List.getElem?_eq_some_iff.mp hj).1
      simp at h1
      subst h1
      have h2 : q.1 = a := (congrArg Prod.fst (Option.some.inj hj)).symm
      have := hD.1 (i + 1) 0 q (a, e0) hi rfl h2
      omega
    · omega
  have hP2 : va_P Y.2.1 vwCl (w1 ++ r) T'.heap := by
    have h1 : va_P Y.2.1 vwCl r T'.heap := by
      intro i q hi
      have h2 := hne q (List.mem_of_getElem? hi)
      exact (hP (i + 1) q hi).kept (by rw [z1]; exact hkp q.1 h2.1 h2.2)
    have h3 : va_P Y.2.1 vwCl w1 T'.heap := by rw [z1]; exact hP1
    exact h3.app h1
  have hD2 : va_D A (w1 ++ r) := by
    have h1 := am_DD.mp hD
    have h2 := am_DD.mp hD1
    have h3 : (r.map Prod.fst).Nodup := (List.nodup_cons.mp (show (a :: r.map Prod.fst).Nodup from h1.1)).2
    refine am_DD.mpr ⟨?_, fun q hq => ?_⟩
    · rw [List.map_append, List.nodup_append]
      refine ⟨h2.1, h3, fun x hx y hy hxy => ?_⟩
      obtain ⟨qx, hqx, ex⟩ := List.mem_map.mp hx
      obtain ⟨qy, hqy, ey⟩ := List.mem_map.mp hy
      exact (hne qy hqy).2 (by rw [ey, ← hxy, ← ex]; exact h2.2 qx hqx)
    · rcases List.mem_append.mp hq with h | h
      · exact hA1 q.1 (h2.2 q h)
      · exact h1.2 q (List.mem_cons_of_mem _ h)
  obtain ⟨t2, a1, b1⟩ := kk w1 T'.heap (locs ++ L) hQ1 hP2 hD2
    ⟨Nat.le_trans hS.1 (by rw [z1]; exact hz), fun q h1 h2 => by rw [z1, hkp q (Nat.lt_of_lt_of_le h1 hS.1) (fun z => h2 (hA1 q z))]; exact hS.2.1 q h1 h2, fun q hq => by
      rcases List.mem_append.mp hq with h | h
      · exact hS.2.2 q h
      · exact hA1 _ (hL q h)⟩ T' rfl X'
  exact ⟨t2, stp t2 a1, b1⟩
