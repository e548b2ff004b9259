/-! ===== the heap's rules ===== -/
theorem am_key {X : am_X} {k i : Nat} (h : (k, i) ∈ am_ks X) : ∃ q : Nat, (am_ks X)[q]? = some (k, i) := List.getElem?_of_mem h
theorem am_wl_at {X : am_X} {σ : am_H} {q k i : Nat} (h : (am_ks X)[q]? = some (k, i)) : (am_wl X σ)[q]? = some (am_ad X k i, am_ev X σ k i) := by
  unfold am_wl
  rw [List.getElem?_map, h]
  rfl
theorem am_Dl {X : am_X} {σ : am_H} (hJ : am_J X) : va_D (am_A X) (am_wl X σ) := by
  have key : ∀ (i : Nat) (p : Nat × va_E), (am_wl X σ)[i]? = some p → ∃ q, (am_ks X)[i]? = some q ∧ p.1 = am_ad X q.1 q.2 := by
    intro i p h
    unfold am_wl at h
    rw [List.getElem?_map] at h
    cases hq : (am_ks X)[i]? with
    | none => rw [hq] at h; cases h
    | some q => rw [hq] at h; cases h; exact ⟨q, rfl, rfl⟩
  refine ⟨fun i j p q h1 h2 e => ?_, fun i p h => ?_⟩
  · obtain ⟨a, a1, a2⟩ := key i p h1
    obtain ⟨b, b1, b2⟩ := key j q h2
    exact hJ i j a b a1 b1 (by rw [← a2, ← b2]; exact e)
  · obtain ⟨a, a1, a2⟩ := key i p h
    exact ⟨a, List.mem_of_getElem? a1, a2⟩
theorem am_set {X : am_X} {σ σ' : am_H} {q k i : Nat} {e : va_E} (hJ : am_J X) (h : (am_ks X)[q]? = some (k, i)) (he : am_ev X σ' k i = e) (hne : ∀ a b, ¬ (a = k ∧ b = i) → am_ev X σ' a b = am_ev X σ a b) : (am_wl X σ).set q (am_ad X k i, e) = am_wl X σ' := by
  apply List.ext_getElem?
  intro j
  by_cases hj : j = q
  · subst hj
    have hl : j < (am_wl X σ).length := by
      unfold am_wl
      rw [List.length_map]
      exact (List.getElem?_eq_some_iff.mp h).1
    rw [List.getElem?_set_self hl, am_wl_at h, he]
  · rw [List.getElem?_set_ne (Ne.symm hj)]
    unfold am_wl
    rw [List.getElem?_map, List.getElem?_map]
    cases hq : (am_ks X)[j]? with
    | none => rfl
    | some p =>
      have hp : ¬ (p.1 = k ∧ p.2 = i) := by
        intro hh
        exact hj (hJ j q p (k, i) hq h (by rw [hh.1, hh.2]))
      show some (_, _) = some (_, _)
      rw [hne p.1 p.2 hp]
theorem am_u3_ne {α : Type} {f : Nat → Nat → Nat → α} {k i j a b : Nat} {v : α} (h : ¬ (a = k ∧ b = i)) : am_u3 f k i j v a b = f a b := by
  funext c
  unfold am_u3
  rw [if_neg]
  intro hh
  exact h ⟨hh.1, hh.2.1⟩
theorem am_u3_eq {α : Type} {f : Nat → Nat → Nat → α} {k i j c : Nat} {v : α} : am_u3 f k i j v k i c = if c = j then v else f k i c := by
  unfold am_u3
  by_cases h : c = j
  · rw [if_pos ⟨rfl, rfl, h⟩, if_pos h]
  · rw [if_neg (fun hh => h hh.2.2), if_neg h]
theorem am_ev_neI {X : am_X} {σ : am_H} {k i j a b : Nat} {v : Int32} (h : ¬ (a = k ∧ b = i)) : am_ev X (am_wI σ k i j v) a b = am_ev X σ a b := by
  have e : (am_wI σ k i j v).1 a b = σ.1 a b := am_u3_ne h
  have hf : am_fv X (am_wI σ k i j v) a b = am_fv X σ a b := by
    funext c
    unfold am_fv
    rw [e]
    rfl
  have hc : am_ct X (am_wI σ k i j v) a b = am_ct X σ a b := by
    unfold am_ct
    rw [e]
    rfl
  unfold am_ev
  rw [hf, hc]
theorem am_ev_neL {X : am_X} {σ : am_H} {k i j a b : Nat} {v : Int64} (h : ¬ (a = k ∧ b = i)) : am_ev X (am_wL σ k i j v) a b = am_ev X σ a b := by
  have e : (am_wL σ k i j v).2.1 a b = σ.2.1 a b := am_u3_ne h
  have hf : am_fv X (am_wL σ k i j v) a b = am_fv X σ a b := by
    funext c
    unfold am_fv
    rw [e]
    rfl
  have hc : am_ct X (am_wL σ k i j v) a b = am_ct X σ a b := by
    unfold am_ct
    rw [e]
    rfl
  unfold am_ev
  rw [hf, hc]
theorem am_ev_neR {X : am_X} {σ : am_H} {k i j a b : Nat} {v : Option Nat} (h : ¬ (a = k ∧ b = i)) : am_ev X (am_wR σ k i j v) a b = am_ev X σ a b := by
  have e : (am_wR σ k i j v).2.2 a b = σ.2.2 a b := am_u3_ne h
  have hf : am_fv X (am_wR σ k i j v) a b = am_fv X σ a b := by
    funext c
    unfold am_fv
    rw [e]
    rfl
  have hc : am_ct X (am_wR σ k i j v) a b = am_ct X σ a b := by
    unfold am_ct
    rw [e]
    rfl
  unfold am_ev
  rw [hf, hc]
/-- an object's fields behind a write -/
theorem am_ev_obj {X : am_X} {σ σ' : am_H} {k i j : Nat} {v : Value} (hk : k < 13) (hv : am_fv X σ' k i j = v) (hn : ∀ c, ¬ c = j → am_fv X σ' k i c = am_fv X σ k i c) : am_ev X σ' k i = .inr (k, ((List.range (am_n k)).map (am_fv X σ k i)).set j v) := by
  unfold am_ev
  rw [if_pos hk]
  congr 2
  apply List.ext_getElem?
  intro c
  rw [List.getElem?_map, List.getElem?_set, List.getElem?_map, List.length_map]
  by_cases hc : j = c
  · subst hc
    rw [if_pos rfl]
    by_cases hl : j < (List.range (am_n k)).length
    · rw [if_pos hl, List.getElem?_eq_getElem hl]
      simp only [List.getElem_range, Option.map_some, hv]
    · rw [if_neg hl, List.getElem?_eq_none (Nat.not_lt.mp hl)]
      rfl
  · rw [if_neg hc]
    cases hq : (List.range (am_n k))[c]? with
    | none => rfl
    | some d =>
      have hd : d = c := by
        have h1 := List.getElem?_eq_some_iff.mp hq
        obtain ⟨h2, h3⟩ := h1
        rw [List.getElem_range] at h3
        exact h3.symm
      subst hd
      simp only [Option.map_some]
      rw [hn d (fun z => hc z.symm)]
theorem am_fv_selfI {X : am_X} {σ : am_H} {k i j : Nat} {v : Int32} (h : (am_ft k j).1 = 0 ∨ (am_ft k j).1 = 4) : am_fv X (am_wI σ k i j v) k i j = .int v := by
  have e : (am_wI σ k i j v).1 k i j = v := by
    show am_u3 _ _ _ _ _ _ _ _ = _
    rw [am_u3_eq, if_pos rfl]
  unfold am_fv
  rcases hq : am_ft k j with ⟨a, b, c⟩
  rw [hq] at h
  rcases h with h | h <;> (dsimp only at h; subst h; exact congrArg Value.int e)
theorem am_fv_restI {X : am_X} {σ : am_H} {k i j : Nat} {v : Int32} (c : Nat) (h : ¬ c = j) : am_fv X (am_wI σ k i j v) k i c = am_fv X σ k i c := by
  have e : (am_wI σ k i j v).1 k i c = σ.1 k i c := by
    show am_u3 _ _ _ _ _ _ _ _ = _
    rw [am_u3_eq, if_neg h]
  unfold am_fv
  rw [e]
  rfl
theorem am_fv_selfL {X : am_X} {σ : am_H} {k i j : Nat} {v : Int64} (h : (am_ft k j).1 = 1) : am_fv X (am_wL σ k i j v) k i j = .long v := by
  have e : (am_wL σ k i j v).2.1 k i j = v := by
    show am_u3 _ _ _ _ _ _ _ _ = _
    rw [am_u3_eq, if_pos rfl]
  unfold am_fv
  rcases hq : am_ft k j with ⟨a, b, c⟩
  rw [hq] at h
  dsimp only at h
  subst h
  exact congrArg Value.long e
theorem am_fv_restL {X : am_X} {σ : am_H} {k i j : Nat} {v : Int64} (c : Nat) (h : ¬ c = j) : am_fv X (am_wL σ k i j v) k i c = am_fv X σ k i c := by
  have e : (am_wL σ k i j v).2.1 k i c = σ.2.1 k i c := by
    show am_u3 _ _ _ _ _ _ _ _ = _
    rw [am_u3_eq, if_neg h]
  unfold am_fv
  rw [e]
  rfl
theorem am_fv_selfR {X : am_X} {σ : am_H} {k i j t : Nat} {v : Option Nat} (h : am_ft k j = (3, t, 0)) : am_fv X (am_wR σ k i j v) k i j = va_rf (v.map (am_ad X t)) := by
  have e : (am_wR σ k i j v).2.2 k i j = v := by
    show am_u3 _ _ _ _ _ _ _ _ = _
    rw [am_u3_eq, if_pos rfl]
  unfold am_fv
  rw [h]
  show va_rf (((am_wR σ k i j v).2.2 k i j).map (am_ad X t)) = _
  rw [e]
theorem am_fv_restR {X : am_X} {σ : am_H} {k i j : Nat} {v : Option Nat} (c : Nat) (h : ¬ c = j) : am_fv X (am_wR σ k i j v) k i c = am_fv X σ k i c := by
  have e : (am_wR σ k i j v).2.2 k i c = σ.2.2 k i c := by
    show am_u3 _ _ _ _ _ _ _ _ = _
    rw [am_u3_eq, if_neg h]
  unfold am_fv
  rw [e]
  rfl
theorem am_ev_at {X : am_X} {σ : am_H} {k i : Nat} (hk : ¬ k < 13) : am_ev X σ k i = .inl (am_cA X k, (am_at k).2.1, am_ct X σ k i) := if_neg hk
theorem am_ct_I {X : am_X} {σ : am_H} {k i : Nat} (h : (am_at k).1 = 0 ∨ (am_at k).1 = 2 ∨ (am_at k).1 = 3) : am_ct X σ k i = .inl (σ.1 k i) := by
  unfold am_ct
  rcases h with h | h | h <;> (rw [h]; rfl)
theorem am_ct_L {X : am_X} {σ : am_H} {k i : Nat} (h : (am_at k).1 = 1) : am_ct X σ k i = .inr (.inl (σ.2.1 k i)) := by
  unfold am_ct
  rw [h]
  rfl
theorem am_tyat {X : am_X} {k : Nat} (h : k ∈ am_aks) : ∃ t0 : Nat, (am_ty X)[t0]? = some (am_cA X k, am_ety k) := List.getElem?_of_mem (List.mem_map.mpr ⟨k, h, rfl⟩)
theorem am_updI {σ : am_H} {k i j : Nat} {v : Int32} : (am_wI σ k i j v).1 k i = upd (σ.1 k i) j v := by
  funext c
  show am_u3 _ _ _ _ _ _ _ _ = _
  rw [am_u3_eq]
  rfl
theorem am_updL {σ : am_H} {k i j : Nat} {v : Int64} : (am_wL σ k i j v).2.1 k i = vp_updL (σ.2.1 k i) j v := by
  funext c
  show am_u3 _ _ _ _ _ _ _ _ = _
  rw [am_u3_eq]
  rfl

section
variable {X : am_X} {Γ : am_M} {Q : Option Value → am_H → Prop} {pc : Nat} {lv : List (Nat × Value)} {st : List Value} {σ : am_H}
/-- what is known of an object's kind: its class, its words -/
def am_kd (k : Nat) (C : String) (T : u_T) (N : Nat) (ty : Nat → FieldType) : Prop := k < 13 ∧ vwCl[k]? = some (C, T, N) ∧ am_n k = N ∧ (∀ w ∈ u_ws C T N, w ∈ lw_tbl ∧ am_ok w = true) ∧ (∀ j, j < N → parseFieldDescriptor (T j).2.2.1 = some (ty j)) ∧ (∀ a, a < N → ∀ b, b < N → a ≠ b → (T a).2.1 ≠ (T b).2.1)
/-- a field's link from a class: the plain one, or a nest mate's -/
def am_fk (own : String) (idx : Nat) (T : u_T) (j : Nat) : Prop := Cond.fieldLink own idx (T j).1 (T j).2.1 (T j).2.2.1 ∈ lw_tbl ∨ ∃ host, Cond.fieldLinkNest own idx (T j).1 (T j).2.1 (T j).2.2.1 host ∈ lw_tbl
theorem am_fs_at {k i j N : Nat} (hN : am_n k = N) (hj : j < N) : ((List.range (am_n k)).map (am_fv X σ k i))[j]? = some (am_fv X σ k i j) := by
  rw [List.getElem?_map, List.getElem?_range (by omega)]
  rfl
theorem am_ob {k i : Nat} {C : String} {T : u_T} {N : Nat} {ty : Nat → FieldType} (hd : am_kd k C T N ty) : am_ev X σ k i = .inr (k, (List.range (am_n k)).map (am_fv X σ k i)) := if_pos hd.1
theorem g_get {k i j idx : Nat} {C : String} {T : u_T} {N : Nat} {ty : Nat → FieldType} (hd : am_kd k C T N ty) (hi : (k, i) ∈ am_ks X) (hj : j < N) (hf : am_fk Γ.1.cls idx T j) {v : Value} (hv : am_fv X σ k i j = v) (d : decode Γ.2.1 pc = .ok (.getfield idx, 3)) (kk : am_G X Γ Q (pc + 3) lv (v :: st) σ) : am_G X Γ Q pc lv (.ref (am_ad X k i) :: st) σ := by
  intro p e R s m args below meth c S H locs ls hP hS hl
  obtain ⟨hx, hb, -, -, hown, -, hT, -, hK, -⟩ := id S
  obtain ⟨q, hq⟩ := am_key hi
  have h1 := am_wl_at (σ := σ) hq
  rw [am_ob hd] at h1
  subst hv
  rcases hf with hf | ⟨host, hf⟩
  · exact va_get hx hb (Ts := u_ws C T N) (fun w hw => hT.a (hd.2.2.2.1 w hw).1 (hd.2.2.2.1 w hw).2) (fun _ h => h) hown hK hP q h1 hd.2.1 j hj (hT.a hf rfl) (fun _ h => h) (am_fs_at hd.2.2.1 hj) d (kk p e R s m args below meth c S H locs ls hP hS hl)
  · exact va_getN hx hb (Ts := u_ws C T N) (fun w hw => hT.a (hd.2.2.2.1 w hw).1 (hd.2.2.2.1 w hw).2) (fun _ h => h) hown hK hP q h1 hd.2.1 j hj (hT.a hf rfl) (fun _ h => h) (am_fs_at hd.2.2.1 hj) d (kk p e R s m args below meth c S H locs ls hP hS hl)
theorem g_put {k i j idx : Nat} {C : String} {T : u_T} {N : Nat} {ty : Nat → FieldType} (hd : am_kd k C T N ty) (hi : (k, i) ∈ am_ks X) (hj : j < N) (hf : am_fk Γ.1.cls idx T j) (hfin : (T j).2.2.2 = false) {v : Value} (hn : narrow (ty j) v = v) (hfit : fits (ty j) v = true) {σ' : am_H} (he : am_ev X σ' k i = .inr (k, ((List.range (am_n k)).map (am_fv X σ k i)).set j v)) (hne : ∀ a b, ¬ (a = k ∧ b = i) → am_ev X σ' a b = am_ev X σ a b) (d : decode Γ.2.1 pc = .ok (.putfield idx, 3)) (kk : am_G X Γ Q (pc + 3) lv st σ') : am_G X Γ Q pc lv (v :: .ref (am_ad X k i) :: st) σ := by
  intro p e R s m args below meth c S H locs ls hP hS hl
  obtain ⟨hx, hb, -, -, hown, -, hT, -, hK, -, hJ⟩ := id S
  obtain ⟨q, hq⟩ := am_key hi
  have h1 := am_wl_at (σ := σ) hq
  rw [am_ob hd] at h1
  have hlen : j < ((List.range (am_n k)).map (am_fv X σ k i)).length := by
    rw [List.length_map, List.length_range, hd.2.2.1]; exact hj
  have hset := am_set (σ := σ) hJ hq he hne
  rcases hf with hf | ⟨host, hf⟩
  · exact va_put hx hb (Ts := u_ws C T N) (fun w hw => hT.a (hd.2.2.2.1 w hw).1 (hd.2.2.2.1 w hw).2) (fun _ h => h) ty hd.2.2.2.2.1 hd.2.2.2.2.2 hown hK hP (am_Dl hJ) hS q h1 hd.2.1 j hj (hT.a hf rfl) (fun _ h => h) hfin (hd.2.2.2.2.1 j hj) hn hfit hlen d (fun H1 locs1 hP1 hD1 hS1 => kk p e R s m args below meth c S H1 locs1 ls (by rw [← hset]; exact hP1) hS1 hl)
  · exact va_putN hx hb (Ts := u_ws C T N) (fun w hw => hT.a (hd.2.2.2.1 w hw).1 (hd.2.2.2.1 w hw).2) (fun _ h => h) ty hd.2.2.2.2.1 hd.2.2.2.2.2 hown hK hP (am_Dl hJ) hS q h1 hd.2.1 j hj (hT.a hf rfl) (fun _ h => h) hfin (hd.2.2.2.2.1 j hj) hn hfit hlen d (fun H1 locs1 hP1 hD1 hS1 => kk p e R s m args below meth c S H1 locs1 ls (by rw [← hset]; exact hP1) hS1 hl)
theorem g_putI {k i j idx : Nat} {C : String} {T : u_T} {N : Nat} {ty : Nat → FieldType} (hd : am_kd k C T N ty) (hi : (k, i) ∈ am_ks X) (hj : j < N) (hf : am_fk Γ.1.cls idx T j) (hfin : (T j).2.2.2 = false) (ht : ty j = .int) (h0 : (am_ft k j).1 = 0) {x : Int32} (d : decode Γ.2.1 pc = .ok (.putfield idx, 3)) (kk : am_G X Γ Q (pc + 3) lv st (am_wI σ k i j x)) : am_G X Γ Q pc lv (.int x :: .ref (am_ad X k i) :: st) σ :=
  g_put hd hi hj hf hfin (by rw [ht]; rfl) (by rw [ht]; rfl) (am_ev_obj hd.1 (am_fv_selfI (Or.inl h0)) (fun c hc => am_fv_restI c hc)) (fun a b h => am_ev_neI h) d kk
theorem g_putZ {k i j idx : Nat} {C : String} {T : u_T} {N : Nat} {ty : Nat → FieldType} (hd : am_kd k C T N ty) (hi : (k, i) ∈ am_ks X) (hj : j < N) (hf : am_fk Γ.1.cls idx T j) (hfin : (T j).2.2.2 = false) (ht : ty j = .boolean) (h0 : (am_ft k j).1 = 4) {x : Bool} (d : decode Γ.2.1 pc = .ok (.putfield idx, 3)) (kk : am_G X Γ Q (pc + 3) lv st (am_wI σ k i j (am_b x))) : am_G X Γ Q pc lv (.int (am_b x) :: .ref (am_ad X k i) :: st) σ :=
  g_put hd hi hj hf hfin (by rw [ht]; cases x <;> rfl) (by rw [ht]; cases x <;> rfl) (am_ev_obj hd.1 (am_fv_selfI (Or.inr h0)) (fun c hc => am_fv_restI c hc)) (fun a b h => am_ev_neI h) d kk
theorem g_putL {k i j idx : Nat} {C : String} {T : u_T} {N : Nat} {ty : Nat → FieldType} (hd : am_kd k C T N ty) (hi : (k, i) ∈ am_ks X) (hj : j < N) (hf : am_fk Γ.1.cls idx T j) (hfin : (T j).2.2.2 = false) (ht : ty j = .long) (h0 : (am_ft k j).1 = 1) {x : Int64} (d : decode Γ.2.1 pc = .ok (.putfield idx, 3)) (kk : am_G X Γ Q (pc + 3) lv st (am_wL σ k i j x)) : am_G X Γ Q pc lv (.long x :: .ref (am_ad X k i) :: st) σ :=
  g_put hd hi hj hf hfin (by rw [ht]; rfl) (by rw [ht]; rfl) (am_ev_obj hd.1 (am_fv_selfL h0) (fun c hc => am_fv_restL c hc)) (fun a b h => am_ev_neL h) d kk
theorem g_putR {k i j idx t a : Nat} {C D : String} {T : u_T} {N : Nat} {ty : Nat → FieldType} (hd : am_kd k C T N ty) (hi : (k, i) ∈ am_ks X) (hj : j < N) (hf : am_fk Γ.1.cls idx T j) (hfin : (T j).2.2.2 = false) (ht : ty j = .object D) (h0 : am_ft k j = (3, t, 0)) (d : decode Γ.2.1 pc = .ok (.putfield idx, 3)) (kk : am_G X Γ Q (pc + 3) lv st (am_wR σ k i j (some a))) : am_G X Γ Q pc lv (.ref (am_ad X t a) :: .ref (am_ad X k i) :: st) σ :=
  g_put hd hi hj hf hfin (by rw [ht]; rfl) (by rw [ht]; rfl) (am_ev_obj hd.1 (am_fv_selfR (v := some a) h0) (fun c hc => am_fv_restR c hc)) (fun a b h => am_ev_neR h) d kk
end
