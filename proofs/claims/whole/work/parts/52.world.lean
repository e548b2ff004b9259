def am_cK (c : Nat → ClassId) (k : Nat) : ClassId := match am_at k with
  | (0, _, _) => c 0
  | (1, _, _) => c 1
  | (2, _, _) => c 2
  | (3, _, _) => c 3
  | (_, _, 8) => c 4
  | (_, _, 3) => c 5
  | _ => c 6
/-- the place of a key among the keys -/
def am_adL (ks : List (Nat × Nat)) (v : List Nat) (k i : Nat) : Nat := v.getD (ks.idxOf (k, i)) 0
theorem am_J_of {X : am_X} {v : List Nat} (had : am_ad X = am_adL (am_ks X) v) (hk : (am_ks X).Nodup) (hv : v.Nodup) (hl : v.length = (am_ks X).length) : am_J X := by
  intro i j p q hi hj he
  obtain ⟨li, ei⟩ := List.getElem?_eq_some_iff.mp hi
  obtain ⟨lj, ej⟩ := List.getElem?_eq_some_iff.mp hj
  rw [had] at he
  unfold am_adL at he
  have e1 : (am_ks X).idxOf (p.1, p.2) = i := by
    show (am_ks X).idxOf p = i
    rw [← ei]
    exact hk.idxOf_getElem i li
  have e2 : (am_ks X).idxOf (q.1, q.2) = j := by
    show (am_ks X).idxOf q = j
    rw [← ej]
    exact hk.idxOf_getElem j lj
  rw [e1, e2] at he
  rw [List.getD_eq_getElem?_getD, List.getD_eq_getElem?_getD, List.getElem?_eq_getElem (by omega), List.getElem?_eq_getElem (by omega)] at he
  have hv : List.Pairwise (· ≠ ·) v := hv
  rw [List.pairwise_iff_getElem] at hv
  rcases Nat.lt_trichotomy i j with h | h | h
  · exact absurd he (hv i j (by omega) (by omega) h)
  · exact h
  · exact absurd he.symm (hv j i (by omega) (by omega) h)
theorem am_A_of {X : am_X} {v : List Nat} (had : am_ad X = am_adL (am_ks X) v) (hk : (am_ks X).Nodup) (hl : v.length = (am_ks X).length) {q : Nat} (h : am_A X q) : q ∈ v := by
  obtain ⟨p, hp, e⟩ := h
  obtain ⟨i, hi⟩ := List.getElem?_of_mem hp
  obtain ⟨li, ei⟩ := List.getElem?_eq_some_iff.mp hi
  rw [had] at e
  unfold am_adL at e
  have e1 : (am_ks X).idxOf (p.1, p.2) = i := by
    show (am_ks X).idxOf p = i
    rw [← ei]
    exact hk.idxOf_getElem i li
  rw [e1, List.getD_eq_getElem?_getD, List.getElem?_eq_getElem (by omega)] at e
  rw [e]
  exact List.getElem_mem _
theorem am_permI {l l' : List Nat} {n : Nat} (is : List Nat) (h1 : is.map (fun i => l.getD i 0) = l') (hn : l.length = n) (h2 : is.Perm (List.range n)) : l'.Perm l := by
  subst h1
  subst hn
  have h3 : (List.range l.length).map (fun i => l.getD i 0) = l := by
    apply List.ext_getElem?
    intro i
    rw [List.getElem?_map]
    by_cases hi : i < l.length
    · rw [List.getElem?_range hi]
      simp [hi]
    · rw [List.getElem?_eq_none (by simpa using hi), List.getElem?_eq_none (by simpa using hi)]
      rfl
  exact (h2.map _).trans (by rw [h3])
theorem am_atq {D : va_G} {a : Nat} {cA : ClassId} {n : Nat} {f g : Nat → Option Nat} {H : Heap} (h : va_at D vwCl (a, .inl (cA, n, .inr (.inr (.inr (.inr f))))) H) (he : ∀ j, j < n → f j = g j) : va_at D vwCl (a, .inl (cA, n, .inr (.inr (.inr (.inr g))))) H := by
  have e : vp_cell cA (n, .inr (.inr (.inr (.inr f)))) = vp_cell cA (n, .inr (.inr (.inr (.inr g)))) := by
    rw [vp_cell_q, vp_cell_q]
    unfold arrV
    congr 2
    funext j
    show va_rf (f j.1) = va_rf (g j.1)
    rw [he j.1 j.2]
  show H[a]? = some (vp_cell cA (n, .inr (.inr (.inr (.inr g)))))
  rw [← e]
  exact h
theorem am_Pw {X : am_X} {σ : am_H} {H : Heap} (h : ∀ q ∈ am_ks X, va_at (am_D X) vwCl (am_ad X q.1 q.2, am_ev X σ q.1 q.2) H) : va_P (am_D X) vwCl (am_wl X σ) H := by
  intro k q hq
  unfold am_wl at hq
  rw [List.getElem?_map] at hq
  cases hk : (am_ks X)[k]? with
  | none => rw [hk] at hq; cases hq
  | some p => rw [hk] at hq; cases hq; exact h p (List.mem_of_getElem? hk)
theorem am_ksC_nd : am_ksC.Nodup := by decide +kernel
theorem am_ksM_nd : am_ksM.Nodup := by decide +kernel
/-- the numbers at the start -/
def am_zC : am_H := (fun k _ => match k with
  | 0 => fun j => match j with
    | 7 => (-1)
    | 9 => (-1)
    | 13 => (-1)
    | _ => 0
  | 2 => fun j => match j with
    | 4 => (-1)
    | 7 => 23
    | _ => 0
  | 3 => fun j => match j with
    | 5 => (-1)
    | 6 => (-1)
    | _ => 0
  | 5 => fun j => match j with
    | 7 => (-1)
    | 8 => (-1)
    | _ => 0
  | 8 => fun j => match j with
    | 0 => (-1)
    | _ => 0
  | 10 => fun j => match j with
    | 1 => 1
    | 2 => 1
    | _ => 0
  | 1106 => (upd (upd (upd (upd (fun _ => 0) 0 1) 1 1) 2 1) 3 1)
  | _ => fun _ => 0, fun k _ => match k with
  | 10 => fun j => match j with
    | 7 => 1
    | 8 => 1
    | _ => 0
  | 11 => fun j => match j with
    | 2 => 1
    | _ => 0
  | _ => fun _ => 0, fun k _ => match k with
  | 11 => fun j => match j with
    | 6 => some 2
    | 7 => some 0
    | 8 => some 1
    | _ => none
  | 1205 => fun j => match j with
    | 0 => some 0
    | 1 => some 1
    | _ => none
  | _ => fun _ => none)
/-- the numbers at the start -/
def am_zM : am_H := (fun k _ => match k with
  | 12 => fun j => match j with
    | 10 => (-1)
    | 11 => (-1)
    | 32 => (-1)
    | 42 => (-1)
    | 49 => (-1)
    | 52 => 23
    | 60 => (-1)
    | _ => 0
  | 1305 => (upd (upd (upd (upd (upd (fun _ => 0) 0 (-1)) 1 (-1)) 2 (-1)) 3 (-1)) 4 (-1))
  | _ => fun _ => 0, fun k _ => match k with
  | 12 => fun j => match j with
    | 3 => 1
    | _ => 0
  | _ => fun _ => 0, fun k _ => match k with
  | _ => fun _ => none)
abbrev am_WC (l : Launch) (D : va_G) (c : Nat → ClassId) (v : List Nat) (kK kV : Nat → Nat) (co : Nat) : am_X := (l, D.1, D.2, am_cK c, am_adL am_ksC v, am_ksC, true, kK, kV, co)
set_option maxRecDepth 100000 in
set_option maxHeartbeats 4000000 in
theorem am_wlC {l : Launch} {D : va_G} {c : Nat → ClassId} {kK kV : Nat → Nat} {co : Nat} {H : Heap} {q14 q3 h0 q104 q103 q102 q101 q100 q99 q98 q97 q96 q95 q94 q93 q92 q91 q90 q89 q88 q87 q86 q85 q84 q83 q82 q81 q80 q79 q78 q77 q76 q75 q74 q73 q72 q71 q70 q69 q68 q67 q66 q65 q64 q63 q50 q49 q48 q47 q62 q61 q60 q59 q58 q57 q56 q55 q54 q53 q52 q51 q34 q33 q32 q31 q46 q45 q44 q43 q42 q41 q40 q39 q38 q37 q36 q35 q18 q17 q16 q15 q30 q29 q28 q27 q26 q25 q24 q23 q22 q21 q20 q19 q13 q12 q11 q10 q9 q8 q7 q6 q5 q4 q2 q1 : Nat} (hP : va_P D vwCl [(q14, .inl (c 5, 2, .inr (.inr (.inr (.inr (va_up (va_up (fun _ => none) 0 (some q15)) 1 (some q31))))))), (q3, .inl (c 4, 5, .inr (.inr (.inr (.inr (va_up (va_up (va_up (va_up (va_up (fun _ => none) 0 (some q4)) 1 (some q6)) 2 (some q8)) 3 (some q10)) 4 (some q12))))))), (h0, .inr (11, [.int 0, .long 0, .long 1, .ref q1, .ref q3, .ref q14, .ref q47, .ref q63, .ref q69, .ref q75, .ref q78, .ref q86, .ref q88, .ref q94, .ref q100, .ref q104])), (q104, .inr (2, [.int 0, .int 0, .int 0, .int 0, .int (-1), .int 0, .int 0, .int 23])), (q103, .inl (c 0, 48, .inl (fun _ => 0))), (q102, .inl (c 0, 24, .inl (fun _ => 0))), (q101, .inl (c 0, 48, .inl (fun _ => 0))), (q100, .inr (0, [.ref q101, .ref q102, .ref q103, .int 0, .int 0, .int 0, .int 0, .int (-1), .int 0, .int (-1), .int 0, .int 0, .int 0, .int (-1), .int 0, .int 0, .int 0])), (q99, .inl (c 1, 5, .inr (.inl (fun _ => 0)))), (q98, .inl (c 1, 25, .inr (.inl (fun _ => 0)))), (q97, .inl (c 1, 5, .inr (.inl (fun _ => 0)))), (q96, .inl (c 0, 24, .inl (fun _ => 0))), (q95, .inl (c 0, 24, .inl (fun _ => 0))), (q94, .inr (1, [.int 0, .ref q95, .ref q96, .int 0, .ref q97, .ref q98, .ref q99, .long 0])), (q93, .inl (c 1, 5, .inr (.inl (fun _ => 0)))), (q92, .inl (c 1, 25, .inr (.inl (fun _ => 0)))), (q91, .inl (c 1, 5, .inr (.inl (fun _ => 0)))), (q90, .inl (c 0, 24, .inl (fun _ => 0))), (q89, .inl (c 0, 24, .inl (fun _ => 0))), (q88, .inr (1, [.int 0, .ref q89, .ref q90, .int 0, .ref q91, .ref q92, .ref q93, .long 0])), (q87, .inl (c 0, 4, .inl (fun _ => 0))), (q86, .inr (6, [.int 0, .long 0, .long 0, .int 0, .ref q87])), (q85, .inl (c 0, 6, .inl (fun _ => 0))), (q84, .inl (c 0, 4, .inl (fun _ => 0))), (q83, .inl (c 0, 4, .inl (fun _ => 0))), (q82, .inl (c 3, 300, .inl (fun _ => 0))), (q81, .inl (c 0, 6, .inl (fun _ => 0))), (q80, .inl (c 0, 6, .inl (fun _ => 0))), (q79, .inl (c 0, 10, .inl (fun _ => 0))), (q78, .inr (7, [.null, .null, .int 0, .ref q79, .ref q80, .ref q81, .ref q82, .ref q83, .int 0, .long 0, .long 0, .ref q84, .int 0, .ref q85, .int 0])), (q77, .inl (c 0, 30, .inl (fun _ => 0))), (q76, .inl (c 0, 80, .inl (fun _ => 0))), (q75, .inr (9, [.null, .null, .int 0, .int 0, .ref q76, .int 0, .int 0, .int 0, .long 0, .int 0, .ref q77, .int 0])), (q74, .inl (c 0, 3, .inl (fun _ => 0))), (q73, .inl (c 0, 80, .inl (fun _ => 0))), (q72, .inl (c 0, 80, .inl (fun _ => 0))), (q71, .inl (c 0, 80, .inl (fun _ => 0))), (q70, .inl (c 0, 80, .inl (fun _ => 0))), (q69, .inr (4, [.ref q70, .ref q71, .ref q72, .ref q73, .int 0, .int 0, .ref q74, .int 0])), (q68, .inl (c 0, 3, .inl (fun _ => 0))), (q67, .inl (c 0, 80, .inl (fun _ => 0))), (q66, .inl (c 0, 80, .inl (fun _ => 0))), (q65, .inl (c 0, 80, .inl (fun _ => 0))), (q64, .inl (c 0, 80, .inl (fun _ => 0))), (q63, .inr (4, [.ref q64, .ref q65, .ref q66, .ref q67, .int 0, .int 0, .ref q68, .int 0])), (q50, .inl (c 6, 6, .inr (.inr (.inr (.inr (va_up (va_up (va_up (va_up (va_up (va_up (fun _ => none) 0 (some q51)) 1 (some q53)) 2 (some q55)) 3 (some q57)) 4 (some q59)) 5 (some q61))))))), (q49, .inl (c 0, 10, .inl (fun _ => 0))), (q48, .inl (c 0, 10, .inl (fun _ => 0))), (q47, .inr (3, [.ref q50, .int 0, .ref q48, .ref q49, .int 0, .int (-1), .int (-1)])), (q62, .inl (c 0, 4, .inl (upd (upd (upd (upd (fun _ => 0) 0 1) 1 1) 2 1) 3 1))), (q61, .inr (10, [.long 0, .int 1, .int 1, .int 0, .int 0, .int 0, .ref q62, .long 1, .long 1])), (q60, .inl (c 0, 4, .inl (upd (upd (upd (upd (fun _ => 0) 0 1) 1 1) 2 1) 3 1))), (q59, .inr (10, [.long 0, .int 1, .int 1, .int 0, .int 0, .int 0, .ref q60, .long 1, .long 1])), (q58, .inl (c 0, 4, .inl (upd (upd (upd (upd (fun _ => 0) 0 1) 1 1) 2 1) 3 1))), (q57, .inr (10, [.long 0, .int 1, .int 1, .int 0, .int 0, .int 0, .ref q58, .long 1, .long 1])), (q56, .inl (c 0, 4, .inl (upd (upd (upd (upd (fun _ => 0) 0 1) 1 1) 2 1) 3 1))), (q55, .inr (10, [.long 0, .int 1, .int 1, .int 0, .int 0, .int 0, .ref q56, .long 1, .long 1])), (q54, .inl (c 0, 4, .inl (upd (upd (upd (upd (fun _ => 0) 0 1) 1 1) 2 1) 3 1))), (q53, .inr (10, [.long 0, .int 1, .int 1, .int 0, .int 0, .int 0, .ref q54, .long 1, .long 1])), (q52, .inl (c 0, 4, .inl (upd (upd (upd (upd (fun _ => 0) 0 1) 1 1) 2 1) 3 1))), (q51, .inr (10, [.long 0, .int 1, .int 1, .int 0, .int 0, .int 0, .ref q52, .long 1, .long 1])), (q34, .inl (c 6, 6, .inr (.inr (.inr (.inr (va_up (va_up (va_up (va_up (va_up (va_up (fun _ => none) 0 (some q35)) 1 (some q37)) 2 (some q39)) 3 (some q41)) 4 (some q43)) 5 (some q45))))))), (q33, .inl (c 0, 10, .inl (fun _ => 0))), (q32, .inl (c 0, 10, .inl (fun _ => 0))), (q31, .inr (3, [.ref q34, .int 0, .ref q32, .ref q33, .int 0, .int (-1), .int (-1)])), (q46, .inl (c 0, 4, .inl (upd (upd (upd (upd (fun _ => 0) 0 1) 1 1) 2 1) 3 1))), (q45, .inr (10, [.long 0, .int 1, .int 1, .int 0, .int 0, .int 0, .ref q46, .long 1, .long 1])), (q44, .inl (c 0, 4, .inl (upd (upd (upd (upd (fun _ => 0) 0 1) 1 1) 2 1) 3 1))), (q43, .inr (10, [.long 0, .int 1, .int 1, .int 0, .int 0, .int 0, .ref q44, .long 1, .long 1])), (q42, .inl (c 0, 4, .inl (upd (upd (upd (upd (fun _ => 0) 0 1) 1 1) 2 1) 3 1))), (q41, .inr (10, [.long 0, .int 1, .int 1, .int 0, .int 0, .int 0, .ref q42, .long 1, .long 1])), (q40, .inl (c 0, 4, .inl (upd (upd (upd (upd (fun _ => 0) 0 1) 1 1) 2 1) 3 1))), (q39, .inr (10, [.long 0, .int 1, .int 1, .int 0, .int 0, .int 0, .ref q40, .long 1, .long 1])), (q38, .inl (c 0, 4, .inl (upd (upd (upd (upd (fun _ => 0) 0 1) 1 1) 2 1) 3 1))), (q37, .inr (10, [.long 0, .int 1, .int 1, .int 0, .int 0, .int 0, .ref q38, .long 1, .long 1])), (q36, .inl (c 0, 4, .inl (upd (upd (upd (upd (fun _ => 0) 0 1) 1 1) 2 1) 3 1))), (q35, .inr (10, [.long 0, .int 1, .int 1, .int 0, .int 0, .int 0, .ref q36, .long 1, .long 1])), (q18, .inl (c 6, 6, .inr (.inr (.inr (.inr (va_up (va_up (va_up (va_up (va_up (va_up (fun _ => none) 0 (some q19)) 1 (some q21)) 2 (some q23)) 3 (some q25)) 4 (some q27)) 5 (some q29))))))), (q17, .inl (c 0, 10, .inl (fun _ => 0))), (q16, .inl (c 0, 10, .inl (fun _ => 0))), (q15, .inr (3, [.ref q18, .int 0, .ref q16, .ref q17, .int 0, .int (-1), .int (-1)])), (q30, .inl (c 0, 4, .inl (upd (upd (upd (upd (fun _ => 0) 0 1) 1 1) 2 1) 3 1))), (q29, .inr (10, [.long 0, .int 1, .int 1, .int 0, .int 0, .int 0, .ref q30, .long 1, .long 1])), (q28, .inl (c 0, 4, .inl (upd (upd (upd (upd (fun _ => 0) 0 1) 1 1) 2 1) 3 1))), (q27, .inr (10, [.long 0, .int 1, .int 1, .int 0, .int 0, .int 0, .ref q28, .long 1, .long 1])), (q26, .inl (c 0, 4, .inl (upd (upd (upd (upd (fun _ => 0) 0 1) 1 1) 2 1) 3 1))), (q25, .inr (10, [.long 0, .int 1, .int 1, .int 0, .int 0, .int 0, .ref q26, .long 1, .long 1])), (q24, .inl (c 0, 4, .inl (upd (upd (upd (upd (fun _ => 0) 0 1) 1 1) 2 1) 3 1))), (q23, .inr (10, [.long 0, .int 1, .int 1, .int 0, .int 0, .int 0, .ref q24, .long 1, .long 1])), (q22, .inl (c 0, 4, .inl (upd (upd (upd (upd (fun _ => 0) 0 1) 1 1) 2 1) 3 1))), (q21, .inr (10, [.long 0, .int 1, .int 1, .int 0, .int 0, .int 0, .ref q22, .long 1, .long 1])), (q20, .inl (c 0, 4, .inl (upd (upd (upd (upd (fun _ => 0) 0 1) 1 1) 2 1) 3 1))), (q19, .inr (10, [.long 0, .int 1, .int 1, .int 0, .int 0, .int 0, .ref q20, .long 1, .long 1])), (q13, .inl (c 1, 60, .inr (.inl (fun _ => 0)))), (q12, .inr (8, [.int (-1), .int 0, .ref q13])), (q11, .inl (c 1, 60, .inr (.inl (fun _ => 0)))), (q10, .inr (8, [.int (-1), .int 0, .ref q11])), (q9, .inl (c 1, 60, .inr (.inl (fun _ => 0)))), (q8, .inr (8, [.int (-1), .int 0, .ref q9])), (q7, .inl (c 1, 60, .inr (.inl (fun _ => 0)))), (q6, .inr (8, [.int (-1), .int 0, .ref q7])), (q5, .inl (c 1, 60, .inr (.inl (fun _ => 0)))), (q4, .inr (8, [.int (-1), .int 0, .ref q5])), (q2, .inl (c 2, 600, .inl (fun _ => 0))), (q1, .inr (5, [.ref q2, .int 0, .int 0, .int 0, .int 0, .int 0, .int 0, .int (-1), .int (-1)]))] H) : va_P D vwCl (am_wl (am_WC l D c [q100, q88, q94, q104, q15, q31, q47, q63, q69, q1, q86, q78, q4, q6, q8, q10, q12, q75, q19, q21, q23, q25, q27, q29, q35, q37, q39, q41, q43, q45, q51, q53, q55, q57, q59, q61, h0, q101, q102, q103, q89, q95, q90, q96, q91, q97, q92, q98, q93, q99, q18, q34, q50, q16, q32, q48, q17, q33, q49, q64, q70, q65, q71, q66, q72, q67, q73, q68, q74, q2, q87, q79, q80, q81, q82, q83, q84, q85, q5, q7, q9, q11, q13, q76, q77, q20, q22, q24, q26, q28, q30, q36, q38, q40, q42, q44, q46, q52, q54, q56, q58, q60, q62, q3, q14] kK kV co) am_zC) H := by
  refine am_Pw (X := am_WC l D c [q100, q88, q94, q104, q15, q31, q47, q63, q69, q1, q86, q78, q4, q6, q8, q10, q12, q75, q19, q21, q23, q25, q27, q29, q35, q37, q39, q41, q43, q45, q51, q53, q55, q57, q59, q61, h0, q101, q102, q103, q89, q95, q90, q96, q91, q97, q92, q98, q93, q99, q18, q34, q50, q16, q32, q48, q17, q33, q49, q64, q70, q65, q71, q66, q72, q67, q73, q68, q74, q2, q87, q79, q80, q81, q82, q83, q84, q85, q5, q7, q9, q11, q13, q76, q77, q20, q22, q24, q26, q28, q30, q36, q38, q40, q42, q44, q46, q52, q54, q56, q58, q60, q62, q3, q14] kK kV co) ?_
  show ∀ q ∈ am_ksC, _
  unfold am_ksC
  refine List.forall_mem_cons.mpr ⟨hP 7 _ rfl, ?_⟩
  refine List.forall_mem_cons.mpr ⟨hP 19 _ rfl, ?_⟩
  refine List.forall_mem_cons.mpr ⟨hP 13 _ rfl, ?_⟩
  refine List.forall_mem_cons.mpr ⟨hP 3 _ rfl, ?_⟩
  refine List.forall_mem_cons.mpr ⟨hP 80 _ rfl, ?_⟩
  refine List.forall_mem_cons.mpr ⟨hP 64 _ rfl, ?_⟩
  refine List.forall_mem_cons.mpr ⟨hP 48 _ rfl, ?_⟩
  refine List.forall_mem_cons.mpr ⟨hP 44 _ rfl, ?_⟩
  refine List.forall_mem_cons.mpr ⟨hP 38 _ rfl, ?_⟩
  refine List.forall_mem_cons.mpr ⟨hP 104 _ rfl, ?_⟩
  refine List.forall_mem_cons.mpr ⟨hP 21 _ rfl, ?_⟩
  refine List.forall_mem_cons.mpr ⟨hP 29 _ rfl, ?_⟩
  refine List.forall_mem_cons.mpr ⟨hP 102 _ rfl, ?_⟩
  refine List.forall_mem_cons.mpr ⟨hP 100 _ rfl, ?_⟩
  refine List.forall_mem_cons.mpr ⟨hP 98 _ rfl, ?_⟩
  refine List.forall_mem_cons.mpr ⟨hP 96 _ rfl, ?_⟩
  refine List.forall_mem_cons.mpr ⟨hP 94 _ rfl, ?_⟩
  refine List.forall_mem_cons.mpr ⟨hP 32 _ rfl, ?_⟩
  refine List.forall_mem_cons.mpr ⟨hP 92 _ rfl, ?_⟩
  refine List.forall_mem_cons.mpr ⟨hP 90 _ rfl, ?_⟩
  refine List.forall_mem_cons.mpr ⟨hP 88 _ rfl, ?_⟩
  refine List.forall_mem_cons.mpr ⟨hP 86 _ rfl, ?_⟩
  refine List.forall_mem_cons.mpr ⟨hP 84 _ rfl, ?_⟩
  refine List.forall_mem_cons.mpr ⟨hP 82 _ rfl, ?_⟩
  refine List.forall_mem_cons.mpr ⟨hP 76 _ rfl, ?_⟩
  refine List.forall_mem_cons.mpr ⟨hP 74 _ rfl, ?_⟩
  refine List.forall_mem_cons.mpr ⟨hP 72 _ rfl, ?_⟩
  refine List.forall_mem_cons.mpr ⟨hP 70 _ rfl, ?_⟩
  refine List.forall_mem_cons.mpr ⟨hP 68 _ rfl, ?_⟩
  refine List.forall_mem_cons.mpr ⟨hP 66 _ rfl, ?_⟩
  refine List.forall_mem_cons.mpr ⟨hP 60 _ rfl, ?_⟩
  refine List.forall_mem_cons.mpr ⟨hP 58 _ rfl, ?_⟩
  refine List.forall_mem_cons.mpr ⟨hP 56 _ rfl, ?_⟩
  refine List.forall_mem_cons.mpr ⟨hP 54 _ rfl, ?_⟩
  refine List.forall_mem_cons.mpr ⟨hP 52 _ rfl, ?_⟩
  refine List.forall_mem_cons.mpr ⟨hP 50 _ rfl, ?_⟩
  refine List.forall_mem_cons.mpr ⟨hP 2 _ rfl, ?_⟩
  refine List.forall_mem_cons.mpr ⟨hP 6 _ rfl, ?_⟩
  refine List.forall_mem_cons.mpr ⟨hP 5 _ rfl, ?_⟩
  refine List.forall_mem_cons.mpr ⟨hP 4 _ rfl, ?_⟩
  refine List.forall_mem_cons.mpr ⟨hP 18 _ rfl, ?_⟩
  refine List.forall_mem_cons.mpr ⟨hP 12 _ rfl, ?_⟩
  refine List.forall_mem_cons.mpr ⟨hP 17 _ rfl, ?_⟩
  refine List.forall_mem_cons.mpr ⟨hP 11 _ rfl, ?_⟩
  refine List.forall_mem_cons.mpr ⟨hP 16 _ rfl, ?_⟩
  refine List.forall_mem_cons.mpr ⟨hP 10 _ rfl, ?_⟩
  refine List.forall_mem_cons.mpr ⟨hP 15 _ rfl, ?_⟩
  refine List.forall_mem_cons.mpr ⟨hP 9 _ rfl, ?_⟩
  refine List.forall_mem_cons.mpr ⟨hP 14 _ rfl, ?_⟩
  refine List.forall_mem_cons.mpr ⟨hP 8 _ rfl, ?_⟩
  refine List.forall_mem_cons.mpr ⟨am_atq (hP 77 _ rfl) (fun j hj => by have hj : j < 6 := hj; rcases (by omega : j = 0 ∨ j = 1 ∨ j = 2 ∨ j = 3 ∨ j = 4 ∨ j = 5) with rfl | rfl | rfl | rfl | rfl | rfl <;> rfl), ?_⟩
  refine List.forall_mem_cons.mpr ⟨am_atq (hP 61 _ rfl) (fun j hj => by have hj : j < 6 := hj; rcases (by omega : j = 0 ∨ j = 1 ∨ j = 2 ∨ j = 3 ∨ j = 4 ∨ j = 5) with rfl | rfl | rfl | rfl | rfl | rfl <;> rfl), ?_⟩
  refine List.forall_mem_cons.mpr ⟨am_atq (hP 45 _ rfl) (fun j hj => by have hj : j < 6 := hj; rcases (by omega : j = 0 ∨ j = 1 ∨ j = 2 ∨ j = 3 ∨ j = 4 ∨ j = 5) with rfl | rfl | rfl | rfl | rfl | rfl <;> rfl), ?_⟩
  refine List.forall_mem_cons.mpr ⟨hP 79 _ rfl, ?_⟩
  refine List.forall_mem_cons.mpr ⟨hP 63 _ rfl, ?_⟩
  refine List.forall_mem_cons.mpr ⟨hP 47 _ rfl, ?_⟩
  refine List.forall_mem_cons.mpr ⟨hP 78 _ rfl, ?_⟩
  refine List.forall_mem_cons.mpr ⟨hP 62 _ rfl, ?_⟩
  refine List.forall_mem_cons.mpr ⟨hP 46 _ rfl, ?_⟩
  refine List.forall_mem_cons.mpr ⟨hP 43 _ rfl, ?_⟩
  refine List.forall_mem_cons.mpr ⟨hP 37 _ rfl, ?_⟩
  refine List.forall_mem_cons.mpr ⟨hP 42 _ rfl, ?_⟩
  refine List.forall_mem_cons.mpr ⟨hP 36 _ rfl, ?_⟩
  refine List.forall_mem_cons.mpr ⟨hP 41 _ rfl, ?_⟩
  refine List.forall_mem_cons.mpr ⟨hP 35 _ rfl, ?_⟩
  refine List.forall_mem_cons.mpr ⟨hP 40 _ rfl, ?_⟩
  refine List.forall_mem_cons.mpr ⟨hP 34 _ rfl, ?_⟩
  refine List.forall_mem_cons.mpr ⟨hP 39 _ rfl, ?_⟩
  refine List.forall_mem_cons.mpr ⟨hP 33 _ rfl, ?_⟩
  refine List.forall_mem_cons.mpr ⟨hP 103 _ rfl, ?_⟩
  refine List.forall_mem_cons.mpr ⟨hP 20 _ rfl, ?_⟩
  refine List.forall_mem_cons.mpr ⟨hP 28 _ rfl, ?_⟩
  refine List.forall_mem_cons.mpr ⟨hP 27 _ rfl, ?_⟩
  refine List.forall_mem_cons.mpr ⟨hP 26 _ rfl, ?_⟩
  refine List.forall_mem_cons.mpr ⟨hP 25 _ rfl, ?_⟩
  refine List.forall_mem_cons.mpr ⟨hP 24 _ rfl, ?_⟩
  refine List.forall_mem_cons.mpr ⟨hP 23 _ rfl, ?_⟩
  refine List.forall_mem_cons.mpr ⟨hP 22 _ rfl, ?_⟩
  refine List.forall_mem_cons.mpr ⟨hP 101 _ rfl, ?_⟩
  refine List.forall_mem_cons.mpr ⟨hP 99 _ rfl, ?_⟩
  refine List.forall_mem_cons.mpr ⟨hP 97 _ rfl, ?_⟩
  refine List.forall_mem_cons.mpr ⟨hP 95 _ rfl, ?_⟩
  refine List.forall_mem_cons.mpr ⟨hP 93 _ rfl, ?_⟩
  refine List.forall_mem_cons.mpr ⟨hP 31 _ rfl, ?_⟩
  refine List.forall_mem_cons.mpr ⟨hP 30 _ rfl, ?_⟩
  refine List.forall_mem_cons.mpr ⟨hP 91 _ rfl, ?_⟩
  refine List.forall_mem_cons.mpr ⟨hP 89 _ rfl, ?_⟩
  refine List.forall_mem_cons.mpr ⟨hP 87 _ rfl, ?_⟩
  refine List.forall_mem_cons.mpr ⟨hP 85 _ rfl, ?_⟩
  refine List.forall_mem_cons.mpr ⟨hP 83 _ rfl, ?_⟩
  refine List.forall_mem_cons.mpr ⟨hP 81 _ rfl, ?_⟩
  refine List.forall_mem_cons.mpr ⟨hP 75 _ rfl, ?_⟩
  refine List.forall_mem_cons.mpr ⟨hP 73 _ rfl, ?_⟩
  refine List.forall_mem_cons.mpr ⟨hP 71 _ rfl, ?_⟩
  refine List.forall_mem_cons.mpr ⟨hP 69 _ rfl, ?_⟩
  refine List.forall_mem_cons.mpr ⟨hP 67 _ rfl, ?_⟩
  refine List.forall_mem_cons.mpr ⟨hP 65 _ rfl, ?_⟩
  refine List.forall_mem_cons.mpr ⟨hP 59 _ rfl, ?_⟩
  refine List.forall_mem_cons.mpr ⟨hP 57 _ rfl, ?_⟩
  refine List.forall_mem_cons.mpr ⟨hP 55 _ rfl, ?_⟩
  refine List.forall_mem_cons.mpr ⟨hP 53 _ rfl, ?_⟩
  refine List.forall_mem_cons.mpr ⟨hP 51 _ rfl, ?_⟩
  refine List.forall_mem_cons.mpr ⟨hP 49 _ rfl, ?_⟩
  refine List.forall_mem_cons.mpr ⟨am_atq (hP 1 _ rfl) (fun j hj => by have hj : j < 5 := hj; rcases (by omega : j = 0 ∨ j = 1 ∨ j = 2 ∨ j = 3 ∨ j = 4) with rfl | rfl | rfl | rfl | rfl <;> rfl), ?_⟩
  refine List.forall_mem_cons.mpr ⟨am_atq (hP 0 _ rfl) (fun j hj => by have hj : j < 2 := hj; rcases (by omega : j = 0 ∨ j = 1) with rfl | rfl <;> rfl), ?_⟩
  exact fun _ h => absurd h List.not_mem_nil
set_option maxRecDepth 100000 in
set_option maxHeartbeats 4000000 in
theorem am_pmC {q14 q3 h0 q104 q103 q102 q101 q100 q99 q98 q97 q96 q95 q94 q93 q92 q91 q90 q89 q88 q87 q86 q85 q84 q83 q82 q81 q80 q79 q78 q77 q76 q75 q74 q73 q72 q71 q70 q69 q68 q67 q66 q65 q64 q63 q50 q49 q48 q47 q62 q61 q60 q59 q58 q57 q56 q55 q54 q53 q52 q51 q34 q33 q32 q31 q46 q45 q44 q43 q42 q41 q40 q39 q38 q37 q36 q35 q18 q17 q16 q15 q30 q29 q28 q27 q26 q25 q24 q23 q22 q21 q20 q19 q13 q12 q11 q10 q9 q8 q7 q6 q5 q4 q2 q1 : Nat} : ([q100, q88, q94, q104, q15, q31, q47, q63, q69, q1, q86, q78, q4, q6, q8, q10, q12, q75, q19, q21, q23, q25, q27, q29, q35, q37, q39, q41, q43, q45, q51, q53, q55, q57, q59, q61, h0, q101, q102, q103, q89, q95, q90, q96, q91, q97, q92, q98, q93, q99, q18, q34, q50, q16, q32, q48, q17, q33, q49, q64, q70, q65, q71, q66, q72, q67, q73, q68, q74, q2, q87, q79, q80, q81, q82, q83, q84, q85, q5, q7, q9, q11, q13, q76, q77, q20, q22, q24, q26, q28, q30, q36, q38, q40, q42, q44, q46, q52, q54, q56, q58, q60, q62, q3, q14] : List Nat).Perm [q14, q3, h0, q104, q103, q102, q101, q100, q99, q98, q97, q96, q95, q94, q93, q92, q91, q90, q89, q88, q87, q86, q85, q84, q83, q82, q81, q80, q79, q78, q77, q76, q75, q74, q73, q72, q71, q70, q69, q68, q67, q66, q65, q64, q63, q50, q49, q48, q47, q62, q61, q60, q59, q58, q57, q56, q55, q54, q53, q52, q51, q34, q33, q32, q31, q46, q45, q44, q43, q42, q41, q40, q39, q38, q37, q36, q35, q18, q17, q16, q15, q30, q29, q28, q27, q26, q25, q24, q23, q22, q21, q20, q19, q13, q12, q11, q10, q9, q8, q7, q6, q5, q4, q2, q1] := am_permI (n := 105) [7, 19, 13, 3, 80, 64, 48, 44, 38, 104, 21, 29, 102, 100, 98, 96, 94, 32, 92, 90, 88, 86, 84, 82, 76, 74, 72, 70, 68, 66, 60, 58, 56, 54, 52, 50, 2, 6, 5, 4, 18, 12, 17, 11, 16, 10, 15, 9, 14, 8, 77, 61, 45, 79, 63, 47, 78, 62, 46, 43, 37, 42, 36, 41, 35, 40, 34, 39, 33, 103, 20, 28, 27, 26, 25, 24, 23, 22, 101, 99, 97, 95, 93, 31, 30, 91, 89, 87, 85, 83, 81, 75, 73, 71, 69, 67, 65, 59, 57, 55, 53, 51, 49, 1, 0] rfl rfl (by decide +kernel)
def am_vC (w : List Nat) : List Nat := [7, 19, 13, 3, 80, 64, 48, 44, 38, 104, 21, 29, 102, 100, 98, 96, 94, 32, 92, 90, 88, 86, 84, 82, 76, 74, 72, 70, 68, 66, 60, 58, 56, 54, 52, 50, 2, 6, 5, 4, 18, 12, 17, 11, 16, 10, 15, 9, 14, 8, 77, 61, 45, 79, 63, 47, 78, 62, 46, 43, 37, 42, 36, 41, 35, 40, 34, 39, 33, 103, 20, 28, 27, 26, 25, 24, 23, 22, 101, 99, 97, 95, 93, 31, 30, 91, 89, 87, 85, 83, 81, 75, 73, 71, 69, 67, 65, 59, 57, 55, 53, 51, 49, 1, 0].map (fun i => w.getD i 0)
abbrev am_WM (l : Launch) (D : va_G) (c : Nat → ClassId) (v : List Nat) (kK kV : Nat → Nat) (co : Nat) : am_X := (l, D.1, D.2, am_cK c, am_adL am_ksM v, am_ksM, false, kK, kV, co)
set_option maxRecDepth 100000 in
set_option maxHeartbeats 4000000 in
theorem am_wlM {l : Launch} {D : va_G} {c : Nat → ClassId} {kK kV : Nat → Nat} {co : Nat} {H : Heap} {q28 q27 q26 q25 q24 q23 q22 q21 q20 q19 q18 q17 q16 q15 q14 q13 q12 q11 q10 q9 q8 q7 q6 q5 q4 q3 q2 q1 h0 : Nat} (hP : va_P D vwCl [(q28, .inl (c 0, 48, .inl (fun _ => 0))), (q27, .inl (c 1, 5, .inr (.inl (fun _ => 0)))), (q26, .inl (c 0, 5, .inl (fun _ => 0))), (q25, .inl (c 1, 5, .inr (.inl (fun _ => 0)))), (q24, .inl (c 1, 25, .inr (.inl (fun _ => 0)))), (q23, .inl (c 0, 6, .inl (fun _ => 0))), (q22, .inl (c 0, 30, .inl (fun _ => 0))), (q21, .inl (c 0, 40, .inl (fun _ => 0))), (q20, .inl (c 0, 40, .inl (fun _ => 0))), (q19, .inl (c 0, 40, .inl (fun _ => 0))), (q18, .inl (c 0, 40, .inl (fun _ => 0))), (q17, .inl (c 0, 40, .inl (fun _ => 0))), (q16, .inl (c 0, 40, .inl (fun _ => 0))), (q15, .inl (c 0, 40, .inl (fun _ => 0))), (q14, .inl (c 0, 40, .inl (fun _ => 0))), (q13, .inl (c 0, 6, .inl (fun _ => 0))), (q12, .inl (c 0, 4, .inl (fun _ => 0))), (q11, .inl (c 1, 6, .inr (.inl (fun _ => 0)))), (q10, .inl (c 0, 60, .inl (fun _ => 0))), (q9, .inl (c 0, 162, .inl (fun _ => 0))), (q8, .inl (c 0, 3, .inl (fun _ => 0))), (q7, .inl (c 0, 3, .inl (fun _ => 0))), (q6, .inl (c 0, 3, .inl (fun _ => 0))), (q5, .inl (c 0, 3, .inl (fun _ => 0))), (q4, .inl (c 2, 600, .inl (fun _ => 0))), (q3, .inl (c 1, 300, .inr (.inl (fun _ => 0)))), (q2, .inl (c 0, 5, .inl (upd (upd (upd (upd (upd (fun _ => 0) 0 (-1)) 1 (-1)) 2 (-1)) 3 (-1)) 4 (-1)))), (q1, .inl (c 0, 5, .inl (fun _ => 0))), (h0, .inr (12, [.int 0, .int 0, .long 0, .long 1, .ref q1, .ref q2, .ref q3, .ref q4, .int 0, .int 0, .int (-1), .int (-1), .int 0, .int 0, .int 0, .int 0, .int 0, .int 0, .int 0, .long 0, .ref q5, .ref q6, .ref q7, .ref q8, .ref q9, .ref q10, .ref q11, .int 0, .int 0, .int 0, .int 0, .int 0, .int (-1), .int 0, .int 0, .int 0, .int 0, .int 0, .int 0, .int 0, .int 0, .int 0, .int (-1), .long 0, .ref q12, .ref q13, .int 0, .int 0, .int 0, .int (-1), .int 0, .int 0, .int 23, .int 0, .int 0, .int 0, .int 0, .int 0, .int 0, .int 0, .int (-1), .int 0, .int 0, .int 0, .long 0, .int 0, .int 0, .int 0, .ref q14, .ref q15, .ref q16, .ref q17, .ref q18, .ref q19, .ref q20, .ref q21, .ref q22, .ref q23, .int 0, .ref q24, .ref q25, .int 0, .long 0, .ref q26, .ref q27, .ref q28]))] H) : va_P D vwCl (am_wl (am_WM l D c [h0, q1, q2, q3, q4, q5, q6, q7, q8, q9, q10, q11, q12, q13, q14, q15, q16, q17, q18, q19, q20, q21, q22, q23, q24, q25, q26, q27, q28] kK kV co) am_zM) H := by
  refine am_Pw (X := am_WM l D c [h0, q1, q2, q3, q4, q5, q6, q7, q8, q9, q10, q11, q12, q13, q14, q15, q16, q17, q18, q19, q20, q21, q22, q23, q24, q25, q26, q27, q28] kK kV co) ?_
  show ∀ q ∈ am_ksM, _
  unfold am_ksM
  refine List.forall_mem_cons.mpr ⟨hP 28 _ rfl, ?_⟩
  refine List.forall_mem_cons.mpr ⟨hP 27 _ rfl, ?_⟩
  refine List.forall_mem_cons.mpr ⟨hP 26 _ rfl, ?_⟩
  refine List.forall_mem_cons.mpr ⟨hP 25 _ rfl, ?_⟩
  refine List.forall_mem_cons.mpr ⟨hP 24 _ rfl, ?_⟩
  refine List.forall_mem_cons.mpr ⟨hP 23 _ rfl, ?_⟩
  refine List.forall_mem_cons.mpr ⟨hP 22 _ rfl, ?_⟩
  refine List.forall_mem_cons.mpr ⟨hP 21 _ rfl, ?_⟩
  refine List.forall_mem_cons.mpr ⟨hP 20 _ rfl, ?_⟩
  refine List.forall_mem_cons.mpr ⟨hP 19 _ rfl, ?_⟩
  refine List.forall_mem_cons.mpr ⟨hP 18 _ rfl, ?_⟩
  refine List.forall_mem_cons.mpr ⟨hP 17 _ rfl, ?_⟩
  refine List.forall_mem_cons.mpr ⟨hP 16 _ rfl, ?_⟩
  refine List.forall_mem_cons.mpr ⟨hP 15 _ rfl, ?_⟩
  refine List.forall_mem_cons.mpr ⟨hP 14 _ rfl, ?_⟩
  refine List.forall_mem_cons.mpr ⟨hP 13 _ rfl, ?_⟩
  refine List.forall_mem_cons.mpr ⟨hP 12 _ rfl, ?_⟩
  refine List.forall_mem_cons.mpr ⟨hP 11 _ rfl, ?_⟩
  refine List.forall_mem_cons.mpr ⟨hP 10 _ rfl, ?_⟩
  refine List.forall_mem_cons.mpr ⟨hP 9 _ rfl, ?_⟩
  refine List.forall_mem_cons.mpr ⟨hP 8 _ rfl, ?_⟩
  refine List.forall_mem_cons.mpr ⟨hP 7 _ rfl, ?_⟩
  refine List.forall_mem_cons.mpr ⟨hP 6 _ rfl, ?_⟩
  refine List.forall_mem_cons.mpr ⟨hP 5 _ rfl, ?_⟩
  refine List.forall_mem_cons.mpr ⟨hP 4 _ rfl, ?_⟩
  refine List.forall_mem_cons.mpr ⟨hP 3 _ rfl, ?_⟩
  refine List.forall_mem_cons.mpr ⟨hP 2 _ rfl, ?_⟩
  refine List.forall_mem_cons.mpr ⟨hP 1 _ rfl, ?_⟩
  refine List.forall_mem_cons.mpr ⟨hP 0 _ rfl, ?_⟩
  exact fun _ h => absurd h List.not_mem_nil
set_option maxRecDepth 100000 in
set_option maxHeartbeats 4000000 in
theorem am_pmM {q28 q27 q26 q25 q24 q23 q22 q21 q20 q19 q18 q17 q16 q15 q14 q13 q12 q11 q10 q9 q8 q7 q6 q5 q4 q3 q2 q1 h0 : Nat} : ([h0, q1, q2, q3, q4, q5, q6, q7, q8, q9, q10, q11, q12, q13, q14, q15, q16, q17, q18, q19, q20, q21, q22, q23, q24, q25, q26, q27, q28] : List Nat).Perm [q28, q27, q26, q25, q24, q23, q22, q21, q20, q19, q18, q17, q16, q15, q14, q13, q12, q11, q10, q9, q8, q7, q6, q5, q4, q3, q2, q1, h0] := am_permI (n := 29) [28, 27, 26, 25, 24, 23, 22, 21, 20, 19, 18, 17, 16, 15, 14, 13, 12, 11, 10, 9, 8, 7, 6, 5, 4, 3, 2, 1, 0] rfl rfl (by decide +kernel)
def am_vM (w : List Nat) : List Nat := [28, 27, 26, 25, 24, 23, 22, 21, 20, 19, 18, 17, 16, 15, 14, 13, 12, 11, 10, 9, 8, 7, 6, 5, 4, 3, 2, 1, 0].map (fun i => w.getD i 0)
