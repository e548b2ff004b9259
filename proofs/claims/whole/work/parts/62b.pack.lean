theorem am_NC.mono {Y : am_Y} {Γ : am_M} {mc ms h0 : Nat} {e0 : va_E} {Q Q' : va_W → Prop} (h : am_NC Y Γ mc ms h0 e0 Q) (hq : ∀ ws, Q ws → Q' ws) : am_NC Y Γ mc ms h0 e0 Q' := by
  intro sz p e ha hc hk s m args below hf hh hP hT
  obtain ⟨k, o, h1, h2, h3, ⟨⟨⟨e1, ws, e2, e3⟩, hF⟩, hL⟩⟩ := h sz p e ha hc hk s m args below hf hh hP hT
  exact ⟨k, o, h1, h2, h3, ⟨⟨⟨e1, ws, hq ws e2, e3⟩, hF⟩, hL⟩⟩
/-- the cells of a new object of the class: their addresses by key -/
def am_EC (l : Launch) (D : va_G) (c : Nat → ClassId) (h0 : Nat) (ws : va_W) : Prop := ∃ v : List Nat, v.length = am_ksC.length ∧ v.Perm (ws.map Prod.fst) ∧ am_adL am_ksC v 11 0 = h0 ∧ ∀ (kK kV : Nat → Nat) (co : Nat) (H : Heap), va_P D vwCl ws H → va_P D vwCl (am_wl (am_WC l D c v kK kV co) am_zC) H
set_option maxRecDepth 100000 in
set_option maxHeartbeats 4000000 in
theorem ce_11 (l : Launch) (D : va_G) (c : Nat → ClassId) (h0 : Nat) : am_NC (l, D, am_tz c) gm_I11 104 2735 h0 (.inr (11, [.int 0, .long 0, .long 0, .null, .null, .null, .null, .null, .null, .null, .null, .null, .null, .null, .null, .null])) (am_EC l D c h0) := by
  refine (ci_11 l D c h0).mono ?_
  intro ws hws
  obtain ⟨q1, q2, q3, q4, q5, q6, q7, q8, q9, q10, q11, q12, q13, q14, q15, q16, q17, q18, q19, q20, q21, q22, q23, q24, q25, q26, q27, q28, q29, q30, q31, q32, q33, q34, q35, q36, q37, q38, q39, q40, q41, q42, q43, q44, q45, q46, q47, q48, q49, q50, q51, q52, q53, q54, q55, q56, q57, q58, q59, q60, q61, q62, q63, q64, q65, q66, q67, q68, q69, q70, q71, q72, q73, q74, q75, q76, q77, q78, q79, q80, q81, q82, q83, q84, q85, q86, q87, q88, q89, q90, q91, q92, q93, q94, q95, q96, q97, q98, q99, q100, q101, q102, q103, q104, rfl⟩ := hws
  exact ⟨[q100, q88, q94, q104, q15, q31, q47, q63, q69, q1, q86, q78, q4, q6, q8, q10, q12, q75, q19, q21, q23, q25, q27, q29, q35, q37, q39, q41, q43, q45, q51, q53, q55, q57, q59, q61, h0, q101, q102, q103, q89, q95, q90, q96, q91, q97, q92, q98, q93, q99, q18, q34, q50, q16, q32, q48, q17, q33, q49, q64, q70, q65, q71, q66, q72, q67, q73, q68, q74, q2, q87, q79, q80, q81, q82, q83, q84, q85, q5, q7, q9, q11, q13, q76, q77, q20, q22, q24, q26, q28, q30, q36, q38, q40, q42, q44, q46, q52, q54, q56, q58, q60, q62, q3, q14], rfl, am_pmC, rfl, fun kK kV co H hP => am_wlC hP⟩
/-- the cells of a new object of the reference: their addresses by key -/
def am_EM (l : Launch) (D : va_G) (c : Nat → ClassId) (h0 : Nat) (ws : va_W) : Prop := ∃ v : List Nat, v.length = am_ksM.length ∧ v.Perm (ws.map Prod.fst) ∧ am_adL am_ksM v 12 0 = h0 ∧ ∀ (kK kV : Nat → Nat) (co : Nat) (H : Heap), va_P D vwCl ws H → va_P D vwCl (am_wl (am_WM l D c v kK kV co) am_zM) H
set_option maxRecDepth 100000 in
set_option maxHeartbeats 4000000 in
theorem ce_12 (l : Launch) (D : va_G) (c : Nat → ClassId) (h0 : Nat) : am_NC (l, D, am_tz c) gm_I12 28 1604 h0 (.inr (12, [.int 0, .int 0, .long 0, .long 0, .null, .null, .null, .null, .int 0, .int 0, .int 0, .int 0, .int 0, .int 0, .int 0, .int 0, .int 0, .int 0, .int 0, .long 0, .null, .null, .null, .null, .null, .null, .null, .int 0, .int 0, .int 0, .int 0, .int 0, .int 0, .int 0, .int 0, .int 0, .int 0, .int 0, .int 0, .int 0, .int 0, .int 0, .int 0, .long 0, .null, .null, .int 0, .int 0, .int 0, .int 0, .int 0, .int 0, .int 0, .int 0, .int 0, .int 0, .int 0, .int 0, .int 0, .int 0, .int 0, .int 0, .int 0, .int 0, .long 0, .int 0, .int 0, .int 0, .null, .null, .null, .null, .null, .null, .null, .null, .null, .null, .int 0, .null, .null, .int 0, .long 0, .null, .null, .null])) (am_EM l D c h0) := by
  refine (ci_12 l D c h0).mono ?_
  intro ws hws
  obtain ⟨q1, q2, q3, q4, q5, q6, q7, q8, q9, q10, q11, q12, q13, q14, q15, q16, q17, q18, q19, q20, q21, q22, q23, q24, q25, q26, q27, q28, rfl⟩ := hws
  exact ⟨[h0, q1, q2, q3, q4, q5, q6, q7, q8, q9, q10, q11, q12, q13, q14, q15, q16, q17, q18, q19, q20, q21, q22, q23, q24, q25, q26, q27, q28], rfl, am_pmM, rfl, fun kK kV co H hP => am_wlM hP⟩
