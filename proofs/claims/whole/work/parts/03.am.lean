/-- a field's sort by its class's number and its slot: 0 int, 4 boolean, 1 long, 2 a constant reference (to the kind, at the place so much above the owner's), 3 a reference that may change -/
def am_fl : List (List (Nat × Nat × Nat)) := [[(2, 100, 0), (2, 101, 0), (2, 102, 0), (0, 0, 0), (4, 0, 0), (0, 0, 0), (0, 0, 0), (0, 0, 0), (0, 0, 0), (0, 0, 0), (0, 0, 0), (4, 0, 0), (4, 0, 0), (0, 0, 0), (0, 0, 0), (0, 0, 0), (0, 0, 0)],
  [(0, 0, 0), (2, 201, 0), (2, 202, 0), (0, 0, 0), (2, 204, 0), (2, 205, 0), (2, 206, 0), (1, 0, 0)],
  [(0, 0, 0), (0, 0, 0), (0, 0, 0), (4, 0, 0), (0, 0, 0), (0, 0, 0), (0, 0, 0), (0, 0, 0)],
  [(2, 400, 0), (0, 0, 0), (2, 402, 0), (2, 403, 0), (0, 0, 0), (0, 0, 0), (0, 0, 0)],
  [(2, 500, 0), (2, 501, 0), (2, 502, 0), (2, 503, 0), (0, 0, 0), (0, 0, 0), (2, 506, 0), (0, 0, 0)],
  [(2, 600, 0), (0, 0, 0), (0, 0, 0), (0, 0, 0), (0, 0, 0), (0, 0, 0), (0, 0, 0), (0, 0, 0), (0, 0, 0)],
  [(0, 0, 0), (1, 0, 0), (1, 0, 0), (4, 0, 0), (2, 704, 0)],
  [(3, 3, 0), (3, 10, 0), (0, 0, 0), (2, 803, 0), (2, 804, 0), (2, 805, 0), (2, 806, 0), (2, 807, 0), (0, 0, 0), (1, 0, 0), (1, 0, 0), (2, 811, 0), (0, 0, 0), (2, 813, 0), (0, 0, 0)],
  [(0, 0, 0), (0, 0, 0), (2, 902, 0)],
  [(3, 4, 0), (3, 3, 0), (0, 0, 0), (4, 0, 0), (2, 1004, 0), (4, 0, 0), (0, 0, 0), (0, 0, 0), (1, 0, 0), (0, 0, 0), (2, 1010, 0), (4, 0, 0)],
  [(1, 0, 0), (0, 0, 0), (0, 0, 0), (0, 0, 0), (0, 0, 0), (0, 0, 0), (2, 1106, 0), (1, 0, 0), (1, 0, 0)],
  [(0, 0, 0), (1, 0, 0), (1, 0, 0), (2, 5, 0), (2, 1204, 0), (2, 1205, 0), (3, 3, 0), (3, 4, 0), (3, 4, 0), (2, 9, 0), (2, 7, 0), (2, 6, 0), (2, 1, 0), (2, 1, 1), (2, 0, 0), (2, 2, 0)],
  [(0, 0, 0), (0, 0, 0), (1, 0, 0), (1, 0, 0), (2, 1304, 0), (2, 1305, 0), (2, 1306, 0), (2, 1307, 0), (0, 0, 0), (0, 0, 0), (0, 0, 0), (0, 0, 0), (0, 0, 0), (0, 0, 0), (0, 0, 0), (0, 0, 0), (0, 0, 0), (0, 0, 0), (0, 0, 0), (1, 0, 0), (2, 1320, 0), (2, 1321, 0), (2, 1322, 0), (2, 1323, 0), (2, 1324, 0), (2, 1325, 0), (2, 1326, 0), (4, 0, 0), (4, 0, 0), (0, 0, 0), (0, 0, 0), (0, 0, 0), (0, 0, 0), (0, 0, 0), (0, 0, 0), (0, 0, 0), (0, 0, 0), (4, 0, 0), (4, 0, 0), (4, 0, 0), (4, 0, 0), (0, 0, 0), (0, 0, 0), (1, 0, 0), (2, 1344, 0), (2, 1345, 0), (0, 0, 0), (0, 0, 0), (0, 0, 0), (0, 0, 0), (0, 0, 0), (0, 0, 0), (0, 0, 0), (4, 0, 0), (0, 0, 0), (0, 0, 0), (0, 0, 0), (0, 0, 0), (0, 0, 0), (0, 0, 0), (0, 0, 0), (0, 0, 0), (0, 0, 0), (0, 0, 0), (1, 0, 0), (4, 0, 0), (4, 0, 0), (4, 0, 0), (2, 1368, 0), (2, 1369, 0), (2, 1370, 0), (2, 1371, 0), (2, 1372, 0), (2, 1373, 0), (2, 1374, 0), (2, 1375, 0), (2, 1376, 0), (2, 1377, 0), (0, 0, 0), (2, 1379, 0), (2, 1380, 0), (0, 0, 0), (1, 0, 0), (2, 1383, 0), (2, 1384, 0), (2, 1385, 0)]]
def am_n (k : Nat) : Nat := (am_fl.getD k []).length
def am_ft (k j : Nat) : Nat × Nat × Nat := (am_fl.getD k []).getD j (0, 0, 0)
/-- an array's sort by its kind (100 times its owner's class and 1, and the slot): 0 int, 1 long, 2 byte, 3 boolean, 4 constant references, 5 references that may change; its length; the kind that it refers to -/
def am_at (k : Nat) : Nat × Nat × Nat := match k with
  | 100 => (0, 48, 0)
  | 101 => (0, 24, 0)
  | 102 => (0, 48, 0)
  | 201 => (0, 24, 0)
  | 202 => (0, 24, 0)
  | 204 => (1, 5, 0)
  | 205 => (1, 25, 0)
  | 206 => (1, 5, 0)
  | 400 => (4, 6, 10)
  | 402 => (0, 10, 0)
  | 403 => (0, 10, 0)
  | 500 => (0, 80, 0)
  | 501 => (0, 80, 0)
  | 502 => (0, 80, 0)
  | 503 => (0, 80, 0)
  | 506 => (0, 3, 0)
  | 600 => (2, 600, 0)
  | 704 => (0, 4, 0)
  | 803 => (0, 10, 0)
  | 804 => (0, 6, 0)
  | 805 => (0, 6, 0)
  | 806 => (3, 300, 0)
  | 807 => (0, 4, 0)
  | 811 => (0, 4, 0)
  | 813 => (0, 6, 0)
  | 902 => (1, 60, 0)
  | 1004 => (0, 80, 0)
  | 1010 => (0, 30, 0)
  | 1106 => (0, 4, 0)
  | 1204 => (4, 5, 8)
  | 1205 => (5, 2, 3)
  | 1304 => (0, 5, 0)
  | 1305 => (0, 5, 0)
  | 1306 => (1, 300, 0)
  | 1307 => (2, 600, 0)
  | 1320 => (0, 3, 0)
  | 1321 => (0, 3, 0)
  | 1322 => (0, 3, 0)
  | 1323 => (0, 3, 0)
  | 1324 => (0, 162, 0)
  | 1325 => (0, 60, 0)
  | 1326 => (1, 6, 0)
  | 1344 => (0, 4, 0)
  | 1345 => (0, 6, 0)
  | 1368 => (0, 40, 0)
  | 1369 => (0, 40, 0)
  | 1370 => (0, 40, 0)
  | 1371 => (0, 40, 0)
  | 1372 => (0, 40, 0)
  | 1373 => (0, 40, 0)
  | 1374 => (0, 40, 0)
  | 1375 => (0, 40, 0)
  | 1376 => (0, 30, 0)
  | 1377 => (0, 6, 0)
  | 1379 => (1, 25, 0)
  | 1380 => (1, 5, 0)
  | 1383 => (0, 5, 0)
  | 1384 => (1, 5, 0)
  | 1385 => (0, 48, 0)
  | _ => (0, 0, 0)
def am_aks : List Nat := [100, 101, 102, 201, 202, 204, 205, 206, 400, 402, 403, 500, 501, 502, 503, 506, 600, 704, 803, 804, 805, 806, 807, 811, 813, 902, 1004, 1010, 1106, 1204, 1205, 1304, 1305, 1306, 1307, 1320, 1321, 1322, 1323, 1324, 1325, 1326, 1344, 1345, 1368, 1369, 1370, 1371, 1372, 1373, 1374, 1375, 1376, 1377, 1379, 1380, 1383, 1384, 1385]
def am_ksC : List (Nat × Nat) := [(0, 0), (1, 0), (1, 1), (2, 0), (3, 0), (3, 1), (3, 2), (4, 0), (4, 1), (5, 0), (6, 0), (7, 0), (8, 0), (8, 1), (8, 2), (8, 3), (8, 4), (9, 0), (10, 0), (10, 1), (10, 2), (10, 3), (10, 4), (10, 5), (10, 6), (10, 7), (10, 8), (10, 9), (10, 10), (10, 11), (10, 12), (10, 13), (10, 14), (10, 15), (10, 16), (10, 17), (11, 0), (100, 0), (101, 0), (102, 0), (201, 0), (201, 1), (202, 0), (202, 1), (204, 0), (204, 1), (205, 0), (205, 1), (206, 0), (206, 1), (400, 0), (400, 1), (400, 2), (402, 0), (402, 1), (402, 2), (403, 0), (403, 1), (403, 2), (500, 0), (500, 1), (501, 0), (501, 1), (502, 0), (502, 1), (503, 0), (503, 1), (506, 0), (506, 1), (600, 0), (704, 0), (803, 0), (804, 0), (805, 0), (806, 0), (807, 0), (811, 0), (813, 0), (902, 0), (902, 1), (902, 2), (902, 3), (902, 4), (1004, 0), (1010, 0), (1106, 0), (1106, 1), (1106, 2), (1106, 3), (1106, 4), (1106, 5), (1106, 6), (1106, 7), (1106, 8), (1106, 9), (1106, 10), (1106, 11), (1106, 12), (1106, 13), (1106, 14), (1106, 15), (1106, 16), (1106, 17), (1204, 0), (1205, 0)]
def am_ksM : List (Nat × Nat) := [(12, 0), (1304, 0), (1305, 0), (1306, 0), (1307, 0), (1320, 0), (1321, 0), (1322, 0), (1323, 0), (1324, 0), (1325, 0), (1326, 0), (1344, 0), (1345, 0), (1368, 0), (1369, 0), (1370, 0), (1371, 0), (1372, 0), (1373, 0), (1374, 0), (1375, 0), (1376, 0), (1377, 0), (1379, 0), (1380, 0), (1383, 0), (1384, 0), (1385, 0)]
def am_sN : Nat := 22
def am_sL : List Nat := [4, 5, 2, 4, 2, 5, 3, 2, 5, 4, 3, 2, 5, 4, 4, 4, 4, 4, 3, 5, 5, 4]
def am_sB : List (List Int32) := [[119, 97, 118, 101], [116, 117, 114, 110, 115], [105, 110], [115, 105, 122, 101], [97, 116], [116, 114, 97, 105, 110], [98, 111, 120], [111, 102], [115, 108, 97, 99, 107], [122, 101, 114, 111], [101, 110, 100], [103, 111], [117, 110, 116, 105, 108], [109, 97, 114, 107], [114, 101, 97, 100], [108, 111, 111, 112], [119, 104, 101, 110], [104, 105, 103, 104], [108, 111, 119], [97, 98, 111, 118, 101], [98, 101, 108, 111, 119], [108, 101, 115, 115]]
def am_sR : List (String × Nat × String × Nat) := [("TideDiscs$Machine", 52, "wave", 0), ("TideDiscs$Tokens", 76, "wave", 0), ("TideDiscs$Tokens", 82, "turns", 1), ("TideDiscs$Tokens", 84, "in", 2), ("TideDiscs$Tokens", 86, "size", 3), ("TideDiscs$Tokens", 88, "at", 4), ("TideDiscs$Tokens", 90, "train", 5), ("TideDiscs$Tokens", 92, "box", 6), ("TideDiscs$Tokens", 94, "of", 7), ("TideDiscs$Tokens", 96, "slack", 8), ("TideDiscs$Tokens", 98, "zero", 9), ("TideDiscs$Machine", 103, "turns", 1), ("TideDiscs$Machine", 117, "in", 2), ("TideDiscs$Machine", 136, "size", 3), ("TideDiscs$Machine", 138, "at", 4), ("TideDiscs$Machine", 140, "train", 5), ("TideDiscs$Machine", 61, "box", 6), ("TideDiscs$Machine", 158, "of", 7), ("TideDiscs$Machine", 66, "slack", 8), ("TideDiscs$Machine", 70, "zero", 9), ("TideDiscs$Orders", 47, "end", 10), ("TideDiscs$Orders", 74, "go", 11), ("TideDiscs$Orders", 76, "until", 12), ("TideDiscs$Orders", 78, "mark", 13), ("TideDiscs$Orders", 80, "read", 14), ("TideDiscs$Orders", 82, "loop", 15), ("TideDiscs$Orders", 84, "when", 16), ("TideDiscs$Orders", 103, "high", 17), ("TideDiscs$Orders", 105, "low", 18), ("TideDiscs$Orders", 107, "above", 19), ("TideDiscs$Orders", 109, "below", 20), ("TideDiscs$Orders", 111, "less", 21)]
def am_cosl : List Int32 := [12, 12, 10, 8, 6, 3, 0, -3, -6, -8, -10, -12, -12, -12, -10, -8, -6, -3, 0, 3, 6, 8, 10, 12]
/-! ===== the abstract machine: a heap of numbers by kind, place and slot; one rule an instruction ===== -/
abbrev am_H : Type := (Nat → Nat → Nat → Int32) × (Nat → Nat → Nat → Int64) × (Nat → Nat → Nat → Option Nat)
def am_u3 {α : Type} (f : Nat → Nat → Nat → α) (k i j : Nat) (v : α) : Nat → Nat → Nat → α := fun a b c => if a = k ∧ b = i ∧ c = j then v else f a b c
def am_wI (σ : am_H) (k i j : Nat) (v : Int32) : am_H := (am_u3 σ.1 k i j v, σ.2.1, σ.2.2)
def am_wL (σ : am_H) (k i j : Nat) (v : Int64) : am_H := (σ.1, am_u3 σ.2.1 k i j v, σ.2.2)
def am_wR (σ : am_H) (k i j : Nat) (v : Option Nat) : am_H := (σ.1, σ.2.1, am_u3 σ.2.2 k i j v)
/-- the place of the j-th element of a row of constant references -/
def am_el (k i j : Nat) : Nat := match k with
  | 400 => 6 * i + j
  | _ => j
/-- the surroundings: launch, class numbers, slots, array classes, addresses, the cells of the world, is it the class's world, addresses of the text constants and of the table -/
abbrev am_X : Type := Launch × (Nat → ClassId) × (Nat → Nat → Nat) × (Nat → ClassId) × (Nat → Nat → Nat) × List (Nat × Nat) × Bool × (Nat → Nat) × (Nat → Nat) × Nat
abbrev am_D (X : am_X) : va_G := (X.2.1, X.2.2.1)
abbrev am_cA (X : am_X) : Nat → ClassId := X.2.2.2.1
abbrev am_ad (X : am_X) : Nat → Nat → Nat := X.2.2.2.2.1
abbrev am_ks (X : am_X) : List (Nat × Nat) := X.2.2.2.2.2.1
abbrev am_fl1 (X : am_X) : Bool := X.2.2.2.2.2.2.1
abbrev am_kK (X : am_X) : Nat → Nat := X.2.2.2.2.2.2.2.1
abbrev am_kV (X : am_X) : Nat → Nat := X.2.2.2.2.2.2.2.2.1
abbrev am_co (X : am_X) : Nat := X.2.2.2.2.2.2.2.2.2
def am_fv (X : am_X) (σ : am_H) (k i j : Nat) : Value := match am_ft k j with
  | (0, _, _) => .int (σ.1 k i j)
  | (4, _, _) => .int (σ.1 k i j)
  | (1, _, _) => .long (σ.2.1 k i j)
  | (2, t, o) => .ref (am_ad X t (i + o))
  | (_, t, _) => va_rf ((σ.2.2 k i j).map (am_ad X t))
def am_ct (X : am_X) (σ : am_H) (k i : Nat) : (Nat → Int32) ⊕ (Nat → Int64) ⊕ (Nat → UInt32) ⊕ (Nat → UInt64) ⊕ (Nat → Option Nat) := match (am_at k).1 with
  | 1 => .inr (.inl (σ.2.1 k i))
  | 4 => .inr (.inr (.inr (.inr (fun j => some (am_ad X (am_at k).2.2 (am_el k i j))))))
  | 5 => .inr (.inr (.inr (.inr (fun j => (σ.2.2 k i j).map (am_ad X (am_at k).2.2)))))
  | _ => .inl (σ.1 k i)
def am_ev (X : am_X) (σ : am_H) (k i : Nat) : va_E := if k < 13 then .inr (k, (List.range (am_n k)).map (am_fv X σ k i)) else .inl (am_cA X k, (am_at k).2.1, am_ct X σ k i)
def am_wl (X : am_X) (σ : am_H) : va_W := (am_ks X).map (fun q => (am_ad X q.1 q.2, am_ev X σ q.1 q.2))
def am_A (X : am_X) : Nat → Prop := fun a => ∃ q ∈ am_ks X, a = am_ad X q.1 q.2
def am_ety (k : Nat) : FieldType := match (am_at k).1 with
  | 0 => .int
  | 1 => .long
  | 2 => .byte
  | 3 => .boolean
  | _ => .object (vwCl.getD (am_at k).2.2 (RX0, TX0, 0)).1
def am_ty (X : am_X) : List (ClassId × FieldType) := am_aks.map (fun k => (am_cA X k, am_ety k))
/-- the addresses are apart -/
def am_J (X : am_X) : Prop := ∀ (i j : Nat) (p q : Nat × Nat), (am_ks X)[i]? = some p → (am_ks X)[j]? = some q → am_ad X p.1 p.2 = am_ad X q.1 q.2 → i = j
def am_nest : Cond → Bool
  | .fieldLinkNest .. => true
  | .methodLinkNest .. => true
  | _ => false
def am_ok (w : Cond) : Bool := goodWord w || am_nest w
/-- the tables' words -/
def am_T (U : State) : Prop := ∀ w ∈ lw_tbl, am_ok w = true → w.before #[] U = true
theorem am_T.at {s U : State} {w : Cond} {a : Array Value} (hW : s.WarmedH U.vm) (h : am_T s) (hm : w ∈ lw_tbl) (ho : am_ok w = true) : w.before a U = true := by
  have h1 := h w hm ho
  unfold am_ok at ho
  rw [Bool.or_eq_true] at ho
  rcases ho with ho | ho
  · exact word_at hW (good_of_word ho) h1
  · cases w <;> simp [am_nest] at ho
    · exact va_Nw.use rfl (va_Nw.warmM hW h1)
    · exact va_Nw.use rfl (va_Nw.warmF hW h1)
theorem am_T.warm {s U : State} (hW : s.WarmedH U.vm) (h : am_T s) : am_T U := fun _ hm ho => h.at hW hm ho
theorem am_T.a {s : State} {w : Cond} {a : Array Value} (h : am_T s) (hm : w ∈ lw_tbl) (ho : am_ok w = true) : w.before a s = true := h.at (State.WarmedH.refl s) hm ho
/-- the constants: the texts and the table of COS -/
def am_Cn (X : am_X) (U : State) (H : Heap) : Prop := am_fl1 X = true → (vk_S am_sN am_sL am_sB (am_kK X) (am_kV X) (am_A X) U H ∧ (∀ q ∈ am_sR, vk_R q.1 q.2.1 q.2.2.1 (am_kK X q.2.2.2) U)) ∧ va_Z "TideDiscs" "COS" "[I" (.ref (am_co X)) (am_A X) U H ∧ va_T .int (am_co X) 24 (fun j => .int (am_cosl.getD j 0)) (am_A X) U H ∧ va_Z "java/lang/String" "COMPACT_STRINGS" "Z" (.int 1) (am_A X) U H ∧ va_Zq "jdk/internal/util/Preconditions" "SIOOBE_FORMATTER" "Ljava/util/function/BiFunction;" (am_A X) U H
theorem am_Cn.kept {X : am_X} {U : State} {H H1 : Heap} (h : am_Cn X U H) (hq : ∀ a : Nat, a < H.size → ¬ am_A X a → H1[a]? = H[a]?) : am_Cn X U H1 := fun hf => ⟨⟨(h hf).1.1.kept hq, (h hf).1.2⟩, (h hf).2.1.kept hq, (h hf).2.2.1.kept hq, (h hf).2.2.2.1.kept hq, (h hf).2.2.2.2.kept hq⟩
theorem am_Cn.warm {X : am_X} {s U : State} {H : Heap} (hW : s.WarmedH U.vm) (h : am_Cn X s H) : am_Cn X U H := fun hf => ⟨⟨(h hf).1.1.moved hW.alike, fun q hq => ((h hf).1.2 q hq).warm hW⟩, (h hf).2.1.moved hW.alike, (h hf).2.2.1.moved hW.alike, (h hf).2.2.2.1.moved hW.alike, (h hf).2.2.2.2.moved hW.alike⟩
/-- a method: its name, its code, its locals, what it returns, how deep its calls go -/
abbrev am_M : Type := MethodName × ByteArray × Nat × Option FieldType × Nat
def am_S (X : am_X) (Γ : am_M) (p : Program) (R : Room) (s : State) (m : MethodId) (meth : Method) (c : Code) : Prop :=
  p.tables.exec = Jvm.exec ∧ c.code = Γ.2.1 ∧ meth.sig.returnType = Γ.2.2.2.1 ∧ c.maxLocals = Γ.2.2.1 ∧ s.vm.findClass Γ.1.cls = some m.cls ∧ meth.locks = false ∧ am_T s ∧ (Γ.2.2.2.2 ≤ R.frames ∧ 100 * Γ.2.2.2.2 ≤ R.locals) ∧ va_K (am_D X) vwCl (am_ty X) s ∧ am_Cn X s s.heap ∧ am_J X
def am_Qc (X : am_X) (Q : Option Value → am_H → Prop) : Array Value → State → Outcome → State → Prop := fun _ st o t => (∃ (r : Option Value) (σ : am_H), o = .returned r ∧ Q r σ ∧ va_P (am_D X) vwCl (am_wl X σ) t.heap) ∧ va_F (am_A X) st t
def am_G (X : am_X) (Γ : am_M) (Q : Option Value → am_H → Prop) (pc : Nat) (lv : List (Nat × Value)) (st : List Value) (σ : am_H) : Prop :=
  ∀ (p : Program) (e : Env) (R : Room) (s : State) (m : MethodId) (args : Array Value) (below : List Frame) (meth : Method) (c : Code), am_S X Γ p R s m meth c →
  ∀ (H : Heap) (locs : List Loc) (ls : Array Slot), va_P (am_D X) vwCl (am_wl X σ) H → va_S (am_A X) s.heap H locs → lv_has ls Γ.2.2.1 lv →
    W p X.1 e R s m args below meth c H locs 0 0 (MQ below (am_Qc X Q) args s 0 0 (am_A X)) (F0 m pc ls st)
def am_B (X : am_X) (σ : am_H) (U : State) : Prop := am_T U ∧ va_K (am_D X) vwCl (am_ty X) U ∧ am_Cn X U U.heap ∧ am_J X ∧ va_P (am_D X) vwCl (am_wl X σ) U.heap
def am_rm (d : Nat) : Room := { frames := d, cells := 0, slots := 0, locals := 100 * d }
def am_C (X : am_X) (Γ : am_M) (As : List Value) (σ : am_H) (Q : Option Value → am_H → Prop) : Prop :=
  Met X.1 Γ.1 [.code Γ.1 Γ.2.1 Γ.2.2.1 Γ.2.2.2.1] (am_rm Γ.2.2.2.2) (va_Pc As (am_B X σ)) (am_Qc X Q) 0 0 (am_A X)
theorem am_blind {X : am_X} {σ : am_H} {As : List Value} : FrameBlind (va_Pc As (am_B X σ)) := by
  intro a U g mk ⟨h0, h1, h2, h3, h4, h5⟩
  exact ⟨h0, h1.warm (U := U.calling g mk a) (State.WarmedH.refl U), va_K.moved (u := U) (U := U.calling g mk a) (Vm.Alike.refl U.vm) h2, h3.warm (U := U.calling g mk a) (State.WarmedH.refl U), h4, h5⟩
theorem am_ofG {X : am_X} {Γ : am_M} {Q : Option Value → am_H → Prop} {As : List Value} {σ : am_H} (hy : plainName Γ.1.cls = true) (hn : (lg_sl As).length ≤ Γ.2.2.1) {lv : List (Nat × Value)} (hl : lv_args 0 As = lv) (k : am_G X Γ Q 0 lv [] σ) : am_C X Γ As σ Q := by
  refine Met.ofW (cc := Γ.2.1) (maxL := Γ.2.2.1) (ret := Γ.2.2.2.1) hy rfl ?_
  intro p e s m args below meth c s₁ B hml hv
  obtain ⟨rfl, hT, hK, hC, hJ, hP⟩ := hv
  rw [lg_entry_eq]
  have h1 := lv_entry As (n := Γ.2.2.1) hn
  rw [hl] at h1
  exact k p e _ s m _ below meth c ⟨B.exec, B.bytes, B.returns, hml, findClass_of_methodNamed B.named, B.notSynchronized, hT, ⟨Nat.le_refl _, Nat.le_refl _⟩, hK, hC, hJ⟩ s.heap [] _ hP va_S.rf h1
theorem am_C.mono {X : am_X} {Γ : am_M} {Q Q' : Option Value → am_H → Prop} {As : List Value} {σ : am_H} (h : am_C X Γ As σ Q) (hq : ∀ r σ, Q r σ → Q' r σ) : am_C X Γ As σ Q' := by
  intro p e ha hc hk s m args below hf hh hP hT
  obtain ⟨k, o, h1, h2, h3, ⟨⟨⟨r, σ', e1, e2, e3⟩, hF⟩, hL⟩⟩ := h p e ha hc hk s m args below hf hh hP hT
  exact ⟨k, o, h1, h2, h3, ⟨⟨⟨r, σ', e1, hq _ _ e2, e3⟩, hF⟩, hL⟩⟩
/-- fewer locals are known -/
theorem am_sub {X : am_X} {Γ : am_M} {Q : Option Value → am_H → Prop} {pc : Nat} {lv lv' : List (Nat × Value)} {st : List Value} {σ : am_H} (ks : List Nat) (hl : lv_pick lv ks = lv') (k : am_G X Γ Q pc lv' st σ) : am_G X Γ Q pc lv st σ :=
  fun p e R s m args below meth c S H locs ls hP hS h => k p e R s m args below meth c S H locs ls hP hS (lv_sub h ks hl)
