/-! ===== numbers again, with conditions that omega meets ===== -/
theorem qi (n : Nat) : (OfNat.ofNat n : Int32) = Int32.ofInt (OfNat.ofNat n) := (Int32.ofInt_eq_ofNat (n := n)).symm
theorem ql (n : Nat) : (OfNat.ofNat n : Int64) = Int64.ofInt (OfNat.ofNat n) := (Int64.ofInt_eq_ofNat (n := n)).symm
theorem qI_lt {a b : Int} (h1 : -2147483648 ≤ a) (h2 : a < 2147483648) (h3 : -2147483648 ≤ b) (h4 : b < 2147483648) : (Int32.ofInt a < Int32.ofInt b) = (a < b) := propext (pI_lt ⟨h1, h2⟩ ⟨h3, h4⟩)
theorem qI_le {a b : Int} (h1 : -2147483648 ≤ a) (h2 : a < 2147483648) (h3 : -2147483648 ≤ b) (h4 : b < 2147483648) : (Int32.ofInt a ≤ Int32.ofInt b) = (a ≤ b) := propext (pI_le ⟨h1, h2⟩ ⟨h3, h4⟩)
theorem qI_eq {a b : Int} (h1 : -2147483648 ≤ a) (h2 : a < 2147483648) (h3 : -2147483648 ≤ b) (h4 : b < 2147483648) : (Int32.ofInt a = Int32.ofInt b) = (a = b) := propext (pI_eq ⟨h1, h2⟩ ⟨h3, h4⟩)
theorem qI_L {a : Int} (h1 : -2147483648 ≤ a) (h2 : a < 2147483648) : (Int32.ofInt a).toInt64 = Int64.ofInt a := pI_L ⟨h1, h2⟩
theorem qI_div {a b : Int} (h1 : -2147483648 ≤ a) (h2 : a < 2147483648) (h3 : 0 < b) (h4 : b < 2147483648) : Int32.ofInt a / Int32.ofInt b = Int32.ofInt (a.tdiv b) := pI_div ⟨h1, h2⟩ ⟨by omega, h4⟩ h3
theorem qI_rem {a b : Int} (h1 : -2147483648 ≤ a) (h2 : a < 2147483648) (h3 : 0 < b) (h4 : b < 2147483648) : am_iR (Int32.ofInt a) (Int32.ofInt b) = Int32.ofInt (a.tmod b) := pI_rem ⟨h1, h2⟩ ⟨by omega, h4⟩ h3
theorem qL_lt {a b : Int} (h1 : -9223372036854775808 ≤ a) (h2 : a < 9223372036854775808) (h3 : -9223372036854775808 ≤ b) (h4 : b < 9223372036854775808) : (Int64.ofInt a < Int64.ofInt b) = (a < b) := propext (pL_lt ⟨h1, h2⟩ ⟨h3, h4⟩)
theorem qL_eq {a b : Int} (h1 : -9223372036854775808 ≤ a) (h2 : a < 9223372036854775808) (h3 : -9223372036854775808 ≤ b) (h4 : b < 9223372036854775808) : (Int64.ofInt a = Int64.ofInt b) = (a = b) := propext (pL_eq ⟨h1, h2⟩ ⟨h3, h4⟩)
theorem qL_div {a b : Int} (h1 : -9223372036854775808 ≤ a) (h2 : a < 9223372036854775808) (h3 : 0 < b) (h4 : b < 9223372036854775808) : Int64.ofInt a / Int64.ofInt b = Int64.ofInt (a.tdiv b) := pL_div ⟨h1, h2⟩ ⟨by omega, h4⟩ h3
theorem qL_rem {a b : Int} (h1 : -9223372036854775808 ≤ a) (h2 : a < 9223372036854775808) (h3 : 0 < b) (h4 : b < 9223372036854775808) : am_lR (Int64.ofInt a) (Int64.ofInt b) = Int64.ofInt (a.tmod b) := pL_rem ⟨h1, h2⟩ ⟨by omega, h4⟩ h3
theorem qI_ix {a : Int} {n : Nat} (h0 : 0 ≤ a) (h1 : a < (n : Int)) (hn : (n : Int) < 2147483648) : am_ix n (Int32.ofInt a) = some a.toNat := pI_ix h0 h1 (by omega)
theorem q_nat (n : Nat) : ((n : Int)).toNat = n := by omega
theorem q_cs (n : Nat) : ((n + 1 : Nat) : Int) = (n : Int) + 1 := rfl
theorem q_mx {a b : Int} (h1 : -2147483648 ≤ a) (h2 : a < 2147483648) (h3 : -2147483648 ≤ b) (h4 : b < 2147483648) : am_mx (Int32.ofInt a) (Int32.ofInt b) = Int32.ofInt (max a b) := by
  show (if Int32.ofInt a < Int32.ofInt b then Int32.ofInt b else Int32.ofInt a) = _
  simp only [qI_lt h1 h2 h3 h4]
  split
  · rw [show max a b = b by omega]
  · rw [show max a b = a by omega]
theorem q_mn {a b : Int} (h1 : -2147483648 ≤ a) (h2 : a < 2147483648) (h3 : -2147483648 ≤ b) (h4 : b < 2147483648) : am_mn (Int32.ofInt a) (Int32.ofInt b) = Int32.ofInt (min a b) := by
  show (if Int32.ofInt b < Int32.ofInt a then Int32.ofInt b else Int32.ofInt a) = _
  simp only [qI_lt h3 h4 h1 h2]
  split
  · rw [show min a b = b by omega]
  · rw [show min a b = a by omega]
theorem q_ab {a : Int} (h1 : -2147483648 < a) (h2 : a < 2147483648) : am_ab (Int32.ofInt a) = Int32.ofInt ((a.natAbs : Nat) : Int) := by
  show (if Int32.ofInt 0 ≤ Int32.ofInt a then Int32.ofInt a else Int32.ofInt 0 - Int32.ofInt a) = _
  simp only [qI_le (show (-2147483648 : Int) ≤ 0 by omega) (show (0 : Int) < 2147483648 by omega) (show -2147483648 ≤ a by omega) h2, ← Int32.ofInt_sub]
  split
  · rw [show ((a.natAbs : Nat) : Int) = a by omega]
  · rw [show ((a.natAbs : Nat) : Int) = 0 - a by omega]
theorem q_abL {a : Int} (h1 : -9223372036854775808 < a) (h2 : a < 9223372036854775808) : am_abL (Int64.ofInt a) = Int64.ofInt ((a.natAbs : Nat) : Int) := by
  show (if Int64.ofInt 0 < Int64.ofInt a then Int64.ofInt a else -Int64.ofInt a) = _
  simp only [qL_lt (show (-9223372036854775808 : Int) ≤ 0 by omega) (show (0 : Int) < 9223372036854775808 by omega) (show -9223372036854775808 ≤ a by omega) h2, ← Int64.ofInt_neg]
  split
  · rw [show ((a.natAbs : Nat) : Int) = a by omega]
  · rw [show ((a.natAbs : Nat) : Int) = -a by omega]
theorem q_mnL {a b : Int} (h1 : -9223372036854775808 ≤ a) (h2 : a < 9223372036854775808) (h3 : -9223372036854775808 ≤ b) (h4 : b < 9223372036854775808) : am_mnL (Int64.ofInt a) (Int64.ofInt b) = Int64.ofInt (min a b) := by
  show (if Int64.ofInt b < Int64.ofInt a then Int64.ofInt b else Int64.ofInt a) = _
  simp only [qL_lt h3 h4 h1 h2]
  split
  · rw [show min a b = b by omega]
  · rw [show min a b = a by omega]
theorem q_nn0 {β : Type} {n : Nat} {z : Option β} {f : Nat → Option β} : am_nn n none z f = z := rfl
theorem q_nn1 {β : Type} {n a : Nat} {z : Option β} {f : Nat → Option β} (h : a < n) : am_nn n (some a) z f = f a := by
  show (if a < n then f a else none) = f a
  rw [if_pos h]
theorem q_rr {n a : Nat} (h : a < n) : am_rr n (some a) = some a := by
  show (if a < n then some a else none) = some a
  rw [if_pos h]
theorem q_b1 : am_b true = Int32.ofInt 1 := rfl
theorem q_b0 : am_b false = Int32.ofInt 0 := rfl
theorem q_T {α : Type} {a b : α} : (if (true : Bool) = true then a else b) = a := rfl
theorem q_F {α : Type} {a b : α} : (if (false : Bool) = true then a else b) = b := rfl
theorem q_iT {α : Type} {h : Decidable True} {a b : α} : @ite α True h a b = a := if_pos trivial
theorem q_iF {α : Type} {h : Decidable False} {a b : α} : @ite α False h a b = b := if_neg id
theorem q_d {p : Prop} [Decidable p] : (decide p = true) = p := decide_eq_true_eq
theorem q_i64 (x : Int64) : -9223372036854775808 ≤ x.toInt ∧ x.toInt < 9223372036854775808 := by
  have h1 := x.minValue_le_toInt
  have h2 := x.toInt_le
  have e1 : Int64.minValue.toInt = -9223372036854775808 := rfl
  have e2 : Int64.maxValue.toInt = 9223372036854775807 := rfl
  rw [e1] at h1
  rw [e2] at h2
  exact ⟨h1, by omega⟩
/-- an int is what it is the residue of -/
theorem q_ex (v : Int32) : ∃ x : Int, -2147483648 ≤ x ∧ x < 2147483648 ∧ v = Int32.ofInt x := ⟨v.toInt, (pq_R v).1, (pq_R v).2, (Int32.ofInt_toInt v).symm⟩
theorem q_exL (v : Int64) : ∃ x : Int, -9223372036854775808 ≤ x ∧ x < 9223372036854775808 ∧ v = Int64.ofInt x := ⟨v.toInt, (q_i64 v).1, (q_i64 v).2, (Int64.ofInt_toInt v).symm⟩
/-! ===== what a change leaves as it was: cells by kind and slot (999: all slots) ===== -/
def qf_in (l : List (Nat × Nat)) (k j : Nat) : Bool := l.any (fun q => q.1 == k && (q.2 == 999 || q.2 == j))
def qf_dj (l r : List (Nat × Nat)) : Bool := l.all (fun q => r.all (fun p => !(q.1 == p.1 && (q.2 == 999 || p.2 == 999 || q.2 == p.2))))
/-- all but the cells of l are as they were -/
def qf (l : List (Nat × Nat)) (σ σ' : am_H) : Prop := ∀ k i j, qf_in l k j = false → σ'.1 k i j = σ.1 k i j ∧ σ'.2.1 k i j = σ.2.1 k i j ∧ σ'.2.2 k i j = σ.2.2 k i j
/-- the cells of l are as they were -/
def qa (l : List (Nat × Nat)) (σ σ' : am_H) : Prop := ∀ k i j, qf_in l k j = true → σ'.1 k i j = σ.1 k i j ∧ σ'.2.1 k i j = σ.2.1 k i j ∧ σ'.2.2 k i j = σ.2.2 k i j
theorem qf_of {l r : List (Nat × Nat)} (h : qf_dj l r = true) {k j : Nat} (hr : qf_in r k j = true) : qf_in l k j = false := by
  unfold qf_dj at h
  unfold qf_in at hr ⊢
  rw [List.any_eq_true] at hr
  obtain ⟨p, hp, h2⟩ := hr
  rw [List.any_eq_false]
  intro q hq h3
  rw [List.all_eq_true] at h
  have h4 := h q hq
  rw [List.all_eq_true] at h4
  have h5 := h4 p hp
  simp only [Bool.and_eq_true, Bool.or_eq_true, beq_iff_eq, Bool.not_eq_true', Bool.and_eq_false_iff, Bool.or_eq_false_iff, beq_eq_false_iff_ne] at h2 h3 h5
  omega
theorem qf.a {l r : List (Nat × Nat)} {σ σ' : am_H} (h : qf l σ σ') (hd : qf_dj l r = true) : qa r σ σ' := fun k i j hr => h k i j (qf_of hd hr)
theorem qf.rf {l : List (Nat × Nat)} {σ : am_H} : qf l σ σ := fun _ _ _ _ => ⟨rfl, rfl, rfl⟩
theorem qf.tr {l : List (Nat × Nat)} {σ σ1 σ2 : am_H} (h : qf l σ σ1) (h2 : qf l σ1 σ2) : qf l σ σ2 := fun k i j hl => ⟨(h2 k i j hl).1.trans (h k i j hl).1, (h2 k i j hl).2.1.trans (h k i j hl).2.1, (h2 k i j hl).2.2.trans (h k i j hl).2.2⟩
theorem qf.wI {l : List (Nat × Nat)} {σ σ1 : am_H} {k i j : Nat} {v : Int32} (h : qf l σ σ1) (hj : qf_in l k j = true) : qf l σ (am_wI σ1 k i j v) := fun a b c hl => ⟨by
  rw [am_wI_r, if_neg (fun z => by rw [z.1, z.2.2, hj] at hl; cases hl)]
  exact (h a b c hl).1, (h a b c hl).2.1, (h a b c hl).2.2⟩
theorem qf.wL {l : List (Nat × Nat)} {σ σ1 : am_H} {k i j : Nat} {v : Int64} (h : qf l σ σ1) (hj : qf_in l k j = true) : qf l σ (am_wL σ1 k i j v) := fun a b c hl => ⟨(h a b c hl).1, by
  rw [am_wL_r, if_neg (fun z => by rw [z.1, z.2.2, hj] at hl; cases hl)]
  exact (h a b c hl).2.1, (h a b c hl).2.2⟩
theorem qf.wR {l : List (Nat × Nat)} {σ σ1 : am_H} {k i j : Nat} {v : Option Nat} (h : qf l σ σ1) (hj : qf_in l k j = true) : qf l σ (am_wR σ1 k i j v) := fun a b c hl => ⟨(h a b c hl).1, (h a b c hl).2.1, by
  rw [am_wR_r, if_neg (fun z => by rw [z.1, z.2.2, hj] at hl; cases hl)]
  exact (h a b c hl).2.2⟩
theorem qf.mo {l r : List (Nat × Nat)} {σ σ1 : am_H} (h : qf l σ σ1) (hs : ∀ q ∈ l, q ∈ r) : qf r σ σ1 := fun k i j hr => h k i j (by
  unfold qf_in at hr ⊢
  rw [List.any_eq_false] at hr ⊢
  exact fun q hq => hr q (hs q hq))
theorem q_ww {σ : am_H} {k i j : Nat} {a b : Int32} : am_wI (am_wI σ k i j a) k i j b = am_wI σ k i j b := by
  unfold am_wI am_u3
  refine Prod.ext (funext fun x => funext fun y => funext fun z => ?_) rfl
  show (if x = k ∧ y = i ∧ z = j then b else (if x = k ∧ y = i ∧ z = j then a else σ.1 x y z)) = (if x = k ∧ y = i ∧ z = j then b else σ.1 x y z)
  split <;> rfl
theorem am_loop_in {S R : Type} {body : S → Option (S ⊕ R)} {s s' : S} (h : body s = some (.inl s')) : am_loop body s = am_loop body s' := by rw [am_loop_eq, h]
theorem am_loop_out {S R : Type} {body : S → Option (S ⊕ R)} {s : S} {r : R} (h : body s = some (.inr r)) : am_loop body s = some r := by rw [am_loop_eq, h]
/-! ===== one step of a function that is to answer ===== -/
theorem st_pos {α : Type} {c : Prop} [Decidable c] {A B : Option α} {o : Option α} (h : c) (k : A = o) : (if c then A else B) = o := by rw [if_pos h]; exact k
theorem st_neg {α : Type} {c : Prop} [Decidable c] {A B : Option α} {o : Option α} (h : ¬ c) (k : B = o) : (if c then A else B) = o := by rw [if_neg h]; exact k
theorem st_bd {α β : Type} {a : Option α} {x : α} {f : α → Option β} {o : Option β} (h : a = some x) (k : f x = o) : a.bind f = o := by rw [h]; exact k
theorem st_bs {α β : Type} {x : α} {f : α → Option β} {o : Option β} (k : f x = o) : (some x).bind f = o := k
theorem st_ix {β : Type} {n : Nat} {a : Int} {f : Nat → Option β} {o : Option β} (h0 : 0 ≤ a) (h1 : a < (n : Int)) (hn : (n : Int) < 2147483648) (k : f a.toNat = o) : (am_ix n (Int32.ofInt a)).bind f = o := st_bd (qI_ix h0 h1 hn) k
theorem st_in {β : Type} {n i : Nat} {f : Nat → Option β} {o : Option β} (h1 : i < n) (hn : n < 2147483648) (k : f i = o) : (am_ix n (Int32.ofInt (i : Int))).bind f = o := st_bd ((qI_ix (by omega) (by omega) (by omega)).trans (by rw [q_nat])) k
theorem st_nn {β : Type} {n a : Nat} {z : Option β} {f : Nat → Option β} {o : Option β} (h : a < n) (k : f a = o) : am_nn n (some a) z f = o := by rw [q_nn1 h]; exact k
