/-! ===== TOKENS: runs of bytes ===== -/
/-- the first place behind i, at most f on, whose byte isn't one of P -/
def rn (P : Int → Bool) (b : Nat → Int) : Nat → Nat → Nat
  | 0, i => i
  | f + 1, i => if P (b i) = true then rn P b f (i + 1) else i
theorem rn_b {P : Int → Bool} {b : Nat → Int} : ∀ f i : Nat, i ≤ rn P b f i ∧ rn P b f i ≤ i + f := by
  intro f
  induction f with
  | zero => intro i; show i ≤ i ∧ i ≤ i + 0; omega
  | succ f ih =>
    intro i
    show i ≤ (if P (b i) = true then rn P b f (i + 1) else i) ∧ (if P (b i) = true then rn P b f (i + 1) else i) ≤ i + (f + 1)
    have := ih (i + 1)
    split <;> omega
theorem rn_a {P : Int → Bool} {b : Nat → Int} : ∀ f i j : Nat, i ≤ j → j < rn P b f i → P (b j) = true := by
  intro f
  induction f with
  | zero => intro i j h1 h2; have h2 : j < i := h2; omega
  | succ f ih =>
    intro i j h1 h2
    have h2 : j < (if P (b i) = true then rn P b f (i + 1) else i) := h2
    by_cases c : P (b i) = true
    · rw [if_pos c] at h2
      by_cases e : j = i
      · rw [e]; exact c
      · exact ih (i + 1) j (by omega) h2
    · rw [if_neg c] at h2
      omega
def pB (v : Int) : Bool := decide (v = 10 ∨ v = 32)
def pL (v : Int) : Bool := decide (97 ≤ v ∧ v ≤ 122)
def pD (v : Int) : Bool := decide (48 ≤ v ∧ v ≤ 57)
/-- the sort of TOKEN that a byte begins -/
def so (v : Int) : Nat := if pL v = true then 1 else if pD v = true then 2 else if v = 59 then 3 else 4
/-- the number of the first digits, at most 4 -/
def nv (b : Nat → Int) (p : Nat) : Nat → Int
  | 0 => 0
  | k + 1 => if k < 4 then 10 * nv b p k + (b (p + k) - 48) else nv b p k
theorem nv_b {b : Nat → Int} {p : Nat} : ∀ k : Nat, k ≤ 4 → (∀ j, p ≤ j → j < p + k → pD (b j) = true) → 0 ≤ nv b p k ∧ nv b p k < 10 ^ k := by
  intro k
  induction k with
  | zero => intro _ _; show (0 : Int) ≤ 0 ∧ (0 : Int) < 10 ^ 0; omega
  | succ k ih =>
    intro hk hd
    have i := ih (by omega) (fun j h1 h2 => hd j h1 (by omega))
    have d := of_decide_eq_true (hd (p + k) (by omega) (by omega))
    show 0 ≤ (if k < 4 then 10 * nv b p k + (b (p + k) - 48) else nv b p k) ∧ (if k < 4 then 10 * nv b p k + (b (p + k) - 48) else nv b p k) < 10 ^ (k + 1)
    rw [if_pos (by omega), Int.pow_succ]
    omega
/-- the letters, the last one first -/
def lr (b : Nat → Int) (p : Nat) : Nat → List Int
  | 0 => []
  | k + 1 => (b (p + k) - 96) :: lr b p k
def ev (B : Int) : List Int → Int
  | [] => 0
  | d :: l => ev B l * B + d
/-- a WORD as the reference keeps it -/
def wd (b : Nat → Int) (p : Nat) : Nat → Int
  | 0 => 0
  | k + 1 => if k < 8 then wd b p k * 32 + (b (p + k) - 96) else -1
theorem wd_ev {b : Nat → Int} {p : Nat} : ∀ k : Nat, k ≤ 8 → wd b p k = ev 32 (lr b p k) := by
  intro k
  induction k with
  | zero => intro _; rfl
  | succ k ih =>
    intro hk
    show (if k < 8 then wd b p k * 32 + (b (p + k) - 96) else -1) = ev 32 (lr b p k) * 32 + (b (p + k) - 96)
    rw [if_pos (by omega), ih (by omega)]
theorem wd_9 {b : Nat → Int} {p k : Nat} (h : 8 < k) : wd b p k = -1 := by
  obtain ⟨q, rfl⟩ : ∃ q, k = q + 1 := ⟨k - 1, by omega⟩
  show (if q < 8 then wd b p q * 32 + (b (p + q) - 96) else -1) = -1
  rw [if_neg (by omega)]
theorem lr_n {b : Nat → Int} {p : Nat} : ∀ k : Nat, (lr b p k).length = k := by
  intro k
  induction k with
  | zero => rfl
  | succ k ih => show (lr b p k).length + 1 = k + 1; rw [ih]
theorem lr_g {b : Nat → Int} {p : Nat} : ∀ k i : Nat, i < k → (lr b p k).getD i 0 = b (p + (k - 1 - i)) - 96 := by
  intro k
  induction k with
  | zero => intro i h; omega
  | succ k ih =>
    intro i h
    match i with
    | 0 =>
      show b (p + k) - 96 = b (p + (k + 1 - 1 - 0)) - 96
      rw [show k + 1 - 1 - 0 = k by omega]
    | i + 1 =>
      show (lr b p k).getD i 0 = b (p + (k + 1 - 1 - (i + 1))) - 96
      rw [ih i (by omega), show k + 1 - 1 - (i + 1) = k - 1 - i by omega]
/-- digits from 1 on: no two rows of them are one number -/
theorem ev_p {B : Int} (hB : 2 ≤ B) : ∀ l : List Int, (∀ d ∈ l, 1 ≤ d ∧ d < B) → 0 ≤ ev B l := by
  intro l
  induction l with
  | nil => intro _; exact Int.le_refl 0
  | cons d l ih =>
    intro h
    have h1 := ih (fun x hx => h x (List.mem_cons_of_mem _ hx))
    have h2 := h d List.mem_cons_self
    have : 0 ≤ ev B l * B := Int.mul_nonneg h1 (by omega)
    show 0 ≤ ev B l * B + d
    omega
theorem ev_i {B : Int} (hB : 2 ≤ B) : ∀ l r : List Int, (∀ d ∈ l, 1 ≤ d ∧ d < B) → (∀ d ∈ r, 1 ≤ d ∧ d < B) → ev B l = ev B r → l = r := by
  intro l
  induction l with
  | nil =>
    intro r _ h2 e
    match r, h2, e with
    | [], _, _ => rfl
    | d :: r, h2, e =>
      exfalso
      have h3 := ev_p hB r (fun x hx => h2 x (List.mem_cons_of_mem _ hx))
      have h4 := h2 d List.mem_cons_self
      have : 0 ≤ ev B r * B := Int.mul_nonneg h3 (by omega)
      have e : (0 : Int) = ev B r * B + d := e
      omega
  | cons a l ih =>
    intro r h1 h2 e
    have g1 := ev_p hB l (fun x hx => h1 x (List.mem_cons_of_mem _ hx))
    have a1 := h1 a List.mem_cons_self
    match r, h2, e with
    | [], _, e =>
      exfalso
      have : 0 ≤ ev B l * B := Int.mul_nonneg g1 (by omega)
      have e : ev B l * B + a = 0 := e
      omega
    | d :: r, h2, e =>
      have g2 := ev_p hB r (fun x hx => h2 x (List.mem_cons_of_mem _ hx))
      have d1 := h2 d List.mem_cons_self
      have e : ev B l * B + a = ev B r * B + d := e
      have m1 : (ev B l * B + a) % B = a := by
        rw [Int.add_comm, Int.add_mul_emod_self_right, Int.emod_eq_of_lt (by omega) (by omega)]
      have m2 : (ev B r * B + d) % B = d := by
        rw [Int.add_comm, Int.add_mul_emod_self_right, Int.emod_eq_of_lt (by omega) (by omega)]
      have ad : a = d := by rw [← m1, ← m2, e]
      have ee : ev B l * B = ev B r * B := by omega
      have er : ev B l = ev B r := Int.eq_of_mul_eq_mul_right (by omega) ee
      rw [ad, ih r (fun x hx => h1 x (List.mem_cons_of_mem _ hx)) (fun x hx => h2 x (List.mem_cons_of_mem _ hx)) er]
theorem ev_u {B : Int} (hB : 2 ≤ B) : ∀ l : List Int, (∀ d ∈ l, 1 ≤ d ∧ d < B) → ev B l < B ^ l.length := by
  intro l
  induction l with
  | nil => intro _; show (0 : Int) < B ^ 0; rw [Int.pow_zero]; omega
  | cons d l ih =>
    intro h
    have h1 := ih (fun x hx => h x (List.mem_cons_of_mem _ hx))
    have h2 := h d List.mem_cons_self
    show ev B l * B + d < B ^ (l.length + 1)
    rw [Int.pow_succ]
    have : (ev B l + 1) * B ≤ B ^ l.length * B := Int.mul_le_mul_of_nonneg_right (by omega) (by omega)
    rw [Int.add_mul, Int.one_mul] at this
    omega
theorem lr_d {b : Nat → Int} {p : Nat} : ∀ k : Nat, (∀ j, p ≤ j → j < p + k → pL (b j) = true) → ∀ d ∈ lr b p k, 1 ≤ d ∧ d ≤ 26 := by
  intro k
  induction k with
  | zero => intro _ d hd; cases hd
  | succ k ih =>
    intro h d hd
    rcases List.mem_cons.mp hd with e | hd
    · have := of_decide_eq_true (h (p + k) (by omega) (by omega))
      omega
    · exact ih (fun j h1 h2 => h j h1 (by omega)) d hd
/-- the WORDS of both languages, the last letter first -/
def wl (r : Nat) : List Int := [[5, 22, 1, 23], [19, 14, 18, 21, 20], [14, 9], [5, 26, 9, 19], [20, 1], [14, 9, 1, 18, 20], [24, 15, 2], [6, 15], [11, 3, 1, 12, 19], [15, 18, 5, 26], [4, 14, 5], [15, 7], [12, 9, 20, 14, 21], [11, 18, 1, 13], [4, 1, 5, 18], [16, 15, 15, 12], [14, 5, 8, 23], [8, 7, 9, 8], [23, 15, 12], [5, 22, 15, 2, 1], [23, 15, 12, 5, 2], [19, 19, 5, 12]].getD r []
theorem wl_ok : ∀ r : Fin 22, (wl r.val).length = am_sL.getD r.val 0 ∧ (wl r.val).length ≤ 5 ∧ (∀ d ∈ wl r.val, 1 ≤ d ∧ d < 32) ∧ ∀ j : Fin 5, j.val < (wl r.val).length → am_sch r.val j.val = Int32.ofInt (96 + (wl r.val).getD ((wl r.val).length - 1 - j.val) 0) ∧ 1 ≤ (wl r.val).getD ((wl r.val).length - 1 - j.val) 0 ∧ (wl r.val).getD ((wl r.val).length - 1 - j.val) 0 ≤ 26 := by decide +kernel
/-- is it this WORD -/
def wq (b : Nat → Int) (s p e r : Nat) : Bool := decide (s = 1 ∧ lr b p (e - p) = wl r)
def tu (v : Int) : Int := if v < 0 then v + 256 else v
theorem tu_1 : ∀ x : Fin 256, (Int32.ofInt ((x.val : Int) - 128)) &&& Int32.ofInt 255 = Int32.ofInt (tu ((x.val : Int) - 128)) := by decide +kernel
theorem tu_2 {v : Int} (h1 : -128 ≤ v) (h2 : v ≤ 127) : Int32.ofInt v &&& Int32.ofInt 255 = Int32.ofInt (tu v) := by
  have := tu_1 ⟨(v + 128).toNat, by omega⟩
  have e : ((((v + 128).toNat : Nat) : Int) - 128) = v := by omega
  simp only [e] at this
  exact this
theorem tu_b {v : Int} (h1 : -128 ≤ v) (h2 : v ≤ 127) : 0 ≤ tu v ∧ tu v ≤ 255 ∧ (tu v ≤ 127 → tu v = v) ∧ (0 ≤ v → tu v = v) := by
  unfold tu
  split <;> omega
/-! ===== TOKENS: both sides' text ===== -/
def tC (σ : am_H) (n : Nat) (b : Nat → Int) : Prop := n ≤ 600 ∧ σ.1 5 0 2 = Int32.ofInt (n : Int) ∧ ∀ j, j < n → (-128 ≤ b j ∧ b j ≤ 127) ∧ σ.1 600 0 j = Int32.ofInt (b j)
def tM (σ : am_H) (n : Nat) (b : Nat → Int) : Prop := n ≤ 600 ∧ σ.1 12 0 9 = Int32.ofInt (n : Int) ∧ ∀ j, j < n → (-128 ≤ b j ∧ b j ≤ 127) ∧ σ.1 1307 0 j = Int32.ofInt (b j)
theorem tC.q {σ τ : am_H} {n : Nat} {b : Nat → Int} {l : List (Nat × Nat)} (h : tC σ n b) (q : qf l σ τ) (hd : qf_dj l [(5, 2), (600, 999)] = true) : tC τ n b := by
  have g := q.a hd
  exact ⟨h.1, (g.i (k := 5) (j := 2) rfl 0).trans h.2.1, fun j hj => ⟨(h.2.2 j hj).1, by rw [g.I (k := 600) (fun j => rfl)]; exact (h.2.2 j hj).2⟩⟩
theorem tM.q {σ τ : am_H} {n : Nat} {b : Nat → Int} {l : List (Nat × Nat)} (h : tM σ n b) (q : qf l σ τ) (hd : qf_dj l [(12, 9), (1307, 999)] = true) : tM τ n b := by
  have g := q.a hd
  exact ⟨h.1, (g.i (k := 12) (j := 9) rfl 0).trans h.2.1, fun j hj => ⟨(h.2.2 j hj).1, by rw [g.I (k := 1307) (fun j => rfl)]; exact (h.2.2 j hj).2⟩⟩
theorem t_so {σ : am_H} {v : Int} (h1 : -128 ≤ v) (h2 : v ≤ 127) : f_X5_sortOf (Int32.ofInt v) σ = some (Int32.ofInt (so v : Nat)) := by
  unfold so pL pD
  by_cases c1 : 97 ≤ v ∧ v ≤ 122
  · rw [decide_eq_true c1, if_pos rfl]
    simp (disch := omega) only [f_X5_sortOf, Option.bind_some, qi, ql, qI_lt, qI_le, qI_eq, qI_L, qI_ix, qL_lt, qL_eq, q_nat, q_cs, ← Int32.ofInt_add, ← Int32.ofInt_sub, ← Int32.ofInt_mul, ← Int32.ofInt_neg, ← Int64.ofInt_add, ← Int64.ofInt_sub, ← Int64.ofInt_mul, ← Int64.ofInt_neg, pL_I, q_mx, q_mn, q_ab, q_abL, q_mnL, q_nn0, q_nn1, q_rr, q_b1, q_b0, q_T, q_F, q_iT, q_iF, q_d, q_in, q_wi, q_hC, q_hM, pT_i, pU_i, pS_i, pS_j, pS_0, Sum.elim_inl, Sum.elim_inr, if_pos, if_neg]
    rfl
  · rw [decide_eq_false c1, if_neg Bool.false_ne_true]
    have e14 : f_X5_sortOf_14 (Int32.ofInt v) σ = some (Int32.ofInt ((if decide (48 ≤ v ∧ v ≤ 57) = true then 2 else if v = 59 then 3 else 4 : Nat) : Int)) := by
      by_cases c2 : 48 ≤ v ∧ v ≤ 57
      · rw [decide_eq_true c2, if_pos rfl]
        simp (disch := omega) only [f_X5_sortOf_14, Option.bind_some, qi, ql, qI_lt, qI_le, qI_eq, qI_L, qI_ix, qL_lt, qL_eq, q_nat, q_cs, ← Int32.ofInt_add, ← Int32.ofInt_sub, ← Int32.ofInt_mul, ← Int32.ofInt_neg, ← Int64.ofInt_add, ← Int64.ofInt_sub, ← Int64.ofInt_mul, ← Int64.ofInt_neg, pL_I, q_mx, q_mn, q_ab, q_abL, q_mnL, q_nn0, q_nn1, q_rr, q_b1, q_b0, q_T, q_F, q_iT, q_iF, q_d, q_in, q_wi, q_hC, q_hM, pT_i, pU_i, pS_i, pS_j, pS_0, Sum.elim_inl, Sum.elim_inr, if_pos, if_neg]
        rfl
      · rw [decide_eq_false c2, if_neg Bool.false_ne_true]
        have e28 : f_X5_sortOf_28 (Int32.ofInt v) σ = some (Int32.ofInt ((if v = 59 then 3 else 4 : Nat) : Int)) := by
          by_cases c3 : v = 59
          · rw [if_pos c3]
            simp (disch := omega) only [f_X5_sortOf_28, Option.bind_some, qi, ql, qI_lt, qI_le, qI_eq, qI_L, qI_ix, qL_lt, qL_eq, q_nat, q_cs, ← Int32.ofInt_add, ← Int32.ofInt_sub, ← Int32.ofInt_mul, ← Int32.ofInt_neg, ← Int64.ofInt_add, ← Int64.ofInt_sub, ← Int64.ofInt_mul, ← Int64.ofInt_neg, pL_I, q_mx, q_mn, q_ab, q_abL, q_mnL, q_nn0, q_nn1, q_rr, q_b1, q_b0, q_T, q_F, q_iT, q_iF, q_d, q_in, q_wi, q_hC, q_hM, pT_i, pU_i, pS_i, pS_j, pS_0, Sum.elim_inl, Sum.elim_inr, if_pos, if_neg]
            rfl
          · rw [if_neg c3]
            simp (disch := omega) only [f_X5_sortOf_28, Option.bind_some, qi, ql, qI_lt, qI_le, qI_eq, qI_L, qI_ix, qL_lt, qL_eq, q_nat, q_cs, ← Int32.ofInt_add, ← Int32.ofInt_sub, ← Int32.ofInt_mul, ← Int32.ofInt_neg, ← Int64.ofInt_add, ← Int64.ofInt_sub, ← Int64.ofInt_mul, ← Int64.ofInt_neg, pL_I, q_mx, q_mn, q_ab, q_abL, q_mnL, q_nn0, q_nn1, q_rr, q_b1, q_b0, q_T, q_F, q_iT, q_iF, q_d, q_in, q_wi, q_hC, q_hM, pT_i, pU_i, pS_i, pS_j, pS_0, Sum.elim_inl, Sum.elim_inr, if_pos, if_neg]
            rfl
        by_cases c4 : v < 48
        · simp (disch := omega) only [f_X5_sortOf_14, e28, Option.bind_some, qi, ql, qI_lt, qI_le, qI_eq, qI_L, qI_ix, qL_lt, qL_eq, q_nat, q_cs, ← Int32.ofInt_add, ← Int32.ofInt_sub, ← Int32.ofInt_mul, ← Int32.ofInt_neg, ← Int64.ofInt_add, ← Int64.ofInt_sub, ← Int64.ofInt_mul, ← Int64.ofInt_neg, pL_I, q_mx, q_mn, q_ab, q_abL, q_mnL, q_nn0, q_nn1, q_rr, q_b1, q_b0, q_T, q_F, q_iT, q_iF, q_d, q_in, q_wi, q_hC, q_hM, pT_i, pU_i, pS_i, pS_j, pS_0, Sum.elim_inl, Sum.elim_inr, if_pos, if_neg]
        · simp (disch := omega) only [f_X5_sortOf_14, e28, Option.bind_some, qi, ql, qI_lt, qI_le, qI_eq, qI_L, qI_ix, qL_lt, qL_eq, q_nat, q_cs, ← Int32.ofInt_add, ← Int32.ofInt_sub, ← Int32.ofInt_mul, ← Int32.ofInt_neg, ← Int64.ofInt_add, ← Int64.ofInt_sub, ← Int64.ofInt_mul, ← Int64.ofInt_neg, pL_I, q_mx, q_mn, q_ab, q_abL, q_mnL, q_nn0, q_nn1, q_rr, q_b1, q_b0, q_T, q_F, q_iT, q_iF, q_d, q_in, q_wi, q_hC, q_hM, pT_i, pU_i, pS_i, pS_j, pS_0, Sum.elim_inl, Sum.elim_inr, if_pos, if_neg]
    by_cases c5 : v < 97
    · simp (disch := omega) only [f_X5_sortOf, e14, Option.bind_some, qi, ql, qI_lt, qI_le, qI_eq, qI_L, qI_ix, qL_lt, qL_eq, q_nat, q_cs, ← Int32.ofInt_add, ← Int32.ofInt_sub, ← Int32.ofInt_mul, ← Int32.ofInt_neg, ← Int64.ofInt_add, ← Int64.ofInt_sub, ← Int64.ofInt_mul, ← Int64.ofInt_neg, pL_I, q_mx, q_mn, q_ab, q_abL, q_mnL, q_nn0, q_nn1, q_rr, q_b1, q_b0, q_T, q_F, q_iT, q_iF, q_d, q_in, q_wi, q_hC, q_hM, pT_i, pU_i, pS_i, pS_j, pS_0, Sum.elim_inl, Sum.elim_inr, if_pos, if_neg]
    · simp (disch := omega) only [f_X5_sortOf, e14, Option.bind_some, qi, ql, qI_lt, qI_le, qI_eq, qI_L, qI_ix, qL_lt, qL_eq, q_nat, q_cs, ← Int32.ofInt_add, ← Int32.ofInt_sub, ← Int32.ofInt_mul, ← Int32.ofInt_neg, ← Int64.ofInt_add, ← Int64.ofInt_sub, ← Int64.ofInt_mul, ← Int64.ofInt_neg, pL_I, q_mx, q_mn, q_ab, q_abL, q_mnL, q_nn0, q_nn1, q_rr, q_b1, q_b0, q_T, q_F, q_iT, q_iF, q_d, q_in, q_wi, q_hC, q_hM, pT_i, pU_i, pS_i, pS_j, pS_0, Sum.elim_inl, Sum.elim_inr, if_pos, if_neg]
theorem t_bl {σ : am_H} {v : Int} (h1 : -128 ≤ v) (h2 : v ≤ 127) : f_X5_isBlank (Int32.ofInt v) σ = some (pB v) := by
  unfold pB
  by_cases c1 : v = 10
  · rw [decide_eq_true (Or.inl c1)]
    simp (disch := omega) only [f_X5_isBlank, Option.bind_some, qi, ql, qI_lt, qI_le, qI_eq, qI_L, qI_ix, qL_lt, qL_eq, q_nat, q_cs, ← Int32.ofInt_add, ← Int32.ofInt_sub, ← Int32.ofInt_mul, ← Int32.ofInt_neg, ← Int64.ofInt_add, ← Int64.ofInt_sub, ← Int64.ofInt_mul, ← Int64.ofInt_neg, pL_I, q_mx, q_mn, q_ab, q_abL, q_mnL, q_nn0, q_nn1, q_rr, q_b1, q_b0, q_T, q_F, q_iT, q_iF, q_d, q_in, q_wi, q_hC, q_hM, pT_i, pU_i, pS_i, pS_j, pS_0, Sum.elim_inl, Sum.elim_inr, if_pos, if_neg]
  · by_cases c2 : v = 32
    · rw [decide_eq_true (Or.inr c2)]
      simp (disch := omega) only [f_X5_isBlank, Option.bind_some, qi, ql, qI_lt, qI_le, qI_eq, qI_L, qI_ix, qL_lt, qL_eq, q_nat, q_cs, ← Int32.ofInt_add, ← Int32.ofInt_sub, ← Int32.ofInt_mul, ← Int32.ofInt_neg, ← Int64.ofInt_add, ← Int64.ofInt_sub, ← Int64.ofInt_mul, ← Int64.ofInt_neg, pL_I, q_mx, q_mn, q_ab, q_abL, q_mnL, q_nn0, q_nn1, q_rr, q_b1, q_b0, q_T, q_F, q_iT, q_iF, q_d, q_in, q_wi, q_hC, q_hM, pT_i, pU_i, pS_i, pS_j, pS_0, Sum.elim_inl, Sum.elim_inr, if_pos, if_neg]
    · rw [decide_eq_false (by omega)]
      simp (disch := omega) only [f_X5_isBlank, Option.bind_some, qi, ql, qI_lt, qI_le, qI_eq, qI_L, qI_ix, qL_lt, qL_eq, q_nat, q_cs, ← Int32.ofInt_add, ← Int32.ofInt_sub, ← Int32.ofInt_mul, ← Int32.ofInt_neg, ← Int64.ofInt_add, ← Int64.ofInt_sub, ← Int64.ofInt_mul, ← Int64.ofInt_neg, pL_I, q_mx, q_mn, q_ab, q_abL, q_mnL, q_nn0, q_nn1, q_rr, q_b1, q_b0, q_T, q_F, q_iT, q_iF, q_d, q_in, q_wi, q_hC, q_hM, pT_i, pU_i, pS_i, pS_j, pS_0, Sum.elim_inl, Sum.elim_inr, if_pos, if_neg]
theorem t_look {σ : am_H} {n : Nat} {b : Nat → Int} {i : Nat} (M : tM σ n b) (hi : i ≤ n) : f_X12_look (Int32.ofInt (i : Int)) σ = some (Int32.ofInt (if i < n then tu (b i) else 0)) := by
  obtain ⟨m1, m2, m3⟩ := M
  by_cases c : i < n
  · rw [if_pos c]
    have e := tu_2 (m3 i c).1.1 (m3 i c).1.2
    have e2 := (m3 i c).2
    simp (disch := omega) only [f_X12_look, m2, e2, e, Option.bind_some, qi, ql, qI_lt, qI_le, qI_eq, qI_L, qI_ix, qL_lt, qL_eq, q_nat, q_cs, ← Int32.ofInt_add, ← Int32.ofInt_sub, ← Int32.ofInt_mul, ← Int32.ofInt_neg, ← Int64.ofInt_add, ← Int64.ofInt_sub, ← Int64.ofInt_mul, ← Int64.ofInt_neg, pL_I, q_mx, q_mn, q_ab, q_abL, q_mnL, q_nn0, q_nn1, q_rr, q_b1, q_b0, q_T, q_F, q_iT, q_iF, q_d, q_in, q_wi, q_hC, q_hM, pT_i, pU_i, pS_i, pS_j, pS_0, Sum.elim_inl, Sum.elim_inr, if_pos, if_neg]
  · rw [if_neg c]
    simp (disch := omega) only [f_X12_look, m2, Option.bind_some, qi, ql, qI_lt, qI_le, qI_eq, qI_L, qI_ix, qL_lt, qL_eq, q_nat, q_cs, ← Int32.ofInt_add, ← Int32.ofInt_sub, ← Int32.ofInt_mul, ← Int32.ofInt_neg, ← Int64.ofInt_add, ← Int64.ofInt_sub, ← Int64.ofInt_mul, ← Int64.ofInt_neg, pL_I, q_mx, q_mn, q_ab, q_abL, q_mnL, q_nn0, q_nn1, q_rr, q_b1, q_b0, q_T, q_F, q_iT, q_iF, q_d, q_in, q_wi, q_hC, q_hM, pT_i, pU_i, pS_i, pS_j, pS_0, Sum.elim_inl, Sum.elim_inr, if_pos, if_neg]
theorem t_let {σ : am_H} {v : Int} (h1 : 0 ≤ v) (h2 : v ≤ 255) : f_X12_isLetter (Int32.ofInt v) σ = some (pL v) := by
  unfold pL
  by_cases c1 : 97 ≤ v ∧ v ≤ 122
  · rw [decide_eq_true c1]
    simp (disch := omega) only [f_X12_isLetter, Option.bind_some, qi, ql, qI_lt, qI_le, qI_eq, qI_L, qI_ix, qL_lt, qL_eq, q_nat, q_cs, ← Int32.ofInt_add, ← Int32.ofInt_sub, ← Int32.ofInt_mul, ← Int32.ofInt_neg, ← Int64.ofInt_add, ← Int64.ofInt_sub, ← Int64.ofInt_mul, ← Int64.ofInt_neg, pL_I, q_mx, q_mn, q_ab, q_abL, q_mnL, q_nn0, q_nn1, q_rr, q_b1, q_b0, q_T, q_F, q_iT, q_iF, q_d, q_in, q_wi, q_hC, q_hM, pT_i, pU_i, pS_i, pS_j, pS_0, Sum.elim_inl, Sum.elim_inr, if_pos, if_neg]
  · rw [decide_eq_false c1]
    by_cases c2 : v < 97
    · simp (disch := omega) only [f_X12_isLetter, Option.bind_some, qi, ql, qI_lt, qI_le, qI_eq, qI_L, qI_ix, qL_lt, qL_eq, q_nat, q_cs, ← Int32.ofInt_add, ← Int32.ofInt_sub, ← Int32.ofInt_mul, ← Int32.ofInt_neg, ← Int64.ofInt_add, ← Int64.ofInt_sub, ← Int64.ofInt_mul, ← Int64.ofInt_neg, pL_I, q_mx, q_mn, q_ab, q_abL, q_mnL, q_nn0, q_nn1, q_rr, q_b1, q_b0, q_T, q_F, q_iT, q_iF, q_d, q_in, q_wi, q_hC, q_hM, pT_i, pU_i, pS_i, pS_j, pS_0, Sum.elim_inl, Sum.elim_inr, if_pos, if_neg]
    · simp (disch := omega) only [f_X12_isLetter, Option.bind_some, qi, ql, qI_lt, qI_le, qI_eq, qI_L, qI_ix, qL_lt, qL_eq, q_nat, q_cs, ← Int32.ofInt_add, ← Int32.ofInt_sub, ← Int32.ofInt_mul, ← Int32.ofInt_neg, ← Int64.ofInt_add, ← Int64.ofInt_sub, ← Int64.ofInt_mul, ← Int64.ofInt_neg, pL_I, q_mx, q_mn, q_ab, q_abL, q_mnL, q_nn0, q_nn1, q_rr, q_b1, q_b0, q_T, q_F, q_iT, q_iF, q_d, q_in, q_wi, q_hC, q_hM, pT_i, pU_i, pS_i, pS_j, pS_0, Sum.elim_inl, Sum.elim_inr, if_pos, if_neg]
theorem t_dig {σ : am_H} {v : Int} (h1 : 0 ≤ v) (h2 : v ≤ 255) : f_X12_isDigit (Int32.ofInt v) σ = some (pD v) := by
  unfold pD
  by_cases c1 : 48 ≤ v ∧ v ≤ 57
  · rw [decide_eq_true c1]
    simp (disch := omega) only [f_X12_isDigit, Option.bind_some, qi, ql, qI_lt, qI_le, qI_eq, qI_L, qI_ix, qL_lt, qL_eq, q_nat, q_cs, ← Int32.ofInt_add, ← Int32.ofInt_sub, ← Int32.ofInt_mul, ← Int32.ofInt_neg, ← Int64.ofInt_add, ← Int64.ofInt_sub, ← Int64.ofInt_mul, ← Int64.ofInt_neg, pL_I, q_mx, q_mn, q_ab, q_abL, q_mnL, q_nn0, q_nn1, q_rr, q_b1, q_b0, q_T, q_F, q_iT, q_iF, q_d, q_in, q_wi, q_hC, q_hM, pT_i, pU_i, pS_i, pS_j, pS_0, Sum.elim_inl, Sum.elim_inr, if_pos, if_neg]
  · rw [decide_eq_false c1]
    by_cases c2 : v < 48
    · simp (disch := omega) only [f_X12_isDigit, Option.bind_some, qi, ql, qI_lt, qI_le, qI_eq, qI_L, qI_ix, qL_lt, qL_eq, q_nat, q_cs, ← Int32.ofInt_add, ← Int32.ofInt_sub, ← Int32.ofInt_mul, ← Int32.ofInt_neg, ← Int64.ofInt_add, ← Int64.ofInt_sub, ← Int64.ofInt_mul, ← Int64.ofInt_neg, pL_I, q_mx, q_mn, q_ab, q_abL, q_mnL, q_nn0, q_nn1, q_rr, q_b1, q_b0, q_T, q_F, q_iT, q_iF, q_d, q_in, q_wi, q_hC, q_hM, pT_i, pU_i, pS_i, pS_j, pS_0, Sum.elim_inl, Sum.elim_inr, if_pos, if_neg]
    · simp (disch := omega) only [f_X12_isDigit, Option.bind_some, qi, ql, qI_lt, qI_le, qI_eq, qI_L, qI_ix, qL_lt, qL_eq, q_nat, q_cs, ← Int32.ofInt_add, ← Int32.ofInt_sub, ← Int32.ofInt_mul, ← Int32.ofInt_neg, ← Int64.ofInt_add, ← Int64.ofInt_sub, ← Int64.ofInt_mul, ← Int64.ofInt_neg, pL_I, q_mx, q_mn, q_ab, q_abL, q_mnL, q_nn0, q_nn1, q_rr, q_b1, q_b0, q_T, q_F, q_iT, q_iF, q_d, q_in, q_wi, q_hC, q_hM, pT_i, pU_i, pS_i, pS_j, pS_0, Sum.elim_inl, Sum.elim_inr, if_pos, if_neg]
theorem tu_p {v : Int} (h1 : -128 ≤ v) (h2 : v ≤ 127) : pL (tu v) = pL v ∧ pD (tu v) = pD v ∧ (tu v = 10 ↔ v = 10) ∧ (tu v = 32 ↔ v = 32) ∧ (tu v = 59 ↔ v = 59) := by
  unfold pL pD tu
  by_cases c : v < 0
  · rw [if_pos c]
    refine ⟨?_, ?_, by omega, by omega, by omega⟩
    · rw [decide_eq_false (by omega), decide_eq_false (by omega)]
    · rw [decide_eq_false (by omega), decide_eq_false (by omega)]
  · rw [if_neg c]
    exact ⟨rfl, rfl, Iff.rfl, Iff.rfl, Iff.rfl⟩
