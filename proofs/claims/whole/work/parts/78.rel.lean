/-! ===== the relation, block by block ===== -/
def pr_frac (σ1 σ2 : am_H) : Prop := σ1.2.1 11 0 1 = σ2.2.1 12 0 2 ∧ σ1.2.1 11 0 2 = σ2.2.1 12 0 3
def pr_tray (σ1 σ2 : am_H) (t : Nat) : Prop := ∃ so mn : Int, σ1.1 8 t 0 = Int32.ofInt so ∧ σ1.1 8 t 1 = Int32.ofInt mn ∧ ((so = -1 ∧ mn = 0 ∧ σ2.1 1305 0 t = Int32.ofInt (-1)) ∨ ((0 ≤ so ∧ so ≤ 3) ∧ (0 ≤ mn ∧ mn ≤ 60) ∧ σ2.1 1304 0 t = Int32.ofInt so ∧ σ2.1 1305 0 t = Int32.ofInt mn ∧ ∀ j : Nat, (j : Int) < mn → σ1.2.1 902 t j = σ2.2.1 1306 0 (60 * t + j)))
def pr_trays (σ1 σ2 : am_H) : Prop := ∀ t, t < 5 → pr_tray σ1 σ2 t
def pr_tape (σ1 σ2 : am_H) : Prop := ∃ L : Int, (0 ≤ L ∧ L ≤ 600) ∧ σ1.1 5 0 1 = Int32.ofInt L ∧ σ2.1 12 0 8 = Int32.ofInt L ∧ ∀ j : Nat, (j : Int) < L → ∃ b : Int, (-128 ≤ b ∧ b ≤ 127) ∧ σ1.1 600 0 j = Int32.ofInt b ∧ σ2.1 1307 0 j = Int32.ofInt b
def pr_fault (σ1 σ2 : am_H) : Prop := σ1.1 5 0 7 = σ2.1 12 0 10 ∧ σ1.1 5 0 8 = σ2.1 12 0 11
/-- a TRAIN's wheels have teeth -/
def pw_tr (w : Nat → Int) : Prop := ∀ k : Nat, (k : Int) < 2 * w 4 → 5 ≤ w (5 + k)
def pr_kinds (σ1 σ2 : am_H) (m a kc : Nat) (kw kt : Nat → Int) : Prop := kc ≤ 10 ∧ σ1.1 3 a 4 = Int32.ofInt kc ∧ σ2.1 1321 0 m = Int32.ofInt kc ∧ ∀ k, k < kc → (0 ≤ kw k ∧ kw k ≤ 9) ∧ (5 ≤ kt k ∧ kt k ≤ 200) ∧ σ1.1 402 a k = Int32.ofInt (kw k) ∧ σ1.1 403 a k = Int32.ofInt (kt k) ∧ σ2.1 1325 0 (20 * m + 2 * k) = Int32.ofInt (kw k) ∧ σ2.1 1325 0 (20 * m + 2 * k + 1) = Int32.ofInt (kt k)
def pr_mach (σ1 σ2 : am_H) (m a : Nat) : Prop := ∃ (wc : Nat) (ws : Nat → Nat → Int) (zr sl : Int) (kc : Nat) (kw kt : Nat → Int), ph_C σ1 a wc ws zr ∧ ph_M σ2 m wc ws (max zr 0) ∧ (∀ i, i < wc → pw_tr (ws i)) ∧ σ1.1 3 a 5 = Int32.ofInt sl ∧ (-1 ≤ sl ∧ sl ≤ 99) ∧ σ2.1 1322 0 m = Int32.ofInt (max sl 0) ∧ pr_kinds σ1 σ2 m a kc kw kt
def pr_machs (σ1 σ2 : am_H) : Prop := ∃ a0 a1 a2 : Nat, (a0 < 3 ∧ a1 < 3 ∧ a2 < 3) ∧ (a0 ≠ a1 ∧ a0 ≠ a2 ∧ a1 ≠ a2) ∧ σ1.2.2 1205 0 0 = some a0 ∧ σ1.2.2 1205 0 1 = some a1 ∧ σ1.2.2 11 0 6 = some a2 ∧ pr_mach σ1 σ2 0 a0 ∧ pr_mach σ1 σ2 1 a1
/-- a STEP of both sides: D deeds, T tests, U numbers of the class; S steps, A arguments, L levels of the reference -/
def pg_step (D T U S A L : Nat → Int32) (s r kd : Nat) : Prop := D r = Int32.ofInt kd ∧ S s = Int32.ofInt kd ∧
  (kd = 0 → ∃ n : Int, (0 ≤ n ∧ n ≤ 9999) ∧ U r = Int32.ofInt n ∧ A s = Int32.ofInt n) ∧
  (kd = 4 → ∃ n : Int, (1 ≤ n ∧ n ≤ 9) ∧ U r = Int32.ofInt n ∧ A s = Int32.ofInt n) ∧
  (kd = 1 ∨ kd = 5 → ∃ t n : Int, (0 ≤ t ∧ t ≤ 3) ∧ (kd = 5 → 2 ≤ t) ∧ (-9999 ≤ n ∧ n ≤ 9999) ∧ T r = Int32.ofInt (t + 1) ∧ U r = Int32.ofInt n ∧ A s = Int32.ofInt t ∧ (2 ≤ t → L s = Int32.ofInt n))
/-- STEPS s .. e of the reference are rows r .. q of the class; d: so deep may they go -/
def pg_seg (D T U V S A L E : Nat → Int32) : Nat → Nat → Nat → Nat → Nat → Nat → Prop
  | 0, _, s, e, r, q => s = e ∧ r = q
  | n + 1, d, s, e, r, q => (s = e ∧ r = q) ∨
    (∃ kd : Nat, kd < 4 ∧ pg_step D T U S A L s r kd ∧ E s = Int32.ofInt ((s + 1 : Nat) : Int) ∧ pg_seg D T U V S A L E n d (s + 1) e (r + 1) q) ∨
    (∃ kd d' e1 q1 : Nat, (kd = 4 ∨ kd = 5) ∧ d = d' + 1 ∧ pg_step D T U S A L s r kd ∧ E s = Int32.ofInt (e1 : Int) ∧ pg_seg D T U V S A L E n d' (s + 1) e1 (r + 1) q1 ∧ D q1 = Int32.ofInt 6 ∧ V q1 = Int32.ofInt (r : Int) ∧ V r = Int32.ofInt (q1 : Int) ∧ pg_seg D T U V S A L E n d e1 e (q1 + 1) q)
def pr_prog (σ1 σ2 : am_H) : Prop := ∃ p q : Nat, (p < 2 ∧ q < 2 ∧ p ≠ q) ∧ σ1.2.2 11 0 7 = some p ∧ σ1.2.2 11 0 8 = some q ∧ ∃ N R n : Nat, (N ≤ 40 ∧ R ≤ 80) ∧ σ1.1 4 p 4 = Int32.ofInt R ∧ σ1.1 4 p 5 = Int32.ofInt N ∧ σ2.1 12 0 54 = Int32.ofInt N ∧ pg_seg (σ1.1 500 p) (σ1.1 501 p) (σ1.1 502 p) (σ1.1 503 p) (σ2.1 1368 0) (σ2.1 1369 0) (σ2.1 1370 0) (σ2.1 1371 0) n 3 0 N 0 R
def pr_train (σ1 σ2 : am_H) : Prop := ∃ n : Int, (0 ≤ n ∧ n ≤ 4) ∧ σ1.1 7 0 12 = Int32.ofInt n ∧ σ2.1 12 0 29 = Int32.ofInt n ∧ ∀ j : Nat, (j : Int) < n → σ1.1 811 0 j = σ2.1 1344 0 j
def pr_share (σ1 σ2 : am_H) : Prop := ∃ n : Int, (0 ≤ n ∧ n ≤ 6) ∧ σ1.1 7 0 14 = Int32.ofInt n ∧ σ2.1 12 0 30 = Int32.ofInt n ∧ ∀ j : Nat, (j : Int) < n → σ1.1 813 0 j = σ2.1 1345 0 j
def pr_slip (σ1 σ2 : am_H) : Prop := σ1.1 0 0 4 = σ2.1 12 0 37 ∧ σ1.1 0 0 6 = σ2.1 12 0 31
def pr_lag (σ1 σ2 : am_H) : Prop := ∃ r h : Int, σ1.1 0 0 7 = Int32.ofInt r ∧ σ2.1 12 0 38 = Int32.ofInt h ∧ ((r = -1 ∧ h = 0) ∨ ((1 ≤ r ∧ r ≤ 24) ∧ h = 1 ∧ σ1.1 0 0 8 = σ2.1 12 0 41))
def pr_led (σ1 σ2 : am_H) : Prop := ∃ w h : Int, σ1.1 0 0 9 = Int32.ofInt w ∧ σ2.1 12 0 42 = Int32.ofInt w ∧ σ2.1 12 0 40 = Int32.ofInt h ∧ (w = -1 ∨ ((0 ≤ w ∧ w ≤ 5) ∧ h = 1 ∧ σ1.1 0 0 10 = σ2.1 12 0 35 ∧ ∃ b : Int, (0 ≤ b ∧ b ≤ 1) ∧ σ1.1 0 0 11 = Int32.ofInt b ∧ σ2.1 12 0 36 = Int32.ofInt b)) ∧ (0 ≤ h ∧ h ≤ 1)
def pr_spread (σ1 σ2 : am_H) : Prop := ∃ w h u : Int, (0 ≤ h ∧ h ≤ 1) ∧ (-1 ≤ w ∧ w ≤ 5) ∧ (0 ≤ w → h = 1) ∧ (0 ≤ u ∧ u ≤ 2000000) ∧ σ1.1 0 0 12 = Int32.ofInt h ∧ σ2.1 12 0 39 = Int32.ofInt h ∧ σ1.1 0 0 13 = Int32.ofInt w ∧ σ2.1 12 0 32 = Int32.ofInt w ∧ (0 ≤ w → σ1.1 0 0 14 = σ2.1 12 0 33 ∧ σ1.1 0 0 15 = σ2.1 12 0 34) ∧ σ1.1 0 0 16 = Int32.ofInt u ∧ σ2.2.1 12 0 43 = Int64.ofInt u
def pr_ask (σ1 σ2 : am_H) : Prop := ∃ l u e ri mo pl fr to : Int, (-99999 ≤ l ∧ l ≤ 99999) ∧ (-99999 ≤ u ∧ u ≤ 99999) ∧ (0 ≤ e ∧ e ≤ 5) ∧ (0 ≤ ri ∧ ri ≤ 1) ∧ (-1 ≤ mo ∧ mo < 2147483648) ∧ (0 ≤ pl ∧ pl ≤ 12) ∧ (0 ≤ fr ∧ fr ≤ 23) ∧ (0 ≤ to ∧ to ≤ 23) ∧
  (σ1.1 2 0 0 = Int32.ofInt l ∧ σ1.1 2 0 1 = Int32.ofInt u ∧ σ1.1 2 0 2 = Int32.ofInt e ∧ σ1.1 2 0 3 = Int32.ofInt ri ∧ σ1.1 2 0 4 = Int32.ofInt mo ∧ σ1.1 2 0 5 = Int32.ofInt pl ∧ σ1.1 2 0 6 = Int32.ofInt fr ∧ σ1.1 2 0 7 = Int32.ofInt to) ∧
  (σ2.1 12 0 46 = Int32.ofInt l ∧ σ2.1 12 0 47 = Int32.ofInt u ∧ σ2.1 12 0 48 = Int32.ofInt e ∧ σ2.1 12 0 53 = Int32.ofInt ri ∧ σ2.1 12 0 49 = Int32.ofInt mo ∧ σ2.1 12 0 50 = Int32.ofInt pl ∧ σ2.1 12 0 51 = Int32.ofInt fr ∧ σ2.1 12 0 52 = Int32.ofInt to)
def pr_trade (σ1 σ2 : am_H) : Prop := ∃ i h w : Int, (0 ≤ i ∧ i ≤ 1) ∧ (0 ≤ h ∧ h ≤ 1) ∧ (-1 ≤ w ∧ w ≤ 5) ∧ σ1.1 6 0 3 = Int32.ofInt i ∧ σ2.1 12 0 67 = Int32.ofInt h ∧ σ2.1 12 0 60 = Int32.ofInt w ∧ (i = 1 → h = 1 ∧ 0 ≤ w) ∧ (i = 0 → w = -1) ∧ (0 ≤ w → σ1.1 704 0 0 = Int32.ofInt w ∧ σ1.1 704 0 1 = σ2.1 12 0 61 ∧ σ1.1 704 0 2 = σ2.1 12 0 62 ∧ σ1.1 704 0 3 = σ2.1 12 0 63)
def pr_walk (σ1 σ2 : am_H) : Prop := ∃ kn mk lf : Int, (0 ≤ kn ∧ kn ≤ 1) ∧ (0 ≤ mk ∧ mk ≤ 30) ∧ (0 ≤ lf ∧ lf ≤ 1) ∧ (kn = 0 → mk = 0) ∧ σ1.1 9 0 5 = Int32.ofInt kn ∧ σ2.1 12 0 66 = Int32.ofInt kn ∧ σ1.1 9 0 7 = σ2.1 12 0 56 ∧ σ1.2.1 9 0 8 = σ2.2.1 12 0 64 ∧ σ1.1 9 0 9 = Int32.ofInt mk ∧ σ2.1 12 0 59 = Int32.ofInt mk ∧ (∀ j : Nat, (j : Int) < mk → σ1.1 1010 0 j = σ2.1 1376 0 j) ∧ σ1.1 9 0 11 = Int32.ofInt lf ∧ σ2.1 12 0 58 = Int32.ofInt lf
def pr_blk (n : Nat) (σ1 σ2 : am_H) : Prop := match n with
  | 0 => pr_frac σ1 σ2
  | 1 => pr_trays σ1 σ2
  | 2 => pr_tape σ1 σ2
  | 3 => pr_fault σ1 σ2
  | 4 => pr_machs σ1 σ2
  | 5 => pr_prog σ1 σ2
  | 6 => pr_train σ1 σ2
  | 7 => pr_share σ1 σ2
  | 8 => pr_slip σ1 σ2
  | 9 => pr_lag σ1 σ2
  | 10 => pr_led σ1 σ2
  | 11 => pr_spread σ1 σ2
  | 12 => pr_ask σ1 σ2
  | 13 => pr_trade σ1 σ2
  | 14 => pr_walk σ1 σ2
  | _ => True
def pr_fC (n : Nat) : List (Nat × Nat) := match n with
  | 0 => [(11, 1), (11, 2)]
  | 1 => [(8, 999), (902, 999)]
  | 2 => [(5, 1), (600, 999)]
  | 3 => [(5, 7), (5, 8)]
  | 4 => [(1205, 999), (11, 6), (3, 999), (402, 999), (403, 999), (10, 999), (1106, 999)]
  | 5 => [(11, 7), (11, 8), (4, 4), (4, 5), (500, 999), (501, 999), (502, 999), (503, 999)]
  | 6 => [(7, 12), (811, 999)]
  | 7 => [(7, 14), (813, 999)]
  | 8 => [(0, 4), (0, 6)]
  | 9 => [(0, 7), (0, 8)]
  | 10 => [(0, 9), (0, 10), (0, 11)]
  | 11 => [(0, 12), (0, 13), (0, 14), (0, 15), (0, 16)]
  | 12 => [(2, 999)]
  | 13 => [(6, 3), (704, 999)]
  | 14 => [(9, 5), (9, 7), (9, 8), (9, 9), (1010, 999), (9, 11)]
  | _ => []
def pr_fM (n : Nat) : List (Nat × Nat) := match n with
  | 0 => [(12, 2), (12, 3)]
  | 1 => [(1304, 999), (1305, 999), (1306, 999)]
  | 2 => [(12, 8), (1307, 999)]
  | 3 => [(12, 10), (12, 11)]
  | 4 => [(1320, 999), (1321, 999), (1322, 999), (1323, 999), (1324, 999), (1325, 999)]
  | 5 => [(12, 54), (1368, 999), (1369, 999), (1370, 999), (1371, 999)]
  | 6 => [(12, 29), (1344, 999)]
  | 7 => [(12, 30), (1345, 999)]
  | 8 => [(12, 37), (12, 31)]
  | 9 => [(12, 38), (12, 41)]
  | 10 => [(12, 40), (12, 42), (12, 35), (12, 36)]
  | 11 => [(12, 39), (12, 32), (12, 33), (12, 34), (12, 43)]
  | 12 => [(12, 46), (12, 47), (12, 48), (12, 49), (12, 50), (12, 51), (12, 52), (12, 53)]
  | 13 => [(12, 67), (12, 60), (12, 61), (12, 62), (12, 63)]
  | 14 => [(12, 66), (12, 56), (12, 64), (12, 59), (1376, 999), (12, 58)]
  | _ => []
theorem qa.i {l : List (Nat × Nat)} {σ σ' : am_H} (h : qa l σ σ') {k j : Nat} (hj : qf_in l k j = true) (i : Nat) : σ'.1 k i j = σ.1 k i j := (h k i j hj).1
theorem qa.l {l : List (Nat × Nat)} {σ σ' : am_H} (h : qa l σ σ') {k j : Nat} (hj : qf_in l k j = true) (i : Nat) : σ'.2.1 k i j = σ.2.1 k i j := (h k i j hj).2.1
theorem qa.r {l : List (Nat × Nat)} {σ σ' : am_H} (h : qa l σ σ') {k j : Nat} (hj : qf_in l k j = true) (i : Nat) : σ'.2.2 k i j = σ.2.2 k i j := (h k i j hj).2.2
theorem qa.I {l : List (Nat × Nat)} {σ σ' : am_H} (h : qa l σ σ') {k : Nat} (hk : ∀ j, qf_in l k j = true) (i : Nat) : σ'.1 k i = σ.1 k i := funext fun j => (h k i j (hk j)).1
theorem qa.L {l : List (Nat × Nat)} {σ σ' : am_H} (h : qa l σ σ') {k : Nat} (hk : ∀ j, qf_in l k j = true) (i : Nat) : σ'.2.1 k i = σ.2.1 k i := funext fun j => (h k i j (hk j)).2.1
theorem qa.R {l : List (Nat × Nat)} {σ σ' : am_H} (h : qa l σ σ') {k : Nat} (hk : ∀ j, qf_in l k j = true) (i : Nat) : σ'.2.2 k i = σ.2.2 k i := funext fun j => (h k i j (hk j)).2.2
theorem qa_mach {σ1 σ1' σ2 σ2' : am_H} {m a : Nat} (h : qa (pr_fC 4) σ1 σ1') (g : qa (pr_fM 4) σ2 σ2') (x : pr_mach σ1 σ2 m a) : pr_mach σ1' σ2' m a := by
  obtain ⟨wc, ws, zr, sl, kc, kw, kt, ⟨c1, c2, c3, c4, c5⟩, ⟨d1, d2, d3, d4, d5⟩, tr, s1, s2, s3, k1, k2, k3, k4⟩ := x
  have e3 := fun i => h.I (k := 3) (fun j => rfl) i
  have e402 := fun i => h.I (k := 402) (fun j => rfl) i
  have e403 := fun i => h.I (k := 403) (fun j => rfl) i
  have e10 := fun i => h.I (k := 10) (fun j => rfl) i
  have e10L := fun i => h.L (k := 10) (fun j => rfl) i
  have e1106 := fun i => h.I (k := 1106) (fun j => rfl) i
  have g0 := fun i => g.I (k := 1320) (fun j => rfl) i
  have g1 := fun i => g.I (k := 1321) (fun j => rfl) i
  have g2 := fun i => g.I (k := 1322) (fun j => rfl) i
  have g3 := fun i => g.I (k := 1323) (fun j => rfl) i
  have g4 := fun i => g.I (k := 1324) (fun j => rfl) i
  have g5 := fun i => g.I (k := 1325) (fun j => rfl) i
  refine ⟨wc, ws, zr, sl, kc, kw, kt, ⟨c1, by rw [e3]; exact c2, by rw [e3]; exact c3, c4, fun i hi => ⟨(c5 i hi).1, ?_⟩⟩, ⟨d1, by rw [g0]; exact d2, by rw [g3]; exact d3, d4, fun i hi => ⟨(d5 i hi).1, ?_⟩⟩, tr, by rw [e3]; exact s1, s2, by rw [g2]; exact s3, k1, by rw [e3]; exact k2, by rw [g1]; exact k3, fun k hk => ?_⟩
  · have := (c5 i hi).2
    unfold pw_C at this ⊢
    rw [e10, e10L, e1106]
    exact this
  · have := (d5 i hi).2
    unfold pw_M at this ⊢
    rw [g4]
    exact this
  · rw [e402, e403, g5]
    exact k4 k hk
theorem pr_blk_f (n : Nat) {σ1 σ1' σ2 σ2' : am_H} (h : qa (pr_fC n) σ1 σ1') (g : qa (pr_fM n) σ2 σ2') (x : pr_blk n σ1 σ2) : pr_blk n σ1' σ2' := by
  match n, h, g, x with
  | 0, h, g, x =>
    show pr_frac σ1' σ2'
    unfold pr_frac
    rw [h.l (k := 11) (j := 1) rfl, h.l (k := 11) (j := 2) rfl, g.l (k := 12) (j := 2) rfl, g.l (k := 12) (j := 3) rfl]
    exact x
  | 1, h, g, x =>
    intro t ht
    obtain ⟨so, mn, x1, x2, x3⟩ := (show pr_trays σ1 σ2 from x) t ht
    refine ⟨so, mn, by rw [h.I (k := 8) (fun j => rfl)]; exact x1, by rw [h.I (k := 8) (fun j => rfl)]; exact x2, ?_⟩
    rw [g.I (k := 1304) (fun j => rfl), g.I (k := 1305) (fun j => rfl), g.L (k := 1306) (fun j => rfl), h.L (k := 902) (fun j => rfl)]
    exact x3
  | 2, h, g, x =>
    obtain ⟨L, x0, x1, x2, x3⟩ := (show pr_tape σ1 σ2 from x)
    refine ⟨L, x0, by rw [h.i (k := 5) (j := 1) rfl]; exact x1, by rw [g.i (k := 12) (j := 8) rfl]; exact x2, ?_⟩
    rw [h.I (k := 600) (fun j => rfl), g.I (k := 1307) (fun j => rfl)]
    exact x3
  | 3, h, g, x =>
    show pr_fault σ1' σ2'
    unfold pr_fault
    rw [h.i (k := 5) (j := 7) rfl, h.i (k := 5) (j := 8) rfl, g.i (k := 12) (j := 10) rfl, g.i (k := 12) (j := 11) rfl]
    exact x
  | 4, h, g, x =>
    obtain ⟨a0, a1, a2, b, d, r0, r1, r2, m0, m1⟩ := (show pr_machs σ1 σ2 from x)
    exact ⟨a0, a1, a2, b, d, by rw [h.R (k := 1205) (fun j => rfl)]; exact r0, by rw [h.R (k := 1205) (fun j => rfl)]; exact r1, by rw [h.r (k := 11) (j := 6) rfl]; exact r2, qa_mach h g m0, qa_mach h g m1⟩
  | 5, h, g, x =>
    obtain ⟨p, q, b, r0, r1, N, R, n, c, x1, x2, x3, x4⟩ := (show pr_prog σ1 σ2 from x)
    refine ⟨p, q, b, by rw [h.r (k := 11) (j := 7) rfl]; exact r0, by rw [h.r (k := 11) (j := 8) rfl]; exact r1, N, R, n, c, by rw [h.i (k := 4) (j := 4) rfl]; exact x1, by rw [h.i (k := 4) (j := 5) rfl]; exact x2, by rw [g.i (k := 12) (j := 54) rfl]; exact x3, ?_⟩
    rw [h.I (k := 500) (fun j => rfl), h.I (k := 501) (fun j => rfl), h.I (k := 502) (fun j => rfl), h.I (k := 503) (fun j => rfl), g.I (k := 1368) (fun j => rfl), g.I (k := 1369) (fun j => rfl), g.I (k := 1370) (fun j => rfl), g.I (k := 1371) (fun j => rfl)]
    exact x4
  | 6, h, g, x =>
    show pr_train σ1' σ2'
    unfold pr_train
    rw [h.i (k := 7) (j := 12) rfl, h.I (k := 811) (fun j => rfl), g.i (k := 12) (j := 29) rfl, g.I (k := 1344) (fun j => rfl)]
    exact x
  | 7, h, g, x =>
    show pr_share σ1' σ2'
    unfold pr_share
    rw [h.i (k := 7) (j := 14) rfl, h.I (k := 813) (fun j => rfl), g.i (k := 12) (j := 30) rfl, g.I (k := 1345) (fun j => rfl)]
    exact x
  | 8, h, g, x =>
    show pr_slip σ1' σ2'
    unfold pr_slip
    rw [h.i (k := 0) (j := 4) rfl, h.i (k := 0) (j := 6) rfl, g.i (k := 12) (j := 37) rfl, g.i (k := 12) (j := 31) rfl]
    exact x
  | 9, h, g, x =>
    show pr_lag σ1' σ2'
    unfold pr_lag
    rw [h.i (k := 0) (j := 7) rfl, h.i (k := 0) (j := 8) rfl, g.i (k := 12) (j := 38) rfl, g.i (k := 12) (j := 41) rfl]
    exact x
  | 10, h, g, x =>
    show pr_led σ1' σ2'
    unfold pr_led
    rw [h.i (k := 0) (j := 9) rfl, h.i (k := 0) (j := 10) rfl, h.i (k := 0) (j := 11) rfl, g.i (k := 12) (j := 40) rfl, g.i (k := 12) (j := 42) rfl, g.i (k := 12) (j := 35) rfl, g.i (k := 12) (j := 36) rfl]
    exact x
  | 11, h, g, x =>
    show pr_spread σ1' σ2'
    unfold pr_spread
    rw [h.i (k := 0) (j := 12) rfl, h.i (k := 0) (j := 13) rfl, h.i (k := 0) (j := 14) rfl, h.i (k := 0) (j := 15) rfl, h.i (k := 0) (j := 16) rfl, g.i (k := 12) (j := 39) rfl, g.i (k := 12) (j := 32) rfl, g.i (k := 12) (j := 33) rfl, g.i (k := 12) (j := 34) rfl, g.l (k := 12) (j := 43) rfl]
    exact x
  | 12, h, g, x =>
    show pr_ask σ1' σ2'
    unfold pr_ask
    rw [h.I (k := 2) (fun j => rfl), g.i (k := 12) (j := 46) rfl, g.i (k := 12) (j := 47) rfl, g.i (k := 12) (j := 48) rfl, g.i (k := 12) (j := 49) rfl, g.i (k := 12) (j := 50) rfl, g.i (k := 12) (j := 51) rfl, g.i (k := 12) (j := 52) rfl, g.i (k := 12) (j := 53) rfl]
    exact x
  | 13, h, g, x =>
    show pr_trade σ1' σ2'
    unfold pr_trade
    rw [h.i (k := 6) (j := 3) rfl, h.I (k := 704) (fun j => rfl), g.i (k := 12) (j := 67) rfl, g.i (k := 12) (j := 60) rfl, g.i (k := 12) (j := 61) rfl, g.i (k := 12) (j := 62) rfl, g.i (k := 12) (j := 63) rfl]
    exact x
  | 14, h, g, x =>
    show pr_walk σ1' σ2'
    unfold pr_walk
    rw [h.i (k := 9) (j := 5) rfl, h.i (k := 9) (j := 7) rfl, h.l (k := 9) (j := 8) rfl, h.i (k := 9) (j := 9) rfl, h.I (k := 1010) (fun j => rfl), h.i (k := 9) (j := 11) rfl, g.i (k := 12) (j := 66) rfl, g.i (k := 12) (j := 56) rfl, g.l (k := 12) (j := 64) rfl, g.i (k := 12) (j := 59) rfl, g.I (k := 1376) (fun j => rfl), g.i (k := 12) (j := 58) rfl]
    exact x
  | n + 15, h, g, x => trivial
def pr_Core (σ1 σ2 : am_H) : Prop := ∀ n, n < 15 → pr_blk n σ1 σ2
def pr_Rel (σ1 σ2 : am_H) : Prop := σ1.1 11 0 0 = σ2.1 12 0 0 ∧ pr_Core σ1 σ2
def pr_ok (lC lM : List (Nat × Nat)) (bad : List Nat) : Bool := (List.range 15).all (fun n => bad.contains n || (qf_dj lC (pr_fC n) && qf_dj lM (pr_fM n)))
/-- a change of the cells lC, lM: the blocks that it doesn't reach stand -/
theorem pr_Core.st {σ1 σ1' σ2 σ2' : am_H} (x : pr_Core σ1 σ2) (lC lM : List (Nat × Nat)) (bad : List Nat) (hok : pr_ok lC lM bad = true) (h : qf lC σ1 σ1') (g : qf lM σ2 σ2') (hb : ∀ n ∈ bad, pr_blk n σ1' σ2') : pr_Core σ1' σ2' := by
  intro n hn
  unfold pr_ok at hok
  rw [List.all_eq_true] at hok
  have h1 := hok n (List.mem_range.mpr hn)
  rw [Bool.or_eq_true, Bool.and_eq_true] at h1
  rcases h1 with h1 | ⟨h1, h2⟩
  · exact hb n (List.contains_iff_mem.mp h1)
  · exact pr_blk_f n (h.a h1) (g.a h2) (x n hn)
/-- STATUS of the class, of the reference -/
def pT (σ : am_H) (v : Int) : am_H := am_wI σ 11 0 0 (Int32.ofInt v)
def pU (σ : am_H) : am_H := am_wI σ 12 0 1 (Int32.ofInt 0)
def pS (σ : am_H) (v : Int) : am_H := am_wI (pU σ) 12 0 0 (Int32.ofInt v)
theorem pT_i {σ : am_H} {v : Int} : am_wI σ 11 0 0 (Int32.ofInt v) = pT σ v := rfl
theorem pU_i {σ : am_H} : am_wI σ 12 0 1 (Int32.ofInt 0) = pU σ := rfl
theorem pS_i {σ : am_H} {v : Int} : am_wI (pU σ) 12 0 0 (Int32.ofInt v) = pS σ v := rfl
theorem pS_j {σ : am_H} {v u : Int} : am_wI (pS σ u) 12 0 0 (Int32.ofInt v) = pS σ v := q_ww
theorem pS_0 {σ : am_H} {v : Int} : (pS σ v).1 12 0 0 = Int32.ofInt v := rfl
theorem pT_0 {σ : am_H} {v : Int} : (pT σ v).1 11 0 0 = Int32.ofInt v := rfl
theorem pT_f {σ : am_H} {v : Int} : qf [(11, 0)] σ (pT σ v) := qf.rf.wI rfl
theorem pS_f {σ : am_H} {v : Int} : qf [(12, 0), (12, 1)] σ (pS σ v) := (qf.rf.wI rfl).wI rfl
theorem pr_Core.T {σ1 σ2 : am_H} (x : pr_Core σ1 σ2) (v : Int) : pr_Core (pT σ1 v) σ2 := x.st [(11, 0)] [] [] (by decide +kernel) pT_f qf.rf (by simp)
theorem pr_Core.S {σ1 σ2 : am_H} (x : pr_Core σ1 σ2) (v : Int) : pr_Core σ1 (pS σ2 v) := x.st [] [(12, 0), (12, 1)] [] (by decide +kernel) qf.rf pS_f (by simp)
theorem pr_Core.U {σ1 σ2 : am_H} (x : pr_Core σ1 σ2) : pr_Core σ1 (pU σ2) := x.st [] [(12, 0), (12, 1)] [] (by decide +kernel) qf.rf (qf.rf.wI rfl) (by simp)
theorem pr_Core.TS {σ1 σ2 : am_H} (x : pr_Core σ1 σ2) (v : Int) : pr_Rel (pT σ1 v) (pS σ2 v) := ⟨rfl, (x.T v).S v⟩
/-- a call that changes STATUS alone -/
theorem pr_ro {α : Type} {σ1 σ2 : am_H} {f1 f2 : Option (α × am_H)} (x : pr_Rel σ1 σ2) (r : α) (v : Int) (h1 : f1 = some (r, pT σ1 v)) (h2 : f2 = some (r, pS σ2 v)) : ∃ (r : α) (σ1' σ2' : am_H), f1 = some (r, σ1') ∧ f2 = some (r, σ2') ∧ pr_Rel σ1' σ2' := ⟨r, _, _, h1, h2, x.2.TS v⟩
