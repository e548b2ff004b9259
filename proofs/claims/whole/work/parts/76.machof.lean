theorem pq_machC {σ : am_H} {a0 a1 : Nat} (h0 : σ.2.2 1205 0 0 = some a0) (h1 : σ.2.2 1205 0 1 = some a1) (b0 : a0 < 3) (b1 : a1 < 3) (x : Int32) : f_X11_machineOf x σ = some (if x.toInt = 0 then some a0 else if x.toInt = 1 then some a1 else none) := by
  have c1 : x < 0 ↔ x.toInt < 0 := Int32.lt_iff_toInt_lt
  have c2 : (1 : Int32) < x ↔ 1 < x.toInt := Int32.lt_iff_toInt_lt
  unfold f_X11_machineOf
  by_cases n1 : x.toInt < 0
  · rw [if_pos (c1.mpr n1), if_neg (by omega), if_neg (by omega)]
  · rw [if_neg (fun z => n1 (c1.mp z))]
    by_cases n2 : 1 < x.toInt
    · rw [if_pos (c2.mpr n2), if_neg (by omega), if_neg (by omega)]
    · rw [if_neg (fun z => n2 (c2.mp z))]
      have ix : am_ix 2 x = some x.toInt.toNat := by
        have := pI_ix (a := x.toInt) (n := 2) (by omega) (by omega) (by omega)
        rwa [Int32.ofInt_toInt] at this
      rw [ix, Option.bind_some]
      by_cases n3 : x.toInt = 0
      · rw [n3]
        show (am_rr 3 (σ.2.2 1205 0 0)).bind _ = _
        rw [h0]
        show (if a0 < 3 then some a0 else none).bind _ = _
        rw [if_pos b0, Option.bind_some, if_pos rfl]
      · have n4 : x.toInt = 1 := by omega
        rw [n4]
        show (am_rr 3 (σ.2.2 1205 0 1)).bind _ = _
        rw [h1]
        show (if a1 < 3 then some a1 else none).bind _ = _
        rw [if_pos b1, Option.bind_some, if_neg (by decide), if_pos rfl]
