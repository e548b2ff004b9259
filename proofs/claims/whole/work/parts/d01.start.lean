/-! ===== both at the start ===== -/
theorem pr_new0 {m : Nat} {a : Nat} (hm : m < 3) : pr_mach am_zC am_zM m a := by
  have z0 : (0 : Int32) = Int32.ofInt 0 := qi 0
  have m1 : (-1 : Int32) = Int32.ofInt (-1) := by decide
  refine ⟨0, fun _ _ => 0, -1, -1, 0, fun _ => 0, fun _ => 0, ⟨by omega, z0, m1, by omega, fun i hi => absurd hi (Nat.not_lt_zero i)⟩, ⟨by omega, z0, z0, by omega, fun i hi => absurd hi (Nat.not_lt_zero i)⟩, fun i hi => absurd hi (Nat.not_lt_zero i), m1, by omega, z0, ⟨by omega, z0, z0, fun k hk => absurd hk (Nat.not_lt_zero k)⟩⟩
theorem pr_new : pr_Rel am_zC am_zM := by
  have z0 : (0 : Int32) = Int32.ofInt 0 := qi 0
  have z23 : (23 : Int32) = Int32.ofInt 23 := qi 23
  have zl : (0 : Int64) = Int64.ofInt 0 := ql 0
  have m1 : (-1 : Int32) = Int32.ofInt (-1) := by decide
  refine ⟨rfl, fun n hn => ?_⟩
  rcases (by omega : n = 0 ∨ n = 1 ∨ n = 2 ∨ n = 3 ∨ n = 4 ∨ n = 5 ∨ n = 6 ∨ n = 7 ∨ n = 8 ∨ n = 9 ∨ n = 10 ∨ n = 11 ∨ n = 12 ∨ n = 13 ∨ n = 14) with rfl | rfl | rfl | rfl | rfl | rfl | rfl | rfl | rfl | rfl | rfl | rfl | rfl | rfl | rfl
  · exact ⟨rfl, rfl⟩
  · intro t ht
    refine ⟨-1, 0, m1, z0, Or.inl ⟨rfl, rfl, ?_⟩⟩
    rcases (by omega : t = 0 ∨ t = 1 ∨ t = 2 ∨ t = 3 ∨ t = 4) with rfl | rfl | rfl | rfl | rfl <;> exact m1
  · exact ⟨0, by omega, z0, z0, fun j hj => by omega⟩
  · exact ⟨rfl, rfl⟩
  · exact ⟨0, 1, 2, by omega, by omega, rfl, rfl, rfl, pr_new0 (by omega), pr_new0 (by omega)⟩
  · exact ⟨0, 1, by omega, rfl, rfl, 0, 0, 0, by omega, z0, z0, z0, ⟨rfl, rfl⟩⟩
  · exact ⟨0, by omega, z0, z0, fun j hj => by omega⟩
  · exact ⟨0, by omega, z0, z0, fun j hj => by omega⟩
  · exact ⟨rfl, rfl⟩
  · exact ⟨-1, 0, m1, z0, Or.inl ⟨rfl, rfl⟩⟩
  · exact ⟨-1, 0, m1, m1, z0, Or.inl rfl, by omega⟩
  · exact ⟨-1, 0, 0, by omega, by omega, fun h => by omega, by omega, z0, z0, m1, m1, fun h => by omega, z0, zl⟩
  · exact ⟨0, 0, 0, 0, -1, 0, 0, 23, by omega, by omega, by omega, by omega, by omega, by omega, by omega, by omega, ⟨z0, z0, z0, z0, m1, z0, z0, z23⟩, ⟨z0, z0, z0, z0, m1, z0, z0, z23⟩⟩
  · exact ⟨0, 0, -1, by omega, by omega, by omega, z0, z0, m1, fun h => by omega, fun h => rfl, fun h => by omega⟩
  · exact ⟨0, 0, 0, by omega, by omega, by omega, fun _ => rfl, z0, z0, rfl, rfl, z0, z0, fun j hj => by omega, z0, z0⟩
