/-! ===== both new: alike ===== -/
theorem zR_first : zR u0 v0 0 := by
  have e0 : zGP (u0.1 2) 0 := ⟨by decide, fun p j _ hj => by
    show okf j 0
    rcases (show j = 0 ∨ j = 1 ∨ j = 2 ∨ j = 3 by omega) with rfl | rfl | rfl | rfl
    · exact (by decide : (0 : Int) ≤ Int32.toInt 0 ∧ Int32.toInt 0 ≤ 5)
    · exact (by decide : (0 : Int) ≤ Int32.toInt 0 ∧ Int32.toInt 0 ≤ 20)
    · exact (by decide : (-99 : Int) ≤ Int32.toInt 0 ∧ Int32.toInt 0 ≤ 99)
    · exact (by decide : (0 : Int) ≤ Int32.toInt 0 ∧ Int32.toInt 0 ≤ 160), fun p h => absurd h (Nat.not_lt_zero p)⟩
  have eS : zpS (u0.1 2) 0 = 0 := rfl
  refine ⟨⟨⟨e0, by decide +kernel, by decide +kernel, by decide +kernel, by decide +kernel, by decide +kernel, by decide +kernel, by decide +kernel⟩, ⟨rfl, rfl, rfl, rfl, rfl⟩, Or.inl ⟨rfl, rfl⟩, ?_, ?_, ⟨rfl, rfl, rfl, rfl⟩, rfl, ?_⟩, ⟨?_, fun p k h => absurd h (Nat.not_lt_zero p), ⟨rfl, rfl, rfl, rfl⟩, fun s hs => ?_⟩, fun p h => absurd h (Nat.not_lt_zero p)⟩
  · unfold zRs
    decide +kernel
  · unfold zRt
    decide +kernel
  · show XCv (v0.1 15) (v0.1 16) (v0.1 17)
    unfold XCv
    decide +kernel
  · rw [eS]
    decide +kernel
  · rw [eS] at hs
    exact absurd hs (Nat.not_lt_zero s)
