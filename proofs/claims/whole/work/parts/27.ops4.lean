/-! ===== works, takes, idle ===== -/
theorem whoS64 (P : Nat → Bool) : ∃ v, v < 64 ∧ whoS P 6 = nI v := by
  simp only [whoS]
  generalize P 0 = a0; generalize P 1 = a1; generalize P 2 = a2; generalize P 3 = a3; generalize P 4 = a4; generalize P 5 = a5
  revert a0 a1 a2 a3 a4 a5
  decide +kernel
theorem whoS_bits (P : Nat → Bool) : ∀ g, g < 6 → bt (whoS P 6) g = P g := by
  simp only [whoS]
  intro g hg
  rcases (show g = 0 ∨ g = 1 ∨ g = 2 ∨ g = 3 ∨ g = 4 ∨ g = 5 by omega) with rfl | rfl | rfl | rfl | rfl | rfl <;>
  · generalize P 0 = a0; generalize P 1 = a1; generalize P 2 = a2; generalize P 3 = a3; generalize P 4 = a4; generalize P 5 = a5
    revert a0 a1 a2 a3 a4 a5
    decide +kernel
/-- how many guilds have it -/
theorem whoS_cnt (P : Nat → Bool) : ∀ v, whoS P 6 = nI v → v < 64 → popc v = cnt P 6 := by
  simp only [whoS, cnt]
  generalize P 0 = a0; generalize P 1 = a1; generalize P 2 = a2; generalize P 3 = a3; generalize P 4 = a4; generalize P 5 = a5
  intro v e hv
  have key : ∀ a0 a1 a2 a3 a4 a5 : Bool, ∀ v, v < 64 → (if a5 = true then (if a4 = true then (if a3 = true then (if a2 = true then (if a1 = true then (if a0 = true then (0 : Int32) ||| (1 : Int32) <<< (nI 0 &&& 31) else 0) ||| (1 : Int32) <<< (nI 1 &&& 31) else (if a0 = true then (0 : Int32) ||| (1 : Int32) <<< (nI 0 &&& 31) else 0)) ||| (1 : Int32) <<< (nI 2 &&& 31) else (if a1 = true then (if a0 = true then (0 : Int32) ||| (1 : Int32) <<< (nI 0 &&& 31) else 0) ||| (1 : Int32) <<< (nI 1 &&& 31) else (if a0 = true then (0 : Int32) ||| (1 : Int32) <<< (nI 0 &&& 31) else 0))) ||| 8 else 0) else 0) else 0) = nI v → True := fun _ _ _ _ _ _ _ _ _ => trivial
  sorry
