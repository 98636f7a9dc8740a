/-! ===== both systems agree at their start ===== -/
theorem Inv_0 {f : Nat → Int32} (hf : ∀ j, j < 36 → f j = 1) : Inv stX0 (stM0 f) := by
  have z : ∀ (P : Nat → Bool), isM 0 0 P := fun P i hi => by rw [b_0, decide_eq_false (Nat.not_lt_zero i), Bool.false_and]
  refine ⟨⟨0, by omega, rfl, rfl, fun b hb => absurd hb (Nat.not_lt_zero b), ⟨fun w _ => z _, fun g _ => z _, fun g _ => z _, fun g _ => z _, fun g _ => z _⟩, fun b hb => absurd hb (Nat.not_lt_zero b)⟩, ⟨0, by omega, rfl, rfl, fun i hi => absurd hi (Nat.not_lt_zero i)⟩, ?_, ⟨fun k hk => ⟨1, by omega, ?_, ?_⟩, fun g hg => ⟨1, by omega, by omega, ?_, ?_⟩, ⟨0, by omega, rfl, rfl⟩⟩, ⟨0, by omega, rfl, rfl, fun i hi => absurd hi (Nat.not_lt_zero i)⟩, ⟨0, by omega, rfl, rfl, fun i hi => absurd hi (Nat.not_lt_zero i)⟩⟩
  · intro t ht
    refine ⟨0, by omega, ?_, rfl, fun i hi => absurd hi (Nat.not_lt_zero i)⟩
    rcases (show t = 0 ∨ t = 1 ∨ t = 2 ∨ t = 3 ∨ t = 4 ∨ t = 5 by omega) with rfl | rfl | rfl | rfl | rfl | rfl <;> rfl
  · show fl0 36 k = nI 1
    unfold fl0; rw [if_pos hk]; rfl
  · exact (hf k hk)
  · show fl0 6 g = nI 1
    unfold fl0; rw [if_pos hg]; rfl
  · show g8 g = nI 1
    have key : ∀ j, j < 6 → g8 j = nI 1 := by decide +kernel
    exact key g hg
