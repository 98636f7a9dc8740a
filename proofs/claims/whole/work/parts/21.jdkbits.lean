/-! ===== the JDK's bit counts ===== -/
theorem ush_e {a : Nat} (ha : a < 2 ^ 31) (s : Int32) (k : Nat) (hs : ((s.toUInt32 &&& Int32.toUInt32 31).toBitVec % 32).toNat = k) : ush (nI a) s = nI (a / 2 ^ k) := pk_ushrN (by omega) s k hs
theorem nlz_73 {a m : Nat} (ha : 1 ≤ a) (ha4 : a < 4) (hm : 3 ≤ m) (hm2 : m < 1000) : ∃ h, h < 2 ∧ 2 ^ h ≤ a ∧ a < 2 ^ (h + 1) ∧ fJ6_numberOfLeadingZeros_0f7a4_L73 (nI a) (nI m) = some (nI (m - h)) := by
  unfold fJ6_numberOfLeadingZeros_0f7a4_L73
  rw [ush_e (by omega) 1 1 (by decide)]
  rcases (show a = 1 ∨ a = 2 ∨ a = 3 by omega) with rfl | rfl | rfl
  · exact ⟨0, by omega, by omega, by omega, by rw [pk_sub (by omega)]⟩
  · exact ⟨1, by omega, by omega, by omega, by rw [pk_sub (by omega)]⟩
  · exact ⟨1, by omega, by omega, by omega, by rw [pk_sub (by omega)]⟩
theorem addm (m k : Nat) (h : k ≤ m) : nI m + (-(nI k)) = nI (m - k) := by
  have e := pk_sub h
  rw [← e, Int32.sub_eq_add_neg]
theorem nlz_61 {a m : Nat} (ha : 1 ≤ a) (ha4 : a < 16) (hm : 7 ≤ m) (hm2 : m < 1000) : ∃ h, h < 4 ∧ 2 ^ h ≤ a ∧ a < 2 ^ (h + 1) ∧ fJ6_numberOfLeadingZeros_0f7a4_L61 (nI a) (nI m) = some (nI (m - h)) := by
  unfold fJ6_numberOfLeadingZeros_0f7a4_L61
  by_cases c : a < 4
  · rw [if_pos (show nI a < (4 : Int32) from nI_lt (b := 4) c (by omega))]
    obtain ⟨h, h1, h2, h3, h4⟩ := @nlz_73 a m ha c (by omega) hm2
    exact ⟨h, by omega, h2, h3, h4⟩
  · rw [if_neg (show ¬ nI a < (4 : Int32) from nI_nlt (b := 4) (by omega) (by omega))]
    show ∃ h, _ ∧ _ ∧ _ ∧ fJ6_numberOfLeadingZeros_0f7a4_L73 (ush (nI a) 2) (nI m + (-(nI 2))) = _
    rw [addm m 2 (by omega), ush_e (by omega) 2 2 (by decide)]
    obtain ⟨h, h1, h2, h3, h4⟩ := @nlz_73 (a / 2 ^ 2) (m - 2) (by omega) (by omega) (by omega) (by omega)
    refine ⟨h + 2, by omega, ?_, ?_, by rw [h4]; congr 2; omega⟩
    · rcases (show h = 0 ∨ h = 1 by omega) with rfl | rfl <;> omega
    · rcases (show h = 0 ∨ h = 1 by omega) with rfl | rfl <;> omega
theorem nlz_48 {a m : Nat} (ha : 1 ≤ a) (ha4 : a < 256) (hm : 15 ≤ m) (hm2 : m < 1000) : ∃ h, h < 8 ∧ 2 ^ h ≤ a ∧ a < 2 ^ (h + 1) ∧ fJ6_numberOfLeadingZeros_0f7a4_L48 (nI a) (nI m) = some (nI (m - h)) := by
  unfold fJ6_numberOfLeadingZeros_0f7a4_L48
  by_cases c : a < 16
  · rw [if_pos (show nI a < (16 : Int32) from nI_lt (b := 16) c (by omega))]
    obtain ⟨h, h1, h2, h3, h4⟩ := @nlz_61 a m ha c (by omega) hm2
    exact ⟨h, by omega, h2, h3, h4⟩
  · rw [if_neg (show ¬ nI a < (16 : Int32) from nI_nlt (b := 16) (by omega) (by omega))]
    show ∃ h, _ ∧ _ ∧ _ ∧ fJ6_numberOfLeadingZeros_0f7a4_L61 (ush (nI a) 4) (nI m + (-(nI 4))) = _
    rw [addm m 4 (by omega), ush_e (by omega) 4 4 (by decide)]
    obtain ⟨h, h1, h2, h3, h4⟩ := @nlz_61 (a / 2 ^ 4) (m - 4) (by omega) (by omega) (by omega) (by omega)
    refine ⟨h + 4, by omega, ?_, ?_, by rw [h4]; congr 2; omega⟩
    · rcases (show h = 0 ∨ h = 1 ∨ h = 2 ∨ h = 3 by omega) with rfl | rfl | rfl | rfl <;> omega
    · rcases (show h = 0 ∨ h = 1 ∨ h = 2 ∨ h = 3 by omega) with rfl | rfl | rfl | rfl <;> omega
theorem nlz_33 {a m : Nat} (ha : 1 ≤ a) (ha4 : a < 65536) (hm : 31 ≤ m) (hm2 : m < 1000) : ∃ h, h < 16 ∧ 2 ^ h ≤ a ∧ a < 2 ^ (h + 1) ∧ fJ6_numberOfLeadingZeros_0f7a4_L33 (nI a) (nI m) = some (nI (m - h)) := by
  unfold fJ6_numberOfLeadingZeros_0f7a4_L33
  by_cases c : a < 256
  · rw [if_pos (show nI a < (256 : Int32) from nI_lt (b := 256) c (by omega))]
    obtain ⟨h, h1, h2, h3, h4⟩ := @nlz_48 a m ha c (by omega) hm2
    exact ⟨h, by omega, h2, h3, h4⟩
  · rw [if_neg (show ¬ nI a < (256 : Int32) from nI_nlt (b := 256) (by omega) (by omega))]
    show ∃ h, _ ∧ _ ∧ _ ∧ fJ6_numberOfLeadingZeros_0f7a4_L48 (ush (nI a) 8) (nI m + (-(nI 8))) = _
    rw [addm m 8 (by omega), ush_e (by omega) 8 8 (by decide)]
    obtain ⟨h, h1, h2, h3, h4⟩ := @nlz_48 (a / 2 ^ 8) (m - 8) (by omega) (by omega) (by omega) (by omega)
    refine ⟨h + 8, by omega, ?_, ?_, by rw [h4]; congr 2; omega⟩
    · rw [Nat.pow_add, ← Nat.le_div_iff_mul_le (by decide)]; exact h2
    · rw [show h + 8 + 1 = (h + 1) + 8 by omega, Nat.pow_add, ← Nat.div_lt_iff_lt_mul (by decide)]; exact h3
/-- the highest bit: 31 less the zeros ahead -/
theorem nlz_e {v : Nat} (h0 : 1 ≤ v) (hv : v < 65536) : ∃ h, h < 16 ∧ 2 ^ h ≤ v ∧ v < 2 ^ (h + 1) ∧ fJ6_numberOfLeadingZeros_0f7a4 (nI v) = some (nI (31 - h)) := by
  unfold fJ6_numberOfLeadingZeros_0f7a4
  rw [if_pos (show (0 : Int32) < nI v from nI_lt (a := 0) h0 (by omega)), if_pos (show nI v < (65536 : Int32) from nI_lt (b := 65536) hv (by omega))]
  exact @nlz_33 v 31 h0 hv (by omega) (by omega)
theorem nlz_f {v : Nat} (h0 : 65536 ≤ v) (hv : v < 2 ^ 24) : ∃ h, h < 24 ∧ 2 ^ h ≤ v ∧ v < 2 ^ (h + 1) ∧ fJ6_numberOfLeadingZeros_0f7a4 (nI v) = some (nI (31 - h)) := by
  unfold fJ6_numberOfLeadingZeros_0f7a4
  rw [if_pos (show (0 : Int32) < nI v from nI_lt (a := 0) (by omega) (by omega)), if_neg (show ¬ nI v < (65536 : Int32) from nI_nlt (b := 65536) h0 (by omega))]
  show ∃ h, _ ∧ _ ∧ _ ∧ fJ6_numberOfLeadingZeros_0f7a4_L33 (ush (nI v) 16) (nI 15) = _
  rw [ush_e (by omega) 16 16 (by decide)]
  unfold fJ6_numberOfLeadingZeros_0f7a4_L33
  rw [if_pos (show nI (v / 2 ^ 16) < (256 : Int32) from nI_lt (b := 256) (by omega) (by omega))]
  obtain ⟨h, h1, h2, h3, h4⟩ := @nlz_48 (v / 2 ^ 16) 15 (by omega) (by omega) (by omega) (by omega)
  refine ⟨h + 16, by omega, ?_, ?_, by rw [h4]; congr 2; omega⟩
  · rw [Nat.pow_add, ← Nat.le_div_iff_mul_le (by decide)]; exact h2
  · rw [show h + 16 + 1 = (h + 1) + 16 by omega, Nat.pow_add, ← Nat.div_lt_iff_lt_mul (by decide)]; exact h3
theorem nlz_g {v : Nat} (h0 : 1 ≤ v) (hv : v < 2 ^ 24) : ∃ h, h < 24 ∧ 2 ^ h ≤ v ∧ v < 2 ^ (h + 1) ∧ fJ6_numberOfLeadingZeros_0f7a4 (nI v) = some (nI (31 - h)) := by
  rcases Nat.lt_or_ge v 65536 with h | h
  · obtain ⟨k, h1, h2⟩ := nlz_e h0 h
    exact ⟨k, by omega, h2⟩
  · exact nlz_f h hv
theorem top_bit {v h : Nat} (h1 : 2 ^ h ≤ v) (h2 : v < 2 ^ (h + 1)) : v.testBit h = true ∧ ∀ i, h < i → v.testBit i = false := by
  refine ⟨?_, fun i hi => Nat.testBit_lt_two_pow (Nat.lt_of_lt_of_le h2 (Nat.pow_le_pow_right (by decide) hi))⟩
  rw [Nat.testBit_eq_decide_div_mod_eq]
  have e : v / 2 ^ h = 1 := by
    apply Nat.div_eq_of_lt_le
    · omega
    · rw [Nat.pow_succ] at h2; omega
  rw [e]; rfl
theorem nlz_bit {v h : Nat} (hv : v < 2 ^ 24) (h1 : v.testBit h = true) (h2 : ∀ i, h < i → i < 24 → v.testBit i = false) : fJ6_numberOfLeadingZeros_0f7a4 (nI v) = some (nI (31 - h)) := by
  have h0 : 1 ≤ v := by
    rcases Nat.eq_zero_or_pos v with z | z
    · subst z; simp at h1
    · exact z
  obtain ⟨k, k1, k2, k3, k4⟩ := nlz_g h0 hv
  obtain ⟨t1, t2⟩ := top_bit k2 k3
  have : h = k := by
    rcases Nat.lt_trichotomy h k with z | z | z
    · rw [h2 k z k1] at t1; cases t1
    · exact z
    · rw [t2 h z] at h1; cases h1
  rw [this]; exact k4
/-- the lowest bit -/
theorem ntz_mask {v k : Nat} (hv : v < 2 ^ 31) (h1 : v.testBit k = true) (h2 : ∀ i, i < k → v.testBit i = false) : (nI v ^^^ (-1 : Int32)) &&& (nI v - (1 : Int32)) = nI (2 ^ k - 1) := by
  have h0 : 1 ≤ v := by
    rcases Nat.eq_zero_or_pos v with z | z
    · subst z; simp at h1
    · exact z
  have hk : k < 31 := by
    rcases Nat.lt_or_ge k 31 with z | z
    · exact z
    · rw [Nat.testBit_lt_two_pow (Nat.lt_of_lt_of_le hv (Nat.pow_le_pow_right (by decide) z))] at h1; cases h1
  have hm : v % 2 ^ k = 0 := by
    apply Nat.eq_of_testBit_eq
    intro i
    rw [Nat.testBit_mod_two_pow, Nat.zero_testBit]
    by_cases hi : i < k
    · rw [h2 i hi, Bool.and_false]
    · rw [decide_eq_false hi, Bool.false_and]
  have hd : v / 2 ^ k % 2 = 1 := by
    rw [Nat.testBit_eq_decide_div_mod_eq] at h1
    exact of_decide_eq_true h1
  have hz0 : 0 < v / 2 ^ k := by
    rcases Nat.eq_zero_or_pos (v / 2 ^ k) with z | z
    · rw [z] at hd; exact absurd hd (by decide)
    · exact z
  have hp : 1 ≤ 2 ^ k := Nat.one_le_two_pow
  have hpk : 2 ^ k < 2 ^ 32 := Nat.pow_lt_pow_right (by decide) (by omega)
  have e1 : v = 2 ^ k * (v / 2 ^ k) + 0 := by have := Nat.div_add_mod v (2 ^ k); omega
  have e2 : v - 1 = 2 ^ k * (v / 2 ^ k - 1) + (2 ^ k - 1) := by
    rw [Nat.mul_sub, Nat.mul_one]
    have : 2 ^ k ≤ 2 ^ k * (v / 2 ^ k) := Nat.le_mul_of_pos_right _ hz0
    omega
  apply b_ext
  intro i hi
  rw [b_and, b_xor, b_m1 i hi, show nI v - (1 : Int32) = nI (v - 1) from pk_sub h0, bt_nI (by omega), bt_nI (by omega), bt_nI (by omega), Nat.testBit_two_pow_sub_one]
  rw [e2, Nat.testBit_two_pow_mul_add _ (by omega)]
  by_cases hik : i < k
  · rw [if_pos hik, h2 i hik, Nat.testBit_two_pow_sub_one]; simp [hik]
  · rw [if_neg hik, decide_eq_false hik]
    have e3 : v.testBit i = (v / 2 ^ k).testBit (i - k) := by
      rw [Nat.testBit_div_two_pow]; congr 1; omega
    rw [e3]
    generalize v / 2 ^ k = z at hd ⊢
    by_cases hz : i = k
    · subst hz; rw [Nat.sub_self, Nat.testBit_zero]; simp [hd]
    · obtain ⟨j, hj⟩ : ∃ j, i - k = j + 1 := ⟨i - k - 1, by omega⟩
      rw [hj, Nat.testBit_succ, Nat.testBit_succ, show (z - 1) / 2 = z / 2 by omega]
      cases (z / 2).testBit j <;> rfl
def ntz_r (x10 : Int32) : Option Int32 := (if (0 : Int32) < x10 then (if x10 ≤ (65536 : Int32) then fJ6_numberOfTrailingZeros_0f7a4_L34 x10 (1 : Int32) else bd ((1 : Int32) + (16 : Int32)) (fun x13 => bd (ush x10 (16 : Int32)) (fun x14 => fJ6_numberOfTrailingZeros_0f7a4_L34 x14 x13))) else some (x10 &&& (32 : Int32)))
theorem ntz_all : ∀ k, k < 31 → ntz_r (nI (2 ^ k - 1)) = some (nI k) := by decide +kernel
theorem ntz_bit {v k : Nat} (hv : v < 2 ^ 31) (h1 : v.testBit k = true) (h2 : ∀ i, i < k → v.testBit i = false) : fJ6_numberOfTrailingZeros_0f7a4 (nI v) = some (nI k) := by
  have hk : k < 31 := by
    rcases Nat.lt_or_ge k 31 with z | z
    · exact z
    · rw [Nat.testBit_lt_two_pow (Nat.lt_of_lt_of_le hv (Nat.pow_le_pow_right (by decide) z))] at h1; cases h1
  show ntz_r ((nI v ^^^ (-1 : Int32)) &&& (nI v - (1 : Int32))) = _
  rw [ntz_mask hv h1 h2]
  exact ntz_all k hk
/-- a set of bounds, as bits, of which P tells -/
def isM (x : Int32) (n : Nat) (P : Nat → Bool) : Prop := ∀ i, i < 32 → bt x i = (decide (i < n) && P i)
theorem isM_lt {x : Int32} {n : Nat} {P : Nat → Bool} (hn : n ≤ 20) (h : isM x n P) : x.toBitVec.toNat < 2 ^ 20 := by
  apply Nat.lt_pow_two_of_testBit
  intro i hi
  rw [← bt_nat]
  rcases Nat.lt_or_ge i 32 with z | z
  · rw [h i z, decide_eq_false (by omega), Bool.false_and]
  · exact b_big z
theorem isM_0 {x : Int32} {n : Nat} {P : Nat → Bool} (hn : n ≤ 20) (h : isM x n P) : x = 0 ↔ fstI P n = M1 := by
  rw [fstI_none (by omega)]
  refine ⟨fun e b hb => ?_, fun e => b_ext (fun i hi => ?_)⟩
  · have := h b (by omega)
    rw [e, b_0, decide_eq_true hb, Bool.true_and] at this
    exact this.symm
  · rw [h i hi, b_0]
    by_cases hi2 : i < n
    · rw [e i hi2, Bool.and_false]
    · rw [decide_eq_false hi2, Bool.false_and]
theorem isM_fst {x : Int32} {n : Nat} {P : Nat → Bool} (hn : n ≤ 20) (h : isM x n P) (hx : ¬ x = 0) : fJ6_numberOfTrailingZeros_0f7a4 x = some (fstI P n) := by
  have hl := isM_lt hn h
  obtain ⟨b, hb, h1, h2, h3⟩ := fstI_some (P := P) (n := n) (by omega) (fun e => hx ((isM_0 hn h).mpr e))
  rw [h3, ← nI_self x]
  refine ntz_bit (by omega) ?_ ?_
  · rw [← bt_nat, h b (by omega), h1, decide_eq_true hb]; rfl
  · intro i hi
    rw [← bt_nat, h i (by omega), h2 i hi, Bool.and_false]
theorem isM_lst {x : Int32} {n : Nat} {P : Nat → Bool} (hn : n ≤ 20) (h : isM x n P) (hx : ¬ x = 0) : o1 (fJ6_numberOfLeadingZeros_0f7a4 x) (fun x4 => some ((31 : Int32) - x4)) = some (lstI P n) := by
  have hl := isM_lt hn h
  have hne : lstI P n ≠ M1 := fun e => hx ((isM_0 hn h).mpr ((fstI_none (by omega)).mpr ((lstI_none (by omega)).mp e)))
  obtain ⟨b, hb, h1, h2, h3⟩ := lstI_some (P := P) (n := n) (by omega) hne
  have e : fJ6_numberOfLeadingZeros_0f7a4 x = some (nI (31 - b)) := by
    rw [← nI_self x]
    refine nlz_bit (by omega) ?_ ?_
    · rw [← bt_nat, h b (by omega), h1, decide_eq_true hb]; rfl
    · intro i hi hi2
      rw [← bt_nat, h i (by omega)]
      by_cases hin : i < n
      · rw [h2 i hi hin, Bool.and_false]
      · rw [decide_eq_false hin, Bool.false_and]
  rw [e, h3]
  show some (nI 31 - nI (31 - b)) = _
  rw [pk_sub (by omega)]
  congr 2; omega
theorem isM_and {x y : Int32} {n : Nat} {P Q : Nat → Bool} (hx : isM x n P) (hy : ∀ i, i < n → bt y i = Q i) (hn : n ≤ 20) : isM (x &&& y) n (fun b => P b && Q b) := by
  intro i hi
  rw [b_and, hx i hi]
  by_cases h : i < n
  · rw [hy i h]; simp [h]
  · simp [h]
theorem isM_bt {x : Int32} {n : Nat} {P : Nat → Bool} (hn : n ≤ 20) (h : isM x n P) {i : Nat} (hi : i < n) : bt x i = P i := by
  rw [h i (by omega), decide_eq_true hi, Bool.true_and]
/-- how many bits: up to 1024 -/
def popc (v : Nat) : Nat := ((List.range 10).filter (fun i => v.testBit i)).length
theorem bitCount_e : ∀ v, v < 1024 → fJ6_bitCount_0f7a4 (nI v) = some (nI (popc v)) := by decide +kernel
theorem many_e : ∀ v, v < 1024 → fX8_many (nI v) = some (nI (popc v)) := by decide +kernel
