/-! ===== Int32 by its bits: bt x i ===== -/
def bt (x : Int32) (i : Nat) : Bool := x.toBitVec.getLsbD i
theorem b_ext {x y : Int32} (h : ∀ i, i < 32 → bt x i = bt y i) : x = y := Int32.toBitVec_inj.mp (BitVec.eq_of_getLsbD_eq (fun i hi => h i hi))
theorem b_or (x y : Int32) (i : Nat) : bt (x ||| y) i = (bt x i || bt y i) := by unfold bt; rw [Int32.toBitVec_or, BitVec.getLsbD_or]
theorem b_and (x y : Int32) (i : Nat) : bt (x &&& y) i = (bt x i && bt y i) := by unfold bt; rw [Int32.toBitVec_and, BitVec.getLsbD_and]
theorem b_xor (x y : Int32) (i : Nat) : bt (x ^^^ y) i = (bt x i ^^ bt y i) := by unfold bt; rw [Int32.toBitVec_xor, BitVec.getLsbD_xor]
theorem b_big {x : Int32} {i : Nat} (h : 32 ≤ i) : bt x i = false := BitVec.getLsbD_of_ge _ _ h
theorem b_255 (i : Nat) : bt 255 i = decide (i < 8) := by
  rcases Nat.lt_or_ge i 32 with h | h
  · exact (by decide +kernel : ∀ i, i < 32 → bt 255 i = decide (i < 8)) i h
  · rw [b_big h, decide_eq_false (by omega)]
theorem b_65535 (i : Nat) : bt 65535 i = decide (i < 16) := by
  rcases Nat.lt_or_ge i 32 with h | h
  · exact (by decide +kernel : ∀ i, i < 32 → bt 65535 i = decide (i < 16)) i h
  · rw [b_big h, decide_eq_false (by omega)]
theorem b_m1 : ∀ i, i < 32 → bt (-1) i = true := by decide +kernel
theorem b_0 (i : Nat) : bt 0 i = false := BitVec.getLsbD_zero
theorem s_l : ∀ n, n < 32 → ((nI n &&& 31).toBitVec.smod 32).toNat = n := by decide +kernel
theorem s_u : ∀ n, n < 32 → (((nI n).toUInt32 &&& Int32.toUInt32 31).toBitVec % 32).toNat = n := by decide +kernel
theorem b_shl (n : Nat) (hn : n < 32) (x : Int32) {i : Nat} (hi : i < 32) : bt (x <<< (nI n &&& 31)) i = (decide (n ≤ i) && bt x (i - n)) := by
  unfold bt
  rw [Int32.toBitVec_shiftLeft]
  show (x.toBitVec <<< ((nI n &&& 31).toBitVec.smod 32).toNat).getLsbD i = _
  rw [s_l n hn, BitVec.getLsbD_shiftLeft]
  rcases Nat.lt_or_ge i n with h | h
  · simp [h, Nat.not_le.mpr h]
  · simp [hi, h, Nat.not_lt.mpr h]
theorem b_ushr (n : Nat) (hn : n < 32) (x : Int32) (i : Nat) : bt ((x.toUInt32 >>> ((nI n).toUInt32 &&& Int32.toUInt32 31)).toInt32) i = bt x (n + i) := by
  show (x.toUInt32 >>> ((nI n).toUInt32 &&& Int32.toUInt32 31)).toBitVec.getLsbD i = x.toUInt32.toBitVec.getLsbD (n + i)
  rw [UInt32.toBitVec_shiftRight]
  show (x.toUInt32.toBitVec >>> (((nI n).toUInt32 &&& Int32.toUInt32 31).toBitVec % 32).toNat).getLsbD i = _
  rw [s_u n hn, BitVec.getLsbD_ushiftRight]
theorem b_sshr (n : Nat) (hn : n < 32) (x : Int32) {i : Nat} (hi : i < 32) : bt (x >>> (nI n &&& 31)) i = if n + i < 32 then bt x (n + i) else bt x 31 := by
  unfold bt
  rw [Int32.toBitVec_shiftRight]
  show (x.toBitVec.sshiftRight ((nI n &&& 31).toBitVec.smod 32).toNat).getLsbD i = _
  rw [s_l n hn, BitVec.getLsbD_sshiftRight, BitVec.msb_eq_getLsbD_last]
  simp [hi]
theorem b_shl8 (x : Int32) {i : Nat} (hi : i < 32) : bt (x <<< ((8 : Int32) &&& 31)) i = (decide (8 ≤ i) && bt x (i - 8)) := b_shl 8 (by omega) x hi
theorem b_shl16 (x : Int32) {i : Nat} (hi : i < 32) : bt (x <<< ((16 : Int32) &&& 31)) i = (decide (16 ≤ i) && bt x (i - 16)) := b_shl 16 (by omega) x hi
theorem b_shl24 (x : Int32) {i : Nat} (hi : i < 32) : bt (x <<< ((24 : Int32) &&& 31)) i = (decide (24 ≤ i) && bt x (i - 24)) := b_shl 24 (by omega) x hi
theorem b_sshr8 (x : Int32) {i : Nat} (hi : i < 32) : bt (x >>> ((8 : Int32) &&& 31)) i = if 8 + i < 32 then bt x (8 + i) else bt x 31 := b_sshr 8 (by omega) x hi
/-! ===== numbers: literals as nI, and how the functions run ===== -/
theorem l_0 : (0 : Int32) = nI 0 := rfl
theorem l_1 : (1 : Int32) = nI 1 := rfl
theorem l_2 : (2 : Int32) = nI 2 := rfl
theorem l_3 : (3 : Int32) = nI 3 := rfl
theorem l_4 : (4 : Int32) = nI 4 := rfl
theorem l_5 : (5 : Int32) = nI 5 := rfl
theorem l_6 : (6 : Int32) = nI 6 := rfl
theorem l_7 : (7 : Int32) = nI 7 := rfl
theorem l_8 : (8 : Int32) = nI 8 := rfl
theorem l_9 : (9 : Int32) = nI 9 := rfl
theorem l_10 : (10 : Int32) = nI 10 := rfl
theorem l_11 : (11 : Int32) = nI 11 := rfl
theorem l_12 : (12 : Int32) = nI 12 := rfl
theorem l_13 : (13 : Int32) = nI 13 := rfl
theorem l_14 : (14 : Int32) = nI 14 := rfl
theorem l_15 : (15 : Int32) = nI 15 := rfl
theorem l_16 : (16 : Int32) = nI 16 := rfl
theorem l_17 : (17 : Int32) = nI 17 := rfl
theorem l_18 : (18 : Int32) = nI 18 := rfl
theorem l_19 : (19 : Int32) = nI 19 := rfl
theorem l_20 : (20 : Int32) = nI 20 := rfl
theorem l_21 : (21 : Int32) = nI 21 := rfl
theorem l_22 : (22 : Int32) = nI 22 := rfl
theorem l_23 : (23 : Int32) = nI 23 := rfl
theorem l_24 : (24 : Int32) = nI 24 := rfl
theorem l_25 : (25 : Int32) = nI 25 := rfl
theorem l_26 : (26 : Int32) = nI 26 := rfl
theorem l_27 : (27 : Int32) = nI 27 := rfl
theorem l_28 : (28 : Int32) = nI 28 := rfl
theorem l_29 : (29 : Int32) = nI 29 := rfl
theorem l_30 : (30 : Int32) = nI 30 := rfl
theorem l_31 : (31 : Int32) = nI 31 := rfl
theorem l_32 : (32 : Int32) = nI 32 := rfl
theorem l_40 : (40 : Int32) = nI 40 := rfl
theorem l_48 : (48 : Int32) = nI 48 := rfl
theorem l_56 : (56 : Int32) = nI 56 := rfl
theorem l_57 : (57 : Int32) = nI 57 := rfl
theorem l_59 : (59 : Int32) = nI 59 := rfl
theorem l_63 : (63 : Int32) = nI 63 := rfl
theorem l_64 : (64 : Int32) = nI 64 := rfl
theorem l_96 : (96 : Int32) = nI 96 := rfl
theorem l_97 : (97 : Int32) = nI 97 := rfl
theorem l_99 : (99 : Int32) = nI 99 := rfl
theorem l_122 : (122 : Int32) = nI 122 := rfl
theorem l_159 : (159 : Int32) = nI 159 := rfl
theorem l_160 : (160 : Int32) = nI 160 := rfl
theorem l_239 : (239 : Int32) = nI 239 := rfl
theorem l_240 : (240 : Int32) = nI 240 := rfl
theorem l_255 : (255 : Int32) = nI 255 := rfl
theorem l_256 : (256 : Int32) = nI 256 := rfl
theorem l_1000 : (1000 : Int32) = nI 1000 := rfl
theorem l_1440 : (1440 : Int32) = nI 1440 := rfl
theorem l_65536 : (65536 : Int32) = nI 65536 := rfl
theorem l_1000000 : (1000000 : Int32) = nI 1000000 := rfl
theorem l_268435456 : (268435456 : Int32) = nI 268435456 := rfl

theorem nI_self (x : Int32) : nI x.toBitVec.toNat = x := by
  apply Int32.toBitVec_inj.mp
  show BitVec.ofNat 32 x.toBitVec.toNat = x.toBitVec
  simp
theorem bt_nat (x : Int32) (i : Nat) : bt x i = x.toBitVec.toNat.testBit i := by
  unfold bt; rw [BitVec.testBit_toNat]
theorem bt_nI {v : Nat} (hv : v < 2 ^ 32) (i : Nat) : bt (nI v) i = v.testBit i := by
  rw [bt_nat]
  show (BitVec.ofNat 32 v).toNat.testBit i = _
  rw [BitVec.toNat_ofNat, Nat.mod_eq_of_lt hv]
def M1 : Int32 := -1
theorem l_m1 : (-1 : Int32) = M1 := rfl
def M2 : Int32 := -2
theorem l_m2 : (-2 : Int32) = M2 := rfl
def M3 : Int32 := -3
theorem l_m3 : (-3 : Int32) = M3 := rfl
def M4 : Int32 := -4
theorem l_m4 : (-4 : Int32) = M4 := rfl
def M5 : Int32 := -5
theorem l_m5 : (-5 : Int32) = M5 := rfl
theorem nI_nm1 {a : Nat} (h : a < 2 ^ 31) : (nI a = M1) = False := by
  apply propext
  refine ⟨fun e => ?_, False.elim⟩
  have h1 := nI_toInt h
  rw [e] at h1
  have : (M1).toInt = -1 := by decide
  omega
theorem m1_nI {a : Nat} (h : a < 2 ^ 31) : (M1 = nI a) = False := by
  apply propext
  exact ⟨fun e => (nI_nm1 h).mp e.symm, False.elim⟩
theorem o1_s {α β : Type} (x : α) (k : α → Option β) : o1 (some x) k = k x := rfl
theorem o2_s {α β γ : Type} (x : α) (y : β) (k : α → β → Option γ) : o2 (some (x, y)) k = k x y := rfl
theorem oz_0 {β : Type} (k : Int32 → Option β) : oz (some 0) k = k 0 := rfl
theorem oz_1 {β : Type} (k : Int32 → Option β) : oz (some 1) k = k 1 := rfl
theorem o2z_0 {β γ : Type} (y : β) (k : Int32 → β → Option γ) : o2z (some (0, y)) k = k 0 y := rfl
theorem o2z_1 {β γ : Type} (y : β) (k : Int32 → β → Option γ) : o2z (some (1, y)) k = k 1 y := rfl
theorem rb_0 {β : Type} (k : Int32 → Option β) : rb 0 k = k 0 := rfl
theorem rb_1 {β : Type} (k : Int32 → Option β) : rb 1 k = k 1 := rfl
theorem ald_e {β : Type} {u : St} {q n i : Nat} {k : Int32 → Option β} (h : i < n) (hn : n < 2 ^ 31) : ald u q n (nI i) k = k (u q i) := by
  unfold ald; rw [if_neg (nI_in h hn), nI_clamp (by omega)]
theorem asr_e {β : Type} {u : St} {q n i : Nat} {x : Int32} {k : St → Option β} (h : i < n) (hn : n < 2 ^ 31) : asr u q n (nI i) x k = k (st_wr u q i x) := by
  unfold asr; rw [if_neg (nI_in h hn), nI_clamp (by omega)]
theorem tld_e {β : Type} {i : Nat} {k : Nat → Option β} (h : i < 6) : tld (nI i) k = k i := by
  unfold tld; rw [if_neg (nI_in h (by decide)), nI_clamp (by omega)]
theorem w_rem {a d : Nat} : nI a - nI (a / d * d) = nI (a % d) := by
  rw [pk_sub (Nat.div_mul_le_self a d)]
  congr 1
  have := Nat.div_add_mod a d
  rw [Nat.mul_comm] at this
  omega
/-- a truth as a number -/
def bz (b : Bool) : Int32 := if b then 1 else 0
theorem oz_b {β : Type} (b : Bool) (k : Int32 → Option β) : oz (some (bz b)) k = if b then k 1 else k 0 := by cases b <;> rfl
/-! ===== the first and the last of a row that has it ===== -/
def fstI (P : Nat → Bool) : Nat → Int32
  | 0 => M1
  | n + 1 => if fstI P n = M1 then (if P n then nI n else M1) else fstI P n
def lstI (P : Nat → Bool) : Nat → Int32
  | 0 => M1
  | n + 1 => if P n then nI n else lstI P n
theorem fstI_none {P : Nat → Bool} : ∀ {n : Nat}, n < 2 ^ 31 → (fstI P n = M1 ↔ ∀ b, b < n → P b = false)
  | 0, _ => ⟨fun _ b h => absurd h (Nat.not_lt_zero b), fun _ => rfl⟩
  | n + 1, hn => by
    have ih := @fstI_none P n (by omega)
    rw [fstI]
    by_cases h : fstI P n = M1
    · rw [if_pos h]
      have h2 := ih.mp h
      by_cases hp : P n = true
      · rw [if_pos hp, nI_nm1 (by omega)]
        exact ⟨False.elim, fun q => by rw [q n (by omega)] at hp; cases hp⟩
      · rw [if_neg hp]
        refine ⟨fun _ b hb => ?_, fun _ => rfl⟩
        rcases Nat.lt_succ_iff_lt_or_eq.mp hb with q | q
        · exact h2 b q
        · subst q; simpa using hp
    · rw [if_neg h]
      exact ⟨fun q => absurd q h, fun q => absurd (ih.mpr (fun b hb => q b (by omega))) h⟩
theorem fstI_some {P : Nat → Bool} : ∀ {n : Nat}, n < 2 ^ 31 → fstI P n ≠ M1 → ∃ b, b < n ∧ P b = true ∧ (∀ j, j < b → P j = false) ∧ fstI P n = nI b
  | 0, _, h => absurd rfl h
  | n + 1, hn, h => by
    rw [fstI] at h ⊢
    by_cases h1 : fstI P n = M1
    · rw [if_pos h1] at h ⊢
      by_cases hp : P n = true
      · rw [if_pos hp] at h ⊢
        exact ⟨n, by omega, hp, (fstI_none (by omega)).mp h1, rfl⟩
      · rw [if_neg hp] at h; exact absurd rfl h
    · rw [if_neg h1] at h ⊢
      obtain ⟨b, hb, h2, h3, h4⟩ := fstI_some (by omega) h1
      exact ⟨b, by omega, h2, h3, h4⟩
theorem lstI_none {P : Nat → Bool} : ∀ {n : Nat}, n < 2 ^ 31 → (lstI P n = M1 ↔ ∀ b, b < n → P b = false)
  | 0, _ => ⟨fun _ b h => absurd h (Nat.not_lt_zero b), fun _ => rfl⟩
  | n + 1, hn => by
    have ih := @lstI_none P n (by omega)
    rw [lstI]
    by_cases hp : P n = true
    · rw [if_pos hp, nI_nm1 (by omega)]
      exact ⟨False.elim, fun q => by rw [q n (by omega)] at hp; cases hp⟩
    · rw [if_neg hp, ih]
      refine ⟨fun q b hb => ?_, fun q b hb => q b (by omega)⟩
      rcases Nat.lt_succ_iff_lt_or_eq.mp hb with z | z
      · exact q b z
      · subst z; simpa using hp
theorem lstI_some {P : Nat → Bool} : ∀ {n : Nat}, n < 2 ^ 31 → lstI P n ≠ M1 → ∃ b, b < n ∧ P b = true ∧ (∀ j, b < j → j < n → P j = false) ∧ lstI P n = nI b
  | 0, _, h => absurd rfl h
  | n + 1, hn, h => by
    rw [lstI] at h ⊢
    by_cases hp : P n = true
    · rw [if_pos hp]
      exact ⟨n, by omega, hp, fun j h1 h2 => by omega, rfl⟩
    · rw [if_neg hp] at h ⊢
      obtain ⟨b, hb, h2, h3, h4⟩ := lstI_some (by omega) h
      refine ⟨b, by omega, h2, fun j h5 h6 => ?_, h4⟩
      rcases Nat.lt_succ_iff_lt_or_eq.mp h6 with z | z
      · exact h3 j h5 z
      · subst z; simpa using hp
theorem fstI_le {P : Nat → Bool} {n : Nat} (h : fstI P n ≠ M1) : ∀ m, fstI P (n + m) = fstI P n
  | 0 => rfl
  | m + 1 => by
    rw [← Nat.add_assoc, fstI, fstI_le h m, if_neg h]
