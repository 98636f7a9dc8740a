/-! ===== who may what: the bounds, and which decides ===== -/
def cM (u : St) : Nat → Nat → Int32 := fun b k => u 2 (7 * b + k)
def cX (u : St) : Nat → Nat → Int32 := fun b k => u 11 (7 * b + k)
/-- a work is within a bound -/
def rch (c : Nat → Nat → Int32) (b w : Nat) : Bool := decide ((c b 3 = M1 ∨ c b 3 = nI (w / 40)) ∧ (c b 4 = M1 ∨ c b 4 = nI (w / 10 % 4)) ∧ ¬ nI (w % 10) < c b 5 ∧ ¬ c b 6 < nI (w % 10))
theorem reaches_M {u : St} {b w : Nat} (hb : b < 20) (hw : w < 240) : fX8_reaches u (nI b) (nI w) = some (bz (rch (cM u) b w)) := by
  unfold fX8_reaches fX8_reaches_L44 fX8_reaches_L61
  simp (disch := omega) only [↓l_m1, ↓l_m2, ↓l_m3, ↓l_m4, ↓l_m5, l_0, l_1, l_2, l_3, l_4, l_5, l_6, l_7, l_8, l_9, l_10, l_11, l_12, l_13, l_14, l_15, l_16, l_17, l_18, l_19, l_20, l_21, l_22, l_23, l_24, l_25, l_26, l_27, l_28, l_29, l_30, l_31, l_32, l_40, l_48, l_56, l_57, l_59, l_63, l_64, l_96, l_97, l_99, l_122, l_159, l_160, l_239, l_240, l_255, l_256, l_1000, l_1440, l_65536, l_1000000, l_268435456, bd, o1_s, o2_s, oz_0, oz_1, o2z_0, o2z_1, rb_0, rb_1, ald_e, asr_e, tld_e, nI_add, pk_mul, pk_div, w_rem, nI_leI, nI_ltI, nI_eq, nI_nm1, m1_nI, if_true, if_false, ↓reduceIte, Bool.false_eq_true]
  unfold rch cM bz
  by_cases h3 : u 2 (7 * b + 3) = M1 <;> by_cases h3' : u 2 (7 * b + 3) = nI (w / 40) <;> by_cases h4 : u 2 (7 * b + 4) = M1 <;> by_cases h4' : u 2 (7 * b + 4) = nI (w / 10 % 4) <;> by_cases h5 : nI (w % 10) < u 2 (7 * b + 5) <;> by_cases h6 : u 2 (7 * b + 6) < nI (w % 10) <;> simp [h3, h3', h4, h4', h5, h6] <;> rfl
theorem cell_X {u : St} {b k : Nat} (hb : b < 20) (hk : k < 7) : fX0_cell u (nI b) (nI k) = some (cX u b k) := by
  unfold fX0_cell cX
  simp (disch := omega) only [↓l_m1, ↓l_m2, ↓l_m3, ↓l_m4, ↓l_m5, l_0, l_1, l_2, l_3, l_4, l_5, l_6, l_7, l_8, l_9, l_10, l_11, l_12, l_13, l_14, l_15, l_16, l_17, l_18, l_19, l_20, l_21, l_22, l_23, l_24, l_25, l_26, l_27, l_28, l_29, l_30, l_31, l_32, l_40, l_48, l_56, l_57, l_59, l_63, l_64, l_96, l_97, l_99, l_122, l_159, l_160, l_239, l_240, l_255, l_256, l_1000, l_1440, l_65536, l_1000000, l_268435456, bd, o1_s, o2_s, oz_0, oz_1, o2z_0, o2z_1, rb_0, rb_1, ald_e, asr_e, tld_e, nI_add, pk_mul, pk_div, w_rem, nI_leI, nI_ltI, nI_eq, nI_nm1, m1_nI, if_true, if_false, ↓reduceIte, Bool.false_eq_true]
  rw [show b * 7 + k = 7 * b + k by omega]
theorem isOff_e (x y z : Int32) : fX7_isOff x y z = some (bz (decide (x < y ∨ z < x))) := by
  unfold fX7_isOff bz
  by_cases h1 : x < y
  · simp [h1]
  · by_cases h2 : x ≤ z
    · have : ¬ z < x := Int32.not_lt.mpr h2
      simp [h1, h2, this]
    · have : z < x := Int32.not_le.mp h2
      simp [h1, h2, this]
theorem reaches_X {u : St} {b w : Nat} (hb : b < 20) (hw : w < 240) : fX0_reaches u (nI b) (nI w) = some (bz (rch (cX u) b w)) := by
  unfold fX0_reaches fX0_reaches_L28 fX0_reaches_L45
  simp (disch := omega) only [↓l_m1, ↓l_m2, ↓l_m3, ↓l_m4, ↓l_m5, l_0, l_1, l_2, l_3, l_4, l_5, l_6, l_7, l_8, l_9, l_10, l_11, l_12, l_13, l_14, l_15, l_16, l_17, l_18, l_19, l_20, l_21, l_22, l_23, l_24, l_25, l_26, l_27, l_28, l_29, l_30, l_31, l_32, l_40, l_48, l_56, l_57, l_59, l_63, l_64, l_96, l_97, l_99, l_122, l_159, l_160, l_239, l_240, l_255, l_256, l_1000, l_1440, l_65536, l_1000000, l_268435456, bd, o1_s, o2_s, oz_0, oz_1, o2z_0, o2z_1, rb_0, rb_1, ald_e, asr_e, tld_e, nI_add, pk_mul, pk_div, w_rem, nI_leI, nI_ltI, nI_eq, nI_nm1, m1_nI, if_true, if_false, ↓reduceIte, Bool.false_eq_true, cell_X, isOff_e, oz_b]
  unfold rch bz
  by_cases h3 : cX u b 3 = M1 <;> by_cases h3' : cX u b 3 = nI (w / 40) <;> by_cases h4 : cX u b 4 = M1 <;> by_cases h4' : cX u b 4 = nI (w / 10 % 4) <;> by_cases h5 : nI (w % 10) < cX u b 5 <;> by_cases h6 : cX u b 6 < nI (w % 10) <;> simp [h3, h3', h4, h4', h5, h6] <;> rfl
/-- the four kinds of a bound that bears on guild g and work w -/
def k_gr (c : Nat → Nat → Int32) (th : Nat → Bool) (g w : Nat) : Nat → Bool := fun b => th b && rch c b w && decide (c b 0 = nI 4) && decide (c b 1 = nI g)
def k_oo (c : Nat → Nat → Int32) (th : Nat → Bool) (g w : Nat) : Nat → Bool := fun b => th b && rch c b w && decide (c b 0 = nI 2) && decide (c b 1 = nI g)
def k_fo (c : Nat → Nat → Int32) (th : Nat → Bool) (g w : Nat) : Nat → Bool := fun b => th b && rch c b w && decide (c b 0 = nI 2) && !decide (c b 1 = nI g)
def k_pl (c : Nat → Nat → Int32) (th : Nat → Bool) (g w : Nat) : Nat → Bool := fun b => th b && rch c b w && !decide (c b 0 = nI 4) && decide (c b 1 = nI g)
/-- which bound decides -/
def dcd (c : Nat → Nat → Int32) (n : Nat) (th : Nat → Bool) (g w : Nat) : Int32 :=
  if fstI (k_gr c th g w) n = M1 then (if fstI (k_fo c th g w) n = M1 then lstI (k_pl c th g w) n else if lstI (k_oo c th g w) n = M1 then fstI (k_fo c th g w) n else lstI (k_pl c th g w) n) else fstI (k_gr c th g w) n
/-- bound b of the model counts now -/
def thM (u : St) : Nat → Bool := fun b => !decide (u 0 22 ≤ nI b) && decide (((u 0 21) >>> (nI b &&& 31)) &&& (1 : Int32) = 0)
theorem isThere_M (u : St) (b : Nat) : fX8_isThere u (nI b) = some (bz (thM u b)) := by
  unfold fX8_isThere thM bz
  by_cases h1 : u 0 22 ≤ nI b
  · simp [h1]
  · by_cases h2 : ((u 0 21) >>> (nI b &&& 31)) &&& (1 : Int32) = 0 <;> simp [h1, h2]
theorem decides_loop {u : St} {n g w : Nat} (hn : n ≤ 20) (hu : u 0 3 = nI n) (hg : g < 6) (hw : w < 240) : ∀ (m f b : Nat), b + m = n → m < f → fstI (k_gr (cM u) (thM u) g w) b = M1 →
    fX8_decides_L11 u f (nI g) (nI w) (lstI (k_oo (cM u) (thM u) g w) b) (fstI (k_fo (cM u) (thM u) g w) b) (lstI (k_pl (cM u) (thM u) g w) b) (nI b) = some (dcd (cM u) n (thM u) g w) := by
  intro m
  induction m with
  | zero =>
    intro f b hb hf hgr
    obtain ⟨f, rfl⟩ : ∃ f', f = f' + 1 := ⟨f - 1, by omega⟩
    have : b = n := by omega
    subst this
    rw [fX8_decides_L11]
    dsimp only
    unfold fX8_decides_L158
    rw [hu, if_pos (nI_le (Nat.le_refl _) (by omega))]
    unfold dcd
    rw [if_pos hgr]
    simp only [↓l_m1]
    by_cases h1 : fstI (k_fo (cM u) (thM u) g w) b = M1
    · simp [h1]
    · by_cases h2 : lstI (k_oo (cM u) (thM u) g w) b = M1 <;> simp [h1, h2]
  | succ m ih =>
    intro f b hb hf hgr
    obtain ⟨f, rfl⟩ : ∃ f', f = f' + 1 := ⟨f - 1, by omega⟩
    rw [fX8_decides_L11]
    dsimp only
    rw [hu, if_neg (nI_ge (by omega) (by omega))]
    rw [isThere_M, oz_b, reaches_M (by omega) hw, oz_b]
    have egr : k_gr (cM u) (thM u) g w b = (thM u b && rch (cM u) b w && decide (cM u b 0 = nI 4) && decide (cM u b 1 = nI g)) := rfl
    have eoo : k_oo (cM u) (thM u) g w b = (thM u b && rch (cM u) b w && decide (cM u b 0 = nI 2) && decide (cM u b 1 = nI g)) := rfl
    have efo : k_fo (cM u) (thM u) g w b = (thM u b && rch (cM u) b w && decide (cM u b 0 = nI 2) && !decide (cM u b 1 = nI g)) := rfl
    have epl : k_pl (cM u) (thM u) g w b = (thM u b && rch (cM u) b w && !decide (cM u b 0 = nI 4) && decide (cM u b 1 = nI g)) := rfl
    have e0 : u 2 (7 * b) = cM u b 0 := rfl
    have e1 : u 2 (7 * b + 1) = cM u b 1 := rfl
    have next : ∀ (hgr' : fstI (k_gr (cM u) (thM u) g w) (b + 1) = M1), fX8_decides_L11 u f (nI g) (nI w) (lstI (k_oo (cM u) (thM u) g w) (b + 1)) (fstI (k_fo (cM u) (thM u) g w) (b + 1)) (lstI (k_pl (cM u) (thM u) g w) (b + 1)) (nI (b + 1)) = some (dcd (cM u) n (thM u) g w) := by
      intro hgr'
      exact ih f (b + 1) (by omega) (by omega) hgr'
    simp only [lstI, fstI, hgr, if_true] at next
    have fin : k_gr (cM u) (thM u) g w b = true → some (nI b) = some (dcd (cM u) n (thM u) g w) := by
      intro hk
      have h1 : fstI (k_gr (cM u) (thM u) g w) (b + 1) = nI b := by rw [fstI, if_pos hgr, if_pos hk]
      have h2 : fstI (k_gr (cM u) (thM u) g w) (b + 1) ≠ M1 := by rw [h1]; exact fun q => (nI_nm1 (show b < 2 ^ 31 by omega)).mp q
      have h3 := fstI_le h2 m
      rw [show b + 1 + m = n by omega] at h3
      unfold dcd
      rw [h3, if_neg h2, h1]
    rw [egr, eoo, efo, epl] at next
    rw [egr] at fin
    have n42 : ¬ nI 4 = nI 2 := by rw [nI_eq (by omega) (by omega)]; omega
    have n24 : ¬ nI 2 = nI 4 := by rw [nI_eq (by omega) (by omega)]; omega
    have z10 : ¬ (nI 1 = nI 0) := by rw [nI_eq (by omega) (by omega)]; omega
    by_cases ht : thM u b = true
    · by_cases hr : rch (cM u) b w = true
      · by_cases hog : cM u b 1 = nI g
        · by_cases h4 : cM u b 0 = nI 4
          · have := fin (by simp [ht, hr, h4, hog])
            simp (disch := omega) only [↓l_m1, ↓l_m2, ↓l_m3, ↓l_m4, ↓l_m5, l_0, l_1, l_2, l_3, l_4, l_5, l_6, l_7, l_8, l_9, l_10, l_11, l_12, l_13, l_14, l_15, l_16, l_17, l_18, l_19, l_20, l_21, l_22, l_23, l_24, l_25, l_26, l_27, l_28, l_29, l_30, l_31, l_32, l_40, l_48, l_56, l_57, l_59, l_63, l_64, l_96, l_97, l_99, l_122, l_159, l_160, l_239, l_240, l_255, l_256, l_1000, l_1440, l_65536, l_1000000, l_268435456, bd, o1_s, o2_s, oz_0, oz_1, o2z_0, o2z_1, rb_0, rb_1, ald_e, asr_e, tld_e, nI_add, pk_mul, pk_div, w_rem, nI_leI, nI_ltI, nI_eq, nI_nm1, m1_nI, if_true, if_false, ↓reduceIte, Bool.false_eq_true, fX8_decides_L72, ht, hr, h4, hog, e0, e1, z10]
            exact this
          · by_cases h2 : cM u b 0 = nI 2
            · have := next (by simp [ht, hr, hog, h2, n24])
              simp only [ht, hr, hog, h2, n24, decide_true, decide_false, Bool.and_true, Bool.and_false, Bool.not_true, Bool.not_false, if_true, if_false, Bool.false_eq_true] at this
              simp (disch := omega) only [↓l_m1, ↓l_m2, ↓l_m3, ↓l_m4, ↓l_m5, l_0, l_1, l_2, l_3, l_4, l_5, l_6, l_7, l_8, l_9, l_10, l_11, l_12, l_13, l_14, l_15, l_16, l_17, l_18, l_19, l_20, l_21, l_22, l_23, l_24, l_25, l_26, l_27, l_28, l_29, l_30, l_31, l_32, l_40, l_48, l_56, l_57, l_59, l_63, l_64, l_96, l_97, l_99, l_122, l_159, l_160, l_239, l_240, l_255, l_256, l_1000, l_1440, l_65536, l_1000000, l_268435456, bd, o1_s, o2_s, oz_0, oz_1, o2z_0, o2z_1, rb_0, rb_1, ald_e, asr_e, tld_e, nI_add, pk_mul, pk_div, w_rem, nI_leI, nI_ltI, nI_eq, nI_nm1, m1_nI, if_true, if_false, ↓reduceIte, Bool.false_eq_true, fX8_decides_L72, fX8_decides_L88, fX8_decides_L105, fX8_decides_L128, fX8_decides_L130, fX8_decides_L150, fX8_decides_L152, ht, hr, h2, n24, hog, e0, e1, z10]
              by_cases hfo : fstI (k_fo (cM u) (thM u) g w) b = M1 <;> simp only [hfo, if_true, if_false] at this <;> first | exact this | (rw [hfo]; exact this)
            · have := next (by simp [h4])
              simp only [ht, hr, hog, h2, h4, decide_true, decide_false, Bool.and_true, Bool.and_false, Bool.false_and, Bool.not_true, Bool.not_false, if_true, if_false, Bool.false_eq_true] at this
              simp (disch := omega) only [↓l_m1, ↓l_m2, ↓l_m3, ↓l_m4, ↓l_m5, l_0, l_1, l_2, l_3, l_4, l_5, l_6, l_7, l_8, l_9, l_10, l_11, l_12, l_13, l_14, l_15, l_16, l_17, l_18, l_19, l_20, l_21, l_22, l_23, l_24, l_25, l_26, l_27, l_28, l_29, l_30, l_31, l_32, l_40, l_48, l_56, l_57, l_59, l_63, l_64, l_96, l_97, l_99, l_122, l_159, l_160, l_239, l_240, l_255, l_256, l_1000, l_1440, l_65536, l_1000000, l_268435456, bd, o1_s, o2_s, oz_0, oz_1, o2z_0, o2z_1, rb_0, rb_1, ald_e, asr_e, tld_e, nI_add, pk_mul, pk_div, w_rem, nI_leI, nI_ltI, nI_eq, nI_nm1, m1_nI, if_true, if_false, ↓reduceIte, Bool.false_eq_true, fX8_decides_L72, fX8_decides_L88, fX8_decides_L104, fX8_decides_L105, fX8_decides_L128, fX8_decides_L130, fX8_decides_L150, fX8_decides_L152, ht, hr, h2, h4, hog, e0, e1, z10]
              by_cases hfo : fstI (k_fo (cM u) (thM u) g w) b = M1 <;> simp only [hfo, if_true, if_false] at this <;> first | exact this | (rw [hfo]; exact this)
        · by_cases h4 : cM u b 0 = nI 4
          · have := next (by simp [hog])
            simp only [ht, hr, hog, h4, n42, decide_true, decide_false, Bool.and_true, Bool.and_false, Bool.true_and, Bool.false_and, Bool.not_true, Bool.not_false, if_true, if_false, Bool.false_eq_true] at this
            by_cases hfo : fstI (k_fo (cM u) (thM u) g w) b = M1 <;> simp only [hfo, if_true, if_false] at this <;> simp (disch := omega) only [↓l_m1, ↓l_m2, ↓l_m3, ↓l_m4, ↓l_m5, l_0, l_1, l_2, l_3, l_4, l_5, l_6, l_7, l_8, l_9, l_10, l_11, l_12, l_13, l_14, l_15, l_16, l_17, l_18, l_19, l_20, l_21, l_22, l_23, l_24, l_25, l_26, l_27, l_28, l_29, l_30, l_31, l_32, l_40, l_48, l_56, l_57, l_59, l_63, l_64, l_96, l_97, l_99, l_122, l_159, l_160, l_239, l_240, l_255, l_256, l_1000, l_1440, l_65536, l_1000000, l_268435456, bd, o1_s, o2_s, oz_0, oz_1, o2z_0, o2z_1, rb_0, rb_1, ald_e, asr_e, tld_e, nI_add, pk_mul, pk_div, w_rem, nI_leI, nI_ltI, nI_eq, nI_nm1, m1_nI, if_true, if_false, ↓reduceIte, Bool.false_eq_true, fX8_decides_L72, fX8_decides_L88, fX8_decides_L104, fX8_decides_L105, fX8_decides_L128, fX8_decides_L130, fX8_decides_L148, fX8_decides_L150, fX8_decides_L152, ht, hr, hog, h4, n42, e0, e1, z10, hfo] <;> first | exact this | (rw [hfo]; exact this)
          · by_cases h2 : cM u b 0 = nI 2
            · have := next (by simp [hog])
              simp only [ht, hr, hog, h2, n24, decide_true, decide_false, Bool.and_true, Bool.and_false, Bool.true_and, Bool.false_and, Bool.not_true, Bool.not_false, if_true, if_false, Bool.false_eq_true] at this
              by_cases hfo : fstI (k_fo (cM u) (thM u) g w) b = M1 <;> simp only [hfo, if_true, if_false] at this <;> simp (disch := omega) only [↓l_m1, ↓l_m2, ↓l_m3, ↓l_m4, ↓l_m5, l_0, l_1, l_2, l_3, l_4, l_5, l_6, l_7, l_8, l_9, l_10, l_11, l_12, l_13, l_14, l_15, l_16, l_17, l_18, l_19, l_20, l_21, l_22, l_23, l_24, l_25, l_26, l_27, l_28, l_29, l_30, l_31, l_32, l_40, l_48, l_56, l_57, l_59, l_63, l_64, l_96, l_97, l_99, l_122, l_159, l_160, l_239, l_240, l_255, l_256, l_1000, l_1440, l_65536, l_1000000, l_268435456, bd, o1_s, o2_s, oz_0, oz_1, o2z_0, o2z_1, rb_0, rb_1, ald_e, asr_e, tld_e, nI_add, pk_mul, pk_div, w_rem, nI_leI, nI_ltI, nI_eq, nI_nm1, m1_nI, if_true, if_false, ↓reduceIte, Bool.false_eq_true, fX8_decides_L72, fX8_decides_L88, fX8_decides_L104, fX8_decides_L105, fX8_decides_L128, fX8_decides_L130, fX8_decides_L148, fX8_decides_L150, fX8_decides_L152, ht, hr, hog, h2, n24, e0, e1, z10, hfo] <;> first | exact this | (rw [hfo]; exact this)
            · have := next (by simp [hog])
              simp only [ht, hr, hog, h2, h4, decide_true, decide_false, Bool.and_true, Bool.and_false, Bool.true_and, Bool.false_and, Bool.not_true, Bool.not_false, if_true, if_false, Bool.false_eq_true] at this
              by_cases hfo : fstI (k_fo (cM u) (thM u) g w) b = M1 <;> simp only [hfo, if_true, if_false] at this <;> simp (disch := omega) only [↓l_m1, ↓l_m2, ↓l_m3, ↓l_m4, ↓l_m5, l_0, l_1, l_2, l_3, l_4, l_5, l_6, l_7, l_8, l_9, l_10, l_11, l_12, l_13, l_14, l_15, l_16, l_17, l_18, l_19, l_20, l_21, l_22, l_23, l_24, l_25, l_26, l_27, l_28, l_29, l_30, l_31, l_32, l_40, l_48, l_56, l_57, l_59, l_63, l_64, l_96, l_97, l_99, l_122, l_159, l_160, l_239, l_240, l_255, l_256, l_1000, l_1440, l_65536, l_1000000, l_268435456, bd, o1_s, o2_s, oz_0, oz_1, o2z_0, o2z_1, rb_0, rb_1, ald_e, asr_e, tld_e, nI_add, pk_mul, pk_div, w_rem, nI_leI, nI_ltI, nI_eq, nI_nm1, m1_nI, if_true, if_false, ↓reduceIte, Bool.false_eq_true, fX8_decides_L72, fX8_decides_L88, fX8_decides_L104, fX8_decides_L105, fX8_decides_L128, fX8_decides_L130, fX8_decides_L148, fX8_decides_L150, fX8_decides_L152, ht, hr, hog, h2, h4, e0, e1, z10, hfo] <;> first | exact this | (rw [hfo]; exact this)
      · have := next (by simp [hr])
        simp only [ht, hr, decide_true, decide_false, Bool.and_true, Bool.and_false, Bool.true_and, Bool.false_and, Bool.not_true, Bool.not_false, if_true, if_false, Bool.false_eq_true] at this
        by_cases hfo : fstI (k_fo (cM u) (thM u) g w) b = M1 <;> simp only [hfo, if_true, if_false] at this <;> simp (disch := omega) only [↓l_m1, ↓l_m2, ↓l_m3, ↓l_m4, ↓l_m5, l_0, l_1, l_2, l_3, l_4, l_5, l_6, l_7, l_8, l_9, l_10, l_11, l_12, l_13, l_14, l_15, l_16, l_17, l_18, l_19, l_20, l_21, l_22, l_23, l_24, l_25, l_26, l_27, l_28, l_29, l_30, l_31, l_32, l_40, l_48, l_56, l_57, l_59, l_63, l_64, l_96, l_97, l_99, l_122, l_159, l_160, l_239, l_240, l_255, l_256, l_1000, l_1440, l_65536, l_1000000, l_268435456, bd, o1_s, o2_s, oz_0, oz_1, o2z_0, o2z_1, rb_0, rb_1, ald_e, asr_e, tld_e, nI_add, pk_mul, pk_div, w_rem, nI_leI, nI_ltI, nI_eq, nI_nm1, m1_nI, if_true, if_false, ↓reduceIte, Bool.false_eq_true, fX8_decides_L72, fX8_decides_L88, fX8_decides_L104, fX8_decides_L105, fX8_decides_L128, fX8_decides_L130, fX8_decides_L148, fX8_decides_L150, fX8_decides_L152, ht, hr, e0, e1, z10, hfo] <;> first | exact this | (rw [hfo]; exact this)
    · have := next (by simp [ht])
      simp only [ht, decide_true, decide_false, Bool.and_true, Bool.and_false, Bool.true_and, Bool.false_and, Bool.not_true, Bool.not_false, if_true, if_false, Bool.false_eq_true] at this
      by_cases hfo : fstI (k_fo (cM u) (thM u) g w) b = M1 <;> simp only [hfo, if_true, if_false] at this <;> simp (disch := omega) only [↓l_m1, ↓l_m2, ↓l_m3, ↓l_m4, ↓l_m5, l_0, l_1, l_2, l_3, l_4, l_5, l_6, l_7, l_8, l_9, l_10, l_11, l_12, l_13, l_14, l_15, l_16, l_17, l_18, l_19, l_20, l_21, l_22, l_23, l_24, l_25, l_26, l_27, l_28, l_29, l_30, l_31, l_32, l_40, l_48, l_56, l_57, l_59, l_63, l_64, l_96, l_97, l_99, l_122, l_159, l_160, l_239, l_240, l_255, l_256, l_1000, l_1440, l_65536, l_1000000, l_268435456, bd, o1_s, o2_s, oz_0, oz_1, o2z_0, o2z_1, rb_0, rb_1, ald_e, asr_e, tld_e, nI_add, pk_mul, pk_div, w_rem, nI_leI, nI_ltI, nI_eq, nI_nm1, m1_nI, if_true, if_false, ↓reduceIte, Bool.false_eq_true, fX8_decides_L72, fX8_decides_L88, fX8_decides_L104, fX8_decides_L105, fX8_decides_L128, fX8_decides_L130, fX8_decides_L148, fX8_decides_L150, fX8_decides_L152, ht, e0, e1, z10, hfo] <;> first | exact this | (rw [hfo]; exact this)
theorem decides_M {u : St} {n g w : Nat} (hn : n ≤ 20) (hu : u 0 3 = nI n) (hg : g < 6) (hw : w < 240) : fX8_decides u (nI g) (nI w) = some (dcd (cM u) n (thM u) g w) :=
  decides_loop hn hu hg hw n 2000 0 (by omega) (by omega) rfl
/-- what a guild may, of the bound that decides -/
def codB (c : Nat → Nat → Int32) (b : Int32) (g : Nat) : Int32 :=
  if b = M1 then 0 else if c b.toNatClampNeg 1 = nI g then (if c b.toNatClampNeg 0 = nI 1 then 0 else if c b.toNatClampNeg 0 = nI 3 then 2 + c b.toNatClampNeg 2 else 1) else 0
def cod (c : Nat → Nat → Int32) (n : Nat) (th : Nat → Bool) (g w : Nat) : Int32 := codB c (dcd c n th g w) g
theorem dcd_in (c : Nat → Nat → Int32) {n : Nat} (hn : n ≤ 20) (th : Nat → Bool) (g w : Nat) : dcd c n th g w = M1 ∨ ∃ b, b < n ∧ dcd c n th g w = nI b := by
  have h1 : ∀ P : Nat → Bool, fstI P n = M1 ∨ ∃ b, b < n ∧ fstI P n = nI b := fun P => by
    by_cases h : fstI P n = M1
    · exact Or.inl h
    · obtain ⟨b, hb, -, -, e⟩ := fstI_some (by omega) h
      exact Or.inr ⟨b, hb, e⟩
  have h2 : ∀ P : Nat → Bool, lstI P n = M1 ∨ ∃ b, b < n ∧ lstI P n = nI b := fun P => by
    by_cases h : lstI P n = M1
    · exact Or.inl h
    · obtain ⟨b, hb, -, -, e⟩ := lstI_some (by omega) h
      exact Or.inr ⟨b, hb, e⟩
  unfold dcd
  by_cases a1 : fstI (k_gr c th g w) n = M1
  · rw [if_pos a1]
    by_cases a2 : fstI (k_fo c th g w) n = M1
    · rw [if_pos a2]; exact h2 _
    · rw [if_neg a2]
      by_cases a3 : lstI (k_oo c th g w) n = M1
      · rw [if_pos a3]; exact h1 _
      · rw [if_neg a3]; exact h2 _
  · rw [if_neg a1]; exact h1 _
theorem code_M {u : St} {n g w : Nat} (hn : n ≤ 20) (hu : u 0 3 = nI n) (hg : g < 6) (hw : w < 240) : fX8_code u (nI g) (nI w) = some (cod (cM u) n (thM u) g w) := by
  unfold fX8_code
  rw [decides_M hn hu hg hw, o1_s]
  unfold cod codB
  rcases dcd_in (cM u) hn (thM u) g w with h | ⟨b, hb, h⟩
  · rw [h, if_pos (show M1 = (-1 : Int32) from rfl), if_pos rfl]
  · rw [h, nI_clamp (by omega)]
    have e0 : u 2 (7 * b) = cM u b 0 := rfl
    have e1 : u 2 (7 * b + 1) = cM u b 1 := rfl
    have e2 : u 2 (7 * b + 2) = cM u b 2 := rfl
    simp (disch := omega) only [↓l_m1, ↓l_m2, ↓l_m3, ↓l_m4, ↓l_m5, l_0, l_1, l_2, l_3, l_4, l_5, l_6, l_7, l_8, l_9, l_10, l_11, l_12, l_13, l_14, l_15, l_16, l_17, l_18, l_19, l_20, l_21, l_22, l_23, l_24, l_25, l_26, l_27, l_28, l_29, l_30, l_31, l_32, l_40, l_48, l_56, l_57, l_59, l_63, l_64, l_96, l_97, l_99, l_122, l_159, l_160, l_239, l_240, l_255, l_256, l_1000, l_1440, l_65536, l_1000000, l_268435456, bd, o1_s, o2_s, oz_0, oz_1, o2z_0, o2z_1, rb_0, rb_1, ald_e, asr_e, tld_e, nI_add, pk_mul, pk_div, w_rem, nI_leI, nI_ltI, nI_eq, nI_nm1, m1_nI, if_true, if_false, ↓reduceIte, Bool.false_eq_true, e0, e1, e2]
    by_cases a1 : cM u b 1 = nI g
    · by_cases a2 : cM u b 0 = nI 1
      · simp [a1, a2]
      · have n31 : ¬ nI 3 = nI 1 := by rw [nI_eq (by omega) (by omega)]; omega
        by_cases a3 : cM u b 0 = nI 3 <;> simp [a1, a2, a3, n31]
    · simp [a1]
/-- the class's tables of its bounds, by bits -/
def tabX (u : St) (n : Nat) : Prop :=
  (∀ w, w < 240 → isM (u 12 w) n (fun b => rch (cX u) b w)) ∧
  (∀ g, g < 6 → isM (u 13 g) n (fun b => decide (cX u b 0 = nI 4) && decide (cX u b 1 = nI g))) ∧
  (∀ g, g < 6 → isM (u 14 g) n (fun b => decide (cX u b 0 = nI 2) && decide (cX u b 1 = nI g))) ∧
  (∀ g, g < 6 → isM (u 15 g) n (fun b => decide (cX u b 0 = nI 2) && !decide (cX u b 1 = nI g))) ∧
  (∀ g, g < 6 → isM (u 16 g) n (fun b => !decide (cX u b 0 = nI 4) && decide (cX u b 1 = nI g)))
theorem isM_c {x : Int32} {n : Nat} {P Q : Nat → Bool} (h : isM x n P) (e : ∀ i, P i = Q i) : isM x n Q := fun i hi => by rw [h i hi, e i]
theorem deciding_X {u : St} {n g w : Nat} {m : Int32} {th : Nat → Bool} (hn : n ≤ 20) (hT : tabX u n) (hm : ∀ b, b < n → bt m b = th b) (hg : g < 6) (hw : w < 240) : fX0_deciding u (nI g) (nI w) m = some (dcd (cX u) n th g w) := by
  obtain ⟨t1, t2, t3, t4, t5⟩ := hT
  have hh : isM (u 12 w &&& m) n (fun b => rch (cX u) b w && th b) := isM_and (t1 w hw) hm hn
  have m1 : isM ((u 12 w &&& m) &&& u 13 g) n (k_gr (cX u) th g w) := isM_c (isM_and hh (fun i hi => isM_bt hn (t2 g hg) hi) hn) (fun i => by unfold k_gr; cases rch (cX u) i w <;> cases th i <;> simp)
  have m2 : isM ((u 12 w &&& m) &&& u 15 g) n (k_fo (cX u) th g w) := isM_c (isM_and hh (fun i hi => isM_bt hn (t4 g hg) hi) hn) (fun i => by unfold k_fo; cases rch (cX u) i w <;> cases th i <;> simp)
  have m3 : isM ((u 12 w &&& m) &&& u 14 g) n (k_oo (cX u) th g w) := isM_c (isM_and hh (fun i hi => isM_bt hn (t3 g hg) hi) hn) (fun i => by unfold k_oo; cases rch (cX u) i w <;> cases th i <;> simp)
  have m4 : isM ((u 12 w &&& m) &&& u 16 g) n (k_pl (cX u) th g w) := isM_c (isM_and hh (fun i hi => isM_bt hn (t5 g hg) hi) hn) (fun i => by unfold k_pl; cases rch (cX u) i w <;> cases th i <;> simp)
  have e66 : fX0_deciding_L66 u (nI g) (u 12 w &&& m) = some (lstI (k_pl (cX u) th g w) n) := by
    unfold fX0_deciding_L66
    rw [ald_e hg (by decide)]
    dsimp only [bd]
    by_cases c : (u 12 w &&& m) &&& u 16 g = 0
    · rw [if_pos c, (lstI_none (by omega)).mpr ((fstI_none (by omega)).mp ((isM_0 hn m4).mp c))]; rfl
    · rw [if_neg c]; exact isM_lst hn m4 c
  unfold fX0_deciding
  rw [ald_e hw (by decide)]
  dsimp only [bd]
  rw [ald_e hg (by decide)]
  unfold dcd
  by_cases c1 : (u 12 w &&& m) &&& u 13 g = 0
  · rw [if_pos c1, if_pos ((isM_0 hn m1).mp c1), ald_e hg (by decide)]
    by_cases c2 : (u 12 w &&& m) &&& u 15 g = 0
    · rw [if_pos c2, if_pos ((isM_0 hn m2).mp c2)]; exact e66
    · rw [if_neg c2, if_neg (fun q => c2 ((isM_0 hn m2).mpr q)), ald_e hg (by decide)]
      have iff3 : (u 12 w &&& m) &&& u 14 g = 0 ↔ lstI (k_oo (cX u) th g w) n = M1 := by rw [isM_0 hn m3, fstI_none (by omega), lstI_none (by omega)]
      by_cases c3 : (u 12 w &&& m) &&& u 14 g = 0
      · rw [if_pos c3, if_pos (iff3.mp c3), isM_fst hn m2 c2]; rfl
      · rw [if_neg c3, if_neg (fun q => c3 (iff3.mpr q))]; exact e66
  · rw [if_neg c1, if_neg (fun q => c1 ((isM_0 hn m1).mpr q)), isM_fst hn m1 c1]; rfl
theorem leave_X {u : St} {n g w : Nat} {m : Int32} {th : Nat → Bool} (hn : n ≤ 20) (hT : tabX u n) (hm : ∀ b, b < n → bt m b = th b) (hg : g < 6) (hw : w < 240) : fX0_leave u (nI g) (nI w) m = some (cod (cX u) n th g w) := by
  unfold fX0_leave
  rw [deciding_X hn hT hm hg hw, o1_s]
  unfold cod codB
  rcases dcd_in (cX u) hn th g w with h | ⟨b, hb, h⟩
  · rw [h, if_pos (show M1 = (-1 : Int32) from rfl), if_pos rfl]
  · rw [h, nI_clamp (by omega)]
    simp (disch := omega) only [↓l_m1, ↓l_m2, ↓l_m3, ↓l_m4, ↓l_m5, l_0, l_1, l_2, l_3, l_4, l_5, l_6, l_7, l_8, l_9, l_10, l_11, l_12, l_13, l_14, l_15, l_16, l_17, l_18, l_19, l_20, l_21, l_22, l_23, l_24, l_25, l_26, l_27, l_28, l_29, l_30, l_31, l_32, l_40, l_48, l_56, l_57, l_59, l_63, l_64, l_96, l_97, l_99, l_122, l_159, l_160, l_239, l_240, l_255, l_256, l_1000, l_1440, l_65536, l_1000000, l_268435456, bd, o1_s, o2_s, oz_0, oz_1, o2z_0, o2z_1, rb_0, rb_1, ald_e, asr_e, tld_e, nI_add, pk_mul, pk_div, w_rem, nI_leI, nI_ltI, nI_eq, nI_nm1, m1_nI, if_true, if_false, ↓reduceIte, Bool.false_eq_true, cell_X]
    by_cases a1 : cX u b 1 = nI g
    · by_cases a2 : cX u b 0 = nI 1
      · simp [a1, a2]
      · have n31 : ¬ nI 3 = nI 1 := by rw [nI_eq (by omega) (by omega)]; omega
        by_cases a3 : cX u b 0 = nI 3 <;> simp [a1, a2, a3, n31]
    · simp [a1]
