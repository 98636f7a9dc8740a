/-! ===== what the class and the reference hold in common ===== -/
def wfB (c : Nat → Nat → Int32) (n : Nat) : Prop := ∀ b, b < n → (∃ s, s < 5 ∧ c b 0 = nI s) ∧ (∃ g, g < 6 ∧ c b 1 = nI g) ∧ (c b 0 = nI 3 → ∃ h, h < 6 ∧ c b 2 = nI h)
def BInv (σ τ : St) (n : Nat) : Prop := n ≤ 20 ∧ σ 3 1 = nI n ∧ τ 0 3 = nI n ∧ (∀ b, b < n → ∀ k, k < 7 → cX σ b k = cM τ b k) ∧ tabX σ n ∧ wfB (cM τ) n
def TInv (σ τ : St) (L : Nat) : Prop := L ≤ 160 ∧ σ 1 1 = nI L ∧ τ 0 1 = nI L ∧ ∀ i, i < L → σ 9 i = τ 1 i
def SInv (σ τ : St) : Prop := ∀ t, t < 6 → ∃ s, s ≤ 8 ∧ σ (23 + t) 1 = nI s ∧ τ 6 t = nI s ∧ ∀ i, i < s → (∃ w, w < 240 ∧ σ (29 + t) (2 * i) = nI w ∧ τ 4 (8 * t + i) = nI w) ∧ σ (29 + t) (2 * i + 1) = τ 5 (8 * t + i) ∧ (τ 5 (8 * t + i) = M1 ∨ ∃ w, w < 240 ∧ τ 5 (8 * t + i) = nI w)
def PInv (σ τ : St) : Prop := (∀ k, k < 36 → ∃ v, v ≤ 99 ∧ σ 17 k = nI v ∧ τ 7 k = nI v) ∧ (∀ g, g < 6 → ∃ v, 1 ≤ v ∧ v ≤ 9 ∧ σ 18 g = nI v ∧ τ 8 g = nI v) ∧ ∃ v, v ≤ 99 ∧ σ 4 2 = nI v ∧ τ 0 11 = nI v
def ZInv (σ τ : St) : Prop := ∃ s, s ≤ 16 ∧ σ 7 3 = nI s ∧ τ 0 15 = nI s ∧ ∀ i, i < s → (∃ g, g < 6 ∧ σ 20 i = nI g ∧ τ 11 i = nI g) ∧ (∃ w, w < 240 ∧ σ 21 i = nI w ∧ τ 10 i = nI w) ∧ (∃ m, m ≤ 20 ∧ σ 22 i = nI m ∧ τ 9 i = nI m)
def YInv (σ τ : St) : Prop := ∃ y, y ≤ 24 ∧ σ 0 8 = nI y ∧ τ 0 17 = nI y ∧ ∀ i, i < y → ∃ w, w < 240 ∧ σ 8 i = nI w ∧ τ 12 i = nI w
def Inv (σ τ : St) : Prop := (∃ n, BInv σ τ n) ∧ (∃ L, TInv σ τ L) ∧ SInv σ τ ∧ PInv σ τ ∧ ZInv σ τ ∧ YInv σ τ
/-- nothing has changed but what a call may leave as it likes -/
def scM (τ τ' : St) : Prop := (τ' 0 1 = τ 0 1 ∧ τ' 0 3 = τ 0 3 ∧ τ' 0 11 = τ 0 11 ∧ τ' 0 15 = τ 0 15 ∧ τ' 0 17 = τ 0 17) ∧ ∀ k, 1 ≤ k → k ≤ 12 → k ≠ 3 → τ' k = τ k
def scX (σ σ' : St) : Prop := ∀ k, k ≠ 2 → k ≠ 10 → k ≠ 19 → σ' k = σ k
theorem scM_rf (τ : St) : scM τ τ := ⟨⟨rfl, rfl, rfl, rfl, rfl⟩, fun _ _ _ _ => rfl⟩
theorem scX_rf (σ : St) : scX σ σ := fun _ _ _ _ => rfl
theorem scM_tr {a b c : St} (h : scM a b) (k : scM b c) : scM a c := by
  obtain ⟨⟨h1, h2, h3, h4, h5⟩, h6⟩ := h
  obtain ⟨⟨k1, k2, k3, k4, k5⟩, k6⟩ := k
  exact ⟨⟨k1.trans h1, k2.trans h2, k3.trans h3, k4.trans h4, k5.trans h5⟩, fun i a1 a2 a3 => (k6 i a1 a2 a3).trans (h6 i a1 a2 a3)⟩
theorem scX_tr {a b c : St} (h : scX a b) (k : scX b c) : scX a c := fun i a1 a2 a3 => (k i a1 a2 a3).trans (h i a1 a2 a3)
theorem cM_sc {τ τ' : St} (h : scM τ τ') : cM τ' = cM τ := by unfold cM; rw [h.2 2 (by decide) (by decide) (by decide)]
theorem cX_sc {σ σ' : St} (h : scX σ σ') : cX σ' = cX σ := by unfold cX; rw [h 11 (by decide) (by decide) (by decide)]
theorem tab_sc {σ σ' : St} {n : Nat} (h : scX σ σ') (k : tabX σ n) : tabX σ' n := by
  unfold tabX
  rw [cX_sc h, h 12 (by decide) (by decide) (by decide), h 13 (by decide) (by decide) (by decide), h 14 (by decide) (by decide) (by decide), h 15 (by decide) (by decide) (by decide), h 16 (by decide) (by decide) (by decide)]
  exact k
theorem B_sc {σ σ' τ τ' : St} {n : Nat} (h : BInv σ τ n) (hx : scX σ σ') (hm : scM τ τ') : BInv σ' τ' n := by
  obtain ⟨h1, h2, h3, h4, h5, h6⟩ := h
  refine ⟨h1, by rw [hx 3 (by decide) (by decide) (by decide)]; exact h2, by rw [hm.1.2.1]; exact h3, ?_, tab_sc hx h5, ?_⟩
  · rw [cX_sc hx, cM_sc hm]; exact h4
  · rw [cM_sc hm]; exact h6
theorem Inv_sc {σ σ' τ τ' : St} (h : Inv σ τ) (hx : scX σ σ') (hm : scM τ τ') : Inv σ' τ' := by
  obtain ⟨⟨n, hB⟩, ⟨L, hT⟩, hS, hP, hZ, hY⟩ := h
  obtain ⟨⟨m1, m2, m3, m4, m5⟩, mk⟩ := id hm
  refine ⟨⟨n, B_sc hB hx hm⟩, ⟨L, ?_⟩, ?_, ?_, ?_, ?_⟩
  · unfold TInv at hT ⊢
    rw [hx 1 (by decide) (by decide) (by decide), hx 9 (by decide) (by decide) (by decide), m1, mk 1 (by decide) (by decide) (by decide)]; exact hT
  · intro t ht
    rw [hx (23 + t) (by omega) (by omega) (by omega), hx (29 + t) (by omega) (by omega) (by omega), mk 6 (by decide) (by decide) (by decide), mk 4 (by decide) (by decide) (by decide), mk 5 (by decide) (by decide) (by decide)]
    exact hS t ht
  · unfold PInv at hP ⊢
    rw [hx 17 (by decide) (by decide) (by decide), hx 18 (by decide) (by decide) (by decide), hx 4 (by decide) (by decide) (by decide), m3, mk 7 (by decide) (by decide) (by decide), mk 8 (by decide) (by decide) (by decide)]; exact hP
  · unfold ZInv at hZ ⊢
    rw [hx 7 (by decide) (by decide) (by decide), hx 20 (by decide) (by decide) (by decide), hx 21 (by decide) (by decide) (by decide), hx 22 (by decide) (by decide) (by decide), m4, mk 9 (by decide) (by decide) (by decide), mk 10 (by decide) (by decide) (by decide), mk 11 (by decide) (by decide) (by decide)]; exact hZ
  · unfold YInv at hY ⊢
    rw [hx 0 (by decide) (by decide) (by decide), hx 8 (by decide) (by decide) (by decide), m5, mk 12 (by decide) (by decide) (by decide)]; exact hY
theorem wr_ne {u : St} {q j p : Nat} {v : Int32} (h : p ≠ q) : st_wr u q j v p = u p := by unfold st_wr st_up; rw [if_neg h]
theorem wr_at (u : St) (q j : Nat) (v : Int32) : st_wr u q j v q = upd (u q) j v := by unfold st_wr st_up; rw [if_pos rfl]
theorem wr_js (u : St) (q j : Nat) (v : Int32) : st_wr u q j v q j = v := by rw [wr_at]; exact pk_us
theorem wr_jn {u : St} {q j i : Nat} {v : Int32} (h : i ≠ j) : st_wr u q j v q i = u q i := by rw [wr_at]; exact pk_un h
theorem up_at (u : St) (q : Nat) (f : Nat → Int32) : st_up u q f q = f := by unfold st_up; rw [if_pos rfl]
theorem up_ne {u : St} {q p : Nat} {f : Nat → Int32} (h : p ≠ q) : st_up u q f p = u p := by unfold st_up; rw [if_neg h]
/-- a write into what a call may leave as it likes -/
theorem scM_0 {u : St} {j : Nat} {v : Int32} (h1 : j ≠ 1) (h3 : j ≠ 3) (h11 : j ≠ 11) (h15 : j ≠ 15) (h17 : j ≠ 17) : scM u (st_wr u 0 j v) :=
  ⟨⟨wr_jn (Ne.symm h1), wr_jn (Ne.symm h3), wr_jn (Ne.symm h11), wr_jn (Ne.symm h15), wr_jn (Ne.symm h17)⟩, fun k h _ _ => wr_ne (by omega)⟩
theorem scM_q {u : St} {q j : Nat} {v : Int32} (hq : q = 3 ∨ 13 ≤ q) : scM u (st_wr u q j v) :=
  ⟨⟨by rw [wr_ne (by omega)], by rw [wr_ne (by omega)], by rw [wr_ne (by omega)], by rw [wr_ne (by omega)], by rw [wr_ne (by omega)]⟩, fun k h1 h2 h3 => wr_ne (by omega)⟩
theorem scX_q {u : St} {q j : Nat} {v : Int32} (hq : q = 2 ∨ q = 10 ∨ q = 19) : scX u (st_wr u q j v) := fun k h1 h2 h3 => wr_ne (by omega)
theorem scX_u {u : St} {q : Nat} {f : Nat → Int32} (hq : q = 2 ∨ q = 10 ∨ q = 19) : scX u (st_up u q f) := fun k h1 h2 h3 => up_ne (by omega)
/-! ===== ranges ===== -/
def off (x : Int32) (a b : Int32) : Bool := decide (x < a ∨ b < x)
theorem lgc_lt (x y : Int32) : lg_cmp x.toInt64 y.toInt64 < 0 ↔ x < y := by
  have h1 : ∀ z : Int32, z.toInt64.toInt = z.toInt := fun z => Int32.toInt_toInt64 z
  unfold lg_cmp
  by_cases a : x.toInt64 > y.toInt64
  · rw [if_pos a]
    have := Int64.lt_iff_toInt_lt.mp a
    rw [h1, h1] at this
    refine ⟨fun q => absurd q (by decide), fun q => ?_⟩
    have := Int32.lt_iff_toInt_lt.mp q
    omega
  · rw [if_neg a]
    have h2 : ¬ y.toInt < x.toInt := fun q => a (Int64.lt_iff_toInt_lt.mpr (by rw [h1, h1]; exact q))
    by_cases b : x.toInt64 = y.toInt64
    · rw [if_pos b]
      have h3 : x.toInt = y.toInt := by rw [← h1, ← h1, b]
      refine ⟨fun q => absurd q (by decide), fun q => ?_⟩
      have := Int32.lt_iff_toInt_lt.mp q
      omega
    · rw [if_neg b]
      have h3 : x.toInt ≠ y.toInt := fun q => b (Int64.toInt_inj.mp (by rw [h1, h1]; exact q))
      exact ⟨fun _ => Int32.lt_iff_toInt_lt.mpr (by omega), fun _ => by decide⟩
theorem lgc_gt (x y : Int32) : 0 < lg_cmp x.toInt64 y.toInt64 ↔ y < x := by
  have h1 : ∀ z : Int32, z.toInt64.toInt = z.toInt := fun z => Int32.toInt_toInt64 z
  unfold lg_cmp
  by_cases a : x.toInt64 > y.toInt64
  · rw [if_pos a]
    have := Int64.lt_iff_toInt_lt.mp a
    rw [h1, h1] at this
    exact ⟨fun _ => Int32.lt_iff_toInt_lt.mpr this, fun _ => by decide⟩
  · rw [if_neg a]
    have h2 : ¬ y.toInt < x.toInt := fun q => a (Int64.lt_iff_toInt_lt.mpr (by rw [h1, h1]; exact q))
    have h3 : ¬ y < x := fun q => h2 (Int32.lt_iff_toInt_lt.mp q)
    by_cases b : x.toInt64 = y.toInt64
    · rw [if_pos b]; exact ⟨fun q => absurd q (by decide), fun q => absurd q h3⟩
    · rw [if_neg b]; exact ⟨fun q => absurd q (by decide), fun q => absurd q h3⟩
theorem in_e (x a b : Int32) : fX8_in x.toInt64 a.toInt64 b.toInt64 = some (bz (!off x a b)) := by
  unfold fX8_in off bz
  by_cases h1 : x < a
  · rw [if_pos ((lgc_lt x a).mpr h1)]; simp [h1]
  · rw [if_neg (fun q => h1 ((lgc_lt x a).mp q))]
    by_cases h2 : b < x
    · rw [if_pos ((lgc_gt x b).mpr h2)]; simp [h2]
    · rw [if_neg (fun q => h2 ((lgc_gt x b).mp q))]; simp [h1, h2]
theorem off_e (x a b : Int32) : fX7_isOff x a b = some (bz (off x a b)) := isOff_e x a b
theorem rb_b (b : Bool) : rb (bz b) (fun y => some y) = some (bz b) := by cases b <;> rfl
theorem ozb_b (b : Bool) : oz (some (bz b)) (fun x1 => rb x1 (fun y => some y)) = some (bz b) := by cases b <;> rfl
theorem noG_e (x : Int32) : fX7_isNoGuild x = some (bz (off x 0 5)) := by unfold fX7_isNoGuild; rw [off_e, ozb_b]
theorem noW_e (x : Int32) : fX7_isNoWork x = some (bz (off x 0 239)) := by unfold fX7_isNoWork; rw [off_e, ozb_b]
theorem noT_e (x : Int32) : fX7_isNoThing x = some (bz (off x 0 5)) := by unfold fX7_isNoThing; rw [off_e, ozb_b]
theorem noS_e (x : Int32) : fX7_isNoSet x = some (bz (off x 0 63)) := by unfold fX7_isNoSet; rw [off_e, ozb_b]
theorem noB_e (u : St) (x : Int32) : fX7_isNoBound u x = some (bz (off x 0 (u 3 1 - 1))) := by unfold fX7_isNoBound; rw [off_e, ozb_b]
theorem isG_e (x : Int32) : fX8_isGuild x = some (bz (!off x 0 5)) := by unfold fX8_isGuild; rw [show (0 : Int64) = (0 : Int32).toInt64 by decide, show (5 : Int64) = (5 : Int32).toInt64 by decide, in_e, ozb_b]
theorem isT_e (x : Int32) : fX8_isThing x = some (bz (!off x 0 5)) := by unfold fX8_isThing; rw [show (0 : Int64) = (0 : Int32).toInt64 by decide, show (5 : Int64) = (5 : Int32).toInt64 by decide, in_e, ozb_b]
theorem isW_e (x : Int32) : fX8_isWork x = some (bz (!off x 0 239)) := by unfold fX8_isWork; rw [show (0 : Int64) = (0 : Int32).toInt64 by decide, show (239 : Int64) = (239 : Int32).toInt64 by decide, in_e, ozb_b]
theorem isS_e (x : Int32) : fX8_isGuilds x = some (bz (!off x 0 63)) := by unfold fX8_isGuilds; rw [show (0 : Int64) = (0 : Int32).toInt64 by decide, show (63 : Int64) = (63 : Int32).toInt64 by decide, in_e, ozb_b]
theorem isB_e (u : St) (x : Int32) : fX8_isBound u x = some (bz (!off x 0 (u 0 3 - 1))) := by unfold fX8_isBound; rw [show (0 : Int64) = (0 : Int32).toInt64 by decide, in_e, ozb_b]
theorem j_0 : (0 : Int64) = (0 : Int32).toInt64 := by decide
theorem j_1 : (1 : Int64) = (1 : Int32).toInt64 := by decide
theorem j_2 : (2 : Int64) = (2 : Int32).toInt64 := by decide
theorem j_5 : (5 : Int64) = (5 : Int32).toInt64 := by decide
theorem j_6 : (6 : Int64) = (6 : Int32).toInt64 := by decide
theorem j_8 : (8 : Int64) = (8 : Int32).toInt64 := by decide
theorem j_9 : (9 : Int64) = (9 : Int32).toInt64 := by decide
theorem j_99 : (99 : Int64) = (99 : Int32).toInt64 := by decide
theorem j_m1 : (-1 : Int64) = (-1 : Int32).toInt64 := by decide
/-- in range: it is a small number -/
theorem off_f {x : Int32} {a b : Nat} (hb : b < 2 ^ 31) (h : off x (nI a) (nI b) = false) (ha : a < 2 ^ 31) : ∃ j, a ≤ j ∧ j ≤ b ∧ x = nI j := by
  have h1 : ¬ (x < nI a ∨ nI b < x) := of_decide_eq_false h
  have h2 : ¬ x < 0 := fun q => h1 (Or.inl (by
    have e1 := Int32.lt_iff_toInt_lt.mp q
    refine Int32.lt_iff_toInt_lt.mpr ?_
    rw [nI_toInt ha]
    have : (0 : Int32).toInt = 0 := by decide
    omega))
  obtain ⟨j, hj, rfl⟩ := nI_of h2
  refine ⟨j, ?_, ?_, rfl⟩
  · exact Nat.not_lt.mp (fun q => h1 (Or.inl (nI_lt q ha)))
  · exact Nat.not_lt.mp (fun q => h1 (Or.inr (nI_lt q hj)))
theorem off_0 {x : Int32} {b : Nat} (hb : b < 2 ^ 31) (h : off x 0 (nI b) = false) : ∃ j, j ≤ b ∧ x = nI j := by
  obtain ⟨j, -, h1, h2⟩ := off_f (a := 0) hb h (by decide)
  exact ⟨j, h1, h2⟩
/-- a bound's number -/
theorem off_n {x : Int32} {n : Nat} (hn : n ≤ 1000) (h : off x 0 (nI n - 1) = false) : ∃ j, j < n ∧ x = nI j := by
  have h1 : ¬ (x < 0 ∨ nI n - 1 < x) := of_decide_eq_false h
  have h2 : ¬ x < 0 := fun q => h1 (Or.inl q)
  obtain ⟨j, hj, rfl⟩ := nI_of h2
  cases n with
  | zero =>
    exfalso
    refine h1 (Or.inr (Int32.lt_iff_toInt_lt.mpr ?_))
    rw [nI_toInt hj]
    have : (nI 0 - 1 : Int32).toInt = -1 := by decide
    omega
  | succ n =>
    rw [nI_pred] at h1
    exact ⟨j, by
      have := Nat.not_lt.mp (fun q : n < j => h1 (Or.inr (nI_lt q hj)))
      omega, rfl⟩
