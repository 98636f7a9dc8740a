/-! ===== yearly, right, write, step ===== -/
theorem code_g {σ τ v : St} {n g w : Nat} {th : Nat → Bool} (hB : BInv σ τ n) (hs : scM τ v) (ht : ∀ b, b < n → thM v b = th b) (hg : g < 6) (hw : w < 240) : fX8_code v (nI g) (nI w) = some (cod (cM τ) n th g w) := by
  obtain ⟨hn, h1, h2, h3, h4, h5⟩ := hB
  rw [code_M hn (hs.1.2.1.trans h2) hg hw, cM_sc hs]
  rw [cod_cg g w hn (fun _ _ _ _ => rfl) ht]
theorem leave_g {σ τ : St} {n g w : Nat} {m : Int32} {th : Nat → Bool} (hB : BInv σ τ n) (ht : ∀ b, b < n → bt m b = th b) (hg : g < 6) (hw : w < 240) : fX0_leave σ (nI g) (nI w) m = some (cod (cM τ) n th g w) := by
  obtain ⟨hn, h1, h2, h3, h4, h5⟩ := hB
  rw [leave_X hn h4 ht hg hw, cod_cg g w hn h3 (fun _ _ => rfl)]
def cnt (P : Nat → Bool) : Nat → Nat
  | 0 => 0
  | i + 1 => if P i then cnt P i + 1 else cnt P i
theorem cnt_le (P : Nat → Bool) : ∀ i, cnt P i ≤ i
  | 0 => Nat.le_refl 0
  | i + 1 => by
    have := cnt_le P i
    rw [cnt]
    by_cases h : P i = true
    · rw [if_pos h]; omega
    · rw [if_neg h]; omega
def yP (τ : St) (n g : Nat) : Nat → Bool := fun i => mayB (cM τ) n th1 g (τ 12 i).toNatClampNeg
theorem year_X {σ τ : St} {n y g : Nat} (hB : BInv σ τ n) (hg : g < 6) (hy : y ≤ 24) (y2 : σ 0 8 = nI y) (y4 : ∀ i, i < y → ∃ w, w < 240 ∧ σ 8 i = nI w ∧ τ 12 i = nI w) : ∀ (m f i : Nat), i + m = y → m < f → fX7_yearly_L14 σ f (nI g) (nI (cnt (yP τ n g) i)) (nI i) = some (nI (cnt (yP τ n g) y)) := by
  intro m
  induction m with
  | zero =>
    intro f i hi hf
    obtain ⟨f, rfl⟩ : ∃ f', f = f' + 1 := ⟨f - 1, by omega⟩
    have : i = y := by omega
    subst this
    rw [fX7_yearly_L14]
    dsimp only
    rw [y2, if_pos (nI_le (Nat.le_refl _) (by omega))]
  | succ m ih =>
    intro f i hi hf
    obtain ⟨f, rfl⟩ : ∃ f', f = f' + 1 := ⟨f - 1, by omega⟩
    obtain ⟨w, w1, w2, w3⟩ := y4 i (by omega)
    rw [fX7_yearly_L14]
    dsimp only
    rw [y2, if_neg (nI_ge (by omega) (by omega)), ald_e (by omega) (by decide), w2, leave_all hB hg w1, o1_s]
    have := ih f (i + 1) (by omega) (by omega)
    have e : yP τ n g i = !decide (cod (cM τ) n th1 g w = 0) := by unfold yP mayB; rw [w3, nI_clamp (by omega)]
    rw [cnt, e] at this
    simp only [fX7_yearly_L43, bd, nI_1]
    by_cases c : cod (cM τ) n th1 g w = 0
    · rw [if_pos c]; simp only [c, decide_true, Bool.not_false, Bool.not_true, if_true, if_false, Bool.false_eq_true, ↓reduceIte] at this; exact this
    · rw [if_neg c]; simp only [c, decide_false, Bool.not_false, Bool.not_true, if_true, if_false, Bool.false_eq_true, ↓reduceIte] at this; exact this
theorem year_M {σ τ v : St} {n y g : Nat} (hB : BInv σ τ n) (hs : scM τ v) (h21 : v 0 21 = 0) (h22 : v 0 22 = τ 0 3) (hg : g < 6) (hy : y ≤ 24) (y2 : τ 0 17 = nI y) (y4 : ∀ i, i < y → ∃ w, w < 240 ∧ σ 8 i = nI w ∧ τ 12 i = nI w) : ∀ (m f i : Nat), i + m = y → m < f → fX8_yearly_L18 f v (nI g) (nI (cnt (yP τ n g) i)) (nI i) = some (nI (cnt (yP τ n g) y), v) := by
  have v17 : v 0 17 = nI y := hs.1.2.2.2.2.trans y2
  have v12 : v 12 = τ 12 := hs.2 12 (by decide) (by decide) (by decide)
  intro m
  induction m with
  | zero =>
    intro f i hi hf
    obtain ⟨f, rfl⟩ : ∃ f', f = f' + 1 := ⟨f - 1, by omega⟩
    have : i = y := by omega
    subst this
    rw [fX8_yearly_L18]
    dsimp only
    rw [v17, if_pos (nI_le (Nat.le_refl _) (by omega))]
  | succ m ih =>
    intro f i hi hf
    obtain ⟨f, rfl⟩ : ∃ f', f = f' + 1 := ⟨f - 1, by omega⟩
    obtain ⟨w, w1, w2, w3⟩ := y4 i (by omega)
    rw [fX8_yearly_L18]
    dsimp only
    rw [v17, if_neg (nI_ge (by omega) (by omega)), ald_e (by omega) (by decide), v12, w3, code_all hB hs h21 h22 hg w1, o1_s]
    have := ih f (i + 1) (by omega) (by omega)
    have e : yP τ n g i = !decide (cod (cM τ) n th1 g w = 0) := by unfold yP mayB; rw [w3, nI_clamp (by omega)]
    rw [cnt, e] at this
    simp only [fX8_yearly_L46, bd, nI_1, l_0, l_1, nI_add, Nat.add_zero]
    by_cases c : cod (cM τ) n th1 g w = 0
    · rw [if_pos (show cod (cM τ) n th1 g w ≤ nI 0 from (cod_pos hB.1 hB.2.2.2.2.2 th1 g w).mpr c)]; simp only [c, decide_true, Bool.not_false, Bool.not_true, if_true, if_false, Bool.false_eq_true, ↓reduceIte] at this; exact this
    · rw [if_neg (show ¬ cod (cM τ) n th1 g w ≤ nI 0 from fun q => c ((cod_pos hB.1 hB.2.2.2.2.2 th1 g w).mp q))]; simp only [c, decide_false, Bool.not_false, Bool.not_true, if_true, if_false, Bool.false_eq_true, ↓reduceIte] at this; exact this
theorem op_yearly {σ τ : St} (h : Inv σ τ) (g : Int32) : ∃ r τ', fX7_yearly σ g = some r ∧ fX8_yearly τ g = some (r, τ') ∧ Inv σ τ' := by
  obtain ⟨⟨n, hB⟩, -, -, -, -, y, y1, y2, y3, y4⟩ := id h
  unfold fX7_yearly fX8_yearly
  rw [noG_e, isG_e]
  simp only [gt_c]
  cases hg : off g 0 5
  · obtain ⟨g, hg', rfl⟩ := off_0 (b := 5) (by decide) hg
    obtain ⟨v, e1, e2, e3, e4, -⟩ := allThere_e τ
    simp only [Bool.not_false, Bool.not_true, if_true, if_false, Bool.false_eq_true, ↓reduceIte]
    rw [e1]
    simp only [o1_s]
    exact ⟨_, v, year_X hB (by omega) y1 y2 y4 y 2000 0 (by omega) (by omega), year_M hB e2 e3 e4 (by omega) y1 y3 y4 y 2000 0 (by omega) (by omega), Inv_sc h (scX_rf _) e2⟩
  · exact ⟨_, _, rfl, rfl, h⟩
theorem mask_e : ∀ m, m < 21 → ∀ b, b < 32 → bt (((1 : Int32) <<< (nI m &&& 31)) - 1) b = decide (b < m) := by decide +kernel
/-- seizure i was right -/
def rgt (τ : St) (n : Nat) : Nat → Bool := fun i => decide (cod (cM τ) n (fun b => decide (b < (τ 9 i).toNatClampNeg)) (τ 11 i).toNatClampNeg (τ 10 i).toNatClampNeg = 0)
theorem right_X {σ τ : St} {n s i : Nat} (hB : BInv σ τ n) (hs : s ≤ 16) (z4 : ∀ i, i < s → (∃ g, g < 6 ∧ σ 20 i = nI g ∧ τ 11 i = nI g) ∧ (∃ w, w < 240 ∧ σ 21 i = nI w ∧ τ 10 i = nI w) ∧ (∃ m, m ≤ 20 ∧ σ 22 i = nI m ∧ τ 9 i = nI m)) (hi : i < s) : fX3_isRight σ (nI i) = some (bz (rgt τ n i)) := by
  obtain ⟨⟨g, g1, g2, g3⟩, ⟨w, w1, w2, w3⟩, ⟨m, m1, m2, m3⟩⟩ := z4 i hi
  unfold fX3_isRight rgt
  rw [ald_e (by omega) (by decide), ald_e (by omega) (by decide), ald_e (by omega) (by decide), g2, g3, w2, w3, m2, m3, nI_clamp (by omega), nI_clamp (by omega), nI_clamp (by omega)]
  rw [leave_g hB (th := fun b => decide (b < m)) (fun b hb => mask_e m (by omega) b (by have := hB.1; omega)) g1 w1, o1_s]
  unfold bz
  by_cases c : cod (cM τ) n (fun b => decide (b < m)) g w = 0 <;> simp [c]
theorem right_M {σ τ v : St} {n s i : Nat} (hB : BInv σ τ n) (hv : scM τ v) (hs : s ≤ 16) (z4 : ∀ i, i < s → (∃ g, g < 6 ∧ σ 20 i = nI g ∧ τ 11 i = nI g) ∧ (∃ w, w < 240 ∧ σ 21 i = nI w ∧ τ 10 i = nI w) ∧ (∃ m, m ≤ 20 ∧ σ 22 i = nI m ∧ τ 9 i = nI m)) (hi : i < s) : ∃ v', fX8_isRight v (nI i) = some (bz (rgt τ n i), v') ∧ scM τ v' := by
  obtain ⟨⟨g, g1, g2, g3⟩, ⟨w, w1, w2, w3⟩, ⟨m, m1, m2, m3⟩⟩ := z4 i hi
  have v9 : v 9 = τ 9 := hv.2 9 (by decide) (by decide) (by decide)
  have v10 : v 10 = τ 10 := hv.2 10 (by decide) (by decide) (by decide)
  have v11 : v 11 = τ 11 := hv.2 11 (by decide) (by decide) (by decide)
  have hs2 : scM τ (st_wr (st_wr v 0 21 0) 0 22 (nI m)) := scM_tr hv (scM_tr (scM_0 (by decide) (by decide) (by decide) (by decide) (by decide)) (scM_0 (by decide) (by decide) (by decide) (by decide) (by decide)))
  refine ⟨st_wr (st_wr v 0 21 0) 0 22 (nI m), ?_, hs2⟩
  unfold fX8_isRight rgt
  dsimp only [bd]
  rw [ald_e (by omega) (by decide), wr_ne (by decide), v9, m3, ald_e (by omega) (by decide), wr_ne (by decide), wr_ne (by decide), v11, g3, ald_e (by omega) (by decide), wr_ne (by decide), wr_ne (by decide), v10, w3]
  rw [nI_clamp (by omega), nI_clamp (by omega), nI_clamp (by omega)]
  rw [code_g hB hs2 (th := fun b => decide (b < m)) (th_all hB.1 m1 (wr_js _ _ _ _) (by rw [wr_jn (by decide), wr_js])) g1 w1, o1_s]
  unfold bz
  by_cases c : cod (cM τ) n (fun b => decide (b < m)) g w = 0 <;> simp [c]
theorem fw_X {σ τ : St} {n s : Nat} (hB : BInv σ τ n) (hs : s ≤ 16) (z2 : σ 7 3 = nI s) (z4 : ∀ i, i < s → (∃ g, g < 6 ∧ σ 20 i = nI g ∧ τ 11 i = nI g) ∧ (∃ w, w < 240 ∧ σ 21 i = nI w ∧ τ 10 i = nI w) ∧ (∃ m, m ≤ 20 ∧ σ 22 i = nI m ∧ τ 9 i = nI m)) : ∀ (m f i : Nat), i + m = s → m < f → fstI (fun i => !rgt τ n i) i = M1 → fX3_firstWrong_L2 σ f (nI i) = some (fstI (fun i => !rgt τ n i) s) := by
  intro m
  induction m with
  | zero =>
    intro f i hi hf h0
    obtain ⟨f, rfl⟩ : ∃ f', f = f' + 1 := ⟨f - 1, by omega⟩
    have : i = s := by omega
    subst this
    rw [fX3_firstWrong_L2]
    dsimp only
    rw [z2, if_pos (nI_le (Nat.le_refl _) (by omega)), h0]; rfl
  | succ m ih =>
    intro f i hi hf h0
    obtain ⟨f, rfl⟩ : ∃ f', f = f' + 1 := ⟨f - 1, by omega⟩
    rw [fX3_firstWrong_L2]
    dsimp only
    rw [z2, if_neg (nI_ge (by omega) (by omega)), right_X hB hs z4 (by omega), gt_c]
    have h1 : fstI (fun i => !rgt τ n i) (i + 1) = if (!rgt τ n i) = true then nI i else M1 := by rw [fstI, if_pos h0]
    cases c : rgt τ n i
    · rw [c, Bool.not_false, if_pos rfl] at h1
      have h2 := fstI_le (P := fun i => !rgt τ n i) (n := i + 1) (by rw [h1]; exact fun q => (nI_nm1 (show i < 2 ^ 31 by omega)).mp q) m
      rw [show i + 1 + m = s by omega, h1] at h2
      rw [h2]; rfl
    · rw [c] at h1
      simp only [bd, nI_1, Bool.not_false, Bool.not_true, if_true, if_false, Bool.false_eq_true, ↓reduceIte]
      exact ih f (i + 1) (by omega) (by omega) h1
theorem fw_M {σ τ : St} {n s : Nat} (hB : BInv σ τ n) (hs : s ≤ 16) (z3 : τ 0 15 = nI s) (z4 : ∀ i, i < s → (∃ g, g < 6 ∧ σ 20 i = nI g ∧ τ 11 i = nI g) ∧ (∃ w, w < 240 ∧ σ 21 i = nI w ∧ τ 10 i = nI w) ∧ (∃ m, m ≤ 20 ∧ σ 22 i = nI m ∧ τ 9 i = nI m)) : ∀ (m f i : Nat) (v : St), scM τ v → i + m = s → m < f → fstI (fun i => !rgt τ n i) i = M1 → ∃ v', fX8_right_L41 f v (nI i) = some (fstI (fun i => !rgt τ n i) s, v') ∧ scM τ v' := by
  intro m
  induction m with
  | zero =>
    intro f i v hv hi hf h0
    obtain ⟨f, rfl⟩ : ∃ f', f = f' + 1 := ⟨f - 1, by omega⟩
    have : i = s := by omega
    subst this
    rw [fX8_right_L41]
    dsimp only
    rw [hv.1.2.2.2.1, z3, if_pos (nI_le (Nat.le_refl _) (by omega)), h0]
    exact ⟨v, rfl, hv⟩
  | succ m ih =>
    intro f i v hv hi hf h0
    obtain ⟨f, rfl⟩ : ∃ f', f = f' + 1 := ⟨f - 1, by omega⟩
    rw [fX8_right_L41]
    dsimp only
    obtain ⟨v', e1, e2⟩ := right_M hB hv hs z4 (show i < s by omega)
    rw [hv.1.2.2.2.1, z3, if_neg (nI_ge (by omega) (by omega)), e1]
    have h1 : fstI (fun i => !rgt τ n i) (i + 1) = if (!rgt τ n i) = true then nI i else M1 := by rw [fstI, if_pos h0]
    cases c : rgt τ n i
    · rw [c, Bool.not_false, if_pos rfl] at h1
      have h2 := fstI_le (P := fun i => !rgt τ n i) (n := i + 1) (by rw [h1]; exact fun q => (nI_nm1 (show i < 2 ^ 31 by omega)).mp q) m
      rw [show i + 1 + m = s by omega, h1] at h2
      rw [h2]
      exact ⟨v', rfl, e2⟩
    · rw [c] at h1
      show ∃ v'', fX8_right_L41 f v' (nI i + 1) = _ ∧ _
      rw [nI_1]
      exact ih f (i + 1) v' e2 (by omega) (by omega) h1
theorem op_right {σ τ : St} (h : Inv σ τ) (x : Int32) : ∃ r τ', fX7_right σ x = some r ∧ fX8_right τ x = some (r, τ') ∧ Inv σ τ' := by
  obtain ⟨⟨n, hB⟩, -, -, -, ⟨s, z1, z2, z3, z4⟩, -⟩ := id h
  unfold fX7_right fX8_right
  rw [off_e, j_m1, in_e, z2, z3]
  simp only [gt_c]
  cases hx : off x (-1) (nI s - 1)
  · simp only [Bool.not_false, Bool.not_true, if_true, if_false, Bool.false_eq_true, ↓reduceIte]
    by_cases hm : x = -1
    · subst hm
      rw [if_pos rfl, if_pos (by decide)]
      obtain ⟨v', e1, e2⟩ := fw_M hB z1 z3 z4 s 2000 0 τ (scM_rf τ) (by omega) (by omega) rfl
      rw [show (0 : Int32) = nI 0 from rfl, e1]
      unfold fX3_firstWrong
      rw [show (0 : Int32) = nI 0 from rfl, fw_X hB z1 z2 z4 s 2000 0 (by omega) (by omega) rfl]
      exact ⟨_, _, rfl, rfl, Inv_sc h (scX_rf _) e2⟩
    · have h1 : ¬ (x < -1 ∨ nI s - 1 < x) := of_decide_eq_false hx
      have h2 : ¬ x < 0 := fun q => by
        have e1 := Int32.lt_iff_toInt_lt.mp q
        have e2 : ¬ x.toInt < -1 := fun z => h1 (Or.inl (Int32.lt_iff_toInt_lt.mpr (by rw [show (-1 : Int32).toInt = -1 by decide]; exact z)))
        have e3 : x.toInt ≠ -1 := fun z => hm (Int32.toInt_inj.mp (by rw [z]; decide))
        have : (0 : Int32).toInt = 0 := by decide
        omega
      obtain ⟨i, hi, rfl⟩ := off_n (x := x) (n := s) (by omega) (decide_eq_false (fun q => q.elim h2 (fun q => h1 (Or.inr q))))
      rw [if_neg hm, if_neg h2, right_X hB z1 z4 hi]
      obtain ⟨v', e1, e2⟩ := right_M hB (scM_rf τ) z1 z4 hi
      rw [e1]
      cases rgt τ n i
      · exact ⟨_, _, rfl, rfl, Inv_sc h (scX_rf _) e2⟩
      · exact ⟨_, _, rfl, rfl, Inv_sc h (scX_rf _) e2⟩
  · exact ⟨_, _, rfl, rfl, h⟩
/-- byte k of what is written -/
def wbyte (x : Int64) (k : Nat) : Int32 := ((x >>> (((8 : Int32) * nI k).toInt64 &&& 63)) &&& (255 : Int64)).toInt32
theorem write_X {σ : St} {L k : Nat} (x : Int64) (hk : L + k ≤ 160) : ∀ (m f i : Nat) (u : St), i + m = k → m < f → u 1 1 = nI L → (∀ q, q ≠ 9 → u q = σ q) → (∀ j, j < L → u 9 j = σ 9 j) → (∀ j, j < i → u 9 (L + j) = wbyte x j) → ∃ u', fX7_write_L34 f u x (nI k) (nI i) = some (nI (L + k), u') ∧ (∀ q, q ≠ 9 → q ≠ 1 → u' q = σ q) ∧ u' 1 1 = nI (L + k) ∧ (∀ j, j < L → u' 9 j = σ 9 j) ∧ ∀ j, j < k → u' 9 (L + j) = wbyte x j := by
  intro m
  induction m with
  | zero =>
    intro f i u hi hf h1 h2 h3 h4
    obtain ⟨f, rfl⟩ : ∃ f', f = f' + 1 := ⟨f - 1, by omega⟩
    have : i = k := by omega
    subst this
    rw [fX7_write_L34]
    dsimp only
    rw [if_pos (nI_le (Nat.le_refl _) (by omega))]
    unfold fX7_write_L76
    dsimp only [bd]
    rw [h1, nI_add]
    refine ⟨_, by rw [wr_js], fun q q1 q2 => ?_, wr_js _ _ _ _, fun j hj => ?_, fun j hj => ?_⟩
    · rw [wr_ne q2]; exact h2 q q1
    · rw [wr_ne (by decide)]; exact h3 j hj
    · rw [wr_ne (by decide)]; exact h4 j hj
  | succ m ih =>
    intro f i u hi hf h1 h2 h3 h4
    obtain ⟨f, rfl⟩ : ∃ f', f = f' + 1 := ⟨f - 1, by omega⟩
    rw [fX7_write_L34]
    dsimp only
    rw [if_neg (nI_ge (by omega) (by omega)), h1, nI_add, asr_e (by omega) (by decide)]
    dsimp only [bd]
    rw [nI_1]
    refine ih f (i + 1) _ (by omega) (by omega) (by rw [wr_ne (by decide)]; exact h1) (fun q hq => by rw [wr_ne hq]; exact h2 q hq) (fun j hj => by rw [wr_jn (by omega)]; exact h3 j hj) (fun j hj => ?_)
    by_cases e : j = i
    · subst e; rw [wr_js]; rfl
    · rw [wr_jn (by omega)]; exact h4 j (by omega)
theorem write_M {τ : St} {L k : Nat} (x : Int64) (hk : L + k ≤ 160) : ∀ (m f i : Nat) (u : St), i + m = k → m < f → u 0 1 = nI (L + i) → (∀ q, q ≠ 1 → q ≠ 0 → u q = τ q) → (∀ j, j ≠ 1 → u 0 j = τ 0 j) → (∀ j, j < L → u 1 j = τ 1 j) → (∀ j, j < i → u 1 (L + j) = wbyte x j) → ∃ u', fX8_write_L33 f u x (nI k) (nI i) = some (nI (L + k), u') ∧ (∀ q, q ≠ 1 → q ≠ 0 → u' q = τ q) ∧ (∀ j, j ≠ 1 → u' 0 j = τ 0 j) ∧ u' 0 1 = nI (L + k) ∧ (∀ j, j < L → u' 1 j = τ 1 j) ∧ ∀ j, j < k → u' 1 (L + j) = wbyte x j := by
  intro m
  induction m with
  | zero =>
    intro f i u hi hf h1 h2 h0 h3 h4
    obtain ⟨f, rfl⟩ : ∃ f', f = f' + 1 := ⟨f - 1, by omega⟩
    have : i = k := by omega
    subst this
    rw [fX8_write_L33]
    dsimp only
    rw [if_pos (nI_le (Nat.le_refl _) (by omega)), h1]
    exact ⟨u, rfl, h2, h0, h1, h3, h4⟩
  | succ m ih =>
    intro f i u hi hf h1 h2 h0 h3 h4
    obtain ⟨f, rfl⟩ : ∃ f', f = f' + 1 := ⟨f - 1, by omega⟩
    rw [fX8_write_L33]
    dsimp only
    rw [if_neg (nI_ge (by omega) (by omega)), h1, asr_e (by omega) (by decide)]
    dsimp only [bd]
    rw [nI_1, show st_wr u 1 (L + i) ((x >>> (((8 : Int32) * nI i).toInt64 &&& 63)) &&& (255 : Int64)).toInt32 0 1 = nI (L + i) by rw [wr_ne (by decide)]; exact h1, nI_1]
    refine ih f (i + 1) _ (by omega) (by omega) (wr_js _ _ _ _) (fun q q1 q2 => by rw [wr_ne q2, wr_ne q1]; exact h2 q q1 q2) (fun j hj => by rw [wr_jn hj, wr_ne (by decide)]; exact h0 j hj) (fun j hj => by rw [wr_ne (by decide), wr_jn (by omega)]; exact h3 j hj) (fun j hj => ?_)
    rw [wr_ne (by decide)]
    by_cases e : j = i
    · subst e; rw [wr_js]; rfl
    · rw [wr_jn (by omega)]; exact h4 j (by omega)
theorem op_write {σ τ : St} (h : Inv σ τ) (x : Int64) (k : Int32) : ∃ r σ' τ', fX7_write σ x k = some (r, σ') ∧ fX8_write τ x k = some (r, τ') ∧ Inv σ' τ' := by
  obtain ⟨⟨n, hB⟩, ⟨L, t0, t1, t2, t3⟩, hS, hP, hZ, hY⟩ := id h
  unfold fX7_write fX8_write
  rw [off_e, j_1, j_8, in_e]
  simp only [gt_c]
  cases hk : off k 1 8
  · obtain ⟨k, hk0, hk', rfl⟩ := off_f (a := 1) (b := 8) (by decide) hk (by decide)
    simp only [Bool.not_false, Bool.not_true, if_true, if_false, Bool.false_eq_true, ↓reduceIte]
    rw [t1, t2, nI_add]
    by_cases hL : L + k ≤ 160
    · rw [if_pos (show nI (L + k) ≤ (160 : Int32) from nI_le (b := 160) hL (by omega)), if_pos (show nI (L + k) ≤ (160 : Int32) from nI_le (b := 160) hL (by omega))]
      obtain ⟨u', a1, a2, a3, a4, a5⟩ := write_X (σ := σ) x hL k 2000 0 σ (by omega) (by omega) t1 (fun _ _ => rfl) (fun _ _ => rfl) (fun j hj => absurd hj (Nat.not_lt_zero j))
      obtain ⟨v', b1, b2, b3, b4, b5, b6⟩ := write_M (τ := τ) x hL k 2000 0 τ (by omega) (by omega) t2 (fun _ _ _ => rfl) (fun _ _ => rfl) (fun _ _ => rfl) (fun j hj => absurd hj (Nat.not_lt_zero j))
      refine ⟨_, u', v', a1, b1, ⟨n, B_cg hB (by rw [a2 3 (by decide) (by decide)]) (a2 11 (by decide) (by decide)) (a2 12 (by decide) (by decide)) (a2 13 (by decide) (by decide)) (a2 14 (by decide) (by decide)) (a2 15 (by decide) (by decide)) (a2 16 (by decide) (by decide)) (b3 3 (by decide)) (b2 2 (by decide) (by decide))⟩, ⟨L + k, hL, a3, b4, fun i hi => ?_⟩, S_cg hS (fun t _ => ⟨a2 _ (by omega) (by omega), a2 _ (by omega) (by omega)⟩) (b2 4 (by decide) (by decide)) (b2 5 (by decide) (by decide)) (b2 6 (by decide) (by decide)), P_cg hP (a2 17 (by decide) (by decide)) (a2 18 (by decide) (by decide)) (by rw [a2 4 (by decide) (by decide)]) (b2 7 (by decide) (by decide)) (b2 8 (by decide) (by decide)) (b3 11 (by decide)), Z_cg hZ (by rw [a2 7 (by decide) (by decide)]) (a2 20 (by decide) (by decide)) (a2 21 (by decide) (by decide)) (a2 22 (by decide) (by decide)) (b3 15 (by decide)) (b2 9 (by decide) (by decide)) (b2 10 (by decide) (by decide)) (b2 11 (by decide) (by decide)), Y_cg hY (by rw [a2 0 (by decide) (by decide)]) (a2 8 (by decide) (by decide)) (b3 17 (by decide)) (b2 12 (by decide) (by decide))⟩
      by_cases e : i < L
      · rw [a4 i e, b5 i e]; exact t3 i e
      · obtain ⟨j, rfl⟩ : ∃ j, i = L + j := ⟨i - L, by omega⟩
        rw [a5 j (by omega), b6 j (by omega)]
    · rw [if_neg (show ¬ nI (L + k) ≤ (160 : Int32) from nI_ge (a := 160) (by omega) (by omega)), if_neg (show ¬ nI (L + k) ≤ (160 : Int32) from nI_ge (a := 160) (by omega) (by omega))]
      exact ⟨_, _, _, rfl, rfl, h⟩
  · exact ⟨_, _, _, rfl, rfl, h⟩
theorem step_ok {σ τ : St} (h : Inv σ τ) {t w : Nat} {x : Int32} (ht : t < 6) (hw : w < 240) (hx : x = M1 ∨ ∃ w, w < 240 ∧ x = nI w) : ∃ r σ' τ', fX7_step_L29 σ (nI t) (nI w) x = some (r, σ') ∧ fX8_step_L29 τ (nI t) (nI w) x = some (r, τ') ∧ Inv σ' τ' := by
  obtain ⟨⟨n, hB⟩, ⟨L, hT⟩, hS, hP, hZ, hY⟩ := id h
  obtain ⟨s, s1, s2, s3, s4⟩ := hS t ht
  unfold fX7_step_L29 fX8_step_L29 fX6_addStep
  rw [tld_e ht, ald_e ht (by decide), s2, s3]
  by_cases hs : s = 8
  · subst hs
    rw [if_pos (by decide), if_pos (by decide)]
    exact ⟨_, _, _, rfl, rfl, h⟩
  · have ne : ¬ nI s = (8 : Int32) := by rw [l_8, nI_eq (by omega) (by omega)]; exact hs
    rw [if_neg ne, if_neg ne]
    simp (disch := omega) only [↓l_m1, ↓l_m2, ↓l_m3, ↓l_m4, ↓l_m5, l_0, l_1, l_2, l_3, l_4, l_5, l_6, l_7, l_8, l_9, l_10, l_11, l_12, l_13, l_14, l_15, l_16, l_17, l_18, l_19, l_20, l_21, l_22, l_23, l_24, l_25, l_26, l_27, l_28, l_29, l_30, l_31, l_32, l_40, l_48, l_56, l_57, l_59, l_63, l_64, l_96, l_97, l_99, l_122, l_159, l_160, l_239, l_240, l_255, l_256, l_1000, l_1440, l_65536, l_1000000, l_268435456, bd, o1_s, o2_s, oz_0, oz_1, o2z_0, o2z_1, rb_0, rb_1, ald_e, asr_e, tld_e, nI_add, pk_mul, pk_div, w_rem, nI_leI, nI_ltI, nI_eq, nI_nm1, m1_nI, if_true, if_false, ↓reduceIte, Bool.false_eq_true, asr_e, ald_e, wr_ne, wr_js, s2, s3, bd, o1_s, nI_1]
    refine ⟨_, _, _, rfl, rfl, ⟨n, B_cg hB (by simp (disch := omega) only [wr_ne, wr_jn, wr_js]) (by simp (disch := omega) only [wr_ne, wr_jn, wr_js]) (by simp (disch := omega) only [wr_ne, wr_jn, wr_js]) (by simp (disch := omega) only [wr_ne, wr_jn, wr_js]) (by simp (disch := omega) only [wr_ne, wr_jn, wr_js]) (by simp (disch := omega) only [wr_ne, wr_jn, wr_js]) (by simp (disch := omega) only [wr_ne, wr_jn, wr_js]) (by simp (disch := omega) only [wr_ne, wr_jn, wr_js]) (by simp (disch := omega) only [wr_ne, wr_jn, wr_js])⟩, ⟨L, T_cg hT (by simp (disch := omega) only [wr_ne, wr_jn, wr_js]) (by simp (disch := omega) only [wr_ne, wr_jn, wr_js]) (by simp (disch := omega) only [wr_ne, wr_jn, wr_js]) (by simp (disch := omega) only [wr_ne, wr_jn, wr_js])⟩, ?_, P_cg hP (by simp (disch := omega) only [wr_ne, wr_jn, wr_js]) (by simp (disch := omega) only [wr_ne, wr_jn, wr_js]) (by simp (disch := omega) only [wr_ne, wr_jn, wr_js]) (by simp (disch := omega) only [wr_ne, wr_jn, wr_js]) (by simp (disch := omega) only [wr_ne, wr_jn, wr_js]) (by simp (disch := omega) only [wr_ne, wr_jn, wr_js]), Z_cg hZ (by simp (disch := omega) only [wr_ne, wr_jn, wr_js]) (by simp (disch := omega) only [wr_ne, wr_jn, wr_js]) (by simp (disch := omega) only [wr_ne, wr_jn, wr_js]) (by simp (disch := omega) only [wr_ne, wr_jn, wr_js]) (by simp (disch := omega) only [wr_ne, wr_jn, wr_js]) (by simp (disch := omega) only [wr_ne, wr_jn, wr_js]) (by simp (disch := omega) only [wr_ne, wr_jn, wr_js]) (by simp (disch := omega) only [wr_ne, wr_jn, wr_js]), Y_cg hY (by simp (disch := omega) only [wr_ne, wr_jn, wr_js]) (by simp (disch := omega) only [wr_ne, wr_jn, wr_js]) (by simp (disch := omega) only [wr_ne, wr_jn, wr_js]) (by simp (disch := omega) only [wr_ne, wr_jn, wr_js])⟩
    intro t' ht'
    by_cases e : t' = t
    · subst e
      refine ⟨s + 1, by omega, wr_js _ _ _ _, wr_js _ _ _ _, fun i hi => ?_⟩
      by_cases ei : i = s
      · subst ei
        simp (disch := omega) only [wr_ne]
        rw [show 2 * i = i * 2 by omega, wr_jn (show i * 2 ≠ i * 2 + 1 by omega), wr_js, wr_js, wr_js, wr_js]
        refine ⟨⟨w, hw, rfl, rfl⟩, rfl, hx⟩
      · simp (disch := omega) only [wr_ne, wr_jn]
        exact s4 i (by omega)
    · obtain ⟨s', q1, q2, q3, q4⟩ := hS t' ht'
      refine ⟨s', q1, ?_, ?_, fun i hi => ?_⟩
      · simp (disch := omega) only [wr_ne]; exact q2
      · simp (disch := omega) only [wr_ne, wr_jn]; exact q3
      · simp (disch := omega) only [wr_ne, wr_jn]
        exact q4 i hi
theorem op_step {σ τ : St} (h : Inv σ τ) (t w x : Int32) : ∃ r σ' τ', fX7_step σ t w x = some (r, σ') ∧ fX8_step τ t w x = some (r, τ') ∧ Inv σ' τ' := by
  unfold fX7_step fX8_step
  rw [noT_e, noW_e, noW_e, isT_e, isW_e, isW_e]
  simp only [gt_c]
  cases ht : off t 0 5
  · cases hw : off w 0 239
    · obtain ⟨t, ht', rfl⟩ := off_0 (b := 5) (by decide) ht
      obtain ⟨w, hw', rfl⟩ := off_0 (b := 239) (by decide) hw
      simp only [Bool.not_false, Bool.not_true, if_true, if_false, Bool.false_eq_true, ↓reduceIte]
      by_cases hx : x = -1
      · rw [if_pos hx, if_pos hx]
        exact step_ok h (by omega) (by omega) (Or.inl hx)
      · rw [if_neg hx, if_neg hx]
        cases hx2 : off x 0 239
        · obtain ⟨y, hy', rfl⟩ := off_0 (b := 239) (by decide) hx2
          exact step_ok h (by omega) (by omega) (Or.inr ⟨y, by omega, rfl⟩)
        · exact ⟨_, _, _, rfl, rfl, h⟩
    · exact ⟨_, _, _, rfl, rfl, h⟩
  · exact ⟨_, _, _, rfl, rfl, h⟩
