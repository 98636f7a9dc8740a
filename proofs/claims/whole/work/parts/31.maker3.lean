/-! ===== a way told by hand ===== -/
def gT (x : Int32) (i : Nat) : Nat := ((x >>> (((3 : Int32) * nI i) &&& 31)) &&& (7 : Int32)).toNatClampNeg
def cT (x : Int32) (i : Nat) : Nat := ((x >>> (nI i &&& 31)) &&& (1 : Int32)).toNatClampNeg
theorem gT_e (x : Int32) (i : Nat) : (x >>> (((3 : Int32) * nI i) &&& 31)) &&& (7 : Int32) = nI (gT x i) ∧ gT x i < 8 := by
  obtain ⟨j, hj, e⟩ := pk_andE (x >>> (((3 : Int32) * nI i) &&& 31)) (m := 7) 3 (by decide)
  unfold gT
  rw [e, nI_clamp (by omega)]
  exact ⟨rfl, by omega⟩
theorem cT_e (x : Int32) (i : Nat) : (x >>> (nI i &&& 31)) &&& (1 : Int32) = nI (cT x i) ∧ cT x i < 2 := by
  obtain ⟨j, hj, e⟩ := pk_andE (x >>> (nI i &&& 31)) (m := 1) 1 (by decide)
  unfold cT
  rw [e, nI_clamp (by omega)]
  exact ⟨rfl, by omega⟩
/-- hands of guild g that may (x) -/
def hdV (x g : Nat) : Int32 := if x = 0 then 0 else if x = 1 then (1 : Int32) <<< (nI g &&& 31) else ((1 : Int32) <<< (nI g &&& 31)) ||| ((1 : Int32) <<< (nI (x - 2) &&& 31))
theorem handsFor_e {σ τ : St} {n g w : Nat} (hB : BInv σ τ n) (hg : g < 6) (hw : w < 240) : fX0_handsFor σ (nI g) (nI w) = some (hdV (cod (cM τ) n th1 g w).toNatClampNeg g) := by
  unfold fX0_handsFor hdV
  rw [leave_all hB hg hw, o1_s]
  rcases cod_in hB.1 hB.2.2.2.2.2 th1 g w with e | e | ⟨h, hh, e⟩
  · rw [e, nI_clamp (by omega), if_pos (by decide), if_pos rfl]
  · rw [e, nI_clamp (by omega), if_neg (by decide), if_pos (by decide), if_neg (by omega), if_pos rfl]
  · have n1 : ¬ nI (2 + h) = (1 : Int32) := by rw [l_1, nI_eq (by omega) (by omega)]; omega
    have n0 : ¬ nI (2 + h) = (0 : Int32) := by rw [l_0, nI_eq (by omega) (by omega)]; omega
    rw [e, nI_clamp (by omega), if_neg n0, if_neg n1, if_neg (by omega), if_neg (by omega), show nI (2 + h) - (2 : Int32) = nI (2 + h - 2) from by rw [l_2, pk_sub (by omega)]]
theorem hd0 : ∀ x, x < 8 → ∀ g, g < 6 → (hdV x g = 0 ↔ x = 0) := by decide +kernel
theorem hands_hd {v : St} {i c g x : Nat} (hi : i < 8) (hc : c < 2) (hg : g < 6) (hx : x ≤ 7) (h0 : 0 < x) (e : v 14 (12 * i + 6 * c + g) = nI x) : fX8_hands v (nI i) (nI c) (nI g) = some (hdV x g) := by
  rw [hands_e hi hc hg e]
  unfold hdV
  by_cases h1 : x = 1
  · subst h1; rw [if_pos (by decide), or0, if_neg (by decide), if_pos rfl]
  · rw [if_neg (show ¬ nI x ≤ (1 : Int32) from nI_ge (a := 1) (by omega) (by omega)), if_neg (by omega), if_neg h1, show nI x - (2 : Int32) = nI (x - 2) from by rw [l_2, pk_sub (by omega)]]
/-- the code of the choice told at step i -/
theorem cdW {σ τ : St} {n k g w : Nat} {th : Nat → Bool} {W : Nat → Int32} (hw : w < 240) (e : W k = nI w) : cdN (cM τ) n th W k g = (cod (cM τ) n th g w).toNatClampNeg := by
  unfold cdN
  rw [e, if_neg (fun q => (nI_nm1 (show w < 2 ^ 31 by omega)).mp q), nI_clamp (by omega)]
theorem workTold_e {σ τ : St} {t s i : Nat} (y : Int32) (hT : Th σ τ t s) (hi : i < s) : fX1_workTold σ t y (nI i) = some (Wt τ t (2 * i + cT y i)) := by
  unfold fX1_workTold
  rw [(cT_e y i).1, workAt_e hT hi (cT_e y i).2 rfl, o1_s]
/-- a step of the way is as it must be -/
def okS (τ : St) (n t : Nat) (x y : Int32) (i : Nat) : Prop := gT x i < 6 ∧ 0 < cdN (cM τ) n th1 (Wt τ t) (2 * i + cT y i) (gT x i)
theorem judge_loop {σ τ v : St} {n t s : Nat} (x y : Int32) (hB : BInv σ τ n) (hT : Th σ τ t s) (hv : Laid τ v n t s th1) : ∀ (m f i : Nat), i + m = s → m < f → ∃ r : Int32, fX1_firstWrongStep_L3 σ t f x y (nI i) = some r ∧ fX8_wrongStep_L8 f v x y (nI i) = some (r, v) ∧ (r = M1 → ∀ j, i ≤ j → j < s → okS τ n t x y j) := by
  obtain ⟨v1, v2, v3, v4, v5⟩ := hv
  have hs8 := hT.2.1
  intro m
  induction m with
  | zero =>
    intro f i hi hf
    obtain ⟨f, rfl⟩ : ∃ f', f = f' + 1 := ⟨f - 1, by omega⟩
    have : i = s := by omega
    subst this
    rw [fX1_firstWrongStep_L3, fX8_wrongStep_L8]
    dsimp only
    rw [hT.2.2.1, v3, if_pos (nI_le (Nat.le_refl _) (by omega)), if_pos (nI_le (Nat.le_refl _) (by omega))]
    exact ⟨_, rfl, rfl, fun _ j h1 h2 => by omega⟩
  | succ m ih =>
    intro f i hi hf
    obtain ⟨f, rfl⟩ : ∃ f', f = f' + 1 := ⟨f - 1, by omega⟩
    have his : i < s := by omega
    obtain ⟨g1, g2⟩ := gT_e x i
    obtain ⟨c1, c2⟩ := cT_e y i
    have ne : (nI i = M1) = False := nI_nm1 (by omega)
    rw [fX1_firstWrongStep_L3, fX8_wrongStep_L8]
    dsimp only
    rw [hT.2.2.1, v3, if_neg (nI_ge (by omega) (by omega)), if_neg (nI_ge (by omega) (by omega)), workTold_e y hT his]
    unfold fX1_guildTold
    rw [g1, c1]
    dsimp only [bd]
    rw [isG_e, gt_c]
    simp only [o1_s]
    have hcode : v 14 (12 * i + 6 * cT y i + gT x i) = nI (cdN (cM τ) n th1 (Wt τ t) (2 * i + cT y i) (gT x i)) ∨ 6 ≤ gT x i := by
      by_cases h6 : gT x i < 6
      · left
        rw [v5 _ (by omega), show (12 * i + 6 * cT y i + gT x i) / 6 = 2 * i + cT y i by omega, show (12 * i + 6 * cT y i + gT x i) % 6 = gT x i by omega]
      · right; omega
    rcases hcode with hcode | h6
    · by_cases h6 : gT x i < 6
      · have ho : off (nI (gT x i)) 0 5 = false := decide_eq_false (fun q => by
          rcases q with q | q
          · exact nI_pos (by omega) q
          · exact nI_nlt (show gT x i ≤ 5 by omega) (by decide) q)
        rw [if_neg (show ¬ (6 : Int32) ≤ nI (gT x i) from nI_ge (b := 6) (by omega) (by omega)), ho]
        simp only [Bool.not_false, Bool.not_true, if_true, if_false, Bool.false_eq_true, ↓reduceIte]
        rw [l_12, l_6, pk_mul, pk_mul, nI_add, nI_add, ald_e (by omega) (by decide), hcode]
        have h7 := cd7 hB th1 (Wt τ t) (2 * i + cT y i) (gT x i)
        rcases hT.2.2.2.2.1 (2 * i + cT y i) (by omega) with e | ⟨w, hw, e⟩
        · have z : cdN (cM τ) n th1 (Wt τ t) (2 * i + cT y i) (gT x i) = 0 := by unfold cdN; rw [if_pos e]
          rw [if_pos (show Wt τ t (2 * i + cT y i) = (-1 : Int32) from e), z, if_pos (by decide)]
          exact ⟨_, rfl, rfl, fun q => (ne.mp q).elim⟩
        · have n1 : ¬ nI w = (-1 : Int32) := fun q => (nI_nm1 (show w < 2 ^ 31 by omega)).mp q
          rw [e, if_neg n1, handsFor_e hB h6 hw, ← cdW (σ := σ) (W := Wt τ t) hw e, o1_s]
          by_cases z : cdN (cM τ) n th1 (Wt τ t) (2 * i + cT y i) (gT x i) = 0
          · rw [if_pos ((hd0 _ (by omega) _ h6).mpr z), z, if_pos (by decide)]
            exact ⟨_, rfl, rfl, fun q => (ne.mp q).elim⟩
          · rw [if_neg (fun q => z ((hd0 _ (by omega) _ h6).mp q)), if_neg (show ¬ nI (cdN (cM τ) n th1 (Wt τ t) (2 * i + cT y i) (gT x i)) = (0 : Int32) from by rw [l_0, nI_eq (by omega) (by omega)]; exact z), nI_1]
            obtain ⟨r, r1, r2, r3⟩ := ih f (i + 1) (by omega) (by omega)
            refine ⟨r, r1, r2, fun q j h1 h2 => ?_⟩
            by_cases hj : j = i
            · subst hj; exact ⟨h6, by omega⟩
            · exact r3 q j (by omega) h2
      · have ho : off (nI (gT x i)) 0 5 = true := decide_eq_true (Or.inr (nI_lt (a := 5) (by omega) (by omega)))
        rw [if_pos (show (6 : Int32) ≤ nI (gT x i) from nI_le (a := 6) (by omega) (by omega)), ho]
        exact ⟨_, rfl, rfl, fun q => (ne.mp q).elim⟩
    · have ho : off (nI (gT x i)) 0 5 = true := decide_eq_true (Or.inr (nI_lt (a := 5) (by omega) (by omega)))
      rw [if_pos (show (6 : Int32) ≤ nI (gT x i) from nI_le (a := 6) (by omega) (by omega)), ho]
      exact ⟨_, rfl, rfl, fun q => (ne.mp q).elim⟩
theorem judge_e {σ τ : St} {n t s : Nat} (x y : Int32) (hB : BInv σ τ n) (hT : Th σ τ t s) : ∃ (r : Int32) (v : St), fX1_firstWrongStep σ t x y = some r ∧ fX8_wrongStep τ (nI t) x y = some (r, v) ∧ Laid τ v n t s th1 ∧ (r = M1 → ∀ j, j < s → okS τ n t x y j) := by
  obtain ⟨v, e1, e2, -⟩ := lay_e hB hT (scM_rf τ)
  obtain ⟨r, r1, r2, r3⟩ := judge_loop x y hB hT e2 s 2000 0 (by omega) (by have := hT.2.1; omega)
  unfold fX8_wrongStep
  rw [e1, o1_s]
  exact ⟨r, v, r1, r2, e2, fun q j hj => r3 q j (Nat.zero_le j) hj⟩
theorem op_judge {σ τ : St} (h : Inv σ τ) (t x y : Int32) : ∃ r τ', fX7_judge σ t x y = some r ∧ fX8_judge τ t x y = some (r, τ') ∧ Inv σ τ' := by
  obtain ⟨⟨n, hB⟩, -, hS, -⟩ := id h
  unfold fX7_judge fX8_judge
  rw [noT_e, isT_e]
  simp only [gt_c]
  cases ht : off t 0 5
  · obtain ⟨t, ht', rfl⟩ := off_0 (b := 5) (by decide) ht
    have ht6 : t < 6 := by omega
    obtain ⟨s, hT⟩ := Th_of hS ht6
    obtain ⟨r, v, r1, r2, r3, -⟩ := judge_e x y hB hT
    simp only [Bool.not_false, Bool.not_true, if_true, if_false, Bool.false_eq_true, ↓reduceIte]
    rw [tld_e ht6, r1, r2]
    exact ⟨_, _, rfl, rfl, Inv_sc h (scX_rf _) r3.1⟩
  · exact ⟨_, _, rfl, rfl, h⟩
/-- what guild g asks for work w (k 0: money, 1: days), and what carrying asks -/
def prc (τ : St) (k g w : Nat) : Int32 := if k = 0 then τ 7 (6 * g + w / 40) else τ 8 g
def car (τ : St) (k : Nat) : Int32 := if k = 0 then τ 0 11 else 1
theorem ofWork_e {σ τ : St} {k g w : Nat} (hP : PInv σ τ) (hg : g < 6) (hw : w < 240) : fX4_ofWork σ (nI g) (nI w) (nI k) = some (prc τ k g w) ∨ 2 ^ 31 ≤ k := by
  rcases Nat.lt_or_ge k (2 ^ 31) with hk | hk
  · left
    unfold fX4_ofWork prc
    by_cases h : k = 0
    · subst h
      obtain ⟨v, -, p1, p2⟩ := hP.1 (6 * g + w / 40) (by omega)
      rw [if_pos (by decide), if_pos rfl, l_6, l_40, pk_mul, pk_div (by omega) (by omega) (by omega), nI_add, ald_e (by omega) (by decide), show g * 6 + w / 40 = 6 * g + w / 40 by omega, p1, p2]
    · obtain ⟨v, -, -, p1, p2⟩ := hP.2.1 g hg
      rw [if_neg (show ¬ nI k = (0 : Int32) from by rw [l_0, nI_eq hk (by omega)]; exact h), if_neg h, ald_e hg (by decide), p1, p2]
  · right; exact hk
theorem ofCarry_e {σ τ : St} {k : Nat} (hP : PInv σ τ) (hk : k < 2 ^ 31) : fX4_ofCarrying σ (nI k) = some (car τ k) := by
  unfold fX4_ofCarrying car
  obtain ⟨v, -, p1, p2⟩ := hP.2.2
  by_cases h : k = 0
  · subst h; rw [if_pos (by decide), if_pos rfl, p1, p2]
  · rw [if_neg (show ¬ nI k = (0 : Int32) from by rw [l_0, nI_eq hk (by omega)]; exact h), if_neg h]
theorem stepCost_e {τ v : St} {n t s i c g w k : Nat} {th : Nat → Bool} (ah : Int32) (hv : Laid τ v n t s th) (hs : s ≤ 8) (hi : i < s) (hc : c < 2) (hg : g < 6) (hw : w < 240) (hk : k < 2) (e : Wt τ t (2 * i + c) = nI w) : fX8_stepCost v (nI i) (nI c) (nI g) ah (nI k) = some (prc τ k g w + (if ah = M1 ∨ ah = nI g then 0 else car τ k)) := by
  obtain ⟨v1, v2, v3, v4, v5⟩ := hv
  have v7 : v 7 = τ 7 := v1.2 7 (by decide) (by decide) (by decide)
  have v8 : v 8 = τ 8 := v1.2 8 (by decide) (by decide) (by decide)
  have v11 : v 0 11 = τ 0 11 := v1.1.2.2.1
  have key : ∀ z : Int32, z = 0 ∨ z = 1 → fX8_stepCost_L17 v (nI i) (nI c) (nI g) (nI k) z = some (prc τ k g w + (if z = 0 then 0 else car τ k)) := by
    intro z hz
    unfold fX8_stepCost_L17 prc car
    rcases (show k = 0 ∨ k = 1 by omega) with rfl | rfl
    · rw [if_pos (by decide), l_2, pk_mul, nI_add, ald_e (by omega) (by decide), v4 _ (by omega), e, l_6, l_40, pk_mul, pk_div (by omega) (by omega) (by omega), nI_add, ald_e (by omega) (by decide), v7, v11]
      rcases hz with rfl | rfl
      · rw [if_pos rfl, if_pos rfl, if_pos rfl]
      · rw [if_neg (show ¬ (1 : Int32) = 0 by decide), if_neg (show ¬ (1 : Int32) = 0 by decide), if_pos rfl, if_pos rfl]
    · rw [if_neg (by decide), ald_e hg (by decide), v8]
      rcases hz with rfl | rfl
      · rw [if_pos rfl, if_pos rfl, if_neg (by decide)]
      · rw [if_neg (show ¬ (1 : Int32) = 0 by decide), if_neg (show ¬ (1 : Int32) = 0 by decide), if_neg (show ¬ (1 : Nat) = 0 by decide), if_neg (show ¬ (1 : Nat) = 0 by decide)]
  unfold fX8_stepCost fX8_stepCost_L16
  by_cases a1 : ah = M1
  · rw [if_pos (show ah = (-1 : Int32) from a1), key 0 (Or.inl rfl), if_pos rfl, if_pos (Or.inl a1)]
  · rw [if_neg (show ¬ ah = (-1 : Int32) from a1)]
    by_cases a2 : ah = nI g
    · rw [if_pos a2, key 0 (Or.inl rfl), if_pos rfl, if_pos (Or.inr a2)]
    · rw [if_neg a2, key 1 (Or.inr rfl), if_neg (by decide), if_neg (fun q => q.elim a1 a2)]
theorem okW {σ τ : St} {n t s i : Nat} {x y : Int32} (hT : Th σ τ t s) (hi : i < s) (h : okS τ n t x y i) : ∃ w, w < 240 ∧ Wt τ t (2 * i + cT y i) = nI w := by
  rcases hT.2.2.2.2.1 (2 * i + cT y i) (by have := (cT_e y i).2; omega) with e | q
  · have := h.2
    unfold cdN at this
    rw [if_pos e] at this
    omega
  · exact q
theorem told_cost {σ τ v : St} {n t s k : Nat} (x y : Int32) (hP : PInv σ τ) (hT : Th σ τ t s) (hv : Laid τ v n t s th1) (hB : BInv σ τ n) (hk : k < 2) (hok : ∀ j, j < s → okS τ n t x y j) : ∀ (m f i : Nat) (a b : Int32), i + m = s → m < f → ∃ r : Int32, fX1_costOfWay_L6 σ t f x y (nI k) a (nI i) = some r ∧ fX8_told_L49 f v x y (nI k) a b (nI i) = some (r, v) := by
  have hs8 := hT.2.1
  have v3 : v 0 25 = nI s := hv.2.2.1
  intro m
  induction m with
  | zero =>
    intro f i a b hi hf
    obtain ⟨f, rfl⟩ : ∃ f', f = f' + 1 := ⟨f - 1, by omega⟩
    have : i = s := by omega
    subst this
    rw [fX1_costOfWay_L6, fX8_told_L49]
    dsimp only
    rw [hT.2.2.1, v3, if_pos (nI_le (Nat.le_refl _) (by omega)), if_pos (nI_le (Nat.le_refl _) (by omega))]
    unfold fX8_told_L144
    rw [if_neg (show ¬ nI k = (2 : Int32) from by rw [l_2, nI_eq (by omega) (by omega)]; omega)]
    exact ⟨_, rfl, rfl⟩
  | succ m ih =>
    intro f i a b hi hf
    obtain ⟨f, rfl⟩ : ∃ f', f = f' + 1 := ⟨f - 1, by omega⟩
    have his : i < s := by omega
    obtain ⟨g1, g2⟩ := gT_e x i
    obtain ⟨c1, c2⟩ := cT_e y i
    obtain ⟨o1', o2'⟩ := hok i his
    obtain ⟨w, hw, ew⟩ := okW hT his (hok i his)
    have h7 := cd7 hB th1 (Wt τ t) (2 * i + cT y i) (gT x i)
    have hcode : v 14 (12 * i + 6 * cT y i + gT x i) = nI (cdN (cM τ) n th1 (Wt τ t) (2 * i + cT y i) (gT x i)) := by
      rw [hv.2.2.2.2 _ (by omega), show (12 * i + 6 * cT y i + gT x i) / 6 = 2 * i + cT y i by omega, show (12 * i + 6 * cT y i + gT x i) % 6 = gT x i by omega]
    have hOW : fX4_ofWork σ (nI (gT x i)) (nI w) (nI k) = some (prc τ k (gT x i) w) := (ofWork_e (k := k) hP o1' hw).elim id (fun q => by omega)
    rw [fX1_costOfWay_L6, fX8_told_L49]
    dsimp only
    rw [hT.2.2.1, v3, if_neg (nI_ge (by omega) (by omega)), if_neg (nI_ge (by omega) (by omega)), workTold_e y hT his, ew]
    simp only [fX1_guildTold, g1, c1, o1_s, bd]
    rw [hOW]
    simp only [o1_s, fX8_told_L106, fX8_told_L117, fX1_costOfWay_L78, bd, nI_1]
    have hc : ∀ ah : Int32, (if nI k = (1 : Int32) then o1 (fX8_stepCost v (nI i) (nI (cT y i)) (nI (gT x i)) ah 1) (fun x1 => o1 (fX8_hands v (nI i) (nI (cT y i)) (nI (gT x i))) (fun x3 => fX8_told_L49 f v x y (nI k) (a + x1) (b ||| x3) (nI (i + 1)))) else o1 (fX8_stepCost v (nI i) (nI (cT y i)) (nI (gT x i)) ah 0) (fun x1 => o1 (fX8_hands v (nI i) (nI (cT y i)) (nI (gT x i))) (fun x3 => fX8_told_L49 f v x y (nI k) (a + x1) (b ||| x3) (nI (i + 1))))) = fX8_told_L49 f v x y (nI k) (a + (prc τ k (gT x i) w + (if ah = M1 ∨ ah = nI (gT x i) then 0 else car τ k))) (b ||| hdV (cdN (cM τ) n th1 (Wt τ t) (2 * i + cT y i) (gT x i)) (gT x i)) (nI (i + 1)) := by
      intro ah
      rw [hands_hd (by omega) c2 o1' h7 o2' hcode]
      rcases (show k = 0 ∨ k = 1 by omega) with rfl | rfl
      · rw [if_neg (by decide), show (0 : Int32) = nI 0 from rfl, stepCost_e ah hv hs8 his c2 o1' hw (by omega) ew]; rfl
      · rw [if_pos (by decide), show (1 : Int32) = nI 1 from rfl, stepCost_e ah hv hs8 his c2 o1' hw (by omega) ew]; rfl
    by_cases hi0 : i = 0
    · subst hi0
      rw [if_pos (by decide), if_pos (by decide), hc, if_pos (show (-1 : Int32) = M1 ∨ (-1 : Int32) = nI (gT x 0) from Or.inl rfl)]
      have e0 : prc τ k (gT x 0) w + 0 = prc τ k (gT x 0) w := Int32.add_zero _
      rw [e0]
      exact ih f (0 + 1) _ _ (by omega) (by omega)
    · have e3 : (3 : Int32) * (nI i - 1) = (3 : Int32) * nI i - 3 := by
        rw [l_3, l_1, pk_sub (by omega), pk_mul, pk_mul, pk_sub (by omega)]; congr 1; omega
      have e4 : nI i - (1 : Int32) = nI (i - 1) := by rw [l_1, pk_sub (by omega)]
      obtain ⟨p1, p2⟩ := gT_e x (i - 1)
      rw [if_neg (show ¬ nI i ≤ (0 : Int32) from nI_ge (a := 0) (by omega) (by omega)), if_neg (show ¬ nI i = (0 : Int32) from by rw [l_0, nI_eq (by omega) (by omega)]; exact hi0), hc, ← e3, e4, p1]
      have nm : ¬ nI (gT x (i - 1)) = M1 := fun q => (nI_nm1 (show gT x (i - 1) < 2 ^ 31 by omega)).mp q
      by_cases hm : nI (gT x i) = nI (gT x (i - 1))
      · rw [if_pos hm, if_pos (Or.inr hm.symm), Int32.add_zero]
        exact ih f (i + 1) _ _ (by omega) (by omega)
      · rw [if_neg hm, if_neg (fun q => q.elim nm (fun q => hm q.symm)), ofCarry_e hP (by omega), o1_s, ← Int32.add_assoc]
        exact ih f (i + 1) _ _ (by omega) (by omega)
theorem told_hands {σ τ v : St} {n t s : Nat} (x y : Int32) (hT : Th σ τ t s) (hv : Laid τ v n t s th1) (hB : BInv σ τ n) (hok : ∀ j, j < s → okS τ n t x y j) : ∀ (m f i : Nat) (a b : Int32), i + m = s → m < f → ∃ r : Int32, fX1_handsOfWay_L6 σ t f x y b (nI i) = some r ∧ fX8_told_L49 f v x y (nI 2) a b (nI i) = some (r, v) := by
  have hs8 := hT.2.1
  have v3 : v 0 25 = nI s := hv.2.2.1
  intro m
  induction m with
  | zero =>
    intro f i a b hi hf
    obtain ⟨f, rfl⟩ : ∃ f', f = f' + 1 := ⟨f - 1, by omega⟩
    have : i = s := by omega
    subst this
    rw [fX1_handsOfWay_L6, fX8_told_L49]
    dsimp only
    rw [hT.2.2.1, v3, if_pos (nI_le (Nat.le_refl _) (by omega)), if_pos (nI_le (Nat.le_refl _) (by omega))]
    unfold fX8_told_L144
    rw [if_pos (by decide)]
    exact ⟨_, rfl, rfl⟩
  | succ m ih =>
    intro f i a b hi hf
    obtain ⟨f, rfl⟩ : ∃ f', f = f' + 1 := ⟨f - 1, by omega⟩
    have his : i < s := by omega
    obtain ⟨g1, g2⟩ := gT_e x i
    obtain ⟨c1, c2⟩ := cT_e y i
    obtain ⟨o1', o2'⟩ := hok i his
    obtain ⟨w, hw, ew⟩ := okW hT his (hok i his)
    have h7 := cd7 hB th1 (Wt τ t) (2 * i + cT y i) (gT x i)
    have hcode : v 14 (12 * i + 6 * cT y i + gT x i) = nI (cdN (cM τ) n th1 (Wt τ t) (2 * i + cT y i) (gT x i)) := by
      rw [hv.2.2.2.2 _ (by omega), show (12 * i + 6 * cT y i + gT x i) / 6 = 2 * i + cT y i by omega, show (12 * i + 6 * cT y i + gT x i) % 6 = gT x i by omega]
    rw [fX1_handsOfWay_L6, fX8_told_L49]
    dsimp only
    rw [hT.2.2.1, v3, if_neg (nI_ge (by omega) (by omega)), if_neg (nI_ge (by omega) (by omega)), workTold_e y hT his, ew]
    simp only [fX1_guildTold, g1, c1, o1_s, bd]
    rw [handsFor_e hB o1' hw, ← cdW (σ := σ) (W := Wt τ t) hw ew]
    simp only [o1_s, fX8_told_L106, fX8_told_L117, bd, nI_1]
    have n1 : ¬ nI 2 = (1 : Int32) := by decide
    have hc : ∀ ah : Int32, (if nI 2 = (1 : Int32) then o1 (fX8_stepCost v (nI i) (nI (cT y i)) (nI (gT x i)) ah 1) (fun x1 => o1 (fX8_hands v (nI i) (nI (cT y i)) (nI (gT x i))) (fun x3 => fX8_told_L49 f v x y (nI 2) (a + x1) (b ||| x3) (nI (i + 1)))) else o1 (fX8_stepCost v (nI i) (nI (cT y i)) (nI (gT x i)) ah 0) (fun x1 => o1 (fX8_hands v (nI i) (nI (cT y i)) (nI (gT x i))) (fun x3 => fX8_told_L49 f v x y (nI 2) (a + x1) (b ||| x3) (nI (i + 1))))) = fX8_told_L49 f v x y (nI 2) (a + (prc τ 0 (gT x i) w + (if ah = M1 ∨ ah = nI (gT x i) then 0 else car τ 0))) (b ||| hdV (cdN (cM τ) n th1 (Wt τ t) (2 * i + cT y i) (gT x i)) (gT x i)) (nI (i + 1)) := by
      intro ah
      rw [hands_hd (by omega) c2 o1' h7 o2' hcode, if_neg n1, show (0 : Int32) = nI 0 from rfl, stepCost_e ah hv hs8 his c2 o1' hw (by omega) ew]; rfl
    by_cases hi0 : nI i = (0 : Int32)
    · rw [if_pos hi0, hc]
      exact ih f (i + 1) _ _ (by omega) (by omega)
    · rw [if_neg hi0, hc]
      exact ih f (i + 1) _ _ (by omega) (by omega)
theorem op_told {σ τ : St} (h : Inv σ τ) (t x y k : Int32) : ∃ r τ', fX7_told σ t x y k = some r ∧ fX8_told τ t x y k = some (r, τ') ∧ Inv σ τ' := by
  obtain ⟨⟨n, hB⟩, -, hS, hP, -⟩ := id h
  unfold fX7_told fX8_told
  rw [noT_e, off_e, isT_e, j_0, j_2, in_e]
  simp only [gt_c]
  cases ht : off t 0 5
  · cases hk : off k 0 2
    · obtain ⟨t, ht', rfl⟩ := off_0 (b := 5) (by decide) ht
      obtain ⟨k, hk', rfl⟩ := off_0 (b := 2) (by decide) hk
      have ht6 : t < 6 := by omega
      obtain ⟨s, hT⟩ := Th_of hS ht6
      obtain ⟨r, v, r1, r2, r3, r4⟩ := judge_e x y hB hT
      simp only [Bool.not_false, Bool.not_true, if_true, if_false, Bool.false_eq_true, ↓reduceIte]
      rw [tld_e ht6, r1, r2, o1_s, o2_s]
      by_cases q : r = M1
      · rw [if_pos (show r = (-1 : Int32) from q), if_pos (show r = (-1 : Int32) from q), tld_e ht6, tld_e ht6]
        have hs8 := hT.2.1
        by_cases k2 : k = 2
        · subst k2
          rw [if_pos (by decide)]
          obtain ⟨z, z1, z2⟩ := told_hands x y hT r3 hB (r4 q) s 2000 0 0 0 (by omega) (by omega)
          unfold fX1_handsOfWay
          rw [show nI 0 = (0 : Int32) from rfl] at z1 z2
          rw [z1, z2]
          exact ⟨_, _, rfl, rfl, Inv_sc h (scX_rf _) r3.1⟩
        · rw [if_neg (show ¬ nI k = (2 : Int32) from by rw [l_2, nI_eq (by omega) (by omega)]; exact k2)]
          obtain ⟨z, z1, z2⟩ := told_cost x y hP hT r3 hB (show k < 2 by omega) (r4 q) s 2000 0 0 0 (by omega) (by omega)
          unfold fX1_costOfWay
          rw [show nI 0 = (0 : Int32) from rfl] at z1 z2
          rw [z1, z2]
          exact ⟨_, _, rfl, rfl, Inv_sc h (scX_rf _) r3.1⟩
      · rw [if_neg (show ¬ r = (-1 : Int32) from q), if_neg (show ¬ r = (-1 : Int32) from q)]
        exact ⟨_, _, rfl, rfl, Inv_sc h (scX_rf _) r3.1⟩
    · exact ⟨_, _, rfl, rfl, h⟩
  · exact ⟨_, _, rfl, rfl, h⟩
