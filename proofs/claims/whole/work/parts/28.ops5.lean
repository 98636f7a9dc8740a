/-! ===== takes, idle ===== -/
/-- all bounds but b count -/
def thW (b : Nat) : Nat → Bool := fun i => !decide (i = b)
theorem wo_X : ∀ b, b < 20 → ∀ i, i < 32 → bt (((1 : Int32) <<< (nI b &&& 31)) ^^^ (-1)) i = !decide (i = b) := by decide +kernel
theorem wo_M : ∀ b, b < 20 → ∀ i, i < 32 → bt ((1 : Int32) <<< (nI b &&& 31)) i = decide (i = b) := by decide +kernel
theorem th_wo {v : St} {n b : Nat} (hn : n ≤ 20) (hb : b < n) (h22 : v 0 22 = nI n) (h21 : v 0 21 = (1 : Int32) <<< (nI b &&& 31)) : ∀ i, i < n → thM v i = thW b i := by
  intro i hi
  rw [thM_e v (by omega), h22, h21, wo_M b (by omega) i (by omega), decide_eq_false (nI_ge hi (by omega))]
  rfl
theorem th_al {v : St} {n : Nat} (hn : n ≤ 20) (h22 : v 0 22 = nI n) (h21 : v 0 21 = 0) : ∀ i, i < n → thM v i = th1 i := by
  intro i hi
  rw [th_all hn hn h22 h21 i hi, decide_eq_true hi]; rfl
theorem lost_X {σ τ : St} {n g : Nat} {m1 m2 : Int32} {t1 t2 : Nat → Bool} (hB : BInv σ τ n) (h1 : ∀ b, b < n → bt m1 b = t1 b) (h2 : ∀ b, b < n → bt m2 b = t2 b) (hg : g < 6) : ∀ (m f w : Nat), w + m = 240 → m < f → fX0_countLost_L6 σ f (nI g) m1 m2 (nI (cnt (fun w => mayB (cM τ) n t1 g w && !mayB (cM τ) n t2 g w) w)) (nI w) = some (nI (cnt (fun w => mayB (cM τ) n t1 g w && !mayB (cM τ) n t2 g w) 240)) := by
  intro m
  induction m with
  | zero =>
    intro f w hw hf
    obtain ⟨f, rfl⟩ : ∃ f', f = f' + 1 := ⟨f - 1, by omega⟩
    have : w = 240 := by omega
    subst this
    rw [fX0_countLost_L6]
    dsimp only
    rw [if_pos (by decide)]
  | succ m ih =>
    intro f w hw hf
    obtain ⟨f, rfl⟩ : ∃ f', f = f' + 1 := ⟨f - 1, by omega⟩
    rw [fX0_countLost_L6]
    dsimp only
    rw [if_neg (show ¬ (240 : Int32) ≤ nI w from nI_ge (b := 240) (by omega) (by omega)), leave_g hB h1 hg (by omega), o1_s, leave_g hB h2 hg (by omega), o1_s]
    have := ih f (w + 1) (by omega) (by omega)
    rw [cnt] at this
    simp only [fX0_countLost_L39, bd, nI_1]
    have e1 : mayB (cM τ) n t1 g w = !decide (cod (cM τ) n t1 g w = 0) := rfl
    have e2 : mayB (cM τ) n t2 g w = !decide (cod (cM τ) n t2 g w = 0) := rfl
    by_cases c1 : cod (cM τ) n t1 g w = 0
    · rw [if_pos c1]; simp only [e1, c1, decide_true, Bool.false_and, Bool.not_false, Bool.not_true, if_true, if_false, Bool.false_eq_true, ↓reduceIte] at this; exact this
    · rw [if_neg c1]
      by_cases c2 : cod (cM τ) n t2 g w = 0
      · rw [if_pos c2]; simp only [e1, e2, c1, c2, decide_true, decide_false, Bool.true_and, Bool.not_false, Bool.not_true, if_true, if_false, Bool.false_eq_true, ↓reduceIte] at this; exact this
      · rw [if_neg c2]; simp only [e1, e2, c1, c2, decide_true, decide_false, Bool.true_and, Bool.not_false, Bool.not_true, if_true, if_false, Bool.false_eq_true, ↓reduceIte] at this; exact this
def tkP (τ : St) (n b g k : Nat) : Nat → Bool := fun w => if k = 0 then mayB (cM τ) n th1 g w && !mayB (cM τ) n (thW b) g w else mayB (cM τ) n (thW b) g w && !mayB (cM τ) n th1 g w
theorem takes_M {σ τ : St} {n b g k : Nat} (hB : BInv σ τ n) (hb : b < n) (hg : g < 6) (hk : k ≤ 1) : ∀ (m f w : Nat) (v : St), scM τ v → v 0 22 = nI n → w + m = 240 → m < f → ∃ v', fX8_takes_L41 f v (nI b) (nI g) (nI k) (nI (cnt (tkP τ n b g k) w)) (nI w) = some (nI (cnt (tkP τ n b g k) 240), v') ∧ scM τ v' := by
  have hn := hB.1
  intro m
  induction m with
  | zero =>
    intro f w v hs h22 hw hf
    obtain ⟨f, rfl⟩ : ∃ f', f = f' + 1 := ⟨f - 1, by omega⟩
    have : w = 240 := by omega
    subst this
    rw [fX8_takes_L41]
    dsimp only
    rw [if_pos (by decide)]
    exact ⟨v, rfl, hs⟩
  | succ m ih =>
    intro f w v hs h22 hw hf
    obtain ⟨f, rfl⟩ : ∃ f', f = f' + 1 := ⟨f - 1, by omega⟩
    rw [fX8_takes_L41]
    dsimp only
    have s1 : scM τ (st_wr v 0 21 0) := scM_tr hs (scM_0 (by decide) (by decide) (by decide) (by decide) (by decide))
    have s2 : scM τ (st_wr (st_wr v 0 21 0) 0 21 ((1 : Int32) <<< (nI b &&& 31))) := scM_tr s1 (scM_0 (by decide) (by decide) (by decide) (by decide) (by decide))
    have q2 : st_wr (st_wr v 0 21 0) 0 21 ((1 : Int32) <<< (nI b &&& 31)) 0 22 = nI n := by rw [wr_jn (by decide), wr_jn (by decide)]; exact h22
    rw [if_neg (show ¬ (240 : Int32) ≤ nI w from nI_ge (b := 240) (by omega) (by omega))]
    dsimp only [bd]
    rw [code_g hB s1 (th_al hn (by rw [wr_jn (by decide)]; exact h22) (wr_js _ _ _ _)) hg (by omega), o1_s]
    simp only [fX8_takes_L69]
    dsimp only [bd]
    rw [code_g hB s2 (th_wo hn hb q2 (wr_js _ _ _ _)) hg (by omega), o1_s]
    obtain ⟨v', e1, e2⟩ := ih f (w + 1) _ s2 q2 (by omega) (by omega)
    rw [cnt] at e1
    refine ⟨v', ?_, e2⟩
    have p1 : ∀ th : Nat → Bool, (cod (cM τ) n th g w ≤ nI 0) = (mayB (cM τ) n th g w = false) := fun th => propext (by
      rw [show nI 0 = (0 : Int32) from rfl, cod_pos hn hB.2.2.2.2.2]
      unfold mayB
      by_cases c : cod (cM τ) n th g w = 0 <;> simp [c])
    simp only [o1_s, p1, fX8_takes_L93, fX8_takes_L108, fX8_takes_L123, fX8_takes_L130, fX8_takes_L131, bd, nI_1, l_0, l_1, nI_add, Nat.add_zero]
    unfold tkP at e1 ⊢
    have z1 : (nI 1 = nI 0) = False := by simp (disch := omega) only [nI_eq]; decide
    have z0 : (nI 0 = nI 1) = False := by simp (disch := omega) only [nI_eq]; decide
    rcases (show k = 0 ∨ k = 1 by omega) with rfl | rfl <;> cases a1 : mayB (cM τ) n th1 g w <;> cases a2 : mayB (cM τ) n (thW b) g w <;> simp only [a1, a2, z0, z1, if_true, if_false, Bool.and_true, Bool.and_false, Bool.not_true, Bool.not_false, Bool.true_and, Bool.false_and, Bool.false_eq_true, Bool.true_eq_false, eq_self_iff_true, ↓reduceIte, Nat.one_ne_zero] at e1 ⊢ <;> exact e1
theorem op_takes {σ τ : St} (h : Inv σ τ) (b g k : Int32) : ∃ r τ', fX7_takes σ b g k = some r ∧ fX8_takes τ b g k = some (r, τ') ∧ Inv σ τ' := by
  obtain ⟨⟨n, hB⟩, -⟩ := id h
  obtain ⟨hn, b1, b2, -⟩ := id hB
  unfold fX7_takes fX8_takes
  rw [noB_e, noG_e, off_e, isB_e, isG_e, j_0, j_1, in_e, b1, b2]
  simp only [gt_c]
  cases hb : off b 0 (nI n - 1)
  · cases hg : off g 0 5
    · cases hk : off k 0 1
      · obtain ⟨b, hb', rfl⟩ := off_n (by omega) hb
        obtain ⟨g, hg', rfl⟩ := off_0 (b := 5) (by decide) hg
        obtain ⟨k, hk', rfl⟩ := off_0 (b := 1) (by decide) hk
        simp only [Bool.not_false, Bool.not_true, if_true, if_false, Bool.false_eq_true, ↓reduceIte]
        obtain ⟨v, e1, e2, e3, e4, -⟩ := allThere_e τ
        rw [e1, o1_s]
        obtain ⟨v', a1, a2⟩ := takes_M hB hb' (show g < 6 by omega) hk' 240 2000 0 v e2 (e4.trans b2) (by omega) (by omega)
        rw [show nI (cnt (tkP τ n b g k) 0) = (0 : Int32) from rfl, show nI 0 = (0 : Int32) from rfl] at a1
        rw [a1]
        dsimp only [bd]
        unfold fX0_countLost
        have hall : ∀ i, i < n → bt (-1 : Int32) i = th1 i := m1_all hn
        have hwo : ∀ i, i < n → bt (((1 : Int32) <<< (nI b &&& 31)) ^^^ (-1)) i = thW b i := fun i hi => wo_X b (by omega) i (by omega)
        rcases (show k = 0 ∨ k = 1 by omega) with rfl | rfl
        · have := lost_X hB hall hwo (show g < 6 by omega) 240 2000 0 (by omega) (by omega)
          rw [show nI (cnt (fun w => mayB (cM τ) n th1 g w && !mayB (cM τ) n (thW b) g w) 0) = (0 : Int32) from rfl, show nI 0 = (0 : Int32) from rfl] at this
          rw [if_pos (by decide), this]
          exact ⟨_, _, rfl, rfl, Inv_sc h (scX_rf _) a2⟩
        · have := lost_X hB hwo hall (show g < 6 by omega) 240 2000 0 (by omega) (by omega)
          rw [show nI (cnt (fun w => mayB (cM τ) n (thW b) g w && !mayB (cM τ) n th1 g w) 0) = (0 : Int32) from rfl, show nI 0 = (0 : Int32) from rfl] at this
          rw [if_neg (by decide), this]
          exact ⟨_, _, rfl, rfl, Inv_sc h (scX_rf _) a2⟩
      · exact ⟨_, _, rfl, rfl, h⟩
    · exact ⟨_, _, rfl, rfl, h⟩
  · exact ⟨_, _, rfl, rfl, h⟩
/-- what counts is only which bounds that reach the work count -/
theorem cod_th {c : Nat → Nat → Int32} {n : Nat} {t1 t2 : Nat → Bool} (g w : Nat) (h : ∀ j, j < n → (t1 j && rch c j w) = (t2 j && rch c j w)) : cod c n t1 g w = cod c n t2 g w := by
  unfold cod
  congr 1
  unfold dcd
  rw [fstI_cg (P := k_gr c t1 g w) (Q := k_gr c t2 g w) (fun b hb => by unfold k_gr; rw [h b hb])]
  rw [fstI_cg (P := k_fo c t1 g w) (Q := k_fo c t2 g w) (fun b hb => by unfold k_fo; rw [h b hb])]
  rw [lstI_cg (P := k_pl c t1 g w) (Q := k_pl c t2 g w) (fun b hb => by unfold k_pl; rw [h b hb])]
  rw [lstI_cg (P := k_oo c t1 g w) (Q := k_oo c t2 g w) (fun b hb => by unfold k_oo; rw [h b hb])]
theorem chg_X {σ τ : St} {n w : Nat} {m1 : Int32} {t1 : Nat → Bool} (hB : BInv σ τ n) (h1 : ∀ b, b < n → bt m1 b = t1 b) (hw : w < 240) : ∀ (m f g : Nat), g + m = 6 → m < f → ∃ B : Bool, fX0_isChanged_L2 σ f (nI w) m1 (nI g) = some (bz B) ∧ (B = false ↔ ∀ g', g ≤ g' → g' < 6 → cod (cM τ) n th1 g' w = cod (cM τ) n t1 g' w) := by
  have hn := hB.1
  intro m
  induction m with
  | zero =>
    intro f g hg hf
    obtain ⟨f, rfl⟩ : ∃ f', f = f' + 1 := ⟨f - 1, by omega⟩
    have : g = 6 := by omega
    subst this
    rw [fX0_isChanged_L2]
    dsimp only
    rw [if_pos (by decide)]
    exact ⟨false, rfl, fun _ g' h1 h2 => by omega, fun _ => rfl⟩
  | succ m ih =>
    intro f g hg hf
    obtain ⟨f, rfl⟩ : ∃ f', f = f' + 1 := ⟨f - 1, by omega⟩
    rw [fX0_isChanged_L2]
    dsimp only
    rw [if_neg (show ¬ (6 : Int32) ≤ nI g from nI_ge (b := 6) (by omega) (by omega)), leave_g hB (m1_all hn) (by omega) hw, o1_s, leave_g hB h1 (by omega) hw, o1_s]
    by_cases c : cod (cM τ) n th1 g w = cod (cM τ) n t1 g w
    · rw [if_pos c]
      dsimp only [bd]
      rw [nI_1]
      obtain ⟨B, e1, e2⟩ := ih f (g + 1) (by omega) (by omega)
      refine ⟨B, e1, e2.trans ⟨fun q g' h1 h2 => ?_, fun q g' h1 h2 => q g' (by omega) h2⟩⟩
      by_cases z : g' = g
      · subst z; exact c
      · exact q g' (by omega) h2
    · rw [if_neg c]
      exact ⟨true, rfl, (fun q => by cases q), fun q => absurd (q g (Nat.le_refl g) (by omega)) c⟩
theorem idl_X {σ τ : St} {n b : Nat} (hB : BInv σ τ n) (hb : b < n) : ∀ (m f w : Nat), w + m = 240 → m < f → ∃ B : Bool, fX0_isIdle_L8 σ f (((1 : Int32) <<< (nI b &&& 31)) ^^^ (-1)) (nI w) = some (bz B) ∧ (B = true ↔ ∀ w', w ≤ w' → w' < 240 → ∀ g, g < 6 → cod (cM τ) n th1 g w' = cod (cM τ) n (thW b) g w') := by
  obtain ⟨hn, b1, b2, b3, b4, b5⟩ := id hB
  have hwo : ∀ i, i < n → bt (((1 : Int32) <<< (nI b &&& 31)) ^^^ (-1)) i = thW b i := fun i hi => wo_X b (by omega) i (by omega)
  intro m
  induction m with
  | zero =>
    intro f w hw hf
    obtain ⟨f, rfl⟩ : ∃ f', f = f' + 1 := ⟨f - 1, by omega⟩
    have : w = 240 := by omega
    subst this
    rw [fX0_isIdle_L8]
    dsimp only
    rw [if_pos (by decide)]
    exact ⟨true, rfl, fun _ g' h1 h2 => by omega, fun _ => rfl⟩
  | succ m ih =>
    intro f w hw hf
    obtain ⟨f, rfl⟩ : ∃ f', f = f' + 1 := ⟨f - 1, by omega⟩
    rw [fX0_isIdle_L8]
    dsimp only
    have hw' : w < 240 := by omega
    rw [if_neg (show ¬ (240 : Int32) ≤ nI w from nI_ge (b := 240) (by omega) (by omega)), ald_e hw' (by decide)]
    have hbit : ∀ i, i < 32 → bt (σ 12 w &&& ((((1 : Int32) <<< (nI b &&& 31)) ^^^ (-1)) ^^^ (-1))) i = (bt (σ 12 w) i && decide (i = b)) := by
      intro i hi
      rw [b_and, b_xor, wo_X b (by omega) i hi, b_m1 i hi]
      cases decide (i = b) <;> simp
    have hr : bt (σ 12 w) b = rch (cM τ) b w := by rw [isM_bt hn (b4.1 w hw') hb, rch_cg w b3 hb]
    simp only [fX0_isIdle_L39, bd, nI_1]
    obtain ⟨B, e1, e2⟩ := ih f (w + 1) (by omega) (by omega)
    by_cases c : σ 12 w &&& ((((1 : Int32) <<< (nI b &&& 31)) ^^^ (-1)) ^^^ (-1)) = 0
    · rw [if_pos c]
      have hr0 : rch (cM τ) b w = false := by
        have := hbit b (by omega)
        rw [c, b_0, hr, decide_eq_true rfl, Bool.and_true] at this
        exact this.symm
      refine ⟨B, e1, e2.trans ⟨fun q w' h1 h2 g hg => ?_, fun q w' h1 h2 => q w' (by omega) h2⟩⟩
      by_cases z : w' = w
      · subst z
        refine cod_th g w' (fun j hj => ?_)
        by_cases hj2 : j = b
        · subst hj2; rw [hr0, Bool.and_false, Bool.and_false]
        · unfold th1 thW; rw [decide_eq_false hj2]; rfl
      · exact q w' (by omega) h2 g hg
    · rw [if_neg c]
      unfold fX0_isChanged
      obtain ⟨C, c1, c2⟩ := chg_X hB hwo hw' 6 2000 0 (by omega) (by omega)
      rw [show nI 0 = (0 : Int32) from rfl] at c1
      rw [c1, gt_c]
      cases hC : C
      · simp only [Bool.not_false, Bool.not_true, if_true, if_false, Bool.false_eq_true, ↓reduceIte]
        refine ⟨B, e1, e2.trans ⟨fun q w' h1 h2 g hg => ?_, fun q w' h1 h2 => q w' (by omega) h2⟩⟩
        by_cases z : w' = w
        · subst z; exact c2.mp hC g (Nat.zero_le g) hg
        · exact q w' (by omega) h2 g hg
      · refine ⟨false, rfl, (fun q => by cases q), fun q => ?_⟩
        have := c2.mpr (fun g _ hg => q w (Nat.le_refl w) hw' g hg)
        rw [hC] at this; cases this
theorem idl_M {σ τ : St} {n b : Nat} (hB : BInv σ τ n) (hb : b < n) : ∀ (m f k : Nat) (v : St), scM τ v → v 0 22 = nI n → k + m = 1440 → m < f → ∃ (B : Bool) (v' : St), fX8_isIdle_L2 f v (nI b) (nI k) = some (bz B, v') ∧ scM τ v' ∧ v' 0 22 = nI n ∧ (B = true ↔ ∀ k', k ≤ k' → k' < 1440 → cod (cM τ) n th1 (k' / 240) (k' % 240) = cod (cM τ) n (thW b) (k' / 240) (k' % 240)) := by
  have hn := hB.1
  intro m
  induction m with
  | zero =>
    intro f k v hs h22 hk hf
    obtain ⟨f, rfl⟩ : ∃ f', f = f' + 1 := ⟨f - 1, by omega⟩
    have : k = 1440 := by omega
    subst this
    rw [fX8_isIdle_L2]
    dsimp only
    rw [if_pos (by decide)]
    exact ⟨true, v, rfl, hs, h22, fun _ g' h1 h2 => by omega, fun _ => rfl⟩
  | succ m ih =>
    intro f k v hs h22 hk hf
    obtain ⟨f, rfl⟩ : ∃ f', f = f' + 1 := ⟨f - 1, by omega⟩
    rw [fX8_isIdle_L2]
    dsimp only
    have s1 : scM τ (st_wr v 0 21 0) := scM_tr hs (scM_0 (by decide) (by decide) (by decide) (by decide) (by decide))
    have s2 : scM τ (st_wr (st_wr v 0 21 0) 0 21 ((1 : Int32) <<< (nI b &&& 31))) := scM_tr s1 (scM_0 (by decide) (by decide) (by decide) (by decide) (by decide))
    have q2 : st_wr (st_wr v 0 21 0) 0 21 ((1 : Int32) <<< (nI b &&& 31)) 0 22 = nI n := by rw [wr_jn (by decide), wr_jn (by decide)]; exact h22
    rw [if_neg (show ¬ (1440 : Int32) ≤ nI k from nI_ge (b := 1440) (by omega) (by omega))]
    have ed : nI k / (240 : Int32) = nI (k / 240) := by rw [l_240, pk_div (by omega) (by omega) (by omega)]
    have er : nI k - nI k / (240 : Int32) * (240 : Int32) = nI (k % 240) := by rw [l_240]; exact pk_rem (by omega) (by omega) (by omega)
    rw [er, ed]
    dsimp only [bd]
    rw [code_g hB s1 (th_al hn (by rw [wr_jn (by decide)]; exact h22) (wr_js _ _ _ _)) (by omega) (by omega), o1_s]
    rw [code_g hB s2 (th_wo hn hb q2 (wr_js _ _ _ _)) (by omega) (by omega), o1_s]
    by_cases c : cod (cM τ) n (thW b) (k / 240) (k % 240) = cod (cM τ) n th1 (k / 240) (k % 240)
    · rw [if_pos c, nI_1]
      obtain ⟨B, v', e1, e2, e3, e4⟩ := ih f (k + 1) _ s2 q2 (by omega) (by omega)
      refine ⟨B, v', e1, e2, e3, e4.trans ⟨fun q k' h1 h2 => ?_, fun q k' h1 h2 => q k' (by omega) h2⟩⟩
      by_cases z : k' = k
      · subst z; exact c.symm
      · exact q k' (by omega) h2
    · rw [if_neg c]
      exact ⟨false, _, rfl, s2, q2, (fun q => by cases q), fun q => absurd (q k (Nat.le_refl k) (by omega)).symm c⟩
theorem idle_eq {σ τ v : St} {n b : Nat} (hB : BInv σ τ n) (hb : b < n) (hs : scM τ v) (h22 : v 0 22 = nI n) : ∃ (B : Bool) (v' : St), fX0_isIdle σ (nI b) = some (bz B) ∧ fX8_isIdle v (nI b) = some (bz B, v') ∧ scM τ v' ∧ v' 0 22 = nI n := by
  obtain ⟨B, x1, x2⟩ := idl_X hB hb 240 2000 0 (by omega) (by omega)
  obtain ⟨C, v', m1, m2, m3, m4⟩ := idl_M hB hb 1440 2000 0 v hs h22 (by omega) (by omega)
  have : B = C := by
    have iff : B = true ↔ C = true := by
      rw [x2, m4]
      refine ⟨fun q k' _ h2 => q (k' % 240) (Nat.zero_le _) (by omega) (k' / 240) (by omega), fun q w' _ h2 g hg => ?_⟩
      have := q (240 * g + w') (Nat.zero_le _) (by omega)
      rw [show (240 * g + w') / 240 = g by omega, show (240 * g + w') % 240 = w' by omega] at this
      exact this
    cases B <;> cases C <;> simp at iff ⊢
  subst this
  exact ⟨B, v', x1, m1, m2, m3⟩
theorem idle_loop {σ τ : St} {n : Nat} (hB : BInv σ τ n) : ∀ (m f b : Nat) (v : St) (x : Int32), scM τ v → v 0 22 = nI n → b + m = n → m < f → ∃ (r : Int32) (v' : St), fX7_idle_L4 σ f x (nI b) = some r ∧ fX8_idle_L8 f v x (nI b) = some (r, v') ∧ scM τ v' := by
  obtain ⟨hn, b1, b2, b3, b4, b5⟩ := id hB
  intro m
  induction m with
  | zero =>
    intro f b v x hs h22 hb hf
    obtain ⟨f, rfl⟩ : ∃ f', f = f' + 1 := ⟨f - 1, by omega⟩
    have : b = n := by omega
    subst this
    rw [fX7_idle_L4, fX8_idle_L8]
    dsimp only
    rw [b1, hs.1.2.1, b2, if_pos (nI_le (Nat.le_refl _) (by omega))]
    exact ⟨x, v, rfl, if_pos (nI_le (Nat.le_refl _) (by omega)), hs⟩
  | succ m ih =>
    intro f b v x hs h22 hb hf
    obtain ⟨f, rfl⟩ : ∃ f', f = f' + 1 := ⟨f - 1, by omega⟩
    rw [fX7_idle_L4, fX8_idle_L8]
    dsimp only
    obtain ⟨B, v', e1, e2, e3, e4⟩ := idle_eq hB (show b < n by omega) hs h22
    rw [b1, hs.1.2.1, b2, if_neg (nI_ge (by omega) (by omega)), if_neg (nI_ge (by omega) (by omega)), e1, e2]
    cases B
    · show ∃ r v'', fX7_idle_L4 σ f x (nI b + 1) = _ ∧ fX8_idle_L8 f v' (x ||| 0) (nI b + 1) = _ ∧ _
      rw [or0, nI_1]
      exact ih f (b + 1) v' x e3 e4 (by omega) (by omega)
    · show ∃ r v'', fX7_idle_L4 σ f (x ||| ((1 : Int32) <<< (nI b &&& 31))) (nI b + 1) = _ ∧ fX8_idle_L8 f v' (x ||| ((1 : Int32) <<< (nI b &&& 31))) (nI b + 1) = _ ∧ _
      rw [nI_1]
      exact ih f (b + 1) v' _ e3 e4 (by omega) (by omega)
theorem op_idle {σ τ : St} (h : Inv σ τ) : ∃ r τ', fX7_idle σ = some r ∧ fX8_idle τ = some (r, τ') ∧ Inv σ τ' := by
  obtain ⟨⟨n, hB⟩, -⟩ := id h
  obtain ⟨v, e1, e2, e3, e4, -⟩ := allThere_e τ
  unfold fX7_idle fX8_idle
  rw [e1, o1_s]
  obtain ⟨r, v', a1, a2, a3⟩ := idle_loop hB n 2000 0 v 0 e2 (e4.trans hB.2.2.1) (by omega) (by have := hB.1; omega)
  exact ⟨r, v', a1, a2, Inv_sc h (scX_rf _) a3⟩
