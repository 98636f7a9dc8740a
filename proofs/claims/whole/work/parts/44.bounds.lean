/-! ===== new bounds ===== -/
theorem bitn : ∀ n, n < 20 → ∀ i, i < 32 → bt ((1 : Int32) <<< (nI n &&& 31)) i = decide (i = n) := by decide +kernel
def bitI (m : Nat) : Int32 := (1 : Int32) <<< (nI m &&& 31)
theorem isM_on {x : Int32} {n : Nat} {P : Nat → Bool} (hn : n < 20) (h : isM x n P) (hp : P n = true) : isM (x ||| bitI n) (n + 1) P := by
  intro i hi
  unfold bitI
  rw [b_or, h i hi, bitn n hn i hi]
  by_cases c : i = n
  · rw [c, hp, decide_eq_true (show n < n + 1 by omega), decide_eq_true rfl]; simp
  · rw [decide_eq_false c, Bool.or_false, show decide (i < n) = decide (i < n + 1) from decide_eq_decide.mpr (by omega)]
theorem isM_off {x : Int32} {n : Nat} {P : Nat → Bool} (h : isM x n P) (hp : P n = false) : isM x (n + 1) P := by
  intro i hi
  rw [h i hi]
  by_cases c : i = n
  · rw [c, hp, Bool.and_false, Bool.and_false]
  · rw [show decide (i < n) = decide (i < n + 1) from decide_eq_decide.mpr (by omega)]
theorem isM_if {x : Int32} {n : Nat} {P : Nat → Bool} (hn : n < 20) (h : isM x n P) (b : Bool) (hb : P n = b) : isM (if b then x ||| bitI n else x) (n + 1) P := by
  cases b
  · exact isM_off h hb
  · exact isM_on hn h hb
theorem enter_w {u : St} {m : Nat} (hm : m < 20) : ∃ u', fX0_enter_L102 u (nI m) (bitI m) = some u' ∧ (∀ q, q ≠ 12 → u' q = u q) ∧ ∀ w, w < 240 → u' 12 w = if rch (cX u) m w then u 12 w ||| bitI m else u 12 w := by
  have loop : ∀ (k f w : Nat) (v : St), w + k = 240 → k < f → (∀ q, q ≠ 12 → v q = u q) → (∀ i, i < w → v 12 i = if rch (cX u) m i then u 12 i ||| bitI m else u 12 i) → (∀ i, w ≤ i → v 12 i = u 12 i) → ∃ u', fX0_enter_L105 f v (nI m) (bitI m) (nI w) = some u' ∧ (∀ q, q ≠ 12 → u' q = u q) ∧ ∀ w, w < 240 → u' 12 w = if rch (cX u) m w then u 12 w ||| bitI m else u 12 w := by
    intro k
    induction k with
    | zero =>
      intro f w v hw hf h1 h2 h3
      obtain ⟨f, rfl⟩ : ∃ g, f = g + 1 := ⟨f - 1, by omega⟩
      have : w = 240 := by omega
      subst this
      rw [fX0_enter_L105]
      dsimp only
      rw [if_pos (by decide)]
      exact ⟨v, rfl, h1, h2⟩
    | succ k ih =>
      intro f w v hw hf h1 h2 h3
      obtain ⟨f, rfl⟩ : ∃ g, f = g + 1 := ⟨f - 1, by omega⟩
      have hc : cX v = cX u := by unfold cX; rw [h1 11 (by decide)]
      rw [fX0_enter_L105]
      dsimp only
      rw [if_neg (show ¬ (240 : Int32) ≤ nI w from nI_ge (b := 240) (by omega) (by omega)), reaches_X hm (by omega), gt_c, hc]
      unfold fX0_enter_L134
      cases hr : rch (cX u) m w
      · simp only [Bool.not_false, Bool.not_true, if_true, if_false, Bool.false_eq_true, ↓reduceIte]
        rw [bd_e, nI_1]
        refine ih f (w + 1) v (by omega) (by omega) h1 (fun i hi => ?_) (fun i hi => h3 i (by omega))
        by_cases e : i = w
        · rw [e, hr, h3 w (Nat.le_refl _)]; rfl
        · exact h2 i (by omega)
      · simp only [Bool.not_false, Bool.not_true, if_true, if_false, Bool.false_eq_true, ↓reduceIte]
        rw [ald_e (by omega) (by decide), asr_e (by omega) (by decide), bd_e, nI_1, h3 w (Nat.le_refl _)]
        refine ih f (w + 1) _ (by omega) (by omega) (fun q hq => by rw [wr_ne hq]; exact h1 q hq) (fun i hi => ?_) (fun i hi => by rw [wr_jn (by omega)]; exact h3 i (by omega))
        by_cases e : i = w
        · rw [e, hr, wr_js]; rfl
        · rw [wr_jn e]; exact h2 i (by omega)
  unfold fX0_enter_L102
  exact loop 240 2000 0 u (by omega) (by omega) (fun _ _ => rfl) (fun i hi => absurd hi (Nat.not_lt_zero i)) (fun _ _ => rfl)
theorem enter_o {u : St} {m g : Nat} (hg : g < 6) : ∃ u', fX0_enter_L57 2000 u (nI m) (bitI m) (nI g) 0 = fX0_enter_L102 u' (nI m) (bitI m) ∧ (∀ q, q ≠ 14 → q ≠ 15 → u' q = u q) ∧ (∀ j, j < 6 → u' 14 j = if decide (g = j) then u 14 j ||| bitI m else u 14 j) ∧ ∀ j, j < 6 → u' 15 j = if !decide (g = j) then u 15 j ||| bitI m else u 15 j := by
  have loop : ∀ (k f w : Nat) (v : St), w + k = 6 → k < f → (∀ q, q ≠ 14 → q ≠ 15 → v q = u q) → (∀ j, j < w → v 14 j = if decide (g = j) then u 14 j ||| bitI m else u 14 j) → (∀ j, j < w → v 15 j = if !decide (g = j) then u 15 j ||| bitI m else u 15 j) → (∀ i, w ≤ i → v 14 i = u 14 i ∧ v 15 i = u 15 i) → ∃ u', fX0_enter_L57 f v (nI m) (bitI m) (nI g) (nI w) = fX0_enter_L102 u' (nI m) (bitI m) ∧ (∀ q, q ≠ 14 → q ≠ 15 → u' q = u q) ∧ (∀ j, j < 6 → u' 14 j = if decide (g = j) then u 14 j ||| bitI m else u 14 j) ∧ ∀ j, j < 6 → u' 15 j = if !decide (g = j) then u 15 j ||| bitI m else u 15 j := by
    intro k
    induction k with
    | zero =>
      intro f w v hw hf h1 h2 h3 h4
      obtain ⟨f, rfl⟩ : ∃ g, f = g + 1 := ⟨f - 1, by omega⟩
      have : w = 6 := by omega
      subst this
      rw [fX0_enter_L57]
      dsimp only
      rw [if_pos (by decide)]
      exact ⟨v, rfl, h1, h2, h3⟩
    | succ k ih =>
      intro f w v hw hf h1 h2 h3 h4
      obtain ⟨f, rfl⟩ : ∃ g, f = g + 1 := ⟨f - 1, by omega⟩
      obtain ⟨h4a, h4b⟩ := h4 w (Nat.le_refl _)
      rw [fX0_enter_L57]
      dsimp only
      rw [if_neg (show ¬ (6 : Int32) ≤ nI w from nI_ge (b := 6) (by omega) (by omega))]
      unfold fX0_enter_L96
      by_cases c : w = g
      · subst c
        rw [if_pos rfl, ald_e (by omega) (by decide), asr_e (by omega) (by decide), bd_e, nI_1, h4a]
        refine ih f (w + 1) _ (by omega) (by omega) (fun q q1 q2 => by rw [wr_ne q1]; exact h1 q q1 q2) (fun j hj => ?_) (fun j hj => ?_) (fun i hi => by rw [wr_jn (by omega), wr_ne (by decide)]; exact h4 i (by omega))
        · by_cases e : j = w
          · rw [e, wr_js, decide_eq_true rfl]; rfl
          · rw [wr_jn e]; exact h2 j (by omega)
        · rw [wr_ne (by decide)]
          by_cases e : j = w
          · rw [e, h4b, decide_eq_true rfl]; rfl
          · exact h3 j (by omega)
      · have ng : ¬ nI w = nI g := by rw [nI_eq (by omega) (by omega)]; exact c
        rw [if_neg ng, ald_e (by omega) (by decide), asr_e (by omega) (by decide), bd_e, nI_1, h4b]
        refine ih f (w + 1) _ (by omega) (by omega) (fun q q1 q2 => by rw [wr_ne q2]; exact h1 q q1 q2) (fun j hj => ?_) (fun j hj => ?_) (fun i hi => by rw [wr_ne (by decide), wr_jn (by omega)]; exact h4 i (by omega))
        · rw [wr_ne (by decide)]
          by_cases e : j = w
          · rw [e, h4a, decide_eq_false (fun q => c q.symm)]; rfl
          · exact h2 j (by omega)
        · by_cases e : j = w
          · rw [e, wr_js, decide_eq_false (fun q => c q.symm)]; rfl
          · rw [wr_jn e]; exact h3 j (by omega)
  exact loop 6 2000 0 u (by omega) (by omega) (fun _ _ _ => rfl) (fun i hi => absurd hi (Nat.not_lt_zero i)) (fun i hi => absurd hi (Nat.not_lt_zero i)) (fun _ _ => ⟨rfl, rfl⟩)
theorem enter_e {u : St} {m s g : Nat} (hm : m < 20) (hT : tabX u m) (hs : s < 5) (hg : g < 6) (es : cX u m 0 = nI s) (eg : cX u m 1 = nI g) : ∃ u', fX0_enter u (nI m) = some u' ∧ tabX u' (m + 1) ∧ ∀ q, q < 12 ∨ 16 < q → u' q = u q := by
  obtain ⟨t1, t2, t3, t4, t5⟩ := hT
  have d4 : ∀ j, j < 6 → (decide (cX u m 0 = nI 4) && decide (cX u m 1 = nI j)) = (decide (s = 4) && decide (g = j)) := fun j hj => by
    rw [es, eg]; simp only [nI_eq (show s < 2 ^ 31 by omega) (show 4 < 2 ^ 31 by omega), nI_eq (show g < 2 ^ 31 by omega) (show j < 2 ^ 31 by omega)]
  have d2 : ∀ j, j < 6 → (decide (cX u m 0 = nI 2) && decide (cX u m 1 = nI j)) = (decide (s = 2) && decide (g = j)) := fun j hj => by
    rw [es, eg]; simp only [nI_eq (show s < 2 ^ 31 by omega) (show 2 < 2 ^ 31 by omega), nI_eq (show g < 2 ^ 31 by omega) (show j < 2 ^ 31 by omega)]
  have d2' : ∀ j, j < 6 → (decide (cX u m 0 = nI 2) && !decide (cX u m 1 = nI j)) = (decide (s = 2) && !decide (g = j)) := fun j hj => by
    rw [es, eg]; simp only [nI_eq (show s < 2 ^ 31 by omega) (show 2 < 2 ^ 31 by omega), nI_eq (show g < 2 ^ 31 by omega) (show j < 2 ^ 31 by omega)]
  have d4' : ∀ j, j < 6 → (!decide (cX u m 0 = nI 4) && decide (cX u m 1 = nI j)) = (!decide (s = 4) && decide (g = j)) := fun j hj => by
    rw [es, eg]; simp only [nI_eq (show s < 2 ^ 31 by omega) (show 4 < 2 ^ 31 by omega), nI_eq (show g < 2 ^ 31 by omega) (show j < 2 ^ 31 by omega)]
  -- what is left when the first table is written
  have rest : ∀ u1 : St, (∀ q, q ≠ 13 → q ≠ 16 → u1 q = u q) → (∀ j, j < 6 → u1 13 j = if (decide (s = 4) && decide (g = j)) then u 13 j ||| bitI m else u 13 j) → (∀ j, j < 6 → u1 16 j = if (!decide (s = 4) && decide (g = j)) then u 16 j ||| bitI m else u 16 j) → ∃ u', fX0_enter_L49 u1 (nI m) (bitI m) (nI s) (nI g) = some u' ∧ tabX u' (m + 1) ∧ ∀ q, q < 12 ∨ 16 < q → u' q = u q := by
    intro u1 k1 k2 k3
    have two : ∃ u2, fX0_enter_L49 u1 (nI m) (bitI m) (nI s) (nI g) = fX0_enter_L102 u2 (nI m) (bitI m) ∧ (∀ q, q ≠ 14 → q ≠ 15 → u2 q = u1 q) ∧ (∀ j, j < 6 → u2 14 j = if (decide (s = 2) && decide (g = j)) then u 14 j ||| bitI m else u 14 j) ∧ ∀ j, j < 6 → u2 15 j = if (decide (s = 2) && !decide (g = j)) then u 15 j ||| bitI m else u 15 j := by
      unfold fX0_enter_L49
      by_cases c : s = 2
      · rw [if_pos (show nI s = (2 : Int32) by rw [c]; rfl), decide_eq_true c]
        obtain ⟨u2, a1, a2, a3, a4⟩ := enter_o (u := u1) (m := m) hg
        simp only [Bool.true_and]
        exact ⟨u2, a1, a2, fun j hj => by rw [a3 j hj, k1 14 (by decide) (by decide)], fun j hj => by rw [a4 j hj, k1 15 (by decide) (by decide)]⟩
      · rw [if_neg (show ¬ nI s = (2 : Int32) from by rw [l_2, nI_eq (by omega) (by omega)]; exact c), decide_eq_false c]
        simp only [Bool.false_and]
        exact ⟨u1, rfl, fun _ _ _ => rfl, fun j _ => by rw [k1 14 (by decide) (by decide)]; rfl, fun j _ => by rw [k1 15 (by decide) (by decide)]; rfl⟩
    obtain ⟨u2, a1, a2, a3, a4⟩ := two
    obtain ⟨u3, b1, b2, b3⟩ := enter_w (u := u2) hm
    have hcx : cX u3 = cX u := by unfold cX; rw [b2 11 (by decide), a2 11 (by decide) (by decide), k1 11 (by decide) (by decide)]
    have hcx2 : cX u2 = cX u := by unfold cX; rw [a2 11 (by decide) (by decide), k1 11 (by decide) (by decide)]
    refine ⟨u3, by rw [a1, b1], ⟨fun w hw => ?_, fun j hj => ?_, fun j hj => ?_, fun j hj => ?_, fun j hj => ?_⟩, fun q hq => by rw [b2 q (by omega), a2 q (by omega) (by omega), k1 q (by omega) (by omega)]⟩
    · rw [hcx, b3 w hw, hcx2, a2 12 (by decide) (by decide), k1 12 (by decide) (by decide)]
      exact isM_if hm (t1 w hw) _ rfl
    · rw [hcx, b2 13 (by decide), a2 13 (by decide) (by decide), k2 j hj]
      exact isM_if hm (t2 j hj) _ (d4 j hj)
    · rw [hcx, b2 14 (by decide), a3 j hj]
      exact isM_if hm (t3 j hj) _ (d2 j hj)
    · rw [hcx, b2 15 (by decide), a4 j hj]
      exact isM_if hm (t4 j hj) _ (d2' j hj)
    · rw [hcx, b2 16 (by decide), a2 16 (by decide) (by decide), k3 j hj]
      exact isM_if hm (t5 j hj) _ (d4' j hj)
  unfold fX0_enter
  rw [bd_e, show fX0_cell u (nI m) (0 : Int32) = _ from cell_X (k := 0) hm (by omega), show fX0_cell u (nI m) (1 : Int32) = _ from cell_X (k := 1) hm (by omega), o1_s, o1_s, es, eg]
  by_cases c : s = 4
  · rw [if_pos (show nI s = (4 : Int32) by rw [c]; rfl), ald_e hg (by decide), asr_e hg (by decide)]
    refine rest _ (fun q q1 q2 => wr_ne q1) (fun j hj => ?_) (fun j hj => ?_)
    · rw [decide_eq_true c, Bool.true_and]
      by_cases e : j = g
      · rw [e, wr_js, decide_eq_true rfl]; rfl
      · rw [wr_jn e, decide_eq_false (fun q => e q.symm)]; rfl
    · rw [decide_eq_true c, wr_ne (by decide)]; rfl
  · rw [if_neg (show ¬ nI s = (4 : Int32) from by rw [l_4, nI_eq (by omega) (by omega)]; exact c), ald_e hg (by decide), asr_e hg (by decide)]
    refine rest _ (fun q q1 q2 => wr_ne q2) (fun j hj => ?_) (fun j hj => ?_)
    · rw [decide_eq_false c, wr_ne (by decide)]; rfl
    · rw [decide_eq_false c]
      by_cases e : j = g
      · rw [e, wr_js, decide_eq_true rfl]; rfl
      · rw [wr_jn e, decide_eq_false (fun q => e q.symm)]; rfl
theorem enact_e {u : St} {n R : Nat} (hn : n + R ≤ 20) (hR : R ≤ 8) (h3 : u 3 1 = nI n) (hT : tabX u n) (hw : ∀ q, q < R → wfL (u 10) q) : ∃ u', fX0_enact u (nI R) = some u' ∧ u' 3 1 = nI (n + R) ∧ tabX u' (n + R) ∧ (∀ q, q ≠ 3 → q < 11 ∨ 16 < q → u' q = u q) ∧ (∀ j, j ≠ 1 → u' 3 j = u 3 j) ∧ (∀ b, b < n → ∀ k, k < 7 → cX u' b k = cX u b k) ∧ ∀ q, q < R → ∀ k, k < 7 → cX u' (n + q) k = u 10 (7 * q + k) := by
  unfold fX0_enact
  rw [h3, l_7, pk_mul, pk_mul, show (0 : Int32) = nI 0 from rfl, acp_e (by omega) (by omega) (by decide) (by decide)]
  obtain ⟨u1, hu1⟩ : ∃ u1, u1 = st_up u 11 (va_cpy (u 10) (u 11) 0 (n * 7) (R * 7)) := ⟨_, rfl⟩
  rw [← hu1]
  have o11 : ∀ b, b < n → ∀ k, k < 7 → cX u1 b k = cX u b k := fun b hb k hk => by
    unfold cX; rw [hu1, up_at, pk_cpy_out (by omega)]
  have n11 : ∀ q, q < R → ∀ k, k < 7 → cX u1 (n + q) k = u 10 (7 * q + k) := fun q hq k hk => by
    unfold cX; rw [hu1, up_at, pk_cpy_in (by omega) (by omega)]; exact congrArg _ (by omega)
  have fr1 : ∀ q, q ≠ 11 → u1 q = u q := fun q hq => by rw [hu1, up_ne hq]
  clear hu1
  have T1 : tabX u1 n := by
    obtain ⟨t1, t2, t3, t4, t5⟩ := hT
    refine ⟨fun w hw => ?_, fun g hg => ?_, fun g hg => ?_, fun g hg => ?_, fun g hg => ?_⟩
    · rw [fr1 12 (by decide)]
      refine isM_cg (t1 w hw) (fun i hi => ?_)
      show rch (cX u) i w = rch (cX u1) i w
      unfold rch
      rw [o11 i hi 3 (by omega), o11 i hi 4 (by omega), o11 i hi 5 (by omega), o11 i hi 6 (by omega)]
    · rw [fr1 13 (by decide)]
      exact isM_cg (t2 g hg) (fun i hi => by rw [o11 i hi 0 (by omega), o11 i hi 1 (by omega)])
    · rw [fr1 14 (by decide)]
      exact isM_cg (t3 g hg) (fun i hi => by rw [o11 i hi 0 (by omega), o11 i hi 1 (by omega)])
    · rw [fr1 15 (by decide)]
      exact isM_cg (t4 g hg) (fun i hi => by rw [o11 i hi 0 (by omega), o11 i hi 1 (by omega)])
    · rw [fr1 16 (by decide)]
      exact isM_cg (t5 g hg) (fun i hi => by rw [o11 i hi 0 (by omega), o11 i hi 1 (by omega)])
  have loop : ∀ (m f i : Nat) (v : St), i + m = R → m < f → v 3 1 = nI (n + i) → tabX v (n + i) → (∀ q, q ≠ 3 → q < 12 ∨ 16 < q → v q = u1 q) → (∀ j, j ≠ 1 → v 3 j = u1 3 j) → ∃ u', fX0_enact_L22 f v (nI R) (nI i) = some u' ∧ u' 3 1 = nI (n + R) ∧ tabX u' (n + R) ∧ (∀ q, q ≠ 3 → q < 12 ∨ 16 < q → u' q = u1 q) ∧ ∀ j, j ≠ 1 → u' 3 j = u1 3 j := by
    intro m
    induction m with
    | zero =>
      intro f i v hi hf h1 h2 h4 h5
      obtain ⟨f, rfl⟩ : ∃ g, f = g + 1 := ⟨f - 1, by omega⟩
      have : i = R := by omega
      subst this
      rw [fX0_enact_L22]
      dsimp only
      rw [if_pos (nI_le (Nat.le_refl _) (by omega))]
      exact ⟨v, rfl, h1, h2, h4, h5⟩
    | succ m ih =>
      intro f i v hi hf h1 h2 h4 h5
      obtain ⟨f, rfl⟩ : ∃ g, f = g + 1 := ⟨f - 1, by omega⟩
      have hcx : cX v = cX u1 := by unfold cX; rw [h4 11 (by decide) (by decide)]
      obtain ⟨⟨s, s1, s2⟩, ⟨g, g1, g2⟩, -⟩ := hw i (by omega)
      obtain ⟨v2, a1, a2, a3⟩ := enter_e (u := v) (m := n + i) (by omega) h2 s1 g1 (by rw [hcx, n11 i (by omega) 0 (by omega)]; exact s2) (by rw [hcx, n11 i (by omega) 1 (by omega)]; exact g2)
      rw [fX0_enact_L22]
      dsimp only
      rw [if_neg (nI_ge (by omega) (by omega)), h1, a1, o1_s, bd_e, bd_e, nI_1, a3 3 (by decide), h1, nI_1]
      refine ih f (i + 1) _ (by omega) (by omega) (by rw [wr_js]; rfl) ?_ (fun q q1 q2 => by rw [wr_ne q1, a3 q q2]; exact h4 q q1 q2) (fun j hj => by rw [wr_jn hj, a3 3 (by decide)]; exact h5 j hj)
      have e : ∀ q, q ≠ 3 → st_wr v2 3 1 (nI (n + i + 1)) q = v2 q := fun q hq => wr_ne hq
      unfold tabX at a2 ⊢
      rw [show cX (st_wr v2 3 1 (nI (n + i + 1))) = cX v2 from by unfold cX; rw [e 11 (by decide)], e 12 (by decide), e 13 (by decide), e 14 (by decide), e 15 (by decide), e 16 (by decide)]
      exact a2
  obtain ⟨u', a1, a2, a3, a4, a5⟩ := loop R 2000 0 u1 (by omega) (by omega) (by rw [fr1 3 (by decide)]; exact h3) T1 (fun _ _ _ => rfl) (fun _ _ => rfl)
  have hcx : cX u' = cX u1 := by unfold cX; rw [a4 11 (by decide) (by decide)]
  exact ⟨u', a1, a2, a3, fun q q1 q2 => by rw [a4 q q1 (by omega), fr1 q (by omega)], fun j hj => by rw [a5 j hj, fr1 3 (by decide)], fun b hb k hk => by rw [hcx]; exact o11 b hb k hk, fun q hq k hk => by rw [hcx]; exact n11 q hq k hk⟩
theorem boundsM_e {v : St} {n R : Nat} (hn : n + R ≤ 20) (hR : R ≤ 8) (h3 : v 0 3 = nI n) (h5 : v 0 5 = nI R) : ∃ v', fX8_bounds_L30 2000 v 0 = some (nI (n + R), v') ∧ v' 0 3 = nI (n + R) ∧ v' 0 1 = 0 ∧ (∀ j, j ≠ 1 → j ≠ 3 → v' 0 j = v 0 j) ∧ (∀ q, q ≠ 0 → q ≠ 2 → v' q = v q) ∧ (∀ b, b < n → ∀ k, k < 7 → cM v' b k = cM v b k) ∧ ∀ q, q < R → ∀ k, k < 7 → cM v' (n + q) k = v 3 (7 * q + k) := by
  have loop : ∀ (m f i : Nat) (w : St), i + m = 7 * R → m < f → (∀ q, q ≠ 2 → w q = v q) → (∀ j, j < 7 * n → w 2 j = v 2 j) → (∀ j, j < i → w 2 (7 * n + j) = v 3 j) → ∃ v', fX8_bounds_L30 f w (nI i) = some (nI (n + R), v') ∧ v' 0 3 = nI (n + R) ∧ v' 0 1 = 0 ∧ (∀ j, j ≠ 1 → j ≠ 3 → v' 0 j = v 0 j) ∧ (∀ q, q ≠ 0 → q ≠ 2 → v' q = v q) ∧ (∀ j, j < 7 * n → v' 2 j = v 2 j) ∧ ∀ j, j < 7 * R → v' 2 (7 * n + j) = v 3 j := by
    intro m
    induction m with
    | zero =>
      intro f i w hi hf h1 h2 h4
      obtain ⟨f, rfl⟩ : ∃ g, f = g + 1 := ⟨f - 1, by omega⟩
      have : i = 7 * R := by omega
      subst this
      rw [fX8_bounds_L30]
      dsimp only
      rw [h1 0 (by decide), h5, l_7, pk_mul, if_pos (nI_le (Nat.le_refl _) (by omega))]
      unfold fX8_bounds_L67
      rw [bd_e, bd_e, h1 0 (by decide), h3, h5, nI_add, wr_jn (by decide), wr_js]
      exact ⟨_, rfl, by rw [wr_jn (by decide), wr_js], wr_js _ _ _ _, fun j j1 j3 => by rw [wr_jn j1, wr_jn j3, h1 0 (by decide)], fun q q0 q2 => by rw [wr_ne q0, wr_ne q0]; exact h1 q q2, fun j hj => by rw [wr_ne (by decide), wr_ne (by decide)]; exact h2 j hj, fun j hj => by rw [wr_ne (by decide), wr_ne (by decide)]; exact h4 j hj⟩
    | succ m ih =>
      intro f i w hi hf h1 h2 h4
      obtain ⟨f, rfl⟩ : ∃ g, f = g + 1 := ⟨f - 1, by omega⟩
      rw [fX8_bounds_L30]
      dsimp only
      rw [h1 0 (by decide), h5, h3, l_7, pk_mul, pk_mul, nI_add, if_neg (nI_ge (by omega) (by omega)), ald_e (by omega) (by decide), asr_e (by omega) (by decide), bd_e, nI_1, h1 3 (by decide)]
      refine ih f (i + 1) _ (by omega) (by omega) (fun q hq => by rw [wr_ne hq]; exact h1 q hq) (fun j hj => by rw [wr_jn (by omega)]; exact h2 j hj) (fun j hj => ?_)
      by_cases e : j = i
      · rw [e, wr_js]
      · rw [wr_jn (by omega)]; exact h4 j (by omega)
  obtain ⟨v', a1, a2, a3, a4, a5, a6, a7⟩ := loop (7 * R) 2000 0 v (by omega) (by omega) (fun _ _ => rfl) (fun _ _ => rfl) (fun j hj => absurd hj (Nat.not_lt_zero j))
  refine ⟨v', a1, a2, a3, a4, a5, fun b hb k hk => ?_, fun q hq k hk => ?_⟩
  · unfold cM; exact a6 _ (by omega)
  · unfold cM; rw [show 7 * (n + q) + k = 7 * n + (7 * q + k) by omega]; exact a7 _ (by omega)
theorem op_bounds {σ τ : St} (h : Inv σ τ) : ∃ r σ' τ', fX7_bounds σ = some (r, σ') ∧ fX8_bounds τ = some (r, τ') ∧ Inv σ' τ' := by
  obtain ⟨-, ⟨L, hL⟩, -⟩ := id h
  obtain ⟨res, u, v, a1, a2, a3, a4⟩ := text_e hL
  have I := Inv_sc h (FR_sc a3).1 (FR_sc a3).2
  obtain ⟨⟨n, hB⟩, -, hS, hP, hZ, hY⟩ := id I
  obtain ⟨n1, n2, n3, n4, n5, n6⟩ := id hB
  unfold fX7_bounds fX8_bounds
  rw [a1, a2, o2_s, o2_s]
  by_cases c : res = M1
  · obtain ⟨R, r1, r2, r3, r4, r5⟩ := a4 c
    rw [if_pos (show res = (-1 : Int32) from c), if_pos (show res = (-1 : Int32) from c), n2, n3, r2, r3, nI_add]
    by_cases d : n + R ≤ 20
    · rw [if_pos (show nI (n + R) ≤ (20 : Int32) from nI_le (b := 20) d (by omega)), if_pos (show nI (n + R) ≤ (20 : Int32) from nI_le (b := 20) d (by omega))]
      obtain ⟨u', b1, b2, b3, b4, b5, b6, b7⟩ := enact_e d r1 n2 n5 r5
      obtain ⟨v', d1, d2, d3, d4, d5, d6, d7⟩ := boundsM_e d r1 n3 r3
      rw [b1, o1_s, bd_e, d1, wr_ne (by decide), b2]
      have e : ∀ q, q ≠ 1 → st_wr u' 1 1 0 q = u' q := fun q hq => wr_ne hq
      refine ⟨_, st_wr u' 1 1 0, v', rfl, rfl, ⟨n + R, d, by rw [e 3 (by decide)]; exact b2, d2, ?_, ?_, ?_⟩, ⟨0, by omega, wr_js _ _ _ _, d3, fun i hi => absurd hi (Nat.not_lt_zero i)⟩, S_cg hS (fun t _ => ⟨by rw [e _ (by omega)]; exact b4 _ (by omega) (by omega), by rw [e _ (by omega)]; exact b4 _ (by omega) (by omega)⟩) (d5 4 (by decide) (by decide)) (d5 5 (by decide) (by decide)) (d5 6 (by decide) (by decide)), P_cg hP (by rw [e 17 (by decide)]; exact b4 17 (by decide) (by decide)) (by rw [e 18 (by decide)]; exact b4 18 (by decide) (by decide)) (by rw [e 4 (by decide), b4 4 (by decide) (by decide)]) (d5 7 (by decide) (by decide)) (d5 8 (by decide) (by decide)) (d4 11 (by decide) (by decide)), Z_cg hZ (by rw [e 7 (by decide), b4 7 (by decide) (by decide)]) (by rw [e 20 (by decide)]; exact b4 20 (by decide) (by decide)) (by rw [e 21 (by decide)]; exact b4 21 (by decide) (by decide)) (by rw [e 22 (by decide)]; exact b4 22 (by decide) (by decide)) (d4 15 (by decide) (by decide)) (d5 9 (by decide) (by decide)) (d5 10 (by decide) (by decide)) (d5 11 (by decide) (by decide)), Y_cg hY (by rw [e 0 (by decide), b4 0 (by decide) (by decide)]) (by rw [e 8 (by decide)]; exact b4 8 (by decide) (by decide)) (d4 17 (by decide) (by decide)) (d5 12 (by decide) (by decide))⟩
      · intro b hb k hk
        rw [show cX (st_wr u' 1 1 0) = cX u' from by unfold cX; rw [e 11 (by decide)]]
        by_cases q : b < n
        · rw [b6 b q k hk, d6 b q k hk]; exact n4 b q k hk
        · obtain ⟨j, rfl⟩ : ∃ j, b = n + j := ⟨b - n, by omega⟩
          rw [b7 j (by omega) k hk, d7 j (by omega) k hk]; exact r4 _ (by omega)
      · unfold tabX at b3 ⊢
        rw [show cX (st_wr u' 1 1 0) = cX u' from by unfold cX; rw [e 11 (by decide)], e 12 (by decide), e 13 (by decide), e 14 (by decide), e 15 (by decide), e 16 (by decide)]
        exact b3
      · intro b hb
        by_cases q : b < n
        · rw [d6 b q 0 (by omega), d6 b q 1 (by omega), d6 b q 2 (by omega)]; exact n6 b q
        · obtain ⟨j, rfl⟩ : ∃ j, b = n + j := ⟨b - n, by omega⟩
          rw [d7 j (by omega) 0 (by omega), d7 j (by omega) 1 (by omega), d7 j (by omega) 2 (by omega), ← r4 _ (show 7 * j + 0 < 7 * R by omega), ← r4 _ (show 7 * j + 1 < 7 * R by omega), ← r4 _ (show 7 * j + 2 < 7 * R by omega)]
          exact r5 j (by omega)
    · rw [if_neg (show ¬ nI (n + R) ≤ (20 : Int32) from nI_ge (a := 20) (by omega) (by omega)), if_neg (show ¬ nI (n + R) ≤ (20 : Int32) from nI_ge (a := 20) (by omega) (by omega))]
      exact ⟨_, _, _, rfl, rfl, I⟩
  · rw [if_neg (show ¬ res = (-1 : Int32) from c), if_neg (show ¬ res = (-1 : Int32) from c)]
    exact ⟨_, _, _, rfl, rfl, I⟩
