/-! ===== the reader: words and numbers ===== -/
def ltr (c : Int32) (i : Nat) : Int32 := (96 : Int32) + ((c >>> (((5 : Int32) * nI i) &&& 31)) &&& (31 : Int32))
def wdB (T : Nat → Int32) (p : Nat) (c : Int32) (l : Nat) : Bool := allB (fun i => decide (T (p + i) = ltr c i)) l
/-- the class's word sx is the reference's (c, l) -/
def WT (sx : Nat) (c : Int32) (l : Nat) : Prop := lenS.getD sx 0 = l ∧ 1 ≤ l ∧ l ≤ 6 ∧ (∀ i, i < l → (bytS.getD sx []).getD i 0 = ltr c i) ∧ ∀ x : Int32, x = ltr c 0 → kdv x = 1
theorem wt_k (c : Int32) (h : kdv (ltr c 0) = 1) : ∀ x : Int32, x = ltr c 0 → kdv x = 1 := fun x e => by rw [e]; exact h
theorem WT0 : WT 0 21431879 5 := ⟨by decide, by decide, by decide, by decide +kernel, wt_k _ (by decide +kernel)⟩
theorem WT1 : WT 1 4597415 5 := ⟨by decide, by decide, by decide, by decide +kernel, wt_k _ (by decide +kernel)⟩
theorem WT2 : WT 2 12673 3 := ⟨by decide, by decide, by decide, by decide +kernel, wt_k _ (by decide +kernel)⟩
theorem WT3 : WT 3 484 2 := ⟨by decide, by decide, by decide, by decide +kernel, wt_k _ (by decide +kernel)⟩
theorem WT4 : WT 4 207 2 := ⟨by decide, by decide, by decide, by decide +kernel, wt_k _ (by decide +kernel)⟩
theorem WT5 : WT 5 441926 4 := ⟨by decide, by decide, by decide, by decide +kernel, wt_k _ (by decide +kernel)⟩
theorem WT6 : WT 6 500 2 := ⟨by decide, by decide, by decide, by decide +kernel, wt_k _ (by decide +kernel)⟩
theorem WT7 : WT 7 25645 3 := ⟨by decide, by decide, by decide, by decide +kernel, wt_k _ (by decide +kernel)⟩
theorem WT8 : WT 8 20974 3 := ⟨by decide, by decide, by decide, by decide +kernel, wt_k _ (by decide +kernel)⟩
theorem WT9 : WT 9 831951 4 := ⟨by decide, by decide, by decide, by decide +kernel, wt_k _ (by decide +kernel)⟩
theorem WT10 : WT 10 172280994 6 := ⟨by decide, by decide, by decide, by decide +kernel, wt_k _ (by decide +kernel)⟩
theorem slen_e {β : Type} {sx l : Nat} {k : Int32 → Option β} (h : lenS.getD sx 0 = l) : slen sx k = k (nI l) := by unfold slen; rw [h]
theorem sch_e {β : Type} {sx l j : Nat} {c : Int32} {k : Int32 → Option β} (h : WT sx c l) (hj : j < l) : sch sx (nI j) k = k (ltr c j) := by
  unfold sch
  have := h.2.2.1
  rw [nI_clamp (by omega), h.1, if_neg (fun q => q.elim (fun q => nI_pos (show j < 2 ^ 31 by omega) q) (fun q => by omega)), h.2.2.2.1 j hj]
theorem isWord_e {σ τ u v : St} {L p e l : Nat} (c : Int32) (hT : TInv σ τ L) (h : RR σ τ L u v p e) (hl : l ≤ 6) : fX8_isWord v c (nI l) = some (bz (decide (e - p = l) && wdB (τ 1) p c l)) := by
  obtain ⟨h0, h1, h2, h3, h4, h5, h6, h7, h8, h9, h10⟩ := h
  have hL := hT.1
  obtain ⟨m1, m2⟩ := txt_m hT h0
  have stop : ∀ f, 0 < f → ∀ j, fX8_isWord_L22 v f c (nI l) 0 j = some 0 := by
    intro f hf j
    obtain ⟨f, rfl⟩ : ∃ f', f = f' + 1 := ⟨f - 1, by omega⟩
    rw [fX8_isWord_L22]
    dsimp only
    rw [if_pos rfl]; rfl
  unfold fX8_isWord fX8_isWord_L18
  rw [h6, h5, pk_sub h7]
  by_cases c1 : e - p = l
  · rw [if_pos (by rw [c1]), decide_eq_true c1, Bool.true_and]
    have loop : ∀ (m f j : Nat), j + m = l → m < f → wdB (τ 1) p c j = true → fX8_isWord_L22 v f c (nI l) 1 (nI j) = some (bz (wdB (τ 1) p c l)) := by
      intro m
      induction m with
      | zero =>
        intro f j hj hf hw
        obtain ⟨f, rfl⟩ : ∃ f', f = f' + 1 := ⟨f - 1, by omega⟩
        have : j = l := by omega
        subst this
        rw [fX8_isWord_L22]
        dsimp only
        rw [if_neg (by decide), if_pos (nI_le (Nat.le_refl _) (by omega)), hw]; rfl
      | succ m ih =>
        intro f j hj hf hw
        obtain ⟨f, rfl⟩ : ∃ f', f = f' + 1 := ⟨f - 1, by omega⟩
        rw [fX8_isWord_L22]
        dsimp only
        rw [if_neg (by decide), if_neg (nI_ge (by omega) (by omega)), h5, nI_add, ald_e (by omega) (by decide), m2]
        unfold fX8_isWord_L64
        rw [bd_e, bd_e, nI_1]
        by_cases q : τ 1 (p + j) = ltr c j
        · rw [if_pos (show τ 1 (p + j) = (96 : Int32) + ((c >>> (((5 : Int32) * nI j) &&& 31)) &&& (31 : Int32)) from q)]
          refine ih f (j + 1) (by omega) (by omega) ?_
          show (wdB (τ 1) p c j && decide (τ 1 (p + j) = ltr c j)) = true
          rw [hw, decide_eq_true q]; rfl
        · rw [if_neg (show ¬ τ 1 (p + j) = (96 : Int32) + ((c >>> (((5 : Int32) * nI j) &&& 31)) &&& (31 : Int32)) from q), stop f (by omega)]
          have : wdB (τ 1) p c l = false := by
            cases hh : wdB (τ 1) p c l
            · rfl
            · exact (q (of_decide_eq_true ((allB_t (P := fun i => decide (τ 1 (p + i) = ltr c i))).mp hh j (by omega)))).elim
          rw [this]; rfl
    exact loop l 2000 0 (by omega) (by omega) rfl
  · rw [if_neg (by rw [nI_eq (by omega) (by omega)]; exact c1), decide_eq_false c1, Bool.false_and, stop 2000 (by omega)]; rfl
theorem word_e {σ τ u v : St} {L p e l sx : Nat} {c : Int32} (hT : TInv σ τ L) (h : RR σ τ L u v p e) (hw : WT sx c l) :
    (fX8_isWord v c (nI l) = some 0 ∧ fX2_takeWord u sx = some (0, u)) ∨ (fX8_isWord v c (nI l) = some 1 ∧ fX2_takeWord u sx = o1 (fX2_nextToken u) (fun u1 => some ((1 : Int32), u1)) ∧ p < e) := by
  rw [isWord_e c hT h hw.2.2.1]
  obtain ⟨h0, h1, h2, h3, h4, h5, h6, h7, h8, h9, h10⟩ := h
  obtain ⟨w1, w2, w3, w4, w5⟩ := id hw
  have hL := hT.1
  obtain ⟨m1, m2⟩ := txt_x hT h0
  unfold fX2_takeWord
  rw [h1, h2, h3, slen_e w1, pk_sub h7]
  have no : (∃ i, i < l ∧ ¬ τ 1 (p + i) = ltr c i) → wdB (τ 1) p c l = false := by
    rintro ⟨i, hi, q⟩
    cases hh : wdB (τ 1) p c l
    · rfl
    · exact (q (of_decide_eq_true ((allB_t (P := fun i => decide (τ 1 (p + i) = ltr c i))).mp hh i hi))).elim
  by_cases c1 : e - p = l
  · rw [decide_eq_true c1, Bool.true_and, if_pos (show nI (e - p) = nI l by rw [c1])]
    by_cases c2 : nI (kdL (τ 1) L p) = (1 : Int32)
    · rw [if_pos c2]
      have loop : ∀ (m f j : Nat), j + m = l → m < f → wdB (τ 1) p c j = true → fX2_takeWord_L28 sx f u (nI j) = if wdB (τ 1) p c l then fX2_takeWord_L66 sx u else some ((0 : Int32), u) := by
        intro m
        induction m with
        | zero =>
          intro f j hj hf hww
          obtain ⟨f, rfl⟩ : ∃ f', f = f' + 1 := ⟨f - 1, by omega⟩
          have : j = l := by omega
          subst this
          rw [fX2_takeWord_L28]
          dsimp only
          rw [slen_e w1, if_pos (nI_le (Nat.le_refl _) (by omega)), hww]; rfl
        | succ m ih =>
          intro f j hj hf hww
          obtain ⟨f, rfl⟩ : ∃ f', f = f' + 1 := ⟨f - 1, by omega⟩
          rw [fX2_takeWord_L28]
          dsimp only
          rw [slen_e w1, if_neg (nI_ge (by omega) (by omega)), h2, nI_add, ald_e (by omega) (by decide), sch_e hw (by omega), m2 _ (by omega)]
          by_cases q : τ 1 (p + j) = ltr c j
          · rw [if_pos q, bd_e, nI_1]
            refine ih f (j + 1) (by omega) (by omega) ?_
            show (wdB (τ 1) p c j && decide (τ 1 (p + j) = ltr c j)) = true
            rw [hww, decide_eq_true q]; rfl
          · rw [if_neg q, no ⟨j, by omega, q⟩]; rfl
      have lp := loop l 2000 0 (by omega) (by omega) rfl
      rw [show nI 0 = (0 : Int32) from rfl] at lp
      rw [lp]
      cases hh : wdB (τ 1) p c l
      · left; exact ⟨rfl, rfl⟩
      · right; exact ⟨rfl, rfl, by omega⟩
    · rw [if_neg c2]
      left
      have : wdB (τ 1) p c l = false := no ⟨0, by omega, fun q => by
        have k1 := w5 _ q
        rw [Nat.add_zero] at k1
        have hpL : p < L := by omega
        unfold kdL at c2
        rw [if_pos hpL, k1] at c2
        exact c2 rfl⟩
      rw [this]; exact ⟨rfl, rfl⟩
  · rw [decide_eq_false c1, Bool.false_and, if_neg (show ¬ nI (e - p) = nI l from by rw [nI_eq (by omega) (by omega)]; exact c1)]
    left
    refine ⟨rfl, ?_⟩
    by_cases c2 : nI (kdL (τ 1) L p) = (1 : Int32)
    · rw [if_pos c2]
    · rw [if_neg c2]
/-- a number of one figure stands here, within bounds -/
theorem num_e {σ τ u v : St} {L p e : Nat} (lo hi : Int32) (hT : TInv σ τ L) (h : RR σ τ L u v p e) :
    ((∀ un, fX2_takeNumber u lo hi un = some (-1, u)) ∧ fX8_figure v lo hi = some (-1, v)) ∨ ∃ x, x < 10 ∧ off (nI x) lo hi = false ∧ τ 1 p = nI (48 + x) ∧ p < L ∧ e = p + 1 ∧ (∀ un, fX2_takeNumber u lo hi un = if nI x = un then some (-1, u) else o1 (fX2_nextToken u) (fun u8 => some (nI x, u8))) ∧ fX8_figure v lo hi = o1 (fX8_token v) (fun u11 => some (nI x, u11)) := by
  obtain ⟨h0, h1, h2, h3, h4, h5, h6, h7, h8, h9, h10⟩ := h
  have hL := hT.1
  obtain ⟨m1, m2⟩ := txt_x hT h0
  obtain ⟨m3, m4⟩ := txt_m hT h0
  have kno : ¬ nI (kdL (τ 1) L p) = (2 : Int32) → ∀ un, fX2_takeNumber u lo hi un = some (-1, u) := fun q un => by
    unfold fX2_takeNumber
    rw [h1, if_neg q]
  have lno : ¬ nI (e - p) = (1 : Int32) → ∀ un, fX2_takeNumber u lo hi un = some (-1, u) := fun q un => by
    unfold fX2_takeNumber
    rw [h2, h3, pk_sub h7, if_neg q]
    by_cases c : u 2 1 = (2 : Int32)
    · rw [if_pos c]
    · rw [if_neg c]
  by_cases c : p < L
  · have hk : kdL (τ 1) L p = kdv (τ 1 p) := by unfold kdL; rw [if_pos c]
    have ne : ¬ nI p = nI L := by rw [nI_eq (by omega) (by omega)]; omega
    have fig : fX8_figure v lo hi = (if nI (kdv (τ 1 p) % 3) = (2 : Int32) then (if nI (e - p) = (1 : Int32) then oz (fX8_in (τ 1 p - (48 : Int32)).toInt64 lo.toInt64 hi.toInt64) (fun x7 => (if x7 = (0 : Int32) then some ((-1 : Int32), v) else ald v 1 160 (nI p) (fun x9 => bd (x9 - (48 : Int32)) (fun x10 => o1 (fX8_token v) (fun u11 => some (x10, u11)))))) else some ((-1 : Int32), v)) else some ((-1 : Int32), v)) := by
      unfold fX8_figure
      rw [h5, h6, m3, pk_sub h7, if_neg ne, ald_e (by omega) (by decide), m4, sort_e, o1_s, ald_e (by omega) (by decide), m4]
    rw [fig]
    rw [hk] at kno h1
    by_cases k2 : kdv (τ 1 p) = 2
    · rw [k2, if_pos (show nI (2 % 3) = (2 : Int32) from rfl)]
      have hb : ∃ j, 48 ≤ j ∧ j ≤ 57 ∧ τ 1 p = nI j := by
        have : off (τ 1 p) 48 57 = false := by
          unfold kdv at k2
          cases a : off (τ 1 p) 97 122
          · rw [a] at k2; cases k2
          · cases b : off (τ 1 p) 48 57
            · rfl
            · rw [a, b] at k2; cases k2
        exact off_f (a := 48) (b := 57) (by decide) this (by decide)
      obtain ⟨j, j1, j2, j3⟩ := hb
      obtain ⟨x, rfl⟩ : ∃ x, j = 48 + x := ⟨j - 48, by omega⟩
      have ex : nI (48 + x) - (48 : Int32) = nI x := by
        have q : nI (48 + x) - nI 48 = nI (48 + x - 48) := pk_sub (by omega)
        rw [show 48 + x - 48 = x by omega] at q
        exact q
      by_cases c1 : e - p = 1
      · have e1 : nI (e - p) = (1 : Int32) := by rw [c1]; rfl
        rw [if_pos e1, j3, ex, in_e, gt_c]
        have tk : ∀ un, fX2_takeNumber u lo hi un = if off (nI x) lo hi then some (-1, u) else if nI x = un then some (-1, u) else o1 (fX2_nextToken u) (fun u8 => some (nI x, u8)) := fun un => by
          unfold fX2_takeNumber
          rw [h1, k2, h2, h3, pk_sub h7, if_pos (show nI 2 = (2 : Int32) from rfl), if_pos e1, ald_e (by omega) (by decide), m2 p c, j3, ex, bd_e, off_e, gt_c]
        cases ho : off (nI x) lo hi
        · right
          refine ⟨x, by omega, ho, rfl, c, by omega, fun un => ?_, ?_⟩
          · rw [tk un, ho]; rfl
          · simp only [Bool.not_false, Bool.not_true, if_true, if_false, Bool.false_eq_true, ↓reduceIte]
            rw [ald_e (by omega) (by decide), m4, j3, ex, bd_e]
        · left
          refine ⟨fun un => ?_, rfl⟩
          rw [tk un, ho]; rfl
      · have n1 : ¬ nI (e - p) = (1 : Int32) := by
          intro q
          exact c1 ((nI_eq (a := e - p) (b := 1) (by omega) (by omega)).mp q)
        left
        rw [if_neg n1]
        exact ⟨lno n1, rfl⟩
    · left
      have n2 : ¬ nI (kdv (τ 1 p)) = (2 : Int32) := by
        rcases kdv_in (τ 1 p) with q | q | q
        · rw [q]; decide
        · exact (k2 q).elim
        · rw [q]; decide
      have n3 : ¬ nI (kdv (τ 1 p) % 3) = (2 : Int32) := by
        rcases kdv_in (τ 1 p) with q | q | q
        · rw [q]; decide
        · exact (k2 q).elim
        · rw [q]; decide
      rw [if_neg n3]
      exact ⟨kno n2, rfl⟩
  · left
    have hk : kdL (τ 1) L p = 0 := by unfold kdL; rw [if_neg c]
    rw [hk] at kno
    refine ⟨kno (by decide), ?_⟩
    unfold fX8_figure
    rw [h5, m3, if_pos (show nI p = nI L by rw [show p = L by omega])]
/-- a part of the reach -/
theorem part_e {σ τ u v : St} {L p e l sx j : Nat} {c : Int32} (lo hi : Int32) (hT : TInv σ τ L) (h : RR σ τ L u v p e) (hw : WT sx c l) (hj : j < 56) :
    (fX2_readPart u sx (nI j) lo hi = some (1, u) ∧ fX8_part v c (nI l) lo hi = some (M2, v)) ∨
    (∃ (u' v' : St) (p' e' : Nat), fX2_readPart u sx (nI j) lo hi = some (0, u') ∧ fX8_part v c (nI l) lo hi = some (M1, v') ∧ RR σ τ L u' v' p' e' ∧ KP u v u' v') ∨
    (∃ (u' v' : St) (p' e' x : Nat), x < 10 ∧ fX2_readPart u sx (nI j) lo hi = some (1, st_wr u' 10 j (nI x)) ∧ fX8_part v c (nI l) lo hi = some (nI x, v') ∧ RR σ τ L u' v' p' e' ∧ p < p' ∧ KP u v u' v') := by
  unfold fX2_readPart fX8_part
  rcases word_e hT h hw with ⟨w1, w2⟩ | ⟨w1, w2, w3⟩
  · left
    rw [w1, w2]
    exact ⟨rfl, rfl⟩
  · right
    obtain ⟨u1, v1, p1, e1, a1, a2, a3, a4, a5⟩ := tok hT h.1 h.2.2.2.1 h.2.2.2.2.1 h.2.2.2.2.2.2.2.2.1
    rw [w1, w2, a1, o1_s, o2z_1, oz_1, if_neg (by decide), if_neg (by decide), a2, o1_s]
    rcases num_e lo hi hT a3 with ⟨n1, n2⟩ | ⟨x, x1, x2, x3, x4, x5, x6, x7⟩
    · left
      rw [n1, n2, o2_s, o2_s]
      exact ⟨u1, v1, p1, e1, rfl, rfl, a3, a5⟩
    · right
      obtain ⟨u2, v2, p2, e2, b1, b2, b3, b4, b5⟩ := tok hT a3.1 a3.2.2.2.1 a3.2.2.2.2.1 a3.2.2.2.2.2.2.2.2.1
      have ne : ¬ nI x = (-1 : Int32) := fun q => (nI_nm1 (show x < 2 ^ 31 by omega)).mp q
      rw [x6, if_neg ne, x7, b1, b2, o1_s, o1_s, o2_s, o2_s, if_neg ne, asr_e hj (by decide)]
      exact ⟨u2, v2, p2, e2, x, x1, rfl, rfl, b3, by omega, KP_tr a5 b5⟩
