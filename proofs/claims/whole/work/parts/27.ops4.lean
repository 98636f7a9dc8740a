/-! ===== works, takes, idle ===== -/
theorem whoS64 (P : Nat → Bool) : ∃ v, v < 64 ∧ whoS P 6 = nI v := by
  simp only [whoS]
  generalize P 0 = a0; generalize P 1 = a1; generalize P 2 = a2; generalize P 3 = a3; generalize P 4 = a4; generalize P 5 = a5
  revert a0 a1 a2 a3 a4 a5
  decide +kernel
theorem cnt_cg {P Q : Nat → Bool} : ∀ {n : Nat}, (∀ b, b < n → P b = Q b) → cnt P n = cnt Q n
  | 0, _ => rfl
  | n + 1, h => by rw [cnt, cnt, cnt_cg (fun b hb => h b (by omega)), h n (by omega)]
theorem popc_cnt : ∀ v, v < 64 → popc v = cnt (fun g => v.testBit g) 6 := by decide +kernel
def anyB (P : Nat → Bool) : Nat → Bool
  | 0 => false
  | n + 1 => anyB P n || P n
theorem anyB_f {P : Nat → Bool} : ∀ {n : Nat}, anyB P n = false ↔ ∀ b, b < n → P b = false
  | 0 => ⟨fun _ b h => absurd h (Nat.not_lt_zero b), fun _ => rfl⟩
  | n + 1 => by
    rw [anyB, Bool.or_eq_false_iff, anyB_f]
    refine ⟨fun h b hb => ?_, fun h => ⟨fun b hb => h b (by omega), h n (by omega)⟩⟩
    rcases Nat.lt_succ_iff_lt_or_eq.mp hb with z | z
    · exact h.1 b z
    · subst z; exact h.2
/-- guild i claims a work alone, by the first m bounds -/
def clm (c : Nat → Nat → Int32) (w : Nat) (m i : Nat) : Bool := anyB (fun j => decide (c j 0 = nI 2) && rch c j w && decide (c j 1 = nI i)) m
theorem shl1 : ∀ g, g < 6 → ∀ i, i < 32 → bt ((1 : Int32) <<< (nI g &&& 31)) i = decide (i = g) := by decide +kernel
theorem clm_M {σ τ v : St} {n w : Nat} (hB : BInv σ τ n) (hs : scM τ v) (hw : w < 240) : ∀ (m f b : Nat) (x : Int32), b + m = n → m < f → (∀ i, i < 32 → bt x i = clm (cM τ) w b i) → ∃ y : Int32, fX8_claimants_L4 v f (nI w) x (nI b) = o1 (fX8_many y) (fun x3 => some x3) ∧ ∀ i, i < 32 → bt y i = clm (cM τ) w n i := by
  obtain ⟨hn, b1, b2, b3, b4, b5⟩ := hB
  have v3 : v 0 3 = nI n := hs.1.2.1.trans b2
  have v2 : cM v = cM τ := cM_sc hs
  intro m
  induction m with
  | zero =>
    intro f b x hb hf hx
    obtain ⟨f, rfl⟩ : ∃ f', f = f' + 1 := ⟨f - 1, by omega⟩
    have : b = n := by omega
    subst this
    rw [fX8_claimants_L4]
    dsimp only
    rw [v3, if_pos (nI_le (Nat.le_refl _) (by omega))]
    exact ⟨x, rfl, hx⟩
  | succ m ih =>
    intro f b x hb hf hx
    obtain ⟨f, rfl⟩ : ∃ f', f = f' + 1 := ⟨f - 1, by omega⟩
    rw [fX8_claimants_L4]
    dsimp only
    rw [v3, if_neg (nI_ge (by omega) (by omega)), reaches_M (by omega) hw, gt_c, v2]
    simp only [fX8_claimants_L51, fX8_claimants_L52]
    have e0 : v 2 (7 * b) = cM τ b 0 := by rw [← v2]; rfl
    have e1 : v 2 (7 * b + 1) = cM τ b 1 := by rw [← v2]; rfl
    simp (disch := omega) only [↓l_m1, ↓l_m2, ↓l_m3, ↓l_m4, ↓l_m5, l_0, l_1, l_2, l_3, l_4, l_5, l_6, l_7, l_8, l_9, l_10, l_11, l_12, l_13, l_14, l_15, l_16, l_17, l_18, l_19, l_20, l_21, l_22, l_23, l_24, l_25, l_26, l_27, l_28, l_29, l_30, l_31, l_32, l_40, l_48, l_56, l_57, l_59, l_63, l_64, l_96, l_97, l_99, l_122, l_159, l_160, l_239, l_240, l_255, l_256, l_1000, l_1440, l_65536, l_1000000, l_268435456, bd, o1_s, o2_s, oz_0, oz_1, o2z_0, o2z_1, rb_0, rb_1, ald_e, asr_e, tld_e, nI_add, pk_mul, pk_div, w_rem, nI_leI, nI_ltI, nI_eq, nI_nm1, m1_nI, if_true, if_false, ↓reduceIte, Bool.false_eq_true, e0, e1, nI_1]
    obtain ⟨-, ⟨g, g1, g2⟩, -⟩ := b5 b (by omega)
    have nx : ∀ i, clm (cM τ) w (b + 1) i = (clm (cM τ) w b i || (decide (cM τ b 0 = nI 2) && rch (cM τ) b w && decide (cM τ b 1 = nI i))) := fun i => rfl
    by_cases c0 : cM τ b 0 = nI 2
    · rw [if_pos c0]
      by_cases cr : rch (cM τ) b w = true
      · rw [if_pos cr, g2]
        refine ih f (b + 1) _ (by omega) (by omega) (fun i hi => ?_)
        rw [show nI 1 <<< (nI g &&& nI 31) = (1 : Int32) <<< (nI g &&& 31) from rfl, b_or, hx i hi, shl1 g g1 i hi, nx, c0, cr, g2]
        rw [show decide (nI g = nI i) = decide (i = g) from by
          by_cases z : i = g
          · rw [z, decide_eq_true rfl, decide_eq_true rfl]
          · rw [decide_eq_false z, decide_eq_false (fun q => z ((nI_eq (by omega) (by omega)).mp q).symm)]]
        simp
      · rw [if_neg cr]
        refine ih f (b + 1) _ (by omega) (by omega) (fun i hi => ?_)
        rw [show nI 0 = (0 : Int32) from rfl, or0, hx i hi, nx]; simp [cr]
    · rw [if_neg c0]
      refine ih f (b + 1) _ (by omega) (by omega) (fun i hi => ?_)
      rw [show nI 0 = (0 : Int32) from rfl, or0, hx i hi, nx]; simp [c0]
def clN (τ : St) (n w : Nat) : Nat := cnt (fun g => clm (cM τ) w n g) 6
theorem cnt6 (P : Nat → Bool) : cnt P 6 ≤ 6 := cnt_le P 6
theorem claimants_e {σ τ v : St} {n w : Nat} (hB : BInv σ τ n) (hs : scM τ v) (hw : w < 240) : fX8_claimants v (nI w) = some (nI (clN τ n w)) := by
  unfold fX8_claimants
  obtain ⟨y, e, hy⟩ := clm_M hB hs hw n 2000 0 0 (by omega) (by have := hB.1; omega) (fun i _ => b_0 i)
  rw [show (0 : Int32) = nI 0 from rfl] at e ⊢
  rw [e]
  have hlt : y.toBitVec.toNat < 2 ^ 6 := by
    apply Nat.lt_pow_two_of_testBit
    intro i hi
    rw [← bt_nat]
    rcases Nat.lt_or_ge i 32 with z | z
    · rw [hy i z]
      unfold clm
      rw [anyB_f]
      intro j hj
      obtain ⟨-, ⟨g, g1, g2⟩, -⟩ := hB.2.2.2.2.2 j hj
      have ne : ¬ nI g = nI i := fun q => by have := (nI_eq (show g < 2 ^ 31 by omega) (show i < 2 ^ 31 by omega)).mp q; omega
      rw [g2, decide_eq_false ne, Bool.and_false]
    · exact b_big z
  rw [← nI_self y, many_e _ (by omega), o1_s, popc_cnt _ hlt]
  unfold clN
  rw [cnt_cg (Q := fun g => clm (cM τ) w n g) (fun g hg => by rw [← bt_nat, hy g (by omega)])]
theorem clm_X {σ τ : St} {n w : Nat} (hB : BInv σ τ n) (hw : w < 240) : ∀ (m f g : Nat), g + m = 6 → m < f → fX0_isClaimed_L4 σ f (nI w) (nI (cnt (fun g => clm (cM τ) w n g) g)) (nI g) = some (bz (decide (1 < clN τ n w))) := by
  obtain ⟨hn, b1, b2, b3, b4, b5⟩ := hB
  intro m
  induction m with
  | zero =>
    intro f g hg hf
    obtain ⟨f, rfl⟩ : ∃ f', f = f' + 1 := ⟨f - 1, by omega⟩
    have : g = 6 := by omega
    subst this
    rw [fX0_isClaimed_L4]
    dsimp only
    rw [if_pos (by decide)]
    unfold fX0_isClaimed_L35 bz
    show (if nI (clN τ n w) < 2 then _ else _) = _
    have := cnt6 (fun g => clm (cM τ) w n g)
    have hc : clN τ n w ≤ 6 := this
    by_cases c : 1 < clN τ n w
    · rw [if_neg (show ¬ nI (clN τ n w) < (2 : Int32) from nI_nlt (b := 2) (by omega) (by omega)), decide_eq_true c]; rfl
    · rw [if_pos (show nI (clN τ n w) < (2 : Int32) from nI_lt (b := 2) (by omega) (by omega)), decide_eq_false c]; rfl
  | succ m ih =>
    intro f g hg hf
    obtain ⟨f, rfl⟩ : ∃ f', f = f' + 1 := ⟨f - 1, by omega⟩
    rw [fX0_isClaimed_L4]
    dsimp only
    have hg6 : g < 6 := by omega
    rw [if_neg (show ¬ (6 : Int32) ≤ nI g from nI_ge (b := 6) (by omega) (by omega)), ald_e hw (by decide), ald_e hg6 (by decide)]
    have hM := isM_and (b4.1 w hw) (fun i hi => isM_bt hn (b4.2.2.1 g hg6) hi) hn
    have iff : σ 12 w &&& σ 14 g = 0 ↔ clm (cM τ) w n g = false := by
      rw [isM_0 hn hM, fstI_none (by omega)]
      unfold clm
      rw [anyB_f]
      refine ⟨fun q j hj => ?_, fun q j hj => ?_⟩
      · have := q j hj
        rw [rch_cg w b3 hj, b3 j hj 0 (by decide), b3 j hj 1 (by decide)] at this
        revert this
        cases rch (cM τ) j w <;> cases decide (cM τ j 0 = nI 2) <;> cases decide (cM τ j 1 = nI g) <;> simp
      · have := q j hj
        rw [rch_cg w b3 hj, b3 j hj 0 (by decide), b3 j hj 1 (by decide)]
        revert this
        cases rch (cM τ) j w <;> cases decide (cM τ j 0 = nI 2) <;> cases decide (cM τ j 1 = nI g) <;> simp
    have := ih f (g + 1) (by omega) (by omega)
    rw [cnt] at this
    simp only [fX0_isClaimed_L29, bd, nI_1]
    by_cases c : σ 12 w &&& σ 14 g = 0
    · rw [if_pos c]
      rw [iff.mp c] at this
      exact this
    · rw [if_neg c]
      have hc : clm (cM τ) w n g = true := by
        cases z : clm (cM τ) w n g
        · exact absurd (iff.mpr z) c
        · rfl
      rw [hc, if_pos rfl] at this
      exact this
/-- of which kind a work is -/
def kd (τ : St) (n k w : Nat) : Bool := if k = 0 then decide (whoV τ n w = 0) else if k = 1 then decide (1 < popc (whoV τ n w).toNatClampNeg) else decide (1 < clN τ n w)
theorem popc6 : ∀ v, v < 64 → popc v ≤ 6 := by decide +kernel
theorem kind_X {σ τ : St} {n k w : Nat} (hB : BInv σ τ n) (hw : w < 240) (hk : k ≤ 2) : fX0_isOfKind σ (nI w) (nI k) = some (bz (kd τ n k w)) := by
  unfold fX0_isOfKind
  rw [guilds_e hB hw]
  obtain ⟨v, hv, ev⟩ := whoS64 (fun g => mayB (cM τ) n th1 g w)
  have ev' : whoV τ n w = nI v := ev
  rcases (show k = 0 ∨ k = 1 ∨ k = 2 by omega) with rfl | rfl | rfl
  · have e : kd τ n 0 w = decide (whoV τ n w = 0) := by unfold kd; rw [if_pos rfl]
    rw [if_pos (by decide), o1_s, e]
    unfold bz
    by_cases c : whoV τ n w = 0 <;> simp [c]
  · have e : kd τ n 1 w = decide (1 < popc v) := by unfold kd; rw [if_neg (by decide), if_pos rfl, ev', nI_clamp (by omega)]
    rw [if_neg (by decide), if_pos (by decide), o1_s, ev', bitCount_e v (by omega), o1_s, e]
    have := popc6 v hv
    unfold bz
    by_cases c : 1 < popc v
    · rw [if_neg (show ¬ nI (popc v) < (2 : Int32) from nI_nlt (b := 2) (by omega) (by omega)), decide_eq_true c]; rfl
    · rw [if_pos (show nI (popc v) < (2 : Int32) from nI_lt (b := 2) (by omega) (by omega)), decide_eq_false c]; rfl
  · have e : kd τ n 2 w = decide (1 < clN τ n w) := by unfold kd; rw [if_neg (by decide), if_neg (by decide)]
    rw [if_neg (by decide), if_neg (by decide), e]
    unfold fX0_isClaimed
    have := clm_X hB hw 6 2000 0 (by omega) (by omega)
    rw [show nI (cnt (fun g => clm (cM τ) w n g) 0) = (0 : Int32) from rfl, show nI 0 = (0 : Int32) from rfl] at this
    rw [this, ozb_b]
/-- the i-th of a kind, or how many, from work w on *)-/
def wk (K : Nat → Bool) (i : Int32) : Nat → Nat → Nat → Int32
  | 0, f, _ => if i = M1 then nI f else M1
  | m + 1, f, w => if K w then (if nI f = i then nI w else wk K i m (f + 1) (w + 1)) else wk K i m f (w + 1)
theorem works_X {σ τ : St} {n k : Nat} (i : Int32) (hB : BInv σ τ n) (hk : k ≤ 2) : ∀ (m f c w : Nat), w + m = 240 → m < f → fX7_works_L22 σ f (nI k) i (nI c) (nI w) = some (wk (kd τ n k) i m c w) := by
  intro m
  induction m with
  | zero =>
    intro f c w hw hf
    obtain ⟨f, rfl⟩ : ∃ f', f = f' + 1 := ⟨f - 1, by omega⟩
    have : w = 240 := by omega
    subst this
    rw [fX7_works_L22]
    dsimp only
    rw [if_pos (by decide)]
    unfold fX7_works_L60 wk
    by_cases q : i = M1
    · rw [if_pos (show i = (-1 : Int32) from q), if_pos q]
    · rw [if_neg (show ¬ i = (-1 : Int32) from q), if_neg q]; rfl
  | succ m ih =>
    intro f c w hw hf
    obtain ⟨f, rfl⟩ : ∃ f', f = f' + 1 := ⟨f - 1, by omega⟩
    rw [fX7_works_L22]
    dsimp only
    rw [if_neg (show ¬ (240 : Int32) ≤ nI w from nI_ge (b := 240) (by omega) (by omega)), kind_X hB (by omega) hk, gt_c]
    simp only [fX7_works_L54, bd, nI_1, wk]
    cases q : kd τ n k w
    · simp only [Bool.not_false, Bool.not_true, if_true, if_false, Bool.false_eq_true, ↓reduceIte]
      exact ih f c (w + 1) (by omega) (by omega)
    · simp only [Bool.not_false, Bool.not_true, if_true, if_false, Bool.false_eq_true, ↓reduceIte]
      by_cases z : nI c = i
      · rw [if_pos z, if_pos z]
      · rw [if_neg z, if_neg z]
        exact ih f (c + 1) (w + 1) (by omega) (by omega)
theorem works_M {σ τ v : St} {n k : Nat} (i : Int32) (hB : BInv σ τ n) (hs : scM τ v) (h21 : v 0 21 = 0) (h22 : v 0 22 = τ 0 3) (hk : k ≤ 2) : ∀ (m f c w : Nat), w + m = 240 → m < f → fX8_works_L29 f v (nI k) i (nI c) (nI w) = some (wk (kd τ n k) i m c w, v) := by
  intro m
  induction m with
  | zero =>
    intro f c w hw hf
    obtain ⟨f, rfl⟩ : ∃ f', f = f' + 1 := ⟨f - 1, by omega⟩
    have : w = 240 := by omega
    subst this
    rw [fX8_works_L29]
    dsimp only
    rw [if_pos (by decide)]
    unfold fX8_works_L133 wk
    by_cases q : i = M1
    · rw [if_pos (show i = (-1 : Int32) from q), if_pos q]
    · rw [if_neg (show ¬ i = (-1 : Int32) from q), if_neg q]; rfl
  | succ m ih =>
    intro f c w hw hf
    obtain ⟨f, rfl⟩ : ∃ f', f = f' + 1 := ⟨f - 1, by omega⟩
    rw [fX8_works_L29]
    dsimp only
    rw [if_neg (show ¬ (240 : Int32) ≤ nI w from nI_ge (b := 240) (by omega) (by omega)), whoMay_e hB hs h21 h22 (by omega), claimants_e hB hs (by omega)]
    have key : ∀ b : Bool, b = kd τ n k w → fX8_works_L99 (fX8_works_L29 f) v (nI k) i (nI c) (nI w) (bz b) = some (wk (kd τ n k) i (m + 1) c w, v) := by
      intro b hb
      unfold fX8_works_L99 fX8_works_L114 fX8_works_L125
      rw [wk, ← hb]
      cases b
      · show (if (0 : Int32) = 0 then _ else _) = _
        rw [if_pos rfl]
        show (if (0 : Int32) = 0 then _ else _) = _
        rw [if_pos rfl]
        show fX8_works_L29 f v (nI k) i (nI c + nI 0) (nI w + 1) = _
        rw [nI_add, nI_1, Nat.add_zero]
        exact ih f c (w + 1) (by omega) (by omega)
      · show (if (1 : Int32) = 0 then _ else _) = _
        rw [if_neg (by decide), if_pos rfl]
        by_cases z : nI c = i
        · rw [if_pos z, if_pos z]
        · rw [if_neg z, if_neg z]
          show (if (1 : Int32) = 0 then _ else _) = _
          rw [if_neg (by decide)]
          show fX8_works_L29 f v (nI k) i (nI c + 1) (nI w + 1) = _
          rw [nI_1, nI_1]
          exact ih f (c + 1) (w + 1) (by omega) (by omega)
    obtain ⟨x, hx, ex⟩ := whoS64 (fun g => mayB (cM τ) n th1 g w)
    have ex' : whoV τ n w = nI x := ex
    rcases (show k = 0 ∨ k = 1 ∨ k = 2 by omega) with rfl | rfl | rfl
    · rw [if_pos (by decide), o1_s]
      by_cases q : whoV τ n w = 0
      · rw [if_pos q]; exact key true (by unfold kd; rw [if_pos rfl, decide_eq_true q])
      · rw [if_neg q]; exact key false (by unfold kd; rw [if_pos rfl, decide_eq_false q])
    · rw [if_neg (by decide), if_pos (by decide), o1_s, ex', many_e x (by omega), o1_s]
      have := popc6 x hx
      have e : kd τ n 1 w = decide (1 < popc x) := by unfold kd; rw [if_neg (by decide), if_pos rfl, ex', nI_clamp (by omega)]
      by_cases q : 1 < popc x
      · rw [if_neg (show ¬ nI (popc x) ≤ (1 : Int32) from nI_ge (a := 1) (by omega) (by omega))]; exact key true (by rw [e, decide_eq_true q])
      · rw [if_pos (show nI (popc x) ≤ (1 : Int32) from nI_le (b := 1) (by omega) (by omega))]; exact key false (by rw [e, decide_eq_false q])
    · rw [if_neg (by decide), if_neg (by decide), o1_s]
      have := cnt6 (fun g => clm (cM τ) w n g)
      have hc : clN τ n w ≤ 6 := this
      have e : kd τ n 2 w = decide (1 < clN τ n w) := by unfold kd; rw [if_neg (by decide), if_neg (by decide)]
      by_cases q : 1 < clN τ n w
      · rw [if_neg (show ¬ nI (clN τ n w) ≤ (1 : Int32) from nI_ge (a := 1) (by omega) (by omega))]; exact key true (by rw [e, decide_eq_true q])
      · rw [if_pos (show nI (clN τ n w) ≤ (1 : Int32) from nI_le (b := 1) (by omega) (by omega))]; exact key false (by rw [e, decide_eq_false q])
theorem op_works {σ τ : St} (h : Inv σ τ) (k i : Int32) : ∃ r τ', fX7_works σ k i = some r ∧ fX8_works τ k i = some (r, τ') ∧ Inv σ τ' := by
  obtain ⟨⟨n, hB⟩, -⟩ := id h
  unfold fX7_works fX8_works
  rw [off_e, j_0, j_2, in_e]
  simp only [gt_c]
  cases hk : off k 0 2
  · simp only [Bool.not_false, Bool.not_true, if_true, if_false, Bool.false_eq_true, ↓reduceIte]
    obtain ⟨k, hk', rfl⟩ := off_0 (b := 2) (by decide) hk
    by_cases hi : (-1 : Int32) ≤ i
    · rw [if_pos hi, if_pos hi]
      obtain ⟨v, e1, e2, e3, e4, -⟩ := allThere_e τ
      rw [e1, o1_s, show (0 : Int32) = nI 0 from rfl, works_X i hB hk' 240 2000 0 0 (by omega) (by omega), works_M i hB e2 e3 e4 hk' 240 2000 0 0 (by omega) (by omega)]
      exact ⟨_, _, rfl, rfl, Inv_sc h (scX_rf _) e2⟩
    · rw [if_neg hi, if_neg hi]
      exact ⟨_, _, rfl, rfl, h⟩
  · exact ⟨_, _, rfl, rfl, h⟩
