/-! ===== things: what is laid out, and which sets can make it ===== -/
theorem cod_n {c : Nat → Nat → Int32} {n : Nat} (hn : n ≤ 20) (hw : wfB c n) (th : Nat → Bool) (g w : Nat) : (cod c n th g w).toNatClampNeg ≤ 7 ∧ cod c n th g w = nI (cod c n th g w).toNatClampNeg := by
  rcases cod_in hn hw th g w with e | e | ⟨h, hh, e⟩
  · rw [e, nI_clamp (by omega)]; exact ⟨by omega, rfl⟩
  · rw [e, nI_clamp (by omega)]; exact ⟨by omega, rfl⟩
  · rw [e, nI_clamp (by omega)]; exact ⟨by omega, rfl⟩
/-- what guild g may of the k-th work (0: not; 1; 2 and another guild) -/
def cdN (c : Nat → Nat → Int32) (n : Nat) (th : Nat → Bool) (W : Nat → Int32) (k g : Nat) : Nat := if W k = M1 then 0 else (cod c n th g (W k).toNatClampNeg).toNatClampNeg
theorem cdN_le {c : Nat → Nat → Int32} {n : Nat} (hn : n ≤ 20) (hw : wfB c n) (th : Nat → Bool) (W : Nat → Int32) (k g : Nat) : cdN c n th W k g ≤ 7 := by
  unfold cdN
  by_cases h : W k = M1
  · rw [if_pos h]; omega
  · rw [if_neg h]; exact (cod_n hn hw th g _).1
/-- the works of a thing, two a step -/
def Wt (τ : St) (t : Nat) : Nat → Int32 := fun k => if k % 2 = 0 then τ 4 (8 * t + k / 2) else τ 5 (8 * t + k / 2)
def WOK (W : Nat → Int32) (s : Nat) : Prop := ∀ k, k < 2 * s → W k = M1 ∨ ∃ w, w < 240 ∧ W k = nI w
/-- thing t has s steps -/
def Th (σ τ : St) (t s : Nat) : Prop := t < 6 ∧ s ≤ 8 ∧ σ (23 + t) 1 = nI s ∧ τ 6 t = nI s ∧ WOK (Wt τ t) s ∧ (∀ k, k < 2 * s → σ (29 + t) k = Wt τ t k) ∧ ∀ i, i < s → ∃ w, w < 240 ∧ Wt τ t (2 * i) = nI w
theorem Th_of {σ τ : St} (h : SInv σ τ) {t : Nat} (ht : t < 6) : ∃ s, Th σ τ t s := by
  obtain ⟨s, s1, s2, s3, s4⟩ := h t ht
  have e0 : ∀ i, Wt τ t (2 * i) = τ 4 (8 * t + i) := fun i => by unfold Wt; rw [if_pos (by omega), show 2 * i / 2 = i by omega]
  have e1 : ∀ i, Wt τ t (2 * i + 1) = τ 5 (8 * t + i) := fun i => by unfold Wt; rw [if_neg (by omega), show (2 * i + 1) / 2 = i by omega]
  have sp : ∀ k, k < 2 * s → ∃ i, i < s ∧ (k = 2 * i ∨ k = 2 * i + 1) := fun k hk => ⟨k / 2, by omega, by omega⟩
  refine ⟨s, ht, s1, s2, s3, fun k hk => ?_, fun k hk => ?_, fun i hi => ?_⟩
  · obtain ⟨i, hi, rfl | rfl⟩ := sp k hk
    · obtain ⟨⟨w, w1, -, w3⟩, -⟩ := s4 i hi
      rw [e0]; exact Or.inr ⟨w, w1, w3⟩
    · rw [e1]; exact (s4 i hi).2.2
  · obtain ⟨i, hi, rfl | rfl⟩ := sp k hk
    · obtain ⟨⟨w, w1, w2, w3⟩, -⟩ := s4 i hi
      rw [e0, w2, w3]
    · rw [e1]; exact (s4 i hi).2.1
  · obtain ⟨⟨w, w1, -, w3⟩, -⟩ := s4 i hi
    rw [e0]; exact ⟨w, w1, w3⟩
theorem layWorks_e {σ τ v : St} {t s : Nat} (hT : Th σ τ t s) (hs : scM τ v) : ∃ v', fX8_layWorks v (nI t) = some v' ∧ scM τ v' ∧ (∀ q, q ≠ 13 → q ≠ 0 → v' q = v q) ∧ (∀ j, j ≠ 25 → v' 0 j = v 0 j) ∧ v' 0 25 = nI s ∧ ∀ k, k < 2 * s → v' 13 k = Wt τ t k := by
  obtain ⟨ht, s1, s2, s3, s4, s5, s6⟩ := hT
  have v4 : v 4 = τ 4 := hs.2 4 (by decide) (by decide) (by decide)
  have v5 : v 5 = τ 5 := hs.2 5 (by decide) (by decide) (by decide)
  have v6 : v 6 = τ 6 := hs.2 6 (by decide) (by decide) (by decide)
  have e0 : ∀ i, Wt τ t (2 * i) = τ 4 (8 * t + i) := fun i => by unfold Wt; rw [if_pos (by omega), show 2 * i / 2 = i by omega]
  have e1 : ∀ i, Wt τ t (2 * i + 1) = τ 5 (8 * t + i) := fun i => by unfold Wt; rw [if_neg (by omega), show (2 * i + 1) / 2 = i by omega]
  have loop : ∀ (m f i : Nat) (u : St), i + m = s → m < f → (∀ q, q ≠ 13 → q ≠ 0 → u q = v q) → (∀ j, j ≠ 25 → u 0 j = v 0 j) → u 0 25 = nI s → (∀ k, k < 2 * i → u 13 k = Wt τ t k) → ∃ v', fX8_layWorks_L12 f u (nI t) (nI i) = some v' ∧ (∀ q, q ≠ 13 → q ≠ 0 → v' q = v q) ∧ (∀ j, j ≠ 25 → v' 0 j = v 0 j) ∧ v' 0 25 = nI s ∧ ∀ k, k < 2 * s → v' 13 k = Wt τ t k := by
    intro m
    induction m with
    | zero =>
      intro f i u hi hf h1 h2 h3 h4
      obtain ⟨f, rfl⟩ : ∃ f', f = f' + 1 := ⟨f - 1, by omega⟩
      have : i = s := by omega
      subst this
      rw [fX8_layWorks_L12]
      dsimp only
      rw [h3, if_pos (nI_le (Nat.le_refl _) (by omega))]
      exact ⟨u, rfl, h1, h2, h3, h4⟩
    | succ m ih =>
      intro f i u hi hf h1 h2 h3 h4
      obtain ⟨f, rfl⟩ : ∃ f', f = f' + 1 := ⟨f - 1, by omega⟩
      rw [fX8_layWorks_L12]
      dsimp only
      rw [h3, if_neg (nI_ge (by omega) (by omega))]
      simp (disch := omega) only [↓l_m1, ↓l_m2, ↓l_m3, ↓l_m4, ↓l_m5, l_0, l_1, l_2, l_3, l_4, l_5, l_6, l_7, l_8, l_9, l_10, l_11, l_12, l_13, l_14, l_15, l_16, l_17, l_18, l_19, l_20, l_21, l_22, l_23, l_24, l_25, l_26, l_27, l_28, l_29, l_30, l_31, l_32, l_40, l_48, l_56, l_57, l_59, l_63, l_64, l_96, l_97, l_99, l_122, l_159, l_160, l_239, l_240, l_255, l_256, l_1000, l_1440, l_65536, l_1000000, l_268435456, bd, o1_s, o2_s, oz_0, oz_1, o2z_0, o2z_1, rb_0, rb_1, ald_e, asr_e, tld_e, nI_add, pk_mul, pk_div, w_rem, nI_leI, nI_ltI, nI_eq, nI_nm1, m1_nI, if_true, if_false, ↓reduceIte, Bool.false_eq_true, wr_ne, nI_1]
      rw [h1 4 (by decide) (by decide), h1 5 (by decide) (by decide), v4, v5]
      refine ih f (i + 1) _ (by omega) (by omega) (fun q q1 q2 => by rw [wr_ne q1, wr_ne q1]; exact h1 q q1 q2) (fun j hj => by rw [wr_ne (by decide), wr_ne (by decide)]; exact h2 j hj) (by rw [wr_ne (by decide), wr_ne (by decide)]; exact h3) (fun k hk => ?_)
      by_cases k1 : k = 2 * i + 1
      · subst k1; rw [wr_js, e1]
      · rw [wr_jn k1]
        by_cases k2 : k = 2 * i
        · subst k2; rw [wr_js, e0]
        · rw [wr_jn k2]; exact h4 k (by omega)
  unfold fX8_layWorks
  rw [ald_e ht (by decide), v6, s3]
  dsimp only [bd]
  obtain ⟨v', a1, a2, a3, a4, a5⟩ := loop s 2000 0 (st_wr v 0 25 (nI s)) (by omega) (by omega) (fun q _ q2 => wr_ne q2) (fun j hj => wr_jn hj) (wr_js _ _ _ _) (fun k hk => absurd hk (by omega))
  refine ⟨v', a1, ⟨⟨(a3 1 (by decide)).trans hs.1.1, (a3 3 (by decide)).trans hs.1.2.1, (a3 11 (by decide)).trans hs.1.2.2.1, (a3 15 (by decide)).trans hs.1.2.2.2.1, (a3 17 (by decide)).trans hs.1.2.2.2.2⟩, fun k k1 k2 k3 => (a2 k (by omega) (by omega)).trans (hs.2 k k1 k2 k3)⟩, a2, a3, a4, a5⟩
theorem thM_cg {u v : St} (h : u 0 = v 0) : thM u = thM v := by unfold thM; rw [h]
theorem layCodes_e {σ τ v : St} {n s : Nat} {th : Nat → Bool} {W : Nat → Int32} (hB : BInv σ τ n) (hs8 : s ≤ 8) (hW : WOK W s) (hs : scM τ v) (ht : ∀ b, b < n → thM v b = th b) (h25 : v 0 25 = nI s) (h13 : ∀ k, k < 2 * s → v 13 k = W k) : ∃ v', fX8_layCodes v = some v' ∧ (∀ q, q ≠ 14 → v' q = v q) ∧ ∀ j, j < 12 * s → v' 14 j = nI (cdN (cM τ) n th W (j / 6) (j % 6)) := by
  have hn := hB.1
  have loop : ∀ (m f j : Nat) (u : St), j + m = 12 * s → m < f → (∀ q, q ≠ 14 → u q = v q) → (∀ i, i < j → u 14 i = nI (cdN (cM τ) n th W (i / 6) (i % 6))) → ∃ v', fX8_layCodes_L2 f u (nI j) = some v' ∧ (∀ q, q ≠ 14 → v' q = v q) ∧ ∀ j, j < 12 * s → v' 14 j = nI (cdN (cM τ) n th W (j / 6) (j % 6)) := by
    intro m
    induction m with
    | zero =>
      intro f j u hj hf h1 h2
      obtain ⟨f, rfl⟩ : ∃ f', f = f' + 1 := ⟨f - 1, by omega⟩
      have : j = 12 * s := by omega
      subst this
      rw [fX8_layCodes_L2]
      dsimp only
      rw [h1 0 (by decide), h25, l_12, pk_mul, if_pos (nI_le (Nat.le_refl _) (by omega))]
      exact ⟨u, rfl, h1, h2⟩
    | succ m ih =>
      intro f j u hj hf h1 h2
      obtain ⟨f, rfl⟩ : ∃ f', f = f' + 1 := ⟨f - 1, by omega⟩
      rw [fX8_layCodes_L2]
      dsimp only
      have ed : nI j / (6 : Int32) = nI (j / 6) := by rw [l_6, pk_div (by omega) (by omega) (by omega)]
      have er : nI j - nI j / (6 : Int32) * (6 : Int32) = nI (j % 6) := by rw [l_6]; exact pk_rem (by omega) (by omega) (by omega)
      rw [h1 0 (by decide), h25, l_12, pk_mul, if_neg (nI_ge (by omega) (by omega)), er, ed, ald_e (by omega) (by decide), h1 13 (by decide), h13 (j / 6) (by omega)]
      have hsu : scM τ u := ⟨by rw [h1 0 (by decide)]; exact hs.1, fun k k1 k2 k3 => (h1 k (by omega)).trans (hs.2 k k1 k2 k3)⟩
      have htu : ∀ b, b < n → thM u b = th b := fun b hb => by rw [thM_cg (h1 0 (by decide))]; exact ht b hb
      have nxt : ∀ x : Int32, x = nI (cdN (cM τ) n th W (j / 6) (j % 6)) → ∃ v', fX8_layCodes_L46 (fX8_layCodes_L2 f) u (nI j) x (nI j) = some v' ∧ (∀ q, q ≠ 14 → v' q = v q) ∧ ∀ j, j < 12 * s → v' 14 j = nI (cdN (cM τ) n th W (j / 6) (j % 6)) := by
        intro x hx
        unfold fX8_layCodes_L46
        rw [asr_e (by omega) (by decide)]
        dsimp only [bd]
        rw [nI_1]
        refine ih f (j + 1) _ (by omega) (by omega) (fun q hq => by rw [wr_ne hq]; exact h1 q hq) (fun i hi => ?_)
        by_cases e : i = j
        · subst e; rw [wr_js]; exact hx
        · rw [wr_jn e]; exact h2 i (by omega)
      rcases hW (j / 6) (by omega) with e | ⟨w, hw, e⟩
      · rw [e, if_pos (show M1 = (-1 : Int32) from rfl)]
        exact nxt 0 (by unfold cdN; rw [if_pos e]; rfl)
      · have ne : ¬ nI w = M1 := fun q => (nI_nm1 (show w < 2 ^ 31 by omega)).mp q
        rw [e, if_neg (show ¬ nI w = (-1 : Int32) from ne), code_g hB hsu htu (by omega) hw, o1_s]
        exact nxt _ (by unfold cdN; rw [e, if_neg ne, nI_clamp (by omega)]; exact (cod_n hn hB.2.2.2.2.2 th _ _).2)
  exact loop (12 * s) 2000 0 v (by omega) (by omega) (fun _ _ => rfl) (fun i hi => absurd hi (Nat.not_lt_zero i))
/-- thing t lies in the reference's rows, with all bounds -/
def Laid (τ v : St) (n t s : Nat) (th : Nat → Bool) : Prop := scM τ v ∧ (∀ b, b < n → thM v b = th b) ∧ v 0 25 = nI s ∧ (∀ k, k < 2 * s → v 13 k = Wt τ t k) ∧ ∀ j, j < 12 * s → v 14 j = nI (cdN (cM τ) n th (Wt τ t) (j / 6) (j % 6))
theorem lay_e {σ τ v : St} {n t s : Nat} (hB : BInv σ τ n) (hT : Th σ τ t s) (hv : scM τ v) : ∃ v', fX8_lay v (nI t) = some v' ∧ Laid τ v' n t s th1 ∧ v' 0 22 = nI n := by
  have hn := hB.1
  obtain ⟨v1, a1, a2, a3, a4, a5, a6⟩ := allThere_e v
  obtain ⟨v2, b1, b2, b3, b4, b5, b6⟩ := layWorks_e hT (scM_tr hv a2)
  have h22 : v2 0 22 = nI n := by rw [b4 22 (by decide), a4, hv.1.2.1]; exact hB.2.2.1
  have h21 : v2 0 21 = 0 := by rw [b4 21 (by decide), a3]
  obtain ⟨v3, c1, c2, c3⟩ := layCodes_e hB hT.2.1 hT.2.2.2.2.1 b2 (th_al hn h22 h21) b5 b6
  unfold fX8_lay
  rw [a1, o1_s, b1, o1_s, c1, o1_s]
  refine ⟨v3, rfl, ⟨⟨by rw [c2 0 (by decide)]; exact b2.1, fun k k1 k2 k3 => (c2 k (by omega)).trans (b2.2 k k1 k2 k3)⟩, ?_, by rw [c2 0 (by decide)]; exact b5, by rw [c2 13 (by decide)]; exact b6, c3⟩, by rw [c2 0 (by decide)]; exact h22⟩
  intro b hb
  rw [thM_cg (c2 0 (by decide))]
  exact th_al hn h22 h21 b hb
/-- a guild that may (v) does it with the hands of a set -/
def gs (set v g : Nat) : Bool := decide (0 < v) && set.testBit g && (decide (v < 2) || set.testBit (v - 2))
theorem hands_all : ∀ x, x < 8 → ∀ g, g < 6 → ∀ set, set < 64 → decide ((if nI x ≤ (1 : Int32) then ((1 : Int32) <<< (nI g &&& 31)) ||| (0 : Int32) else ((1 : Int32) <<< (nI g &&& 31)) ||| ((1 : Int32) <<< ((nI x - (2 : Int32)) &&& 31))) &&& (nI set ^^^ (-1 : Int32)) = 0) = (set.testBit g && (decide (x < 2) || set.testBit (x - 2))) := by decide +kernel
theorem hands_e {v : St} {i c g x : Nat} (hi : i < 8) (hc : c < 2) (hg : g < 6) (e : v 14 (12 * i + 6 * c + g) = nI x) : fX8_hands v (nI i) (nI c) (nI g) = some (if nI x ≤ (1 : Int32) then ((1 : Int32) <<< (nI g &&& 31)) ||| (0 : Int32) else ((1 : Int32) <<< (nI g &&& 31)) ||| ((1 : Int32) <<< ((nI x - (2 : Int32)) &&& 31))) := by
  unfold fX8_hands
  rw [l_12, l_6, pk_mul, pk_mul, nI_add, nI_add, ald_e (by omega) (by decide), e]
  by_cases h : nI x ≤ (1 : Int32)
  · rw [if_pos h, if_pos h]
  · rw [if_neg h, if_neg h]
theorem goes_e {v : St} {i c g x set : Nat} (hi : i < 8) (hc : c < 2) (hg : g < 6) (hx : x ≤ 7) (hset : set < 64) (e : v 14 (12 * i + 6 * c + g) = nI x) : fX8_goes v (nI i) (nI c) (nI g) (nI set) = some (bz (gs set x g)) := by
  unfold fX8_goes
  rw [hands_e hi hc hg e, l_12, l_6, pk_mul, pk_mul, nI_add, nI_add, ald_e (by omega) (by decide), e]
  unfold gs
  by_cases h0 : x = 0
  · subst h0; rfl
  · rw [if_neg (show ¬ nI x ≤ (0 : Int32) from nI_ge (a := 0) (by omega) (by omega)), o1_s]
    have := hands_all x (by omega) g hg set hset
    rw [decide_eq_true (show 0 < x by omega), Bool.true_and, ← this]
    unfold bz
    by_cases q : (if nI x ≤ (1 : Int32) then ((1 : Int32) <<< (nI g &&& 31)) ||| (0 : Int32) else ((1 : Int32) <<< (nI g &&& 31)) ||| ((1 : Int32) <<< ((nI x - (2 : Int32)) &&& 31))) &&& (nI set ^^^ (-1 : Int32)) = 0
    · rw [if_pos q, decide_eq_true q]; rfl
    · rw [if_neg q, decide_eq_false q]; rfl
def allB (P : Nat → Bool) : Nat → Bool
  | 0 => true
  | n + 1 => allB P n && P n
/-- some guild of a set does step i -/
def stB (x : Nat → Nat → Nat) (set i : Nat) : Bool := anyB (fun k => gs set (x (2 * i + k / 6) (k % 6)) (k % 6)) 12
/-- a set makes a thing of s steps -/
def mk (x : Nat → Nat → Nat) (s set : Nat) : Bool := allB (stB x set) s
theorem bz0 (b : Bool) : bz b = 0 ↔ b = false := by cases b <;> decide
theorem makes_e {v : St} {s set : Nat} {x : Nat → Nat → Nat} (hs : s ≤ 8) (hx : ∀ k g, x k g ≤ 7) (h25 : v 0 25 = nI s) (h14 : ∀ j, j < 12 * s → v 14 j = nI (x (j / 6) (j % 6))) (hset : set < 64) : fX8_makes v (nI set) = some (bz (mk x s set)) := by
  have inner : ∀ (k4 : Int32 → Int32 → Int32 → Option Int32) (i : Nat), i < s → ∀ (m f k : Nat) (a : Int32), k + m = 12 → m < f → fX8_makes_L18 v k4 f (nI set) a (nI i) (bz (anyB (fun k => gs set (x (2 * i + k / 6) (k % 6)) (k % 6)) k)) (nI k) = fX8_makes_L62 v k4 (nI set) a (nI i) (bz (stB x set i)) := by
    intro k4 i hi m
    induction m with
    | zero =>
      intro f k a hk hf
      obtain ⟨f, rfl⟩ : ∃ f', f = f' + 1 := ⟨f - 1, by omega⟩
      have : k = 12 := by omega
      subst this
      rw [fX8_makes_L18]
      dsimp only
      rw [if_pos (by decide)]
      rfl
    | succ m ih =>
      intro f k a hk hf
      obtain ⟨f, rfl⟩ : ∃ f', f = f' + 1 := ⟨f - 1, by omega⟩
      rw [fX8_makes_L18]
      dsimp only
      have ed : nI k / (6 : Int32) = nI (k / 6) := by rw [l_6, pk_div (by omega) (by omega) (by omega)]
      have er : nI k - nI k / (6 : Int32) * (6 : Int32) = nI (k % 6) := by rw [l_6]; exact pk_rem (by omega) (by omega) (by omega)
      have hj : v 14 (12 * i + 6 * (k / 6) + k % 6) = nI (x (2 * i + k / 6) (k % 6)) := by
        rw [h14 _ (by omega), show (12 * i + 6 * (k / 6) + k % 6) / 6 = 2 * i + k / 6 by omega, show (12 * i + 6 * (k / 6) + k % 6) % 6 = k % 6 by omega]
      rw [if_neg (show ¬ (12 : Int32) ≤ nI k from nI_ge (b := 12) (by omega) (by omega)), er, ed, goes_e (by omega) (by omega) (by omega) (hx _ _) hset hj, gt_c]
      have := ih f (k + 1) a (by omega) (by omega)
      rw [anyB] at this
      simp only [fX8_makes_L49, fX8_makes_L54, bd, nI_1]
      cases ha : anyB (fun k => gs set (x (2 * i + k / 6) (k % 6)) (k % 6)) k
      · rw [ha] at this
        rw [if_pos (show bz false = 0 from rfl)]
        cases hg : gs set (x (2 * i + k / 6) (k % 6)) (k % 6)
        · rw [hg] at this; exact this
        · rw [hg] at this; exact this
      · rw [ha] at this
        rw [if_neg (show ¬ bz true = 0 by decide)]
        exact this
  have outer : ∀ (m f i : Nat), i + m = s → m < f → fX8_makes_L4 v f (nI set) (bz (allB (stB x set) i)) (nI i) = some (bz (mk x s set)) := by
    intro m
    induction m with
    | zero =>
      intro f i hi hf
      obtain ⟨f, rfl⟩ : ∃ f', f = f' + 1 := ⟨f - 1, by omega⟩
      have : i = s := by omega
      subst this
      rw [fX8_makes_L4]
      dsimp only
      rw [h25, if_pos (nI_le (Nat.le_refl _) (by omega)), rb_b]
      rfl
    | succ m ih =>
      intro f i hi hf
      obtain ⟨f, rfl⟩ : ∃ f', f = f' + 1 := ⟨f - 1, by omega⟩
      rw [fX8_makes_L4]
      dsimp only
      rw [h25, if_neg (nI_ge (by omega) (by omega))]
      have := inner (fX8_makes_L4 v f) i (by omega) 12 2000 0 (bz (allB (stB x set) i)) (by omega) (by omega)
      rw [show nI 0 = (0 : Int32) from rfl, show bz (anyB (fun k => gs set (x (2 * i + k / 6) (k % 6)) (k % 6)) 0) = (0 : Int32) from rfl] at this
      rw [this]
      have nx := ih f (i + 1) (by omega) (by omega)
      rw [allB] at nx
      simp only [fX8_makes_L62, fX8_makes_L75, fX8_makes_L76, bd, nI_1]
      cases ha : allB (stB x set) i
      · rw [ha] at nx
        rw [if_pos (show bz false = 0 from rfl)]
        exact nx
      · rw [ha] at nx
        rw [if_neg (show ¬ bz true = 0 by decide)]
        cases hb : stB x set i
        · rw [hb] at nx
          rw [if_pos (show bz false = 0 from rfl)]
          exact nx
        · rw [hb] at nx
          rw [if_neg (show ¬ bz true = 0 by decide)]
          exact nx
  exact outer s 2000 0 (by omega) (by omega)
/-- the least set: of the fewest, of these the least number -/
def lsI (P : Nat → Bool) : Nat → Int32
  | 0 => M1
  | m + 1 => if lsI P m = M1 then (if P m then nI m else M1) else if popc (lsI P m).toNatClampNeg ≤ popc m then lsI P m else if P m then nI m else lsI P m
theorem lsI_in (P : Nat → Bool) : ∀ m, lsI P m = M1 ∨ ∃ j, j < m ∧ lsI P m = nI j ∧ P j = true
  | 0 => Or.inl rfl
  | m + 1 => by
    rw [lsI]
    rcases lsI_in P m with e | ⟨j, hj, e, pj⟩
    · rw [if_pos e]
      by_cases h : P m = true
      · rw [if_pos h]; exact Or.inr ⟨m, by omega, rfl, h⟩
      · rw [if_neg h]; exact Or.inl rfl
    · by_cases c : lsI P m = M1
      · rw [if_pos c]
        by_cases h : P m = true
        · rw [if_pos h]; exact Or.inr ⟨m, by omega, rfl, h⟩
        · rw [if_neg h]; exact Or.inl rfl
      · rw [if_neg c]
        by_cases d : popc (lsI P m).toNatClampNeg ≤ popc m
        · rw [if_pos d]; exact Or.inr ⟨j, by omega, e, pj⟩
        · rw [if_neg d]
          by_cases h : P m = true
          · rw [if_pos h]; exact Or.inr ⟨m, by omega, rfl, h⟩
          · rw [if_neg h]; exact Or.inr ⟨j, by omega, e, pj⟩
theorem lsI_cg {P Q : Nat → Bool} : ∀ {m : Nat}, (∀ b, b < m → P b = Q b) → lsI P m = lsI Q m
  | 0, _ => rfl
  | m + 1, h => by rw [lsI, lsI, lsI_cg (fun b hb => h b (by omega)), h m (by omega)]
theorem popc10 : ∀ v, v < 1024 → popc v ≤ 10 := by decide +kernel
theorem least_M {v : St} {s : Nat} {x : Nat → Nat → Nat} (hs : s ≤ 8) (hx : ∀ k g, x k g ≤ 7) (h25 : v 0 25 = nI s) (h14 : ∀ j, j < 12 * s → v 14 j = nI (x (j / 6) (j % 6))) : fX8_leastSet v = some (lsI (mk x s) 64) := by
  have loop : ∀ (m f j : Nat), j + m = 64 → m < f → fX8_leastSet_L4 v f (lsI (mk x s) j) (nI j) = some (lsI (mk x s) 64) := by
    intro m
    induction m with
    | zero =>
      intro f j hj hf
      obtain ⟨f, rfl⟩ : ∃ f', f = f' + 1 := ⟨f - 1, by omega⟩
      have : j = 64 := by omega
      subst this
      rw [fX8_leastSet_L4]
      dsimp only
      rw [if_pos (by decide)]
    | succ m ih =>
      intro f j hj hf
      obtain ⟨f, rfl⟩ : ∃ f', f = f' + 1 := ⟨f - 1, by omega⟩
      rw [fX8_leastSet_L4]
      dsimp only
      rw [if_neg (show ¬ (64 : Int32) ≤ nI j from nI_ge (b := 64) (by omega) (by omega))]
      have nx := ih f (j + 1) (by omega) (by omega)
      rw [lsI] at nx
      simp only [fX8_leastSet_L26, fX8_leastSet_L38, fX8_leastSet_L39, fX8_leastSet_L49, bd, nI_1]
      rw [makes_e hs hx h25 h14 (by omega), gt_c]
      rcases lsI_in (mk x s) j with e | ⟨i, hi, e, -⟩
      · rw [if_pos e] at nx
        rw [if_pos (show lsI (mk x s) j = (-1 : Int32) from e)]
        cases hp : mk x s j
        · rw [hp] at nx; rw [e]; exact nx
        · rw [hp] at nx; exact nx
      · have ne : ¬ lsI (mk x s) j = M1 := by rw [e]; exact fun q => (nI_nm1 (show i < 2 ^ 31 by omega)).mp q
        rw [if_neg ne] at nx
        rw [if_neg (show ¬ lsI (mk x s) j = (-1 : Int32) from ne), many_e j (by omega), o1_s]
        rw [e] at nx ⊢
        rw [nI_clamp (by omega)] at nx
        rw [many_e i (by omega), o1_s]
        have p1 := popc10 i (by omega)
        have p2 := popc10 j (by omega)
        by_cases c : popc i ≤ popc j
        · rw [if_pos c] at nx
          rw [if_pos (nI_le c (by omega))]
          exact nx
        · rw [if_neg c] at nx
          rw [if_neg (nI_ge (by omega) (by omega))]
          cases hp : mk x s j
          · rw [hp] at nx; exact nx
          · rw [hp] at nx; exact nx
  exact loop 64 2000 0 (by omega) (by omega)
