/-! ===== a bound struck out ===== -/
def shf (b j : Nat) : Nat := if j < b then j else j + 1
theorem ahead_b : ∀ b, b < 20 → ∀ i, i < 32 → bt (((1 : Int32) <<< (nI b &&& 31)) - (1 : Int32)) i = decide (i < b) := by decide +kernel
def cgV (b : Nat) (x : Int32) : Int32 := (x &&& (((1 : Int32) <<< (nI b &&& 31)) - (1 : Int32))) ||| ((ush x (1 : Int32)) &&& ((((1 : Int32) <<< (nI b &&& 31)) - (1 : Int32)) ^^^ (-1 : Int32)))
theorem isM_cg {x : Int32} {n : Nat} {P Q : Nat → Bool} (h : isM x n P) (e : ∀ i, i < n → P i = Q i) : isM x n Q := fun i hi => by
  rw [h i hi]
  by_cases c : i < n
  · rw [e i c]
  · rw [decide_eq_false c, Bool.false_and, Bool.false_and]
theorem isM_gap {x : Int32} {n b : Nat} {P : Nat → Bool} (hn : n + 1 ≤ 20) (hb : b < n + 1) (h : isM x (n + 1) P) : isM (cgV b x) n (fun i => P (shf b i)) := by
  intro i hi
  have eu : bt (ush x (1 : Int32)) i = bt x (1 + i) := b_ushr 1 (by omega) x i
  unfold cgV
  rw [b_or, b_and, b_and, b_xor, ahead_b b (by omega) i hi, b_m1 i hi, eu]
  show _ = (decide (i < n) && P (shf b i))
  unfold shf
  by_cases c : i < b
  · rw [if_pos c, decide_eq_true c, h i hi, decide_eq_true (show i < n + 1 by omega), decide_eq_true (show i < n by omega)]; simp
  · rw [if_neg c, decide_eq_false c]
    by_cases d : i < n
    · rw [h (1 + i) (by omega), decide_eq_true (show 1 + i < n + 1 by omega), decide_eq_true d, Nat.add_comm 1 i]; simp
    · have : bt x (1 + i) = false := by
        by_cases q : 1 + i < 32
        · rw [h (1 + i) q, decide_eq_false (show ¬ 1 + i < n + 1 by omega), Bool.false_and]
        · exact b_big (by omega)
      rw [this, decide_eq_false d]; simp
theorem closeGap_e {aq an b : Nat} (u : St) (han : an ≤ 240) : ∃ u', fX0_closeGap u aq an (nI b) = some u' ∧ (∀ q, q ≠ aq → u' q = u q) ∧ ∀ j, j < an → u' aq j = cgV b (u aq j) := by
  have loop : ∀ (m f j : Nat) (v : St), j + m = an → m < f → (∀ q, q ≠ aq → v q = u q) → (∀ i, i < j → v aq i = cgV b (u aq i)) → (∀ i, j ≤ i → v aq i = u aq i) → ∃ u', fX0_closeGap_L8 aq an f v (((1 : Int32) <<< (nI b &&& 31)) - (1 : Int32)) (nI j) = some u' ∧ (∀ q, q ≠ aq → u' q = u q) ∧ ∀ j, j < an → u' aq j = cgV b (u aq j) := by
    intro m
    induction m with
    | zero =>
      intro f j v hj hf h1 h2 h3
      obtain ⟨f, rfl⟩ : ∃ f', f = f' + 1 := ⟨f - 1, by omega⟩
      have : j = an := by omega
      subst this
      rw [fX0_closeGap_L8]
      dsimp only
      rw [if_pos (show Int32.ofNat j ≤ nI j from nI_le (a := j) (Nat.le_refl _) (by omega))]
      exact ⟨v, rfl, h1, h2⟩
    | succ m ih =>
      intro f j v hj hf h1 h2 h3
      obtain ⟨f, rfl⟩ : ∃ f', f = f' + 1 := ⟨f - 1, by omega⟩
      rw [fX0_closeGap_L8]
      dsimp only
      rw [if_neg (show ¬ Int32.ofNat an ≤ nI j from nI_ge (a := j) (b := an) (by omega) (by omega)), ald_e (by omega) (by omega), ald_e (by omega) (by omega), asr_e (by omega) (by omega), bd_e, nI_1, h3 j (Nat.le_refl _)]
      refine ih f (j + 1) _ (by omega) (by omega) (fun q hq => by rw [wr_ne hq]; exact h1 q hq) (fun i hi => ?_) (fun i hi => by rw [wr_jn (by omega)]; exact h3 i (by omega))
      by_cases e : i = j
      · rw [e, wr_js]; rfl
      · rw [wr_jn e]; exact h2 i (by omega)
  unfold fX0_closeGap
  rw [bd_e]
  exact loop an 2000 0 u (by omega) (by omega) (fun _ _ => rfl) (fun i hi => absurd hi (Nat.not_lt_zero i)) (fun _ _ => rfl)
theorem acp_e {β : Type} {u : St} {q0 n0 q1 n1 sp dp n : Nat} {k : St → Option β} (h1 : sp + n ≤ n0) (h2 : dp + n ≤ n1) (h0 : n0 < 2 ^ 31) (h3 : n1 < 2 ^ 31) : acp u q0 n0 (nI sp) q1 n1 (nI dp) (nI n) k = k (st_up u q1 (va_cpy (u q0) (u q1) sp dp n)) := by
  unfold acp
  rw [nI_clamp (by omega), nI_clamp (by omega), nI_clamp (by omega), if_neg]
  rintro (q | q | q | q | q)
  · exact nI_pos (by omega) q
  · exact nI_pos (by omega) q
  · exact nI_pos (by omega) q
  · omega
  · omega
def gapf (b n i : Nat) : Nat := if b * 7 ≤ i ∧ i < n * 7 then i + 7 else i
theorem gapf_e {b n j k : Nat} (hj : j < n) (hk : k < 7) : gapf b n (7 * j + k) = 7 * shf b j + k := by
  unfold gapf shf
  by_cases c : j < b
  · rw [if_neg (show ¬ (b * 7 ≤ 7 * j + k ∧ 7 * j + k < n * 7) by omega), if_pos c]
  · rw [if_pos (show b * 7 ≤ 7 * j + k ∧ 7 * j + k < n * 7 by omega), if_neg c]; omega
theorem strikeOut_e {σ : St} {n b : Nat} (hn : n + 1 ≤ 20) (hb : b < n + 1) (h3 : σ 3 1 = nI (n + 1)) (hT : tabX σ (n + 1)) : ∃ σ', fX0_strikeOut σ (nI b) = some σ' ∧ σ' 3 1 = nI n ∧ (∀ q, q ≠ 3 → (q < 11 ∨ 16 < q) → σ' q = σ q) ∧ (∀ j, j ≠ 1 → σ' 3 j = σ 3 j) ∧ (∀ j, j < n → ∀ k, k < 7 → cX σ' j k = cX σ (shf b j) k) ∧ tabX σ' n := by
  unfold fX0_strikeOut
  have e1 : nI (n + 1) - (1 : Int32) = nI n := by rw [l_1, pk_sub (by omega)]; rfl
  rw [h3, e1, bd_e]
  have e2 : (nI b + (1 : Int32)) * (7 : Int32) = nI ((b + 1) * 7) := by rw [nI_1, l_7, pk_mul]
  have e3 : nI b * (7 : Int32) = nI (b * 7) := by rw [l_7, pk_mul]
  have e4 : (st_wr σ 3 1 (nI n) 3 1 - nI b) * (7 : Int32) = nI ((n - b) * 7) := by rw [wr_js, pk_sub (by omega), l_7, pk_mul]
  rw [e2, e3, e4, acp_e (by omega) (by omega) (by decide) (by decide)]
  obtain ⟨u1, hu1⟩ : ∃ u1, u1 = st_up (st_wr σ 3 1 (nI n)) 11 (va_cpy (st_wr σ 3 1 (nI n) 11) (st_wr σ 3 1 (nI n) 11) ((b + 1) * 7) (b * 7) ((n - b) * 7)) := ⟨_, rfl⟩
  rw [← hu1]
  have c11 : ∀ i, u1 11 i = σ 11 (gapf b n i) := fun i => by
    rw [hu1, up_at, wr_ne (by decide)]
    unfold gapf
    by_cases c : b * 7 ≤ i ∧ i < n * 7
    · rw [if_pos c, pk_cpy_in (by omega) (by omega)]; exact congrArg _ (by omega)
    · rw [if_neg c, pk_cpy_out (by omega)]
  have c3 : u1 3 1 = nI n := by rw [hu1, up_ne (by decide), wr_js]
  have c3j : ∀ j, j ≠ 1 → u1 3 j = σ 3 j := fun j hj => by rw [hu1, up_ne (by decide), wr_jn hj]
  have cq : ∀ q, q ≠ 3 → q ≠ 11 → u1 q = σ q := fun q h1 h2 => by rw [hu1, up_ne h2, wr_ne h1]
  obtain ⟨u2, a1, a2, a3⟩ := closeGap_e (aq := 12) (an := 240) (b := b) u1 (by omega)
  obtain ⟨u3, b1, b2, b3⟩ := closeGap_e (aq := 13) (an := 6) (b := b) u2 (by omega)
  obtain ⟨u4, d1, d2, d3⟩ := closeGap_e (aq := 14) (an := 6) (b := b) u3 (by omega)
  obtain ⟨u5, g1, g2, g3⟩ := closeGap_e (aq := 15) (an := 6) (b := b) u4 (by omega)
  obtain ⟨u6, k1, k2, k3⟩ := closeGap_e (aq := 16) (an := 6) (b := b) u5 (by omega)
  rw [a1, o1_s, b1, o1_s, d1, o1_s, g1, o1_s, k1, o1_s]
  have fr : ∀ q, q < 12 ∨ 16 < q → u6 q = u1 q := fun q hq => by rw [k2 q (by omega), g2 q (by omega), d2 q (by omega), b2 q (by omega), a2 q (by omega)]
  have w12 : ∀ j, j < 240 → u6 12 j = cgV b (σ 12 j) := fun j hj => by rw [k2 12 (by decide), g2 12 (by decide), d2 12 (by decide), b2 12 (by decide), a3 j hj, cq 12 (by decide) (by decide)]
  have w13 : ∀ j, j < 6 → u6 13 j = cgV b (σ 13 j) := fun j hj => by rw [k2 13 (by decide), g2 13 (by decide), d2 13 (by decide), b3 j hj, a2 13 (by decide), cq 13 (by decide) (by decide)]
  have w14 : ∀ j, j < 6 → u6 14 j = cgV b (σ 14 j) := fun j hj => by rw [k2 14 (by decide), g2 14 (by decide), d3 j hj, b2 14 (by decide), a2 14 (by decide), cq 14 (by decide) (by decide)]
  have w15 : ∀ j, j < 6 → u6 15 j = cgV b (σ 15 j) := fun j hj => by rw [k2 15 (by decide), g3 j hj, d2 15 (by decide), b2 15 (by decide), a2 15 (by decide), cq 15 (by decide) (by decide)]
  have w16 : ∀ j, j < 6 → u6 16 j = cgV b (σ 16 j) := fun j hj => by rw [k3 j hj, g2 16 (by decide), d2 16 (by decide), b2 16 (by decide), a2 16 (by decide), cq 16 (by decide) (by decide)]
  have hc : ∀ j, j < n → ∀ k, k < 7 → cX u6 j k = cX σ (shf b j) k := by
    intro j hj k hk
    unfold cX
    rw [fr 11 (Or.inl (by decide)), c11, gapf_e hj hk]
  clear hu1 c11
  obtain ⟨t1, t2, t3, t4, t5⟩ := hT
  refine ⟨u6, rfl, by rw [fr 3 (by decide)]; exact c3, fun q h1 h2 => by rw [fr q (by omega)]; exact cq q h1 (by omega), fun j hj => by rw [fr 3 (by decide)]; exact c3j j hj, hc, ?_, ?_, ?_, ?_, ?_⟩
  · intro w hw
    rw [w12 w hw]
    refine isM_cg (isM_gap hn hb (t1 w hw)) (fun i hi => ?_)
    show rch (cX σ) (shf b i) w = rch (cX u6) i w
    unfold rch
    rw [hc i hi 3 (by omega), hc i hi 4 (by omega), hc i hi 5 (by omega), hc i hi 6 (by omega)]
  · intro g hg
    rw [w13 g hg]
    exact isM_cg (isM_gap hn hb (t2 g hg)) (fun i hi => by rw [hc i hi 0 (by omega), hc i hi 1 (by omega)])
  · intro g hg
    rw [w14 g hg]
    exact isM_cg (isM_gap hn hb (t3 g hg)) (fun i hi => by rw [hc i hi 0 (by omega), hc i hi 1 (by omega)])
  · intro g hg
    rw [w15 g hg]
    exact isM_cg (isM_gap hn hb (t4 g hg)) (fun i hi => by rw [hc i hi 0 (by omega), hc i hi 1 (by omega)])
  · intro g hg
    rw [w16 g hg]
    exact isM_cg (isM_gap hn hb (t5 g hg)) (fun i hi => by rw [hc i hi 0 (by omega), hc i hi 1 (by omega)])
theorem strike_M {τ : St} {n b : Nat} (hn : n + 1 ≤ 20) (hb : b < n + 1) (h3 : τ 0 3 = nI (n + 1)) : ∃ τ', fX8_strike_L16 2000 τ (nI (7 * b)) = some (nI n, τ') ∧ τ' 0 3 = nI n ∧ (∀ q, q ≠ 0 → q ≠ 2 → τ' q = τ q) ∧ (∀ j, j ≠ 3 → τ' 0 j = τ 0 j) ∧ ∀ j, j < n → ∀ k, k < 7 → cM τ' j k = cM τ (shf b j) k := by
  have loop : ∀ (m f i : Nat) (v : St), i + m = 7 * n → m < f → 7 * b ≤ i → v 0 = τ 0 → (∀ q, q ≠ 0 → q ≠ 2 → v q = τ q) → (∀ j, v 2 j = if 7 * b ≤ j ∧ j < i then τ 2 (j + 7) else τ 2 j) → ∃ τ', fX8_strike_L16 f v (nI i) = some (nI n, τ') ∧ τ' 0 3 = nI n ∧ (∀ q, q ≠ 0 → q ≠ 2 → τ' q = τ q) ∧ (∀ j, j ≠ 3 → τ' 0 j = τ 0 j) ∧ ∀ j, τ' 2 j = if 7 * b ≤ j ∧ j < 7 * n then τ 2 (j + 7) else τ 2 j := by
    intro m
    induction m with
    | zero =>
      intro f i v hi hf hbi h1 h2 h4
      obtain ⟨f, rfl⟩ : ∃ f', f = f' + 1 := ⟨f - 1, by omega⟩
      have : i = 7 * n := by omega
      subst this
      rw [fX8_strike_L16]
      dsimp only
      have e : (7 : Int32) * nI (n + 1) - (7 : Int32) = nI (7 * n) := by rw [l_7, pk_mul, pk_sub (by omega)]; congr 1
      have e1 : nI (n + 1) - (1 : Int32) = nI n := by rw [l_1, pk_sub (by omega)]; rfl
      rw [h1, h3, e, if_pos (nI_le (Nat.le_refl _) (by omega))]
      unfold fX8_strike_L51
      rw [h1, h3, e1, bd_e, wr_js]
      exact ⟨_, rfl, wr_js _ _ _ _, fun q q0 q2 => by rw [wr_ne q0]; exact h2 q q0 q2, fun j hj => by rw [wr_jn hj, h1], fun j => by rw [wr_ne (by decide)]; exact h4 j⟩
    | succ m ih =>
      intro f i v hi hf hbi h1 h2 h4
      obtain ⟨f, rfl⟩ : ∃ f', f = f' + 1 := ⟨f - 1, by omega⟩
      rw [fX8_strike_L16]
      dsimp only
      have e : (7 : Int32) * nI (n + 1) - (7 : Int32) = nI (7 * n) := by rw [l_7, pk_mul, pk_sub (by omega)]; congr 1
      rw [h1, h3, e, if_neg (nI_ge (by omega) (by omega)), show nI i + (7 : Int32) = nI (i + 7) from by rw [l_7, nI_add], ald_e (by omega) (by decide), asr_e (by omega) (by decide), bd_e, nI_1]
      refine ih f (i + 1) _ (by omega) (by omega) (by omega) (by rw [wr_ne (by decide)]; exact h1) (fun q q0 q2 => by rw [wr_ne q2]; exact h2 q q0 q2) (fun j => ?_)
      by_cases c : j = i
      · rw [c, wr_js, if_pos (by omega), h4, if_neg (by omega)]
      · rw [wr_jn c, h4 j]
        by_cases d : 7 * b ≤ j ∧ j < i
        · rw [if_pos d, if_pos (by omega)]
        · rw [if_neg d, if_neg (by omega)]
  obtain ⟨τ', a1, a2, a3, a4, a5⟩ := loop (7 * n - 7 * b) 2000 (7 * b) τ (by omega) (by omega) (Nat.le_refl _) rfl (fun _ _ _ => rfl) (fun j => by rw [if_neg (by omega)])
  refine ⟨τ', a1, a2, a3, a4, fun j hj k hk => ?_⟩
  unfold cM shf
  rw [a5]
  by_cases c : j < b
  · rw [if_neg (by omega), if_pos c]
  · rw [if_pos (by omega), if_neg c]; congr 1; omega
theorem op_strike {σ τ : St} (h : Inv σ τ) (b : Int32) : ∃ r σ' τ', fX7_strike σ b = some (r, σ') ∧ fX8_strike τ b = some (r, τ') ∧ Inv σ' τ' := by
  obtain ⟨⟨n, hB⟩, ⟨L, hL⟩, hS, hP, hZ, hY⟩ := id h
  obtain ⟨n1, n2, n3, n4, n5, n6⟩ := id hB
  unfold fX7_strike fX8_strike
  rw [noB_e, isB_e, n2, n3]
  simp only [gt_c]
  cases hb : off b 0 (nI n - 1)
  · obtain ⟨b, hb', rfl⟩ := off_n (by omega) hb
    obtain ⟨n, rfl⟩ : ∃ m, n = m + 1 := ⟨n - 1, by omega⟩
    simp only [Bool.not_false, Bool.not_true, if_true, if_false, Bool.false_eq_true, ↓reduceIte]
    obtain ⟨σ', a1, a2, a3, a4, a5, a6⟩ := strikeOut_e n1 hb' n2 n5
    obtain ⟨τ', b1, b2, b3, b4, b5⟩ := strike_M n1 hb' n3
    rw [a1, o1_s, a2, show (7 : Int32) * nI b = nI (7 * b) from by rw [l_7, pk_mul], bd_e, b1]
    have hsh : ∀ j, j < n → shf b j < n + 1 := fun j hj => by unfold shf; split <;> omega
    refine ⟨_, σ', τ', rfl, rfl, ⟨n, by omega, a2, b2, fun j hj k hk => ?_, a6, fun j hj => ?_⟩, ⟨L, T_cg hL (by rw [a3 1 (by decide) (by decide)]) (a3 9 (by decide) (by decide)) (b4 1 (by decide)) (b3 1 (by decide) (by decide))⟩, S_cg hS (fun t _ => ⟨a3 _ (by omega) (by omega), a3 _ (by omega) (by omega)⟩) (b3 4 (by decide) (by decide)) (b3 5 (by decide) (by decide)) (b3 6 (by decide) (by decide)), P_cg hP (a3 17 (by decide) (by decide)) (a3 18 (by decide) (by decide)) (by rw [a3 4 (by decide) (by decide)]) (b3 7 (by decide) (by decide)) (b3 8 (by decide) (by decide)) (b4 11 (by decide)), Z_cg hZ (by rw [a3 7 (by decide) (by decide)]) (a3 20 (by decide) (by decide)) (a3 21 (by decide) (by decide)) (a3 22 (by decide) (by decide)) (b4 15 (by decide)) (b3 9 (by decide) (by decide)) (b3 10 (by decide) (by decide)) (b3 11 (by decide) (by decide)), Y_cg hY (by rw [a3 0 (by decide) (by decide)]) (a3 8 (by decide) (by decide)) (b4 17 (by decide)) (b3 12 (by decide) (by decide))⟩
    · rw [a5 j hj k hk, b5 j hj k hk]; exact n4 _ (hsh j hj) k hk
    · rw [b5 j hj 0 (by omega), b5 j hj 1 (by omega), b5 j hj 2 (by omega)]
      exact n6 _ (hsh j hj)
  · exact ⟨_, _, _, rfl, rfl, h⟩
