/-! ===== the reader: tokens ===== -/
def kdv (x : Int32) : Nat := if off x 97 122 then (if off x 48 57 then 3 else 2) else 1
def kdL (T : Nat → Int32) (L p : Nat) : Nat := if p < L then kdv (T p) else 0
theorem kdv_in (x : Int32) : kdv x = 1 ∨ kdv x = 2 ∨ kdv x = 3 := by
  unfold kdv
  cases off x 97 122 <;> cases off x 48 57 <;> simp
theorem kdL_in (T : Nat → Int32) (L p : Nat) : kdL T L p ≤ 3 := by
  unfold kdL
  by_cases h : p < L
  · rw [if_pos h]; rcases kdv_in (T p) with e | e | e <;> omega
  · rw [if_neg h]; omega
theorem off_iff (x a b : Int32) : off x a b = true ↔ x < a ∨ b < x := decide_eq_true_iff
theorem sort_e (x : Int32) : fX8_sort x = some (nI (kdv x % 3)) := by
  unfold fX8_sort fX8_sort_L16 kdv
  by_cases h1 : x < 97
  · rw [if_pos h1, show off x 97 122 = true from (off_iff _ _ _).mpr (Or.inl h1)]
    by_cases h3 : x < 48
    · rw [if_pos h3, show off x 48 57 = true from (off_iff _ _ _).mpr (Or.inl h3)]; rfl
    · by_cases h4 : (57 : Int32) < x
      · rw [if_neg h3, if_pos h4, show off x 48 57 = true from (off_iff _ _ _).mpr (Or.inr h4)]; rfl
      · rw [if_neg h3, if_neg h4, show off x 48 57 = false from decide_eq_false (fun q => q.elim h3 h4)]; rfl
  · by_cases h2 : (122 : Int32) < x
    · rw [if_neg h1, if_pos h2, show off x 97 122 = true from (off_iff _ _ _).mpr (Or.inr h2)]
      by_cases h3 : x < 48
      · rw [if_pos h3, show off x 48 57 = true from (off_iff _ _ _).mpr (Or.inl h3)]; rfl
      · by_cases h4 : (57 : Int32) < x
        · rw [if_neg h3, if_pos h4, show off x 48 57 = true from (off_iff _ _ _).mpr (Or.inr h4)]; rfl
        · rw [if_neg h3, if_neg h4, show off x 48 57 = false from decide_eq_false (fun q => q.elim h3 h4)]; rfl
    · rw [if_neg h1, if_neg h2, show off x 97 122 = false from decide_eq_false (fun q => q.elim h1 h2)]; rfl
def FR (σ τ u v : St) : Prop := (∀ q, q ≠ 2 → q ≠ 10 → u q = σ q) ∧ (∀ q, q ≠ 0 → q ≠ 3 → v q = τ q) ∧ ∀ j, j ≠ 5 → j ≠ 18 → j ≠ 19 → j ≠ 20 → v 0 j = τ 0 j
theorem FR_x {σ τ u v : St} {q j : Nat} {x : Int32} (h : FR σ τ u v) (hq : q = 2 ∨ q = 10) : FR σ τ (st_wr u q j x) v := ⟨fun k h1 h2 => by rw [wr_ne (by omega)]; exact h.1 k h1 h2, h.2⟩
theorem FR_3 {σ τ u v : St} {j : Nat} {x : Int32} (h : FR σ τ u v) : FR σ τ u (st_wr v 3 j x) := ⟨h.1, fun k h1 h2 => by rw [wr_ne h2]; exact h.2.1 k h1 h2, fun k h1 h2 h3 h4 => by rw [wr_ne (by decide)]; exact h.2.2 k h1 h2 h3 h4⟩
theorem FR_0 {σ τ u v : St} {j : Nat} {x : Int32} (h : FR σ τ u v) (hj : j = 5 ∨ j = 18 ∨ j = 19 ∨ j = 20) : FR σ τ u (st_wr v 0 j x) := ⟨h.1, fun k h1 h2 => by rw [wr_ne h1]; exact h.2.1 k h1 h2, fun k h1 h2 h3 h4 => by rw [wr_jn (by omega)]; exact h.2.2 k h1 h2 h3 h4⟩
def KP (u v u' v' : St) : Prop := u' 10 = u 10 ∧ u' 2 5 = u 2 5 ∧ v' 3 = v 3 ∧ v' 0 5 = v 0 5
theorem KP_rf (u v : St) : KP u v u v := ⟨rfl, rfl, rfl, rfl⟩
theorem KP_tr {u v u' v' u'' v'' : St} (h : KP u v u' v') (k : KP u' v' u'' v'') : KP u v u'' v'' := ⟨k.1.trans h.1, k.2.1.trans h.2.1, k.2.2.1.trans h.2.2.1, k.2.2.2.trans h.2.2.2⟩
theorem KP_x {u v : St} {j : Nat} {x : Int32} (hj : j ≠ 5) : KP u v (st_wr u 2 j x) v := ⟨wr_ne (by decide), wr_jn (fun e => hj e.symm), rfl, rfl⟩
theorem KP_m {u v : St} {j : Nat} {x : Int32} (hj : j ≠ 5) : KP u v u (st_wr v 0 j x) := ⟨rfl, rfl, wr_ne (by decide), wr_jn (fun e => hj e.symm)⟩
/-- both texts, while they are read -/
theorem txt_x {σ τ u v : St} {L : Nat} (hT : TInv σ τ L) (h : FR σ τ u v) : u 1 1 = nI L ∧ ∀ i, i < L → u 9 i = τ 1 i := by
  rw [h.1 1 (by decide) (by decide), h.1 9 (by decide) (by decide)]; exact ⟨hT.2.1, hT.2.2.2⟩
theorem txt_m {σ τ u v : St} {L : Nat} (hT : TInv σ τ L) (h : FR σ τ u v) : v 0 1 = nI L ∧ v 1 = τ 1 := by
  rw [h.2.2 1 (by decide) (by decide) (by decide) (by decide), h.2.1 1 (by decide) (by decide)]; exact ⟨hT.2.2.1, rfl⟩
theorem kd37 (u : St) (x : Int32) : (if x < (97 : Int32) then fX2_kindAt_L37 u x else (if (122 : Int32) < x then fX2_kindAt_L37 u x else some (1 : Int32))) = some (nI (kdv x)) := by
  have low : fX2_kindAt_L37 u x = some (nI (if off x 48 57 then 3 else 2)) := by
    unfold fX2_kindAt_L37
    by_cases h3 : x < 48
    · rw [if_pos h3, show off x 48 57 = true from (off_iff _ _ _).mpr (Or.inl h3)]; rfl
    · by_cases h4 : (57 : Int32) < x
      · rw [if_neg h3, if_pos h4, show off x 48 57 = true from (off_iff _ _ _).mpr (Or.inr h4)]; rfl
      · rw [if_neg h3, if_neg h4, show off x 48 57 = false from decide_eq_false (fun q => q.elim h3 h4)]; rfl
  unfold kdv
  by_cases h1 : x < 97
  · rw [if_pos h1, low, show off x 97 122 = true from (off_iff _ _ _).mpr (Or.inl h1)]; rfl
  · by_cases h2 : (122 : Int32) < x
    · rw [if_neg h1, if_pos h2, low, show off x 97 122 = true from (off_iff _ _ _).mpr (Or.inr h2)]; rfl
    · rw [if_neg h1, if_neg h2, show off x 97 122 = false from decide_eq_false (fun q => q.elim h1 h2)]; rfl
theorem kindAt_e {σ τ u v : St} {L i : Nat} (hT : TInv σ τ L) (h : FR σ τ u v) (hi : i ≤ L) : fX2_kindAt u (nI i) = some (nI (kdL (τ 1) L i)) := by
  obtain ⟨x1, x2⟩ := txt_x hT h
  have hL := hT.1
  unfold fX2_kindAt kdL
  rw [x1]
  by_cases c : i < L
  · rw [if_pos (nI_lt c (by omega)), if_pos c, ald_e (by omega) (by decide), x2 i c]
    exact kd37 u (τ 1 i)
  · rw [if_neg (nI_nlt (by omega) (by omega)), if_neg c]; rfl
theorem tok1 {σ τ : St} {L : Nat} (hT : TInv σ τ L) : ∀ (m f i : Nat) (u v : St), i + m = L → m < f → FR σ τ u v → u 2 2 = nI i → v 0 18 = nI i → ∃ (i' : Nat) (u' v' : St), fX2_nextToken_L8 f u = fX2_nextToken_L52 u' ∧ fX8_token_L0 f v = fX8_token_L38 v' ∧ FR σ τ u' v' ∧ u' 2 2 = nI i' ∧ v' 0 18 = nI i' ∧ i ≤ i' ∧ i' ≤ L ∧ KP u v u' v' := by
  have hL := hT.1
  intro m
  induction m with
  | zero =>
    intro f i u v hi hf h h1 h2
    obtain ⟨f, rfl⟩ : ∃ f', f = f' + 1 := ⟨f - 1, by omega⟩
    rw [fX2_nextToken_L8, fX8_token_L0]
    dsimp only
    rw [(txt_x hT h).1, (txt_m hT h).1, h1, h2, if_pos (nI_le (by omega) (by omega)), if_pos (nI_le (by omega) (by omega))]
    exact ⟨i, u, v, rfl, rfl, h, h1, h2, Nat.le_refl _, by omega, KP_rf u v⟩
  | succ m ih =>
    intro f i u v hi hf h h1 h2
    obtain ⟨f, rfl⟩ : ∃ f', f = f' + 1 := ⟨f - 1, by omega⟩
    rw [fX2_nextToken_L8, fX8_token_L0]
    dsimp only
    rw [(txt_x hT h).1, (txt_m hT h).1, h1, h2, if_neg (nI_ge (by omega) (by omega)), if_neg (nI_ge (by omega) (by omega)), ald_e (by omega) (by decide), ald_e (by omega) (by decide), (txt_x hT h).2 i (by omega), (txt_m hT h).2]
    by_cases c : τ 1 i = (32 : Int32)
    · rw [if_pos c, if_pos c, bd_e, bd_e, nI_1]
      obtain ⟨i', u', v', a1, a2, a3, a4, a5, a6, a7, a8⟩ := ih f (i + 1) (st_wr u 2 2 (nI (i + 1))) (st_wr v 0 18 (nI (i + 1))) (by omega) (by omega) (FR_0 (FR_x h (by omega)) (by omega)) (wr_js _ _ _ _) (wr_js _ _ _ _)
      exact ⟨i', u', v', a1, a2, a3, a4, a5, by omega, a7, KP_tr (KP_tr (KP_x (by decide)) (KP_m (by decide))) a8⟩
    · rw [if_neg c, if_neg c]
      exact ⟨i, u, v, rfl, rfl, h, h1, h2, Nat.le_refl _, by omega, KP_rf u v⟩
theorem kd_same {T : Nat → Int32} {x : Int32} {L e k : Nat} (he : e < L) (hk : k = 1 ∨ k = 2) (hx : kdv x = k) : (nI (kdL T L e) = nI k) = (nI (kdv (T e) % 3) = nI (kdv x % 3)) := by
  unfold kdL
  rw [if_pos he, hx]
  rcases kdv_in (T e) with q | q | q <;> rcases hk with rfl | rfl <;> rw [q] <;> decide
theorem tok2 {σ τ : St} {L p k : Nat} (hT : TInv σ τ L) (hp : p < L) (hk : k = 1 ∨ k = 2) (hkp : kdv (τ 1 p) = k) : ∀ (m f e : Nat) (u v : St), e + m = L → m < f → FR σ τ u v → u 2 1 = nI k → v 0 19 = nI p → u 2 3 = nI e → v 0 18 = nI e → ∃ (e' : Nat) (u' v' : St), fX2_nextToken_L104 f u = some u' ∧ fX8_token_L71 f v = fX8_token_L137 v' ∧ FR σ τ u' v' ∧ u' 2 1 = nI k ∧ u' 2 2 = u 2 2 ∧ v' 0 19 = nI p ∧ u' 2 3 = nI e' ∧ v' 0 18 = nI e' ∧ e ≤ e' ∧ e' ≤ L ∧ KP u v u' v' := by
  have hL := hT.1
  intro m
  induction m with
  | zero =>
    intro f e u v hi hf h h1 h2 h3 h4
    obtain ⟨f, rfl⟩ : ∃ f', f = f' + 1 := ⟨f - 1, by omega⟩
    rw [fX2_nextToken_L104, fX8_token_L71]
    dsimp only
    rw [(txt_x hT h).1, (txt_m hT h).1, h3, h4, if_pos (nI_le (by omega) (by omega)), if_pos (nI_le (by omega) (by omega))]
    exact ⟨e, u, v, rfl, rfl, h, h1, rfl, h2, h3, h4, Nat.le_refl _, by omega, KP_rf u v⟩
  | succ m ih =>
    intro f e u v hi hf h h1 h2 h3 h4
    obtain ⟨f, rfl⟩ : ∃ f', f = f' + 1 := ⟨f - 1, by omega⟩
    rw [fX2_nextToken_L104, fX8_token_L71]
    dsimp only
    rw [(txt_x hT h).1, (txt_m hT h).1, h3, h4, h2, if_neg (nI_ge (by omega) (by omega)), if_neg (nI_ge (by omega) (by omega)), kindAt_e hT h (by omega), o1_s, ald_e (by omega) (by decide), (txt_m hT h).2, sort_e, o1_s]
    have k0 : ¬ nI (kdv (τ 1 p) % 3) ≤ (0 : Int32) := by
      rw [hkp]; rcases hk with rfl | rfl <;> decide
    rw [if_neg k0, ald_e (by omega) (by decide), (txt_m hT h).2, sort_e, o1_s, ald_e (by omega) (by decide), (txt_m hT h).2, sort_e, o1_s, h1]
    have same := kd_same (T := τ 1) (L := L) (e := e) (by omega) hk hkp
    simp only [same]
    by_cases c : nI (kdv (τ 1 e) % 3) = nI (kdv (τ 1 p) % 3)
    · rw [if_pos c, if_pos c, bd_e, bd_e, nI_1]
      obtain ⟨e', u', v', a1, a2, a3, a4, a5, a6, a7, a8, a9, a10, a11⟩ := ih f (e + 1) (st_wr u 2 3 (nI (e + 1))) (st_wr v 0 18 (nI (e + 1))) (by omega) (by omega) (FR_0 (FR_x h (by omega)) (by omega)) (by rw [wr_jn (by decide)]; exact h1) (by rw [wr_jn (by decide)]; exact h2) (wr_js _ _ _ _) (wr_js _ _ _ _)
      refine ⟨e', u', v', a1, a2, a3, a4, by rw [a5, wr_jn (by decide)], a6, a7, a8, by omega, a10, KP_tr (KP_tr (KP_x (by decide)) (KP_m (by decide))) a11⟩
    · rw [if_neg c, if_neg c]
      exact ⟨e, u, v, rfl, rfl, h, h1, rfl, h2, h3, h4, Nat.le_refl _, by omega, KP_rf u v⟩
/-- the present token of both: from p to e -/
def RR (σ τ : St) (L : Nat) (u v : St) (p e : Nat) : Prop := FR σ τ u v ∧ u 2 1 = nI (kdL (τ 1) L p) ∧ u 2 2 = nI p ∧ u 2 3 = nI e ∧ v 0 18 = nI e ∧ v 0 19 = nI p ∧ v 0 20 = nI e ∧ p ≤ e ∧ e ≤ L ∧ (p < L → p < e) ∧ (kdL (τ 1) L p = 3 → e = p + 1)
theorem tok {σ τ u v : St} {L e : Nat} (hT : TInv σ τ L) (h : FR σ τ u v) (h3 : u 2 3 = nI e) (h18 : v 0 18 = nI e) (he : e ≤ L) : ∃ (u' v' : St) (p' e' : Nat), fX2_nextToken u = some u' ∧ fX8_token v = some v' ∧ RR σ τ L u' v' p' e' ∧ e ≤ p' ∧ KP u v u' v' := by
  have hL := hT.1
  unfold fX2_nextToken fX8_token
  rw [bd_e, h3]
  obtain ⟨p, u1, v1, a1, a2, a3, a4, a5, a6, a7, a8⟩ := tok1 hT (L - e) 2000 e (st_wr u 2 2 (nI e)) v (by omega) (by omega) (FR_x h (by omega)) (wr_js _ _ _ _) h18
  have kp : KP u v u1 v1 := KP_tr (KP_x (by decide)) a8
  rw [a1, a2]
  unfold fX2_nextToken_L52 fX8_token_L38
  rw [a4, kindAt_e hT a3 a7, o1_s, bd_e, bd_e, wr_js, a5]
  have m1 : st_wr v1 0 19 (nI p) 0 1 = nI L := by rw [wr_jn (by decide)]; exact (txt_m hT a3).1
  have m18 : st_wr v1 0 19 (nI p) 0 18 = nI p := by rw [wr_jn (by decide)]; exact a5
  have x2 : st_wr u1 2 1 (nI (kdL (τ 1) L p)) 2 2 = nI p := by rw [wr_jn (by decide)]; exact a4
  rw [m1, m18, x2]
  unfold fX2_nextToken_L85 fX8_token_L67
  rw [bd_e, bd_e, bd_e, bd_e]
  by_cases c : p < L
  · have hkd : kdL (τ 1) L p = kdv (τ 1 p) := by unfold kdL; rw [if_pos c]
    have n0 : ¬ nI (kdL (τ 1) L p) = (0 : Int32) := by
      rw [hkd]; rcases kdv_in (τ 1 p) with q | q | q <;> rw [q] <;> decide
    rw [if_neg n0, if_neg (nI_ge (by omega) (by omega)), nI_1]
    have F : FR σ τ (st_wr (st_wr u1 2 1 (nI (kdL (τ 1) L p))) 2 3 (nI (p + 1))) (st_wr (st_wr v1 0 19 (nI p)) 0 18 (nI (p + 1))) := FR_0 (FR_0 (FR_x (FR_x a3 (by omega)) (by omega)) (by omega)) (by omega)
    have K : KP u v (st_wr (st_wr u1 2 1 (nI (kdL (τ 1) L p))) 2 3 (nI (p + 1))) (st_wr (st_wr v1 0 19 (nI p)) 0 18 (nI (p + 1))) := KP_tr kp (KP_tr (KP_tr (KP_x (by decide)) (KP_x (by decide))) (KP_tr (KP_m (by decide)) (KP_m (by decide))))
    have y1 : st_wr (st_wr u1 2 1 (nI (kdL (τ 1) L p))) 2 3 (nI (p + 1)) 2 1 = nI (kdL (τ 1) L p) := by rw [wr_jn (by decide), wr_js]
    have y2 : st_wr (st_wr u1 2 1 (nI (kdL (τ 1) L p))) 2 3 (nI (p + 1)) 2 2 = nI p := by rw [wr_jn (by decide), wr_jn (by decide)]; exact a4
    have y19 : st_wr (st_wr v1 0 19 (nI p)) 0 18 (nI (p + 1)) 0 19 = nI p := by rw [wr_jn (by decide), wr_js]
    rw [y1]
    have two : kdv (τ 1 p) = 1 ∨ kdv (τ 1 p) = 2 → ∃ (u' v' : St) (p' e' : Nat), fX2_nextToken_L104 2000 (st_wr (st_wr u1 2 1 (nI (kdL (τ 1) L p))) 2 3 (nI (p + 1))) = some u' ∧ fX8_token_L71 2000 (st_wr (st_wr v1 0 19 (nI p)) 0 18 (nI (p + 1))) = some v' ∧ RR σ τ L u' v' p' e' ∧ e ≤ p' ∧ KP u v u' v' := by
      intro hk
      obtain ⟨e', u', v', b1, b2, b3, b4, b5, b6, b7, b8, b9, b10, b11⟩ := tok2 hT c hk rfl (L - (p + 1)) 2000 (p + 1) _ _ (by omega) (by omega) F (by rw [y1, hkd]) y19 (wr_js _ _ _ _) (wr_js _ _ _ _)
      rw [b1, b2]
      unfold fX8_token_L137
      rw [bd_e]
      refine ⟨_, _, p, e', rfl, rfl, ⟨FR_0 b3 (by omega), by rw [b4, hkd], by rw [b5, y2], b7, by rw [wr_jn (by decide)]; exact b8, by rw [wr_jn (by decide), b6], by rw [wr_js, b8], by omega, b10, fun _ => by omega, fun q => ?_⟩, a6, KP_tr K (KP_tr b11 (KP_m (by decide)))⟩
      rw [hkd] at q
      rcases hk with q' | q' <;> omega
    rcases kdv_in (τ 1 p) with q | q | q
    · rw [if_pos (show nI (kdL (τ 1) L p) = (1 : Int32) by rw [hkd, q]; rfl)]
      exact two (Or.inl q)
    · rw [if_neg (show ¬ nI (kdL (τ 1) L p) = (1 : Int32) by rw [hkd, q]; decide), if_pos (show nI (kdL (τ 1) L p) = (2 : Int32) by rw [hkd, q]; rfl)]
      exact two (Or.inr q)
    · rw [if_neg (show ¬ nI (kdL (τ 1) L p) = (1 : Int32) by rw [hkd, q]; decide), if_neg (show ¬ nI (kdL (τ 1) L p) = (2 : Int32) by rw [hkd, q]; decide)]
      have stop : ∀ f, 0 < f → fX8_token_L71 f (st_wr (st_wr v1 0 19 (nI p)) 0 18 (nI (p + 1))) = fX8_token_L137 (st_wr (st_wr v1 0 19 (nI p)) 0 18 (nI (p + 1))) := by
        intro f hf
        obtain ⟨f, rfl⟩ : ∃ f', f = f' + 1 := ⟨f - 1, by omega⟩
        rw [fX8_token_L71]
        dsimp only
        rw [(txt_m hT F).1, wr_js]
        by_cases d : L ≤ p + 1
        · rw [if_pos (nI_le d (by omega))]
        · rw [if_neg (nI_ge (by omega) (by omega)), y19, ald_e (by omega) (by decide), (txt_m hT F).2, sort_e, o1_s, q, if_pos (by decide)]
      rw [stop 2000 (by omega)]
      unfold fX8_token_L137
      rw [bd_e]
      exact ⟨_, _, p, p + 1, rfl, rfl, ⟨FR_0 F (by omega), y1, y2, wr_js _ _ _ _, by rw [wr_jn (by decide), wr_js], by rw [wr_jn (by decide), y19], by rw [wr_js, wr_js], by omega, by omega, fun _ => by omega, fun _ => rfl⟩, a6, KP_tr K (KP_m (by decide))⟩
  · have hp : p = L := by omega
    have hkd : kdL (τ 1) L p = 0 := by unfold kdL; rw [if_neg c]
    rw [hkd, if_pos (show nI 0 = (0 : Int32) from rfl), if_pos (nI_le (by omega) (by omega)), show nI p + (0 : Int32) = nI p from Int32.add_zero _]
    have F : FR σ τ (st_wr (st_wr u1 2 1 (nI 0)) 2 3 (nI p)) (st_wr (st_wr v1 0 19 (nI p)) 0 18 (nI p)) := FR_0 (FR_0 (FR_x (FR_x a3 (by omega)) (by omega)) (by omega)) (by omega)
    have y1 : st_wr (st_wr u1 2 1 (nI 0)) 2 3 (nI p) 2 1 = nI 0 := by rw [wr_jn (by decide), wr_js]
    rw [y1, if_neg (by decide), if_neg (by decide)]
    have stop : ∀ f, 0 < f → fX8_token_L71 f (st_wr (st_wr v1 0 19 (nI p)) 0 18 (nI p)) = fX8_token_L137 (st_wr (st_wr v1 0 19 (nI p)) 0 18 (nI p)) := by
      intro f hf
      obtain ⟨f, rfl⟩ : ∃ f', f = f' + 1 := ⟨f - 1, by omega⟩
      rw [fX8_token_L71]
      dsimp only
      rw [(txt_m hT F).1, wr_js, if_pos (nI_le (by omega) (by omega))]
    rw [stop 2000 (by omega)]
    unfold fX8_token_L137
    rw [bd_e]
    exact ⟨_, _, p, p, rfl, rfl, ⟨FR_0 F (by omega), by rw [hkd]; exact y1, by rw [wr_jn (by decide), wr_jn (by decide)]; exact a4, wr_js _ _ _ _, by rw [wr_jn (by decide), wr_js], by rw [wr_jn (by decide), wr_jn (by decide), wr_js], by rw [wr_js, wr_js], Nat.le_refl _, by omega, fun q => (c q).elim, fun q => by rw [hkd] at q; cases q⟩, a6, KP_tr kp (KP_tr (KP_tr (KP_x (by decide)) (KP_x (by decide))) (KP_tr (KP_m (by decide)) (KP_tr (KP_m (by decide)) (KP_m (by decide)))))⟩
