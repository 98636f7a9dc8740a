/-! ===== a work a little other by which a thing needs fewer ===== -/
theorem bd_e {α β : Type} (x : α) (k : α → Option β) : bd x k = k x := rfl
def nd (P : Nat → Bool) : Nat := if lsI P 64 = M1 then 7 else popc (lsI P 64).toNatClampNeg
theorem nd_le (P : Nat → Bool) : nd P ≤ 10 := by
  unfold nd
  rcases lsI64 P with e | ⟨j, hj, e⟩
  · rw [if_pos e]; omega
  · rw [e, if_neg (fun q => (nI_nm1 (show j < 2 ^ 31 by omega)).mp q), nI_clamp (by omega)]; exact popc10 j (by omega)
theorem nd_cg {P Q : Nat → Bool} (h : ∀ b, b < 64 → P b = Q b) : nd P = nd Q := by unfold nd; rw [lsI_cg h]
theorem count_X {x : Int64} {P : Nat → Bool} (hx : ∀ set, set < 64 → bL x set = P set) : fX1_leastCount x = some (nI (nd P)) := by
  unfold fX1_leastCount nd
  rw [least_X hx, o1_s]
  rcases lsI64 P with e | ⟨j, hj, e⟩
  · rw [e, if_pos (show M1 = (-1 : Int32) from rfl), if_pos rfl]; rfl
  · have ne : ¬ nI j = M1 := fun q => (nI_nm1 (show j < 2 ^ 31 by omega)).mp q
    rw [e, if_neg (show ¬ nI j = (-1 : Int32) from ne), if_neg ne, bitCount_e j (by omega), nI_clamp (by omega), o1_s]
theorem needed_e {v : St} {s : Nat} {x : Nat → Nat → Nat} (hs : s ≤ 8) (hx : ∀ k g, x k g ≤ 7) (h25 : v 0 25 = nI s) (h14 : ∀ j, j < 12 * s → v 14 j = nI (x (j / 6) (j % 6))) : fX8_needed v = some (nI (nd (mk x s))) := by
  unfold fX8_needed nd
  rw [least_M hs hx h25 h14, o1_s]
  rcases lsI64 (mk x s) with e | ⟨j, hj, e⟩
  · rw [e, if_pos (show M1 = (-1 : Int32) from rfl), if_pos rfl]; rfl
  · have ne : ¬ nI j = M1 := fun q => (nI_nm1 (show j < 2 ^ 31 by omega)).mp q
    rw [e, if_neg (show ¬ nI j = (-1 : Int32) from ne), if_neg ne, many_e j (by omega), nI_clamp (by omega), o1_s]
theorem allB_t {P : Nat → Bool} : ∀ {n : Nat}, allB P n = true ↔ ∀ b, b < n → P b = true
  | 0 => ⟨fun _ b hb => absurd hb (Nat.not_lt_zero b), fun _ => rfl⟩
  | n + 1 => by
    rw [allB, Bool.and_eq_true, allB_t]
    constructor
    · rintro ⟨h1, h2⟩ b hb
      by_cases e : b = n
      · rw [e]; exact h2
      · exact h1 b (by omega)
    · exact fun h => ⟨fun b hb => h b (by omega), h n (by omega)⟩
theorem allB_sp {P P' : Nat → Bool} {s i : Nat} {Q : Bool} (hs : s ≤ 8) (hi : i < s) (h : ∀ j, j < s → j ≠ i → P j = P' j) (hQ : P' i = Q) : (allB (fun j => lft (nI i) j || P j) s && Q) = allB P' s := by
  apply Bool.eq_iff_iff.mpr
  rw [Bool.and_eq_true, allB_t, allB_t]
  constructor
  · rintro ⟨h1, h2⟩ b hb
    by_cases e : b = i
    · rw [e, hQ]; exact h2
    · have := h1 b hb
      rw [show lft (nI i) b = false from decide_eq_false (by rw [nI_eq (by omega) (by omega)]; exact e), Bool.false_or] at this
      rw [← h b hb e]; exact this
  · intro h1
    refine ⟨fun b hb => ?_, by rw [← hQ]; exact h1 i hi⟩
    by_cases e : b = i
    · rw [e, show lft (nI i) i = true from decide_eq_true rfl]; rfl
    · show (lft (nI i) b || P b) = true
      rw [h b hb e, h1 b hb, Bool.or_true]
def upW (W : Nat → Int32) (k : Nat) (x : Int32) : Nat → Int32 := fun j => if j = k then x else W j
theorem cdN_u {c : Nat → Nat → Int32} {n : Nat} {th : Nat → Bool} {W W' : Nat → Int32} {k : Nat} (h : W k = W' k) (g : Nat) : cdN c n th W k g = cdN c n th W' k g := by unfold cdN; rw [h]
theorem ab_all : ∀ a, a < 10 → ∀ b, b < 10 → ab (nI a - nI b) = nI (if b ≤ a then a - b else b - a) := by decide +kernel
/-- the class's least and the reference's least and best go together -/
def SlyR (C l : Nat) (b : Int32) (q N0 : Nat) : Prop := (b = M1 ∧ C = N0 * 160 ∧ l = N0) ∨ ∃ j, j < q ∧ j < 160 ∧ b = nI j ∧ C = l * 160 + j ∧ l < N0
theorem SlyR_s {C l q N0 : Nat} {b : Int32} (h : SlyR C l b q N0) : SlyR C l b (q + 1) N0 := by
  rcases h with h | ⟨j, h1, h2⟩
  · exact Or.inl h
  · exact Or.inr ⟨j, by omega, h2⟩
theorem SlyR_l {C l q N0 : Nat} {b : Int32} (h : SlyR C l b q N0) : l ≤ N0 ∧ l * 160 ≤ C ∧ C ≤ N0 * 160 := by
  rcases h with ⟨-, h1, h2⟩ | ⟨j, h1, h2, h3, h4, h5⟩
  · omega
  · omega
theorem SlyR_1 {C l q N0 N : Nat} {b : Int32} (h : SlyR C l b q N0) (hq : q < 160) (hN : N < l) : SlyR (min C (N * 160 + q)) N (nI q) (q + 1) N0 := by
  have := SlyR_l h
  exact Or.inr ⟨q, by omega, hq, rfl, by omega, by omega⟩
theorem SlyR_2 {C l q N0 N : Nat} {b : Int32} (h : SlyR C l b q N0) (hN : l ≤ N) : SlyR (min C (N * 160 + q)) l b (q + 1) N0 := by
  have e : min C (N * 160 + q) = C := by
    rcases h with ⟨-, h1, h2⟩ | ⟨j, h1, h2, h3, h4, h5⟩
    · omega
    · omega
  rw [e]; exact SlyR_s h
def SlyV (τ v : St) (n s k : Nat) (W : Nat → Int32) : Prop := scM τ v ∧ (∀ b, b < n → thM v b = th1 b) ∧ v 0 25 = nI s ∧ ∀ j, j < 2 * s → j ≠ k → v 13 j = W j
theorem sly_depth {σ τ : St} {n t s k w p N0 C K : Nat} (hK : K < 2 ^ 30) (y : Int32) (k52 : St → Int32 → Int32 → Int32 → Int32 → Int32 → Option (Int32 × St)) (others bo : Int64) (hB : BInv σ τ n) (hT : Th σ τ t s) (hk : k < 2 * s) (hw : w < 240) (ew : Wt τ t k = nI w) (hp : p ≤ 9) (hN0 : N0 ≤ 10) (hC : C ≤ 1600)
    (hfam : ∀ w', w' < 240 → ∀ z : Int64, (∀ set, set < 64 → bL z set = anyB (fun g => gs set (cod (cM τ) n th1 g w').toNatClampNeg g) 6) → ∀ set, set < 64 → bL (others &&& (bo ||| z)) set = mk (cdN (cM τ) n th1 (upW (Wt τ t) k (nI w'))) s set) :
    ∀ (m f d D l : Nat) (b : Int32) (v : St), d + m = 10 → m < f → D ≤ K → SlyR (min C D) l b (10 * k + d) N0 → SlyV τ v n s k (Wt τ t) →
    ∃ (D' l' : Nat) (b' : Int32) (v' : St), fX1_slyestDepth_L49 σ t f (nI p) others (nI D) (nI w) bo (nI (10 * k)) (nI d) = some (nI D') ∧ fX8_sly_L75 k52 f v (nI p) y (nI l) b (nI k) (nI w) (nI d) = fX8_sly_L202 k52 v' (nI p) y (nI l') b' (nI k) (nI w) ∧ D' ≤ K ∧ SlyR (min C D') l' b' (10 * k + 10) N0 ∧ SlyV τ v' n s k (Wt τ t) := by
  have hs8 := hT.2.1
  have e10 : nI w / (10 : Int32) = nI (w / 10) := by rw [l_10, pk_div (by omega) (by omega) (by omega)]
  have er : nI w - nI w / (10 : Int32) * (10 : Int32) = nI (w % 10) := by rw [l_10]; exact pk_rem (by omega) (by omega) (by omega)
  intro m
  induction m with
  | zero =>
    intro f d D l b v hd hf hD hR hV
    obtain ⟨f, rfl⟩ : ∃ f', f = f' + 1 := ⟨f - 1, by omega⟩
    have : d = 10 := by omega
    subst this
    rw [fX1_slyestDepth_L49, fX8_sly_L75]
    dsimp only
    rw [if_pos (by decide), if_pos (by decide)]
    exact ⟨D, l, b, v, rfl, rfl, hD, hR, hV⟩
  | succ m ih =>
    intro f d D l b v hd hf hD hR hV
    obtain ⟨f, rfl⟩ : ∃ f', f = f' + 1 := ⟨f - 1, by omega⟩
    have hl := (SlyR_l hR).1
    have nm : ¬ nI w = (-1 : Int32) := fun q => (nI_nm1 (show w < 2 ^ 31 by omega)).mp q
    rw [fX1_slyestDepth_L49, fX8_sly_L75]
    dsimp only
    rw [if_neg (show ¬ (10 : Int32) ≤ nI d from nI_ge (b := 10) (by omega) (by omega)), if_neg (show ¬ (10 : Int32) ≤ nI d from nI_ge (b := 10) (by omega) (by omega)), if_neg nm, er, ab_all d (by omega) (w % 10) (by omega)]
    have eo : (if nI (w % 10) ≤ nI d then fX8_sly_L117 k52 (fX8_sly_L75 k52 f) v (nI p) y (nI l) b (nI k) (nI w) (nI d) (nI d - nI (w % 10)) else fX8_sly_L117 k52 (fX8_sly_L75 k52 f) v (nI p) y (nI l) b (nI k) (nI w) (nI d) (nI (w % 10) - nI d)) = fX8_sly_L117 k52 (fX8_sly_L75 k52 f) v (nI p) y (nI l) b (nI k) (nI w) (nI d) (nI (if w % 10 ≤ d then d - w % 10 else w % 10 - d)) := by
      by_cases c : w % 10 ≤ d
      · rw [if_pos (nI_le c (by omega)), if_pos c, pk_sub (by omega)]
      · rw [if_neg (nI_ge (by omega) (by omega)), if_neg c, pk_sub (by omega)]
    rw [eo]
    obtain ⟨o, ho, ho9⟩ : ∃ o, o = (if w % 10 ≤ d then d - w % 10 else w % 10 - d) ∧ o < 10 := ⟨_, rfl, by split <;> omega⟩
    rw [← ho]
    unfold fX8_sly_L117
    dsimp only [bd]
    have skip := ih f (d + 1) D l b v (by omega) (by omega) hD (by rw [← Nat.add_assoc]; exact SlyR_s hR) hV
    by_cases c0 : o = 0
    · rw [if_pos (show nI o < (1 : Int32) from nI_lt (b := 1) (by omega) (by omega)), if_pos (show nI o ≤ (0 : Int32) from nI_le (b := 0) (by omega) (by omega))]
      simp only [fX1_slyestDepth_L132, fX8_sly_L196, bd, nI_1]
      exact skip
    · rw [if_neg (show ¬ nI o < (1 : Int32) from nI_nlt (b := 1) (by omega) (by omega)), if_neg (show ¬ nI o ≤ (0 : Int32) from nI_ge (a := 0) (by omega) (by omega))]
      by_cases cp : p < o
      · rw [if_pos (nI_lt cp (by omega)), if_pos (nI_lt cp (by omega))]
        simp only [fX1_slyestDepth_L132, fX8_sly_L196, bd, nI_1]
        exact skip
      · rw [if_neg (nI_nlt (by omega) (by omega)), if_neg (nI_nlt (by omega) (by omega))]
        have hw' : w / 10 * 10 + d < 240 := by omega
        have e1 : nI w - nI (w % 10) + nI d = nI (w / 10 * 10 + d) := by rw [pk_sub (by omega), nI_add]; congr 1; omega
        have e2 : nI w / (10 : Int32) * (10 : Int32) + nI d = nI (w / 10 * 10 + d) := by rw [e10, l_10, pk_mul, nI_add]
        obtain ⟨z, z1, z2⟩ := setsWork_e hB (m1_all hB.1) hw'
        have hf' := hfam _ hw' z z2
        obtain ⟨V1, V2, V3, V4⟩ := hV
        obtain ⟨v2, a1, a2, a3⟩ := layCodes_e (v := st_wr v 13 k (nI (w / 10 * 10 + d))) (W := upW (Wt τ t) k (nI (w / 10 * 10 + d))) hB hs8 (fun j hj => by
            unfold upW
            by_cases e : j = k
            · rw [if_pos e]; exact Or.inr ⟨_, hw', rfl⟩
            · rw [if_neg e]; exact hT.2.2.2.2.1 j hj) (scM_tr V1 (scM_q (by omega))) (th := th1) (fun b hb => by rw [thM_cg (wr_ne (by decide))]; exact V2 b hb) (by rw [wr_ne (by decide)]; exact V3) (fun j hj => by
            unfold upW
            by_cases e : j = k
            · rw [e, if_pos rfl, wr_js]
            · rw [if_neg e, wr_jn e]; exact V4 j hj e)
        have h25 : v2 0 25 = nI s := by rw [a2 0 (by decide), wr_ne (by decide)]; exact V3
        have hnd := needed_e hs8 (cd7 hB th1 _) h25 a3
        have hV2 : SlyV τ v2 n s k (Wt τ t) := ⟨⟨by rw [a2 0 (by decide), wr_ne (by decide)]; exact V1.1, fun q q1 q2 q3 => (a2 q (by omega)).trans ((wr_ne (by omega)).trans (V1.2 q q1 q2 q3))⟩, fun b hb => by rw [thM_cg ((a2 0 (by decide)).trans (wr_ne (by decide)))]; exact V2 b hb, h25, fun j hj hjk => by rw [a2 13 (by decide), wr_jn hjk]; exact V4 j hj hjk⟩
        generalize hN : nd (mk (cdN (cM τ) n th1 (upW (Wt τ t) k (nI (w / 10 * 10 + d)))) s) = N at *
        have hN10 : N ≤ 10 := by rw [← hN]; exact nd_le _
        have hcount : fX1_leastCount (others &&& (bo ||| z)) = some (nI N) := by rw [count_X hf', hN]
        rw [e1, e2, z1, o1_s, hcount, o1_s, asr_e (by omega) (by decide), a1, o1_s, hnd, o1_s]
        have e3 : nI N * (160 : Int32) + nI (10 * k) + nI d = nI (N * 160 + (10 * k + d)) := by rw [l_160, pk_mul, nI_add, nI_add, Nat.add_assoc]
        have e4 : (10 : Int32) * nI k + nI d = nI (10 * k + d) := by rw [l_10, pk_mul, nI_add]
        rw [e3, e4, mi_e (by omega) (by omega)]
        simp only [fX1_slyestDepth_L132, fX8_sly_L196, fX8_sly_L178, fX8_sly_L194, bd, nI_1]
        have em : min C (min D (N * 160 + (10 * k + d))) = min (min C D) (N * 160 + (10 * k + d)) := by rw [Nat.min_assoc]
        have hD' : min D (N * 160 + (10 * k + d)) ≤ K := Nat.le_trans (Nat.min_le_left _ _) hD
        by_cases c : l ≤ N
        · rw [if_pos (nI_le c (by omega)), if_pos (nI_le c (by omega))]
          exact ih f (d + 1) (min D (N * 160 + (10 * k + d))) l b v2 (by omega) (by omega) hD' (by rw [em, show 10 * k + (d + 1) = 10 * k + d + 1 from rfl]; exact SlyR_2 hR c) hV2
        · rw [if_neg (nI_ge (by omega) (by omega)), if_neg (nI_ge (by omega) (by omega))]
          exact ih f (d + 1) (min D (N * 160 + (10 * k + d))) N (nI (10 * k + d)) v2 (by omega) (by omega) hD' (by rw [em, show 10 * k + (d + 1) = 10 * k + d + 1 from rfl]; exact SlyR_1 hR (by omega) (by omega)) hV2
theorem sly_fam {σ τ : St} {n t s i c : Nat} {others bo : Int64} (hB : BInv σ τ n) (hT : Th σ τ t s) (hi : i < s) (hc : c < 2)
    (h1 : ∀ set, set < 64 → bL others set = (bL (-1) set && allB (fun j => lft (nI i) j || stB (cdN (cM τ) n th1 (Wt τ t)) set j) s))
    (h2 : ∀ set, set < 64 → bL bo set = anyB (fun g => gs set (cdN (cM τ) n th1 (Wt τ t) (2 * i + (1 - c)) g) g) 6) :
    ∀ w', w' < 240 → ∀ z : Int64, (∀ set, set < 64 → bL z set = anyB (fun g => gs set (cod (cM τ) n th1 g w').toNatClampNeg g) 6) → ∀ set, set < 64 → bL (others &&& (bo ||| z)) set = mk (cdN (cM τ) n th1 (upW (Wt τ t) (2 * i + c) (nI w'))) s set := by
  intro w' hw' z hz set hset
  rw [L_and, L_or, h1 set hset, h2 set hset, hz set hset, L_m1 set hset, Bool.true_and]
  refine allB_sp hT.2.1 hi (fun j hj hne => ?_) ?_
  · rw [st12, st12]
    have q0 : ∀ g, cdN (cM τ) n th1 (Wt τ t) (2 * j) g = cdN (cM τ) n th1 (upW (Wt τ t) (2 * i + c) (nI w')) (2 * j) g := fun g => cdN_u (by unfold upW; rw [if_neg (by omega)]) g
    have q1 : ∀ g, cdN (cM τ) n th1 (Wt τ t) (2 * j + 1) g = cdN (cM τ) n th1 (upW (Wt τ t) (2 * i + c) (nI w')) (2 * j + 1) g := fun g => cdN_u (by unfold upW; rw [if_neg (by omega)]) g
    simp only [q0, q1]
  · rw [st12]
    have qc : ∀ g, cdN (cM τ) n th1 (upW (Wt τ t) (2 * i + c) (nI w')) (2 * i + c) g = (cod (cM τ) n th1 g w').toNatClampNeg := fun g => by
      unfold cdN upW
      rw [if_pos rfl, if_neg (fun q => (nI_nm1 (show w' < 2 ^ 31 by omega)).mp q), nI_clamp (by omega)]
    have qo : ∀ g, cdN (cM τ) n th1 (upW (Wt τ t) (2 * i + c) (nI w')) (2 * i + (1 - c)) g = cdN (cM τ) n th1 (Wt τ t) (2 * i + (1 - c)) g := fun g => cdN_u (by unfold upW; rw [if_neg (by omega)]) g
    rcases (show c = 0 ∨ c = 1 by omega) with rfl | rfl
    · simp only [Nat.add_zero, Nat.sub_zero] at qc qo ⊢
      simp only [qc, qo]
      rw [Bool.or_comm]
    · simp only [Nat.sub_self, Nat.add_zero] at qc qo ⊢
      simp only [qc, qo]
theorem sly_75 (k52 : St → Int32 → Int32 → Int32 → Int32 → Int32 → Option (Int32 × St)) (f : Nat) (hf : 0 < f) (v : St) (p y l b k : Int32) : fX8_sly_L75 k52 f v p y l b k M1 0 = fX8_sly_L202 k52 v p y l b k M1 := by
  obtain ⟨f, rfl⟩ : ∃ f', f = f' + 1 := ⟨f - 1, by omega⟩
  rw [fX8_sly_L75]
  dsimp only
  rw [if_neg (by decide), if_pos (show M1 = (-1 : Int32) from rfl)]
/-- one work of the thing, all depths -/
theorem sly_work {σ τ : St} {n t s i c p N0 C K : Nat} (hK : K < 2 ^ 30) (hK1 : 1600 ≤ K) (hKe : K = 1000000) (y : Int32) (others : Int64) (hB : BInv σ τ n) (hT : Th σ τ t s) (hi : i < s) (hc : c < 2) (hp : p ≤ 9) (hN0 : N0 ≤ 10)
    (h1 : ∀ set, set < 64 → bL others set = (bL (-1) set && allB (fun j => lft (nI i) j || stB (cdN (cM τ) n th1 (Wt τ t)) set j) s))
    (f l : Nat) (b : Int32) (v : St) (hR : SlyR C l b (10 * (2 * i + c)) N0) (hV : SlyV τ v n s 100 (Wt τ t)) :
    ∃ (D l' : Nat) (b' : Int32) (v' : St), fX1_slyestDepth σ t (nI i) (nI c) (nI p) others = some (nI D) ∧ fX8_sly_L52 (f + 1) v (nI p) y (nI l) b (nI (2 * i + c)) = fX8_sly_L52 f v' (nI p) y (nI l') b' (nI (2 * i + c + 1)) ∧ D ≤ K ∧ SlyR (min C D) l' b' (10 * (2 * i + c + 1)) N0 ∧ SlyV τ v' n s 100 (Wt τ t) := by
  have hs8 := hT.2.1
  obtain ⟨V1, V2, V3, V4⟩ := id hV
  have hl := SlyR_l hR
  have hk : 2 * i + c < 2 * s := by omega
  have hCK : C ≤ K := Nat.le_trans hl.2.2 (Nat.le_trans (Nat.mul_le_mul_right 160 hN0) hK1)
  have hC16 : C ≤ 1600 := Nat.le_trans hl.2.2 (Nat.mul_le_mul_right 160 hN0)
  clear hK1
  rw [fX8_sly_L52]
  dsimp only
  rw [V3, l_2, pk_mul, if_neg (nI_ge (by omega) (by omega)), ald_e (by omega) (by decide), V4 (2 * i + c) hk (by omega)]
  unfold fX1_slyestDepth
  rw [workAt_e hT hi hc rfl, o1_s, l_1000000, ← hKe]
  clear hKe
  rcases hT.2.2.2.2.1 (2 * i + c) hk with e | ⟨w, hw, e⟩
  · rw [e, if_pos (show M1 = (-1 : Int32) from rfl), sly_75 _ 2000 (by omega)]
    unfold fX8_sly_L202
    rw [asr_e (by omega) (by decide)]
    dsimp only [bd]
    rw [nI_1]
    refine ⟨K, l, b, _, rfl, rfl, Nat.le_refl _, ?_, scM_tr V1 (scM_q (by omega)), fun b hb => by rw [thM_cg (wr_ne (by decide))]; exact V2 b hb, by rw [wr_ne (by decide)]; exact V3, fun j hj _ => ?_⟩
    · rw [Nat.min_eq_left hCK]
      rcases hR with q | ⟨j, q1, q2⟩
      · exact Or.inl q
      · exact Or.inr ⟨j, by omega, q2⟩
    · by_cases q : j = 2 * i + c
      · rw [q, wr_js]; exact e.symm
      · rw [wr_jn q]; exact V4 j hj (by omega)
  · have nm : ¬ nI w = (-1 : Int32) := fun q => (nI_nm1 (show w < 2 ^ 31 by omega)).mp q
    obtain ⟨bo, b1, b2⟩ := setsWork_W hB (m1_all hB.1) hT.2.2.2.2.1 (show 2 * i + (1 - c) < 2 * s by omega)
    have e1 : (1 : Int32) - nI c = nI (1 - c) := by rw [l_1, pk_sub (by omega)]
    have e2 : (nI i * (2 : Int32) + nI c) * (10 : Int32) = nI (10 * (2 * i + c)) := by rw [l_2, l_10, pk_mul, nI_add, pk_mul]; congr 1; omega
    rw [e, if_neg nm, e1, workAt_e hT hi (show 1 - c < 2 by omega) rfl, o1_s, b1, o1_s, e2, bd_e]
    obtain ⟨D', l', b', v', d1, d2, d3, d4, d5⟩ := sly_depth hK y (fX8_sly_L52 f) others bo hB hT hk hw e hp hN0 (C := C) hC16 (sly_fam hB hT hi hc h1 b2) 10 2000 0 K l b v (by omega) (by omega) (Nat.le_refl _) (by rw [Nat.min_eq_left hCK]; exact hR) ⟨V1, V2, V3, fun j hj _ => V4 j hj (by omega)⟩
    rw [show nI 0 = (0 : Int32) from rfl] at d1
    rw [show nI 0 = (0 : Int32) from rfl] at d2
    rw [d1, d2]
    unfold fX8_sly_L202
    rw [asr_e (by omega) (by decide)]
    dsimp only [bd]
    rw [nI_1]
    obtain ⟨U1, U2, U3, U4⟩ := d5
    refine ⟨D', l', b', _, rfl, rfl, d3, by rw [show 10 * (2 * i + c + 1) = 10 * (2 * i + c) + 10 by omega]; exact d4, scM_tr U1 (scM_q (by omega)), fun b hb => by rw [thM_cg (wr_ne (by decide))]; exact U2 b hb, by rw [wr_ne (by decide)]; exact U3, fun j hj _ => ?_⟩
    by_cases q : j = 2 * i + c
    · rw [q, wr_js]; exact e.symm
    · rw [wr_jn q]; exact U4 j hj q
theorem sly_steps {σ τ : St} {n t s p N0 K : Nat} (hK : K < 2 ^ 30) (hK1 : 1600 ≤ K) (hKe : K = 1000000) (y : Int32) (hB : BInv σ τ n) (hT : Th σ τ t s) (hp : p ≤ 9) (hN0 : N0 ≤ 10) : ∀ (m f f' i C l : Nat) (b : Int32) (v : St), i + m = s → m < f → 2 * m < f' → SlyR C l b (10 * (2 * i)) N0 → SlyV τ v n s 100 (Wt τ t) →
    ∃ (C' l' : Nat) (b' : Int32) (v' : St), fX1_slyest_L19 σ t f (nI p) (nI (N0 * 160)) (nI C) (nI i) = fX1_slyest_L81 σ t (nI (N0 * 160)) (nI C') ∧ fX8_sly_L52 f' v (nI p) y (nI l) b (nI (2 * i)) = fX8_sly_L217 v' y (nI l') b' ∧ SlyR C' l' b' (20 * s) N0 ∧ scM τ v' := by
  have hs8 := hT.2.1
  intro m
  induction m with
  | zero =>
    intro f f' i C l b v hi hf hf' hR hV
    obtain ⟨f, rfl⟩ : ∃ g, f = g + 1 := ⟨f - 1, by omega⟩
    obtain ⟨f', rfl⟩ : ∃ g, f' = g + 1 := ⟨f' - 1, by omega⟩
    have : i = s := by omega
    subst this
    rw [fX1_slyest_L19, fX8_sly_L52]
    dsimp only
    rw [hT.2.2.1, if_pos (nI_le (Nat.le_refl _) (by omega)), hV.2.2.1, l_2, pk_mul, if_pos (nI_le (Nat.le_refl _) (by omega))]
    exact ⟨C, l, b, v, rfl, rfl, by rw [show 20 * i = 10 * (2 * i) by omega]; exact hR, hV.1⟩
  | succ m ih =>
    intro f f' i C l b v hi hf hf' hR hV
    obtain ⟨f, rfl⟩ : ∃ g, f = g + 1 := ⟨f - 1, by omega⟩
    obtain ⟨f', rfl⟩ : ∃ g, f' = g + 1 + 1 := ⟨f' - 2, by omega⟩
    have his : i < s := by omega
    obtain ⟨others, o1', o2'⟩ := setsThing_e (nI i) (-1) hB hT (m1_all hB.1)
    rw [fX1_slyest_L19]
    dsimp only
    rw [hT.2.2.1, if_neg (nI_ge (by omega) (by omega)), o1', o1_s]
    obtain ⟨D, l1, b1, v1, a1, a2, a3, a4, a5⟩ := sly_work (c := 0) hK hK1 hKe y others hB hT his (by omega) hp hN0 o2' (f' + 1) l b v hR hV
    obtain ⟨E, l2, b2, v2, c1, c2, c3, c4, c5⟩ := sly_work (c := 1) hK hK1 hKe y others hB hT his (by omega) hp hN0 o2' f' l1 b1 v1 a4 a5
    have a2' : fX8_sly_L52 (f' + 1 + 1) v (nI p) y (nI l) b (nI (2 * i)) = fX8_sly_L52 (f' + 1) v1 (nI p) y (nI l1) b1 (nI (2 * i + 1)) := a2
    have c2' : fX8_sly_L52 (f' + 1) v1 (nI p) y (nI l1) b1 (nI (2 * i + 1)) = fX8_sly_L52 f' v2 (nI p) y (nI l2) b2 (nI (2 * (i + 1))) := c2
    have hl := SlyR_l hR
    have hl2 := SlyR_l a4
    rw [a2', c2', fX1_slyest_L44]
    dsimp only
    rw [if_neg (by decide), show (0 : Int32) = nI 0 from rfl, a1, o1_s, mi_e (by omega) (by omega)]
    dsimp only [bd]
    rw [show nI 0 + (1 : Int32) = nI 1 from rfl, fX1_slyest_L44]
    dsimp only
    rw [if_neg (by decide), c1, o1_s, mi_e (by omega) (by omega)]
    dsimp only [bd]
    rw [show nI 1 + (1 : Int32) = nI 2 from rfl, fX1_slyest_L44]
    dsimp only
    rw [if_pos (by decide)]
    unfold fX1_slyest_L75
    dsimp only [bd]
    rw [nI_1]
    exact ih f f' (i + 1) _ l2 b2 v2 (by omega) (by omega) (by omega) c4 c5
theorem q160 {l j : Nat} (h : j < 160) : (l * 160 + j) / 160 = l ∧ (l * 160 + j) % 160 = j := by omega
theorem op_sly {σ τ : St} (h : Inv σ τ) (t p y : Int32) : ∃ r τ', fX7_sly σ t p y = some r ∧ fX8_sly τ t p y = some (r, τ') ∧ Inv σ τ' := by
  obtain ⟨⟨n, hB⟩, -, hS, -⟩ := id h
  unfold fX7_sly fX8_sly
  rw [noT_e, off_e, off_e, isT_e, j_1, j_9, j_0, in_e, in_e]
  simp only [gt_c]
  cases ht : off t 0 5
  · cases hp : off p 1 9
    · cases hy : off y 0 1
      · obtain ⟨t, ht', rfl⟩ := off_0 (b := 5) (by decide) ht
        obtain ⟨p, hp1, hp9, rfl⟩ := off_f (a := 1) (b := 9) (by decide) hp (by decide)
        have ht6 : t < 6 := by omega
        obtain ⟨s, hT⟩ := Th_of hS ht6
        have hs8 := hT.2.1
        obtain ⟨v, e1, ⟨e2, e3, e4, e5, e6⟩, -⟩ := lay_e hB hT (scM_rf τ)
        obtain ⟨x, x1, x2⟩ := makers_e hB hT
        simp only [Bool.not_false, Bool.not_true, if_true, if_false, Bool.false_eq_true, ↓reduceIte]
        unfold fX1_slyest
        rw [tld_e ht6, x1, o1_s, count_X x2, o1_s, e1, o1_s, needed_e hs8 (cd7 hB th1 _) e4 e6, o1_s]
        generalize hN : nd (mk (cdN (cM τ) n th1 (Wt τ t)) s) = N
        have hN10 : N ≤ 10 := by rw [← hN]; exact nd_le _
        dsimp only [bd]
        rw [show nI N * (160 : Int32) = nI (N * 160) from by rw [l_160, pk_mul]]
        obtain ⟨C, l, b, v', c1, c2, c3, c4⟩ := sly_steps (K := 1000000) (by decide) (by decide) rfl y hB hT hp9 hN10 s 2000 2000 0 (N * 160) N M1 v (by omega) (by omega) (by omega) (Or.inl ⟨rfl, rfl, rfl⟩) ⟨e2, e3, e4, fun j hj _ => e5 j hj⟩
        rw [show nI 0 = (0 : Int32) from rfl] at c1
        rw [show nI (2 * 0) = (0 : Int32) from rfl, ← l_m1] at c2
        rw [c1, c2]
        unfold fX1_slyest_L81 fX8_sly_L217
        rcases c3 with ⟨q1, q2, q3⟩ | ⟨j, q0, q1, q2, q3, q4⟩
        · rw [q2, if_pos rfl, q1, o1_s, if_pos (show (-1 : Int32) = -1 from rfl), if_pos (show M1 = (-1 : Int32) from rfl)]
          exact ⟨_, _, rfl, rfl, Inv_sc h (scX_rf _) c4⟩
        · have nC : ¬ nI C = nI (N * 160) := by rw [nI_eq (by omega) (by omega)]; omega
          have nm : ¬ nI C = (-1 : Int32) := fun q => (nI_nm1 (show C < 2 ^ 31 by omega)).mp q
          have nj : ¬ nI j = (-1 : Int32) := fun q => (nI_nm1 (show j < 2 ^ 31 by omega)).mp q
          rw [if_neg nC, o1_s, if_neg nm, q2, if_neg nj]
          have ed : nI C / (160 : Int32) = nI l := by rw [q3, l_160, pk_div (by omega) (by omega) (by omega), (q160 q1).1]
          have er : nI C - nI C / (160 : Int32) * (160 : Int32) = nI j := by rw [q3, l_160]; exact (pk_rem (by omega) (by omega) (by omega)).trans (by rw [(q160 q1).2])
          by_cases hy0 : y = 0
          · rw [if_pos hy0, if_pos hy0, er]
            exact ⟨_, _, rfl, rfl, Inv_sc h (scX_rf _) c4⟩
          · rw [if_neg hy0, if_neg hy0, ed]
            exact ⟨_, _, rfl, rfl, Inv_sc h (scX_rf _) c4⟩
      · exact ⟨_, _, rfl, rfl, h⟩
    · exact ⟨_, _, rfl, rfl, h⟩
  · exact ⟨_, _, rfl, rfl, h⟩
