/-! ===== the reader: the whole text ===== -/
def TxE (σ τ : St) (X Y : Option (Int32 × St)) : Prop := ∃ (res : Int32) (u' v' : St), X = some (res, u') ∧ Y = some (res, v') ∧ FR σ τ u' v' ∧ (res = M1 → ∃ R, R ≤ 8 ∧ u' 2 5 = nI R ∧ v' 0 5 = nI R ∧ (∀ i, i < 7 * R → u' 10 i = v' 3 i) ∧ ∀ q, q < R → wfL (u' 10) q)
theorem RR_5 {σ τ u v : St} {L p e : Nat} {x : Int32} (h : RR σ τ L u v p e) : RR σ τ L (st_wr u 2 5 x) v p e := by
  obtain ⟨h0, h1, h2, h3, h4⟩ := h
  exact ⟨FR_x h0 (by omega), by rw [wr_jn (by decide)]; exact h1, by rw [wr_jn (by decide)]; exact h2, by rw [wr_jn (by decide)]; exact h3, h4⟩
theorem wfL_cg {c d : Nat → Int32} {r m : Nat} (h : ∀ i, i < m → c i = d i) (hr : 7 * r + 3 ≤ m) (k : wfL d r) : wfL c r := by
  unfold wfL at k ⊢
  rw [h _ (show 7 * r < m by omega), h _ (show 7 * r + 1 < m by omega), h _ (show 7 * r + 2 < m by omega)]
  exact k
theorem L18_0 (f : Nat) (hf : 0 < f) (u : St) (x : Int32) : fX2_readText_L18 f u 0 x = fX2_readText_L82 u := by
  obtain ⟨f, rfl⟩ : ∃ g, f = g + 1 := ⟨f - 1, by omega⟩
  rw [fX2_readText_L18]
  dsimp only
  by_cases c : (8 : Int32) ≤ x
  · rw [if_pos c]
  · rw [if_neg c, if_pos rfl]
theorem kdv59 : kdv 59 = 3 := by decide +kernel
theorem t75 (k : St → Int32 → Int32 → Option (Int32 × St)) (u : St) (r : Nat) (w : Int32) : fX2_readText_L75 k u (nI r) w = k u w (nI (r + 1)) := by unfold fX2_readText_L75; rw [bd_e, nI_1]
theorem t74 (k : St → Int32 → Int32 → Option (Int32 × St)) (u : St) (r : Nat) : fX2_readText_L74 k u (nI r) = k u 0 (nI (r + 1)) := by unfold fX2_readText_L74; rw [t75]
/-- nothing more is read -/
theorem text_end {σ τ u v : St} {L p e R : Nat} (f : Nat) (hT : TInv σ τ L) (h : RR σ τ L u v p e) (hR : R ≤ 8) (h5 : u 2 5 = nI R) (v5 : v 0 5 = nI R) (ha : ∀ i, i < 7 * R → u 10 i = v 3 i) (hw : ∀ q, q < R → wfL (u 10) q) (hno : R = 8 ∨ p ≥ L ∨ ¬ τ 1 p = 59) : TxE σ τ (fX2_readText_L82 u) (fX8_fault_L26 (f + 1) v) := by
  have hL := hT.1
  obtain ⟨f0, f1, f2, f3, f4, f5, f6, f7, f8, f9, f10⟩ := id h
  obtain ⟨m3, m4⟩ := txt_m hT f0
  unfold fX2_readText_L82
  rw [fX8_fault_L26]
  dsimp only
  rw [f1, f2, m3, f5, f6, pk_sub f7]
  by_cases c : p < L
  · have hk : kdL (τ 1) L p = kdv (τ 1 p) := by unfold kdL; rw [if_pos c]
    have n0 : ¬ nI (kdL (τ 1) L p) = (0 : Int32) := by
      rw [hk]; rcases kdv_in (τ 1 p) with q | q | q <;> rw [q] <;> decide
    rw [if_neg n0, if_neg (nI_ge (by omega) (by omega))]
    have pl : fX8_fault_L77 (fX8_fault_L26 f) v = some (nI p, v) := by
      unfold fX8_fault_L77 fX8_fault_L78 fX8_fault_L92
      rw [if_pos rfl, if_pos rfl, f5]
    have res : TxE σ τ (some (nI p, u)) (some (nI p, v)) := ⟨_, u, v, rfl, rfl, f0, fun q => ((nI_nm1 (show p < 2 ^ 31 by omega)).mp q).elim⟩
    rw [pl, ald_e (by omega) (by decide), m4, v5]
    by_cases d : τ 1 p = 59
    · have hR8 : R = 8 := by
        rcases hno with q | q | q
        · exact q
        · omega
        · exact (q d).elim
      rw [if_pos d, hR8, if_pos (show (8 : Int32) ≤ nI 8 by decide), ite_self]
      exact res
    · rw [if_neg d, ite_self]
      exact res
  · have hk : kdL (τ 1) L p = 0 := by unfold kdL; rw [if_neg c]
    rw [hk, if_pos (show nI 0 = (0 : Int32) from rfl), if_pos (nI_le (by omega) (by omega))]
    exact ⟨_, u, v, rfl, rfl, f0, fun _ => ⟨R, hR, h5, v5, ha, hw⟩⟩
theorem text_loop {σ τ : St} {L : Nat} (hT : TInv σ τ L) : ∀ (m f f' r : Nat) (u v : St) (p e : Nat), r + m = 8 → 1 ≤ m → m < f → m < f' → RR σ τ L u v p e → u 2 5 = nI r → v 0 5 = nI r → (∀ i, i < 7 * r → u 10 i = v 3 i) → (∀ q, q < r → wfL (u 10) q) → TxE σ τ (fX2_readText_L18 f u 1 (nI r)) (o2z (fX8_readsLine v) (fun x w => fX8_fault_L92 (fX8_fault_L26 f') w x)) := by
  have hL := hT.1
  intro m
  induction m with
  | zero => intro f f' r u v p e h1 h2; omega
  | succ m ih =>
    intro f f' r u v p e hm h1 hf hf' hR h5 v5 ha hw
    obtain ⟨f, rfl⟩ : ∃ g, f = g + 1 := ⟨f - 1, by omega⟩
    obtain ⟨f', rfl⟩ : ∃ g, f' = g + 1 := ⟨f' - 1, by omega⟩
    rw [fX2_readText_L18]
    dsimp only
    rw [if_neg (show ¬ (8 : Int32) ≤ nI r from nI_ge (b := 8) (by omega) (by omega)), if_neg (by decide), show nI r * (7 : Int32) = nI (7 * r) from by rw [l_7, pk_mul, Nat.mul_comm]]
    obtain ⟨u', v', p', e', b, a1, a2, a3, a4, a5, a6⟩ := line_e (z := nI r) (u0 := u 10) hT ⟨hR, fun _ _ => rfl, ha, h5, v5⟩ (show r < 8 by omega)
    obtain ⟨f0, f1, f2, f3, f4, f5, f6, f7, f8, f9, f10⟩ := id a3
    rw [a1, a2]
    cases b
    · refine ⟨nI p', u', v', ?_, ?_, f0, fun q => ((nI_nm1 (show p' < 2 ^ 31 by omega)).mp q).elim⟩
      · show o2z (some ((0 : Int32), u')) _ = _
        rw [o2z_0, if_pos rfl, f2]
      · show o2z (some ((0 : Int32), v')) _ = _
        rw [o2z_0]
        unfold fX8_fault_L92
        rw [if_pos rfl, f5]
    · obtain ⟨c1, c2, c3⟩ := a6 rfl
      show TxE σ τ (o2z (some ((1 : Int32), u')) _) (o2z (some ((1 : Int32), v')) _)
      rw [o2z_1, o2z_1, if_neg (by decide), a5, nI_1, bd_e, wr_js]
      unfold fX8_fault_L92
      rw [if_neg (show ¬ (1 : Int32) = 0 by decide)]
      have W : RR σ τ L (st_wr u' 2 5 (nI (r + 1))) v' p' e' := RR_5 a3
      have w5 : st_wr u' 2 5 (nI (r + 1)) 2 5 = nI (r + 1) := wr_js _ _ _ _
      have w10 : st_wr u' 2 5 (nI (r + 1)) 10 = u' 10 := wr_ne (by decide)
      have wa : ∀ i, i < 7 * (r + 1) → st_wr u' 2 5 (nI (r + 1)) 10 i = v' 3 i := fun i hi => by rw [w10]; exact c1 i (by omega)
      have ww : ∀ q, q < r + 1 → wfL (st_wr u' 2 5 (nI (r + 1)) 10) q := fun q hq => by
        rw [w10]
        by_cases e : q = r
        · rw [e]; exact c2
        · exact wfL_cg (m := 7 * r) a4 (by omega) (hw q (by omega))
      generalize st_wr u' 2 5 (nI (r + 1)) = w at W w5 w10 wa ww
      by_cases c8 : r + 1 = 8
      · rw [if_pos (show (8 : Int32) ≤ nI (r + 1) by rw [c8]; decide), t74, L18_0 f (by omega)]
        exact text_end f' hT W (by omega) w5 c3 wa ww (Or.inl c8)
      · rw [if_neg (show ¬ (8 : Int32) ≤ nI (r + 1) from nI_ge (b := 8) (by omega) (by omega))]
        obtain ⟨g0, g1, g2, g3, g4, g5, g6, g7, g8, g9, g10⟩ := id W
        have hX := txt_x hT g0
        have hM := txt_m hT g0
        unfold fX2_takeSemicolon
        rw [g1, g2]
        by_cases s3 : kdL (τ 1) L p' = 3
        · have hp : p' < L := Nat.lt_of_not_le (fun q => by unfold kdL at s3; rw [if_neg (by omega)] at s3; cases s3)
          rw [s3, if_pos (show nI 3 = (3 : Int32) from rfl), ald_e (by omega) (by decide), hX.2 p' hp]
          by_cases s59 : τ 1 p' = 59
          · obtain ⟨u2, v2, p2, e2, t1, t2, t3, t4, k1, k2, k3, k4⟩ := tok hT g0 g3 g4 g8
            rw [if_pos s59, t1, o1_s, o2z_1, if_neg (show ¬ (1 : Int32) = 0 by decide), t75]
            have hY : fX8_fault_L26 (f' + 1) v' = o2z (fX8_readsLine v2) (fun x w => fX8_fault_L92 (fX8_fault_L26 f') w x) := by
              rw [fX8_fault_L26]
              dsimp only
              rw [hM.1, g5, g6, pk_sub g7, if_neg (nI_ge (by omega) (by omega)), if_pos (show nI (e' - p') = (1 : Int32) by rw [show e' - p' = 1 by have := g10 s3; omega]; rfl), ald_e (by omega) (by decide), hM.2, if_pos s59, c3, if_neg (show ¬ (8 : Int32) ≤ nI (r + 1) from nI_ge (b := 8) (by omega) (by omega))]
              unfold fX8_fault_L78
              rw [if_neg (by decide), t2, o1_s]
            rw [hY]
            exact ih f f' (r + 1) u2 v2 p2 e2 (by omega) (by omega) (by omega) (by omega) t3 (by rw [k2, w5]) (by rw [k4, c3]) (fun i hi => by rw [k1, k3]; exact wa i hi) (fun q hq => by rw [k1]; exact ww q hq)
          · rw [if_neg s59, o2z_0, if_pos rfl, t74, L18_0 f (by omega)]
            exact text_end f' hT W (by omega) w5 c3 wa ww (Or.inr (Or.inr s59))
        · have n3 : ¬ nI (kdL (τ 1) L p') = (3 : Int32) := by
            have := kdL_in (τ 1) L p'
            rw [l_3, nI_eq (by omega) (by omega)]; exact s3
          rw [if_neg n3, o2z_0, if_pos rfl, t74, L18_0 f (by omega)]
          refine text_end f' hT W (by omega) w5 c3 wa ww ?_
          by_cases hp : p' < L
          · right; right
            intro q
            apply s3
            unfold kdL
            rw [if_pos hp, q]; exact kdv59
          · right; left; omega
theorem text_e {σ τ : St} {L : Nat} (hT : TInv σ τ L) : TxE σ τ (fX2_readText σ) (fX8_fault τ) := by
  unfold fX2_readText fX8_fault
  rw [bd_e, bd_e, bd_e, bd_e]
  have F : FR σ τ (st_wr (st_wr σ 2 5 0) 2 3 0) (st_wr (st_wr τ 0 18 0) 0 5 0) := FR_0 (FR_0 (FR_x (FR_x ⟨fun _ _ _ => rfl, fun _ _ _ => rfl, fun _ _ _ _ _ => rfl⟩ (by omega)) (by omega)) (by omega)) (by omega)
  obtain ⟨u', v', p', e', a1, a2, a3, a4, k1, k2, k3, k4⟩ := tok (e := 0) hT F (wr_js _ _ _ _) (by rw [wr_jn (by decide), wr_js]; rfl) (Nat.zero_le _)
  rw [a1, a2, o1_s, o1_s]
  have := text_loop hT 8 2000 2000 0 u' v' p' e' (by omega) (by omega) (by omega) (by omega) a3 (by rw [k2, wr_jn (by decide), wr_js]; rfl) (by rw [k4, wr_js]; rfl) (fun i hi => absurd hi (by omega)) (fun q hq => absurd hq (by omega))
  rw [show nI 0 = (0 : Int32) from rfl] at this
  unfold fX8_fault_L92 at this
  exact this
theorem FR_sc {σ τ u v : St} (h : FR σ τ u v) : scX σ u ∧ scM τ v :=
  ⟨fun k h1 h2 _ => h.1 k h1 h2, ⟨h.2.2 1 (by decide) (by decide) (by decide) (by decide), h.2.2 3 (by decide) (by decide) (by decide) (by decide), h.2.2 11 (by decide) (by decide) (by decide) (by decide), h.2.2 15 (by decide) (by decide) (by decide) (by decide), h.2.2 17 (by decide) (by decide) (by decide) (by decide)⟩, fun k h1 h2 h3 => h.2.1 k (by omega) h3⟩
theorem op_fault {σ τ : St} (h : Inv σ τ) : ∃ r σ' τ', fX7_fault σ = some (r, σ') ∧ fX8_fault τ = some (r, τ') ∧ Inv σ' τ' := by
  obtain ⟨-, ⟨L, hL⟩, -⟩ := id h
  obtain ⟨res, u', v', a1, a2, a3, -⟩ := text_e hL
  unfold fX7_fault
  rw [a1, a2, o2_s]
  exact ⟨res, u', v', rfl, rfl, Inv_sc h (FR_sc a3).1 (FR_sc a3).2⟩
