/-! ===== the reader: lines ===== -/
theorem RR_x {σ τ u v : St} {L p e j : Nat} {x : Int32} (h : RR σ τ L u v p e) : RR σ τ L (st_wr u 10 j x) v p e := by
  obtain ⟨h0, h1, h2, h3, h4⟩ := h
  exact ⟨FR_x h0 (by omega), by rw [wr_ne (by decide)]; exact h1, by rw [wr_ne (by decide)]; exact h2, by rw [wr_ne (by decide)]; exact h3, h4⟩
theorem RR_3 {σ τ u v : St} {L p e j : Nat} {x : Int32} (h : RR σ τ L u v p e) : RR σ τ L u (st_wr v 3 j x) p e := by
  obtain ⟨h0, h1, h2, h3, h4, h5, h6, h7⟩ := h
  exact ⟨FR_3 h0, h1, h2, h3, by rw [wr_ne (by decide)]; exact h4, by rw [wr_ne (by decide)]; exact h5, by rw [wr_ne (by decide)]; exact h6, h7⟩
/-- one part of the reach, both ways -/
theorem lev_e {σ τ u v : St} {L p e l sx r k : Nat} {c : Int32} (a : Bool) (lo hi : Int32) (k59 : St → Int32 → Int32 → Int32 → Option (Int32 × St)) (hT : TInv σ τ L) (h : RR σ τ L u v p e) (hw : WT sx c l) (hr : r < 8) (hk : k < 4) (ha : ∀ i, i < 7 * r + 7 → u 10 i = v 3 i) :
    (∃ (u' v' : St) (p' e' : Nat), fX2_readPart u sx (nI (7 * r + 3 + k)) lo hi = some (0, u') ∧ o2 (fX8_part v c (nI l) lo hi) (fun x w => fX8_readsReach_L135 k59 w (nI (7 * r)) (bz a) (nI k) x) = some (0, v') ∧ RR σ τ L u' v' p' e' ∧ KP u v u' v') ∨
    (∃ (u' v' : St) (p' e' : Nat) (a' : Bool), fX2_readPart u sx (nI (7 * r + 3 + k)) lo hi = some (1, u') ∧ o2 (fX8_part v c (nI l) lo hi) (fun x w => fX8_readsReach_L135 k59 w (nI (7 * r)) (bz a) (nI k) x) = k59 v' (nI (7 * r)) (bz a') (nI (k + 1)) ∧ RR σ τ L u' v' p' e' ∧ (∀ i, i < 7 * r + 7 → u' 10 i = v' 3 i) ∧ (∀ i, i < 7 * r + 3 → u' 10 i = u 10 i) ∧ u' 2 5 = u 2 5 ∧ v' 0 5 = v 0 5 ∧ ((a' = a ∧ p' = p) ∨ (a' = true ∧ p < p'))) := by
  have ix : nI (7 * r) + (3 : Int32) + nI k = nI (7 * r + 3 + k) := by rw [l_3, nI_add, nI_add]
  rcases part_e lo hi hT h hw (show 7 * r + 3 + k < 56 by omega) with ⟨p1, p2⟩ | ⟨u', v', p', e', p1, p2, p3, p4⟩ | ⟨u', v', p', e', x, hx, p1, p2, p3, p4, p5⟩
  · right
    rw [p1, p2, o2_s]
    have hL : fX8_readsReach_L135 k59 v (nI (7 * r)) (bz a) (nI k) M2 = k59 (st_wr v 3 (7 * r + 3 + k) (v 3 (7 * r + 3 + k))) (nI (7 * r)) (bz a) (nI (k + 1)) := by
      unfold fX8_readsReach_L135 fX8_readsReach_L156
      have w : ∀ b : Int32, fX8_readsReach_L161 k59 v (nI (7 * r)) (nI k) M2 b = k59 (st_wr v 3 (7 * r + 3 + k) (v 3 (7 * r + 3 + k))) (nI (7 * r)) b (nI (k + 1)) := by
        intro b
        unfold fX8_readsReach_L161 fX8_readsReach_L193
        rw [if_pos (show M2 = (-2 : Int32) from rfl), ix, ald_e (by omega) (by decide), asr_e (by omega) (by decide), bd_e, nI_1]
      rw [if_neg (by decide), w, w]
      cases a
      · rw [if_pos (show bz false = 0 from rfl), if_pos (show M2 = (-2 : Int32) from rfl)]; rfl
      · rw [if_neg (show ¬ bz true = 0 by decide)]; rfl
    refine ⟨u, _, p, e, a, rfl, hL, RR_3 h, fun i hi => ?_, fun _ _ => rfl, rfl, by rw [wr_ne (by decide)], Or.inl ⟨rfl, rfl⟩⟩
    by_cases q : i = 7 * r + 3 + k
    · rw [q, wr_js]; exact ha _ (by omega)
    · rw [wr_jn q]; exact ha i hi
  · left
    rw [p1, p2, o2_s]
    refine ⟨u', v', p', e', rfl, ?_, p3, p4⟩
    unfold fX8_readsReach_L135
    rw [if_pos (show M1 = (-1 : Int32) from rfl)]
  · right
    rw [p1, p2, o2_s]
    have n1 : ¬ nI x = (-1 : Int32) := fun q => (nI_nm1 (show x < 2 ^ 31 by omega)).mp q
    have n2 : ¬ nI x = (-2 : Int32) := by
      intro q
      have : ∀ y, y < 10 → ¬ nI y = (-2 : Int32) := by decide
      exact this x hx q
    have hL : fX8_readsReach_L135 k59 v' (nI (7 * r)) (bz a) (nI k) (nI x) = k59 (st_wr v' 3 (7 * r + 3 + k) (nI x)) (nI (7 * r)) (bz true) (nI (k + 1)) := by
      unfold fX8_readsReach_L135 fX8_readsReach_L156 fX8_readsReach_L161 fX8_readsReach_L193
      simp only [if_neg n1, if_neg n2, ite_self]
      rw [ix, asr_e (by omega) (by decide), bd_e, nI_1]
      rfl
    obtain ⟨q1, q2, q3, q4⟩ := p5
    refine ⟨_, _, p', e', true, rfl, hL, RR_x (RR_3 p3), fun i hi => ?_, fun i hi => by rw [wr_jn (by omega), q1], by rw [wr_ne (by decide)]; exact q2, by rw [wr_ne (by decide)]; exact q4, Or.inr ⟨rfl, p4⟩⟩
    by_cases q : i = 7 * r + 3 + k
    · rw [q, wr_js, wr_js]
    · rw [wr_jn q, wr_jn q, q1, q3]; exact ha i hi
theorem sp_tr {a b c : Bool} {p q r : Nat} (h : (b = a ∧ q = p) ∨ (b = true ∧ p < q)) (k : (c = b ∧ r = q) ∨ (c = true ∧ q < r)) : (c = a ∧ r = p) ∨ (c = true ∧ p < r) := by
  rcases h with ⟨h1, h2⟩ | ⟨h1, h2⟩
  · subst h1; subst h2; exact k
  · rcases k with ⟨k1, k2⟩ | ⟨k1, k2⟩
    · subst k1; subst k2; exact Or.inr ⟨h1, h2⟩
    · exact Or.inr ⟨k1, Nat.lt_trans h2 k2⟩
theorem reach_loop {σ τ : St} {L r : Nat} (hT : TInv σ τ L) (hr : r < 8) (f : Nat) (hf : 5 ≤ f) {u v : St} {p e : Nat} (h : RR σ τ L u v p e) (ha : ∀ i, i < 7 * r + 7 → u 10 i = v 3 i) :
    ∃ (u' v' : St) (p' e' : Nat) (b : Bool), o2z (fX2_readPart u 3 (nI (7 * r) + (3 : Int32)) (0 : Int32) (5 : Int32)) (fun x9 u10 => (if x9 = (0 : Int32) then some ((0 : Int32), u10) else o2z (fX2_readPart u10 4 (nI (7 * r) + (4 : Int32)) (0 : Int32) (3 : Int32)) (fun x12 u13 => (if x12 = (0 : Int32) then some ((0 : Int32), u13) else o2z (fX2_readPart u13 5 (nI (7 * r) + (5 : Int32)) (0 : Int32) (9 : Int32)) (fun x15 u16 => (if x15 = (0 : Int32) then some ((0 : Int32), u16) else ald u16 10 56 (nI (7 * r) + (5 : Int32)) (fun x18 => o2z (fX2_readPart u16 6 (nI (7 * r) + (6 : Int32)) x18 (9 : Int32)) (fun x19 u20 => (if x19 = (0 : Int32) then some ((0 : Int32), u20) else (if (u20 2 2) = nI p then some ((0 : Int32), u20) else some ((1 : Int32), u20))))))))))) = some (bz b, u') ∧ fX8_readsReach_L59 f v (nI (7 * r)) 0 0 = some (bz b, v') ∧ RR σ τ L u' v' p' e' ∧ (∀ i, i < 7 * r + 3 → u' 10 i = u 10 i) ∧ (∀ i, i < 7 * r + 7 → u' 10 i = v' 3 i) ∧ u' 2 5 = u 2 5 ∧ v' 0 5 = v 0 5 := by
  obtain ⟨f, rfl⟩ : ∃ g, f = g + 1 + 1 + 1 + 1 + 1 := ⟨f - 5, by omega⟩
  have hL := hT.1
  have fin : ∀ {u1 v1 u' v' : St} {p' e' : Nat}, (∀ i, i < 7 * r + 7 → u1 10 i = v1 3 i) → (∀ i, i < 7 * r + 3 → u1 10 i = u 10 i) → u1 2 5 = u 2 5 → v1 0 5 = v 0 5 → RR σ τ L u' v' p' e' → KP u1 v1 u' v' → (∀ i, i < 7 * r + 3 → u' 10 i = u 10 i) ∧ (∀ i, i < 7 * r + 7 → u' 10 i = v' 3 i) ∧ u' 2 5 = u 2 5 ∧ v' 0 5 = v 0 5 := by
    intro u1 v1 u' v' p' e' g1 g2 g3 g4 g5 ⟨k1, k2, k3, k4⟩
    exact ⟨fun i hi => by rw [k1]; exact g2 i hi, fun i hi => by rw [k1, k3]; exact g1 i hi, by rw [k2, g3], by rw [k4, g4]⟩
  have i3 : nI (7 * r) + (3 : Int32) = nI (7 * r + 3 + 0) := by rw [l_3, nI_add]
  have i4 : nI (7 * r) + (4 : Int32) = nI (7 * r + 3 + 1) := by rw [l_4, nI_add]
  have i5 : nI (7 * r) + (5 : Int32) = nI (7 * r + 3 + 2) := by rw [l_5, nI_add]
  have i6 : nI (7 * r) + (6 : Int32) = nI (7 * r + 3 + 3) := by rw [l_6, nI_add]
  rw [fX8_readsReach_L59]
  dsimp only
  rw [if_neg (show ¬ (4 : Int32) ≤ 0 by decide), if_pos rfl, i3, i4, i5, i6]
  rcases lev_e false 0 5 (fX8_readsReach_L59 (f + 1 + 1 + 1 + 1)) hT h WT3 hr (show 0 < 4 by omega) ha with ⟨u1, v1, p1, e1, a1, a2, a3, a4⟩ | ⟨u1, v1, p1, e1, b1, a1, a2, a3, a4, a5, a6, a7, a8⟩
  · rw [a1, o2z_0, if_pos rfl]
    refine ⟨u1, v1, p1, e1, false, rfl, a2, a3, fin ha (fun _ _ => rfl) rfl rfl a3 a4⟩
  · rw [a1, o2z_1, if_neg (by decide)]
    have a2' : o2 (fX8_part v 484 2 0 5) (fun x19 u20 => fX8_readsReach_L135 (fX8_readsReach_L59 (f + 1 + 1 + 1 + 1)) u20 (nI (7 * r)) 0 0 x19) = _ := a2
    rw [a2', fX8_readsReach_L59]
    dsimp only
    rw [if_neg (show ¬ (4 : Int32) ≤ nI (0 + 1) by decide), if_neg (show ¬ nI (0 + 1) = (0 : Int32) by decide), if_pos (show nI (0 + 1) = (1 : Int32) from rfl)]
    rcases lev_e b1 0 3 (fX8_readsReach_L59 (f + 1 + 1 + 1)) hT a3 WT4 hr (show 1 < 4 by omega) a4 with ⟨u2, v2, p2, e2, c1, c2, c3, c4⟩ | ⟨u2, v2, p2, e2, b2, c1, c2, c3, c4, c5, c6, c7, c8⟩
    · rw [c1, o2z_0, if_pos rfl]
      exact ⟨u2, v2, p2, e2, false, rfl, c2, c3, fin a4 a5 a6 a7 c3 c4⟩
    · rw [c1, o2z_1, if_neg (by decide)]
      have c2' : o2 (fX8_part v1 207 2 0 3) (fun x19 u20 => fX8_readsReach_L135 (fX8_readsReach_L59 (f + 1 + 1 + 1)) u20 (nI (7 * r)) (bz b1) (nI (0 + 1)) x19) = _ := c2
      rw [c2', fX8_readsReach_L59]
      dsimp only
      rw [if_neg (show ¬ (4 : Int32) ≤ nI (1 + 1) by decide), if_neg (show ¬ nI (1 + 1) = (0 : Int32) by decide), if_neg (show ¬ nI (1 + 1) = (1 : Int32) by decide), if_pos (show nI (1 + 1) = (2 : Int32) from rfl)]
      have g2 : ∀ i, i < 7 * r + 3 → u2 10 i = u 10 i := fun i hi => (c5 i hi).trans (a5 i hi)
      rcases lev_e b2 0 9 (fX8_readsReach_L59 (f + 1 + 1)) hT c3 WT5 hr (show 2 < 4 by omega) c4 with ⟨u3, v3, p3, e3, d1, d2, d3, d4⟩ | ⟨u3, v3, p3, e3, b3, d1, d2, d3, d4, d5, d6, d7, d8⟩
      · rw [d1, o2z_0, if_pos rfl]
        exact ⟨u3, v3, p3, e3, false, rfl, d2, d3, fin c4 g2 (c6.trans a6) (c7.trans a7) d3 d4⟩
      · rw [d1, o2z_1, if_neg (by decide), ald_e (by omega) (by decide)]
        have d2' : o2 (fX8_part v2 441926 4 0 9) (fun x19 u20 => fX8_readsReach_L135 (fX8_readsReach_L59 (f + 1 + 1)) u20 (nI (7 * r)) (bz b2) (nI (1 + 1)) x19) = _ := d2
        rw [d2', fX8_readsReach_L59]
        dsimp only
        rw [if_neg (show ¬ (4 : Int32) ≤ nI (2 + 1) by decide), if_neg (show ¬ nI (2 + 1) = (0 : Int32) by decide), if_neg (show ¬ nI (2 + 1) = (1 : Int32) by decide), if_neg (show ¬ nI (2 + 1) = (2 : Int32) by decide), i5, ald_e (by omega) (by decide), ← d4 (7 * r + 3 + 2) (by omega)]
        have g3 : ∀ i, i < 7 * r + 3 → u3 10 i = u 10 i := fun i hi => (d5 i hi).trans (g2 i hi)
        rcases lev_e b3 (u3 10 (7 * r + 3 + 2)) 9 (fX8_readsReach_L59 (f + 1)) hT d3 WT6 hr (show 3 < 4 by omega) d4 with ⟨u4, v4, p4, e4, k1, k2, k3, k4⟩ | ⟨u4, v4, p4, e4, b4, k1, k2, k3, k4, k5, k6, k7, k8⟩
        · rw [k1, o2z_0, if_pos rfl]
          exact ⟨u4, v4, p4, e4, false, rfl, k2, k3, fin d4 g3 (d6.trans (c6.trans a6)) (d7.trans (c7.trans a7)) k3 k4⟩
        · rw [k1, o2z_1, if_neg (by decide)]
          have k2' : o2 (fX8_part v3 500 2 (u3 10 (7 * r + 3 + 2)) 9) (fun x19 u20 => fX8_readsReach_L135 (fX8_readsReach_L59 (f + 1)) u20 (nI (7 * r)) (bz b3) (nI (2 + 1)) x19) = _ := k2
          rw [k2', fX8_readsReach_L59]
          dsimp only
          rw [if_pos (show (4 : Int32) ≤ nI (3 + 1) by decide), k3.2.2.1]
          have le := k3.2.2.2.2.2.2.2.1
          have le2 := k3.2.2.2.2.2.2.2.2.1
          have lp := h.2.2.2.2.2.2.2.1
          have lp2 := h.2.2.2.2.2.2.2.2.1
          have key : (b4 = true ∧ p < p4) ∨ (b4 = false ∧ p4 = p) := by
            rcases sp_tr a8 (sp_tr c8 (sp_tr d8 k8)) with ⟨q1, q2⟩ | ⟨q1, q2⟩
            · exact Or.inr ⟨q1, q2⟩
            · exact Or.inl ⟨q1, q2⟩
          refine ⟨u4, v4, p4, e4, b4, ?_, ?_, k3, fun i hi => (k5 i hi).trans (g3 i hi), k4, k6.trans (d6.trans (c6.trans a6)), k7.trans (d7.trans (c7.trans a7))⟩
          · rcases key with ⟨q1, q2⟩ | ⟨q1, q2⟩
            · rw [if_neg (show ¬ nI p4 = nI p from by rw [nI_eq (by omega) (by omega)]; omega), q1]; rfl
            · rw [if_pos (show nI p4 = nI p by rw [q2]), q1]; rfl
          · cases b4 <;> rfl
theorem reach_e {σ τ u v : St} {L p e r : Nat} (hT : TInv σ τ L) (h : RR σ τ L u v p e) (hr : r < 8) (ha : ∀ i, i < 7 * r + 3 → u 10 i = v 3 i) :
    ∃ (u' v' : St) (p' e' : Nat) (b : Bool), fX2_readReach u (nI (7 * r)) = some (bz b, u') ∧ fX8_readsReach v (nI (7 * r)) = some (bz b, v') ∧ RR σ τ L u' v' p' e' ∧ (∀ i, i < 7 * r + 3 → u' 10 i = u 10 i) ∧ (∀ i, i < 7 * r + 7 → u' 10 i = v' 3 i) ∧ u' 2 5 = u 2 5 ∧ v' 0 5 = v 0 5 := by
  have i3 : nI (7 * r) + (3 : Int32) = nI (7 * r + 3) := by rw [l_3, nI_add]
  have i4 : nI (7 * r) + (4 : Int32) = nI (7 * r + 4) := by rw [l_4, nI_add]
  have i5 : nI (7 * r) + (5 : Int32) = nI (7 * r + 5) := by rw [l_5, nI_add]
  have i6 : nI (7 * r) + (6 : Int32) = nI (7 * r + 6) := by rw [l_6, nI_add]
  unfold fX2_readReach fX8_readsReach
  rw [show asr u 10 56 (nI (7 * r) + (3 : Int32)) = asr u 10 56 (nI (7 * r + 3)) by rw [i3], asr_e (by omega) (by decide), show ∀ w : St, asr w 10 56 (nI (7 * r) + (4 : Int32)) = asr w 10 56 (nI (7 * r + 4)) from fun w => by rw [i4], asr_e (by omega) (by decide), show ∀ w : St, asr w 10 56 (nI (7 * r) + (5 : Int32)) = asr w 10 56 (nI (7 * r + 5)) from fun w => by rw [i5], asr_e (by omega) (by decide), show ∀ w : St, asr w 10 56 (nI (7 * r) + (6 : Int32)) = asr w 10 56 (nI (7 * r + 6)) from fun w => by rw [i6], asr_e (by omega) (by decide)]
  rw [show asr v 3 56 (nI (7 * r) + (3 : Int32)) = asr v 3 56 (nI (7 * r + 3)) by rw [i3], asr_e (by omega) (by decide), show ∀ w : St, asr w 3 56 (nI (7 * r) + (4 : Int32)) = asr w 3 56 (nI (7 * r + 4)) from fun w => by rw [i4], asr_e (by omega) (by decide), show ∀ w : St, asr w 3 56 (nI (7 * r) + (5 : Int32)) = asr w 3 56 (nI (7 * r + 5)) from fun w => by rw [i5], asr_e (by omega) (by decide), show ∀ w : St, asr w 3 56 (nI (7 * r) + (6 : Int32)) = asr w 3 56 (nI (7 * r + 6)) from fun w => by rw [i6], asr_e (by omega) (by decide)]
  obtain ⟨u4, hu4⟩ : ∃ u4, u4 = st_wr (st_wr (st_wr (st_wr u 10 (7 * r + 3) (-1)) 10 (7 * r + 4) (-1)) 10 (7 * r + 5) 0) 10 (7 * r + 6) 9 := ⟨_, rfl⟩
  obtain ⟨v4, hv4⟩ : ∃ v4, v4 = st_wr (st_wr (st_wr (st_wr v 3 (7 * r + 3) (-1)) 3 (7 * r + 4) (-1)) 3 (7 * r + 5) 0) 3 (7 * r + 6) 9 := ⟨_, rfl⟩
  rw [← hu4, ← hv4]
  have R4 : RR σ τ L u4 v4 p e := by rw [hu4, hv4]; exact RR_x (RR_x (RR_x (RR_x (RR_3 (RR_3 (RR_3 (RR_3 h)))))))
  have c3 : ∀ i, i < 7 * r + 3 → u4 10 i = u 10 i := fun i hi => by rw [hu4, wr_jn (by omega), wr_jn (by omega), wr_jn (by omega), wr_jn (by omega)]
  have c7 : ∀ i, i < 7 * r + 7 → u4 10 i = v4 3 i := fun i hi => by
    rw [hu4, hv4]
    by_cases q6 : i = 7 * r + 6
    · rw [q6, wr_js, wr_js]
    · rw [wr_jn q6, wr_jn q6]
      by_cases q5 : i = 7 * r + 5
      · rw [q5, wr_js, wr_js]
      · rw [wr_jn q5, wr_jn q5]
        by_cases q4 : i = 7 * r + 4
        · rw [q4, wr_js, wr_js]
        · rw [wr_jn q4, wr_jn q4]
          by_cases q3 : i = 7 * r + 3
          · rw [q3, wr_js, wr_js]
          · rw [wr_jn q3, wr_jn q3]; exact ha i (by omega)
  have u5 : u4 2 5 = u 2 5 := by rw [hu4, wr_ne (by decide), wr_ne (by decide), wr_ne (by decide), wr_ne (by decide)]
  have v5 : v4 0 5 = v 0 5 := by rw [hv4, wr_ne (by decide), wr_ne (by decide), wr_ne (by decide), wr_ne (by decide)]
  clear hu4 hv4
  rcases word_e hT R4 WT2 with ⟨w1, w2⟩ | ⟨w1, w2, w3⟩
  · rw [w2, o2z_0, if_pos rfl, show fX8_isWord v4 12673 3 = some 0 from w1, oz_0, if_pos rfl, bd_e]
    obtain ⟨u', v', p', e', b, z1, z2, z3, z4, z5, z6, z7⟩ := reach_loop hT hr 2000 (by omega) R4 c7
    rw [R4.2.2.1]
    exact ⟨u', v', p', e', b, z1, z2, z3, fun i hi => (z4 i hi).trans (c3 i hi), z5, z6.trans u5, z7.trans v5⟩
  · obtain ⟨u', v', p', e', z1, z2, z3, z4, z5, z6, z7, z8⟩ := tok hT R4.1 R4.2.2.2.1 R4.2.2.2.2.1 R4.2.2.2.2.2.2.2.2.1
    rw [w2, z1, o1_s, o2z_1, if_neg (by decide), show fX8_isWord v4 12673 3 = some 1 from w1, oz_1, if_neg (by decide), z2, o1_s]
    exact ⟨u', v', p', e', true, rfl, rfl, z3, fun i hi => by rw [z5]; exact c3 i hi, fun i hi => by rw [z5, z7]; exact c7 i hi, z6.trans u5, z8.trans v5⟩
