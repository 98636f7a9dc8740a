/-! ===== the reader: a line, the whole text ===== -/
def wfL (c : Nat → Int32) (r : Nat) : Prop := (∃ s, s < 5 ∧ c (7 * r) = nI s) ∧ (∃ g, g < 6 ∧ c (7 * r + 1) = nI g) ∧ (c (7 * r) = nI 3 → ∃ h, h < 6 ∧ c (7 * r + 2) = nI h)
def LH (σ τ : St) (L r : Nat) (u0 : Nat → Int32) (z : Int32) (u v : St) (p e : Nat) : Prop := RR σ τ L u v p e ∧ (∀ i, i < 7 * r → u 10 i = u0 i) ∧ (∀ i, i < 7 * r → u 10 i = v 3 i) ∧ u 2 5 = z ∧ v 0 5 = nI r
def LnR (σ τ : St) (L r : Nat) (u0 : Nat → Int32) (z : Int32) (X Y : Option (Int32 × St)) : Prop := ∃ (u' v' : St) (p' e' : Nat) (b : Bool), X = some (bz b, u') ∧ Y = some (bz b, v') ∧ RR σ τ L u' v' p' e' ∧ (∀ i, i < 7 * r → u' 10 i = u0 i) ∧ u' 2 5 = z ∧ (b = true → (∀ i, i < 7 * r + 7 → u' 10 i = v' 3 i) ∧ wfL (u' 10) r ∧ v' 0 5 = nI (r + 1))
theorem LH_tok {σ τ u v : St} {L r p e : Nat} {u0 : Nat → Int32} {z : Int32} (hT : TInv σ τ L) (h : LH σ τ L r u0 z u v p e) : ∃ (u' v' : St) (p' e' : Nat), fX2_nextToken u = some u' ∧ fX8_token v = some v' ∧ LH σ τ L r u0 z u' v' p' e' ∧ v' 3 = v 3 := by
  obtain ⟨h1, h2, h3, h4, h5⟩ := h
  obtain ⟨u', v', p', e', a1, a2, a3, a4, k1, k2, k3, k4⟩ := tok hT h1.1 h1.2.2.2.1 h1.2.2.2.2.1 h1.2.2.2.2.2.2.2.2.1
  exact ⟨u', v', p', e', a1, a2, ⟨a3, fun i hi => by rw [k1]; exact h2 i hi, fun i hi => by rw [k1, k3]; exact h3 i hi, by rw [k2]; exact h4, by rw [k4]; exact h5⟩, k3⟩
theorem LH_f {σ τ u v : St} {L r p e : Nat} {u0 : Nat → Int32} {z : Int32} (h : LH σ τ L r u0 z u v p e) : LnR σ τ L r u0 z (some (0, u)) (some (0, v)) :=
  ⟨u, v, p, e, false, rfl, rfl, h.1, h.2.1, h.2.2.2.1, fun q => by cases q⟩
theorem LH_3 {σ τ u v : St} {L r p e j : Nat} {x : Int32} {u0 : Nat → Int32} {z : Int32} (h : LH σ τ L r u0 z u v p e) (hj : 7 * r ≤ j) : LH σ τ L r u0 z u (st_wr v 3 j x) p e :=
  ⟨RR_3 h.1, h.2.1, fun i hi => by rw [wr_jn (by omega)]; exact h.2.2.1 i hi, h.2.2.2.1, by rw [wr_ne (by decide)]; exact h.2.2.2.2⟩
/-- the head of the line is read; its reach is left -/
theorem line4 {σ τ u v : St} {L r p e s g : Nat} {u0 : Nat → Int32} {z w : Int32} (hT : TInv σ τ L) (h : LH σ τ L r u0 z u v p e) (hr : r < 8) (hs : s < 5) (hg : g < 6) (hw : s = 3 → ∃ k, k < 6 ∧ w = nI k) (e0 : v 3 (7 * r) = nI s) (e1 : v 3 (7 * r + 1) = nI g) (e2 : v 3 (7 * r + 2) = w) : LnR σ τ L r u0 z (fX2_readLine_L92 u (nI (7 * r)) (nI g) (nI s) w) (fX8_readsLine_L254 v (nI (7 * r))) := by
  obtain ⟨h1, h2, h3, h4, h5⟩ := h
  unfold fX2_readLine_L92 fX8_readsLine_L254
  have i0 : nI (7 * r) + (0 : Int32) = nI (7 * r) := Int32.add_zero _
  have i1 : nI (7 * r) + (1 : Int32) = nI (7 * r + 1) := nI_1 _
  have i2 : nI (7 * r) + (2 : Int32) = nI (7 * r + 2) := by rw [l_2, nI_add]
  rw [i0, i1, i2, asr_e (by omega) (by decide), asr_e (by omega) (by decide), asr_e (by omega) (by decide)]
  obtain ⟨u', v', p', e', b, a1, a2, a3, a4, a5, a6, a7⟩ := reach_e (u := st_wr (st_wr (st_wr u 10 (7 * r) (nI s)) 10 (7 * r + 1) (nI g)) 10 (7 * r + 2) w) (v := v) hT (RR_x (RR_x (RR_x h1))) hr (fun i hi => by
    by_cases q2 : i = 7 * r + 2
    · rw [q2, wr_js, e2]
    · rw [wr_jn q2]
      by_cases q1 : i = 7 * r + 1
      · rw [q1, wr_js, e1]
      · rw [wr_jn q1]
        by_cases q0 : i = 7 * r
        · rw [q0, wr_js, e0]
        · rw [wr_jn q0]; exact h3 i (by omega))
  rw [a1, a2]
  have c0 : u' 10 (7 * r) = nI s := by rw [a4 _ (by omega), wr_jn (by omega), wr_jn (by omega), wr_js]
  have c1 : u' 10 (7 * r + 1) = nI g := by rw [a4 _ (by omega), wr_jn (by omega), wr_js]
  have c2 : u' 10 (7 * r + 2) = w := by rw [a4 _ (by omega), wr_js]
  have u5 : u' 2 5 = z := by rw [a6, wr_ne (by decide), wr_ne (by decide), wr_ne (by decide)]; exact h4
  have c : ∀ i, i < 7 * r → u' 10 i = u0 i := fun i hi => by rw [a4 _ (by omega), wr_jn (by omega), wr_jn (by omega), wr_jn (by omega)]; exact h2 i hi
  cases b
  · exact ⟨u', v', p', e', false, rfl, rfl, a3, c, u5, fun q => by cases q⟩
  · refine ⟨u', st_wr v' 0 5 (nI (r + 1)), p', e', true, rfl, ?_, ?_, c, u5, fun _ => ⟨fun i hi => by rw [wr_ne (by decide)]; exact a5 i hi, ⟨⟨s, hs, c0⟩, ⟨g, hg, c1⟩, fun q => ?_⟩, wr_js _ _ _ _⟩⟩
    · show o2z (some ((1 : Int32), v')) _ = _
      rw [o2z_1, if_neg (by decide), a7, h5, nI_1]; rfl
    · obtain ⟨k0, k1, k2, k3, k4, k5, k6, k7⟩ := a3
      exact ⟨FR_0 k0 (by omega), k1, k2, k3, by rw [wr_jn (by decide)]; exact k4, by rw [wr_jn (by decide)]; exact k5, by rw [wr_jn (by decide)]; exact k6, k7⟩
    · rw [c0] at q
      obtain ⟨k, k1, k2⟩ := hw ((nI_eq (by omega) (by omega)).mp q)
      exact ⟨k, k1, by rw [c2]; exact k2⟩
theorem line3 {σ τ u v : St} {L r p e s g : Nat} {u0 : Nat → Int32} {z : Int32} (hT : TInv σ τ L) (h : LH σ τ L r u0 z u v p e) (hr : r < 8) (hs : s < 5) (hg : g < 6) (e0 : v 3 (7 * r) = nI s) (e1 : v 3 (7 * r + 1) = nI g) (e2 : v 3 (7 * r + 2) = M1) : LnR σ τ L r u0 z (fX2_readLine_L49 u (nI (7 * r)) (nI g) (nI s)) (fX8_readsLine_L162 v (nI (7 * r)) (nI g)) := by
  have hL := hT.1
  have ns : ¬ nI s = (-1 : Int32) := fun q => (nI_nm1 (show s < 2 ^ 31 by omega)).mp q
  unfold fX2_readLine_L49 fX8_readsLine_L162
  rw [if_neg ns, ald_e (by omega) (by decide), e0]
  by_cases c : s = 3
  · subst c
    rw [if_pos (show nI 3 = (3 : Int32) from rfl), if_pos (show nI 3 = (3 : Int32) from rfl)]
    unfold fX2_readLine_L76 fX8_readsLine_L216 fX8_readsLine_L217 fX8_readsLine_L234
    simp only [if_pos (show nI 3 = (3 : Int32) from rfl), if_pos (show (0 : Int32) = 0 from rfl), if_neg (show ¬ (1 : Int32) = 0 by decide), if_pos (show (-1 : Int32) = -1 from rfl)]
    obtain ⟨f0, f1, f2, f3, f4, f5, f6, f7, f8, f9, f10⟩ := id h.1
    obtain ⟨m3, m4⟩ := txt_m hT f0
    rcases num_e 0 5 hT h.1 with ⟨n1, n2⟩ | ⟨x, x1, x2, x3, x4, x5, x6, x7⟩
    · rw [n1, o2_s, n2, o2_s]
      simp only [if_pos (show (-1 : Int32) = -1 from rfl), ite_self]
      by_cases c1 : v 0 1 ≤ v 0 19
      · rw [if_pos c1]; exact LH_f h
      · rw [if_neg c1]
        have hp : p < L := by
          rw [m3, f5] at c1
          exact Nat.lt_of_not_le (fun q => c1 (nI_le q (by omega)))
        rw [f5, ald_e (by omega) (by decide)]
        exact LH_f h
    · have hx5 : x < 6 := by
        obtain ⟨j, j1, j2⟩ := off_0 (b := 5) (by decide) x2
        have := (nI_eq (a := x) (b := j) (by omega) (by omega)).mp j2
        omega
      have c1 : ¬ v 0 1 ≤ v 0 19 := by rw [m3, f5]; exact nI_ge x4 (by omega)
      rw [if_neg c1, x6, f5, f6, ald_e (by omega) (by decide), m4, x3, pk_sub f7, if_pos (show nI (e - p) = (1 : Int32) by rw [show e - p = 1 by omega]; rfl), show (48 : Int32) + nI g = nI (48 + g) from by rw [show (48 : Int32) = nI 48 from rfl, nI_add]]
      by_cases cg : x = g
      · subst cg
        rw [if_pos rfl, if_pos rfl, o2_s, if_pos (show (-1 : Int32) = -1 from rfl)]
        exact LH_f h
      · have ng : ¬ nI x = nI g := by rw [nI_eq (by omega) (by omega)]; exact cg
        have ng2 : ¬ nI (48 + x) = nI (48 + g) := by rw [nI_eq (by omega) (by omega)]; omega
        have nx : ¬ nI x = (-1 : Int32) := fun q => (nI_nm1 (show x < 2 ^ 31 by omega)).mp q
        obtain ⟨u', v', p', e', a1, a2, a3, a4⟩ := LH_tok hT h
        rw [if_neg ng, if_neg ng2, x7, a1, a2, o1_s, o1_s, o2_s, o2_s, if_neg nx, if_neg nx, show nI (7 * r) + (2 : Int32) = nI (7 * r + 2) from by rw [l_2, nI_add], asr_e (by omega) (by decide)]
        exact line4 hT (LH_3 a3 (by omega)) hr (by omega) hg (fun _ => ⟨x, hx5, rfl⟩) (by rw [wr_jn (by omega), a4]; exact e0) (by rw [wr_jn (by omega), a4]; exact e1) (wr_js _ _ _ _)
  · have n3 : ¬ nI s = (3 : Int32) := by rw [l_3, nI_eq (by omega) (by omega)]; exact c
    rw [if_neg n3, if_neg n3]
    unfold fX2_readLine_L76
    rw [if_neg n3]
    exact line4 hT h hr hs hg (fun q => (c q).elim) e0 e1 e2
theorem line3t {σ τ u v : St} {L r p e s g : Nat} {u0 : Nat → Int32} {z : Int32} (hT : TInv σ τ L) (h : LH σ τ L r u0 z u v p e) (hr : r < 8) (hs : s < 5) (hg : g < 6) (e1 : v 3 (7 * r + 1) = nI g) (e2 : v 3 (7 * r + 2) = M1) : LnR σ τ L r u0 z (o1 (fX2_nextToken u) (fun u1 => fX2_readLine_L49 u1 (nI (7 * r)) (nI g) (nI s))) (fX8_readsLine_L141 v (nI (7 * r)) 0 (nI g) (nI s) (nI (7 * r))) := by
  have ns : ¬ nI s = (-1 : Int32) := fun q => (nI_nm1 (show s < 2 ^ 31 by omega)).mp q
  unfold fX8_readsLine_L141
  rw [asr_e (by omega) (by decide), ald_e (by omega) (by decide), wr_js, if_neg ns, if_pos rfl]
  obtain ⟨u', v', p', e', a1, a2, a3, a4⟩ := LH_tok hT (LH_3 (j := 7 * r) (x := nI s) h (Nat.le_refl _))
  rw [a1, a2, o1_s, o1_s]
  exact line3 hT a3 hr hs hg (by rw [a4, wr_js]) (by rw [a4, wr_jn (by omega)]; exact e1) (by rw [a4, wr_jn (by omega)]; exact e2)
theorem line2 {σ τ u v : St} {L r p e : Nat} {u0 : Nat → Int32} {z : Int32} (gr : Bool) (hT : TInv σ τ L) (h : LH σ τ L r u0 z u v p e) (hr : r < 8) : LnR σ τ L r u0 z (o1 (fX2_nextToken u) (fun u1 => fX2_readLine_L22 u1 (nI (7 * r)) (bz gr))) (fX8_readsLine_L32 v (nI (7 * r)) (bz gr)) := by
  obtain ⟨u1, v1, p1, e1, a1, a2, a3, a4⟩ := LH_tok hT h
  unfold fX8_readsLine_L32
  rw [a1, a2, o1_s, o1_s]
  unfold fX2_readLine_L22
  rcases num_e 0 5 hT a3.1 with ⟨n1, n2⟩ | ⟨g, x1, x2, x3, x4, x5, x6, x7⟩
  · rw [n1, n2, o2_s, o2_s, if_pos rfl, if_pos rfl]
    exact LH_f a3
  · have hg : g < 6 := by
      obtain ⟨j, j1, j2⟩ := off_0 (b := 5) (by decide) x2
      have := (nI_eq (a := g) (b := j) (by omega) (by omega)).mp j2
      omega
    have ng : ¬ nI g = (-1 : Int32) := fun q => (nI_nm1 (show g < 2 ^ 31 by omega)).mp q
    obtain ⟨u2, v2, p2, e2, b1, b2, b3, b4⟩ := LH_tok hT a3
    rw [x6, if_neg ng, x7, b1, b2, o1_s, o1_s, o2_s, o2_s, if_neg ng, if_neg ng, show nI (7 * r) + (1 : Int32) = nI (7 * r + 1) from nI_1 _, show nI (7 * r) + (2 : Int32) = nI (7 * r + 2) from by rw [l_2, nI_add], asr_e (by omega) (by decide), asr_e (by omega) (by decide)]
    have H := LH_3 (j := 7 * r + 2) (x := (-1 : Int32)) (LH_3 (j := 7 * r + 1) (x := nI g) b3 (by omega)) (by omega)
    have q1 : st_wr (st_wr v2 3 (7 * r + 1) (nI g)) 3 (7 * r + 2) (-1) 3 (7 * r + 1) = nI g := by rw [wr_jn (by omega), wr_js]
    have q2 : st_wr (st_wr v2 3 (7 * r + 1) (nI g)) 3 (7 * r + 2) (-1) 3 (7 * r + 2) = M1 := wr_js _ _ _ _
    generalize st_wr (st_wr v2 3 (7 * r + 1) (nI g)) 3 (7 * r + 2) (-1) = v3 at H q1 q2
    cases gr
    · rw [if_pos (show bz false = 0 from rfl), if_pos (show bz false = 0 from rfl)]
      unfold fX2_takeSort
      show LnR _ _ _ _ _ _ _ (oz (fX8_isWord v3 (25645 : Int32) (3 : Int32)) _)
      rcases word_e hT H.1 WT7 with ⟨w1, w2⟩ | ⟨w1, w2, -⟩
      · rw [w2, o2z_0, if_pos rfl, show fX8_isWord v3 25645 3 = some 0 from w1, oz_0, if_pos rfl]
        rcases word_e hT H.1 WT8 with ⟨w1, w2⟩ | ⟨w1, w2, -⟩
        · rw [w2, o2z_0, if_pos rfl, show fX8_isWord v3 20974 3 = some 0 from w1, oz_0, if_pos rfl]
          rcases word_e hT H.1 WT9 with ⟨w1, w2⟩ | ⟨w1, w2, -⟩
          · rw [w2, o2z_0, if_pos rfl, show fX8_isWord v3 831951 4 = some 0 from w1, oz_0, if_pos rfl]
            rcases word_e hT H.1 WT10 with ⟨w1, w2⟩ | ⟨w1, w2, -⟩
            · rw [w2, o2z_0, if_pos rfl, show fX8_isWord v3 172280994 6 = some 0 from w1, oz_0, if_pos rfl, o2_s]
              unfold fX2_readLine_L49 fX8_readsLine_L141
              rw [if_pos rfl, asr_e (by omega) (by decide), ald_e (by omega) (by decide), wr_js, if_pos rfl]
              exact LH_f (LH_3 H (Nat.le_refl _))
            · have := line3t (s := 3) hT H hr (by omega) hg q1 q2
              rw [w2, show fX8_isWord v3 172280994 6 = some 1 from w1, oz_1, if_neg (by decide)]
              obtain ⟨u5, v5, p5, e5, c1, -, -, -⟩ := LH_tok hT H
              rw [c1, o1_s] at this ⊢
              rw [o2z_1, if_neg (by decide), o2_s]
              exact this
          · have := line3t (s := 2) hT H hr (by omega) hg q1 q2
            rw [w2, show fX8_isWord v3 831951 4 = some 1 from w1, oz_1, if_neg (by decide)]
            obtain ⟨u5, v5, p5, e5, c1, -, -, -⟩ := LH_tok hT H
            rw [c1, o1_s] at this ⊢
            rw [o2z_1, if_neg (by decide), o2_s]
            exact this
        · have := line3t (s := 1) hT H hr (by omega) hg q1 q2
          rw [w2, show fX8_isWord v3 20974 3 = some 1 from w1, oz_1, if_neg (by decide)]
          obtain ⟨u5, v5, p5, e5, c1, -, -, -⟩ := LH_tok hT H
          rw [c1, o1_s] at this ⊢
          rw [o2z_1, if_neg (by decide), o2_s]
          exact this
      · have := line3t (s := 0) hT H hr (by omega) hg q1 q2
        rw [w2, show fX8_isWord v3 25645 3 = some 1 from w1, oz_1, if_neg (by decide)]
        obtain ⟨u5, v5, p5, e5, c1, -, -, -⟩ := LH_tok hT H
        rw [c1, o1_s] at this ⊢
        rw [o2z_1, if_neg (by decide), o2_s]
        exact this
    · rw [if_neg (show ¬ bz true = 0 by decide), if_neg (show ¬ bz true = 0 by decide)]
      unfold fX8_readsLine_L141
      rw [asr_e (by omega) (by decide), ald_e (by omega) (by decide), wr_js, if_neg (show ¬ (4 : Int32) = -1 by decide), if_neg (show ¬ bz true = 0 by decide)]
      exact line3 (s := 4) hT (LH_3 H (Nat.le_refl _)) hr (by omega) hg (wr_js _ _ _ _) (by rw [wr_jn (by omega)]; exact q1) (by rw [wr_jn (by omega)]; exact q2)
theorem line_e {σ τ u v : St} {L r p e : Nat} {u0 : Nat → Int32} {z : Int32} (hT : TInv σ τ L) (h : LH σ τ L r u0 z u v p e) (hr : r < 8) : LnR σ τ L r u0 z (fX2_readLine u (nI (7 * r))) (fX8_readsLine v) := by
  unfold fX2_readLine fX8_readsLine
  rw [h.2.2.2.2, l_7, pk_mul, bd_e]
  obtain ⟨u5, v5, p5, e5, c1, -, -, -⟩ := LH_tok hT h
  rcases word_e hT h.1 WT0 with ⟨w1, w2⟩ | ⟨w1, w2, -⟩
  · rw [w2, o2z_0, if_pos rfl, show fX8_isWord v 21431879 5 = some 0 from w1, oz_0, if_pos rfl]
    rcases word_e hT h.1 WT1 with ⟨w3, w4⟩ | ⟨w3, w4, -⟩
    · rw [w4, o2z_0, if_pos rfl, show fX8_isWord v 4597415 5 = some 0 from w3, oz_0, if_pos rfl]
      exact LH_f h
    · have := line2 false hT h hr
      rw [w4, show fX8_isWord v 4597415 5 = some 1 from w3, oz_1, if_neg (by decide)]
      rw [c1, o1_s] at this ⊢
      exact this
  · have := line2 true hT h hr
    rw [w2, show fX8_isWord v 21431879 5 = some 1 from w1, oz_1, if_neg (by decide)]
    rw [c1, o1_s] at this ⊢
    exact this
