/-! ===== way ===== -/
theorem way_loop {u τ v : St} {n t s set i : Nat} (k : Nat) (hB : BInv u τ n) (hP : PInv u τ) (hT : Th u τ t s) (hL : Laid τ v n t s th1) (hset : set < 64) (hi : i < s) (h19 : ∀ j, j ≤ s → ∀ g, g < 6 → u 19 (6 * (s - j) + g) = nI (oJ (css τ n t set 0) (crN τ 0) s j g)) (h15 : ∀ j, j ≤ s → ∀ ah, ah < 7 → v 15 (7 * (s - j) + ah) = nI (mJ (goN τ n t set) (prN τ t 0) (crN τ 0) s j ah)) : ∀ (m f st ah ch : Nat), st + m = i + 1 → m < f → ah < 7 → ch < 2 → mJ (goN τ n t set) (prN τ t 0) (crN τ 0) s (s - st) ah < 268435456 → (0 < st → ah < 6 ∧ (cst τ n t set 0 (st - 1) 0 ah ≤ cst τ n t set 0 (st - 1) 1 ah ↔ ch = 0)) → ∃ g c, g < 6 ∧ c < 2 ∧ fX1_cheapestGuild_L10 u t f (nI set) (nI i) (nI (mJ (goN τ n t set) (prN τ t 0) (crN τ 0) s (s - st) ah)) (if ah = 6 then (-1 : Int32) else nI ah) (nI st) = some (nI g) ∧ fX8_way_L78 f v (nI set) (nI i) (nI k) (nI ah) (nI ch) (nI st) = fX8_way_L230 v (nI k) (nI g) (nI c) ∧ (cst τ n t set 0 i 0 g ≤ cst τ n t set 0 i 1 g ↔ c = 0) := by
  have hs8 := hT.2.1
  obtain ⟨cr, cr1, cr2, cr3⟩ := cr_ok hP 0
  have h42 : u 4 2 = nI cr := by
    obtain ⟨z, -, p1, p2⟩ := hP.2.2
    have : car τ 0 = τ 0 11 := by unfold car; rw [if_pos rfl]
    rw [p1, ← p2, ← this, cr2]
  intro m
  induction m with
  | zero =>
    intro f st ah ch hst hf hah hch hm hc
    obtain ⟨f, rfl⟩ : ∃ f', f = f' + 1 := ⟨f - 1, by omega⟩
    have : st = i + 1 := by omega
    subst this
    obtain ⟨c1, c2⟩ := hc (by omega)
    rw [fX1_cheapestGuild_L10, fX8_way_L78]
    dsimp only
    rw [if_pos (nI_lt (show i < i + 1 by omega) (by omega)), if_pos (nI_lt (show i < i + 1 by omega) (by omega)), if_neg (show ¬ ah = 6 by omega)]
    exact ⟨ah, ch, c1, hch, rfl, rfl, c2⟩
  | succ m ih =>
    intro f st ah ch hst hf hah hch hm hc
    obtain ⟨f, rfl⟩ : ∃ f', f = f' + 1 := ⟨f - 1, by omega⟩
    have hsti : st ≤ i := by omega
    obtain ⟨j, hj⟩ : ∃ j, s - st = j + 1 := ⟨s - st - 1, by omega⟩
    have hjs : j < s := by omega
    have est : s - (j + 1) = st := by omega
    have ejn : s - (st + 1) = j := by omega
    rw [hj] at hm
    obtain ⟨w, w1, w2, w3, w4, w5, w6, w7⟩ := pick hB hP hT hset hjs hah hm
    obtain ⟨q1, q2, q3⟩ := rel_all hB hP hT hset (show 0 < 2 by omega) (j + 1) (by omega)
    obtain ⟨p1, p2, p3⟩ := rel_all hB hP hT hset (show 0 < 2 by omega) j (by omega)
    have due := q2 ah hah hm
    have dj := p2 (w / 2) (by omega) w5
    have hex : fstI (eV τ n t s set j ah) 12 ≠ M1 := by rw [w2]; exact fun q => (nI_nm1 (show w < 2 ^ 31 by omega)).mp q
    have fg := firstG_e (u := u) (τ := τ) (s := s) (j := j + 1) (ah := ah) (cr := cr) (due := mJ (goN τ n t set) (prN τ t 0) (crN τ 0) s (j + 1) ah) (o := oJ (css τ n t set 0) (crN τ 0) s (j + 1)) hs8 (by omega) (by omega) cr1 h42 (fun g _ => oJ_le) (fun g hg => h19 (j + 1) (by omega) g hg) hah (by omega)
    rw [est, ← cr3, w3] at fg
    obtain ⟨c1, c2⟩ := css_X hB hP hT (show st < s by omega) (show w / 2 < 6 by omega) hset (show 0 < 2 by omega)
    have ob := h19 (j + 1) (by omega) (w / 2) (by omega)
    rw [est, w4, est] at ob
    have w90 := way90 (k78 := fX8_way_L78 f) (nI i) (nI k) hB hP hT hL hset hjs hah h15 hex
    rw [est, w2] at w90
    rw [fX1_cheapestGuild_L10, fX8_way_L78]
    dsimp only
    rw [if_neg (nI_nlt hsti (by omega)), if_neg (nI_nlt hsti (by omega)), hj, fg, o1_s, if_neg (show ¬ nI (w / 2) = (-1 : Int32) from fun q => (nI_nm1 (show w / 2 < 2 ^ 31 by omega)).mp q), l_6, pk_mul, nI_add, ald_e (by omega) (by decide), show st * 6 + w / 2 = 6 * st + w / 2 by omega, ob, show (0 : Int32) = nI 0 from rfl, c1, o1_s]
    dsimp only [bd]
    rw [pk_sub (by omega), show css τ n t set 0 st (w / 2) + mJ (goN τ n t set) (prN τ t 0) (crN τ 0) s j (w / 2) - css τ n t set 0 st (w / 2) = mJ (goN τ n t set) (prN τ t 0) (crN τ 0) s j (w / 2) by omega, nI_1]
    rw [show nI 0 = (0 : Int32) from rfl, w90]
    unfold fX8_way_L212
    rw [show nI w / (2 : Int32) = nI (w / 2) from by rw [l_2, pk_div (by omega) (by omega) (by omega)]]
    have er : nI w - nI (w / 2) * (2 : Int32) = nI (w % 2) := by rw [l_2, pk_mul]; exact w_rem
    rw [er]
    dsimp only [bd]
    rw [nI_1]
    have nx := ih f (st + 1) (w / 2) (w % 2) (by omega) (by omega) (by omega) (by omega) (by rw [ejn]; exact w5) (fun _ => ⟨by omega, by rw [Nat.add_sub_cancel, ← est]; exact w7⟩)
    rw [ejn, if_neg (show ¬ w / 2 = 6 by omega)] at nx
    exact nx
theorem op_way {σ τ : St} (h : Inv σ τ) (t x i k : Int32) : ∃ r σ' τ', fX7_way σ t x i k = some (r, σ') ∧ fX8_way τ t x i k = some (r, τ') ∧ Inv σ' τ' := by
  obtain ⟨⟨n, hB⟩, -, hS, hP, -⟩ := id h
  unfold fX7_way fX8_way
  rw [noT_e, noS_e, off_e, isT_e, isS_e, j_0, j_1, in_e]
  simp only [gt_c]
  cases ht : off t 0 5
  · cases hx : off x 0 63
    · simp only [Bool.not_false, Bool.not_true, if_true, if_false, Bool.false_eq_true, ↓reduceIte]
      by_cases hi : i < 0
      · rw [if_pos hi, if_pos hi]
        exact ⟨_, _, _, rfl, rfl, h⟩
      · rw [if_neg hi, if_neg hi]
        cases hk : off k 0 1
        · obtain ⟨t, ht', rfl⟩ := off_0 (b := 5) (by decide) ht
          obtain ⟨x, hx', rfl⟩ := off_0 (b := 63) (by decide) hx
          obtain ⟨k, hk', rfl⟩ := off_0 (b := 1) (by decide) hk
          obtain ⟨i, hi31, rfl⟩ := nI_of hi
          have ht6 : t < 6 := by omega
          have hx6 : x < 64 := by omega
          obtain ⟨s, hT⟩ := Th_of hS ht6
          have hs8 := hT.2.1
          obtain ⟨v, e1, e2, -⟩ := lay_e hB hT (scM_rf τ)
          obtain ⟨u, a1, a2, a3⟩ := reckon_e hB hP hT hx6 (show 0 < 2 by omega)
          obtain ⟨v', b1, b2, b3⟩ := rest_e hB hP hT e2 hx6 (show 0 < 2 by omega)
          have hL : Laid τ v' n t s th1 := by
            obtain ⟨v1, v2, v3, v4, v5⟩ := e2
            refine ⟨⟨by rw [b2 0 (by decide)]; exact v1.1, fun k k1 k2 k3 => (b2 k (by omega)).trans (v1.2 k k1 k2 k3)⟩, fun b hb => by rw [thM_cg (b2 0 (by decide))]; exact v2 b hb, by rw [b2 0 (by decide)]; exact v3, by rw [b2 13 (by decide)]; exact v4, by rw [b2 14 (by decide)]; exact v5⟩
          have hBu : BInv u τ n := B_sc hB a2 (scM_rf τ)
          have hPu : PInv u τ := P_cg hP (a2 17 (by decide) (by decide) (by decide)) (a2 18 (by decide) (by decide) (by decide)) (by rw [a2 4 (by decide) (by decide) (by decide)]) rfl rfl rfl
          have hTu : Th u τ t s := by
            obtain ⟨q1, q2, q3, q4, q5, q6, q7⟩ := hT
            exact ⟨q1, q2, by rw [a2 (23 + t) (by omega) (by omega) (by omega)]; exact q3, q4, q5, by rw [a2 (29 + t) (by omega) (by omega) (by omega)]; exact q6, q7⟩
          have b6 := b3 s (Nat.le_refl s) 6 (by omega)
          rw [Nat.sub_self, show 7 * 0 + 6 = 6 by omega] at b6
          simp only [Bool.not_false, Bool.not_true, if_true, if_false, Bool.false_eq_true, ↓reduceIte]
          rw [tld_e ht6]
          rw [show (0 : Int32) = nI 0 from rfl, a1, o2_s, e1, o1_s, b1, o1_s, l_6, ald_e (by omega) (by decide), b6, hL.2.2.1]
          have m1 : mJ (goN τ n t x) (prN τ t 0) (crN τ 0) s s 6 ≤ 268435456 := mJ_le
          rcases best_eq hB hP hT hx6 (show 0 < 2 by omega) with ⟨c1, c2⟩ | ⟨c1, c2⟩
          · rw [c1, c2, if_pos (by decide), if_pos (by decide)]
            exact ⟨_, _, _, rfl, rfl, Inv_sc h a2 hL.1⟩
          · rw [c2, if_neg (show ¬ nI (mJ (goN τ n t x) (prN τ t 0) (crN τ 0) s s 6) = (1000000 : Int32) from by rw [l_1000000, nI_eq (by omega) (by omega)]; omega), if_neg (show ¬ (268435456 : Int32) ≤ nI (mJ (goN τ n t x) (prN τ t 0) (crN τ 0) s s 6) from nI_ge (b := 268435456) (by omega) (by omega)), tld_e ht6, hTu.2.2.1]
            by_cases his : i < s
            · rw [if_pos (nI_lt his (by omega)), if_pos (nI_lt his (by omega)), tld_e ht6]
              unfold fX1_cheapestGuild
              obtain ⟨g, c, g1, g2, g3, g4, g5⟩ := way_loop k hBu hPu hTu hL hx6 his a3 b3 (i + 1) 2000 0 6 0 (by omega) (by omega) (by omega) (by omega) (by rw [Nat.sub_zero]; omega) (fun q => absurd q (by omega))
              rw [Nat.sub_zero, if_pos rfl, show nI 0 = (0 : Int32) from rfl] at g3
              rw [show nI 0 = (0 : Int32) from rfl] at g4
              rw [show nI 0 = (0 : Int32) from rfl, g3, show nI 6 = (6 : Int32) from rfl] 
              rw [show nI 6 = (6 : Int32) from rfl] at g4
              rw [g4, o1_s, if_neg (show ¬ nI g = (-1 : Int32) from fun q => (nI_nm1 (show g < 2 ^ 31 by omega)).mp q)]
              unfold fX8_way_L230
              rcases (show k = 0 ∨ k = 1 by omega) with rfl | rfl
              · rw [if_pos (by decide), if_pos (by decide)]
                exact ⟨_, _, _, rfl, rfl, Inv_sc h a2 hL.1⟩
              · rw [if_neg (by decide), if_neg (by decide), tld_e ht6]
                obtain ⟨d1, d2, -⟩ := cst_X hBu hPu hTu his (show 0 < 2 by omega) g1 hx6 (show 0 < 2 by omega)
                obtain ⟨f1, f2, -⟩ := cst_X hBu hPu hTu his (show 1 < 2 by omega) g1 hx6 (show 0 < 2 by omega)
                unfold fX1_cheapestChoice
                rw [show (0 : Int32) = nI 0 from rfl, show (1 : Int32) = nI 1 from rfl, workAt_e hTu his (show 0 < 2 by omega) rfl, workAt_e hTu his (show 1 < 2 by omega) rfl, o1_s, d1, o1_s, o1_s, f1, o1_s]
                by_cases q : cst τ n t x 0 i 0 g ≤ cst τ n t x 0 i 1 g
                · rw [if_pos (nI_le q (by omega)), o1_s]
                  rw [g5.mp q]
                  exact ⟨_, _, _, rfl, rfl, Inv_sc h a2 hL.1⟩
                · rw [if_neg (nI_ge (by omega) (by omega)), o1_s]
                  rw [show c = 1 from by
                    rcases (show c = 0 ∨ c = 1 by omega) with z | z
                    · exact absurd (g5.mpr z) q
                    · exact z]
                  exact ⟨_, _, _, rfl, rfl, Inv_sc h a2 hL.1⟩
            · rw [if_neg (nI_nlt (by omega) (by omega)), if_neg (nI_nlt (by omega) (by omega))]
              exact ⟨_, _, _, rfl, rfl, Inv_sc h a2 hL.1⟩
        · exact ⟨_, _, _, rfl, rfl, h⟩
    · exact ⟨_, _, _, rfl, rfl, h⟩
  · exact ⟨_, _, _, rfl, rfl, h⟩
