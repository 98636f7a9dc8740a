/-! ===== the way of the cheapest ===== -/
theorem stepF {σ τ : St} {n t s set kd j ah : Nat} (hB : BInv σ τ n) (hP : PInv σ τ) (hT : Th σ τ t s) (hset : set < 64) (hk : kd < 2) (hj : j < s) (hah : ah < 7) (hm : mJ (goN τ n t set) (prN τ t kd) (crN τ kd) s (j + 1) ah < 268435456) :
    (∀ c g, c < 2 → g < 6 → goN τ n t set (s - (j + 1)) c g = true → prN τ t kd (s - (j + 1)) c g + mvN (crN τ kd) ah g + mJ (goN τ n t set) (prN τ t kd) (crN τ kd) s j g = mJ (goN τ n t set) (prN τ t kd) (crN τ kd) s (j + 1) ah → oJ (css τ n t set kd) (crN τ kd) s (j + 1) g + mvN (crN τ kd) ah g = mJ (goN τ n t set) (prN τ t kd) (crN τ kd) s (j + 1) ah ∧ cst τ n t set kd (s - (j + 1)) c g = css τ n t set kd (s - (j + 1)) g) ∧
    (∀ g, g < 6 → oJ (css τ n t set kd) (crN τ kd) s (j + 1) g + mvN (crN τ kd) ah g = mJ (goN τ n t set) (prN τ t kd) (crN τ kd) s (j + 1) ah → (oJ (css τ n t set kd) (crN τ kd) s (j + 1) g = css τ n t set kd (s - (j + 1)) g + mJ (goN τ n t set) (prN τ t kd) (crN τ kd) s j g ∧ mJ (goN τ n t set) (prN τ t kd) (crN τ kd) s j g < 268435456 ∧ css τ n t set kd (s - (j + 1)) g ≤ 99) ∧ ∀ c, c < 2 → cst τ n t set kd (s - (j + 1)) c g = css τ n t set kd (s - (j + 1)) g → goN τ n t set (s - (j + 1)) c g = true ∧ prN τ t kd (s - (j + 1)) c g + mvN (crN τ kd) ah g + mJ (goN τ n t set) (prN τ t kd) (crN τ kd) s j g = mJ (goN τ n t set) (prN τ t kd) (crN τ kd) s (j + 1) ah) ∧
    (∃ g, g < 6 ∧ oJ (css τ n t set kd) (crN τ kd) s (j + 1) g + mvN (crN τ kd) ah g = mJ (goN τ n t set) (prN τ t kd) (crN τ kd) s (j + 1) ah) := by
  have hs8 := hT.2.1
  obtain ⟨r1, r2, r3⟩ := rel_all hB hP hT hset hk j (by omega)
  obtain ⟨q1, q2, q3⟩ := rel_all hB hP hT hset hk (j + 1) (by omega)
  obtain ⟨cr, cr1, -, cr3⟩ := cr_ok hP kd
  rw [cr3] at r1 r2 r3 q1 q2 q3 hm ⊢
  have his : s - (j + 1) < s := by omega
  have hoi : ∀ g, g < 6 → oJ (css τ n t set kd) cr s j g ≤ 1000000 := fun g _ => oJ_le
  have hob : ∀ g, g < 6 → oJ (css τ n t set kd) cr s j g < 1000000 → oJ (css τ n t set kd) cr s j g ≤ 2000 := fun g hg q => by have := r3 g hg q; omega
  have ho : ∀ g, g < 6 → oJ (css τ n t set kd) cr s (j + 1) g = min 1000000 (css τ n t set kd (s - (j + 1)) g + min (oJ (css τ n t set kd) cr s j g) (mn (oJ (css τ n t set kd) cr s j) 6 + cr)) := fun g _ => rfl
  have hb := q2 ah hah hm
  obtain ⟨-, ⟨g0, hg0, a2, a3⟩, a4⟩ := (q1 ah hah).resolve_left (fun q => by omega)
  have cle : ∀ c g, c < 2 → g < 6 → css τ n t set kd (s - (j + 1)) g ≤ cst τ n t set kd (s - (j + 1)) c g := fun c g hc hg => by
    unfold css
    rcases (show c = 0 ∨ c = 1 by omega) with rfl | rfl <;> omega
  have cgo : ∀ c g, goN τ n t set (s - (j + 1)) c g = true → cst τ n t set kd (s - (j + 1)) c g = prN τ t kd (s - (j + 1)) c g := fun c g hgo => by unfold cst; rw [if_pos hgo]
  have cno : ∀ c g, goN τ n t set (s - (j + 1)) c g = false → cst τ n t set kd (s - (j + 1)) c g = 1000000 := fun c g hgo => by unfold cst; rw [hgo]; rfl
  refine ⟨fun c g hc hg hgo e => ?_, fun g hg e => ?_, g0, hg0, a3.symm⟩
  · obtain ⟨-, -, p3⟩ := cst_X hB hP hT his hc hg hset hk
    have p99 := p3 hgo
    have cl := cle c g hc hg
    have cg := cgo c g hgo
    rcases behind_e cr1 hoi hob r1 hg with ⟨b1, b2⟩ | ⟨b1, b2⟩
    · omega
    · have bm := r2 g (by omega) b1
      have eo := ho g hg
      rw [b2] at eo
      have lt : oJ (css τ n t set kd) cr s (j + 1) g < 1000000 := by omega
      have := a4 g hg lt
      constructor <;> omega
  · have mv9 := mvN_le (ah := ah) (g := g) cr1
    have olt : oJ (css τ n t set kd) cr s (j + 1) g < 1000000 := by omega
    have eo := ho g hg
    rcases behind_e cr1 hoi hob r1 hg with ⟨b1, b2⟩ | ⟨b1, b2⟩
    · rw [b2, Nat.min_eq_left (Nat.le_add_left _ _)] at eo
      rw [eo] at olt
      exact absurd olt (Nat.lt_irrefl _)
    · rw [b2] at eo
      have e1 : oJ (css τ n t set kd) cr s (j + 1) g = css τ n t set kd (s - (j + 1)) g + mJ (goN τ n t set) (prN τ t kd) cr s j g := by omega
      have c99 : css τ n t set kd (s - (j + 1)) g ≤ 99 := by
        have : ∃ c, c < 2 ∧ css τ n t set kd (s - (j + 1)) g = cst τ n t set kd (s - (j + 1)) c g := by
          unfold css
          by_cases z : cst τ n t set kd (s - (j + 1)) 0 g ≤ cst τ n t set kd (s - (j + 1)) 1 g
          · exact ⟨0, by omega, by omega⟩
          · exact ⟨1, by omega, by omega⟩
        obtain ⟨c, hc, ec⟩ := this
        obtain ⟨-, -, p3⟩ := cst_X hB hP hT his hc hg hset hk
        cases hgo : goN τ n t set (s - (j + 1)) c g
        · have := cno c g hgo; omega
        · have := p3 hgo
          have := cgo c g hgo
          omega
      refine ⟨⟨e1, b1, c99⟩, fun c hc ec => ?_⟩
      cases hgo : goN τ n t set (s - (j + 1)) c g
      · have := cno c g hgo; omega
      · have := cgo c g hgo
        exact ⟨rfl, by omega⟩
theorem firstG_e {u τ : St} {s j ah cr due : Nat} {o : Nat → Nat} (hs : s ≤ 8) (hj : j ≤ s) (hj1 : 1 ≤ j) (hcr : cr ≤ 99) (h42 : u 4 2 = nI cr) (ho : ∀ g, g < 6 → o g ≤ 1000000) (h19 : ∀ g, g < 6 → u 19 (6 * (s - j) + g) = nI (o g)) (hah : ah < 7) (hdue : due < 2000) : fX1_firstGuildAt u (nI (s - j)) (if ah = 6 then (-1 : Int32) else nI ah) (nI due) = some (fstI (fun g => decide (o g + mvN cr ah g = due)) 6) := by
  have loop : ∀ (m f g : Nat), g + m = 6 → m < f → fstI (fun g => decide (o g + mvN cr ah g = due)) g = M1 → fX1_firstGuildAt_L3 u f (nI (s - j)) (if ah = 6 then (-1 : Int32) else nI ah) (nI due) (nI g) = some (fstI (fun g => decide (o g + mvN cr ah g = due)) 6) := by
    intro m
    induction m with
    | zero =>
      intro f g hg hf h0
      obtain ⟨f, rfl⟩ : ∃ f', f = f' + 1 := ⟨f - 1, by omega⟩
      have : g = 6 := by omega
      subst this
      rw [fX1_firstGuildAt_L3]
      dsimp only
      rw [if_pos (by decide), h0]; rfl
    | succ m ih =>
      intro f g hg hf h0
      obtain ⟨f, rfl⟩ : ∃ f', f = f' + 1 := ⟨f - 1, by omega⟩
      have hg6 : g < 6 := by omega
      rw [fX1_firstGuildAt_L3]
      dsimp only
      rw [if_neg (show ¬ (6 : Int32) ≤ nI g from nI_ge (b := 6) (by omega) (by omega))]
      have mv9 := mvN_le (ah := ah) (g := g) hcr
      have og := ho g hg6
      have key : fX1_firstGuildAt_L32 u (fX1_firstGuildAt_L3 u f) (nI (s - j)) (if ah = 6 then (-1 : Int32) else nI ah) (nI due) (nI g) (nI (mvN cr ah g)) = some (fstI (fun g => decide (o g + mvN cr ah g = due)) 6) := by
        unfold fX1_firstGuildAt_L32
        rw [l_6, pk_mul, nI_add, ald_e (by omega) (by decide), show (s - j) * 6 + g = 6 * (s - j) + g by omega, h19 g hg6, nI_add]
        have h1 : fstI (fun g => decide (o g + mvN cr ah g = due)) (g + 1) = if (decide (o g + mvN cr ah g = due)) = true then nI g else M1 := by rw [fstI, if_pos h0]
        by_cases c : o g + mvN cr ah g = due
        · rw [if_pos (by rw [c])]
          rw [decide_eq_true c, if_pos rfl] at h1
          have h2 := fstI_le (P := fun g => decide (o g + mvN cr ah g = due)) (n := g + 1) (by rw [h1]; exact fun q => (nI_nm1 (show g < 2 ^ 31 by omega)).mp q) m
          rw [show g + 1 + m = 6 by omega, h1] at h2
          rw [h2]
        · rw [if_neg (fun q => c ((nI_eq (by omega) (by omega)).mp q))]
          rw [decide_eq_false c] at h1
          dsimp only [bd]
          rw [nI_1]
          exact ih f (g + 1) (by omega) (by omega) h1
      unfold fX1_firstGuildAt_L21
      by_cases h6 : ah = 6
      · have e0 : mvN cr ah g = 0 := by unfold mvN; rw [if_pos (Or.inl h6)]
        rw [e0] at key
        rw [if_pos h6] at key ⊢
        rw [if_pos rfl]
        exact key
      · rw [if_neg h6] at key ⊢
        rw [if_neg (show ¬ nI ah = (-1 : Int32) from fun q => (nI_nm1 (show ah < 2 ^ 31 by omega)).mp q)]
        by_cases hag : ah = g
        · have e0 : mvN cr ah g = 0 := by unfold mvN; rw [if_pos (Or.inr hag)]
          rw [e0] at key
          rw [if_pos (show nI ah = nI g by rw [hag])]
          exact key
        · have e0 : mvN cr ah g = cr := by unfold mvN; rw [if_neg (fun q => q.elim h6 hag)]
          rw [e0] at key
          rw [if_neg (fun q => hag ((nI_eq (by omega) (by omega)).mp q)), h42]
          exact key
  exact loop 6 2000 0 (by omega) (by omega) rfl
/-- which of the twelve goes on as it must -/
def eV (τ : St) (n t s set j ah : Nat) (v : Nat) : Bool := goN τ n t set (s - (j + 1)) (v % 2) (v / 2) && decide (prN τ t 0 (s - (j + 1)) (v % 2) (v / 2) + mvN (crN τ 0) ah (v / 2) + mJ (goN τ n t set) (prN τ t 0) (crN τ 0) s j (v / 2) = mJ (goN τ n t set) (prN τ t 0) (crN τ 0) s (j + 1) ah)
theorem way90 {σ τ u : St} {n t s set j ah : Nat} {k78 : St → Int32 → Int32 → Int32 → Int32 → Int32 → Int32 → Option (Int32 × St)} (p3 p4 : Int32) (hB : BInv σ τ n) (hP : PInv σ τ) (hT : Th σ τ t s) (hL : Laid τ u n t s th1) (hset : set < 64) (hj : j < s) (hah : ah < 7) (h15 : ∀ j, j ≤ s → ∀ ah, ah < 7 → u 15 (7 * (s - j) + ah) = nI (mJ (goN τ n t set) (prN τ t 0) (crN τ 0) s j ah)) (hex : fstI (eV τ n t s set j ah) 12 ≠ M1) : fX8_way_L90 k78 2000 u (nI set) p3 p4 (nI ah) (nI (s - (j + 1))) (-1) 0 = fX8_way_L212 k78 u (nI set) p3 p4 (nI (s - (j + 1))) (fstI (eV τ n t s set j ah) 12) := by
  have hs8 := hT.2.1
  obtain ⟨cr, cr1, cr2, cr3⟩ := cr_ok hP 0
  have loop : ∀ (m f v : Nat), v + m = 12 → m < f → fstI (eV τ n t s set j ah) v = M1 → fX8_way_L90 k78 f u (nI set) p3 p4 (nI ah) (nI (s - (j + 1))) (-1) (nI v) = fX8_way_L212 k78 u (nI set) p3 p4 (nI (s - (j + 1))) (fstI (eV τ n t s set j ah) 12) := by
    intro m
    induction m with
    | zero =>
      intro f v hv hf h0
      have : v = 12 := by omega
      subst this
      exact absurd h0 hex
    | succ m ih =>
      intro f v hv hf h0
      obtain ⟨f, rfl⟩ : ∃ f', f = f' + 1 := ⟨f - 1, by omega⟩
      rw [fX8_way_L90]
      dsimp only
      have ed : nI v / (2 : Int32) = nI (v / 2) := by rw [l_2, pk_div (by omega) (by omega) (by omega)]
      have er : nI v - nI v / (2 : Int32) * (2 : Int32) = nI (v % 2) := by rw [l_2]; exact pk_rem (by omega) (by omega) (by omega)
      have hcode : u 14 (12 * (s - (j + 1)) + 6 * (v % 2) + v / 2) = nI (cdN (cM τ) n th1 (Wt τ t) (2 * (s - (j + 1)) + v % 2) (v / 2)) := by
        rw [hL.2.2.2.2 _ (by omega), show (12 * (s - (j + 1)) + 6 * (v % 2) + v / 2) / 6 = 2 * (s - (j + 1)) + v % 2 by omega, show (12 * (s - (j + 1)) + 6 * (v % 2) + v / 2) % 6 = v / 2 by omega]
      rw [if_neg (show ¬ (12 : Int32) ≤ nI v from nI_ge (b := 12) (by omega) (by omega)), if_pos rfl, er, ed]
      dsimp only [bd]
      rw [goes_e (by omega) (by omega) (by omega) (cd7 hB th1 _ _ _) hset hcode, gt_c]
      have eg : gs set (cdN (cM τ) n th1 (Wt τ t) (2 * (s - (j + 1)) + v % 2) (v / 2)) (v / 2) = goN τ n t set (s - (j + 1)) (v % 2) (v / 2) := rfl
      rw [eg]
      have h1 : fstI (eV τ n t s set j ah) (v + 1) = if eV τ n t s set j ah v = true then nI v else M1 := by rw [fstI, if_pos h0]
      have no : eV τ n t s set j ah v = false → fX8_way_L190 k78 (fX8_way_L90 k78 f) u (nI set) p3 p4 (nI ah) (nI (s - (j + 1))) (nI v) = fX8_way_L212 k78 u (nI set) p3 p4 (nI (s - (j + 1))) (fstI (eV τ n t s set j ah) 12) := by
        intro q
        rw [q] at h1
        unfold fX8_way_L190 fX8_way_L191 fX8_way_L204
        rw [if_pos rfl]
        dsimp only [bd]
        rw [nI_1]
        exact ih f (v + 1) (by omega) (by omega) h1
      have yes : eV τ n t s set j ah v = true → fX8_way_L191 k78 (fX8_way_L90 k78 f) u (nI set) p3 p4 (nI ah) (nI (s - (j + 1))) (nI v) 1 = fX8_way_L212 k78 u (nI set) p3 p4 (nI (s - (j + 1))) (fstI (eV τ n t s set j ah) 12) := by
        intro q
        rw [q, if_pos rfl] at h1
        have ne : ¬ nI v = M1 := fun q => (nI_nm1 (show v < 2 ^ 31 by omega)).mp q
        have h2 := fstI_le (P := eV τ n t s set j ah) (n := v + 1) (by rw [h1]; exact ne) m
        rw [show v + 1 + m = 12 by omega, h1] at h2
        rw [h2]
        unfold fX8_way_L191 fX8_way_L204
        rw [if_neg (by decide)]
        dsimp only [bd]
        obtain ⟨f, rfl⟩ : ∃ f', f = f' + 1 := ⟨f - 1, by omega⟩
        rw [fX8_way_L90, nI_1]
        dsimp only
        by_cases z : v + 1 = 12
        · rw [if_pos (show (12 : Int32) ≤ nI (v + 1) from nI_le (a := 12) (by omega) (by omega))]
        · rw [if_neg (show ¬ (12 : Int32) ≤ nI (v + 1) from nI_ge (b := 12) (by omega) (by omega)), if_neg (show ¬ nI v = (-1 : Int32) from ne)]
      cases hgo : goN τ n t set (s - (j + 1)) (v % 2) (v / 2)
      · simp only [Bool.not_false, Bool.not_true, if_true, if_false, Bool.false_eq_true, ↓reduceIte]
        exact no (by unfold eV; rw [hgo]; rfl)
      · simp only [Bool.not_false, Bool.not_true, if_true, if_false, Bool.false_eq_true, ↓reduceIte]
        obtain ⟨w, hw, ew⟩ := goW hT.2.2.2.2.1 (show s - (j + 1) < s by omega) (show v % 2 < 2 by omega) hgo
        obtain ⟨p, p1, p2⟩ := pr_ok hP (kd := 0) (show v / 2 < 6 by omega) hw
        have ep : prN τ t 0 (s - (j + 1)) (v % 2) (v / 2) = p := by unfold prN; rw [ew, nI_clamp (by omega), p2, nI_clamp (by omega)]
        have m1 : mJ (goN τ n t set) (prN τ t 0) (crN τ 0) s j (v / 2) ≤ 268435456 := mJ_le
        have m2 : mJ (goN τ n t set) (prN τ t 0) (crN τ 0) s (j + 1) ah ≤ 268435456 := mJ_le
        have mv9 := mvN_le (ah := ah) (g := v / 2) cr1
        have key : ∀ a : Int32, (if a = M1 ∨ a = nI (v / 2) then (0 : Int32) else car τ 0) = nI (mvN cr ah (v / 2)) → fX8_way_L149 k78 (fX8_way_L90 k78 f) u (nI set) p3 p4 (nI ah) (nI (s - (j + 1))) (nI v) (nI (v / 2)) a (nI (v / 2)) (nI (v % 2)) (nI (s - (j + 1))) = fX8_way_L212 k78 u (nI set) p3 p4 (nI (s - (j + 1))) (fstI (eV τ n t s set j ah) 12) := by
          intro a ha
          have b1 := h15 j (by omega) (v / 2) (by omega)
          have b2 := h15 (j + 1) (by omega) ah hah
          unfold fX8_way_L149
          rw [show (0 : Int32) = nI 0 from rfl, stepCost_e a hL hs8 (show s - (j + 1) < s by omega) (show v % 2 < 2 by omega) (show v / 2 < 6 by omega) hw (by omega) ew, show (if a = M1 ∨ a = nI (v / 2) then (0 : Int32) else car τ 0) = nI (mvN cr ah (v / 2)) from ha, p2, o1_s, nI_add, l_7, pk_mul, nI_add, nI_add, nI_add, ald_e (by omega) (by decide), show 7 * (s - (j + 1)) + 7 + v / 2 = 7 * (s - j) + v / 2 by omega, b1, ald_e (by omega) (by decide), b2, nI_add]
          by_cases c : p + mvN cr ah (v / 2) + mJ (goN τ n t set) (prN τ t 0) (crN τ 0) s j (v / 2) = mJ (goN τ n t set) (prN τ t 0) (crN τ 0) s (j + 1) ah
          · rw [if_pos (by rw [c])]
            exact yes (by unfold eV; rw [hgo, ep, cr3, cr3.symm, decide_eq_true (by rw [cr3]; rw [cr3] at c; exact c)]; rfl)
          · rw [if_neg (fun q => c ((nI_eq (by omega) (by omega)).mp q))]
            exact no (by unfold eV; rw [hgo, ep, decide_eq_false (by rw [cr3] at c ⊢; exact c)]; rfl)
        by_cases h6 : ah = 6
        · subst h6
          rw [if_pos (by decide)]
          exact key (-1) (by rw [if_pos (show (-1 : Int32) = M1 ∨ (-1 : Int32) = nI (v / 2) from Or.inl rfl)]; unfold mvN; rw [if_pos (Or.inl rfl)]; rfl)
        · rw [if_neg (show ¬ nI ah = (6 : Int32) from by rw [l_6, nI_eq (by omega) (by omega)]; exact h6)]
          refine key (nI ah) ?_
          unfold mvN
          by_cases z : ah = v / 2
          · rw [if_pos (Or.inr (by rw [z])), if_pos (Or.inr z)]; rfl
          · rw [if_neg (fun q => q.elim (fun q => (nI_nm1 (show ah < 2 ^ 31 by omega)).mp q) (fun q => z ((nI_eq (by omega) (by omega)).mp q))), if_neg (fun q => q.elim h6 z)]
            exact cr2
  exact loop 12 2000 0 (by omega) (by omega) rfl
/-- the first guild and the first choice of it: both find the same -/
theorem pick {σ τ : St} {n t s set j ah : Nat} (hB : BInv σ τ n) (hP : PInv σ τ) (hT : Th σ τ t s) (hset : set < 64) (hj : j < s) (hah : ah < 7) (hm : mJ (goN τ n t set) (prN τ t 0) (crN τ 0) s (j + 1) ah < 268435456) : ∃ v, v < 12 ∧ fstI (eV τ n t s set j ah) 12 = nI v ∧ fstI (fun g => decide (oJ (css τ n t set 0) (crN τ 0) s (j + 1) g + mvN (crN τ 0) ah g = mJ (goN τ n t set) (prN τ t 0) (crN τ 0) s (j + 1) ah)) 6 = nI (v / 2) ∧ oJ (css τ n t set 0) (crN τ 0) s (j + 1) (v / 2) = css τ n t set 0 (s - (j + 1)) (v / 2) + mJ (goN τ n t set) (prN τ t 0) (crN τ 0) s j (v / 2) ∧ mJ (goN τ n t set) (prN τ t 0) (crN τ 0) s j (v / 2) < 268435456 ∧ css τ n t set 0 (s - (j + 1)) (v / 2) ≤ 99 ∧ (cst τ n t set 0 (s - (j + 1)) 0 (v / 2) ≤ cst τ n t set 0 (s - (j + 1)) 1 (v / 2) ↔ v % 2 = 0) := by
  obtain ⟨f1, f2, g0, hg0, f3⟩ := stepF hB hP hT hset (show 0 < 2 by omega) hj hah hm
  have ecss : ∀ g, ∃ c, c < 2 ∧ cst τ n t set 0 (s - (j + 1)) c g = css τ n t set 0 (s - (j + 1)) g := fun g => by
    unfold css
    by_cases z : cst τ n t set 0 (s - (j + 1)) 0 g ≤ cst τ n t set 0 (s - (j + 1)) 1 g
    · exact ⟨0, by omega, by omega⟩
    · exact ⟨1, by omega, by omega⟩
  have eVg : ∀ c g, c < 2 → g < 6 → eV τ n t s set j ah (2 * g + c) = (goN τ n t set (s - (j + 1)) c g && decide (prN τ t 0 (s - (j + 1)) c g + mvN (crN τ 0) ah g + mJ (goN τ n t set) (prN τ t 0) (crN τ 0) s j g = mJ (goN τ n t set) (prN τ t 0) (crN τ 0) s (j + 1) ah)) := by
    intro c g hc hg
    unfold eV
    rw [show (2 * g + c) % 2 = c by omega, show (2 * g + c) / 2 = g by omega]
  have toE : ∀ g, g < 6 → oJ (css τ n t set 0) (crN τ 0) s (j + 1) g + mvN (crN τ 0) ah g = mJ (goN τ n t set) (prN τ t 0) (crN τ 0) s (j + 1) ah → ∀ c, c < 2 → cst τ n t set 0 (s - (j + 1)) c g = css τ n t set 0 (s - (j + 1)) g → eV τ n t s set j ah (2 * g + c) = true := by
    intro g hg e c hc ec
    obtain ⟨a, b⟩ := (f2 g hg e).2 c hc ec
    rw [eVg c g hc hg, a, decide_eq_true b]; rfl
  have ex : fstI (eV τ n t s set j ah) 12 ≠ M1 := by
    intro q
    obtain ⟨c, hc, ec⟩ := ecss g0
    have := (fstI_none (by omega)).mp q (2 * g0 + c) (by omega)
    rw [toE g0 hg0 f3 c hc ec] at this
    cases this
  obtain ⟨v, hv, v1, v2, v3⟩ := fstI_some (by omega) ex
  have ev := eVg (v % 2) (v / 2) (by omega) (by omega)
  rw [show 2 * (v / 2) + v % 2 = v by omega, v1] at ev
  have ev' : goN τ n t set (s - (j + 1)) (v % 2) (v / 2) = true ∧ prN τ t 0 (s - (j + 1)) (v % 2) (v / 2) + mvN (crN τ 0) ah (v / 2) + mJ (goN τ n t set) (prN τ t 0) (crN τ 0) s j (v / 2) = mJ (goN τ n t set) (prN τ t 0) (crN τ 0) s (j + 1) ah := by
    have := ev.symm
    rw [Bool.and_eq_true] at this
    exact ⟨this.1, of_decide_eq_true this.2⟩
  obtain ⟨x1, x2⟩ := f1 (v % 2) (v / 2) (by omega) (by omega) ev'.1 ev'.2
  obtain ⟨⟨y1, y2, y3⟩, -⟩ := f2 (v / 2) (by omega) x1
  refine ⟨v, hv, v3, ?_, y1, y2, y3, ?_⟩
  · have hne : fstI (fun g => decide (oJ (css τ n t set 0) (crN τ 0) s (j + 1) g + mvN (crN τ 0) ah g = mJ (goN τ n t set) (prN τ t 0) (crN τ 0) s (j + 1) ah)) 6 ≠ M1 := by
      intro q
      have := (fstI_none (by omega)).mp q (v / 2) (by omega)
      rw [decide_eq_true x1] at this
      cases this
    obtain ⟨g, hg, g1, g2, g3⟩ := fstI_some (by omega) hne
    rw [g3]
    have e1 := of_decide_eq_true g1
    have : g = v / 2 := by
      rcases Nat.lt_trichotomy g (v / 2) with z | z | z
      · obtain ⟨c, hc, ec⟩ := ecss g
        have := v2 (2 * g + c) (by omega)
        rw [toE g hg e1 c hc ec] at this
        cases this
      · exact z
      · have := g2 (v / 2) z
        rw [decide_eq_true x1] at this
        cases this
    rw [this]
  · constructor
    · intro z
      have e0 : cst τ n t set 0 (s - (j + 1)) 0 (v / 2) = css τ n t set 0 (s - (j + 1)) (v / 2) := by unfold css; omega
      have t0 := toE (v / 2) (by omega) x1 0 (by omega) e0
      rcases (show v % 2 = 0 ∨ v % 2 = 1 by omega) with q | q
      · exact q
      · have := v2 (2 * (v / 2) + 0) (by omega)
        rw [t0] at this
        cases this
    · intro z
      rw [z] at x2
      unfold css at x2
      omega
