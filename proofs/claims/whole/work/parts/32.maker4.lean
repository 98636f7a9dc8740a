/-! ===== the cheapest and the soonest way ===== -/
theorem mi_e {a b : Nat} (ha : a < 2 ^ 31) (hb : b < 2 ^ 31) : mi (nI a) (nI b) = nI (min a b) := by
  unfold mi
  by_cases h : b < a
  · rw [if_pos (nI_lt h ha), Nat.min_eq_right (by omega)]
  · rw [if_neg (nI_nlt (by omega) hb), Nat.min_eq_left (by omega)]
/-- the least of the first so many -/
def mn (f : Nat → Nat) : Nat → Nat
  | 0 => 1000000
  | g + 1 => min (mn f g) (f g)
theorem mn_le {f : Nat → Nat} : ∀ {m g : Nat}, g < m → mn f m ≤ f g
  | m + 1, g, h => by
    rw [mn]
    rcases Nat.lt_succ_iff_lt_or_eq.mp h with q | q
    · have := mn_le (f := f) q; omega
    · subst q; omega
theorem mn_at {f : Nat → Nat} : ∀ {m : Nat}, mn f m = 1000000 ∨ ∃ g, g < m ∧ mn f m = f g
  | 0 => Or.inl rfl
  | m + 1 => by
    rw [mn]
    by_cases h : mn f m ≤ f m
    · rw [Nat.min_eq_left h]
      rcases mn_at (f := f) (m := m) with q | ⟨g, hg, q⟩
      · exact Or.inl q
      · exact Or.inr ⟨g, by omega, q⟩
    · rw [Nat.min_eq_right (by omega)]
      exact Or.inr ⟨m, by omega, rfl⟩
theorem mn_inf {f : Nat → Nat} {m : Nat} : mn f m ≤ 1000000 := by
  induction m with
  | zero => exact Nat.le_refl _
  | succ m ih => rw [mn]; omega
/-- a running least over those that are allowed -/
def lm (ok : Nat → Bool) (f : Nat → Nat) : Nat → Nat
  | 0 => 268435456
  | k + 1 => if ok k then min (lm ok f k) (f k) else lm ok f k
theorem lm_le {ok : Nat → Bool} {f : Nat → Nat} : ∀ {m k : Nat}, k < m → ok k = true → lm ok f m ≤ f k
  | m + 1, k, h, hk => by
    rw [lm]
    rcases Nat.lt_succ_iff_lt_or_eq.mp h with q | q
    · have := lm_le (f := f) q hk
      by_cases c : ok m = true
      · rw [if_pos c]; omega
      · rw [if_neg c]; exact this
    · subst q; rw [if_pos hk]; omega
theorem lm_far {ok : Nat → Bool} {f : Nat → Nat} : ∀ {m : Nat}, lm ok f m ≤ 268435456
  | 0 => Nat.le_refl _
  | m + 1 => by
    have := lm_far (ok := ok) (f := f) (m := m)
    rw [lm]
    by_cases c : ok m = true
    · rw [if_pos c]; omega
    · rw [if_neg c]; exact this
theorem lm_at {ok : Nat → Bool} {f : Nat → Nat} : ∀ {m : Nat}, lm ok f m = 268435456 ∨ ∃ k, k < m ∧ ok k = true ∧ lm ok f m = f k
  | 0 => Or.inl rfl
  | m + 1 => by
    rw [lm]
    have ih := lm_at (ok := ok) (f := f) (m := m)
    by_cases c : ok m = true
    · rw [if_pos c]
      by_cases h : lm ok f m ≤ f m
      · rw [Nat.min_eq_left h]
        rcases ih with q | ⟨k, hk, a, b⟩
        · exact Or.inl q
        · exact Or.inr ⟨k, by omega, a, b⟩
      · rw [Nat.min_eq_right (by omega)]
        exact Or.inr ⟨m, by omega, c, rfl⟩
    · rw [if_neg c]
      rcases ih with q | ⟨k, hk, a, b⟩
      · exact Or.inl q
      · exact Or.inr ⟨k, by omega, a, b⟩
/-- what is fixed: which work of step i guild g does with the set's hands, and what it asks -/
def goN (τ : St) (n t set i c g : Nat) : Bool := gs set (cdN (cM τ) n th1 (Wt τ t) (2 * i + c) g) g
def prN (τ : St) (t kd i c g : Nat) : Nat := (prc τ kd g (Wt τ t (2 * i + c)).toNatClampNeg).toNatClampNeg
def crN (τ : St) (kd : Nat) : Nat := (car τ kd).toNatClampNeg
theorem pr_ok {σ τ : St} (hP : PInv σ τ) {kd g w : Nat} (hg : g < 6) (hw : w < 240) : ∃ v, v ≤ 99 ∧ prc τ kd g w = nI v := by
  unfold prc
  by_cases h : kd = 0
  · rw [if_pos h]
    obtain ⟨v, a, -, b⟩ := hP.1 (6 * g + w / 40) (by omega)
    exact ⟨v, a, b⟩
  · rw [if_neg h]
    obtain ⟨v, a1, a, -, b⟩ := hP.2.1 g hg
    exact ⟨v, by omega, b⟩
theorem cr_ok {σ τ : St} (hP : PInv σ τ) (kd : Nat) : ∃ v, v ≤ 99 ∧ car τ kd = nI v ∧ crN τ kd = v := by
  unfold crN car
  by_cases h : kd = 0
  · rw [if_pos h]
    obtain ⟨v, a, -, b⟩ := hP.2.2
    exact ⟨v, a, b, by rw [b, nI_clamp (by omega)]⟩
  · rw [if_neg h]
    exact ⟨1, by omega, rfl, by decide⟩
theorem goW {τ : St} {n t s set i c g : Nat} (hW : WOK (Wt τ t) s) (hi : i < s) (hc : c < 2) (h : goN τ n t set i c g = true) : ∃ w, w < 240 ∧ Wt τ t (2 * i + c) = nI w := by
  rcases hW (2 * i + c) (by omega) with e | q
  · unfold goN gs cdN at h
    rw [if_pos e] at h
    exact absurd h (by simp)
  · exact q
def cst (τ : St) (n t set kd i c g : Nat) : Nat := if goN τ n t set i c g then prN τ t kd i c g else 1000000
def css (τ : St) (n t set kd i g : Nat) : Nat := min (cst τ n t set kd i 0 g) (cst τ n t set kd i 1 g)
theorem hdgs : ∀ x, x < 8 → ∀ g, g < 6 → ∀ set, set < 64 → decide (hdV x g = 0 ∨ ¬ (hdV x g &&& (nI set ^^^ (-1 : Int32)) = 0)) = !gs set x g := by decide +kernel
theorem cst_X {σ τ : St} {n t s set kd i c g : Nat} (hB : BInv σ τ n) (hP : PInv σ τ) (hT : Th σ τ t s) (hi : i < s) (hc : c < 2) (hg : g < 6) (hset : set < 64) (hk : kd < 2) : fX1_costOfWork σ (Wt τ t (2 * i + c)) (nI g) (nI set) (nI kd) = some (nI (cst τ n t set kd i c g)) ∧ cst τ n t set kd i c g ≤ 1000000 ∧ (goN τ n t set i c g = true → prN τ t kd i c g ≤ 99) := by
  have h7 := cd7 hB th1 (Wt τ t) (2 * i + c) g
  rcases hT.2.2.2.2.1 (2 * i + c) (by omega) with e | ⟨w, hw, e⟩
  · have z : goN τ n t set i c g = false := by unfold goN gs cdN; rw [if_pos e]; rfl
    unfold fX1_costOfWork cst
    rw [if_pos (show Wt τ t (2 * i + c) = (-1 : Int32) from e), z]
    exact ⟨rfl, Nat.le_refl _, fun q => by cases q⟩
  · have n1 : ¬ nI w = (-1 : Int32) := fun q => (nI_nm1 (show w < 2 ^ 31 by omega)).mp q
    obtain ⟨p, p1, p2⟩ := pr_ok hP (kd := kd) hg hw
    have ep : prN τ t kd i c g = p := by unfold prN; rw [e, nI_clamp (by omega), p2, nI_clamp (by omega)]
    have hOW : fX4_ofWork σ (nI g) (nI w) (nI kd) = some (prc τ kd g w) := (ofWork_e (k := kd) hP hg hw).elim id (fun q => by omega)
    unfold fX1_costOfWork fX1_costOfWork_L18
    rw [e, if_neg n1, handsFor_e hB hg hw, ← cdW (σ := σ) (W := Wt τ t) hw e, o1_s, hOW, p2, o1_s]
    have key := hdgs _ (show cdN (cM τ) n th1 (Wt τ t) (2 * i + c) g < 8 by omega) g hg set hset
    unfold cst
    rw [ep]
    have eg : goN τ n t set i c g = gs set (cdN (cM τ) n th1 (Wt τ t) (2 * i + c) g) g := rfl
    rw [eg]
    cases hgs : gs set (cdN (cM τ) n th1 (Wt τ t) (2 * i + c) g) g
    · rw [hgs] at key
      have q := of_decide_eq_true (show decide (hdV (cdN (cM τ) n th1 (Wt τ t) (2 * i + c) g) g = 0 ∨ ¬ (hdV (cdN (cM τ) n th1 (Wt τ t) (2 * i + c) g) g &&& (nI set ^^^ (-1 : Int32)) = 0)) = true from key)
      refine ⟨?_, Nat.le_refl _, fun q => by cases q⟩
      by_cases h0 : hdV (cdN (cM τ) n th1 (Wt τ t) (2 * i + c) g) g = 0
      · rw [if_pos h0]; rfl
      · rw [if_neg h0, if_neg (q.resolve_left h0)]; rfl
    · rw [hgs] at key
      have q := of_decide_eq_false (show decide (hdV (cdN (cM τ) n th1 (Wt τ t) (2 * i + c) g) g = 0 ∨ ¬ (hdV (cdN (cM τ) n th1 (Wt τ t) (2 * i + c) g) g &&& (nI set ^^^ (-1 : Int32)) = 0)) = false from key)
      rw [if_neg (fun z => q (Or.inl z)), if_pos (Classical.not_not.mp (fun z => q (Or.inr z)))]
      exact ⟨rfl, by simp only [if_true]; omega, fun _ => p1⟩
theorem css_X {σ τ : St} {n t s set kd i g : Nat} (hB : BInv σ τ n) (hP : PInv σ τ) (hT : Th σ τ t s) (hi : i < s) (hg : g < 6) (hset : set < 64) (hk : kd < 2) : fX1_costOfStep σ t (nI i) (nI g) (nI set) (nI kd) = some (nI (css τ n t set kd i g)) ∧ css τ n t set kd i g ≤ 1000000 := by
  obtain ⟨a1, a2, -⟩ := cst_X hB hP hT hi (show 0 < 2 by omega) hg hset hk
  obtain ⟨b1, b2, -⟩ := cst_X hB hP hT hi (show 1 < 2 by omega) hg hset hk
  unfold fX1_costOfStep
  rw [l_0, l_1, workAt_e hT hi (show 0 < 2 by omega) rfl, workAt_e hT hi (show 1 < 2 by omega) rfl, o1_s, a1, o1_s, o1_s, b1, o1_s, mi_e (by omega) (by omega)]
  refine ⟨rfl, ?_⟩
  unfold css; omega
/-- the class's numbers: j steps from the end, if that step is by guild g -/
def oJ (cs : Nat → Nat → Nat) (cr s : Nat) : Nat → Nat → Nat
  | 0 => fun _ => 0
  | j + 1 => fun g => min 1000000 (cs (s - (j + 1)) g + min (oJ cs cr s j g) (mn (oJ cs cr s j) 6 + cr))
theorem oJ_le {cs : Nat → Nat → Nat} {cr s : Nat} : ∀ {j g : Nat}, oJ cs cr s j g ≤ 1000000
  | 0, _ => Nat.zero_le _
  | j + 1, g => by rw [oJ]; exact Nat.min_le_left _ _
/-- the least of the steps behind: 0 where there is none -/
def lJ (cs : Nat → Nat → Nat) (cr s j : Nat) : Nat := mn (oJ cs cr s j) 6
theorem lJ_0 {cs : Nat → Nat → Nat} {cr s : Nat} : lJ cs cr s 0 = 0 := by unfold lJ; simp [mn, oJ]
theorem reckon_e {σ τ : St} {n t s set kd : Nat} (hB : BInv σ τ n) (hP : PInv σ τ) (hT : Th σ τ t s) (hset : set < 64) (hk : kd < 2) : ∃ σ' : St, fX1_reckon σ t (nI set) (nI kd) = some (nI (lJ (css τ n t set kd) (crN τ kd) s s), σ') ∧ scX σ σ' ∧ ∀ j, j ≤ s → ∀ g, g < 6 → σ' 19 (6 * (s - j) + g) = nI (oJ (css τ n t set kd) (crN τ kd) s j g) := by
  have hs8 := hT.2.1
  obtain ⟨cr, cr1, cr2, cr3⟩ := cr_ok hP kd
  have inner : ∀ (k29 : St → Int32 → Int32 → Int32 → Int32 → Int32 → Option (Int32 × St)) (j : Nat), j < s → ∀ (m f g : Nat) (u : St), g + m = 6 → m < f → scX σ u → (∀ j', j' ≤ j → ∀ g', g' < 6 → u 19 (6 * (s - j') + g') = nI (oJ (css τ n t set kd) (crN τ kd) s j' g')) → (∀ g', g' < g → u 19 (6 * (s - (j + 1)) + g') = nI (oJ (css τ n t set kd) (crN τ kd) s (j + 1) g')) → ∃ u' : St, fX1_reckon_L41 t k29 f u (nI set) (nI kd) (nI cr) (nI (lJ (css τ n t set kd) (crN τ kd) s j)) (nI (s - (j + 1))) (nI (mn (oJ (css τ n t set kd) (crN τ kd) s (j + 1)) g)) (nI g) = k29 u' (nI set) (nI kd) (nI cr) (nI (lJ (css τ n t set kd) (crN τ kd) s (j + 1))) (nI (s - (j + 1)) + (-1)) ∧ scX σ u' ∧ ∀ j', j' ≤ j + 1 → ∀ g', g' < 6 → u' 19 (6 * (s - j') + g') = nI (oJ (css τ n t set kd) (crN τ kd) s j' g') := by
    intro k29 j hj m
    induction m with
    | zero =>
      intro f g u hg hf hu h1 h2
      obtain ⟨f, rfl⟩ : ∃ f', f = f' + 1 := ⟨f - 1, by omega⟩
      have : g = 6 := by omega
      subst this
      rw [fX1_reckon_L41]
      dsimp only
      rw [if_pos (by decide)]
      refine ⟨u, rfl, hu, fun j' hj' g' hg' => ?_⟩
      by_cases e : j' = j + 1
      · subst e; exact h2 g' hg'
      · exact h1 j' (by omega) g' hg'
    | succ m ih =>
      intro f g u hg hf hu h1 h2
      obtain ⟨f, rfl⟩ : ∃ f', f = f' + 1 := ⟨f - 1, by omega⟩
      have hg6 : g < 6 := by omega
      have hBu : BInv u τ n := B_sc hB hu (scM_rf τ)
      have hPu : PInv u τ := P_cg hP (hu 17 (by decide) (by decide) (by decide)) (hu 18 (by decide) (by decide) (by decide)) (by rw [hu 4 (by decide) (by decide) (by decide)]) rfl rfl rfl
      have hTu : Th u τ t s := by
        obtain ⟨q1, q2, q3, q4, q5, q6, q7⟩ := hT
        exact ⟨q1, q2, by rw [hu (23 + t) (by omega) (by omega) (by omega)]; exact q3, q4, q5, by rw [hu (29 + t) (by omega) (by omega) (by omega)]; exact q6, q7⟩
      obtain ⟨c1, c2⟩ := css_X hBu hPu hTu (show s - (j + 1) < s by omega) hg6 hset hk
      rw [fX1_reckon_L41]
      dsimp only
      have i1 : 6 * (s - j) + g = (s - (j + 1)) * 6 + g + 6 := by omega
      have hb := h1 j (Nat.le_refl j) g hg6
      rw [i1] at hb
      have l1 : lJ (css τ n t set kd) (crN τ kd) s j ≤ 1000000 := mn_inf
      have o1' : oJ (css τ n t set kd) (crN τ kd) s j g ≤ 1000000 := oJ_le
      rw [if_neg (show ¬ (6 : Int32) ≤ nI g from nI_ge (b := 6) (by omega) (by omega)), l_6, pk_mul, nI_add]
      dsimp only [bd]
      rw [nI_add, ald_e (by omega) (by decide), hb, nI_add, mi_e (by omega) (by omega), c1, o1_s, nI_add, show (1000000 : Int32) = nI 1000000 from rfl, mi_e (by omega) (by omega), asr_e (by omega) (by decide), ald_e (by omega) (by decide), wr_js]
      have e2 : min 1000000 (css τ n t set kd (s - (j + 1)) g + min (oJ (css τ n t set kd) (crN τ kd) s j g) (lJ (css τ n t set kd) (crN τ kd) s j + cr)) = oJ (css τ n t set kd) (crN τ kd) s (j + 1) g := by
        rw [oJ, cr3]; rfl
      have o2' : oJ (css τ n t set kd) (crN τ kd) s (j + 1) g ≤ 1000000 := oJ_le
      have m1 : mn (oJ (css τ n t set kd) (crN τ kd) s (j + 1)) g ≤ 1000000 := mn_inf
      rw [e2, mi_e (by omega) (by omega), nI_1]
      have i2 : (s - (j + 1)) * 6 + g = 6 * (s - (j + 1)) + g := by omega
      rw [i2]
      refine ih f (g + 1) _ (by omega) (by omega) (scX_tr hu (scX_q (Or.inr (Or.inr rfl)))) (fun j' hj' g' hg' => ?_) (fun g' hg' => ?_)
      · rw [wr_jn (by omega)]; exact h1 j' hj' g' hg'
      · by_cases e : g' = g
        · subst e; rw [wr_js]
        · rw [wr_jn (by omega)]; exact h2 g' (by omega)
  have outer : ∀ (m f j : Nat) (u : St), j + m = s → m < f → scX σ u → (∀ j', j' ≤ j → ∀ g', g' < 6 → u 19 (6 * (s - j') + g') = nI (oJ (css τ n t set kd) (crN τ kd) s j' g')) → ∃ u' : St, fX1_reckon_L29 t f u (nI set) (nI kd) (nI cr) (nI (lJ (css τ n t set kd) (crN τ kd) s j)) (nI (s - j) - 1) = some (nI (lJ (css τ n t set kd) (crN τ kd) s s), u') ∧ scX σ u' ∧ ∀ j', j' ≤ s → ∀ g', g' < 6 → u' 19 (6 * (s - j') + g') = nI (oJ (css τ n t set kd) (crN τ kd) s j' g') := by
    intro m
    induction m with
    | zero =>
      intro f j u hj hf hu h1
      obtain ⟨f, rfl⟩ : ∃ f', f = f' + 1 := ⟨f - 1, by omega⟩
      have : j = s := by omega
      subst this
      rw [fX1_reckon_L29]
      dsimp only
      rw [Nat.sub_self, if_pos (by decide)]
      exact ⟨u, rfl, hu, h1⟩
    | succ m ih =>
      intro f j u hj hf hu h1
      obtain ⟨f, rfl⟩ : ∃ f', f = f' + 1 := ⟨f - 1, by omega⟩
      rw [fX1_reckon_L29]
      dsimp only
      rw [show nI (s - j) - (1 : Int32) = nI (s - (j + 1)) from by rw [l_1, pk_sub (by omega)]; congr 1, if_neg (nI_pos (by omega))]
      obtain ⟨u', a1, a2, a3⟩ := inner (fX1_reckon_L29 t f) j (by omega) 6 2000 0 u (by omega) (by omega) hu h1 (fun g' hg' => absurd hg' (Nat.not_lt_zero g'))
      rw [show nI 0 = (0 : Int32) from rfl, show nI (mn (oJ (css τ n t set kd) (crN τ kd) s (j + 1)) 0) = (1000000 : Int32) from rfl] at a1
      rw [a1]
      have e : nI (s - (j + 1)) + (-1 : Int32) = nI (s - (j + 1)) - 1 := by rw [Int32.sub_eq_add_neg]
      rw [e]
      exact ih f (j + 1) u' (by omega) (by omega) a2 a3
  unfold fX1_reckon
  rw [ofCarry_e hP (by omega), cr2, o1_s]
  dsimp only [bd]
  rw [up_ne (show 23 + t ≠ 19 by omega), hT.2.2.1]
  have := outer s 2000 0 (st_up σ 19 (fl σ 19 54 0)) (by omega) (by omega) (scX_u (Or.inr (Or.inr rfl))) (fun j' hj' g' hg' => by
    have : j' = 0 := by omega
    subst this
    rw [up_at, Nat.sub_zero]
    unfold fl
    rw [if_pos (by omega)]
    rfl)
  rw [lJ_0, Nat.sub_zero] at this
  exact this
/-- the reference's numbers: j steps from the end, behind guild ah (6: none) -/
def mvN (cr ah g : Nat) : Nat := if ah = 6 ∨ ah = g then 0 else cr
def mJ (go : Nat → Nat → Nat → Bool) (pr : Nat → Nat → Nat → Nat) (cr s : Nat) : Nat → Nat → Nat
  | 0 => fun _ => 0
  | j + 1 => fun ah => lm (fun k => go (s - (j + 1)) (k / 6) (k % 6)) (fun k => pr (s - (j + 1)) (k / 6) (k % 6) + mvN cr ah (k % 6) + mJ go pr cr s j (k % 6)) 12
theorem mJ_le {go : Nat → Nat → Nat → Bool} {pr : Nat → Nat → Nat → Nat} {cr s : Nat} : ∀ {j ah : Nat}, mJ go pr cr s j ah ≤ 268435456
  | 0, _ => Nat.zero_le _
  | j + 1, ah => by rw [mJ]; exact lm_far
theorem lsd : ∀ a b : Nat, a < 2 ^ 31 → b < 2 ^ 31 → (nI a ≤ nI b ↔ a ≤ b) := fun a b ha hb => nI_leI ha hb
theorem rest_e {σ τ v : St} {n t s set kd : Nat} (hB : BInv σ τ n) (hP : PInv σ τ) (hT : Th σ τ t s) (hv : Laid τ v n t s th1) (hset : set < 64) (hk : kd < 2) : ∃ v' : St, fX8_layRest v (nI set) (nI kd) = some v' ∧ (∀ q, q ≠ 15 → v' q = v q) ∧ ∀ j, j ≤ s → ∀ ah, ah < 7 → v' 15 (7 * (s - j) + ah) = nI (mJ (goN τ n t set) (prN τ t kd) (crN τ kd) s j ah) := by
  have hs8 := hT.2.1
  obtain ⟨cr, cr1, cr2, cr3⟩ := cr_ok hP kd
  have laid : ∀ u : St, (∀ q, q ≠ 15 → u q = v q) → Laid τ u n t s th1 := by
    intro u hu
    obtain ⟨v1, v2, v3, v4, v5⟩ := hv
    refine ⟨⟨by rw [hu 0 (by decide)]; exact v1.1, fun k k1 k2 k3 => (hu k (by omega)).trans (v1.2 k k1 k2 k3)⟩, ?_, by rw [hu 0 (by decide)]; exact v3, by rw [hu 13 (by decide)]; exact v4, by rw [hu 14 (by decide)]; exact v5⟩
    intro b hb
    rw [thM_cg (hu 0 (by decide))]; exact v2 b hb
  -- the twelve of one step
  have l57 : ∀ (k36 : St → Int32 → Int32 → Int32 → Option St) (k43 : St → Int32 → Int32 → Int32 → Int32 → Option St) (u : St), (∀ q, q ≠ 15 → u q = v q) → ∀ (j ah : Nat), j < s → ah < 7 → (∀ g', g' < 6 → u 15 (7 * (s - j) + g') = nI (mJ (goN τ n t set) (prN τ t kd) (crN τ kd) s j g')) → ∀ (m f k : Nat), k + m = 12 → m < f → fX8_layRest_L57 k36 k43 f u (nI set) (nI kd) (nI (s - (j + 1))) (nI ah) (nI (lm (fun k => goN τ n t set (s - (j + 1)) (k / 6) (k % 6)) (fun k => prN τ t kd (s - (j + 1)) (k / 6) (k % 6) + mvN cr ah (k % 6) + mJ (goN τ n t set) (prN τ t kd) (crN τ kd) s j (k % 6)) k)) (nI k) = fX8_layRest_L153 k36 k43 u (nI set) (nI kd) (nI (s - (j + 1))) (nI ah) (nI (mJ (goN τ n t set) (prN τ t kd) (crN τ kd) s (j + 1) ah)) := by
    intro k36 k43 u hu j ah hj hah h15 m
    have hLu := laid u hu
    induction m with
    | zero =>
      intro f k hk' hf
      obtain ⟨f, rfl⟩ : ∃ f', f = f' + 1 := ⟨f - 1, by omega⟩
      have : k = 12 := by omega
      subst this
      rw [fX8_layRest_L57]
      dsimp only
      rw [if_pos (by decide), mJ, cr3]
    | succ m ih =>
      intro f k hk' hf
      obtain ⟨f, rfl⟩ : ∃ f', f = f' + 1 := ⟨f - 1, by omega⟩
      rw [fX8_layRest_L57]
      dsimp only
      have ed : nI k / (6 : Int32) = nI (k / 6) := by rw [l_6, pk_div (by omega) (by omega) (by omega)]
      have er : nI k - nI k / (6 : Int32) * (6 : Int32) = nI (k % 6) := by rw [l_6]; exact pk_rem (by omega) (by omega) (by omega)
      have hcode : u 14 (12 * (s - (j + 1)) + 6 * (k / 6) + k % 6) = nI (cdN (cM τ) n th1 (Wt τ t) (2 * (s - (j + 1)) + k / 6) (k % 6)) := by
        rw [hLu.2.2.2.2 _ (by omega), show (12 * (s - (j + 1)) + 6 * (k / 6) + k % 6) / 6 = 2 * (s - (j + 1)) + k / 6 by omega, show (12 * (s - (j + 1)) + 6 * (k / 6) + k % 6) % 6 = k % 6 by omega]
      rw [if_neg (show ¬ (12 : Int32) ≤ nI k from nI_ge (b := 12) (by omega) (by omega)), er, ed]
      dsimp only [bd]
      rw [goes_e (by omega) (by omega) (by omega) (cd7 hB th1 _ _ _) hset hcode, gt_c]
      have nx := ih f (k + 1) (by omega) (by omega)
      rw [lm] at nx
      have eg : gs set (cdN (cM τ) n th1 (Wt τ t) (2 * (s - (j + 1)) + k / 6) (k % 6)) (k % 6) = goN τ n t set (s - (j + 1)) (k / 6) (k % 6) := rfl
      rw [eg]
      cases hgo : goN τ n t set (s - (j + 1)) (k / 6) (k % 6)
      · rw [hgo] at nx
        simp only [Bool.not_false, Bool.not_true, if_true, if_false, Bool.false_eq_true, ↓reduceIte] at nx ⊢
        unfold fX8_layRest_L147
        dsimp only [bd]
        rw [nI_1]
        exact nx
      · rw [hgo] at nx
        simp only [Bool.not_false, Bool.not_true, if_true, if_false, Bool.false_eq_true, ↓reduceIte] at nx ⊢
        obtain ⟨w, hw, ew⟩ := goW hT.2.2.2.2.1 (show s - (j + 1) < s by omega) (show k / 6 < 2 by omega) hgo
        obtain ⟨p, p1, p2⟩ := pr_ok hP (kd := kd) (show k % 6 < 6 by omega) hw
        have ep : prN τ t kd (s - (j + 1)) (k / 6) (k % 6) = p := by unfold prN; rw [ew, nI_clamp (by omega), p2, nI_clamp (by omega)]
        have mj : mJ (goN τ n t set) (prN τ t kd) (crN τ kd) s j (k % 6) ≤ 268435456 := mJ_le
        have ml := lm_far (ok := fun k => goN τ n t set (s - (j + 1)) (k / 6) (k % 6)) (f := fun k => prN τ t kd (s - (j + 1)) (k / 6) (k % 6) + mvN cr ah (k % 6) + mJ (goN τ n t set) (prN τ t kd) (crN τ kd) s j (k % 6)) (m := k)
        have key : ∀ a : Int32, (if a = M1 ∨ a = nI (k % 6) then (0 : Int32) else car τ kd) = nI (mvN cr ah (k % 6)) → fX8_layRest_L109 k36 k43 (fX8_layRest_L57 k36 k43 f) u (nI set) (nI kd) (nI (s - (j + 1))) (nI ah) (nI (lm (fun k => goN τ n t set (s - (j + 1)) (k / 6) (k % 6)) (fun k => prN τ t kd (s - (j + 1)) (k / 6) (k % 6) + mvN cr ah (k % 6) + mJ (goN τ n t set) (prN τ t kd) (crN τ kd) s j (k % 6)) k)) (nI k) (nI (k % 6)) a (nI (k % 6)) (nI (k / 6)) (nI (s - (j + 1))) = fX8_layRest_L153 k36 k43 u (nI set) (nI kd) (nI (s - (j + 1))) (nI ah) (nI (mJ (goN τ n t set) (prN τ t kd) (crN τ kd) s (j + 1) ah)) := by
          intro a ha
          unfold fX8_layRest_L109 fX8_layRest_L145 fX8_layRest_L147
          rw [stepCost_e a hLu hs8 (show s - (j + 1) < s by omega) (show k / 6 < 2 by omega) (show k % 6 < 6 by omega) hw hk ew, ha, p2, o1_s, nI_add, l_7, pk_mul, nI_add, nI_add, ald_e (by omega) (by decide), show 7 * (s - (j + 1)) + 7 + k % 6 = 7 * (s - j) + k % 6 by omega, h15 (k % 6) (by omega)]
          dsimp only [bd]
          rw [nI_add, nI_1]
          have mv9 : mvN cr ah (k % 6) ≤ 99 := by
            unfold mvN
            by_cases z : ah = 6 ∨ ah = k % 6
            · rw [if_pos z]; omega
            · rw [if_neg z]; omega
          rw [ep] at nx
          by_cases c : lm (fun k => goN τ n t set (s - (j + 1)) (k / 6) (k % 6)) (fun k => prN τ t kd (s - (j + 1)) (k / 6) (k % 6) + mvN cr ah (k % 6) + mJ (goN τ n t set) (prN τ t kd) (crN τ kd) s j (k % 6)) k ≤ p + mvN cr ah (k % 6) + mJ (goN τ n t set) (prN τ t kd) (crN τ kd) s j (k % 6)
          · rw [if_pos ((lsd _ _ (by omega) (by omega)).mpr c)]
            rw [Nat.min_eq_left c] at nx
            exact nx
          · rw [if_neg (fun q => c ((lsd _ _ (by omega) (by omega)).mp q))]
            rw [Nat.min_eq_right (by omega)] at nx
            exact nx
        by_cases h6 : ah = 6
        · subst h6
          rw [if_pos (by decide)]
          exact key (-1) (by rw [if_pos (show (-1 : Int32) = M1 ∨ (-1 : Int32) = nI (k % 6) from Or.inl rfl)]; unfold mvN; rw [if_pos (Or.inl rfl)]; rfl)
        · rw [if_neg (show ¬ nI ah = (6 : Int32) from by rw [l_6, nI_eq (by omega) (by omega)]; exact h6)]
          refine key (nI ah) ?_
          unfold mvN
          by_cases z : ah = k % 6
          · rw [if_pos (Or.inr (by rw [z])), if_pos (Or.inr z)]; rfl
          · rw [if_neg (fun q => q.elim (fun q => (nI_nm1 (show ah < 2 ^ 31 by omega)).mp q) (fun q => z ((nI_eq (by omega) (by omega)).mp q))), if_neg (fun q => q.elim h6 z)]
            exact cr2
  have l43 : ∀ (k36 : St → Int32 → Int32 → Int32 → Option St) (j : Nat), j < s → ∀ (m f ah : Nat) (u : St), ah + m = 7 → m < f → (∀ q, q ≠ 15 → u q = v q) → (∀ j', j' ≤ j → ∀ a', a' < 7 → u 15 (7 * (s - j') + a') = nI (mJ (goN τ n t set) (prN τ t kd) (crN τ kd) s j' a')) → (∀ a', a' < ah → u 15 (7 * (s - (j + 1)) + a') = nI (mJ (goN τ n t set) (prN τ t kd) (crN τ kd) s (j + 1) a')) → ∃ u' : St, fX8_layRest_L43 k36 f u (nI set) (nI kd) (nI (s - (j + 1))) (nI ah) = k36 u' (nI set) (nI kd) (nI (s - (j + 1)) + (-1)) ∧ (∀ q, q ≠ 15 → u' q = v q) ∧ ∀ j', j' ≤ j + 1 → ∀ a', a' < 7 → u' 15 (7 * (s - j') + a') = nI (mJ (goN τ n t set) (prN τ t kd) (crN τ kd) s j' a') := by
    intro k36 j hj m
    induction m with
    | zero =>
      intro f ah u hah hf hu h1 h2
      obtain ⟨f, rfl⟩ : ∃ f', f = f' + 1 := ⟨f - 1, by omega⟩
      have : ah = 7 := by omega
      subst this
      rw [fX8_layRest_L43]
      dsimp only
      rw [if_pos (by decide)]
      refine ⟨u, rfl, hu, fun j' hj' a' ha' => ?_⟩
      by_cases e : j' = j + 1
      · subst e; exact h2 a' ha'
      · exact h1 j' (by omega) a' ha'
    | succ m ih =>
      intro f ah u hah hf hu h1 h2
      obtain ⟨f, rfl⟩ : ∃ f', f = f' + 1 := ⟨f - 1, by omega⟩
      rw [fX8_layRest_L43]
      dsimp only
      rw [if_neg (show ¬ (7 : Int32) ≤ nI ah from nI_ge (b := 7) (by omega) (by omega))]
      have := l57 k36 (fX8_layRest_L43 k36 f) u hu j ah hj (by omega) (fun g' hg' => h1 j (Nat.le_refl j) g' (by omega)) 12 2000 0 (by omega) (by omega)
      rw [show nI 0 = (0 : Int32) from rfl] at this
      rw [show (268435456 : Int32) = nI (lm (fun k => goN τ n t set (s - (j + 1)) (k / 6) (k % 6)) (fun k => prN τ t kd (s - (j + 1)) (k / 6) (k % 6) + mvN cr ah (k % 6) + mJ (goN τ n t set) (prN τ t kd) (crN τ kd) s j (k % 6)) 0) from rfl, this]
      unfold fX8_layRest_L153
      rw [l_7, pk_mul, nI_add, asr_e (by omega) (by decide)]
      dsimp only [bd]
      rw [nI_1]
      refine ih f (ah + 1) _ (by omega) (by omega) (fun q hq => by rw [wr_ne hq]; exact hu q hq) (fun j' hj' a' ha' => ?_) (fun a' ha' => ?_)
      · rw [wr_jn (by omega)]; exact h1 j' hj' a' ha'
      · by_cases e : a' = ah
        · subst e; rw [wr_js]
        · rw [wr_jn (by omega)]; exact h2 a' (by omega)
  have l36 : ∀ (m f j : Nat) (u : St), j + m = s → m < f → (∀ q, q ≠ 15 → u q = v q) → (∀ j', j' ≤ j → ∀ a', a' < 7 → u 15 (7 * (s - j') + a') = nI (mJ (goN τ n t set) (prN τ t kd) (crN τ kd) s j' a')) → ∃ u' : St, fX8_layRest_L36 f u (nI set) (nI kd) (nI (s - j) - 1) = some u' ∧ (∀ q, q ≠ 15 → u' q = v q) ∧ ∀ j', j' ≤ s → ∀ a', a' < 7 → u' 15 (7 * (s - j') + a') = nI (mJ (goN τ n t set) (prN τ t kd) (crN τ kd) s j' a') := by
    intro m
    induction m with
    | zero =>
      intro f j u hj hf hu h1
      obtain ⟨f, rfl⟩ : ∃ f', f = f' + 1 := ⟨f - 1, by omega⟩
      have : j = s := by omega
      subst this
      rw [fX8_layRest_L36]
      dsimp only
      rw [Nat.sub_self, if_pos (by decide)]
      exact ⟨u, rfl, hu, h1⟩
    | succ m ih =>
      intro f j u hj hf hu h1
      obtain ⟨f, rfl⟩ : ∃ f', f = f' + 1 := ⟨f - 1, by omega⟩
      rw [fX8_layRest_L36]
      dsimp only
      rw [show nI (s - j) - (1 : Int32) = nI (s - (j + 1)) from by rw [l_1, pk_sub (by omega)]; congr 1, if_neg (nI_pos (by omega))]
      obtain ⟨u', a1, a2, a3⟩ := l43 (fX8_layRest_L36 f) j (by omega) 7 2000 0 u (by omega) (by omega) hu h1 (fun a' ha' => absurd ha' (Nat.not_lt_zero a'))
      rw [show nI 0 = (0 : Int32) from rfl] at a1
      rw [a1]
      have e : nI (s - (j + 1)) + (-1 : Int32) = nI (s - (j + 1)) - 1 := by rw [Int32.sub_eq_add_neg]
      rw [e]
      exact ih f (j + 1) u' (by omega) (by omega) a2 a3
  have l2 : ∀ (m f k : Nat) (u : St), k + m = 7 → m < f → (∀ q, q ≠ 15 → u q = v q) → (∀ a', a' < k → u 15 (7 * s + a') = 0) → ∃ u' : St, fX8_layRest_L2 f u (nI set) (nI kd) (nI k) = some u' ∧ (∀ q, q ≠ 15 → u' q = v q) ∧ ∀ j', j' ≤ s → ∀ a', a' < 7 → u' 15 (7 * (s - j') + a') = nI (mJ (goN τ n t set) (prN τ t kd) (crN τ kd) s j' a') := by
    intro m
    induction m with
    | zero =>
      intro f k u hk' hf hu h1
      obtain ⟨f, rfl⟩ : ∃ f', f = f' + 1 := ⟨f - 1, by omega⟩
      have : k = 7 := by omega
      subst this
      rw [fX8_layRest_L2]
      dsimp only
      rw [if_pos (by decide)]
      unfold fX8_layRest_L29
      dsimp only [bd]
      rw [hu 0 (by decide), hv.2.2.1]
      have := l36 s 2000 0 u (by omega) (by omega) hu (fun j' hj' a' ha' => by
        have : j' = 0 := by omega
        subst this
        rw [Nat.sub_zero, h1 a' ha']; rfl)
      rw [Nat.sub_zero] at this
      exact this
    | succ m ih =>
      intro f k u hk' hf hu h1
      obtain ⟨f, rfl⟩ : ∃ f', f = f' + 1 := ⟨f - 1, by omega⟩
      rw [fX8_layRest_L2]
      dsimp only
      rw [if_neg (show ¬ (7 : Int32) ≤ nI k from nI_ge (b := 7) (by omega) (by omega)), hu 0 (by decide), hv.2.2.1, l_7, pk_mul, nI_add, asr_e (by omega) (by decide)]
      dsimp only [bd]
      rw [nI_1]
      refine ih f (k + 1) _ (by omega) (by omega) (fun q hq => by rw [wr_ne hq]; exact hu q hq) (fun a' ha' => ?_)
      by_cases e : a' = k
      · subst e; rw [wr_js]
      · rw [wr_jn (by omega)]; exact h1 a' (by omega)
  exact l2 7 2000 0 v (by omega) (by omega) (fun _ _ => rfl) (fun a' ha' => absurd ha' (Nat.not_lt_zero a'))
/-! ===== both reckon alike ===== -/
/-- the reference's m is the least of the class's o with carrying -/
def rel (cr : Nat) (m o : Nat → Nat) : Prop := ∀ ah, ah < 7 → (m ah = 268435456 ∧ ∀ g, g < 6 → o g = 1000000) ∨ (m ah < 268435456 ∧ (∃ g, g < 6 ∧ o g < 1000000 ∧ m ah = o g + mvN cr ah g) ∧ ∀ g, g < 6 → o g < 1000000 → m ah ≤ o g + mvN cr ah g)
/-- what the class reckons behind a step of guild g is what the reference does -/
theorem behind_e {cr : Nat} {m o : Nat → Nat} (hcr : cr ≤ 99) (ho : ∀ g, g < 6 → o g ≤ 1000000) (hob : ∀ g, g < 6 → o g < 1000000 → o g ≤ 2000) (h : rel cr m o) {g : Nat} (hg : g < 6) : (m g = 268435456 ∧ min (o g) (mn o 6 + cr) = 1000000) ∨ (m g < 268435456 ∧ min (o g) (mn o 6 + cr) = m g) := by
  rcases h g (by omega) with ⟨h1, h2⟩ | ⟨h1, ⟨k, hk, h2, h3⟩, h4⟩
  · left
    refine ⟨h1, ?_⟩
    have e1 := h2 g hg
    have e2 : mn o 6 = 1000000 := by
      rcases mn_at (f := o) (m := 6) with q | ⟨g', hg', q⟩
      · exact q
      · rw [q, h2 g' hg']
    omega
  · right
    refine ⟨h1, ?_⟩
    have a1 : mn o 6 ≤ o k := mn_le hk
    have mv : ∀ g', mvN cr g g' = if g = g' then 0 else cr := fun g' => by
      unfold mvN
      by_cases z : g = g'
      · rw [if_pos (Or.inr z), if_pos z]
      · rw [if_neg (fun q => q.elim (by omega) z), if_neg z]
    rw [mv] at h3
    have up : m g ≤ min (o g) (mn o 6 + cr) := by
      have b1 : m g ≤ o g := by
        by_cases z : o g < 1000000
        · have := h4 g hg z
          rw [mv, if_pos rfl] at this; omega
        · have e := ho g hg
          have : m g = o k + (if g = k then 0 else cr) := h3
          by_cases zz : g = k
          · subst zz; omega
          · rw [if_neg zz] at this
            have := hob k hk h2
            omega
      have b2 : m g ≤ mn o 6 + cr := by
        rcases mn_at (f := o) (m := 6) with q | ⟨g', hg', q⟩
        · have e := hob k hk h2
          have : m g = o k + (if g = k then 0 else cr) := h3
          by_cases zz : g = k
          · rw [if_pos zz] at this; omega
          · rw [if_neg zz] at this; omega
        · rw [q]
          by_cases z : o g' < 1000000
          · have := h4 g' hg' z
            rw [mv] at this
            by_cases zz : g = g'
            · rw [if_pos zz] at this; omega
            · rw [if_neg zz] at this; omega
          · omega
      omega
    have lo : min (o g) (mn o 6 + cr) ≤ m g := by
      by_cases zz : g = k
      · subst zz; rw [if_pos rfl] at h3; omega
      · rw [if_neg zz] at h3; omega
    omega
theorem mvN_le {cr ah g : Nat} (h : cr ≤ 99) : mvN cr ah g ≤ 99 := by
  unfold mvN
  by_cases z : ah = 6 ∨ ah = g
  · rw [if_pos z]; omega
  · rw [if_neg z]; exact h
theorem rel_all {σ τ : St} {n t s set kd : Nat} (hB : BInv σ τ n) (hP : PInv σ τ) (hT : Th σ τ t s) (hset : set < 64) (hk : kd < 2) : ∀ j, j ≤ s → rel (crN τ kd) (mJ (goN τ n t set) (prN τ t kd) (crN τ kd) s j) (oJ (css τ n t set kd) (crN τ kd) s j) ∧ (∀ ah, ah < 7 → mJ (goN τ n t set) (prN τ t kd) (crN τ kd) s j ah < 268435456 → mJ (goN τ n t set) (prN τ t kd) (crN τ kd) s j ah ≤ 198 * j) ∧ (∀ g, g < 6 → oJ (css τ n t set kd) (crN τ kd) s j g < 1000000 → oJ (css τ n t set kd) (crN τ kd) s j g ≤ 198 * j) := by
  have hs8 := hT.2.1
  obtain ⟨cr, cr1, -, cr3⟩ := cr_ok hP kd
  rw [cr3]
  intro j
  induction j with
  | zero =>
    intro _
    refine ⟨fun ah hah => Or.inr ⟨(by show (0 : Nat) < 268435456; decide), ⟨if ah = 6 then 0 else ah, ?_, ?_, ?_⟩, fun g hg _ => Nat.zero_le _⟩, fun ah _ _ => Nat.zero_le _, fun g _ _ => Nat.zero_le _⟩
    · by_cases z : ah = 6
      · rw [if_pos z]; omega
      · rw [if_neg z]; omega
    · show (0 : Nat) < 1000000; decide
    · show 0 = 0 + _
      unfold mvN
      by_cases z : ah = 6
      · rw [if_pos (Or.inl z)]
      · rw [if_neg z, if_pos (Or.inr rfl)]
  | succ j ih =>
    intro hj
    obtain ⟨ih, ihb, iho⟩ := ih (by omega)
    have hob : ∀ g, g < 6 → oJ (css τ n t set kd) cr s j g < 1000000 → oJ (css τ n t set kd) cr s j g ≤ 2000 := fun g hg q => by have := iho g hg q; omega
    have hoi : ∀ g, g < 6 → oJ (css τ n t set kd) cr s j g ≤ 1000000 := fun g _ => oJ_le
    have his : s - (j + 1) < s := by omega
    -- what a choice asks
    have cs1 : ∀ c g, c < 2 → g < 6 → goN τ n t set (s - (j + 1)) c g = true → prN τ t kd (s - (j + 1)) c g ≤ 99 ∧ css τ n t set kd (s - (j + 1)) g ≤ prN τ t kd (s - (j + 1)) c g := by
      intro c g hc hg hgo
      obtain ⟨-, -, p3⟩ := cst_X hB hP hT his hc hg hset hk
      refine ⟨p3 hgo, ?_⟩
      have : cst τ n t set kd (s - (j + 1)) c g = prN τ t kd (s - (j + 1)) c g := by unfold cst; rw [if_pos hgo]
      unfold css
      rcases (show c = 0 ∨ c = 1 by omega) with rfl | rfl <;> omega
    have cs2 : ∀ g, g < 6 → css τ n t set kd (s - (j + 1)) g < 1000000 → ∃ c, c < 2 ∧ goN τ n t set (s - (j + 1)) c g = true ∧ css τ n t set kd (s - (j + 1)) g = prN τ t kd (s - (j + 1)) c g := by
      intro g hg hlt
      unfold css at hlt ⊢
      by_cases z : cst τ n t set kd (s - (j + 1)) 0 g ≤ cst τ n t set kd (s - (j + 1)) 1 g
      · rw [Nat.min_eq_left z] at hlt ⊢
        refine ⟨0, by omega, ?_, ?_⟩
        · cases q : goN τ n t set (s - (j + 1)) 0 g
          · unfold cst at hlt; rw [q] at hlt; simp at hlt
          · rfl
        · cases q : goN τ n t set (s - (j + 1)) 0 g
          · unfold cst at hlt; rw [q] at hlt; simp at hlt
          · unfold cst; rw [q]; rfl
      · rw [Nat.min_eq_right (by omega)] at hlt ⊢
        refine ⟨1, by omega, ?_, ?_⟩
        · cases q : goN τ n t set (s - (j + 1)) 1 g
          · unfold cst at hlt; rw [q] at hlt; simp at hlt
          · rfl
        · cases q : goN τ n t set (s - (j + 1)) 1 g
          · unfold cst at hlt; rw [q] at hlt; simp at hlt
          · unfold cst; rw [q]; rfl
    have ho : ∀ g, g < 6 → oJ (css τ n t set kd) cr s (j + 1) g = min 1000000 (css τ n t set kd (s - (j + 1)) g + min (oJ (css τ n t set kd) cr s j g) (mn (oJ (css τ n t set kd) cr s j) 6 + cr)) := fun g _ => rfl
    -- the class's number of a guild that has a way, and the reference's
    have key : ∀ g, g < 6 → oJ (css τ n t set kd) cr s (j + 1) g < 1000000 → ∃ c, c < 2 ∧ goN τ n t set (s - (j + 1)) c g = true ∧ mJ (goN τ n t set) (prN τ t kd) cr s j g < 268435456 ∧ oJ (css τ n t set kd) cr s (j + 1) g = prN τ t kd (s - (j + 1)) c g + mJ (goN τ n t set) (prN τ t kd) cr s j g := by
      intro g hg hlt
      rw [ho g hg] at hlt
      have c1 : css τ n t set kd (s - (j + 1)) g < 1000000 := by omega
      obtain ⟨c, hc, hgo, e⟩ := cs2 g hg c1
      rcases behind_e cr1 hoi hob ih hg with ⟨b1, b2⟩ | ⟨b1, b2⟩
      · rw [b2] at hlt; omega
      · refine ⟨c, hc, hgo, b1, ?_⟩
        rw [ho g hg, b2, e]
        rw [b2, e] at hlt
        omega
    have key2 : ∀ c g, c < 2 → g < 6 → goN τ n t set (s - (j + 1)) c g = true → mJ (goN τ n t set) (prN τ t kd) cr s j g < 268435456 → oJ (css τ n t set kd) cr s (j + 1) g < 1000000 ∧ oJ (css τ n t set kd) cr s (j + 1) g ≤ prN τ t kd (s - (j + 1)) c g + mJ (goN τ n t set) (prN τ t kd) cr s j g := by
      intro c g hc hg hgo hm
      obtain ⟨p1, p2⟩ := cs1 c g hc hg hgo
      rcases behind_e cr1 hoi hob ih hg with ⟨b1, b2⟩ | ⟨b1, b2⟩
      · omega
      · have := ihb g (by omega) b1
        rw [ho g hg, b2]
        omega
    have body : ∀ ah, ah < 7 → ((mJ (goN τ n t set) (prN τ t kd) cr s (j + 1) ah = 268435456 ∧ ∀ g, g < 6 → oJ (css τ n t set kd) cr s (j + 1) g = 1000000) ∨ (mJ (goN τ n t set) (prN τ t kd) cr s (j + 1) ah < 268435456 ∧ (∃ g, g < 6 ∧ oJ (css τ n t set kd) cr s (j + 1) g < 1000000 ∧ mJ (goN τ n t set) (prN τ t kd) cr s (j + 1) ah = oJ (css τ n t set kd) cr s (j + 1) g + mvN cr ah g) ∧ ∀ g, g < 6 → oJ (css τ n t set kd) cr s (j + 1) g < 1000000 → mJ (goN τ n t set) (prN τ t kd) cr s (j + 1) ah ≤ oJ (css τ n t set kd) cr s (j + 1) g + mvN cr ah g)) ∧ (mJ (goN τ n t set) (prN τ t kd) cr s (j + 1) ah < 268435456 → mJ (goN τ n t set) (prN τ t kd) cr s (j + 1) ah ≤ 198 * (j + 1)) := by
      intro ah hah
      have em : mJ (goN τ n t set) (prN τ t kd) cr s (j + 1) ah = lm (fun k => goN τ n t set (s - (j + 1)) (k / 6) (k % 6)) (fun k => prN τ t kd (s - (j + 1)) (k / 6) (k % 6) + mvN cr ah (k % 6) + mJ (goN τ n t set) (prN τ t kd) cr s j (k % 6)) 12 := rfl
      -- the least is no more than any guild's
      have low : ∀ g, g < 6 → oJ (css τ n t set kd) cr s (j + 1) g < 1000000 → mJ (goN τ n t set) (prN τ t kd) cr s (j + 1) ah ≤ oJ (css τ n t set kd) cr s (j + 1) g + mvN cr ah g := by
        intro g hg hlt
        obtain ⟨c, hc, hgo, hm, e⟩ := key g hg hlt
        have h6 : (6 * c + g) / 6 = c := by omega
        have h7 : (6 * c + g) % 6 = g := by omega
        have := lm_le (ok := fun k => goN τ n t set (s - (j + 1)) (k / 6) (k % 6)) (f := fun k => prN τ t kd (s - (j + 1)) (k / 6) (k % 6) + mvN cr ah (k % 6) + mJ (goN τ n t set) (prN τ t kd) cr s j (k % 6)) (m := 12) (k := 6 * c + g) (by omega) (by show goN τ n t set (s - (j + 1)) ((6 * c + g) / 6) ((6 * c + g) % 6) = true; rw [h6, h7]; exact hgo)
        rw [h6, h7] at this
        rw [em, e]
        omega
      rcases lm_at (ok := fun k => goN τ n t set (s - (j + 1)) (k / 6) (k % 6)) (f := fun k => prN τ t kd (s - (j + 1)) (k / 6) (k % 6) + mvN cr ah (k % 6) + mJ (goN τ n t set) (prN τ t kd) cr s j (k % 6)) (m := 12) with q | ⟨k, hk12, hok, q⟩
      · have efar : mJ (goN τ n t set) (prN τ t kd) cr s (j + 1) ah = 268435456 := q
        refine ⟨Or.inl ⟨efar, fun g hg => ?_⟩, fun z => by omega⟩
        have le : oJ (css τ n t set kd) cr s (j + 1) g ≤ 1000000 := oJ_le
        rcases Nat.lt_or_ge (oJ (css τ n t set kd) cr s (j + 1) g) 1000000 with z | z
        · have := low g hg z
          have := mvN_le (ah := ah) (g := g) cr1
          omega
        · omega
      · have hok' : goN τ n t set (s - (j + 1)) (k / 6) (k % 6) = true := hok
        have q' : mJ (goN τ n t set) (prN τ t kd) cr s (j + 1) ah = prN τ t kd (s - (j + 1)) (k / 6) (k % 6) + mvN cr ah (k % 6) + mJ (goN τ n t set) (prN τ t kd) cr s j (k % 6) := q
        have mle : mJ (goN τ n t set) (prN τ t kd) cr s (j + 1) ah ≤ 268435456 := mJ_le
        rcases Nat.lt_or_ge (mJ (goN τ n t set) (prN τ t kd) cr s (j + 1) ah) 268435456 with z | z
        · have mf : mJ (goN τ n t set) (prN τ t kd) cr s j (k % 6) < 268435456 := by omega
          obtain ⟨k1, k2⟩ := key2 (k / 6) (k % 6) (by omega) (by omega) hok' mf
          have lw := low (k % 6) (by omega) k1
          obtain ⟨p1, -⟩ := cs1 (k / 6) (k % 6) (by omega) (by omega) hok'
          have mv9 := mvN_le (ah := ah) (g := k % 6) cr1
          have bj := ihb (k % 6) (by omega) mf
          refine ⟨Or.inr ⟨z, ⟨k % 6, by omega, k1, by omega⟩, low⟩, fun _ => by omega⟩
        · refine ⟨Or.inl ⟨by omega, fun g hg => ?_⟩, fun z2 => by omega⟩
          have le : oJ (css τ n t set kd) cr s (j + 1) g ≤ 1000000 := oJ_le
          rcases Nat.lt_or_ge (oJ (css τ n t set kd) cr s (j + 1) g) 1000000 with z2 | z2
          · have := low g hg z2
            have := mvN_le (ah := ah) (g := g) cr1
            omega
          · omega
    refine ⟨fun ah hah => (body ah hah).1, fun ah hah => (body ah hah).2, fun g hg q => ?_⟩
    obtain ⟨c, hc, hgo, hm, e⟩ := key g hg q
    have p1 := (cs1 c g hc hg hgo).1
    have := ihb g (by omega) hm
    omega
theorem best_eq {σ τ : St} {n t s set kd : Nat} (hB : BInv σ τ n) (hP : PInv σ τ) (hT : Th σ τ t s) (hset : set < 64) (hk : kd < 2) : (mJ (goN τ n t set) (prN τ t kd) (crN τ kd) s s 6 = 268435456 ∧ lJ (css τ n t set kd) (crN τ kd) s s = 1000000) ∨ (mJ (goN τ n t set) (prN τ t kd) (crN τ kd) s s 6 ≤ 2000 ∧ lJ (css τ n t set kd) (crN τ kd) s s = mJ (goN τ n t set) (prN τ t kd) (crN τ kd) s s 6) := by
  have hs8 := hT.2.1
  obtain ⟨h1, h2, -⟩ := rel_all hB hP hT hset hk s (Nat.le_refl s)
  have mv6 : ∀ g, mvN (crN τ kd) 6 g = 0 := fun g => by unfold mvN; rw [if_pos (Or.inl rfl)]
  rcases h1 6 (by omega) with ⟨a1, a2⟩ | ⟨a1, ⟨g, hg, a2, a3⟩, a4⟩
  · left
    refine ⟨a1, ?_⟩
    unfold lJ
    rcases mn_at (f := oJ (css τ n t set kd) (crN τ kd) s s) (m := 6) with q | ⟨g', hg', q⟩
    · exact q
    · rw [q, a2 g' hg']
  · right
    have b := h2 6 (by omega) a1
    refine ⟨by omega, ?_⟩
    rw [mv6, Nat.add_zero] at a3
    have l1 : lJ (css τ n t set kd) (crN τ kd) s s ≤ oJ (css τ n t set kd) (crN τ kd) s s g := mn_le hg
    unfold lJ at l1 ⊢
    rcases mn_at (f := oJ (css τ n t set kd) (crN τ kd) s s) (m := 6) with q | ⟨g', hg', q⟩
    · omega
    · have := a4 g' hg' (by omega)
      rw [mv6, Nat.add_zero] at this
      omega
theorem op_best {σ τ : St} (h : Inv σ τ) (t x k : Int32) : ∃ r σ' τ', fX7_best σ t x k = some (r, σ') ∧ fX8_best τ t x k = some (r, τ') ∧ Inv σ' τ' := by
  obtain ⟨⟨n, hB⟩, -, hS, hP, -⟩ := id h
  unfold fX7_best fX8_best
  rw [noT_e, noS_e, off_e, isT_e, isS_e, j_0, j_1, in_e]
  simp only [gt_c]
  cases ht : off t 0 5
  · cases hx : off x 0 63
    · cases hk : off k 0 1
      · obtain ⟨t, ht', rfl⟩ := off_0 (b := 5) (by decide) ht
        obtain ⟨x, hx', rfl⟩ := off_0 (b := 63) (by decide) hx
        obtain ⟨k, hk', rfl⟩ := off_0 (b := 1) (by decide) hk
        have ht6 : t < 6 := by omega
        obtain ⟨s, hT⟩ := Th_of hS ht6
        obtain ⟨v, e1, e2, -⟩ := lay_e hB hT (scM_rf τ)
        obtain ⟨σ', a1, a2, -⟩ := reckon_e hB hP hT (show x < 64 by omega) (show k < 2 by omega)
        obtain ⟨v', b1, b2, b3⟩ := rest_e hB hP hT e2 (show x < 64 by omega) (show k < 2 by omega)
        have hs2 : scM τ v' := ⟨by rw [b2 0 (by decide)]; exact e2.1.1, fun q q1 q2 q3 => (b2 q (by omega)).trans (e2.1.2 q q1 q2 q3)⟩
        have e47 : (if nI k = (1 : Int32) then fX8_best_L47 v 1 (nI x) else fX8_best_L47 v 0 (nI x)) = fX8_best_L47 v (nI k) (nI x) := by
          rcases (show k = 0 ∨ k = 1 by omega) with rfl | rfl
          · rw [if_neg (by decide)]; rfl
          · rw [if_pos (by decide)]; rfl
        have b6 := b3 s (Nat.le_refl s) 6 (by omega)
        rw [Nat.sub_self, show 7 * 0 + 6 = 6 by omega] at b6
        simp only [Bool.not_false, Bool.not_true, if_true, if_false, Bool.false_eq_true, ↓reduceIte]
        rw [tld_e ht6, a1, o2_s, e1, o1_s, e47]
        unfold fX8_best_L47
        rw [b1, o1_s, l_6, ald_e (by omega) (by decide), b6]
        have m1 : mJ (goN τ n t x) (prN τ t k) (crN τ k) s s 6 ≤ 268435456 := mJ_le
        rcases best_eq hB hP hT (show x < 64 by omega) (show k < 2 by omega) with ⟨c1, c2⟩ | ⟨c1, c2⟩
        · rw [c1, c2, if_pos (by decide), if_neg (by decide)]
          exact ⟨_, _, _, rfl, rfl, Inv_sc h a2 hs2⟩
        · rw [c2, if_neg (show ¬ nI (mJ (goN τ n t x) (prN τ t k) (crN τ k) s s 6) = (1000000 : Int32) from by rw [l_1000000, nI_eq (by omega) (by omega)]; omega), if_pos (show nI (mJ (goN τ n t x) (prN τ t k) (crN τ k) s s 6) < (268435456 : Int32) from nI_lt (b := 268435456) (by omega) (by omega)), ald_e (by omega) (by decide), b6]
          exact ⟨_, _, _, rfl, rfl, Inv_sc h a2 hs2⟩
      · exact ⟨_, _, _, rfl, rfl, h⟩
    · exact ⟨_, _, _, rfl, rfl, h⟩
  · exact ⟨_, _, _, rfl, rfl, h⟩
