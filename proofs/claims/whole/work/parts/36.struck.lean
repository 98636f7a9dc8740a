/-! ===== the fewest bounds struck out ===== -/
theorem lsI_none {P : Nat → Bool} : ∀ {m : Nat}, m < 2 ^ 31 → lsI P m = M1 → ∀ i, i < m → P i = false
  | 0, _, _ => fun i hi => absurd hi (Nat.not_lt_zero i)
  | m + 1, hm, h => by
    rw [lsI] at h
    have key : lsI P m = M1 ∧ P m = false := by
      rcases lsI_in P m with e | ⟨j, hj, e, -⟩
      · rw [if_pos e] at h
        cases hp : P m
        · exact ⟨e, rfl⟩
        · rw [hp] at h; exact ((nI_nm1 (show m < 2 ^ 31 by omega)).mp h).elim
      · have ne : ¬ lsI P m = M1 := by rw [e]; exact fun q => (nI_nm1 (show j < 2 ^ 31 by omega)).mp q
        rw [if_neg ne] at h
        by_cases c : popc (lsI P m).toNatClampNeg ≤ popc m
        · rw [if_pos c] at h; exact (ne h).elim
        · rw [if_neg c] at h
          cases hp : P m
          · rw [hp] at h; exact (ne h).elim
          · rw [hp] at h; exact ((nI_nm1 (show m < 2 ^ 31 by omega)).mp h).elim
    intro i hi
    by_cases e : i = m
    · rw [e]; exact key.2
    · exact lsI_none (by omega) key.1 i (by omega)
theorem lsI_some {P : Nat → Bool} : ∀ {m j : Nat}, m < 2 ^ 31 → j < 2 ^ 31 → lsI P m = nI j → P j = true ∧ j < m ∧ ∀ i, i < m → P i = true → popc j < popc i ∨ (popc j = popc i ∧ j ≤ i)
  | 0, j, _, hj, h => ((m1_nI hj).mp h).elim
  | m + 1, j, hm, hj, h => by
    rw [lsI] at h
    rcases lsI_in P m with e | ⟨q, hq, e, pq⟩
    · rw [if_pos e] at h
      cases hp : P m
      · rw [hp] at h; exact ((m1_nI hj).mp h).elim
      · rw [hp] at h
        have : m = j := (nI_eq (by omega) hj).mp h
        subst this
        refine ⟨hp, by omega, fun i hi pi => ?_⟩
        by_cases c : i = m
        · rw [c]; exact Or.inr ⟨rfl, Nat.le_refl _⟩
        · rw [lsI_none (by omega) e i (by omega)] at pi; cases pi
    · have ne : ¬ lsI P m = M1 := by rw [e]; exact fun q' => (nI_nm1 (show q < 2 ^ 31 by omega)).mp q'
      obtain ⟨a1, a2, a3⟩ := lsI_some (by omega) (by omega) e
      rw [if_neg ne, e, nI_clamp (by omega)] at h
      by_cases c : popc q ≤ popc m
      · rw [if_pos c] at h
        have : q = j := (nI_eq (by omega) hj).mp h
        subst this
        refine ⟨a1, by omega, fun i hi pi => ?_⟩
        by_cases d : i = m
        · rw [d]; omega
        · exact a3 i (by omega) pi
      · rw [if_neg c] at h
        cases hp : P m
        · rw [hp] at h
          have : q = j := (nI_eq (by omega) hj).mp h
          subst this
          refine ⟨a1, by omega, fun i hi pi => ?_⟩
          by_cases d : i = m
          · rw [d, hp] at pi; cases pi
          · exact a3 i (by omega) pi
        · rw [hp] at h
          have : m = j := (nI_eq (by omega) hj).mp h
          subst this
          refine ⟨hp, by omega, fun i hi pi => ?_⟩
          by_cases d : i = m
          · rw [d]; exact Or.inr ⟨rfl, Nat.le_refl _⟩
          · have := a3 i (by omega) pi
            omega
theorem popc_k : ∀ k, k < 11 → ∀ j, j < 2 ^ k → popc j ≤ k := by decide +kernel
theorem sh10 : ∀ k, k < 11 → (1 : Int32) <<< (nI k &&& 31) = nI (2 ^ k) := by decide +kernel
theorem p2k : ∀ k, k < 11 → 2 ^ k ≤ 1024 := by decide
theorem fl_le {p q : Nat → Bool} : ∀ (l : List Nat), (l.filter (fun i => p i && q i)).length ≤ (l.filter p).length
  | [] => Nat.le_refl _
  | a :: l => by
    have := fl_le (p := p) (q := q) l
    simp only [List.filter_cons]
    cases p a <;> cases q a <;> simp <;> omega
theorem fl_lt {p q : Nat → Bool} : ∀ (l : List Nat) (x : Nat), x ∈ l → p x = true → q x = false → (l.filter (fun i => p i && q i)).length < (l.filter p).length
  | a :: l, x, hx, h1, h2 => by
    simp only [List.filter_cons]
    rcases List.mem_cons.mp hx with e | e
    · subst e
      have := fl_le (p := p) (q := q) l
      rw [h1, h2]; simp; omega
    · have := fl_lt (p := p) (q := q) l x e h1 h2
      cases p a <;> cases q a <;> simp <;> omega
theorem popc_and (o a : Nat) : popc (o &&& a) ≤ popc o ∧ ((∃ b, b < 10 ∧ o.testBit b = true ∧ a.testBit b = false) → popc (o &&& a) < popc o) := by
  have e : popc (o &&& a) = ((List.range 10).filter (fun i => o.testBit i && a.testBit i)).length := by
    unfold popc
    congr 2
    funext i
    exact Nat.testBit_and o a i
  rw [e]
  exact ⟨fl_le _, fun ⟨b, h1, h2, h3⟩ => fl_lt _ b (List.mem_range.mpr h1) h2 h3⟩
/-- bounds that a work isn't within don't matter to it -/
theorem cod_rch {c : Nat → Nat → Int32} {n : Nat} {th th' : Nat → Bool} (g w : Nat) (h : ∀ b, b < n → rch c b w = true → th b = th' b) : cod c n th g w = cod c n th' g w := by
  have e : ∀ b, b < n → (th b && rch c b w) = (th' b && rch c b w) := fun b hb => by
    cases hr : rch c b w
    · rw [Bool.and_false, Bool.and_false]
    · rw [h b hb hr]
  have e1 : fstI (k_gr c th g w) n = fstI (k_gr c th' g w) n := fstI_cg (fun b hb => by unfold k_gr; rw [e b hb])
  have e2 : fstI (k_fo c th g w) n = fstI (k_fo c th' g w) n := fstI_cg (fun b hb => by unfold k_fo; rw [e b hb])
  have e3 : lstI (k_oo c th g w) n = lstI (k_oo c th' g w) n := lstI_cg (fun b hb => by unfold k_oo; rw [e b hb])
  have e4 : lstI (k_pl c th g w) n = lstI (k_pl c th' g w) n := lstI_cg (fun b hb => by unfold k_pl; rw [e b hb])
  unfold cod dcd
  rw [e1, e2, e3, e4]
theorem anyB_cg {P Q : Nat → Bool} : ∀ {n : Nat}, (∀ b, b < n → P b = Q b) → anyB P n = anyB Q n
  | 0, _ => rfl
  | n + 1, h => by rw [anyB, anyB, anyB_cg (fun b hb => h b (by omega)), h n (by omega)]
theorem mk_cg {x y : Nat → Nat → Nat} {s : Nat} (set : Nat) (h : ∀ k, k < 2 * s → ∀ g, g < 6 → x k g = y k g) : mk x s set = mk y s set := by
  unfold mk
  refine allB_cg (fun i hi => ?_)
  unfold stB
  refine anyB_cg (fun k hk => ?_)
  rw [h (2 * i + k / 6) (by omega) (k % 6) (by omega)]
theorem anyB_t {P : Nat → Bool} : ∀ {n : Nat}, anyB P n = true ↔ ∃ b, b < n ∧ P b = true
  | 0 => ⟨fun h => Bool.noConfusion h, fun ⟨b, hb, _⟩ => absurd hb (Nat.not_lt_zero b)⟩
  | n + 1 => by
    rw [anyB, Bool.or_eq_true, anyB_t]
    constructor
    · rintro (⟨b, h1, h2⟩ | h)
      · exact ⟨b, by omega, h2⟩
      · exact ⟨n, by omega, h⟩
    · rintro ⟨b, h1, h2⟩
      by_cases e : b = n
      · right; rw [← e]; exact h2
      · left; exact ⟨b, by omega, h2⟩
/-- with bounds out struck, up to p guilds make the thing -/
def thO (out : Nat) : Nat → Bool := fun b => !out.testBit b
def Qs (τ : St) (n t s p out : Nat) : Bool := anyB (fun set => decide (popc set ≤ p) && mk (cdN (cM τ) n (thO out) (Wt τ t)) s set) 64
theorem nd_p {P : Nat → Bool} {p : Nat} (hp : p ≤ 6) : decide (nd P ≤ p) = anyB (fun set => decide (popc set ≤ p) && P set) 64 := by
  apply Bool.eq_iff_iff.mpr
  rw [decide_eq_true_eq, anyB_t]
  unfold nd
  rcases lsI64 P with e | ⟨j, hj, e⟩
  · rw [if_pos e]
    constructor
    · intro h; omega
    · rintro ⟨b, hb, h⟩
      rw [lsI_none (by omega) e b hb, Bool.and_false] at h
      cases h
  · have ne : ¬ nI j = M1 := fun q => (nI_nm1 (show j < 2 ^ 31 by omega)).mp q
    obtain ⟨a1, a2, a3⟩ := lsI_some (by omega) (show j < 2 ^ 31 by omega) e
    rw [e, if_neg ne, nI_clamp (by omega)]
    constructor
    · intro h; exact ⟨j, hj, by rw [a1, decide_eq_true h]; rfl⟩
    · rintro ⟨b, hb, h⟩
      rw [Bool.and_eq_true, decide_eq_true_eq] at h
      have := a3 b hb h.2
      omega
/-- the bounds around a thing -/
theorem within_e {σ τ : St} {n w : Nat} (hB : BInv σ τ n) (hw : w < 240) : ∀ b, b < 32 → bt (σ 12 w) b = (decide (b < n) && rch (cM τ) b w) := by
  intro b hb
  have h0 : bt (σ 12 w) b = (decide (b < n) && rch (cX σ) b w) := hB.2.2.2.2.1.1 w hw b hb
  rw [h0]
  by_cases h : b < n
  · rw [rch_cg w hB.2.2.2.1 h]
  · rw [decide_eq_false h, Bool.false_and, Bool.false_and]
def aroB (τ : St) (n t : Nat) (m b : Nat) : Bool := anyB (fun k => decide (b < n) && (!decide (Wt τ t k = M1) && rch (cM τ) b (Wt τ t k).toNatClampNeg)) m
theorem around_e {σ τ : St} {n t s : Nat} (hB : BInv σ τ n) (hT : Th σ τ t s) : ∃ x : Int32, fX1_boundsAround σ t = some x ∧ ∀ b, b < 32 → bt x b = aroB τ n t (2 * s) b := by
  have hs8 := hT.2.1
  have one : ∀ k, k < 2 * s → ∀ w, w < 240 → Wt τ t k = nI w → ∀ b, b < 32 → bt (σ 12 w) b = (decide (b < n) && (!decide (Wt τ t k = M1) && rch (cM τ) b (Wt τ t k).toNatClampNeg)) := by
    intro k hk w hw e b hb
    rw [within_e hB hw b hb, e, nI_clamp (by omega), decide_eq_false (fun q => (nI_nm1 (show w < 2 ^ 31 by omega)).mp q)]
    rfl
  have loop : ∀ (m f i : Nat) (x : Int32), i + m = s → m < f → (∀ b, b < 32 → bt x b = aroB τ n t (2 * i) b) → ∃ x' : Int32, fX1_boundsAround_L4 σ t f x (nI i) = some x' ∧ ∀ b, b < 32 → bt x' b = aroB τ n t (2 * s) b := by
    intro m
    induction m with
    | zero =>
      intro f i x hi hf hx
      obtain ⟨f, rfl⟩ : ∃ f', f = f' + 1 := ⟨f - 1, by omega⟩
      have : i = s := by omega
      subst this
      rw [fX1_boundsAround_L4]
      dsimp only
      rw [hT.2.2.1, if_pos (nI_le (Nat.le_refl _) (by omega))]
      exact ⟨x, rfl, hx⟩
    | succ m ih =>
      intro f i x hi hf hx
      obtain ⟨f, rfl⟩ : ∃ f', f = f' + 1 := ⟨f - 1, by omega⟩
      have his : i < s := by omega
      obtain ⟨w, hw, ew⟩ := hT.2.2.2.2.2.2 i his
      have nm : ¬ nI w = (-1 : Int32) := fun q => (nI_nm1 (show w < 2 ^ 31 by omega)).mp q
      rw [fX1_boundsAround_L4]
      dsimp only
      rw [hT.2.2.1, if_neg (nI_ge (by omega) (by omega)), show fX6_workAt σ t (nI i) (1 : Int32) = _ from workAt_e hT his (show 1 < 2 by omega) rfl, o1_s, show fX6_workAt σ t (nI i) (0 : Int32) = _ from workAt_e hT his (show 0 < 2 by omega) rfl, o1_s, show 2 * i + 0 = 2 * i by omega, ew]
      unfold fX0_boundsAroundWork
      rw [ald_e hw (by decide), o1_s, bd_e]
      have step : ∀ z : Int32, (∀ b, b < 32 → bt z b = (decide (b < n) && (!decide (Wt τ t (2 * i + 1) = M1) && rch (cM τ) b (Wt τ t (2 * i + 1)).toNatClampNeg))) → ∃ x' : Int32, fX1_boundsAround_L56 σ t (fX1_boundsAround_L4 σ t f) (nI i) z (x ||| σ 12 w) = some x' ∧ ∀ b, b < 32 → bt x' b = aroB τ n t (2 * s) b := by
        intro z hz
        unfold fX1_boundsAround_L56
        rw [bd_e, bd_e, nI_1]
        refine ih f (i + 1) _ (by omega) (by omega) (fun b hb => ?_)
        rw [b_or, b_or, hx b hb, hz b hb, one (2 * i) (by omega) w hw ew b hb]
        rfl
      rcases hT.2.2.2.2.1 (2 * i + 1) (by omega) with e | ⟨w2, hw2, e⟩
      · rw [e, if_pos (show M1 = (-1 : Int32) from rfl)]
        refine step 0 (fun b hb => ?_)
        rw [b_0, e, decide_eq_true rfl]
        simp
      · have nm2 : ¬ nI w2 = (-1 : Int32) := fun q => (nI_nm1 (show w2 < 2 ^ 31 by omega)).mp q
        rw [e, if_neg nm2, ald_e hw2 (by decide), o1_s]
        exact step _ (fun b hb => one (2 * i + 1) (by omega) w2 hw2 e b hb)
  exact loop s 2000 0 0 (by omega) (by omega) (fun b _ => b_0 b)
theorem L_shl1 : ∀ n, n < 64 → ∀ i, i < 64 → bL ((1 : Int64) <<< ((nI n).toInt64 &&& 63)) i = decide (i = n) := by decide +kernel
theorem upTo_e {p : Nat} (hp : p ≤ 6) : ∃ x : Int64, fX1_setsUpTo (nI p) = some x ∧ ∀ set, set < 64 → bL x set = decide (popc set ≤ p) := by
  have loop : ∀ (m f j : Nat) (x : Int64), j + m = 64 → m < f → (∀ set, set < 64 → bL x set = (decide (set < j) && decide (popc set ≤ p))) → ∃ x' : Int64, fX1_setsUpTo_L4 f (nI p) x (nI j) = some x' ∧ ∀ set, set < 64 → bL x' set = decide (popc set ≤ p) := by
    intro m
    induction m with
    | zero =>
      intro f j x hj hf hx
      obtain ⟨f, rfl⟩ : ∃ f', f = f' + 1 := ⟨f - 1, by omega⟩
      have : j = 64 := by omega
      subst this
      rw [fX1_setsUpTo_L4]
      dsimp only
      rw [if_pos (by decide)]
      refine ⟨x, rfl, fun set hset => ?_⟩
      rw [hx set hset, decide_eq_true hset, Bool.true_and]
    | succ m ih =>
      intro f j x hj hf hx
      obtain ⟨f, rfl⟩ : ∃ f', f = f' + 1 := ⟨f - 1, by omega⟩
      have hj64 : j < 64 := by omega
      have p1 := popc10 j (by omega)
      rw [fX1_setsUpTo_L4]
      dsimp only
      rw [if_neg (show ¬ (64 : Int32) ≤ nI j from nI_ge (b := 64) (by omega) (by omega)), bitCount_e j (by omega), o1_s]
      by_cases c : p < popc j
      · rw [if_pos (nI_lt c (by omega))]
        unfold fX1_setsUpTo_L24
        rw [bd_e, nI_1]
        refine ih f (j + 1) x (by omega) (by omega) (fun set hset => ?_)
        rw [hx set hset]
        by_cases e : set = j
        · rw [e, decide_eq_false (show ¬ popc j ≤ p by omega), Bool.and_false, Bool.and_false]
        · rw [show decide (set < j) = decide (set < j + 1) from decide_eq_decide.mpr (by omega)]
      · rw [if_neg (nI_nlt (by omega) (by omega)), bd_e]
        unfold fX1_setsUpTo_L24
        rw [bd_e, nI_1]
        refine ih f (j + 1) _ (by omega) (by omega) (fun set hset => ?_)
        rw [L_or, hx set hset, L_shl1 j hj64 set hset]
        by_cases e : set = j
        · rw [e, decide_eq_false (show ¬ j < j by omega), decide_eq_true (show j < j + 1 by omega), decide_eq_true (show popc j ≤ p by omega), decide_eq_true rfl]; rfl
        · rw [show decide (set < j) = decide (set < j + 1) from decide_eq_decide.mpr (by omega), decide_eq_false e, Bool.or_false]
  exact loop 64 2000 0 0 (by omega) (by omega) (fun set _ => by rw [L_0, decide_eq_false (Nat.not_lt_zero set)]; rfl)
