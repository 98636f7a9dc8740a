/-! ===== the class's families of sets, by the bits of a long ===== -/
def bL (x : Int64) (i : Nat) : Bool := x.toBitVec.getLsbD i
theorem L_ext {x y : Int64} (h : ∀ i, i < 64 → bL x i = bL y i) : x = y := Int64.toBitVec_inj.mp (BitVec.eq_of_getLsbD_eq (fun i hi => h i hi))
theorem L_or (x y : Int64) (i : Nat) : bL (x ||| y) i = (bL x i || bL y i) := by unfold bL; rw [Int64.toBitVec_or, BitVec.getLsbD_or]
theorem L_and (x y : Int64) (i : Nat) : bL (x &&& y) i = (bL x i && bL y i) := by unfold bL; rw [Int64.toBitVec_and, BitVec.getLsbD_and]
theorem L_0 (i : Nat) : bL 0 i = false := BitVec.getLsbD_zero
theorem L_m1 : ∀ i, i < 64 → bL (-1) i = true := by decide +kernel
theorem L_1 : ∀ i, i < 64 → bL 1 i = decide (i = 0) := by decide +kernel
theorem L_big {x : Int64} {i : Nat} (h : 64 ≤ i) : bL x i = false := BitVec.getLsbD_of_ge _ _ h
theorem su_64 : ∀ n, n < 64 → (((nI n).toInt64.toUInt64 &&& Int64.toUInt64 63).toBitVec % 64).toNat = n := by decide +kernel
theorem L_ush {n : Nat} (hn : n < 64) (x : Int64) (i : Nat) : bL (lush x (nI n)) i = bL x (n + i) := by
  show (x.toUInt64 >>> ((nI n).toInt64.toUInt64 &&& Int64.toUInt64 63)).toBitVec.getLsbD i = x.toUInt64.toBitVec.getLsbD (n + i)
  rw [UInt64.toBitVec_shiftRight]
  show (x.toUInt64.toBitVec >>> (((nI n).toInt64.toUInt64 &&& Int64.toUInt64 63).toBitVec % 64).toNat).getLsbD i = _
  rw [su_64 n hn, BitVec.getLsbD_ushiftRight]
theorem lgc0 (x : Int64) : lg_cmp x 0 = 0 ↔ x = 0 := by
  unfold lg_cmp
  by_cases a : x > 0
  · rw [if_pos a]
    refine ⟨fun q => absurd q (by decide), fun q => ?_⟩
    rw [q] at a; exact absurd a (by decide)
  · rw [if_neg a]
    by_cases b : x = 0
    · rw [if_pos b]; exact ⟨fun _ => b, fun _ => rfl⟩
    · rw [if_neg b]; exact ⟨fun q => absurd q (by decide), fun q => absurd q b⟩
theorem fam_bit (x : Int64) {n : Nat} (hn : n < 64) : lg_cmp ((lush x (nI n)) &&& (1 : Int64)) (0 : Int64) = 0 ↔ bL x n = false := by
  rw [lgc0]
  have h1 : ∀ i, i < 64 → bL ((lush x (nI n)) &&& (1 : Int64)) i = (bL x n && decide (i = 0)) := by
    intro i hi
    rw [L_and, L_ush hn, L_1 i hi]
    by_cases z : i = 0
    · subst z; rw [Nat.add_zero]
    · rw [decide_eq_false z, Bool.and_false, Bool.and_false]
  refine ⟨fun e => ?_, fun e => L_ext (fun i hi => ?_)⟩
  · have := h1 0 (by decide)
    rw [e, L_0] at this
    simpa using this.symm
  · rw [h1 i hi, e, L_0]; rfl
theorem hold_bits : ∀ g, g < 6 → ∀ set, set < 64 → bL (holdX g) set = set.testBit g := by decide +kernel
theorem hld_e {β : Type} {i : Nat} {k : Int64 → Option β} (h : i < 6) : hld (nI i) k = k (holdX i) := by
  unfold hld; rw [if_neg (nI_in h (by decide)), nI_clamp (by omega)]
theorem setsWork_e {σ τ : St} {n w : Nat} {m : Int32} {th : Nat → Bool} (hB : BInv σ τ n) (hm : ∀ b, b < n → bt m b = th b) (hw : w < 240) : ∃ x : Int64, fX1_setsForWork σ (nI w) m = some x ∧ ∀ set, set < 64 → bL x set = anyB (fun g => gs set (cod (cM τ) n th g w).toNatClampNeg g) 6 := by
  have hn := hB.1
  have loop : ∀ (q f g : Nat) (x : Int64), g + q = 6 → q < f → (∀ set, set < 64 → bL x set = anyB (fun g => gs set (cod (cM τ) n th g w).toNatClampNeg g) g) → ∃ y : Int64, fX1_setsForWork_L12 σ f (nI w) m x (nI g) = some y ∧ ∀ set, set < 64 → bL y set = anyB (fun g => gs set (cod (cM τ) n th g w).toNatClampNeg g) 6 := by
    intro q
    induction q with
    | zero =>
      intro f g x hg hf hx
      obtain ⟨f, rfl⟩ : ∃ f', f = f' + 1 := ⟨f - 1, by omega⟩
      have : g = 6 := by omega
      subst this
      rw [fX1_setsForWork_L12]
      dsimp only
      rw [if_pos (by decide)]
      exact ⟨x, rfl, hx⟩
    | succ q ih =>
      intro f g x hg hf hx
      obtain ⟨f, rfl⟩ : ∃ f', f = f' + 1 := ⟨f - 1, by omega⟩
      rw [fX1_setsForWork_L12]
      dsimp only
      rw [if_neg (show ¬ (6 : Int32) ≤ nI g from nI_ge (b := 6) (by omega) (by omega)), leave_g hB hm (by omega) hw, o1_s]
      simp only [fX1_setsForWork_L73, bd, nI_1]
      have hg6 : g < 6 := by omega
      rcases cod_in hn hB.2.2.2.2.2 th g w with e | e | ⟨h, hh, e⟩
      · rw [e, if_neg (by decide), if_pos (by decide)]
        refine ih f (g + 1) x (by omega) (by omega) (fun set hset => ?_)
        rw [hx set hset, anyB, e, nI_clamp (by omega)]
        unfold gs
        simp
      · rw [e, if_pos (by decide), hld_e hg6]
        refine ih f (g + 1) _ (by omega) (by omega) (fun set hset => ?_)
        rw [L_or, hx set hset, hold_bits g hg6 set hset, anyB, e, nI_clamp (by omega)]
        unfold gs
        simp
      · have n1 : ¬ nI (2 + h) = (1 : Int32) := by rw [l_1, nI_eq (by omega) (by omega)]; omega
        have n0 : ¬ nI (2 + h) = (0 : Int32) := by rw [l_0, nI_eq (by omega) (by omega)]; omega
        rw [e, if_neg n1, if_neg n0, hld_e hg6, show nI (2 + h) - (2 : Int32) = nI h from by rw [l_2, pk_sub (by omega)]; congr 1; omega, hld_e hh]
        refine ih f (g + 1) _ (by omega) (by omega) (fun set hset => ?_)
        rw [L_or, L_and, hx set hset, hold_bits g hg6 set hset, hold_bits h hh set hset, anyB, e, nI_clamp (by omega)]
        unfold gs
        rw [decide_eq_true (show 0 < 2 + h by omega), decide_eq_false (show ¬ 2 + h < 2 by omega), show 2 + h - 2 = h by omega]
        simp
  unfold fX1_setsForWork
  have ne : ¬ nI w = (-1 : Int32) := fun q => (nI_nm1 (show w < 2 ^ 31 by omega)).mp q
  rw [if_neg ne]
  exact loop 6 2000 0 0 (by omega) (by omega) (fun set _ => L_0 set)
theorem setsWork_W {σ τ : St} {n s k : Nat} {m : Int32} {th : Nat → Bool} {W : Nat → Int32} (hB : BInv σ τ n) (hm : ∀ b, b < n → bt m b = th b) (hW : WOK W s) (hk : k < 2 * s) : ∃ x : Int64, fX1_setsForWork σ (W k) m = some x ∧ ∀ set, set < 64 → bL x set = anyB (fun g => gs set (cdN (cM τ) n th W k g) g) 6 := by
  rcases hW k hk with e | ⟨w, hw, e⟩
  · refine ⟨0, ?_, fun set _ => ?_⟩
    · unfold fX1_setsForWork; rw [if_pos (show W k = (-1 : Int32) from e)]
    · rw [L_0]
      symm
      rw [anyB_f]
      intro g _
      unfold gs cdN
      rw [if_pos e]; rfl
  · obtain ⟨x, h1, h2⟩ := setsWork_e hB hm hw
    refine ⟨x, by rw [e]; exact h1, fun set hset => ?_⟩
    rw [h2 set hset]
    congr 1
    funext g
    unfold cdN
    rw [e, if_neg (fun q => (nI_nm1 (show w < 2 ^ 31 by omega)).mp q), nI_clamp (by omega)]
theorem anyB_or {P Q : Nat → Bool} : ∀ {n : Nat}, anyB (fun k => P k || Q k) n = (anyB P n || anyB Q n)
  | 0 => rfl
  | n + 1 => by
    rw [anyB, anyB, anyB, anyB_or]
    cases anyB P n <;> cases anyB Q n <;> cases P n <;> cases Q n <;> rfl
theorem st12 (x : Nat → Nat → Nat) (set i : Nat) : stB x set i = (anyB (fun g => gs set (x (2 * i) g) g) 6 || anyB (fun g => gs set (x (2 * i + 1) g) g) 6) := by
  unfold stB
  simp only [anyB]
  simp [Bool.or_assoc]
theorem workAt_e {σ τ : St} {t s k i c : Nat} (hT : Th σ τ t s) (hi : i < s) (hc : c < 2) (hk : k = 2 * i + c) : fX6_workAt σ t (nI i) (nI c) = some (Wt τ t k) := by
  obtain ⟨ht, s1, s2, s3, s4, s5, s6⟩ := hT
  unfold fX6_workAt
  rw [l_2, pk_mul, nI_add, ald_e (by omega) (by decide), show i * 2 + c = k by omega, s5 k (by omega)]
theorem setsStep_e {σ τ : St} {n t s i : Nat} {m : Int32} {th : Nat → Bool} (hB : BInv σ τ n) (hT : Th σ τ t s) (hm : ∀ b, b < n → bt m b = th b) (hi : i < s) : ∃ x y : Int64, fX1_setsForWork σ (Wt τ t (2 * i)) m = some x ∧ fX1_setsForWork σ (Wt τ t (2 * i + 1)) m = some y ∧ ∀ set, set < 64 → bL (x ||| y) set = stB (cdN (cM τ) n th (Wt τ t)) set i := by
  obtain ⟨x, a1, a2⟩ := setsWork_W hB hm hT.2.2.2.2.1 (show 2 * i < 2 * s by omega)
  obtain ⟨y, b1, b2⟩ := setsWork_W hB hm hT.2.2.2.2.1 (show 2 * i + 1 < 2 * s by omega)
  refine ⟨x, y, a1, b1, fun set hset => ?_⟩
  rw [L_or, a2 set hset, b2 set hset, st12]
/-- a step is left out -/
def lft (left : Int32) (i : Nat) : Bool := decide (nI i = left)
theorem setsThing_e {σ τ : St} {n t s : Nat} {m : Int32} {th : Nat → Bool} (left : Int32) (fam : Int64) (hB : BInv σ τ n) (hT : Th σ τ t s) (hm : ∀ b, b < n → bt m b = th b) : ∃ x : Int64, fX1_setsForThing σ t left m fam = some x ∧ ∀ set, set < 64 → bL x set = (bL fam set && allB (fun i => lft left i || stB (cdN (cM τ) n th (Wt τ t)) set i) s) := by
  obtain ⟨ht, s1, s2, s3, s4, s5, s6⟩ := id hT
  have loop : ∀ (q f i : Nat) (x : Int64), i + q = s → q < f → (∀ set, set < 64 → bL x set = (bL fam set && allB (fun i => lft left i || stB (cdN (cM τ) n th (Wt τ t)) set i) i)) → ∃ y : Int64, fX1_setsForThing_L7 σ t f left m x (nI i) = some y ∧ ∀ set, set < 64 → bL y set = (bL fam set && allB (fun i => lft left i || stB (cdN (cM τ) n th (Wt τ t)) set i) s) := by
    intro q
    induction q with
    | zero =>
      intro f i x hi hf hx
      obtain ⟨f, rfl⟩ : ∃ f', f = f' + 1 := ⟨f - 1, by omega⟩
      have : i = s := by omega
      subst this
      rw [fX1_setsForThing_L7]
      dsimp only
      rw [s2, if_pos (nI_le (Nat.le_refl _) (by omega))]
      exact ⟨x, rfl, hx⟩
    | succ q ih =>
      intro f i x hi hf hx
      obtain ⟨f, rfl⟩ : ∃ f', f = f' + 1 := ⟨f - 1, by omega⟩
      rw [fX1_setsForThing_L7]
      dsimp only
      rw [s2, if_neg (nI_ge (by omega) (by omega))]
      by_cases z : lg_cmp x 0 = 0
      · rw [if_pos z]
        have x0 : x = 0 := (lgc0 x).mp z
        refine ⟨x, rfl, fun set hset => ?_⟩
        have h0 := hx set hset
        rw [x0, L_0] at h0
        have mono : ∀ j, (bL fam set && allB (fun i => lft left i || stB (cdN (cM τ) n th (Wt τ t)) set i) (i + j)) = false := by
          intro j
          induction j with
          | zero => exact h0.symm
          | succ j ihj =>
            rw [← Nat.add_assoc, allB, ← Bool.and_assoc, ihj, Bool.false_and]
        have := mono (q + 1)
        rw [hi] at this
        rw [x0, L_0, this]
      · rw [if_neg z]
        simp only [fX1_setsForThing_L59, bd, nI_1]
        by_cases e : nI i = left
        · rw [if_pos e]
          refine ih f (i + 1) x (by omega) (by omega) (fun set hset => ?_)
          have : lft left i = true := decide_eq_true e
          rw [hx set hset, allB, this]; simp
        · rw [if_neg e]
          obtain ⟨y, z', y1, z1, y2⟩ := setsStep_e hB hT hm (show i < s by omega)
          have w0 : fX6_workAt σ t (nI i) (0 : Int32) = some (Wt τ t (2 * i)) := by rw [l_0]; exact workAt_e hT (show i < s by omega) (show 0 < 2 by omega) rfl
          have w1 : fX6_workAt σ t (nI i) (1 : Int32) = some (Wt τ t (2 * i + 1)) := by rw [l_1]; exact workAt_e hT (show i < s by omega) (show 1 < 2 by omega) rfl
          rw [w0, o1_s, y1, o1_s, w1, o1_s, z1, o1_s]
          refine ih f (i + 1) _ (by omega) (by omega) (fun set hset => ?_)
          have : lft left i = false := decide_eq_false e
          rw [L_and, hx set hset, y2 set hset, allB, this, Bool.false_or, Bool.and_assoc]
  exact loop s 2000 0 fam (by omega) (by omega) (fun set _ => by rw [allB, Bool.and_true])
theorem lft_m1 {i : Nat} (h : i < 2 ^ 31) : lft (-1) i = false := decide_eq_false (fun q => (nI_nm1 h).mp q)
theorem allB_cg {P Q : Nat → Bool} : ∀ {n : Nat}, (∀ b, b < n → P b = Q b) → allB P n = allB Q n
  | 0, _ => rfl
  | n + 1, h => by rw [allB, allB, allB_cg (fun b hb => h b (by omega)), h n (by omega)]
theorem makers_e {σ τ : St} {n t s : Nat} (hB : BInv σ τ n) (hT : Th σ τ t s) : ∃ x : Int64, fX1_makers σ t = some x ∧ ∀ set, set < 64 → bL x set = mk (cdN (cM τ) n th1 (Wt τ t)) s set := by
  obtain ⟨x, a1, a2⟩ := setsThing_e (-1) (-1) hB hT (m1_all hB.1)
  unfold fX1_makers
  rw [a1, o1_s]
  refine ⟨x, rfl, fun set hset => ?_⟩
  rw [a2 set hset, L_m1 set hset, Bool.true_and]
  exact allB_cg (fun i hi => by rw [lft_m1 (by have := hT.2.1; omega), Bool.false_or])
theorem isMadeBy_e {σ τ : St} {n t s set : Nat} (hB : BInv σ τ n) (hT : Th σ τ t s) (hset : set < 64) : fX1_isMadeBy σ t (nI set) = some (bz (mk (cdN (cM τ) n th1 (Wt τ t)) s set)) := by
  obtain ⟨x, a1, a2⟩ := makers_e hB hT
  unfold fX1_isMadeBy
  rw [a1, o1_s]
  have := a2 set hset
  unfold bz
  cases h : mk (cdN (cM τ) n th1 (Wt τ t)) s set
  · rw [h] at this
    rw [if_pos ((fam_bit x hset).mpr this)]; rfl
  · rw [h] at this
    rw [if_neg (fun q => by rw [(fam_bit x hset).mp q] at this; cases this)]; rfl
theorem least_X {x : Int64} {P : Nat → Bool} (hx : ∀ set, set < 64 → bL x set = P set) : fX1_leastSet x = some (lsI P 64) := by
  have loop : ∀ (m f j : Nat), j + m = 64 → m < f → fX1_leastSet_L4 f x (lsI P j) (nI j) = some (lsI P 64) := by
    intro m
    induction m with
    | zero =>
      intro f j hj hf
      obtain ⟨f, rfl⟩ : ∃ f', f = f' + 1 := ⟨f - 1, by omega⟩
      have : j = 64 := by omega
      subst this
      rw [fX1_leastSet_L4]
      dsimp only
      rw [if_pos (by decide)]
    | succ m ih =>
      intro f j hj hf
      obtain ⟨f, rfl⟩ : ∃ f', f = f' + 1 := ⟨f - 1, by omega⟩
      have hj64 : j < 64 := by omega
      rw [fX1_leastSet_L4]
      dsimp only
      rw [if_neg (show ¬ (64 : Int32) ≤ nI j from nI_ge (b := 64) (by omega) (by omega))]
      have nx := ih f (j + 1) (by omega) (by omega)
      rw [lsI] at nx
      simp only [fX1_leastSet_L26, fX1_leastSet_L31, fX1_leastSet_L50, bd, nI_1]
      have z10 : ((1 : Int32) = 0) = False := eq_false (by decide)
      simp only [z10, if_true, if_false]
      have hbit : (lg_cmp ((lush x (nI j)) &&& (1 : Int64)) (0 : Int64) = 0) = (P j = false) := propext (by rw [fam_bit x hj64, hx j hj64])
      simp only [hbit]
      rcases lsI_in P j with e | ⟨i, hi, e, -⟩
      · rw [if_pos e] at nx
        rw [if_pos (show lsI P j = (-1 : Int32) from e)]
        cases hp : P j
        · rw [hp] at nx; rw [e]; exact nx
        · rw [hp] at nx; exact nx
      · have ne : ¬ lsI P j = M1 := by rw [e]; exact fun q => (nI_nm1 (show i < 2 ^ 31 by omega)).mp q
        rw [if_neg ne] at nx
        rw [if_neg (show ¬ lsI P j = (-1 : Int32) from ne), bitCount_e j (by omega), o1_s]
        rw [e] at nx ⊢
        rw [nI_clamp (by omega)] at nx
        rw [bitCount_e i (by omega), o1_s]
        have p1 := popc10 i (by omega)
        have p2 := popc10 j (by omega)
        by_cases c : popc i ≤ popc j
        · rw [if_pos c] at nx
          rw [if_pos (nI_le c (by omega))]
          exact nx
        · rw [if_neg c] at nx
          rw [if_neg (nI_ge (by omega) (by omega))]
          cases hp : P j
          · rw [hp] at nx; exact nx
          · rw [hp] at nx; exact nx
  exact loop 64 2000 0 (by omega) (by omega)
theorem cd7 {σ τ : St} {n : Nat} (hB : BInv σ τ n) (th : Nat → Bool) (W : Nat → Int32) : ∀ k g, cdN (cM τ) n th W k g ≤ 7 := fun k g => cdN_le hB.1 hB.2.2.2.2.2 th W k g
theorem op_can {σ τ : St} (h : Inv σ τ) (t x : Int32) : ∃ r τ', fX7_can σ t x = some r ∧ fX8_can τ t x = some (r, τ') ∧ Inv σ τ' := by
  obtain ⟨⟨n, hB⟩, -, hS, -⟩ := id h
  unfold fX7_can fX8_can
  rw [noT_e, noS_e, isT_e, isS_e]
  simp only [gt_c]
  cases ht : off t 0 5
  · cases hx : off x 0 63
    · obtain ⟨t, ht', rfl⟩ := off_0 (b := 5) (by decide) ht
      obtain ⟨x, hx', rfl⟩ := off_0 (b := 63) (by decide) hx
      have ht6 : t < 6 := by omega
      obtain ⟨s, hT⟩ := Th_of hS ht6
      obtain ⟨v, e1, ⟨e2, e3, e4, e5, e6⟩, -⟩ := lay_e hB hT (scM_rf τ)
      simp only [Bool.not_false, Bool.not_true, if_true, if_false, Bool.false_eq_true, ↓reduceIte]
      rw [tld_e ht6, isMadeBy_e hB hT (show x < 64 by omega), e1, o1_s, makes_e hT.2.1 (cd7 hB _ _) e4 e6 (show x < 64 by omega)]
      refine ⟨bz (mk (cdN (cM τ) n th1 (Wt τ t)) s x), v, ?_, ?_, Inv_sc h (scX_rf _) e2⟩
      · cases mk (cdN (cM τ) n th1 (Wt τ t)) s x <;> rfl
      · cases mk (cdN (cM τ) n th1 (Wt τ t)) s x <;> rfl
    · exact ⟨_, _, rfl, rfl, h⟩
  · exact ⟨_, _, rfl, rfl, h⟩
theorem lsI64 (P : Nat → Bool) : lsI P 64 = M1 ∨ ∃ j, j < 64 ∧ lsI P 64 = nI j := by
  rcases lsI_in P 64 with e | ⟨j, hj, e, -⟩
  · exact Or.inl e
  · exact Or.inr ⟨j, hj, e⟩
theorem op_fewest {σ τ : St} (h : Inv σ τ) (t x : Int32) : ∃ r τ', fX7_fewest σ t x = some r ∧ fX8_fewest τ t x = some (r, τ') ∧ Inv σ τ' := by
  obtain ⟨⟨n, hB⟩, -, hS, -⟩ := id h
  unfold fX7_fewest fX8_fewest
  rw [noT_e, off_e, isT_e, j_0, j_1, in_e]
  simp only [gt_c]
  cases ht : off t 0 5
  · cases hx : off x 0 1
    · obtain ⟨t, ht', rfl⟩ := off_0 (b := 5) (by decide) ht
      have ht6 : t < 6 := by omega
      obtain ⟨s, hT⟩ := Th_of hS ht6
      obtain ⟨v, e1, ⟨e2, e3, e4, e5, e6⟩, -⟩ := lay_e hB hT (scM_rf τ)
      obtain ⟨y, y1, y2⟩ := makers_e hB hT
      simp only [Bool.not_false, Bool.not_true, if_true, if_false, Bool.false_eq_true, ↓reduceIte]
      rw [tld_e ht6, y1, o1_s, least_X y2, o1_s, e1, o1_s, least_M hT.2.1 (cd7 hB _ _) e4 e6, o1_s]
      rcases lsI64 (mk (cdN (cM τ) n th1 (Wt τ t)) s) with e | ⟨j, hj, e⟩
      · rw [e, if_pos (show M1 = (-1 : Int32) from rfl), if_pos (show M1 = (-1 : Int32) from rfl)]
        exact ⟨_, _, rfl, rfl, Inv_sc h (scX_rf _) e2⟩
      · have ne : ¬ nI j = (-1 : Int32) := fun q => (nI_nm1 (show j < 2 ^ 31 by omega)).mp q
        rw [e, if_neg ne, if_neg ne]
        by_cases c : x = 1
        · rw [if_pos c, if_pos c]
          exact ⟨_, _, rfl, rfl, Inv_sc h (scX_rf _) e2⟩
        · rw [if_neg c, if_neg c, bitCount_e j (by omega), many_e j (by omega)]
          exact ⟨_, _, rfl, rfl, Inv_sc h (scX_rf _) e2⟩
    · exact ⟨_, _, rfl, rfl, h⟩
  · exact ⟨_, _, rfl, rfl, h⟩
theorem sh6 : ∀ g, g < 6 → (1 : Int32) <<< (nI g &&& 31) = nI (2 ^ g) := by decide +kernel
theorem p6 : ∀ g, g < 6 → 2 ^ g < 64 := by decide
theorem alone_loop {σ τ : St} {n g : Nat} (hB : BInv σ τ n) (hS : SInv σ τ) (hg : g < 6) : ∀ (m f t : Nat) (v : St) (x : Int32), scM τ v → t + m = 6 → m < f → ∃ (r : Int32) (v' : St), fX7_alone_L14 σ f (nI g) x (nI t) = some r ∧ fX8_alone_L14 f v (nI g) x (nI t) = some (r, v') ∧ scM τ v' := by
  intro m
  induction m with
  | zero =>
    intro f t v x hv ht hf
    obtain ⟨f, rfl⟩ : ∃ f', f = f' + 1 := ⟨f - 1, by omega⟩
    have : t = 6 := by omega
    subst this
    rw [fX7_alone_L14, fX8_alone_L14]
    dsimp only
    rw [if_pos (by decide)]
    exact ⟨x, v, rfl, if_pos (by decide), hv⟩
  | succ m ih =>
    intro f t v x hv ht hf
    obtain ⟨f, rfl⟩ : ∃ f', f = f' + 1 := ⟨f - 1, by omega⟩
    have ht6 : t < 6 := by omega
    obtain ⟨s, hT⟩ := Th_of hS ht6
    obtain ⟨w, e1, ⟨e2, e3, e4, e5, e6⟩, -⟩ := lay_e hB hT hv
    rw [fX7_alone_L14, fX8_alone_L14]
    dsimp only
    rw [if_neg (show ¬ (6 : Int32) ≤ nI t from nI_ge (b := 6) (by omega) (by omega)), if_neg (show ¬ (6 : Int32) ≤ nI t from nI_ge (b := 6) (by omega) (by omega)), tld_e ht6, tld_e ht6, e1, o1_s, e4, hT.2.2.1, sh6 g hg, isMadeBy_e hB hT (p6 g hg), makes_e hT.2.1 (cd7 hB _ _) e4 e6 (p6 g hg)]
    simp only [gt_c, fX7_alone_L57, fX8_alone_L49, fX8_alone_L50, bd, nI_1, or0]
    by_cases c : nI s ≤ (0 : Int32)
    · rw [if_pos c, if_pos c]
      exact ih f (t + 1) w x e2 (by omega) (by omega)
    · rw [if_neg c, if_neg c]
      cases mk (cdN (cM τ) n th1 (Wt τ t)) s (2 ^ g)
      · exact ih f (t + 1) w x e2 (by omega) (by omega)
      · exact ih f (t + 1) w _ e2 (by omega) (by omega)
theorem op_alone {σ τ : St} (h : Inv σ τ) (g : Int32) : ∃ r τ', fX7_alone σ g = some r ∧ fX8_alone τ g = some (r, τ') ∧ Inv σ τ' := by
  obtain ⟨⟨n, hB⟩, -, hS, -⟩ := id h
  unfold fX7_alone fX8_alone
  rw [noG_e, isG_e]
  simp only [gt_c]
  cases hg : off g 0 5
  · obtain ⟨g, hg', rfl⟩ := off_0 (b := 5) (by decide) hg
    simp only [Bool.not_false, Bool.not_true, if_true, if_false, Bool.false_eq_true, ↓reduceIte]
    obtain ⟨r, v', a1, a2, a3⟩ := alone_loop hB hS (show g < 6 by omega) 6 2000 0 τ 0 (scM_rf τ) (by omega) (by omega)
    exact ⟨r, v', a1, a2, Inv_sc h (scX_rf _) a3⟩
  · exact ⟨_, _, rfl, rfl, h⟩
