/-! ===== the fewest bounds struck out, both ways ===== -/
theorem tch_e {x : Int32} {out : Nat} (ho : out < 1024) : (nI out &&& (x ^^^ (-1 : Int32))) = 0 ↔ ∀ b, b < 10 → out.testBit b = true → bt x b = true := by
  constructor
  · intro h b hb hbit
    have := congrArg (fun y => bt y b) h
    simp only [b_and, b_xor, b_0] at this
    rw [bt_nI (by omega), hbit, b_m1 b (by omega)] at this
    cases hx : bt x b
    · rw [hx] at this; cases this
    · rfl
  · intro h
    refine b_ext (fun i hi => ?_)
    rw [b_and, b_xor, b_0, bt_nI (by omega), b_m1 i hi]
    by_cases c : i < 10
    · cases hb : out.testBit i
      · rfl
      · rw [h i c hb]; rfl
    · rw [Nat.testBit_lt_two_pow (Nat.lt_of_lt_of_le (show out < 2 ^ 10 from ho) (Nat.pow_le_pow_right (show 0 < 2 by decide) (show 10 ≤ i by omega)))]; rfl
theorem Qs_and {σ τ : St} {n t s p : Nat} {x : Int32} (hT : Th σ τ t s) (hn : n ≤ 20) (hx : ∀ b, b < 32 → bt x b = aroB τ n t (2 * s) b) (out : Nat) : Qs τ n t s p (out &&& x.toBitVec.toNat) = Qs τ n t s p out := by
  unfold Qs
  refine anyB_cg (fun set _ => ?_)
  congr 1
  refine mk_cg set (fun k hk g hg => ?_)
  unfold cdN
  rcases hT.2.2.2.2.1 k hk with e | ⟨w, hw, e⟩
  · rw [if_pos e, if_pos e]
  · have nm : ¬ nI w = M1 := fun q => (nI_nm1 (show w < 2 ^ 31 by omega)).mp q
    rw [e, if_neg nm, if_neg nm, nI_clamp (by omega)]
    refine congrArg _ (cod_rch g w (fun b hb hr => ?_))
    unfold thO
    rw [Nat.testBit_and, ← bt_nat, hx b (by omega)]
    have : aroB τ n t (2 * s) b = true := anyB_t.mpr ⟨k, hk, by rw [e, nI_clamp (by omega), decide_eq_true hb, decide_eq_false nm, hr]; rfl⟩
    rw [this, Bool.and_true]
def Gs (τ : St) (n t s p : Nat) (x : Int32) (o : Nat) : Prop := (∀ b, b < 10 → o.testBit b = true → bt x b = true) ∧ Qs τ n t s p o = true
theorem L_zero {x : Int64} : x = 0 ↔ ∀ set, set < 64 → bL x set = false :=
  ⟨fun h set _ => by rw [h, L_0], fun h => L_ext (fun i hi => by rw [h i hi, L_0])⟩
theorem struck_in {σ τ : St} {n t s p k c : Nat} {x : Int32} {fam : Int64} (k31 : Int32 → Int32 → Int64 → Int32 → Option Int32) (hB : BInv σ τ n) (hT : Th σ τ t s) (hk : k ≤ 10) (hc : c ≤ 20) (hfam : ∀ set, set < 64 → bL fam set = decide (popc set ≤ p)) : ∀ (m f o : Nat), o + m = 2 ^ k → m < f →
    (∃ j, o ≤ j ∧ j < 2 ^ k ∧ popc j = c ∧ Gs τ n t s p x j ∧ (∀ i, o ≤ i → i < j → ¬ (popc i = c ∧ Gs τ n t s p x i)) ∧ fX1_fewestStruck_L40 σ t k31 f (nI k) (x ^^^ (-1 : Int32)) fam (nI c) (nI o) = some (nI j)) ∨
    ((∀ i, o ≤ i → i < 2 ^ k → ¬ (popc i = c ∧ Gs τ n t s p x i)) ∧ fX1_fewestStruck_L40 σ t k31 f (nI k) (x ^^^ (-1 : Int32)) fam (nI c) (nI o) = fX1_fewestStruck_L92 σ t k31 (nI k) (x ^^^ (-1 : Int32)) fam (nI c)) := by
  have h2k := p2k k (by omega)
  intro m
  induction m with
  | zero =>
    intro f o ho hf
    obtain ⟨f, rfl⟩ : ∃ f', f = f' + 1 := ⟨f - 1, by omega⟩
    right
    refine ⟨fun i h1 h2 => by omega, ?_⟩
    rw [fX1_fewestStruck_L40]
    dsimp only
    rw [sh10 k (by omega), if_pos (nI_le (by omega) (by omega))]
  | succ m ih =>
    intro f o ho hf
    obtain ⟨f, rfl⟩ : ∃ f', f = f' + 1 := ⟨f - 1, by omega⟩
    have p1 := popc10 o (by omega)
    rw [fX1_fewestStruck_L40]
    dsimp only
    rw [sh10 k (by omega), if_neg (nI_ge (by omega) (by omega)), bitCount_e o (by omega), o1_s]
    unfold fX1_fewestStruck_L86
    rw [bd_e, nI_1]
    have nxt : ¬ (popc o = c ∧ Gs τ n t s p x o) → (∃ j, o ≤ j ∧ j < 2 ^ k ∧ popc j = c ∧ Gs τ n t s p x j ∧ (∀ i, o ≤ i → i < j → ¬ (popc i = c ∧ Gs τ n t s p x i)) ∧ fX1_fewestStruck_L40 σ t k31 f (nI k) (x ^^^ (-1 : Int32)) fam (nI c) (nI (o + 1)) = some (nI j)) ∨
    ((∀ i, o ≤ i → i < 2 ^ k → ¬ (popc i = c ∧ Gs τ n t s p x i)) ∧ fX1_fewestStruck_L40 σ t k31 f (nI k) (x ^^^ (-1 : Int32)) fam (nI c) (nI (o + 1)) = fX1_fewestStruck_L92 σ t k31 (nI k) (x ^^^ (-1 : Int32)) fam (nI c)) := by
      intro hno
      rcases ih f (o + 1) (by omega) (by omega) with ⟨j, j1, j2, j3, j4, j5, j6⟩ | ⟨j1, j2⟩
      · left
        refine ⟨j, by omega, j2, j3, j4, fun i h1 h2 => ?_, j6⟩
        by_cases e : i = o
        · rw [e]; exact hno
        · exact j5 i (by omega) h2
      · right
        refine ⟨fun i h1 h2 => ?_, j2⟩
        by_cases e : i = o
        · rw [e]; exact hno
        · exact j1 i (by omega) h2
    by_cases c1 : popc o = c
    · rw [if_pos (show nI (popc o) = nI c by rw [c1])]
      by_cases c2 : (nI o &&& (x ^^^ (-1 : Int32))) = 0
      · rw [if_pos c2]
        obtain ⟨y, y1, y2⟩ := setsThing_e (th := thO o) (m := nI o ^^^ (-1 : Int32)) (-1) fam hB hT (fun b hb => by
          have := hB.1
          rw [b_xor, bt_nI (by omega), b_m1 b (by omega)]
          unfold thO
          cases o.testBit b <;> rfl)
        rw [y1, o1_s]
        have y3 : ∀ set, set < 64 → bL y set = (decide (popc set ≤ p) && mk (cdN (cM τ) n (thO o) (Wt τ t)) s set) := fun set hset => by
          rw [y2 set hset, hfam set hset]
          congr 1
          exact allB_cg (fun i hi => by rw [lft_m1 (by have := hT.2.1; omega), Bool.false_or])
        have y4 : y = 0 ↔ Qs τ n t s p o = false := by
          rw [L_zero]
          unfold Qs
          rw [anyB_f]
          exact ⟨fun h set hset => by rw [← y3 set hset]; exact h set hset, fun h set hset => by rw [y3 set hset]; exact h set hset⟩
        by_cases c3 : y = 0
        · rw [if_pos ((lgc0 y).mpr c3)]
          exact nxt (fun q => by have := q.2.2; rw [y4.mp c3] at this; exact Bool.noConfusion this)
        · rw [if_neg (fun q => c3 ((lgc0 y).mp q))]
          left
          refine ⟨o, Nat.le_refl _, by omega, c1, ⟨(tch_e (by omega)).mp c2, ?_⟩, fun i h1 h2 => by omega, rfl⟩
          cases hq : Qs τ n t s p o
          · exact (c3 (y4.mpr hq)).elim
          · rfl
      · rw [if_neg c2]
        exact nxt (fun q => c2 ((tch_e (by omega)).mpr q.2.1))
    · rw [if_neg (show ¬ nI (popc o) = nI c from by rw [nI_eq (by omega) (by omega)]; exact c1)]
      exact nxt (fun q => c1 q.1)
theorem struck_out {σ τ : St} {n t s p k : Nat} {x : Int32} {fam : Int64} (hB : BInv σ τ n) (hT : Th σ τ t s) (hk : k ≤ 10) (hfam : ∀ set, set < 64 → bL fam set = decide (popc set ≤ p)) : ∀ (m f c : Nat), c + m = k + 1 → m < f →
    (∃ j, j < 2 ^ k ∧ c ≤ popc j ∧ Gs τ n t s p x j ∧ (∀ i, i < 2 ^ k → c ≤ popc i → Gs τ n t s p x i → popc j < popc i ∨ (popc j = popc i ∧ j ≤ i)) ∧ fX1_fewestStruck_L31 σ t f (nI k) (x ^^^ (-1 : Int32)) fam (nI c) = some (nI j)) ∨
    ((∀ i, i < 2 ^ k → c ≤ popc i → ¬ Gs τ n t s p x i) ∧ fX1_fewestStruck_L31 σ t f (nI k) (x ^^^ (-1 : Int32)) fam (nI c) = some (-1)) := by
  intro m
  induction m with
  | zero =>
    intro f c hc hf
    obtain ⟨f, rfl⟩ : ∃ f', f = f' + 1 := ⟨f - 1, by omega⟩
    right
    refine ⟨fun i h1 h2 => by have := popc_k k (by omega) i h1; omega, ?_⟩
    rw [fX1_fewestStruck_L31]
    dsimp only
    rw [if_pos (nI_lt (by omega) (by omega))]
  | succ m ih =>
    intro f c hc hf
    obtain ⟨f, rfl⟩ : ∃ f', f = f' + 1 := ⟨f - 1, by omega⟩
    have h2k := p2k k (by omega)
    rw [fX1_fewestStruck_L31]
    dsimp only
    rw [if_neg (nI_nlt (by omega) (by omega))]
    rcases struck_in (x := x) (c := c) (fX1_fewestStruck_L31 σ t f) hB hT hk (by omega) hfam (2 ^ k) 2000 0 (by omega) (by omega) with ⟨j, -, j2, j3, j4, j5, j6⟩ | ⟨j1, j2⟩
    · left
      rw [show nI 0 = (0 : Int32) from rfl] at j6
      refine ⟨j, j2, by omega, j4, fun i h1 h2 h3 => ?_, j6⟩
      by_cases e : popc i = c
      · right
        refine ⟨by omega, ?_⟩
        by_cases q : i < j
        · exact (j5 i (by omega) q ⟨e, h3⟩).elim
        · omega
      · left; omega
    · rw [show nI 0 = (0 : Int32) from rfl] at j2
      rw [j2]
      unfold fX1_fewestStruck_L92
      rw [bd_e, nI_1]
      rcases ih f (c + 1) (by omega) (by omega) with ⟨j, a1, a2, a3, a4, a5⟩ | ⟨a1, a2⟩
      · left
        refine ⟨j, a1, by omega, a3, fun i h1 h2 h3 => ?_, a5⟩
        by_cases e : popc i = c
        · exact (j1 i (by omega) h1 ⟨e, h3⟩).elim
        · exact a4 i h1 (by omega) h3
      · right
        refine ⟨fun i h1 h2 h3 => ?_, a2⟩
        by_cases e : popc i = c
        · exact j1 i (by omega) h1 ⟨e, h3⟩
        · exact a1 i h1 (by omega) h3
theorem struck_X {σ τ : St} {n t s p : Nat} (hB : BInv σ τ n) (hT : Th σ τ t s) (hp : p ≤ 6) : fX1_fewestStruck σ t (nI p) = some (lsI (Qs τ n t s p) (2 ^ min n 10)) := by
  have hn := hB.1
  obtain ⟨x, x1, x2⟩ := around_e hB hT
  obtain ⟨fam, f1, f2⟩ := upTo_e hp
  have hk : min n 10 ≤ 10 := Nat.min_le_right _ _
  have hkn : min n 10 ≤ n := Nat.min_le_left _ _
  have e10 : mi (nI n) (10 : Int32) = nI (min n 10) := mi_e (b := 10) (by omega) (by omega)
  unfold fX1_fewestStruck
  rw [hB.2.1, e10, bd_e, x1, o1_s, bd_e, f1, o1_s]
  generalize min n 10 = k at hk hkn ⊢
  have h2k := p2k k (by omega)
  rcases struck_out (x := x) hB hT hk f2 (k + 1) 2000 0 (by omega) (by omega) with ⟨j, a1, -, a3, a4, a5⟩ | ⟨a1, a2⟩
  · rw [show nI 0 = (0 : Int32) from rfl] at a5
    rw [a5]
    rcases lsI_in (Qs τ n t s p) (2 ^ k) with e | ⟨i, hi, e, pi⟩
    · have := lsI_none (by omega) e j a1
      rw [a3.2] at this; cases this
    · obtain ⟨b1, b2, b3⟩ := lsI_some (by omega) (show i < 2 ^ 31 by omega) e
      obtain ⟨p1, p2⟩ := popc_and i x.toBitVec.toNat
      have hle : i &&& x.toBitVec.toNat ≤ i := Nat.and_le_left
      have hG : Gs τ n t s p x i := by
        refine ⟨fun b hb hbit => ?_, b1⟩
        cases hxb : bt x b
        · rw [bt_nat] at hxb
          have := p2 ⟨b, hb, hbit, hxb⟩
          have := b3 (i &&& x.toBitVec.toNat) (by omega) (by rw [Qs_and hT hn x2]; exact b1)
          omega
        · rfl
      have q1 := a4 i hi (Nat.zero_le _) hG
      have q2 := b3 j a1 a3.2
      have : i = j := by omega
      rw [e, this]
  · rw [show nI 0 = (0 : Int32) from rfl] at a2
    rw [a2]
    rcases lsI_in (Qs τ n t s p) (2 ^ k) with e | ⟨i, hi, e, pi⟩
    · rw [e]; rfl
    · have hle : i &&& x.toBitVec.toNat ≤ i := Nat.and_le_left
      refine (a1 (i &&& x.toBitVec.toNat) (by omega) (Nat.zero_le _) ⟨fun b hb hbit => ?_, by rw [Qs_and hT hn x2]; exact pi⟩).elim
      rw [Nat.testBit_and, Bool.and_eq_true] at hbit
      rw [bt_nat]; exact hbit.2
theorem struck_M {σ τ : St} {n t s p k : Nat} (hB : BInv σ τ n) (hT : Th σ τ t s) (hp : p ≤ 6) (hk : k ≤ 10) : ∀ (m f o : Nat) (v : St), o + m = 2 ^ k → m < f → scM τ v → v 0 22 = nI n → v 0 25 = nI s → (∀ j, j < 2 * s → v 13 j = Wt τ t j) → ∃ v', fX8_struck_L59 f v (nI p) (nI k) (lsI (Qs τ n t s p) o) (nI o) = some (lsI (Qs τ n t s p) (2 ^ k), v') ∧ scM τ v' := by
  have hn := hB.1
  have hs8 := hT.2.1
  have h2k := p2k k (by omega)
  intro m
  induction m with
  | zero =>
    intro f o v ho hf h1 h2 h3 h4
    obtain ⟨f, rfl⟩ : ∃ f', f = f' + 1 := ⟨f - 1, by omega⟩
    have : o = 2 ^ k := by omega
    subst this
    rw [fX8_struck_L59]
    dsimp only
    rw [sh10 k (by omega), if_pos (nI_le (Nat.le_refl _) (by omega))]
    exact ⟨v, rfl, h1⟩
  | succ m ih =>
    intro f o v ho hf h1 h2 h3 h4
    obtain ⟨f, rfl⟩ : ∃ f', f = f' + 1 := ⟨f - 1, by omega⟩
    rw [fX8_struck_L59]
    dsimp only
    rw [sh10 k (by omega), if_neg (nI_ge (by omega) (by omega))]
    have body : ∀ best : Int32, lsI (Qs τ n t s p) (o + 1) = (if Qs τ n t s p o then nI o else best) → ∃ v', fX8_struck_L86 (fX8_struck_L59 f) v (nI p) (nI k) best (nI o) = some (lsI (Qs τ n t s p) (2 ^ k), v') ∧ scM τ v' := by
      intro best hb
      obtain ⟨v2, a1, a2, a3⟩ := layCodes_e (v := st_wr v 0 21 (nI o)) (W := Wt τ t) (th := thO o) hB hs8 hT.2.2.2.2.1 (scM_tr h1 (scM_0 (by decide) (by decide) (by decide) (by decide) (by decide))) (fun b hb => by
          rw [thM_e _ (by omega), wr_js, wr_jn (by decide), h2, bt_nI (by omega), decide_eq_false (nI_ge hb (by omega))]
          unfold thO
          rw [Bool.not_false, Bool.true_and]) (by rw [wr_jn (by decide)]; exact h3) (fun j hj => by rw [wr_ne (by decide)]; exact h4 j hj)
      have h25 : v2 0 25 = nI s := by rw [a2 0 (by decide), wr_jn (by decide)]; exact h3
      have h22 : v2 0 22 = nI n := by rw [a2 0 (by decide), wr_jn (by decide)]; exact h2
      have hsc : scM τ v2 := by
        have := scM_tr h1 (scM_0 (u := v) (j := 21) (v := nI o) (by decide) (by decide) (by decide) (by decide) (by decide))
        exact ⟨by rw [a2 0 (by decide)]; exact this.1, fun q q1 q2 q3 => (a2 q (by omega)).trans (this.2 q q1 q2 q3)⟩
      have h13 : ∀ j, j < 2 * s → v2 13 j = Wt τ t j := fun j hj => by rw [a2 13 (by decide), wr_ne (by decide)]; exact h4 j hj
      have hq : decide (nd (mk (cdN (cM τ) n (thO o) (Wt τ t)) s) ≤ p) = Qs τ n t s p o := nd_p hp
      have hnd := nd_le (mk (cdN (cM τ) n (thO o) (Wt τ t)) s)
      unfold fX8_struck_L86
      rw [bd_e, a1, o1_s, needed_e hs8 (cd7 hB _ _) h25 a3, o1_s]
      unfold fX8_struck_L111 fX8_struck_L113
      rw [bd_e, bd_e, nI_1]
      have nx := ih f (o + 1) v2 (by omega) (by omega) hsc h22 h25 h13
      rw [hb] at nx
      by_cases c : nd (mk (cdN (cM τ) n (thO o) (Wt τ t)) s) ≤ p
      · rw [decide_eq_true c] at hq
        rw [if_neg (nI_nlt c (by omega))]
        rw [← hq, if_pos rfl] at nx
        exact nx
      · rw [decide_eq_false c] at hq
        rw [if_pos (nI_lt (by omega) (by omega))]
        rw [← hq] at nx
        exact nx
    rcases lsI_in (Qs τ n t s p) o with e | ⟨i, hi, e, pi⟩
    · rw [e, if_pos (show M1 = (-1 : Int32) from rfl)]
      exact body M1 (by rw [lsI, if_pos e])
    · have ne : ¬ nI i = M1 := fun q => (nI_nm1 (show i < 2 ^ 31 by omega)).mp q
      have p1 := popc10 i (by omega)
      have p2 := popc10 o (by omega)
      rw [e, if_neg (show ¬ nI i = (-1 : Int32) from ne), many_e o (by omega), o1_s, many_e i (by omega), o1_s]
      by_cases c : popc i ≤ popc o
      · rw [if_pos (nI_le c (by omega))]
        unfold fX8_struck_L113
        rw [bd_e, nI_1]
        have nx := ih f (o + 1) v (by omega) (by omega) h1 h2 h3 h4
        rw [lsI, e, if_neg ne, nI_clamp (by omega), if_pos c] at nx
        exact nx
      · rw [if_neg (nI_ge (by omega) (by omega))]
        exact body (nI i) (by rw [lsI, e, if_neg ne, nI_clamp (by omega), if_neg c])
theorem op_struck {σ τ : St} (h : Inv σ τ) (t p : Int32) : ∃ r τ', fX7_struck σ t p = some r ∧ fX8_struck τ t p = some (r, τ') ∧ Inv σ τ' := by
  obtain ⟨⟨n, hB⟩, -, hS, -⟩ := id h
  unfold fX7_struck fX8_struck
  rw [noT_e, off_e, isT_e, j_0, j_6, in_e]
  simp only [gt_c]
  cases ht : off t 0 5
  · cases hp : off p 0 6
    · obtain ⟨t, ht', rfl⟩ := off_0 (b := 5) (by decide) ht
      obtain ⟨p, hp6, rfl⟩ := off_0 (b := 6) (by decide) hp
      have ht6 : t < 6 := by omega
      have hn := hB.1
      obtain ⟨s, hT⟩ := Th_of hS ht6
      have hs8 := hT.2.1
      obtain ⟨v1, a1, a2, a3, a4, a5, a6⟩ := allThere_e τ
      obtain ⟨v2, b1, b2, b3, b4, b5, b6⟩ := layWorks_e hT a2
      have h22 : v2 0 22 = nI n := by rw [b4 22 (by decide), a4]; exact hB.2.2.1
      have h3 : v2 0 3 = nI n := by rw [b2.1.2.1]; exact hB.2.2.1
      simp only [Bool.not_false, Bool.not_true, if_true, if_false, Bool.false_eq_true, ↓reduceIte]
      rw [tld_e ht6, struck_X hB hT hp6, o1_s, a1, o1_s, b1, o1_s, h3]
      have h2k := p2k (min n 10) (by have := Nat.min_le_right n 10; omega)
      obtain ⟨v', c1, c2⟩ := struck_M (k := min n 10) hB hT hp6 (Nat.min_le_right _ _) (2 ^ min n 10) 2000 0 v2 (by omega) (by omega) b2 h22 b5 b6
      rw [show nI 0 = (0 : Int32) from rfl, show lsI (Qs τ n t s p) 0 = (-1 : Int32) from rfl] at c1
      unfold fX8_struck_L52
      by_cases c : 10 ≤ n
      · rw [if_pos (show (10 : Int32) ≤ nI n from nI_le (a := 10) c (by omega))]
        have e : (10 : Int32) = nI (min n 10) := by rw [Nat.min_eq_right c]; rfl
        rw [e, c1]
        exact ⟨_, _, rfl, rfl, Inv_sc h (scX_rf _) c2⟩
      · rw [if_neg (show ¬ (10 : Int32) ≤ nI n from nI_ge (b := 10) (by omega) (by omega))]
        have e : nI n = nI (min n 10) := by rw [Nat.min_eq_left (by omega)]
        rw [e, c1]
        exact ⟨_, _, rfl, rfl, Inv_sc h (scX_rf _) c2⟩
    · exact ⟨_, _, rfl, rfl, h⟩
  · exact ⟨_, _, rfl, rfl, h⟩
