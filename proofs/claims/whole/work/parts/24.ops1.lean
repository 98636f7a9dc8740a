/-! ===== the calls, one by one: both answer alike, and hold the same behind it ===== -/
theorem gt_c {β : Type} (b : Bool) (A B : Option β) : oz (some (bz b)) (fun x => if x = 0 then A else B) = if b then B else A := by cases b <;> rfl
theorem fstI_cg {P Q : Nat → Bool} : ∀ {n : Nat}, (∀ b, b < n → P b = Q b) → fstI P n = fstI Q n
  | 0, _ => rfl
  | n + 1, h => by rw [fstI, fstI, fstI_cg (fun b hb => h b (by omega)), h n (by omega)]
theorem lstI_cg {P Q : Nat → Bool} : ∀ {n : Nat}, (∀ b, b < n → P b = Q b) → lstI P n = lstI Q n
  | 0, _ => rfl
  | n + 1, h => by rw [lstI, lstI, lstI_cg (fun b hb => h b (by omega)), h n (by omega)]
theorem rch_cg {c c' : Nat → Nat → Int32} {n b : Nat} (w : Nat) (h : ∀ b, b < n → ∀ k, k < 7 → c b k = c' b k) (hb : b < n) : rch c b w = rch c' b w := by
  unfold rch
  rw [h b hb 3 (by decide), h b hb 4 (by decide), h b hb 5 (by decide), h b hb 6 (by decide)]
theorem dcd_cg {c c' : Nat → Nat → Int32} {n : Nat} {th th' : Nat → Bool} (g w : Nat) (h : ∀ b, b < n → ∀ k, k < 7 → c b k = c' b k) (ht : ∀ b, b < n → th b = th' b) : dcd c n th g w = dcd c' n th' g w := by
  unfold dcd
  rw [fstI_cg (P := k_gr c th g w) (Q := k_gr c' th' g w) (fun b hb => by unfold k_gr; rw [ht b hb, rch_cg w h hb, h b hb 0 (by decide), h b hb 1 (by decide)])]
  rw [fstI_cg (P := k_fo c th g w) (Q := k_fo c' th' g w) (fun b hb => by unfold k_fo; rw [ht b hb, rch_cg w h hb, h b hb 0 (by decide), h b hb 1 (by decide)])]
  rw [lstI_cg (P := k_pl c th g w) (Q := k_pl c' th' g w) (fun b hb => by unfold k_pl; rw [ht b hb, rch_cg w h hb, h b hb 0 (by decide), h b hb 1 (by decide)])]
  rw [lstI_cg (P := k_oo c th g w) (Q := k_oo c' th' g w) (fun b hb => by unfold k_oo; rw [ht b hb, rch_cg w h hb, h b hb 0 (by decide), h b hb 1 (by decide)])]
theorem cod_cg {c c' : Nat → Nat → Int32} {n : Nat} {th th' : Nat → Bool} (g w : Nat) (hn : n ≤ 20) (h : ∀ b, b < n → ∀ k, k < 7 → c b k = c' b k) (ht : ∀ b, b < n → th b = th' b) : cod c n th g w = cod c' n th' g w := by
  unfold cod
  rw [dcd_cg g w h ht]
  rcases dcd_in c' hn th' g w with e | ⟨b, hb, e⟩
  · rw [e]; unfold codB; rw [if_pos rfl, if_pos rfl]
  · rw [e]; unfold codB
    rw [nI_clamp (by omega), h b hb 0 (by decide), h b hb 1 (by decide), h b hb 2 (by decide)]
/-- one bit, as the reference asks for it -/
theorem bit1 (x : Int32) {b : Nat} (hb : b < 32) : (x >>> (nI b &&& 31)) &&& (1 : Int32) = 0 ↔ bt x b = false := by
  have h1 : ∀ i, i < 32 → bt ((x >>> (nI b &&& 31)) &&& (1 : Int32)) i = (bt x b && decide (i = 0)) := by
    intro i hi
    rw [b_and, b_sshr b hb x hi]
    by_cases h0 : i = 0
    · subst h0
      rw [if_pos (by omega), Nat.add_zero, (by decide : bt 1 0 = true)]; simp
    · rw [(by decide +kernel : ∀ i, i < 32 → i ≠ 0 → bt 1 i = false) i hi h0]; simp [h0]
  refine ⟨fun e => ?_, fun e => b_ext (fun i hi => ?_)⟩
  · have := h1 0 (by decide)
    rw [e, b_0] at this
    simpa using this.symm
  · rw [h1 i hi, e, b_0]; rfl
theorem thM_e (u : St) {b : Nat} (hb : b < 32) : thM u b = (!decide (u 0 22 ≤ nI b) && !bt (u 0 21) b) := by
  unfold thM
  congr 1
  cases e : bt (u 0 21) b
  · rw [decide_eq_true ((bit1 _ hb).mpr e)]; rfl
  · rw [decide_eq_false (fun q => by rw [(bit1 _ hb).mp q] at e; cases e)]; rfl
/-- all bounds count -/
def th1 : Nat → Bool := fun _ => true
theorem th_all {u : St} {n m : Nat} (hn : n ≤ 20) (hm : m ≤ 20) (h1 : u 0 22 = nI m) (h2 : u 0 21 = 0) : ∀ b, b < n → thM u b = decide (b < m) := by
  intro b hb
  rw [thM_e u (by omega), h1, h2, b_0]
  by_cases h : b < m
  · rw [decide_eq_false (nI_ge h (by omega)), decide_eq_true h]; rfl
  · rw [decide_eq_true (nI_le (by omega) (by omega)), decide_eq_false h]; rfl
theorem allThere_e (u : St) : ∃ v, fX8_allThere u = some v ∧ scM u v ∧ v 0 21 = 0 ∧ v 0 22 = u 0 3 ∧ (∀ k, k ≠ 0 → v k = u k) ∧ (∀ j, j ≠ 21 → j ≠ 22 → v 0 j = u 0 j) := by
  refine ⟨st_wr (st_wr u 0 21 0) 0 22 (st_wr u 0 21 0 0 3), rfl, scM_tr (scM_0 (by decide) (by decide) (by decide) (by decide) (by decide)) (scM_0 (by decide) (by decide) (by decide) (by decide) (by decide)), ?_, ?_, fun k hk => ?_, fun j h1 h2 => ?_⟩
  · rw [wr_jn (by decide), wr_js]
  · rw [wr_js, wr_jn (by decide)]
  · rw [wr_ne hk, wr_ne hk]
  · rw [wr_jn h2, wr_jn h1]
theorem m1_all {n : Nat} (hn : n ≤ 20) : ∀ b, b < n → bt (-1) b = th1 b := fun b hb => b_m1 b (by omega)
theorem code_all {σ τ : St} {n g w : Nat} (hB : BInv σ τ n) {v : St} (hs : scM τ v) (h21 : v 0 21 = 0) (h22 : v 0 22 = τ 0 3) (hg : g < 6) (hw : w < 240) : fX8_code v (nI g) (nI w) = some (cod (cM τ) n th1 g w) := by
  obtain ⟨hn, h1, h2, h3, h4, h5⟩ := hB
  rw [code_M hn (hs.1.2.1.trans h2) hg hw, cM_sc hs]
  rw [cod_cg g w hn (fun _ _ _ _ => rfl) (th' := th1) (fun b hb => by rw [th_all hn hn (h22.trans h2) h21 b hb, decide_eq_true hb]; rfl)]
theorem leave_all {σ τ : St} {n g w : Nat} (hB : BInv σ τ n) (hg : g < 6) (hw : w < 240) : fX0_leave σ (nI g) (nI w) (-1) = some (cod (cM τ) n th1 g w) := by
  obtain ⟨hn, h1, h2, h3, h4, h5⟩ := hB
  rw [leave_X hn h4 (m1_all hn) hg hw, cod_cg g w hn h3 (fun _ _ => rfl)]
theorem op_may {σ τ : St} (h : Inv σ τ) (g w : Int32) : ∃ r τ', fX7_may σ g w = some r ∧ fX8_may τ g w = some (r, τ') ∧ Inv σ τ' := by
  obtain ⟨⟨n, hB⟩, -⟩ := id h
  unfold fX7_may fX8_may
  rw [noG_e, noW_e, isG_e, isW_e]
  simp only [gt_c]
  cases hg : off g 0 5
  · cases hw : off w 0 239
    · obtain ⟨g, hg', rfl⟩ := off_0 (b := 5) (by decide) hg
      obtain ⟨w, hw', rfl⟩ := off_0 (b := 239) (by decide) hw
      obtain ⟨v, e1, e2, e3, e4, -⟩ := allThere_e τ
      simp only [Bool.not_false, Bool.not_true, if_true, if_false, Bool.false_eq_true, ↓reduceIte]
      rw [leave_all hB (by omega) (by omega), e1]
      simp only [o1_s]
      rw [code_all hB e2 e3 e4 (by omega) (by omega)]
      exact ⟨_, _, rfl, rfl, Inv_sc h (scX_rf _) e2⟩
    · exact ⟨_, _, rfl, rfl, h⟩
  · exact ⟨_, _, rfl, rfl, h⟩
theorem op_why {σ τ : St} (h : Inv σ τ) (g w : Int32) : ∃ r τ', fX7_why σ g w = some r ∧ fX8_why τ g w = some (r, τ') ∧ Inv σ τ' := by
  obtain ⟨⟨n, hn, h1, h2, h3, h4, h5⟩, -⟩ := id h
  unfold fX7_why fX8_why
  rw [noG_e, noW_e, isG_e, isW_e]
  simp only [gt_c]
  cases hg : off g 0 5
  · cases hw : off w 0 239
    · obtain ⟨g, hg', rfl⟩ := off_0 (b := 5) (by decide) hg
      obtain ⟨w, hw', rfl⟩ := off_0 (b := 239) (by decide) hw
      obtain ⟨v, e1, e2, e3, e4, -⟩ := allThere_e τ
      simp only [Bool.not_false, Bool.not_true, if_true, if_false, Bool.false_eq_true, ↓reduceIte]
      rw [deciding_X hn h4 (m1_all hn) (by omega) (by omega), e1]
      simp only [o1_s]
      rw [decides_M hn (e2.1.2.1.trans h2) (by omega) (by omega), cM_sc e2]
      rw [dcd_cg g w (c := cX σ) (c' := cM τ) (th' := thM v) h3 (fun b hb => by rw [th_all hn hn (e4.trans h2) e3 b hb, decide_eq_true hb]; rfl)]
      exact ⟨_, _, rfl, rfl, Inv_sc h (scX_rf _) e2⟩
    · exact ⟨_, _, rfl, rfl, h⟩
  · exact ⟨_, _, rfl, rfl, h⟩
theorem op_bound {σ τ : St} (h : Inv σ τ) (b k : Int32) : ∃ r, fX7_bound σ b k = some r ∧ fX8_bound τ b k = some r := by
  obtain ⟨⟨n, hn, h1, h2, h3, h4, h5⟩, -⟩ := id h
  unfold fX7_bound fX8_bound
  rw [noB_e, isB_e, off_e, j_0, j_6, in_e, h1, h2]
  simp only [gt_c]
  cases hb : off b 0 (nI n - 1)
  · cases hk : off k 0 6
    · obtain ⟨b, hb', rfl⟩ := off_n (by omega) hb
      obtain ⟨k, hk', rfl⟩ := off_0 (b := 6) (by decide) hk
      simp only [Bool.not_false, Bool.not_true, if_true, if_false, Bool.false_eq_true, ↓reduceIte]
      rw [cell_X (by omega) (by omega), h3 b hb' k (by omega)]
      refine ⟨_, rfl, ?_⟩
      simp (disch := omega) only [↓l_m1, ↓l_m2, ↓l_m3, ↓l_m4, ↓l_m5, l_0, l_1, l_2, l_3, l_4, l_5, l_6, l_7, l_8, l_9, l_10, l_11, l_12, l_13, l_14, l_15, l_16, l_17, l_18, l_19, l_20, l_21, l_22, l_23, l_24, l_25, l_26, l_27, l_28, l_29, l_30, l_31, l_32, l_40, l_48, l_56, l_57, l_59, l_63, l_64, l_96, l_97, l_99, l_122, l_159, l_160, l_239, l_240, l_255, l_256, l_1000, l_1440, l_65536, l_1000000, l_268435456, bd, o1_s, o2_s, oz_0, oz_1, o2z_0, o2z_1, rb_0, rb_1, ald_e, asr_e, tld_e, nI_add, pk_mul, pk_div, w_rem, nI_leI, nI_ltI, nI_eq, nI_nm1, m1_nI, if_true, if_false, ↓reduceIte, Bool.false_eq_true]
      rfl
    · exact ⟨_, rfl, rfl⟩
  · exact ⟨_, rfl, rfl⟩
/-- the guilds that may, by bits -/
def whoS (P : Nat → Bool) : Nat → Int32
  | 0 => 0
  | g + 1 => if P g then whoS P g ||| ((1 : Int32) <<< (nI g &&& 31)) else whoS P g
theorem or0 (x : Int32) : x ||| (0 : Int32) = x := b_ext (fun i _ => by rw [b_or, b_0, Bool.or_false])
def mayB (c : Nat → Nat → Int32) (n : Nat) (th : Nat → Bool) (g w : Nat) : Bool := !decide (cod c n th g w = 0)
theorem cod_in {c : Nat → Nat → Int32} {n : Nat} (hn : n ≤ 20) (hw : wfB c n) (th : Nat → Bool) (g w : Nat) : cod c n th g w = nI 0 ∨ cod c n th g w = nI 1 ∨ ∃ h, h < 6 ∧ cod c n th g w = nI (2 + h) := by
  unfold cod
  rcases dcd_in c hn th g w with e | ⟨b, hb, e⟩
  · rw [e]; left; unfold codB; rw [if_pos rfl]; rfl
  · rw [e]; unfold codB
    rw [if_neg (fun q => (nI_nm1 (show b < 2 ^ 31 by omega)).mp q), nI_clamp (by omega)]
    obtain ⟨-, -, w3⟩ := hw b hb
    by_cases a1 : c b 1 = nI g
    · rw [if_pos a1]
      by_cases a2 : c b 0 = nI 1
      · rw [if_pos a2]; left; rfl
      · rw [if_neg a2]
        by_cases a3 : c b 0 = nI 3
        · rw [if_pos a3]
          obtain ⟨k, hk, e2⟩ := w3 a3
          right; right
          exact ⟨k, hk, by rw [e2, l_2, nI_add]⟩
        · rw [if_neg a3]; right; left; rfl
    · rw [if_neg a1]; left; rfl
theorem cod_pos {c : Nat → Nat → Int32} {n : Nat} (hn : n ≤ 20) (hw : wfB c n) (th : Nat → Bool) (g w : Nat) : cod c n th g w ≤ 0 ↔ cod c n th g w = 0 := by
  rcases cod_in hn hw th g w with e | e | ⟨h, hh, e⟩
  · rw [e]; exact ⟨fun _ => rfl, fun _ => by decide⟩
  · rw [e]; decide
  · rw [e, l_0, nI_leI (by omega) (by omega), nI_eq (by omega) (by omega)]; omega
theorem who_M {σ τ v : St} {n w : Nat} (hB : BInv σ τ n) (hs : scM τ v) (h21 : v 0 21 = 0) (h22 : v 0 22 = τ 0 3) (hw : w < 240) : ∀ (m f g : Nat), g + m = 6 → m < f → fX8_whoMay_L4 v f (nI w) (whoS (fun g => mayB (cM τ) n th1 g w) g) (nI g) = some (whoS (fun g => mayB (cM τ) n th1 g w) 6) := by
  intro m
  induction m with
  | zero =>
    intro f g hg hf
    obtain ⟨f, rfl⟩ : ∃ f', f = f' + 1 := ⟨f - 1, by omega⟩
    have : g = 6 := by omega
    subst this
    rw [fX8_whoMay_L4]
    dsimp only
    rw [if_pos (by decide)]
  | succ m ih =>
    intro f g hg hf
    obtain ⟨f, rfl⟩ : ∃ f', f = f' + 1 := ⟨f - 1, by omega⟩
    rw [fX8_whoMay_L4]
    dsimp only
    rw [if_neg (show ¬ (6 : Int32) ≤ nI g from nI_ge (b := 6) (by omega) (by omega)), code_all hB hs h21 h22 (by omega) hw, o1_s]
    have := ih f (g + 1) (by omega) (by omega)
    rw [whoS] at this
    unfold mayB at this ⊢
    simp only [fX8_whoMay_L27, bd, nI_1]
    by_cases c : cod (cM τ) n th1 g w = 0
    · rw [if_pos ((cod_pos hB.1 hB.2.2.2.2.2 th1 g w).mpr c), or0]
      simp only [c, decide_true, Bool.not_false, Bool.not_true, if_true, if_false, Bool.false_eq_true, ↓reduceIte] at this
      exact this
    · rw [if_neg (fun q => c ((cod_pos hB.1 hB.2.2.2.2.2 th1 g w).mp q))]
      simp only [c, decide_false, Bool.not_false, Bool.not_true, if_true, if_false, Bool.false_eq_true, ↓reduceIte] at this
      exact this
theorem who_X {σ τ : St} {n w : Nat} (hB : BInv σ τ n) (hw : w < 240) : ∀ (m f g : Nat), g + m = 6 → m < f → fX0_guildsThatMay_L4 σ f (nI w) (whoS (fun g => mayB (cM τ) n th1 g w) g) (nI g) = some (whoS (fun g => mayB (cM τ) n th1 g w) 6) := by
  intro m
  induction m with
  | zero =>
    intro f g hg hf
    obtain ⟨f, rfl⟩ : ∃ f', f = f' + 1 := ⟨f - 1, by omega⟩
    have : g = 6 := by omega
    subst this
    rw [fX0_guildsThatMay_L4]
    dsimp only
    rw [if_pos (by decide)]
  | succ m ih =>
    intro f g hg hf
    obtain ⟨f, rfl⟩ : ∃ f', f = f' + 1 := ⟨f - 1, by omega⟩
    rw [fX0_guildsThatMay_L4]
    dsimp only
    rw [if_neg (show ¬ (6 : Int32) ≤ nI g from nI_ge (b := 6) (by omega) (by omega)), leave_all hB (by omega) hw, o1_s]
    have := ih f (g + 1) (by omega) (by omega)
    rw [whoS] at this
    unfold mayB at this ⊢
    simp only [fX0_guildsThatMay_L26, bd, nI_1]
    by_cases c : cod (cM τ) n th1 g w = 0
    · rw [if_pos c]
      simp only [c, decide_true, Bool.not_false, Bool.not_true, if_true, if_false, Bool.false_eq_true, ↓reduceIte] at this
      exact this
    · rw [if_neg c]
      simp only [c, decide_false, Bool.not_false, Bool.not_true, if_true, if_false, Bool.false_eq_true, ↓reduceIte] at this
      exact this
def whoV (τ : St) (n w : Nat) : Int32 := whoS (fun g => mayB (cM τ) n th1 g w) 6
theorem whoMay_e {σ τ v : St} {n w : Nat} (hB : BInv σ τ n) (hs : scM τ v) (h21 : v 0 21 = 0) (h22 : v 0 22 = τ 0 3) (hw : w < 240) : fX8_whoMay v (nI w) = some (whoV τ n w) := who_M hB hs h21 h22 hw 6 2000 0 (by omega) (by omega)
theorem guilds_e {σ τ : St} {n w : Nat} (hB : BInv σ τ n) (hw : w < 240) : fX0_guildsThatMay σ (nI w) = some (whoV τ n w) := who_X hB hw 6 2000 0 (by omega) (by omega)
theorem op_who {σ τ : St} (h : Inv σ τ) (w : Int32) : ∃ r τ', fX7_who σ w = some r ∧ fX8_who τ w = some (r, τ') ∧ Inv σ τ' := by
  obtain ⟨⟨n, hB⟩, -⟩ := id h
  unfold fX7_who fX8_who
  rw [noW_e, isW_e]
  simp only [gt_c]
  cases hw : off w 0 239
  · obtain ⟨w, hw', rfl⟩ := off_0 (b := 239) (by decide) hw
    obtain ⟨v, e1, e2, e3, e4, -⟩ := allThere_e τ
    simp only [Bool.not_false, Bool.not_true, if_true, if_false, Bool.false_eq_true, ↓reduceIte]
    rw [guilds_e hB (by omega), e1]
    simp only [o1_s]
    rw [whoMay_e hB e2 e3 e4 (by omega)]
    exact ⟨_, _, rfl, rfl, Inv_sc h (scX_rf _) e2⟩
  · exact ⟨_, _, rfl, rfl, h⟩
