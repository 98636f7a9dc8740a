/-! ===== one part of the state changes, the others stay ===== -/
theorem B_cg {σ σ' τ τ' : St} {n : Nat} (h : BInv σ τ n) (h0 : σ' 3 1 = σ 3 1) (h1 : σ' 11 = σ 11) (h2 : σ' 12 = σ 12) (h3 : σ' 13 = σ 13) (h4 : σ' 14 = σ 14) (h5 : σ' 15 = σ 15) (h6 : σ' 16 = σ 16) (k0 : τ' 0 3 = τ 0 3) (k1 : τ' 2 = τ 2) : BInv σ' τ' n := by
  have e1 : cX σ' = cX σ := by unfold cX; rw [h1]
  have e2 : cM τ' = cM τ := by unfold cM; rw [k1]
  unfold BInv tabX
  rw [h0, k0, e1, e2, h2, h3, h4, h5, h6]
  exact h
theorem T_cg {σ σ' τ τ' : St} {L : Nat} (h : TInv σ τ L) (h0 : σ' 1 1 = σ 1 1) (h1 : σ' 9 = σ 9) (k0 : τ' 0 1 = τ 0 1) (k1 : τ' 1 = τ 1) : TInv σ' τ' L := by
  unfold TInv; rw [h0, h1, k0, k1]; exact h
theorem S_cg {σ σ' τ τ' : St} (h : SInv σ τ) (h0 : ∀ t, t < 6 → σ' (23 + t) = σ (23 + t) ∧ σ' (29 + t) = σ (29 + t)) (k4 : τ' 4 = τ 4) (k5 : τ' 5 = τ 5) (k6 : τ' 6 = τ 6) : SInv σ' τ' := by
  intro t ht
  rw [(h0 t ht).1, (h0 t ht).2, k4, k5, k6]
  exact h t ht
theorem P_cg {σ σ' τ τ' : St} (h : PInv σ τ) (h0 : σ' 17 = σ 17) (h1 : σ' 18 = σ 18) (h2 : σ' 4 2 = σ 4 2) (k0 : τ' 7 = τ 7) (k1 : τ' 8 = τ 8) (k2 : τ' 0 11 = τ 0 11) : PInv σ' τ' := by
  unfold PInv; rw [h0, h1, h2, k0, k1, k2]; exact h
theorem Z_cg {σ σ' τ τ' : St} (h : ZInv σ τ) (h0 : σ' 7 3 = σ 7 3) (h1 : σ' 20 = σ 20) (h2 : σ' 21 = σ 21) (h3 : σ' 22 = σ 22) (k0 : τ' 0 15 = τ 0 15) (k1 : τ' 9 = τ 9) (k2 : τ' 10 = τ 10) (k3 : τ' 11 = τ 11) : ZInv σ' τ' := by
  unfold ZInv; rw [h0, h1, h2, h3, k0, k1, k2, k3]; exact h
theorem Y_cg {σ σ' τ τ' : St} (h : YInv σ τ) (h0 : σ' 0 8 = σ 0 8) (h1 : σ' 8 = σ 8) (k0 : τ' 0 17 = τ 0 17) (k1 : τ' 12 = τ 12) : YInv σ' τ' := by
  unfold YInv; rw [h0, h1, k0, k1]; exact h
theorem op_erase {σ τ : St} (h : Inv σ τ) : ∃ r σ' τ', fX7_erase σ = some (r, σ') ∧ fX8_erase τ = some (r, τ') ∧ Inv σ' τ' := by
  obtain ⟨⟨n, hB⟩, ⟨L, hL, h1, h2, h3⟩, hS, hP, hZ, hY⟩ := h
  refine ⟨σ 1 1, st_wr σ 1 1 0, st_wr τ 0 1 0, rfl, by rw [h1, ← h2]; rfl, ⟨n, B_cg hB (by simp (disch := omega) only [wr_ne, wr_jn, wr_js]) (by simp (disch := omega) only [wr_ne, wr_jn, wr_js]) (by simp (disch := omega) only [wr_ne, wr_jn, wr_js]) (by simp (disch := omega) only [wr_ne, wr_jn, wr_js]) (by simp (disch := omega) only [wr_ne, wr_jn, wr_js]) (by simp (disch := omega) only [wr_ne, wr_jn, wr_js]) (by simp (disch := omega) only [wr_ne, wr_jn, wr_js]) (by simp (disch := omega) only [wr_ne, wr_jn, wr_js]) (by simp (disch := omega) only [wr_ne, wr_jn, wr_js])⟩, ⟨0, by omega, by rw [wr_js]; rfl, by rw [wr_js]; rfl, fun i hi => absurd hi (Nat.not_lt_zero i)⟩, S_cg hS (fun t _ => ⟨(by simp (disch := omega) only [wr_ne, wr_jn, wr_js]), (by simp (disch := omega) only [wr_ne, wr_jn, wr_js])⟩) (by simp (disch := omega) only [wr_ne, wr_jn, wr_js]) (by simp (disch := omega) only [wr_ne, wr_jn, wr_js]) (by simp (disch := omega) only [wr_ne, wr_jn, wr_js]), P_cg hP (by simp (disch := omega) only [wr_ne, wr_jn, wr_js]) (by simp (disch := omega) only [wr_ne, wr_jn, wr_js]) (by simp (disch := omega) only [wr_ne, wr_jn, wr_js]) (by simp (disch := omega) only [wr_ne, wr_jn, wr_js]) (by simp (disch := omega) only [wr_ne, wr_jn, wr_js]) (by simp (disch := omega) only [wr_ne, wr_jn, wr_js]), Z_cg hZ (by simp (disch := omega) only [wr_ne, wr_jn, wr_js]) (by simp (disch := omega) only [wr_ne, wr_jn, wr_js]) (by simp (disch := omega) only [wr_ne, wr_jn, wr_js]) (by simp (disch := omega) only [wr_ne, wr_jn, wr_js]) (by simp (disch := omega) only [wr_ne, wr_jn, wr_js]) (by simp (disch := omega) only [wr_ne, wr_jn, wr_js]) (by simp (disch := omega) only [wr_ne, wr_jn, wr_js]) (by simp (disch := omega) only [wr_ne, wr_jn, wr_js]), Y_cg hY (by simp (disch := omega) only [wr_ne, wr_jn, wr_js]) (by simp (disch := omega) only [wr_ne, wr_jn, wr_js]) (by simp (disch := omega) only [wr_ne, wr_jn, wr_js]) (by simp (disch := omega) only [wr_ne, wr_jn, wr_js])⟩
theorem op_clear {σ τ : St} (h : Inv σ τ) (x : Int32) : ∃ r σ' τ', fX7_clear σ x = some (r, σ') ∧ fX8_clear τ x = some (r, τ') ∧ Inv σ' τ' := by
  obtain ⟨⟨n, hB⟩, ⟨L, hT⟩, hS, hP, hZ, hY⟩ := id h
  unfold fX7_clear fX8_clear
  rw [noT_e, isT_e]
  simp only [gt_c]
  cases hx : off x 0 5
  · obtain ⟨t, ht', rfl⟩ := off_0 (b := 5) (by decide) hx
    have ht : t < 6 := by omega
    obtain ⟨s, s1, s2, s3, s4⟩ := hS t ht
    simp only [Bool.not_false, Bool.not_true, if_true, if_false, Bool.false_eq_true, ↓reduceIte]
    rw [tld_e ht, ald_e ht (by decide)]
    dsimp only [bd]
    rw [tld_e ht, asr_e ht (by decide)]
    refine ⟨σ (23 + t) 1, st_wr σ (23 + t) 1 0, st_wr τ 6 t 0, rfl, by rw [s2, s3], ⟨n, B_cg hB (by simp (disch := omega) only [wr_ne, wr_jn, wr_js]) (by simp (disch := omega) only [wr_ne, wr_jn, wr_js]) (by simp (disch := omega) only [wr_ne, wr_jn, wr_js]) (by simp (disch := omega) only [wr_ne, wr_jn, wr_js]) (by simp (disch := omega) only [wr_ne, wr_jn, wr_js]) (by simp (disch := omega) only [wr_ne, wr_jn, wr_js]) (by simp (disch := omega) only [wr_ne, wr_jn, wr_js]) (by simp (disch := omega) only [wr_ne, wr_jn, wr_js]) (by simp (disch := omega) only [wr_ne, wr_jn, wr_js])⟩, ⟨L, T_cg hT (by simp (disch := omega) only [wr_ne, wr_jn, wr_js]) (by simp (disch := omega) only [wr_ne, wr_jn, wr_js]) (by simp (disch := omega) only [wr_ne, wr_jn, wr_js]) (by simp (disch := omega) only [wr_ne, wr_jn, wr_js])⟩, ?_, P_cg hP (by simp (disch := omega) only [wr_ne, wr_jn, wr_js]) (by simp (disch := omega) only [wr_ne, wr_jn, wr_js]) (by simp (disch := omega) only [wr_ne, wr_jn, wr_js]) (by simp (disch := omega) only [wr_ne, wr_jn, wr_js]) (by simp (disch := omega) only [wr_ne, wr_jn, wr_js]) (by simp (disch := omega) only [wr_ne, wr_jn, wr_js]), Z_cg hZ (by simp (disch := omega) only [wr_ne, wr_jn, wr_js]) (by simp (disch := omega) only [wr_ne, wr_jn, wr_js]) (by simp (disch := omega) only [wr_ne, wr_jn, wr_js]) (by simp (disch := omega) only [wr_ne, wr_jn, wr_js]) (by simp (disch := omega) only [wr_ne, wr_jn, wr_js]) (by simp (disch := omega) only [wr_ne, wr_jn, wr_js]) (by simp (disch := omega) only [wr_ne, wr_jn, wr_js]) (by simp (disch := omega) only [wr_ne, wr_jn, wr_js]), Y_cg hY (by simp (disch := omega) only [wr_ne, wr_jn, wr_js]) (by simp (disch := omega) only [wr_ne, wr_jn, wr_js]) (by simp (disch := omega) only [wr_ne, wr_jn, wr_js]) (by simp (disch := omega) only [wr_ne, wr_jn, wr_js])⟩
    intro t' ht'
    by_cases e : t' = t
    · subst e
      exact ⟨0, by omega, by rw [wr_js]; rfl, by rw [wr_js]; rfl, fun i hi => absurd hi (Nat.not_lt_zero i)⟩
    · simp (disch := omega) only [wr_ne, wr_jn]
      exact hS t' ht'
  · exact ⟨_, _, _, rfl, rfl, h⟩
theorem op_price {σ τ : St} (h : Inv σ τ) (g v p : Int32) : ∃ r σ' τ', fX7_price σ g v p = some (r, σ') ∧ fX8_price τ g v p = some (r, τ') ∧ Inv σ' τ' := by
  obtain ⟨⟨n, hB⟩, ⟨L, hT⟩, hS, hP, hZ, hY⟩ := id h
  unfold fX7_price fX8_price
  rw [noG_e, off_e, off_e, isG_e, j_0, j_5, j_99, in_e, in_e]
  simp only [gt_c]
  cases hg : off g 0 5
  · cases hv : off v 0 5
    · cases hp : off p 0 99
      · obtain ⟨g, hg', rfl⟩ := off_0 (b := 5) (by decide) hg
        obtain ⟨v, hv', rfl⟩ := off_0 (b := 5) (by decide) hv
        obtain ⟨p, hp', rfl⟩ := off_0 (b := 99) (by decide) hp
        simp only [Bool.not_false, Bool.not_true, if_true, if_false, Bool.false_eq_true, ↓reduceIte]
        simp (disch := omega) only [↓l_m1, ↓l_m2, ↓l_m3, ↓l_m4, ↓l_m5, l_0, l_1, l_2, l_3, l_4, l_5, l_6, l_7, l_8, l_9, l_10, l_11, l_12, l_13, l_14, l_15, l_16, l_17, l_18, l_19, l_20, l_21, l_22, l_23, l_24, l_25, l_26, l_27, l_28, l_29, l_30, l_31, l_32, l_40, l_48, l_56, l_57, l_59, l_63, l_64, l_96, l_97, l_99, l_122, l_159, l_160, l_239, l_240, l_255, l_256, l_1000, l_1440, l_65536, l_1000000, l_268435456, bd, o1_s, o2_s, oz_0, oz_1, o2z_0, o2z_1, rb_0, rb_1, ald_e, asr_e, tld_e, nI_add, pk_mul, pk_div, w_rem, nI_leI, nI_ltI, nI_eq, nI_nm1, m1_nI, if_true, if_false, ↓reduceIte, Bool.false_eq_true]
        rw [show g * 6 + v = 6 * g + v by omega]
        obtain ⟨v0, w1, w2, w3⟩ := hP.1 (6 * g + v) (by omega)
        refine ⟨σ 17 (6 * g + v), _, _, rfl, by rw [w2, w3], ⟨n, B_cg hB (by simp (disch := omega) only [wr_ne, wr_jn, wr_js]) (by simp (disch := omega) only [wr_ne, wr_jn, wr_js]) (by simp (disch := omega) only [wr_ne, wr_jn, wr_js]) (by simp (disch := omega) only [wr_ne, wr_jn, wr_js]) (by simp (disch := omega) only [wr_ne, wr_jn, wr_js]) (by simp (disch := omega) only [wr_ne, wr_jn, wr_js]) (by simp (disch := omega) only [wr_ne, wr_jn, wr_js]) (by simp (disch := omega) only [wr_ne, wr_jn, wr_js]) (by simp (disch := omega) only [wr_ne, wr_jn, wr_js])⟩, ⟨L, T_cg hT (by simp (disch := omega) only [wr_ne, wr_jn, wr_js]) (by simp (disch := omega) only [wr_ne, wr_jn, wr_js]) (by simp (disch := omega) only [wr_ne, wr_jn, wr_js]) (by simp (disch := omega) only [wr_ne, wr_jn, wr_js])⟩, S_cg hS (fun t _ => ⟨(by simp (disch := omega) only [wr_ne, wr_jn, wr_js]), (by simp (disch := omega) only [wr_ne, wr_jn, wr_js])⟩) (by simp (disch := omega) only [wr_ne, wr_jn, wr_js]) (by simp (disch := omega) only [wr_ne, wr_jn, wr_js]) (by simp (disch := omega) only [wr_ne, wr_jn, wr_js]), ?_, Z_cg hZ (by simp (disch := omega) only [wr_ne, wr_jn, wr_js]) (by simp (disch := omega) only [wr_ne, wr_jn, wr_js]) (by simp (disch := omega) only [wr_ne, wr_jn, wr_js]) (by simp (disch := omega) only [wr_ne, wr_jn, wr_js]) (by simp (disch := omega) only [wr_ne, wr_jn, wr_js]) (by simp (disch := omega) only [wr_ne, wr_jn, wr_js]) (by simp (disch := omega) only [wr_ne, wr_jn, wr_js]) (by simp (disch := omega) only [wr_ne, wr_jn, wr_js]), Y_cg hY (by simp (disch := omega) only [wr_ne, wr_jn, wr_js]) (by simp (disch := omega) only [wr_ne, wr_jn, wr_js]) (by simp (disch := omega) only [wr_ne, wr_jn, wr_js]) (by simp (disch := omega) only [wr_ne, wr_jn, wr_js])⟩
        obtain ⟨p1, p2, p3⟩ := hP
        refine ⟨fun k hk => ?_, ?_, ?_⟩
        · by_cases e : k = 6 * g + v
          · subst e; exact ⟨p, hp', wr_js _ _ _ _, wr_js _ _ _ _⟩
          · rw [wr_jn e, wr_jn e]; exact p1 k hk
        · simp (disch := omega) only [wr_ne]; exact p2
        · simp (disch := omega) only [wr_ne]; exact p3
      · exact ⟨_, _, _, rfl, rfl, h⟩
    · exact ⟨_, _, _, rfl, rfl, h⟩
  · exact ⟨_, _, _, rfl, rfl, h⟩
theorem op_days {σ τ : St} (h : Inv σ τ) (g p : Int32) : ∃ r σ' τ', fX7_days σ g p = some (r, σ') ∧ fX8_days τ g p = some (r, τ') ∧ Inv σ' τ' := by
  obtain ⟨⟨n, hB⟩, ⟨L, hT⟩, hS, hP, hZ, hY⟩ := id h
  unfold fX7_days fX8_days
  rw [noG_e, off_e, isG_e, j_1, j_9, in_e]
  simp only [gt_c]
  cases hg : off g 0 5
  · cases hp : off p 1 9
    · obtain ⟨g, hg', rfl⟩ := off_0 (b := 5) (by decide) hg
      obtain ⟨p, hp0, hp', rfl⟩ := off_f (a := 1) (b := 9) (by decide) hp (by decide)
      have hg : g < 6 := by omega
      simp only [Bool.not_false, Bool.not_true, if_true, if_false, Bool.false_eq_true, ↓reduceIte]
      rw [ald_e hg (by decide), asr_e hg (by decide), ald_e hg (by decide), asr_e hg (by decide)]
      obtain ⟨v0, w0, w1, w2, w3⟩ := hP.2.1 g hg
      refine ⟨σ 18 g, _, _, rfl, by rw [w2, w3], ⟨n, B_cg hB (by simp (disch := omega) only [wr_ne, wr_jn, wr_js]) (by simp (disch := omega) only [wr_ne, wr_jn, wr_js]) (by simp (disch := omega) only [wr_ne, wr_jn, wr_js]) (by simp (disch := omega) only [wr_ne, wr_jn, wr_js]) (by simp (disch := omega) only [wr_ne, wr_jn, wr_js]) (by simp (disch := omega) only [wr_ne, wr_jn, wr_js]) (by simp (disch := omega) only [wr_ne, wr_jn, wr_js]) (by simp (disch := omega) only [wr_ne, wr_jn, wr_js]) (by simp (disch := omega) only [wr_ne, wr_jn, wr_js])⟩, ⟨L, T_cg hT (by simp (disch := omega) only [wr_ne, wr_jn, wr_js]) (by simp (disch := omega) only [wr_ne, wr_jn, wr_js]) (by simp (disch := omega) only [wr_ne, wr_jn, wr_js]) (by simp (disch := omega) only [wr_ne, wr_jn, wr_js])⟩, S_cg hS (fun t _ => ⟨(by simp (disch := omega) only [wr_ne, wr_jn, wr_js]), (by simp (disch := omega) only [wr_ne, wr_jn, wr_js])⟩) (by simp (disch := omega) only [wr_ne, wr_jn, wr_js]) (by simp (disch := omega) only [wr_ne, wr_jn, wr_js]) (by simp (disch := omega) only [wr_ne, wr_jn, wr_js]), ?_, Z_cg hZ (by simp (disch := omega) only [wr_ne, wr_jn, wr_js]) (by simp (disch := omega) only [wr_ne, wr_jn, wr_js]) (by simp (disch := omega) only [wr_ne, wr_jn, wr_js]) (by simp (disch := omega) only [wr_ne, wr_jn, wr_js]) (by simp (disch := omega) only [wr_ne, wr_jn, wr_js]) (by simp (disch := omega) only [wr_ne, wr_jn, wr_js]) (by simp (disch := omega) only [wr_ne, wr_jn, wr_js]) (by simp (disch := omega) only [wr_ne, wr_jn, wr_js]), Y_cg hY (by simp (disch := omega) only [wr_ne, wr_jn, wr_js]) (by simp (disch := omega) only [wr_ne, wr_jn, wr_js]) (by simp (disch := omega) only [wr_ne, wr_jn, wr_js]) (by simp (disch := omega) only [wr_ne, wr_jn, wr_js])⟩
      obtain ⟨p1, p2, p3⟩ := hP
      refine ⟨?_, fun k hk => ?_, ?_⟩
      · simp (disch := omega) only [wr_ne]; exact p1
      · by_cases e : k = g
        · subst e; exact ⟨p, hp0, hp', wr_js _ _ _ _, wr_js _ _ _ _⟩
        · rw [wr_jn e, wr_jn e]; exact p2 k hk
      · simp (disch := omega) only [wr_ne]; exact p3
    · exact ⟨_, _, _, rfl, rfl, h⟩
  · exact ⟨_, _, _, rfl, rfl, h⟩
theorem op_carry {σ τ : St} (h : Inv σ τ) (p : Int32) : ∃ r σ' τ', fX7_carry σ p = some (r, σ') ∧ fX8_carry τ p = some (r, τ') ∧ Inv σ' τ' := by
  obtain ⟨⟨n, hB⟩, ⟨L, hT⟩, hS, hP, hZ, hY⟩ := id h
  unfold fX7_carry fX8_carry
  rw [off_e, j_0, j_99, in_e]
  simp only [gt_c]
  cases hp : off p 0 99
  · obtain ⟨p, hp', rfl⟩ := off_0 (b := 99) (by decide) hp
    simp only [Bool.not_false, Bool.not_true, if_true, if_false, Bool.false_eq_true, ↓reduceIte]
    obtain ⟨p1, p2, v0, w1, w2, w3⟩ := hP
    refine ⟨σ 4 2, _, _, rfl, by rw [w2, ← w3]; rfl, ⟨n, B_cg hB (by simp (disch := omega) only [wr_ne, wr_jn, wr_js]) (by simp (disch := omega) only [wr_ne, wr_jn, wr_js]) (by simp (disch := omega) only [wr_ne, wr_jn, wr_js]) (by simp (disch := omega) only [wr_ne, wr_jn, wr_js]) (by simp (disch := omega) only [wr_ne, wr_jn, wr_js]) (by simp (disch := omega) only [wr_ne, wr_jn, wr_js]) (by simp (disch := omega) only [wr_ne, wr_jn, wr_js]) (by simp (disch := omega) only [wr_ne, wr_jn, wr_js]) (by simp (disch := omega) only [wr_ne, wr_jn, wr_js])⟩, ⟨L, T_cg hT (by simp (disch := omega) only [wr_ne, wr_jn, wr_js]) (by simp (disch := omega) only [wr_ne, wr_jn, wr_js]) (by simp (disch := omega) only [wr_ne, wr_jn, wr_js]) (by simp (disch := omega) only [wr_ne, wr_jn, wr_js])⟩, S_cg hS (fun t _ => ⟨(by simp (disch := omega) only [wr_ne, wr_jn, wr_js]), (by simp (disch := omega) only [wr_ne, wr_jn, wr_js])⟩) (by simp (disch := omega) only [wr_ne, wr_jn, wr_js]) (by simp (disch := omega) only [wr_ne, wr_jn, wr_js]) (by simp (disch := omega) only [wr_ne, wr_jn, wr_js]), ?_, Z_cg hZ (by simp (disch := omega) only [wr_ne, wr_jn, wr_js]) (by simp (disch := omega) only [wr_ne, wr_jn, wr_js]) (by simp (disch := omega) only [wr_ne, wr_jn, wr_js]) (by simp (disch := omega) only [wr_ne, wr_jn, wr_js]) (by simp (disch := omega) only [wr_ne, wr_jn, wr_js]) (by simp (disch := omega) only [wr_ne, wr_jn, wr_js]) (by simp (disch := omega) only [wr_ne, wr_jn, wr_js]) (by simp (disch := omega) only [wr_ne, wr_jn, wr_js]), Y_cg hY (by simp (disch := omega) only [wr_ne, wr_jn, wr_js]) (by simp (disch := omega) only [wr_ne, wr_jn, wr_js]) (by simp (disch := omega) only [wr_ne, wr_jn, wr_js]) (by simp (disch := omega) only [wr_ne, wr_jn, wr_js])⟩
    refine ⟨?_, ?_, p, hp', wr_js _ _ _ _, wr_js _ _ _ _⟩
    · simp (disch := omega) only [wr_ne]; exact p1
    · simp (disch := omega) only [wr_ne]; exact p2
  · exact ⟨_, _, _, rfl, rfl, h⟩
theorem op_year {σ τ : St} (h : Inv σ τ) (w : Int32) : ∃ r σ' τ', fX7_year σ w = some (r, σ') ∧ fX8_year τ w = some (r, τ') ∧ Inv σ' τ' := by
  obtain ⟨⟨n, hB⟩, ⟨L, hT⟩, hS, hP, hZ, y, y1, y2, y3, y4⟩ := id h
  unfold fX7_year fX8_year
  rw [noW_e, isW_e]
  simp only [gt_c]
  cases hw : off w 0 239
  · obtain ⟨w, hw', rfl⟩ := off_0 (b := 239) (by decide) hw
    simp only [Bool.not_false, Bool.not_true, if_true, if_false, Bool.false_eq_true, ↓reduceIte]
    rw [y2, y3]
    by_cases hy : y = 24
    · subst hy
      rw [if_pos (by decide), if_pos (by decide)]
      exact ⟨_, _, _, rfl, rfl, h⟩
    · have ne : ¬ nI y = (24 : Int32) := by rw [l_24, nI_eq (by omega) (by omega)]; exact hy
      rw [if_neg ne, if_neg ne, asr_e (by omega) (by decide), asr_e (by omega) (by decide)]
      dsimp only [bd]
      have a1 : st_wr σ 8 y (nI w) 0 8 = nI y := by rw [wr_ne (by decide)]; exact y2
      have a2 : st_wr τ 12 y (nI w) 0 17 = nI y := by rw [wr_ne (by decide)]; exact y3
      rw [a1, a2, nI_1, wr_js, wr_js]
      refine ⟨_, _, _, rfl, rfl, ⟨n, B_cg hB (by simp (disch := omega) only [wr_ne, wr_jn, wr_js]) (by simp (disch := omega) only [wr_ne, wr_jn, wr_js]) (by simp (disch := omega) only [wr_ne, wr_jn, wr_js]) (by simp (disch := omega) only [wr_ne, wr_jn, wr_js]) (by simp (disch := omega) only [wr_ne, wr_jn, wr_js]) (by simp (disch := omega) only [wr_ne, wr_jn, wr_js]) (by simp (disch := omega) only [wr_ne, wr_jn, wr_js]) (by simp (disch := omega) only [wr_ne, wr_jn, wr_js]) (by simp (disch := omega) only [wr_ne, wr_jn, wr_js])⟩, ⟨L, T_cg hT (by simp (disch := omega) only [wr_ne, wr_jn, wr_js]) (by simp (disch := omega) only [wr_ne, wr_jn, wr_js]) (by simp (disch := omega) only [wr_ne, wr_jn, wr_js]) (by simp (disch := omega) only [wr_ne, wr_jn, wr_js])⟩, S_cg hS (fun t _ => ⟨(by simp (disch := omega) only [wr_ne, wr_jn, wr_js]), (by simp (disch := omega) only [wr_ne, wr_jn, wr_js])⟩) (by simp (disch := omega) only [wr_ne, wr_jn, wr_js]) (by simp (disch := omega) only [wr_ne, wr_jn, wr_js]) (by simp (disch := omega) only [wr_ne, wr_jn, wr_js]), P_cg hP (by simp (disch := omega) only [wr_ne, wr_jn, wr_js]) (by simp (disch := omega) only [wr_ne, wr_jn, wr_js]) (by simp (disch := omega) only [wr_ne, wr_jn, wr_js]) (by simp (disch := omega) only [wr_ne, wr_jn, wr_js]) (by simp (disch := omega) only [wr_ne, wr_jn, wr_js]) (by simp (disch := omega) only [wr_ne, wr_jn, wr_js]), Z_cg hZ (by simp (disch := omega) only [wr_ne, wr_jn, wr_js]) (by simp (disch := omega) only [wr_ne, wr_jn, wr_js]) (by simp (disch := omega) only [wr_ne, wr_jn, wr_js]) (by simp (disch := omega) only [wr_ne, wr_jn, wr_js]) (by simp (disch := omega) only [wr_ne, wr_jn, wr_js]) (by simp (disch := omega) only [wr_ne, wr_jn, wr_js]) (by simp (disch := omega) only [wr_ne, wr_jn, wr_js]) (by simp (disch := omega) only [wr_ne, wr_jn, wr_js]), y + 1, by omega, wr_js _ _ _ _, wr_js _ _ _ _, fun i hi => ?_⟩
      simp (disch := omega) only [wr_ne]
      by_cases e : i = y
      · subst e; exact ⟨w, by omega, wr_js _ _ _ _, wr_js _ _ _ _⟩
      · rw [wr_jn e, wr_jn e]; exact y4 i (by omega)
  · exact ⟨_, _, _, rfl, rfl, h⟩
theorem op_seize {σ τ : St} (h : Inv σ τ) (g w m : Int32) : ∃ r σ' τ', fX7_seize σ g w m = some (r, σ') ∧ fX8_seize τ g w m = some (r, τ') ∧ Inv σ' τ' := by
  obtain ⟨⟨n, hB⟩, ⟨L, hT⟩, hS, hP, ⟨s, z1, z2, z3, z4⟩, hY⟩ := id h
  obtain ⟨hn, b1, b2, -⟩ := id hB
  unfold fX7_seize fX8_seize
  rw [noG_e, noW_e, off_e, isG_e, isW_e, j_0, in_e, b1, b2]
  simp only [gt_c]
  cases hg : off g 0 5
  · cases hw : off w 0 239
    · cases hm : off m 0 (nI n)
      · obtain ⟨g, hg', rfl⟩ := off_0 (b := 5) (by decide) hg
        obtain ⟨w, hw', rfl⟩ := off_0 (b := 239) (by decide) hw
        obtain ⟨m, hm', rfl⟩ := off_0 (b := n) (by omega) hm
        simp only [Bool.not_false, Bool.not_true, if_true, if_false, Bool.false_eq_true, ↓reduceIte]
        rw [z2, z3]
        by_cases hy : s = 16
        · subst hy
          rw [if_pos (by decide), if_pos (by decide)]
          exact ⟨_, _, _, rfl, rfl, h⟩
        · have ne : ¬ nI s = (16 : Int32) := by rw [l_16, nI_eq (by omega) (by omega)]; exact hy
          have hs : s < 16 := by omega
          rw [if_neg ne, if_neg ne]
          unfold fX3_addSeizure
          simp (disch := omega) only [asr_e, wr_ne, z2, z3, bd, o1_s, nI_1, wr_js]
          refine ⟨_, _, _, rfl, rfl, ⟨n, B_cg hB (by simp (disch := omega) only [wr_ne, wr_jn, wr_js]) (by simp (disch := omega) only [wr_ne, wr_jn, wr_js]) (by simp (disch := omega) only [wr_ne, wr_jn, wr_js]) (by simp (disch := omega) only [wr_ne, wr_jn, wr_js]) (by simp (disch := omega) only [wr_ne, wr_jn, wr_js]) (by simp (disch := omega) only [wr_ne, wr_jn, wr_js]) (by simp (disch := omega) only [wr_ne, wr_jn, wr_js]) (by simp (disch := omega) only [wr_ne, wr_jn, wr_js]) (by simp (disch := omega) only [wr_ne, wr_jn, wr_js])⟩, ⟨L, T_cg hT (by simp (disch := omega) only [wr_ne, wr_jn, wr_js]) (by simp (disch := omega) only [wr_ne, wr_jn, wr_js]) (by simp (disch := omega) only [wr_ne, wr_jn, wr_js]) (by simp (disch := omega) only [wr_ne, wr_jn, wr_js])⟩, S_cg hS (fun t _ => ⟨(by simp (disch := omega) only [wr_ne, wr_jn, wr_js]), (by simp (disch := omega) only [wr_ne, wr_jn, wr_js])⟩) (by simp (disch := omega) only [wr_ne, wr_jn, wr_js]) (by simp (disch := omega) only [wr_ne, wr_jn, wr_js]) (by simp (disch := omega) only [wr_ne, wr_jn, wr_js]), P_cg hP (by simp (disch := omega) only [wr_ne, wr_jn, wr_js]) (by simp (disch := omega) only [wr_ne, wr_jn, wr_js]) (by simp (disch := omega) only [wr_ne, wr_jn, wr_js]) (by simp (disch := omega) only [wr_ne, wr_jn, wr_js]) (by simp (disch := omega) only [wr_ne, wr_jn, wr_js]) (by simp (disch := omega) only [wr_ne, wr_jn, wr_js]), ⟨s + 1, by omega, wr_js _ _ _ _, wr_js _ _ _ _, fun i hi => ?_⟩, Y_cg hY (by simp (disch := omega) only [wr_ne, wr_jn, wr_js]) (by simp (disch := omega) only [wr_ne, wr_jn, wr_js]) (by simp (disch := omega) only [wr_ne, wr_jn, wr_js]) (by simp (disch := omega) only [wr_ne, wr_jn, wr_js])⟩
          simp (disch := omega) only [wr_ne]
          by_cases e : i = s
          · subst e
            simp only [wr_js]
            exact ⟨⟨g, by omega, rfl, rfl⟩, ⟨w, by omega, rfl, rfl⟩, ⟨m, by omega, rfl, rfl⟩⟩
          · simp only [wr_jn e]; exact z4 i (by omega)
      · exact ⟨_, _, _, rfl, rfl, h⟩
    · exact ⟨_, _, _, rfl, rfl, h⟩
  · exact ⟨_, _, _, rfl, rfl, h⟩
theorem op_count {σ τ : St} (h : Inv σ τ) (x : Int32) : ∃ r, fX7_count σ x = some r ∧ fX8_count τ x = some r := by
  obtain ⟨⟨n, hn, b1, b2, -⟩, ⟨L, hL, t1, t2, -⟩, hS, hP, ⟨s, z1, z2, z3, z4⟩, ⟨y, y1, y2, y3, y4⟩⟩ := id h
  unfold fX7_count
  rw [off_e, gt_c]
  cases hx : off x 0 9
  · obtain ⟨x, hx', rfl⟩ := off_0 (b := 9) (by decide) hx
    unfold fX8_count
    have key : ∀ t, t < 6 → ∃ v, σ (23 + t) 1 = v ∧ τ 6 t = v := fun t ht => by
      obtain ⟨s, -, a, b, -⟩ := hS t ht
      exact ⟨_, a, b⟩
    rcases (show x = 0 ∨ x = 1 ∨ x = 2 ∨ x = 3 ∨ x = 4 ∨ x = 5 ∨ x = 6 ∨ x = 7 ∨ x = 8 ∨ x = 9 by omega) with rfl | rfl | rfl | rfl | rfl | rfl | rfl | rfl | rfl | rfl
    · exact ⟨nI n, by rw [← b1]; rfl, by rw [← b2]; rfl⟩
    · exact ⟨nI L, by rw [← t1]; rfl, by rw [← t2]; rfl⟩
    · exact ⟨nI s, by rw [← z2]; rfl, by rw [← z3]; rfl⟩
    · exact ⟨nI y, by rw [← y2]; rfl, by rw [← y3]; rfl⟩
    · obtain ⟨v, a, b⟩ := key 0 (by decide); exact ⟨v, by rw [← a]; rfl, by rw [← b]; rfl⟩
    · obtain ⟨v, a, b⟩ := key 1 (by decide); exact ⟨v, by rw [← a]; rfl, by rw [← b]; rfl⟩
    · obtain ⟨v, a, b⟩ := key 2 (by decide); exact ⟨v, by rw [← a]; rfl, by rw [← b]; rfl⟩
    · obtain ⟨v, a, b⟩ := key 3 (by decide); exact ⟨v, by rw [← a]; rfl, by rw [← b]; rfl⟩
    · obtain ⟨v, a, b⟩ := key 4 (by decide); exact ⟨v, by rw [← a]; rfl, by rw [← b]; rfl⟩
    · obtain ⟨v, a, b⟩ := key 5 (by decide); exact ⟨v, by rw [← a]; rfl, by rw [← b]; rfl⟩
  · refine ⟨-3, rfl, ?_⟩
    have hne : ∀ k : Nat, k ≤ 9 → ¬ x = nI k := fun k hk e => by
      subst e
      have h1 : nI k < 0 ∨ (9 : Int32) < nI k := of_decide_eq_true hx
      rcases h1 with q | q
      · exact nI_pos (by omega) q
      · exact nI_nlt (show k ≤ 9 from hk) (by decide) q
    unfold fX8_count
    rw [if_neg (show ¬ x = (0 : Int32) from hne 0 (by decide)), if_neg (show ¬ x = (1 : Int32) from hne 1 (by decide)), if_neg (show ¬ x = (2 : Int32) from hne 2 (by decide)), if_neg (show ¬ x = (3 : Int32) from hne 3 (by decide)), if_neg (show ¬ x = (4 : Int32) from hne 4 (by decide)), if_neg (show ¬ x = (5 : Int32) from hne 5 (by decide)), if_neg (show ¬ x = (6 : Int32) from hne 6 (by decide)), if_neg (show ¬ x = (7 : Int32) from hne 7 (by decide)), if_neg (show ¬ x = (8 : Int32) from hne 8 (by decide)), if_neg (show ¬ x = (9 : Int32) from hne 9 (by decide))]
