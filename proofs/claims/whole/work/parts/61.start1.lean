/-! ===== what the law starts from ===== -/
theorem wsL_law_in : ∀ w ∈ wsL_law, w ∈ lw_tbl := by
  have key : ∀ w ∈ wsX70 ++ wsX80 ++ wsX50 ++ wsX20 ++ wsX00 ++ wsX40 ++ wsX10 ++ wsX60 ++ wsX30, w ∈ lw_tbl := by decide +kernel
  intro w h
  unfold wsL_law at h
  simp only [List.mem_append, List.not_mem_nil, or_false] at h key
  have kx := key w
  rcases h with (((((((((hR | h) | h) | h) | h) | h) | h) | h) | h) | h)
  · rcases hR with h1 | h2 | h3 | h4 | h5 | h6 | h7 | h8 | h9 | h10 | h11 | h12 | h13 | h14 | h15 | h16 | h17 | h18 | h19 | h20 | h21 | h22 | h23 | h24 | h25 | h26 | h27 | h28 | h29 | h30 | h31 | h32 | h33 | h34 | h35 | h36
    · exact inLr1 w h1
    · exact inLr2 w h2
    · exact inLr3 w h3
    · exact inLr4 w h4
    · exact inLr5 w h5
    · exact inLr6 w h6
    · exact inLr7 w h7
    · exact inLr8 w h8
    · exact inLr9 w h9
    · exact inLr10 w h10
    · exact inLr11 w h11
    · exact inLr12 w h12
    · exact inLr13 w h13
    · exact inLr14 w h14
    · exact inLr15 w h15
    · exact inLr16 w h16
    · exact inLr17 w h17
    · exact inLr18 w h18
    · exact inLr19 w h19
    · exact inLr20 w h20
    · exact inLr21 w h21
    · exact inLr22 w h22
    · exact inLr23 w h23
    · exact inLr24 w h24
    · exact inLr25 w h25
    · exact inLr26 w h26
    · exact inLr27 w h27
    · exact inLr28 w h28
    · exact inLr29 w h29
    · exact inLr30 w h30
    · exact inLr31 w h31
    · exact inLr32 w h32
    · exact inLr33 w h33
    · exact inLr34 w h34
    · exact inLr35 w h35
    · exact inLr36 w h36
  · exact kx (Or.inl (Or.inl (Or.inl (Or.inl (Or.inl (Or.inl (Or.inl (Or.inl h))))))))
  · exact kx (Or.inl (Or.inl (Or.inl (Or.inl (Or.inl (Or.inl (Or.inl (Or.inr h))))))))
  · exact kx (Or.inl (Or.inl (Or.inl (Or.inl (Or.inl (Or.inl (Or.inr h)))))))
  · exact kx (Or.inl (Or.inl (Or.inl (Or.inl (Or.inl (Or.inr h))))))
  · exact kx (Or.inl (Or.inl (Or.inl (Or.inl (Or.inr h)))))
  · exact kx (Or.inl (Or.inl (Or.inl (Or.inr h))))
  · exact kx (Or.inl (Or.inl (Or.inr h)))
  · exact kx (Or.inl (Or.inr h))
  · exact kx (Or.inr h)
def ixS : List Nat := [43, 49, 62, 64, 70, 72, 74, 76, 78, 80, 82]
def tmS (i : Nat) : Term := Term.string RX2 (ixS.getD i 0)
section START
variable {s : State} {b : Nat}
theorem ss_ex (hgv : (Jvm.Cond.and given_1 narrow_1).before #[Value.ref b] s = true) : ∀ i : Nat, i < 11 → (Cond.exactly (tmS i) "java/lang/String").before #[Value.ref b] s = true := by
  have hf := flat_of_before _ hgv
  intro i hi
  rcases (show i = 0 ∨ i = 1 ∨ i = 2 ∨ i = 3 ∨ i = 4 ∨ i = 5 ∨ i = 6 ∨ i = 7 ∨ i = 8 ∨ i = 9 ∨ i = 10 by omega) with rfl | rfl | rfl | rfl | rfl | rfl | rfl | rfl | rfl | rfl | rfl <;> exact hf _ (by decide +kernel)
theorem ss_co (hgv : (Jvm.Cond.and given_1 narrow_1).before #[Value.ref b] s = true) : ∀ i : Nat, i < 11 → (Cond.eq (.field (tmS i) "java/lang/String" "coder" "B") (.int 0)).before #[Value.ref b] s = true := by
  have hf := flat_of_before _ hgv
  intro i hi
  rcases (show i = 0 ∨ i = 1 ∨ i = 2 ∨ i = 3 ∨ i = 4 ∨ i = 5 ∨ i = 6 ∨ i = 7 ∨ i = 8 ∨ i = 9 ∨ i = 10 by omega) with rfl | rfl | rfl | rfl | rfl | rfl | rfl | rfl | rfl | rfl | rfl <;> exact hf _ (by decide +kernel)
theorem ss_ar (hgv : (Jvm.Cond.and given_1 narrow_1).before #[Value.ref b] s = true) : ∀ i : Nat, i < 11 → (Cond.arrayOf (.field (tmS i) "java/lang/String" "value" "[B") .byte).before #[Value.ref b] s = true := by
  have hf := flat_of_before _ hgv
  intro i hi
  rcases (show i = 0 ∨ i = 1 ∨ i = 2 ∨ i = 3 ∨ i = 4 ∨ i = 5 ∨ i = 6 ∨ i = 7 ∨ i = 8 ∨ i = 9 ∨ i = 10 by omega) with rfl | rfl | rfl | rfl | rfl | rfl | rfl | rfl | rfl | rfl | rfl <;> exact hf _ (by decide +kernel)
theorem ss_le (hgv : (Jvm.Cond.and given_1 narrow_1).before #[Value.ref b] s = true) : ∀ i : Nat, i < 11 → (Cond.eq (.length (.field (tmS i) "java/lang/String" "value" "[B")) (.int (Int32.ofNat (lenS.getD i 0)))).before #[Value.ref b] s = true := by
  have hf := flat_of_before _ hgv
  intro i hi
  rcases (show i = 0 ∨ i = 1 ∨ i = 2 ∨ i = 3 ∨ i = 4 ∨ i = 5 ∨ i = 6 ∨ i = 7 ∨ i = 8 ∨ i = 9 ∨ i = 10 by omega) with rfl | rfl | rfl | rfl | rfl | rfl | rfl | rfl | rfl | rfl | rfl <;> exact hf _ (by decide +kernel)
theorem ss_el (hgv : (Jvm.Cond.and given_1 narrow_1).before #[Value.ref b] s = true) : ∀ i : Nat, i < 11 → ∀ j : Nat, j < lenS.getD i 0 → (Cond.eq (.elem (.field (tmS i) "java/lang/String" "value" "[B") (.int (Int32.ofNat j))) (.int ((bytS.getD i []).getD j 0))).before #[Value.ref b] s = true := by
  have hf := flat_of_before _ hgv
  intro i hi j hj
  rcases (show i = 0 ∨ i = 1 ∨ i = 2 ∨ i = 3 ∨ i = 4 ∨ i = 5 ∨ i = 6 ∨ i = 7 ∨ i = 8 ∨ i = 9 ∨ i = 10 by omega) with rfl | rfl | rfl | rfl | rfl | rfl | rfl | rfl | rfl | rfl | rfl
  · have hj : j < 5 := hj
    rcases (show j = 0 ∨ j = 1 ∨ j = 2 ∨ j = 3 ∨ j = 4 by omega) with rfl | rfl | rfl | rfl | rfl <;> exact hf _ (by decide +kernel)
  · have hj : j < 5 := hj
    rcases (show j = 0 ∨ j = 1 ∨ j = 2 ∨ j = 3 ∨ j = 4 by omega) with rfl | rfl | rfl | rfl | rfl <;> exact hf _ (by decide +kernel)
  · have hj : j < 3 := hj
    rcases (show j = 0 ∨ j = 1 ∨ j = 2 by omega) with rfl | rfl | rfl <;> exact hf _ (by decide +kernel)
  · have hj : j < 2 := hj
    rcases (show j = 0 ∨ j = 1 by omega) with rfl | rfl <;> exact hf _ (by decide +kernel)
  · have hj : j < 2 := hj
    rcases (show j = 0 ∨ j = 1 by omega) with rfl | rfl <;> exact hf _ (by decide +kernel)
  · have hj : j < 4 := hj
    rcases (show j = 0 ∨ j = 1 ∨ j = 2 ∨ j = 3 by omega) with rfl | rfl | rfl | rfl <;> exact hf _ (by decide +kernel)
  · have hj : j < 2 := hj
    rcases (show j = 0 ∨ j = 1 by omega) with rfl | rfl <;> exact hf _ (by decide +kernel)
  · have hj : j < 3 := hj
    rcases (show j = 0 ∨ j = 1 ∨ j = 2 by omega) with rfl | rfl | rfl <;> exact hf _ (by decide +kernel)
  · have hj : j < 3 := hj
    rcases (show j = 0 ∨ j = 1 ∨ j = 2 by omega) with rfl | rfl | rfl <;> exact hf _ (by decide +kernel)
  · have hj : j < 4 := hj
    rcases (show j = 0 ∨ j = 1 ∨ j = 2 ∨ j = 3 by omega) with rfl | rfl | rfl | rfl <;> exact hf _ (by decide +kernel)
  · have hj : j < 6 := hj
    rcases (show j = 0 ∨ j = 1 ∨ j = 2 ∨ j = 3 ∨ j = 4 ∨ j = 5 by omega) with rfl | rfl | rfl | rfl | rfl | rfl <;> exact hf _ (by decide +kernel)
theorem ss_ne (hgv : (Jvm.Cond.and given_1 narrow_1).before #[Value.ref b] s = true) : ∀ i j : Nat, i < 11 → j < 11 → i ≠ j → (Cond.not (Cond.eq (tmS i) (tmS j))).before #[Value.ref b] s = true ∨ (Cond.not (Cond.eq (tmS j) (tmS i))).before #[Value.ref b] s = true := by
  have hf := flat_of_before _ hgv
  intro i j hi hj hn
  rcases (show i = 0 ∨ i = 1 ∨ i = 2 ∨ i = 3 ∨ i = 4 ∨ i = 5 ∨ i = 6 ∨ i = 7 ∨ i = 8 ∨ i = 9 ∨ i = 10 by omega) with rfl | rfl | rfl | rfl | rfl | rfl | rfl | rfl | rfl | rfl | rfl
  · rcases (show j = 0 ∨ j = 1 ∨ j = 2 ∨ j = 3 ∨ j = 4 ∨ j = 5 ∨ j = 6 ∨ j = 7 ∨ j = 8 ∨ j = 9 ∨ j = 10 by omega) with rfl | rfl | rfl | rfl | rfl | rfl | rfl | rfl | rfl | rfl | rfl
    · exact absurd rfl hn
    · exact Or.inl (hf _ (by decide +kernel))
    · exact Or.inl (hf _ (by decide +kernel))
    · exact Or.inl (hf _ (by decide +kernel))
    · exact Or.inl (hf _ (by decide +kernel))
    · exact Or.inl (hf _ (by decide +kernel))
    · exact Or.inl (hf _ (by decide +kernel))
    · exact Or.inl (hf _ (by decide +kernel))
    · exact Or.inl (hf _ (by decide +kernel))
    · exact Or.inl (hf _ (by decide +kernel))
    · exact Or.inl (hf _ (by decide +kernel))
  · rcases (show j = 0 ∨ j = 1 ∨ j = 2 ∨ j = 3 ∨ j = 4 ∨ j = 5 ∨ j = 6 ∨ j = 7 ∨ j = 8 ∨ j = 9 ∨ j = 10 by omega) with rfl | rfl | rfl | rfl | rfl | rfl | rfl | rfl | rfl | rfl | rfl
    · exact Or.inr (hf _ (by decide +kernel))
    · exact absurd rfl hn
    · exact Or.inl (hf _ (by decide +kernel))
    · exact Or.inl (hf _ (by decide +kernel))
    · exact Or.inl (hf _ (by decide +kernel))
    · exact Or.inl (hf _ (by decide +kernel))
    · exact Or.inl (hf _ (by decide +kernel))
    · exact Or.inl (hf _ (by decide +kernel))
    · exact Or.inl (hf _ (by decide +kernel))
    · exact Or.inl (hf _ (by decide +kernel))
    · exact Or.inl (hf _ (by decide +kernel))
  · rcases (show j = 0 ∨ j = 1 ∨ j = 2 ∨ j = 3 ∨ j = 4 ∨ j = 5 ∨ j = 6 ∨ j = 7 ∨ j = 8 ∨ j = 9 ∨ j = 10 by omega) with rfl | rfl | rfl | rfl | rfl | rfl | rfl | rfl | rfl | rfl | rfl
    · exact Or.inr (hf _ (by decide +kernel))
    · exact Or.inr (hf _ (by decide +kernel))
    · exact absurd rfl hn
    · exact Or.inl (hf _ (by decide +kernel))
    · exact Or.inl (hf _ (by decide +kernel))
    · exact Or.inl (hf _ (by decide +kernel))
    · exact Or.inl (hf _ (by decide +kernel))
    · exact Or.inr (hf _ (by decide +kernel))
    · exact Or.inr (hf _ (by decide +kernel))
    · exact Or.inr (hf _ (by decide +kernel))
    · exact Or.inr (hf _ (by decide +kernel))
  · rcases (show j = 0 ∨ j = 1 ∨ j = 2 ∨ j = 3 ∨ j = 4 ∨ j = 5 ∨ j = 6 ∨ j = 7 ∨ j = 8 ∨ j = 9 ∨ j = 10 by omega) with rfl | rfl | rfl | rfl | rfl | rfl | rfl | rfl | rfl | rfl | rfl
    · exact Or.inr (hf _ (by decide +kernel))
    · exact Or.inr (hf _ (by decide +kernel))
    · exact Or.inr (hf _ (by decide +kernel))
    · exact absurd rfl hn
    · exact Or.inl (hf _ (by decide +kernel))
    · exact Or.inl (hf _ (by decide +kernel))
    · exact Or.inl (hf _ (by decide +kernel))
    · exact Or.inr (hf _ (by decide +kernel))
    · exact Or.inr (hf _ (by decide +kernel))
    · exact Or.inr (hf _ (by decide +kernel))
    · exact Or.inr (hf _ (by decide +kernel))
  · rcases (show j = 0 ∨ j = 1 ∨ j = 2 ∨ j = 3 ∨ j = 4 ∨ j = 5 ∨ j = 6 ∨ j = 7 ∨ j = 8 ∨ j = 9 ∨ j = 10 by omega) with rfl | rfl | rfl | rfl | rfl | rfl | rfl | rfl | rfl | rfl | rfl
    · exact Or.inr (hf _ (by decide +kernel))
    · exact Or.inr (hf _ (by decide +kernel))
    · exact Or.inr (hf _ (by decide +kernel))
    · exact Or.inr (hf _ (by decide +kernel))
    · exact absurd rfl hn
    · exact Or.inl (hf _ (by decide +kernel))
    · exact Or.inl (hf _ (by decide +kernel))
    · exact Or.inr (hf _ (by decide +kernel))
    · exact Or.inr (hf _ (by decide +kernel))
    · exact Or.inr (hf _ (by decide +kernel))
    · exact Or.inr (hf _ (by decide +kernel))
  · rcases (show j = 0 ∨ j = 1 ∨ j = 2 ∨ j = 3 ∨ j = 4 ∨ j = 5 ∨ j = 6 ∨ j = 7 ∨ j = 8 ∨ j = 9 ∨ j = 10 by omega) with rfl | rfl | rfl | rfl | rfl | rfl | rfl | rfl | rfl | rfl | rfl
    · exact Or.inr (hf _ (by decide +kernel))
    · exact Or.inr (hf _ (by decide +kernel))
    · exact Or.inr (hf _ (by decide +kernel))
    · exact Or.inr (hf _ (by decide +kernel))
    · exact Or.inr (hf _ (by decide +kernel))
    · exact absurd rfl hn
    · exact Or.inl (hf _ (by decide +kernel))
    · exact Or.inr (hf _ (by decide +kernel))
    · exact Or.inr (hf _ (by decide +kernel))
    · exact Or.inr (hf _ (by decide +kernel))
    · exact Or.inr (hf _ (by decide +kernel))
  · rcases (show j = 0 ∨ j = 1 ∨ j = 2 ∨ j = 3 ∨ j = 4 ∨ j = 5 ∨ j = 6 ∨ j = 7 ∨ j = 8 ∨ j = 9 ∨ j = 10 by omega) with rfl | rfl | rfl | rfl | rfl | rfl | rfl | rfl | rfl | rfl | rfl
    · exact Or.inr (hf _ (by decide +kernel))
    · exact Or.inr (hf _ (by decide +kernel))
    · exact Or.inr (hf _ (by decide +kernel))
    · exact Or.inr (hf _ (by decide +kernel))
    · exact Or.inr (hf _ (by decide +kernel))
    · exact Or.inr (hf _ (by decide +kernel))
    · exact absurd rfl hn
    · exact Or.inr (hf _ (by decide +kernel))
    · exact Or.inr (hf _ (by decide +kernel))
    · exact Or.inr (hf _ (by decide +kernel))
    · exact Or.inr (hf _ (by decide +kernel))
  · rcases (show j = 0 ∨ j = 1 ∨ j = 2 ∨ j = 3 ∨ j = 4 ∨ j = 5 ∨ j = 6 ∨ j = 7 ∨ j = 8 ∨ j = 9 ∨ j = 10 by omega) with rfl | rfl | rfl | rfl | rfl | rfl | rfl | rfl | rfl | rfl | rfl
    · exact Or.inr (hf _ (by decide +kernel))
    · exact Or.inr (hf _ (by decide +kernel))
    · exact Or.inl (hf _ (by decide +kernel))
    · exact Or.inl (hf _ (by decide +kernel))
    · exact Or.inl (hf _ (by decide +kernel))
    · exact Or.inl (hf _ (by decide +kernel))
    · exact Or.inl (hf _ (by decide +kernel))
    · exact absurd rfl hn
    · exact Or.inl (hf _ (by decide +kernel))
    · exact Or.inl (hf _ (by decide +kernel))
    · exact Or.inl (hf _ (by decide +kernel))
  · rcases (show j = 0 ∨ j = 1 ∨ j = 2 ∨ j = 3 ∨ j = 4 ∨ j = 5 ∨ j = 6 ∨ j = 7 ∨ j = 8 ∨ j = 9 ∨ j = 10 by omega) with rfl | rfl | rfl | rfl | rfl | rfl | rfl | rfl | rfl | rfl | rfl
    · exact Or.inr (hf _ (by decide +kernel))
    · exact Or.inr (hf _ (by decide +kernel))
    · exact Or.inl (hf _ (by decide +kernel))
    · exact Or.inl (hf _ (by decide +kernel))
    · exact Or.inl (hf _ (by decide +kernel))
    · exact Or.inl (hf _ (by decide +kernel))
    · exact Or.inl (hf _ (by decide +kernel))
    · exact Or.inr (hf _ (by decide +kernel))
    · exact absurd rfl hn
    · exact Or.inl (hf _ (by decide +kernel))
    · exact Or.inl (hf _ (by decide +kernel))
  · rcases (show j = 0 ∨ j = 1 ∨ j = 2 ∨ j = 3 ∨ j = 4 ∨ j = 5 ∨ j = 6 ∨ j = 7 ∨ j = 8 ∨ j = 9 ∨ j = 10 by omega) with rfl | rfl | rfl | rfl | rfl | rfl | rfl | rfl | rfl | rfl | rfl
    · exact Or.inr (hf _ (by decide +kernel))
    · exact Or.inr (hf _ (by decide +kernel))
    · exact Or.inl (hf _ (by decide +kernel))
    · exact Or.inl (hf _ (by decide +kernel))
    · exact Or.inl (hf _ (by decide +kernel))
    · exact Or.inl (hf _ (by decide +kernel))
    · exact Or.inl (hf _ (by decide +kernel))
    · exact Or.inr (hf _ (by decide +kernel))
    · exact Or.inr (hf _ (by decide +kernel))
    · exact absurd rfl hn
    · exact Or.inl (hf _ (by decide +kernel))
  · rcases (show j = 0 ∨ j = 1 ∨ j = 2 ∨ j = 3 ∨ j = 4 ∨ j = 5 ∨ j = 6 ∨ j = 7 ∨ j = 8 ∨ j = 9 ∨ j = 10 by omega) with rfl | rfl | rfl | rfl | rfl | rfl | rfl | rfl | rfl | rfl | rfl
    · exact Or.inr (hf _ (by decide +kernel))
    · exact Or.inr (hf _ (by decide +kernel))
    · exact Or.inl (hf _ (by decide +kernel))
    · exact Or.inl (hf _ (by decide +kernel))
    · exact Or.inl (hf _ (by decide +kernel))
    · exact Or.inl (hf _ (by decide +kernel))
    · exact Or.inl (hf _ (by decide +kernel))
    · exact Or.inr (hf _ (by decide +kernel))
    · exact Or.inr (hf _ (by decide +kernel))
    · exact Or.inr (hf _ (by decide +kernel))
    · exact absurd rfl hn
theorem hold_e (hgv : (Jvm.Cond.and given_1 narrow_1).before #[Value.ref b] s = true) : ∀ j : Nat, j < 6 → (Term.elem (Term.static "WhoseWork" "HOLDING" "[J") (.int (Int32.ofNat j))).eval #[Value.ref b] s none [] s = some (.long (holdX j)) := by
  have hf := flat_of_before _ hgv
  intro j hj
  rcases (show j = 0 ∨ j = 1 ∨ j = 2 ∨ j = 3 ∨ j = 4 ∨ j = 5 by omega) with rfl | rfl | rfl | rfl | rfl | rfl
  · exact va_eqv (hf (Cond.eq (.elem (.static "WhoseWork" "HOLDING" "[J") (.int 0)) (.long (-6148914691236517206))) (by decide +kernel)) rfl
  · exact va_eqv (hf (Cond.eq (.elem (.static "WhoseWork" "HOLDING" "[J") (.int 1)) (.long (-3689348814741910324))) (by decide +kernel)) rfl
  · exact va_eqv (hf (Cond.eq (.elem (.static "WhoseWork" "HOLDING" "[J") (.int 2)) (.long (-1085102592571150096))) (by decide +kernel)) rfl
  · exact va_eqv (hf (Cond.eq (.elem (.static "WhoseWork" "HOLDING" "[J") (.int 3)) (.long (-71777214294589696))) (by decide +kernel)) rfl
  · exact va_eqv (hf (Cond.eq (.elem (.static "WhoseWork" "HOLDING" "[J") (.int 4)) (.long (-281470681808896))) (by decide +kernel)) rfl
  · exact va_eqv (hf (Cond.eq (.elem (.static "WhoseWork" "HOLDING" "[J") (.int 5)) (.long (-4294967296))) (by decide +kernel)) rfl
theorem roX_start (hts : ∀ w ∈ lw_tbl, w.before #[Value.ref b] s = true) (hgv : (Jvm.Cond.and given_1 narrow_1).before #[Value.ref b] s = true) : ∃ xx : Rx, roX xx (fun q => s.heap.size ≤ q) s s.heap := by
  have hf := flat_of_before _ hgv
  have hA : ∀ a : Nat, a < s.heap.size → ¬ (fun q : Nat => s.heap.size ≤ q) a := fun a h => Nat.not_le.mpr h
  obtain ⟨adK, adV, hS, hT⟩ := vk_Sof (N := 11) (tm := tmS) (len := lenS) (byt := bytS) (by decide) (ss_ex hgv) (ss_co hgv) (ss_ar hgv) (ss_le hgv) (ss_el hgv) (ss_ne hgv) hA
  obtain ⟨t, ht, hH⟩ := va_Tof (tm := Term.static "WhoseWork" "HOLDING" "[J") (ty := .long) (N := 6) (f := fun j => .long (holdX j)) (by decide) (hf (Cond.arrayOf (.static "WhoseWork" "HOLDING" "[J") .long) (by decide +kernel)) (va_eqv (hf (Cond.eq (.length (.static "WhoseWork" "HOLDING" "[J")) (.int 6)) (by decide +kernel)) rfl) (hold_e hgv) hA
  obtain ⟨v, hv, hvr⟩ := Cond.isRef_spec (hf (Cond.isRef (.static "jdk/internal/util/Preconditions" "SIOOBE_FORMATTER" "Ljava/util/function/BiFunction;")) (by decide +kernel))
  obtain ⟨r, hr⟩ : ∃ r : Option Nat, v = va_rf r := by
    cases v with
    | null => exact ⟨none, rfl⟩
    | ref a => exact ⟨some a, rfl⟩
    | _ => cases hvr
  rw [hr] at hv
  refine ⟨(adK, adV, t, r), hS, ⟨vk_R.of (hts _ (by decide +kernel)) (hT 0 (by decide)), vk_R.of (hts _ (by decide +kernel)) (hT 1 (by decide)), vk_R.of (hts _ (by decide +kernel)) (hT 2 (by decide)), vk_R.of (hts _ (by decide +kernel)) (hT 3 (by decide)), vk_R.of (hts _ (by decide +kernel)) (hT 4 (by decide)), vk_R.of (hts _ (by decide +kernel)) (hT 5 (by decide)), vk_R.of (hts _ (by decide +kernel)) (hT 6 (by decide)), vk_R.of (hts _ (by decide +kernel)) (hT 7 (by decide)), vk_R.of (hts _ (by decide +kernel)) (hT 8 (by decide)), vk_R.of (hts _ (by decide +kernel)) (hT 9 (by decide)), vk_R.of (hts _ (by decide +kernel)) (hT 10 (by decide))⟩, va_Zof (hts _ (by decide +kernel)) (hts _ (by decide +kernel)) (va_eqv (hf (Cond.eq (.static "java/lang/String" "COMPACT_STRINGS" "Z") (.int 1)) (by decide +kernel)) rfl) hA, va_Zof (hts _ (by decide +kernel)) (hts _ (by decide +kernel)) hv hA, va_Zof (hts _ (by decide +kernel)) (hts _ (by decide +kernel)) ht hA, hH, va_Nw.of rfl (hts _ (by decide +kernel)), va_Nw.of rfl (hts _ (by decide +kernel)), va_Nw.of rfl (hts _ (by decide +kernel))⟩
end START
