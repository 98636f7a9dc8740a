section LAW
variable {p : Program} {l : Launch} {e : Env} {s : State} {m : MethodId} {below : List Frame} {meth : Method} {c : Code} {b L : Nat} {xs : Nat → Int32} {D : va_G} {a a' : Nat → Nat} {cI cT : ClassId} {xx : Rx}
theorem law_lt {L i : Nat} (hL : L ≤ 2560) (hi : i ≤ 2560) (h : ¬ (nI L - (5 : Int32) < nI i)) : i + 5 ≤ L := by
  by_cases c : 5 ≤ L
  · have e : nI L - (5 : Int32) = nI (L - 5) := by rw [l_5, pk_sub c]
    rw [e] at h
    rcases Nat.lt_or_ge (L - 5) i with q | q
    · exact absurd (nI_lt q (by omega)) h
    · omega
  · have neg : ∀ L, L < 5 → nI L - (5 : Int32) < 0 := by decide
    have h1 := Int32.not_lt.mp h
    have h2 := neg L (by omega)
    rw [Int32.le_iff_toInt_le] at h1
    rw [Int32.lt_iff_toInt_lt] at h2
    have h3 : ¬ nI i < 0 := nI_pos (by omega)
    rw [Int32.lt_iff_toInt_lt] at h3
    omega
set_option maxRecDepth 20000 in
set_option maxHeartbeats 4000000 in
theorem law_loop (E : LawE p s m meth c b L xs D cI cT xx) : ∀ (n i : Nat) (σ τ : St), L + 1 ≤ i + n → i ≤ L → Inv σ τ → lawG p l e s m below meth c b D a a' cI cT (σ, τ) 18 [(3, .int (nI i)), (2, .ref (a' 0)), (1, .ref (a 0)), (0, .ref b)] [] := by
  have hL : L ≤ 2560 := E.2.2.2.2.2.2.2.2.2.2.2
  have G := law_env (l := l) (e := e) (below := below) (a := a) (a' := a') E
  intro n
  induction n with
  | zero => intro i σ τ h1 h2; omega
  | succ n ih =>
    intro i σ τ h1 h2 hI
    refine rl_iload_n G dL_law_18 rfl 0 rfl ?_
    refine rl_aload_n G dL_law_19 rfl 3 rfl ?_
    refine law_slen E dL_law_20 ?_
    refine rl_iconst (v := 5) G dL_law_21 (by decide) ?_
    refine rl_isub G dL_law_22 ?_
    refine rl_icmp_gt (tgt := 1171) G dL_law_23 (by decide) (fun _ => law_end E) (fun c9 => ?_)
    have hi : i + 5 ≤ L := law_lt hL (by omega) c9
    have kont : ∀ σ' τ' : St, Inv σ' τ' → lawG p l e s m below meth c b D a a' cI cT (σ', τ') 1165 [(3, .int (nI i)), (2, .ref (a' 0)), (1, .ref (a 0)), (0, .ref b)] [] := by
      intro σ' τ' hI'
      refine rl_iinc (v := nI (i + 5)) G [(3, .int (nI (i + 5))), (2, .ref (a' 0)), (1, .ref (a 0)), (0, .ref b)] dL_law_1165 0 rfl (by rw [show Int32.ofInt 5 = nI 5 from by decide]; exact nI_add i 5) (by decide) rfl ?_
      refine rl_goto (tgt := 18) G dL_law_1168 (by decide) ?_
      exact ih (i + 5) σ' τ' (by omega) hi hI'
    refine rl_aload_n G dL_law_26 rfl 3 rfl ?_
    refine rl_iload_n G dL_law_27 rfl 0 rfl ?_
    refine law_sld E (vp_in_nI (show i < L by omega) (by omega)) dL_law_28 ?_
    refine rl_bipush (v := 31) G dL_law_29 (by decide) ?_
    refine rl_iand G dL_law_31 ?_
    obtain ⟨j, hj, ej⟩ := pk_andE (xs (nI i).toNatClampNeg) (m := 31) 5 (by decide)
    rw [ej]
    rcases (show j = 0 ∨ j = 1 ∨ j = 2 ∨ j = 3 ∨ j = 4 ∨ j = 5 ∨ j = 6 ∨ j = 7 ∨ j = 8 ∨ j = 9 ∨ j = 10 ∨ j = 11 ∨ j = 12 ∨ j = 13 ∨ j = 14 ∨ j = 15 ∨ j = 16 ∨ j = 17 ∨ j = 18 ∨ j = 19 ∨ j = 20 ∨ j = 21 ∨ j = 22 ∨ j = 23 ∨ j = 24 ∨ j = 25 ∨ j = 26 ∨ j = 27 ∨ j = 28 ∨ j = 29 ∨ j = 30 ∨ j = 31 by omega) with rfl | rfl | rfl | rfl | rfl | rfl | rfl | rfl | rfl | rfl | rfl | rfl | rfl | rfl | rfl | rfl | rfl | rfl | rfl | rfl | rfl | rfl | rfl | rfl | rfl | rfl | rfl | rfl | rfl | rfl | rfl | rfl
    · exact rl_tableIn (off := 140) (tgt := 172) G dL_law_32 (by decide) (by decide) rfl (by decide) (law_c0 E hI hi kont)
    · exact rl_tableIn (off := 203) (tgt := 235) G dL_law_32 (by decide) (by decide) rfl (by decide) (law_c1 E hI hi kont)
    · exact rl_tableIn (off := 216) (tgt := 248) G dL_law_32 (by decide) (by decide) rfl (by decide) (law_c2 E hI hi kont)
    · exact rl_tableIn (off := 229) (tgt := 261) G dL_law_32 (by decide) (by decide) rfl (by decide) (law_c3 E hI hi kont)
    · exact rl_tableIn (off := 242) (tgt := 274) G dL_law_32 (by decide) (by decide) rfl (by decide) (law_c4 E hI hi kont)
    · exact rl_tableIn (off := 265) (tgt := 297) G dL_law_32 (by decide) (by decide) rfl (by decide) (law_c5 E hI hi kont)
    · exact rl_tableIn (off := 298) (tgt := 330) G dL_law_32 (by decide) (by decide) rfl (by decide) (law_c6 E hI hi kont)
    · exact rl_tableIn (off := 331) (tgt := 363) G dL_law_32 (by decide) (by decide) rfl (by decide) (law_c7 E hI hi kont)
    · exact rl_tableIn (off := 364) (tgt := 396) G dL_law_32 (by decide) (by decide) rfl (by decide) (law_c8 E hI hi kont)
    · exact rl_tableIn (off := 387) (tgt := 419) G dL_law_32 (by decide) (by decide) rfl (by decide) (law_c9 E hI hi kont)
    · exact rl_tableIn (off := 420) (tgt := 452) G dL_law_32 (by decide) (by decide) rfl (by decide) (law_c10 E hI hi kont)
    · exact rl_tableIn (off := 463) (tgt := 495) G dL_law_32 (by decide) (by decide) rfl (by decide) (law_c11 E hI hi kont)
    · exact rl_tableIn (off := 486) (tgt := 518) G dL_law_32 (by decide) (by decide) rfl (by decide) (law_c12 E hI hi kont)
    · exact rl_tableIn (off := 529) (tgt := 561) G dL_law_32 (by decide) (by decide) rfl (by decide) (law_c13 E hI hi kont)
    · exact rl_tableIn (off := 562) (tgt := 594) G dL_law_32 (by decide) (by decide) rfl (by decide) (law_c14 E hI hi kont)
    · exact rl_tableIn (off := 585) (tgt := 617) G dL_law_32 (by decide) (by decide) rfl (by decide) (law_c15 E hI hi kont)
    · exact rl_tableIn (off := 628) (tgt := 660) G dL_law_32 (by decide) (by decide) rfl (by decide) (law_c16 E hI hi kont)
    · exact rl_tableIn (off := 681) (tgt := 713) G dL_law_32 (by decide) (by decide) rfl (by decide) (law_c17 E hI hi kont)
    · exact rl_tableIn (off := 714) (tgt := 746) G dL_law_32 (by decide) (by decide) rfl (by decide) (law_c18 E hI hi kont)
    · exact rl_tableIn (off := 747) (tgt := 779) G dL_law_32 (by decide) (by decide) rfl (by decide) (law_c19 E hI hi kont)
    · exact rl_tableIn (off := 790) (tgt := 822) G dL_law_32 (by decide) (by decide) rfl (by decide) (law_c20 E hI hi kont)
    · exact rl_tableIn (off := 843) (tgt := 875) G dL_law_32 (by decide) (by decide) rfl (by decide) (law_c21 E hI hi kont)
    · exact rl_tableIn (off := 866) (tgt := 898) G dL_law_32 (by decide) (by decide) rfl (by decide) (law_c22 E hI hi kont)
    · exact rl_tableIn (off := 909) (tgt := 941) G dL_law_32 (by decide) (by decide) rfl (by decide) (law_c23 E hI hi kont)
    · exact rl_tableIn (off := 942) (tgt := 974) G dL_law_32 (by decide) (by decide) rfl (by decide) (law_c24 E hI hi kont)
    · exact rl_tableIn (off := 985) (tgt := 1017) G dL_law_32 (by decide) (by decide) rfl (by decide) (law_c25 E hI hi kont)
    · exact rl_tableIn (off := 998) (tgt := 1030) G dL_law_32 (by decide) (by decide) rfl (by decide) (law_c26 E hI hi kont)
    · exact rl_tableIn (off := 1041) (tgt := 1073) G dL_law_32 (by decide) (by decide) rfl (by decide) (law_c27 E hI hi kont)
    · exact rl_tableIn (off := 1064) (tgt := 1096) G dL_law_32 (by decide) (by decide) rfl (by decide) (law_c28 E hI hi kont)
    · exact rl_tableIn (off := 1087) (tgt := 1119) G dL_law_32 (by decide) (by decide) rfl (by decide) (law_c29 E hI hi kont)
    · exact rl_tableIn (off := 1110) (tgt := 1142) G dL_law_32 (by decide) (by decide) rfl (by decide) (law_c30 E hI hi kont)
    · exact rl_tableOut (tgt := 1165) G dL_law_32 (Or.inr (by decide)) (by decide) (kont σ τ hI)
end LAW
