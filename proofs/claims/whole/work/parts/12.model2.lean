def fX8_layWorks_L12   : Nat → St → Int32 → Int32 → Option (St)
  | 0 => fun _ _ _ => none
  | n + 1 => fun u v1 v2 => (if (u 0 25) ≤ v2 then some u else ald u 4 48 (((8 : Int32) * v1) + v2) (fun x2 => asr u 13 16 ((2 : Int32) * v2) x2 (fun u3 => ald u3 5 48 (((8 : Int32) * v1) + v2) (fun x4 => asr u3 13 16 (((2 : Int32) * v2) + (1 : Int32)) x4 (fun u5 => bd (v2 + (1 : Int32)) (fun x6 => fX8_layWorks_L12 n u5 v1 x6))))))
def fX8_layWorks (u : St)  (p1 : Int32) : Option (St) := ald u 6 6 p1 (fun x7 => bd (st_wr u 0 25 x7) (fun u8 => fX8_layWorks_L12 2000 u8 p1 (0 : Int32)))
theorem nX8_layWorks_0 : Cond.fieldLink RX8 175 "WhoseWorkModel" "steps" "I" ∈ wsX8_layWorks := by decide +kernel
theorem nX8_layWorks_1 : Cond.fieldLink RX8 46 "WhoseWorkModel" "works" "[I" ∈ wsX8_layWorks := by decide +kernel
theorem nX8_layWorks_2 : Cond.fieldLink RX8 19 "WhoseWorkModel" "first" "[I" ∈ wsX8_layWorks := by decide +kernel
theorem nX8_layWorks_3 : Cond.fieldLink RX8 22 "WhoseWorkModel" "second" "[I" ∈ wsX8_layWorks := by decide +kernel
theorem nX8_layWorks_4 : Cond.fieldLink RX8 25 "WhoseWorkModel" "stepMany" "[I" ∈ wsX8_layWorks := by decide +kernel
theorem iX8_layWorks_X8 : ∀ w ∈ wsX80, w ∈ wsX8_layWorks := by decide +kernel
set_option maxRecDepth 100000 in
set_option maxHeartbeats 4000000 in
theorem kX8_layWorks (l : Launch) (D : va_G) (a : Nat → Nat) (cI : ClassId) (aS : Nat → Prop) (u : St)  (p1 : Int32) (τ : St)  (h0 : fX8_layWorks u p1 = some τ) : rl_Mv l yX8_layWorks wsX8_layWorks ({ frames := 0, cells := 0, slots := 0, locals := 0 } : Room) D (tyM cI) (wM a cI) ro_0 aS [.ref (a 0), .int p1] u τ := by
  refine rl_meth_v (cc := cX8_layWorks) (maxL := 3) (own := RX8) (by decide) rfl rfl (Nat.le_of_ble_eq_true rfl) ?_
  intro G hG hret
  have H12 : ∀ (n : Nat) (u : St) (v1 : Int32) (v2 : Int32), fX8_layWorks_L12 n u v1 v2 = some τ → G u 12 [(0, .ref (a 0)), (1, .int v1), (2, .int v2)] [] := by
    intro n
    induction n with
    | zero =>
      intro u v1 v2 h
      exact absurd h (by rw [fX8_layWorks_L12]; exact fun q => by cases q)
    | succ n ih =>
      intro u v1 v2 h
      rw [fX8_layWorks_L12] at h
      refine rl_iload_n hG dX8_layWorks_12 rfl 2 rfl ?_
      refine rl_aload_n hG dX8_layWorks_13 rfl 0 rfl ?_
      refine rl_get hG iX8_layWorks_X8 0 (gM_0 a cI u) hcX8 25 (Nat.le_of_ble_eq_true rfl) nX8_layWorks_0 rfl dX8_layWorks_14 ?_
      refine rl_icmp_ge hG (tgt := 66) dX8_layWorks_17 (by decide) (fun c1 => ?_) (fun c1 => ?_)
      · have h := it_t h c1
        exact rl_retv hret h dX8_layWorks_66
      · have h := it_f h c1
        refine rl_aload_n hG dX8_layWorks_20 rfl 0 rfl ?_
        refine rl_get hG iX8_layWorks_X8 0 (gM_0 a cI u) hcX8 23 (Nat.le_of_ble_eq_true rfl) nX8_layWorks_1 rfl dX8_layWorks_21 ?_
        refine rl_iconst hG (v := 2) dX8_layWorks_24 (by decide) ?_
        refine rl_iload_n hG dX8_layWorks_25 rfl 2 rfl ?_
        refine rl_imul hG dX8_layWorks_26 ?_
        refine rl_aload_n hG dX8_layWorks_27 rfl 0 rfl ?_
        refine rl_get hG iX8_layWorks_X8 0 (gM_0 a cI u) hcX8 6 (Nat.le_of_ble_eq_true rfl) nX8_layWorks_2 rfl dX8_layWorks_28 ?_
        refine rl_bipush hG (v := 8) dX8_layWorks_31 (by decide) ?_
        refine rl_iload_n hG dX8_layWorks_33 rfl 1 rfl ?_
        refine rl_imul hG dX8_layWorks_34 ?_
        refine rl_iload_n hG dX8_layWorks_35 rfl 2 rfl ?_
        refine rl_iadd hG dX8_layWorks_36 ?_
        obtain ⟨x2, ix2, ex2, h⟩ := ald_ok h
        refine rl_iald hG 4 0 (gM_4 a cI u) rfl ix2 ex2 dX8_layWorks_37 ?_
        obtain ⟨u3, iu3, eu3, h⟩ := asr_ok h
        refine rl_iast hG 13 0 (gM_13 a cI u) rfl iu3 (σ' := u3) ((sM_13 a cI u _).trans (congrArg _ eu3.symm)) dX8_layWorks_38 ?_
        refine rl_aload_n hG dX8_layWorks_39 rfl 0 rfl ?_
        refine rl_get hG iX8_layWorks_X8 0 (gM_0 a cI u3) hcX8 23 (Nat.le_of_ble_eq_true rfl) nX8_layWorks_1 rfl dX8_layWorks_40 ?_
        refine rl_iconst hG (v := 2) dX8_layWorks_43 (by decide) ?_
        refine rl_iload_n hG dX8_layWorks_44 rfl 2 rfl ?_
        refine rl_imul hG dX8_layWorks_45 ?_
        refine rl_iconst hG (v := 1) dX8_layWorks_46 (by decide) ?_
        refine rl_iadd hG dX8_layWorks_47 ?_
        refine rl_aload_n hG dX8_layWorks_48 rfl 0 rfl ?_
        refine rl_get hG iX8_layWorks_X8 0 (gM_0 a cI u3) hcX8 7 (Nat.le_of_ble_eq_true rfl) nX8_layWorks_3 rfl dX8_layWorks_49 ?_
        refine rl_bipush hG (v := 8) dX8_layWorks_52 (by decide) ?_
        refine rl_iload_n hG dX8_layWorks_54 rfl 1 rfl ?_
        refine rl_imul hG dX8_layWorks_55 ?_
        refine rl_iload_n hG dX8_layWorks_56 rfl 2 rfl ?_
        refine rl_iadd hG dX8_layWorks_57 ?_
        obtain ⟨x4, ix4, ex4, h⟩ := ald_ok h
        refine rl_iald hG 5 0 (gM_5 a cI u3) rfl ix4 ex4 dX8_layWorks_58 ?_
        obtain ⟨u5, iu5, eu5, h⟩ := asr_ok h
        refine rl_iast hG 13 0 (gM_13 a cI u3) rfl iu5 (σ' := u5) ((sM_13 a cI u3 _).trans (congrArg _ eu5.symm)) dX8_layWorks_59 ?_
        obtain ⟨x6, ex6, h⟩ := bd_ok h
        refine rl_iinc hG [(2, .int x6), (0, .ref (a 0)), (1, .int v1)] dX8_layWorks_60 2 rfl (by rw [ex6]; rfl) (Nat.le_of_ble_eq_true rfl) rfl ?_
        refine rl_goto hG (tgt := 12) dX8_layWorks_63 (by decide) ?_
        exact rl_lvs hG [1, 2, 0] rfl (ih u5 v1 x6 h)
  have h := h0
  rw [fX8_layWorks] at h
  show G u 0 [(0, .ref (a 0)), (1, .int p1)] []
  refine rl_aload_n hG dX8_layWorks_0 rfl 0 rfl ?_
  refine rl_aload_n hG dX8_layWorks_1 rfl 0 rfl ?_
  refine rl_get hG iX8_layWorks_X8 0 (gM_0 a cI u) hcX8 8 (Nat.le_of_ble_eq_true rfl) nX8_layWorks_4 rfl dX8_layWorks_2 ?_
  refine rl_iload_n hG dX8_layWorks_5 rfl 1 rfl ?_
  obtain ⟨x7, ix7, ex7, h⟩ := ald_ok h
  refine rl_iald hG 6 0 (gM_6 a cI u) rfl ix7 ex7 dX8_layWorks_6 ?_
  obtain ⟨u8, eu8, h⟩ := bd_ok h
  refine rl_put hG iX8_layWorks_X8 tyX8 tyX8_ok nmX8 0 (gM_0 a cI u) hcX8 25 (Nat.le_of_ble_eq_true rfl) nX8_layWorks_0 rfl rfl (Nat.le_of_ble_eq_true rfl) (σ' := u8) ((sM_0_25 a cI u _).trans (congrArg _ eu8.symm)) dX8_layWorks_7 ?_
  refine rl_iconst hG (v := 0) dX8_layWorks_10 (by decide) ?_
  refine rl_istore_n hG [(2, .int (0 : Int32)), (0, .ref (a 0)), (1, .int p1)] dX8_layWorks_11 rfl (Nat.le_of_ble_eq_true rfl) rfl rfl ?_
  exact rl_lvs hG [1, 2, 0] rfl (H12 2000 u8 p1 (0 : Int32) h)
def fX8_layCodes_L46  (k2 : St → Int32 → Option (St)) (u : St) (v1 : Int32) (w0 : Int32) (w1 : Int32) : Option (St) := asr u 14 96 w1 w0 (fun u1 => bd (v1 + (1 : Int32)) (fun x2 => k2 u1 x2))
def fX8_layCodes_L2   : Nat → St → Int32 → Option (St)
  | 0 => fun _ _ => none
  | n + 1 => fun u v1 => (if ((12 : Int32) * (u 0 25)) ≤ v1 then some u else ald u 13 16 (v1 / (6 : Int32)) (fun x4 => (if x4 = (-1 : Int32) then fX8_layCodes_L46 (fX8_layCodes_L2 n) u v1 (0 : Int32) v1 else o1 (fX8_code u (v1 - v1 / (6 : Int32) * (6 : Int32)) x4) (fun x6 => fX8_layCodes_L46 (fX8_layCodes_L2 n) u v1 x6 v1))))
def fX8_layCodes (u : St)   : Option (St) := fX8_layCodes_L2 2000 u (0 : Int32)
theorem nX8_layCodes_0 : Cond.fieldLink RX8 175 "WhoseWorkModel" "steps" "I" ∈ wsX8_layCodes := by decide +kernel
theorem nX8_layCodes_1 : Cond.fieldLink RX8 46 "WhoseWorkModel" "works" "[I" ∈ wsX8_layCodes := by decide +kernel
theorem nX8_layCodes_2 : Cond.fieldLink RX8 49 "WhoseWorkModel" "codes" "[I" ∈ wsX8_layCodes := by decide +kernel
theorem iX8_layCodes_X8 : ∀ w ∈ wsX80, w ∈ wsX8_layCodes := by decide +kernel
set_option maxRecDepth 100000 in
set_option maxHeartbeats 4000000 in
theorem kX8_layCodes (l : Launch) (D : va_G) (a : Nat → Nat) (cI : ClassId) (aS : Nat → Prop) (u : St)   (τ : St)  (h0 : fX8_layCodes u = some τ) : rl_Mv l yX8_layCodes wsX8_layCodes ({ frames := 3, cells := 0, slots := 0, locals := 76 } : Room) D (tyM cI) (wM a cI) ro_0 aS [.ref (a 0)] u τ := by
  refine rl_meth_v (cc := cX8_layCodes) (maxL := 3) (own := RX8) (by decide) rfl rfl (Nat.le_of_ble_eq_true rfl) ?_
  intro G hG hret
  have H46 : ∀ (k2 : St → Int32 → Option (St)) (hk2 : ∀ (u : St) (v1 : Int32), k2 u v1 = some τ → G u 2 [(0, .ref (a 0)), (1, .int v1)] []), ∀ (u : St) (v1 : Int32) (w0 : Int32) (w1 : Int32), fX8_layCodes_L46 k2 u v1 w0 w1 = some τ → G u 46 [(0, .ref (a 0)), (1, .int v1)] [.int w0, .int w1, .ref (a 14)] := by
    intro k2 hk2 u v1 w0 w1 h
    rw [fX8_layCodes_L46] at h
    obtain ⟨u1, iu1, eu1, h⟩ := asr_ok h
    refine rl_iast hG 14 0 (gM_14 a cI u) rfl iu1 (σ' := u1) ((sM_14 a cI u _).trans (congrArg _ eu1.symm)) dX8_layCodes_46 ?_
    obtain ⟨x2, ex2, h⟩ := bd_ok h
    refine rl_iinc hG [(1, .int x2), (0, .ref (a 0))] dX8_layCodes_47 1 rfl (by rw [ex2]; rfl) (Nat.le_of_ble_eq_true rfl) rfl ?_
    refine rl_goto hG (tgt := 2) dX8_layCodes_50 (by decide) ?_
    exact rl_lvs hG [1, 0] rfl (hk2 u1 x2 h)
  have H2 : ∀ (n : Nat) (u : St) (v1 : Int32), fX8_layCodes_L2 n u v1 = some τ → G u 2 [(0, .ref (a 0)), (1, .int v1)] [] := by
    intro n
    induction n with
    | zero =>
      intro u v1 h
      exact absurd h (by rw [fX8_layCodes_L2]; exact fun q => by cases q)
    | succ n ih =>
      intro u v1 h
      rw [fX8_layCodes_L2] at h
      refine rl_iload_n hG dX8_layCodes_2 rfl 1 rfl ?_
      refine rl_bipush hG (v := 12) dX8_layCodes_3 (by decide) ?_
      refine rl_aload_n hG dX8_layCodes_5 rfl 0 rfl ?_
      refine rl_get hG iX8_layCodes_X8 0 (gM_0 a cI u) hcX8 25 (Nat.le_of_ble_eq_true rfl) nX8_layCodes_0 rfl dX8_layCodes_6 ?_
      refine rl_imul hG dX8_layCodes_9 ?_
      refine rl_icmp_ge hG (tgt := 53) dX8_layCodes_10 (by decide) (fun c3 => ?_) (fun c3 => ?_)
      · have h := it_t h c3
        exact rl_retv hret h dX8_layCodes_53
      · have h := it_f h c3
        refine rl_aload_n hG dX8_layCodes_13 rfl 0 rfl ?_
        refine rl_get hG iX8_layCodes_X8 0 (gM_0 a cI u) hcX8 23 (Nat.le_of_ble_eq_true rfl) nX8_layCodes_1 rfl dX8_layCodes_14 ?_
        refine rl_iload_n hG dX8_layCodes_17 rfl 1 rfl ?_
        refine rl_bipush hG (v := 6) dX8_layCodes_18 (by decide) ?_
        refine rl_idiv hG dX8_layCodes_20 (by decide) ?_
        obtain ⟨x4, ix4, ex4, h⟩ := ald_ok h
        refine rl_iald hG 13 0 (gM_13 a cI u) rfl ix4 ex4 dX8_layCodes_21 ?_
        refine rl_istore_n hG [(2, .int x4), (0, .ref (a 0)), (1, .int v1)] dX8_layCodes_22 rfl (Nat.le_of_ble_eq_true rfl) rfl rfl ?_
        refine rl_aload_n hG dX8_layCodes_23 rfl 1 rfl ?_
        refine rl_get hG iX8_layCodes_X8 0 (gM_0 a cI u) hcX8 24 (Nat.le_of_ble_eq_true rfl) nX8_layCodes_2 rfl dX8_layCodes_24 ?_
        refine rl_iload_n hG dX8_layCodes_27 rfl 2 rfl ?_
        refine rl_iload_n hG dX8_layCodes_28 rfl 0 rfl ?_
        refine rl_iconst hG (v := -1) dX8_layCodes_29 (by decide) ?_
        refine rl_icmp_ne hG (tgt := 37) dX8_layCodes_30 (by decide) (fun c5 => ?_) (fun c5 => ?_)
        · have h := it_f h c5
          refine rl_aload_n hG dX8_layCodes_37 rfl 1 rfl ?_
          refine rl_iload_n hG dX8_layCodes_38 rfl 2 rfl ?_
          refine rl_bipush hG (v := 6) dX8_layCodes_39 (by decide) ?_
          refine rl_irem hG dX8_layCodes_41 (by decide) ?_
          refine rl_iload_n hG dX8_layCodes_42 rfl 0 rfl ?_
          obtain ⟨x6, hx6q, h⟩ := o1_ok h
          refine rl_callVi hG ro_0_ok (As := [.int (v1 - v1 / (6 : Int32) * (6 : Int32)), .int x4]) (kX8_code l D a cI aS u (v1 - v1 / (6 : Int32) * (6 : Int32)) x4 x6  hx6q) gX8_layCodes_X8_code rfl 0 (gM_0 a cI u) hcX8 2 rfl (by decide +kernel) rfl rfl (by decide) (Nat.le_of_ble_eq_true rfl) rfl dX8_layCodes_43 ?_
          exact rl_lvs hG [1, 2] rfl (H46 (fX8_layCodes_L2 n) (ih) u v1 x6 v1 h)
        · have h := it_t h c5
          refine rl_iconst hG (v := 0) dX8_layCodes_33 (by decide) ?_
          refine rl_goto hG (tgt := 46) dX8_layCodes_34 (by decide) ?_
          exact rl_lvs hG [1, 2] rfl (H46 (fX8_layCodes_L2 n) (ih) u v1 (0 : Int32) v1 h)
  have h := h0
  rw [fX8_layCodes] at h
  show G u 0 [(0, .ref (a 0))] []
  refine rl_iconst hG (v := 0) dX8_layCodes_0 (by decide) ?_
  refine rl_istore_n hG [(1, .int (0 : Int32)), (0, .ref (a 0))] dX8_layCodes_1 rfl (Nat.le_of_ble_eq_true rfl) rfl rfl ?_
  exact rl_lvs hG [1, 0] rfl (H2 2000 u (0 : Int32) h)
def fX8_lay (u : St)  (p1 : Int32) : Option (St) := o1 (fX8_allThere u) (fun u1 => o1 (fX8_layWorks u1 p1) (fun u2 => o1 (fX8_layCodes u2) (fun u3 => some u3)))
set_option maxRecDepth 100000 in
set_option maxHeartbeats 4000000 in
theorem kX8_lay (l : Launch) (D : va_G) (a : Nat → Nat) (cI : ClassId) (aS : Nat → Prop) (u : St)  (p1 : Int32) (τ : St)  (h0 : fX8_lay u p1 = some τ) : rl_Mv l yX8_lay wsX8_lay ({ frames := 4, cells := 0, slots := 0, locals := 98 } : Room) D (tyM cI) (wM a cI) ro_0 aS [.ref (a 0), .int p1] u τ := by
  refine rl_meth_v (cc := cX8_lay) (maxL := 2) (own := RX8) (by decide) rfl rfl (Nat.le_of_ble_eq_true rfl) ?_
  intro G hG hret
  have h := h0
  rw [fX8_lay] at h
  show G u 0 [(0, .ref (a 0)), (1, .int p1)] []
  refine rl_aload_n hG dX8_lay_0 rfl 0 rfl ?_
  obtain ⟨u1, hu1q, h⟩ := o1_ok h
  refine rl_callVv hG ro_0_ok (As := []) (kX8_allThere l D a cI aS u  u1  hu1q) gX8_lay_X8_allThere rfl 0 (gM_0 a cI u) hcX8 0 rfl (by decide +kernel) rfl rfl (by decide) (Nat.le_of_ble_eq_true rfl) rfl dX8_lay_1 ?_
  refine rl_aload_n hG dX8_lay_4 rfl 0 rfl ?_
  refine rl_iload_n hG dX8_lay_5 rfl 1 rfl ?_
  obtain ⟨u2, hu2q, h⟩ := o1_ok h
  refine rl_callVv hG ro_0_ok (As := [.int p1]) (kX8_layWorks l D a cI aS u1 p1 u2  hu2q) gX8_lay_X8_layWorks rfl 0 (gM_0 a cI u1) hcX8 1 rfl (by decide +kernel) rfl rfl (by decide) (Nat.le_of_ble_eq_true rfl) rfl dX8_lay_6 ?_
  refine rl_aload_n hG dX8_lay_9 rfl 0 rfl ?_
  obtain ⟨u3, hu3q, h⟩ := o1_ok h
  refine rl_callVv hG ro_0_ok (As := []) (kX8_layCodes l D a cI aS u2  u3  hu3q) gX8_lay_X8_layCodes rfl 0 (gM_0 a cI u2) hcX8 0 rfl (by decide +kernel) rfl rfl (by decide) (Nat.le_of_ble_eq_true rfl) rfl dX8_lay_10 ?_
  exact rl_retv hret h dX8_lay_13
def fX8_hands (u : St)  (p1 : Int32) (p2 : Int32) (p3 : Int32) : Option (Int32) := ald u 14 96 ((((12 : Int32) * p1) + ((6 : Int32) * p2)) + p3) (fun x1 => (if x1 ≤ (1 : Int32) then some (((1 : Int32) <<< (p3 &&& 31)) ||| (0 : Int32)) else some (((1 : Int32) <<< (p3 &&& 31)) ||| ((1 : Int32) <<< ((x1 - (2 : Int32)) &&& 31)))))
theorem nX8_hands_0 : Cond.fieldLink RX8 49 "WhoseWorkModel" "codes" "[I" ∈ wsX8_hands := by decide +kernel
theorem iX8_hands_X8 : ∀ w ∈ wsX80, w ∈ wsX8_hands := by decide +kernel
set_option maxRecDepth 100000 in
set_option maxHeartbeats 4000000 in
theorem kX8_hands (l : Launch) (D : va_G) (a : Nat → Nat) (cI : ClassId) (aS : Nat → Prop) (u : St)  (p1 : Int32) (p2 : Int32) (p3 : Int32) (r : Int32)  (h0 : fX8_hands u p1 p2 p3 = some r) : rl_Mi l yX8_hands wsX8_hands ({ frames := 0, cells := 0, slots := 0, locals := 0 } : Room) D (tyM cI) (wM a cI) ro_0 aS [.ref (a 0), .int p1, .int p2, .int p3] u r u := by
  refine rl_meth_i (cc := cX8_hands) (maxL := 5) (own := RX8) (ty := .int) (by decide) rfl rfl (Nat.le_of_ble_eq_true rfl) ?_
  intro G hG hret
  have h := h0
  rw [fX8_hands] at h
  show G u 0 [(0, .ref (a 0)), (1, .int p1), (2, .int p2), (3, .int p3)] []
  refine rl_aload_n hG dX8_hands_0 rfl 0 rfl ?_
  refine rl_get hG iX8_hands_X8 0 (gM_0 a cI u) hcX8 24 (Nat.le_of_ble_eq_true rfl) nX8_hands_0 rfl dX8_hands_1 ?_
  refine rl_bipush hG (v := 12) dX8_hands_4 (by decide) ?_
  refine rl_iload_n hG dX8_hands_6 rfl 1 rfl ?_
  refine rl_imul hG dX8_hands_7 ?_
  refine rl_bipush hG (v := 6) dX8_hands_8 (by decide) ?_
  refine rl_iload_n hG dX8_hands_10 rfl 2 rfl ?_
  refine rl_imul hG dX8_hands_11 ?_
  refine rl_iadd hG dX8_hands_12 ?_
  refine rl_iload_n hG dX8_hands_13 rfl 3 rfl ?_
  refine rl_iadd hG dX8_hands_14 ?_
  obtain ⟨x1, ix1, ex1, h⟩ := ald_ok h
  refine rl_iald hG 14 0 (gM_14 a cI u) rfl ix1 ex1 dX8_hands_15 ?_
  refine rl_istore hG [(4, .int x1), (0, .ref (a 0)), (1, .int p1), (2, .int p2), (3, .int p3)] dX8_hands_16 (Nat.le_of_ble_eq_true rfl) rfl rfl ?_
  refine rl_iconst hG (v := 1) dX8_hands_18 (by decide) ?_
  refine rl_iload_n hG dX8_hands_19 rfl 4 rfl ?_
  refine rl_ishl hG dX8_hands_20 ?_
  refine rl_iload hG dX8_hands_21 0 rfl ?_
  refine rl_iconst hG (v := 1) dX8_hands_23 (by decide) ?_
  refine rl_icmp_le hG (tgt := 36) dX8_hands_24 (by decide) (fun c2 => ?_) (fun c2 => ?_)
  · have h := it_t h c2
    refine rl_iconst hG (v := 0) dX8_hands_36 (by decide) ?_
    refine rl_ior hG dX8_hands_37 ?_
    exact rl_ret1 hret h rfl dX8_hands_38
  · have h := it_f h c2
    refine rl_iconst hG (v := 1) dX8_hands_27 (by decide) ?_
    refine rl_iload hG dX8_hands_28 0 rfl ?_
    refine rl_iconst hG (v := 2) dX8_hands_30 (by decide) ?_
    refine rl_isub hG dX8_hands_31 ?_
    refine rl_ishl hG dX8_hands_32 ?_
    refine rl_goto hG (tgt := 37) dX8_hands_33 (by decide) ?_
    refine rl_ior hG dX8_hands_37 ?_
    exact rl_ret1 hret h rfl dX8_hands_38
def fX8_goes (u : St)  (p1 : Int32) (p2 : Int32) (p3 : Int32) (p4 : Int32) : Option (Int32) := ald u 14 96 ((((12 : Int32) * p1) + ((6 : Int32) * p2)) + p3) (fun x1 => (if x1 ≤ (0 : Int32) then some (0 : Int32) else o1 (fX8_hands u p1 p2 p3) (fun x3 => (if (x3 &&& (p4 ^^^ (-1 : Int32))) = (0 : Int32) then some (1 : Int32) else some (0 : Int32)))))
theorem nX8_goes_0 : Cond.fieldLink RX8 49 "WhoseWorkModel" "codes" "[I" ∈ wsX8_goes := by decide +kernel
theorem iX8_goes_X8 : ∀ w ∈ wsX80, w ∈ wsX8_goes := by decide +kernel
set_option maxRecDepth 100000 in
set_option maxHeartbeats 4000000 in
theorem kX8_goes (l : Launch) (D : va_G) (a : Nat → Nat) (cI : ClassId) (aS : Nat → Prop) (u : St)  (p1 : Int32) (p2 : Int32) (p3 : Int32) (p4 : Int32) (r : Int32)  (h0 : fX8_goes u p1 p2 p3 p4 = some r) : rl_Mi l yX8_goes wsX8_goes ({ frames := 1, cells := 0, slots := 0, locals := 24 } : Room) D (tyM cI) (wM a cI) ro_0 aS [.ref (a 0), .int p1, .int p2, .int p3, .int p4] u r u := by
  refine rl_meth_i (cc := cX8_goes) (maxL := 5) (own := RX8) (ty := .boolean) (by decide) rfl rfl (Nat.le_of_ble_eq_true rfl) ?_
  intro G hG hret
  have h := h0
  rw [fX8_goes] at h
  show G u 0 [(0, .ref (a 0)), (1, .int p1), (2, .int p2), (3, .int p3), (4, .int p4)] []
  refine rl_aload_n hG dX8_goes_0 rfl 0 rfl ?_
  refine rl_get hG iX8_goes_X8 0 (gM_0 a cI u) hcX8 24 (Nat.le_of_ble_eq_true rfl) nX8_goes_0 rfl dX8_goes_1 ?_
  refine rl_bipush hG (v := 12) dX8_goes_4 (by decide) ?_
  refine rl_iload_n hG dX8_goes_6 rfl 1 rfl ?_
  refine rl_imul hG dX8_goes_7 ?_
  refine rl_bipush hG (v := 6) dX8_goes_8 (by decide) ?_
  refine rl_iload_n hG dX8_goes_10 rfl 2 rfl ?_
  refine rl_imul hG dX8_goes_11 ?_
  refine rl_iadd hG dX8_goes_12 ?_
  refine rl_iload_n hG dX8_goes_13 rfl 3 rfl ?_
  refine rl_iadd hG dX8_goes_14 ?_
  obtain ⟨x1, ix1, ex1, h⟩ := ald_ok h
  refine rl_iald hG 14 0 (gM_14 a cI u) rfl ix1 ex1 dX8_goes_15 ?_
  refine rl_if_le hG (tgt := 38) dX8_goes_16 (by decide) (fun c2 => ?_) (fun c2 => ?_)
  · have h := it_t h c2
    refine rl_iconst hG (v := 0) dX8_goes_38 (by decide) ?_
    exact rl_ret1 hret h rfl dX8_goes_39
  · have h := it_f h c2
    refine rl_aload_n hG dX8_goes_19 rfl 0 rfl ?_
    refine rl_iload_n hG dX8_goes_20 rfl 1 rfl ?_
    refine rl_iload_n hG dX8_goes_21 rfl 2 rfl ?_
    refine rl_iload_n hG dX8_goes_22 rfl 3 rfl ?_
    obtain ⟨x3, hx3q, h⟩ := o1_ok h
    refine rl_callVi hG ro_0_ok (As := [.int p1, .int p2, .int p3]) (kX8_hands l D a cI aS u p1 p2 p3 x3  hx3q) gX8_goes_X8_hands rfl 0 (gM_0 a cI u) hcX8 3 rfl (by decide +kernel) rfl rfl (by decide) (Nat.le_of_ble_eq_true rfl) rfl dX8_goes_23 ?_
    refine rl_iload hG dX8_goes_26 4 rfl ?_
    refine rl_iconst hG (v := -1) dX8_goes_28 (by decide) ?_
    refine rl_ixor hG dX8_goes_29 ?_
    refine rl_iand hG dX8_goes_30 ?_
    refine rl_if_ne hG (tgt := 38) dX8_goes_31 (by decide) (fun c4 => ?_) (fun c4 => ?_)
    · have h := it_f h c4
      refine rl_iconst hG (v := 0) dX8_goes_38 (by decide) ?_
      exact rl_ret1 hret h rfl dX8_goes_39
    · have h := it_t h c4
      refine rl_iconst hG (v := 1) dX8_goes_34 (by decide) ?_
      refine rl_goto hG (tgt := 39) dX8_goes_35 (by decide) ?_
      exact rl_ret1 hret h rfl dX8_goes_39
def fX8_makes_L54 (u : St) (k4 : Int32 → Int32 → Int32 → Option (Int32)) (k18 : Int32 → Int32 → Int32 → Int32 → Int32 → Option (Int32)) (v1 : Int32) (v2 : Int32) (v3 : Int32) (v5 : Int32) (w0 : Int32) : Option (Int32) := bd (v5 + (1 : Int32)) (fun x1 => k18 v1 v2 v3 w0 x1)
def fX8_makes_L49 (u : St) (k4 : Int32 → Int32 → Int32 → Option (Int32)) (k18 : Int32 → Int32 → Int32 → Int32 → Int32 → Option (Int32)) (v1 : Int32) (v2 : Int32) (v3 : Int32) (v5 : Int32) : Option (Int32) := fX8_makes_L54 u k4 k18 v1 v2 v3 v5 (1 : Int32)
def fX8_makes_L76 (u : St) (k4 : Int32 → Int32 → Int32 → Option (Int32)) (v1 : Int32) (v3 : Int32) (w0 : Int32) : Option (Int32) := bd (v3 + (1 : Int32)) (fun x2 => k4 v1 w0 x2)
def fX8_makes_L75 (u : St) (k4 : Int32 → Int32 → Int32 → Option (Int32)) (v1 : Int32) (v3 : Int32) : Option (Int32) := fX8_makes_L76 u k4 v1 v3 (0 : Int32)
def fX8_makes_L62 (u : St) (k4 : Int32 → Int32 → Int32 → Option (Int32)) (v1 : Int32) (v2 : Int32) (v3 : Int32) (v4 : Int32) : Option (Int32) := (if v2 = (0 : Int32) then fX8_makes_L75 u k4 v1 v3 else (if v4 = (0 : Int32) then fX8_makes_L75 u k4 v1 v3 else fX8_makes_L76 u k4 v1 v3 (1 : Int32)))
def fX8_makes_L18 (u : St) (k4 : Int32 → Int32 → Int32 → Option (Int32)) : Nat → Int32 → Int32 → Int32 → Int32 → Int32 → Option (Int32)
  | 0 => fun _ _ _ _ _ => none
  | n + 1 => fun v1 v2 v3 v4 v5 => (if (12 : Int32) ≤ v5 then fX8_makes_L62 u k4 v1 v2 v3 v4 else (if v4 = (0 : Int32) then oz (fX8_goes u v3 (v5 / (6 : Int32)) (v5 - v5 / (6 : Int32) * (6 : Int32)) v1) (fun x7 => (if x7 = (0 : Int32) then fX8_makes_L54 u k4 (fX8_makes_L18 u k4 n) v1 v2 v3 v5 (0 : Int32) else fX8_makes_L49 u k4 (fX8_makes_L18 u k4 n) v1 v2 v3 v5)) else fX8_makes_L49 u k4 (fX8_makes_L18 u k4 n) v1 v2 v3 v5))
def fX8_makes_L4 (u : St)  : Nat → Int32 → Int32 → Int32 → Option (Int32)
  | 0 => fun _ _ _ => none
  | n + 1 => fun v1 v2 v3 => (if (u 0 25) ≤ v3 then rb v2 (fun y => some y) else fX8_makes_L18 u (fX8_makes_L4 u n) 2000 v1 v2 v3 (0 : Int32) (0 : Int32))
def fX8_makes (u : St)  (p1 : Int32) : Option (Int32) := fX8_makes_L4 u 2000 p1 (1 : Int32) (0 : Int32)
theorem nX8_makes_0 : Cond.fieldLink RX8 175 "WhoseWorkModel" "steps" "I" ∈ wsX8_makes := by decide +kernel
theorem iX8_makes_X8 : ∀ w ∈ wsX80, w ∈ wsX8_makes := by decide +kernel
set_option maxRecDepth 100000 in
set_option maxHeartbeats 4000000 in
theorem kX8_makes (l : Launch) (D : va_G) (a : Nat → Nat) (cI : ClassId) (aS : Nat → Prop) (u : St)  (p1 : Int32) (r : Int32)  (h0 : fX8_makes u p1 = some r) : rl_Mi l yX8_makes wsX8_makes ({ frames := 2, cells := 0, slots := 0, locals := 48 } : Room) D (tyM cI) (wM a cI) ro_0 aS [.ref (a 0), .int p1] u r u := by
  refine rl_meth_i (cc := cX8_makes) (maxL := 6) (own := RX8) (ty := .boolean) (by decide) rfl rfl (Nat.le_of_ble_eq_true rfl) ?_
  intro G hG hret
  have H54 : ∀ (k4 : Int32 → Int32 → Int32 → Option (Int32)) (hk4 : ∀ (v1 : Int32) (v2 : Int32) (v3 : Int32), k4 v1 v2 v3 = some r → G u 4 [(0, .ref (a 0)), (1, .int v1), (2, .int v2), (3, .int v3)] []) (k18 : Int32 → Int32 → Int32 → Int32 → Int32 → Option (Int32)) (hk18 : ∀ (v1 : Int32) (v2 : Int32) (v3 : Int32) (v4 : Int32) (v5 : Int32), k18 v1 v2 v3 v4 v5 = some r → G u 18 [(0, .ref (a 0)), (1, .int v1), (2, .int v2), (3, .int v3), (4, .int v4), (5, .int v5)] []), ∀ (v1 : Int32) (v2 : Int32) (v3 : Int32) (v5 : Int32) (w0 : Int32), fX8_makes_L54 u k4 k18 v1 v2 v3 v5 w0 = some r → G u 54 [(0, .ref (a 0)), (1, .int v1), (2, .int v2), (3, .int v3), (5, .int v5)] [.int w0] := by
    intro k4 hk4 k18 hk18 v1 v2 v3 v5 w0 h
    rw [fX8_makes_L54] at h
    refine rl_istore hG [(4, .int w0), (0, .ref (a 0)), (1, .int v1), (2, .int v2), (3, .int v3), (5, .int v5)] dX8_makes_54 (Nat.le_of_ble_eq_true rfl) rfl rfl ?_
    obtain ⟨x1, ex1, h⟩ := bd_ok h
    refine rl_iinc hG [(5, .int x1), (4, .int w0), (0, .ref (a 0)), (1, .int v1), (2, .int v2), (3, .int v3)] dX8_makes_56 5 rfl (by rw [ex1]; rfl) (Nat.le_of_ble_eq_true rfl) rfl ?_
    refine rl_goto hG (tgt := 18) dX8_makes_59 (by decide) ?_
    exact rl_lvs hG [2, 3, 4, 5, 1, 0] rfl (hk18 v1 v2 v3 w0 x1 h)
  have H49 : ∀ (k4 : Int32 → Int32 → Int32 → Option (Int32)) (hk4 : ∀ (v1 : Int32) (v2 : Int32) (v3 : Int32), k4 v1 v2 v3 = some r → G u 4 [(0, .ref (a 0)), (1, .int v1), (2, .int v2), (3, .int v3)] []) (k18 : Int32 → Int32 → Int32 → Int32 → Int32 → Option (Int32)) (hk18 : ∀ (v1 : Int32) (v2 : Int32) (v3 : Int32) (v4 : Int32) (v5 : Int32), k18 v1 v2 v3 v4 v5 = some r → G u 18 [(0, .ref (a 0)), (1, .int v1), (2, .int v2), (3, .int v3), (4, .int v4), (5, .int v5)] []), ∀ (v1 : Int32) (v2 : Int32) (v3 : Int32) (v5 : Int32), fX8_makes_L49 u k4 k18 v1 v2 v3 v5 = some r → G u 49 [(0, .ref (a 0)), (1, .int v1), (2, .int v2), (3, .int v3), (5, .int v5)] [] := by
    intro k4 hk4 k18 hk18 v1 v2 v3 v5 h
    rw [fX8_makes_L49] at h
    refine rl_iconst hG (v := 1) dX8_makes_49 (by decide) ?_
    refine rl_goto hG (tgt := 54) dX8_makes_50 (by decide) ?_
    exact rl_lvs hG [0, 1, 2, 3, 4] rfl (H54 (k4) (hk4) (k18) (hk18) v1 v2 v3 v5 (1 : Int32) h)
  have H76 : ∀ (k4 : Int32 → Int32 → Int32 → Option (Int32)) (hk4 : ∀ (v1 : Int32) (v2 : Int32) (v3 : Int32), k4 v1 v2 v3 = some r → G u 4 [(0, .ref (a 0)), (1, .int v1), (2, .int v2), (3, .int v3)] []), ∀ (v1 : Int32) (v3 : Int32) (w0 : Int32), fX8_makes_L76 u k4 v1 v3 w0 = some r → G u 76 [(0, .ref (a 0)), (1, .int v1), (3, .int v3)] [.int w0] := by
    intro k4 hk4 v1 v3 w0 h
    rw [fX8_makes_L76] at h
    refine rl_istore_n hG [(2, .int w0), (0, .ref (a 0)), (1, .int v1), (3, .int v3)] dX8_makes_76 rfl (Nat.le_of_ble_eq_true rfl) rfl rfl ?_
    obtain ⟨x2, ex2, h⟩ := bd_ok h
    refine rl_iinc hG [(3, .int x2), (2, .int w0), (0, .ref (a 0)), (1, .int v1)] dX8_makes_77 3 rfl (by rw [ex2]; rfl) (Nat.le_of_ble_eq_true rfl) rfl ?_
    refine rl_goto hG (tgt := 4) dX8_makes_80 (by decide) ?_
    exact rl_lvs hG [2, 3, 1, 0] rfl (hk4 v1 w0 x2 h)
  have H75 : ∀ (k4 : Int32 → Int32 → Int32 → Option (Int32)) (hk4 : ∀ (v1 : Int32) (v2 : Int32) (v3 : Int32), k4 v1 v2 v3 = some r → G u 4 [(0, .ref (a 0)), (1, .int v1), (2, .int v2), (3, .int v3)] []), ∀ (v1 : Int32) (v3 : Int32), fX8_makes_L75 u k4 v1 v3 = some r → G u 75 [(0, .ref (a 0)), (1, .int v1), (3, .int v3)] [] := by
    intro k4 hk4 v1 v3 h
    rw [fX8_makes_L75] at h
    refine rl_iconst hG (v := 0) dX8_makes_75 (by decide) ?_
    exact rl_lvs hG [0, 1, 2] rfl (H76 (k4) (hk4) v1 v3 (0 : Int32) h)
  have H62 : ∀ (k4 : Int32 → Int32 → Int32 → Option (Int32)) (hk4 : ∀ (v1 : Int32) (v2 : Int32) (v3 : Int32), k4 v1 v2 v3 = some r → G u 4 [(0, .ref (a 0)), (1, .int v1), (2, .int v2), (3, .int v3)] []), ∀ (v1 : Int32) (v2 : Int32) (v3 : Int32) (v4 : Int32), fX8_makes_L62 u k4 v1 v2 v3 v4 = some r → G u 62 [(0, .ref (a 0)), (1, .int v1), (2, .int v2), (3, .int v3), (4, .int v4)] [] := by
    intro k4 hk4 v1 v2 v3 v4 h
    rw [fX8_makes_L62] at h
    refine rl_iload_n hG dX8_makes_62 rfl 2 rfl ?_
    refine rl_if_eq hG (tgt := 75) dX8_makes_63 (by decide) (fun c3 => ?_) (fun c3 => ?_)
    · have h := it_t h c3
      exact rl_lvs hG [0, 1, 3] rfl (H75 (k4) (hk4) v1 v3 h)
    · have h := it_f h c3
      refine rl_iload hG dX8_makes_66 4 rfl ?_
      refine rl_if_eq hG (tgt := 75) dX8_makes_68 (by decide) (fun c4 => ?_) (fun c4 => ?_)
      · have h := it_t h c4
        exact rl_lvs hG [0, 1, 3] rfl (H75 (k4) (hk4) v1 v3 h)
      · have h := it_f h c4
        refine rl_iconst hG (v := 1) dX8_makes_71 (by decide) ?_
        refine rl_goto hG (tgt := 76) dX8_makes_72 (by decide) ?_
        exact rl_lvs hG [0, 1, 3] rfl (H76 (k4) (hk4) v1 v3 (1 : Int32) h)
  have H18 : ∀ (k4 : Int32 → Int32 → Int32 → Option (Int32)) (hk4 : ∀ (v1 : Int32) (v2 : Int32) (v3 : Int32), k4 v1 v2 v3 = some r → G u 4 [(0, .ref (a 0)), (1, .int v1), (2, .int v2), (3, .int v3)] []), ∀ (n : Nat) (v1 : Int32) (v2 : Int32) (v3 : Int32) (v4 : Int32) (v5 : Int32), fX8_makes_L18 u k4 n v1 v2 v3 v4 v5 = some r → G u 18 [(0, .ref (a 0)), (1, .int v1), (2, .int v2), (3, .int v3), (4, .int v4), (5, .int v5)] [] := by
    intro k4 hk4
    intro n
    induction n with
    | zero =>
      intro v1 v2 v3 v4 v5 h
      exact absurd h (by rw [fX8_makes_L18]; exact fun q => by cases q)
    | succ n ih =>
      intro v1 v2 v3 v4 v5 h
      rw [fX8_makes_L18] at h
      refine rl_iload hG dX8_makes_18 5 rfl ?_
      refine rl_bipush hG (v := 12) dX8_makes_20 (by decide) ?_
      refine rl_icmp_ge hG (tgt := 62) dX8_makes_22 (by decide) (fun c5 => ?_) (fun c5 => ?_)
      · have h := it_t h c5
        exact rl_lvs hG [0, 1, 2, 3, 4] rfl (H62 (k4) (hk4) v1 v2 v3 v4 h)
      · have h := it_f h c5
        refine rl_iload hG dX8_makes_25 4 rfl ?_
        refine rl_if_ne hG (tgt := 49) dX8_makes_27 (by decide) (fun c6 => ?_) (fun c6 => ?_)
        · have h := it_f h c6
          exact rl_lvs hG [0, 1, 2, 3, 5] rfl (H49 (k4) (hk4) (fX8_makes_L18 u k4 n) (ih) v1 v2 v3 v5 h)
        · have h := it_t h c6
          refine rl_aload_n hG dX8_makes_30 rfl 0 rfl ?_
          refine rl_iload_n hG dX8_makes_31 rfl 3 rfl ?_
          refine rl_iload hG dX8_makes_32 5 rfl ?_
          refine rl_bipush hG (v := 6) dX8_makes_34 (by decide) ?_
          refine rl_idiv hG dX8_makes_36 (by decide) ?_
          refine rl_iload hG dX8_makes_37 5 rfl ?_
          refine rl_bipush hG (v := 6) dX8_makes_39 (by decide) ?_
          refine rl_irem hG dX8_makes_41 (by decide) ?_
          refine rl_iload_n hG dX8_makes_42 rfl 1 rfl ?_
          obtain ⟨x7, hx7q, zx7, h⟩ := oz_ok h
          refine rl_callVi hG ro_0_ok (As := [.int v3, .int (v5 / (6 : Int32)), .int (v5 - v5 / (6 : Int32) * (6 : Int32)), .int v1]) (kX8_goes l D a cI aS u v3 (v5 / (6 : Int32)) (v5 - v5 / (6 : Int32) * (6 : Int32)) v1 x7  hx7q) gX8_makes_X8_goes rfl 0 (gM_0 a cI u) hcX8 4 rfl (by decide +kernel) rfl rfl (by decide) (Nat.le_of_ble_eq_true rfl) rfl dX8_makes_43 ?_
          refine rl_if_eq hG (tgt := 53) dX8_makes_46 (by decide) (fun c8 => ?_) (fun c8 => ?_)
          · have h := it_t h c8
            refine rl_iconst hG (v := 0) dX8_makes_53 (by decide) ?_
            exact rl_lvs hG [0, 1, 2, 3, 5] rfl (H54 (k4) (hk4) (fX8_makes_L18 u k4 n) (ih) v1 v2 v3 v5 (0 : Int32) h)
          · have h := it_f h c8
            exact rl_lvs hG [0, 1, 2, 3, 5] rfl (H49 (k4) (hk4) (fX8_makes_L18 u k4 n) (ih) v1 v2 v3 v5 h)
  have H4 : ∀ (n : Nat) (v1 : Int32) (v2 : Int32) (v3 : Int32), fX8_makes_L4 u n v1 v2 v3 = some r → G u 4 [(0, .ref (a 0)), (1, .int v1), (2, .int v2), (3, .int v3)] [] := by
    intro n
    induction n with
    | zero =>
      intro v1 v2 v3 h
      exact absurd h (by rw [fX8_makes_L4]; exact fun q => by cases q)
    | succ n ih =>
      intro v1 v2 v3 h
      rw [fX8_makes_L4] at h
      refine rl_iload_n hG dX8_makes_4 rfl 3 rfl ?_
      refine rl_aload_n hG dX8_makes_5 rfl 0 rfl ?_
      refine rl_get hG iX8_makes_X8 0 (gM_0 a cI u) hcX8 25 (Nat.le_of_ble_eq_true rfl) nX8_makes_0 rfl dX8_makes_6 ?_
      refine rl_icmp_ge hG (tgt := 83) dX8_makes_9 (by decide) (fun c9 => ?_) (fun c9 => ?_)
      · have h := it_t h c9
        refine rl_iload_n hG dX8_makes_83 rfl 2 rfl ?_
        obtain ⟨hz, h⟩ := rb_ok h
        exact rl_ret1 hret h (na_z hz) dX8_makes_84
      · have h := it_f h c9
        refine rl_iconst hG (v := 0) dX8_makes_12 (by decide) ?_
        refine rl_istore hG [(4, .int (0 : Int32)), (0, .ref (a 0)), (1, .int v1), (2, .int v2), (3, .int v3)] dX8_makes_13 (Nat.le_of_ble_eq_true rfl) rfl rfl ?_
        refine rl_iconst hG (v := 0) dX8_makes_15 (by decide) ?_
        refine rl_istore hG [(5, .int (0 : Int32)), (4, .int (0 : Int32)), (0, .ref (a 0)), (1, .int v1), (2, .int v2), (3, .int v3)] dX8_makes_16 (Nat.le_of_ble_eq_true rfl) rfl rfl ?_
        exact rl_lvs hG [2, 3, 4, 5, 1, 0] rfl (H18 (fX8_makes_L4 u n) (ih) 2000 v1 v2 v3 (0 : Int32) (0 : Int32) h)
  have h := h0
  rw [fX8_makes] at h
  show G u 0 [(0, .ref (a 0)), (1, .int p1)] []
  refine rl_iconst hG (v := 1) dX8_makes_0 (by decide) ?_
  refine rl_istore_n hG [(2, .int (1 : Int32)), (0, .ref (a 0)), (1, .int p1)] dX8_makes_1 rfl (Nat.le_of_ble_eq_true rfl) rfl rfl ?_
  refine rl_iconst hG (v := 0) dX8_makes_2 (by decide) ?_
  refine rl_istore_n hG [(3, .int (0 : Int32)), (2, .int (1 : Int32)), (0, .ref (a 0)), (1, .int p1)] dX8_makes_3 rfl (Nat.le_of_ble_eq_true rfl) rfl rfl ?_
  exact rl_lvs hG [2, 3, 1, 0] rfl (H4 2000 p1 (1 : Int32) (0 : Int32) h)
def fX8_leastSet_L49 (u : St) (k4 : Int32 → Int32 → Option (Int32)) (v2 : Int32) (w0 : Int32) : Option (Int32) := bd (v2 + (1 : Int32)) (fun x1 => k4 w0 x1)
def fX8_leastSet_L39 (u : St) (k4 : Int32 → Int32 → Option (Int32)) (v1 : Int32) (v2 : Int32) (w0 : Int32) : Option (Int32) := (if w0 = (0 : Int32) then fX8_leastSet_L49 u k4 v2 v1 else fX8_leastSet_L49 u k4 v2 v2)
def fX8_leastSet_L38 (u : St) (k4 : Int32 → Int32 → Option (Int32)) (v1 : Int32) (v2 : Int32) : Option (Int32) := fX8_leastSet_L39 u k4 v1 v2 (0 : Int32)
def fX8_leastSet_L26 (u : St) (k4 : Int32 → Int32 → Option (Int32)) (v1 : Int32) (v2 : Int32) : Option (Int32) := oz (fX8_makes u v2) (fun x3 => (if x3 = (0 : Int32) then fX8_leastSet_L38 u k4 v1 v2 else fX8_leastSet_L39 u k4 v1 v2 (1 : Int32)))
def fX8_leastSet_L4 (u : St)  : Nat → Int32 → Int32 → Option (Int32)
  | 0 => fun _ _ => none
  | n + 1 => fun v1 v2 => (if (64 : Int32) ≤ v2 then some v1 else (if v1 = (-1 : Int32) then fX8_leastSet_L26 u (fX8_leastSet_L4 u n) v1 v2 else o1 (fX8_many v2) (fun x7 => o1 (fX8_many v1) (fun x8 => (if x8 ≤ x7 then fX8_leastSet_L38 u (fX8_leastSet_L4 u n) v1 v2 else fX8_leastSet_L26 u (fX8_leastSet_L4 u n) v1 v2)))))
def fX8_leastSet (u : St)   : Option (Int32) := fX8_leastSet_L4 u 2000 (-1 : Int32) (0 : Int32)
set_option maxRecDepth 100000 in
set_option maxHeartbeats 4000000 in
theorem kX8_leastSet (l : Launch) (D : va_G) (a : Nat → Nat) (cI : ClassId) (aS : Nat → Prop) (u : St)   (r : Int32)  (h0 : fX8_leastSet u = some r) : rl_Mi l yX8_leastSet wsX8_leastSet ({ frames := 3, cells := 0, slots := 0, locals := 73 } : Room) D (tyM cI) (wM a cI) ro_0 aS [.ref (a 0)] u r u := by
  refine rl_meth_i (cc := cX8_leastSet) (maxL := 4) (own := RX8) (ty := .int) (by decide) rfl rfl (Nat.le_of_ble_eq_true rfl) ?_
  intro G hG hret
  have H49 : ∀ (k4 : Int32 → Int32 → Option (Int32)) (hk4 : ∀ (v1 : Int32) (v2 : Int32), k4 v1 v2 = some r → G u 4 [(0, .ref (a 0)), (1, .int v1), (2, .int v2)] []), ∀ (v2 : Int32) (w0 : Int32), fX8_leastSet_L49 u k4 v2 w0 = some r → G u 49 [(0, .ref (a 0)), (2, .int v2)] [.int w0] := by
    intro k4 hk4 v2 w0 h
    rw [fX8_leastSet_L49] at h
    refine rl_istore_n hG [(1, .int w0), (0, .ref (a 0)), (2, .int v2)] dX8_leastSet_49 rfl (Nat.le_of_ble_eq_true rfl) rfl rfl ?_
    obtain ⟨x1, ex1, h⟩ := bd_ok h
    refine rl_iinc hG [(2, .int x1), (1, .int w0), (0, .ref (a 0))] dX8_leastSet_50 2 rfl (by rw [ex1]; rfl) (Nat.le_of_ble_eq_true rfl) rfl ?_
    refine rl_goto hG (tgt := 4) dX8_leastSet_53 (by decide) ?_
    exact rl_lvs hG [2, 1, 0] rfl (hk4 w0 x1 h)
  have H39 : ∀ (k4 : Int32 → Int32 → Option (Int32)) (hk4 : ∀ (v1 : Int32) (v2 : Int32), k4 v1 v2 = some r → G u 4 [(0, .ref (a 0)), (1, .int v1), (2, .int v2)] []), ∀ (v1 : Int32) (v2 : Int32) (w0 : Int32), fX8_leastSet_L39 u k4 v1 v2 w0 = some r → G u 39 [(0, .ref (a 0)), (1, .int v1), (2, .int v2)] [.int w0] := by
    intro k4 hk4 v1 v2 w0 h
    rw [fX8_leastSet_L39] at h
    refine rl_istore_n hG [(3, .int w0), (0, .ref (a 0)), (1, .int v1), (2, .int v2)] dX8_leastSet_39 rfl (Nat.le_of_ble_eq_true rfl) rfl rfl ?_
    refine rl_iload_n hG dX8_leastSet_40 rfl 0 rfl ?_
    refine rl_if_eq hG (tgt := 48) dX8_leastSet_41 (by decide) (fun c2 => ?_) (fun c2 => ?_)
    · have h := it_t h c2
      refine rl_iload_n hG dX8_leastSet_48 rfl 2 rfl ?_
      exact rl_lvs hG [1, 3] rfl (H49 (k4) (hk4) v2 v1 h)
    · have h := it_f h c2
      refine rl_iload_n hG dX8_leastSet_44 rfl 3 rfl ?_
      refine rl_goto hG (tgt := 49) dX8_leastSet_45 (by decide) ?_
      exact rl_lvs hG [1, 3] rfl (H49 (k4) (hk4) v2 v2 h)
  have H38 : ∀ (k4 : Int32 → Int32 → Option (Int32)) (hk4 : ∀ (v1 : Int32) (v2 : Int32), k4 v1 v2 = some r → G u 4 [(0, .ref (a 0)), (1, .int v1), (2, .int v2)] []), ∀ (v1 : Int32) (v2 : Int32), fX8_leastSet_L38 u k4 v1 v2 = some r → G u 38 [(0, .ref (a 0)), (1, .int v1), (2, .int v2)] [] := by
    intro k4 hk4 v1 v2 h
    rw [fX8_leastSet_L38] at h
    refine rl_iconst hG (v := 0) dX8_leastSet_38 (by decide) ?_
    exact rl_lvs hG [0, 1, 2] rfl (H39 (k4) (hk4) v1 v2 (0 : Int32) h)
  have H26 : ∀ (k4 : Int32 → Int32 → Option (Int32)) (hk4 : ∀ (v1 : Int32) (v2 : Int32), k4 v1 v2 = some r → G u 4 [(0, .ref (a 0)), (1, .int v1), (2, .int v2)] []), ∀ (v1 : Int32) (v2 : Int32), fX8_leastSet_L26 u k4 v1 v2 = some r → G u 26 [(0, .ref (a 0)), (1, .int v1), (2, .int v2)] [] := by
    intro k4 hk4 v1 v2 h
    rw [fX8_leastSet_L26] at h
    refine rl_aload_n hG dX8_leastSet_26 rfl 0 rfl ?_
    refine rl_iload_n hG dX8_leastSet_27 rfl 2 rfl ?_
    obtain ⟨x3, hx3q, zx3, h⟩ := oz_ok h
    refine rl_callVi hG ro_0_ok (As := [.int v2]) (kX8_makes l D a cI aS u v2 x3  hx3q) gX8_leastSet_X8_makes rfl 0 (gM_0 a cI u) hcX8 1 rfl (by decide +kernel) rfl rfl (by decide) (Nat.le_of_ble_eq_true rfl) rfl dX8_leastSet_28 ?_
    refine rl_if_eq hG (tgt := 38) dX8_leastSet_31 (by decide) (fun c4 => ?_) (fun c4 => ?_)
    · have h := it_t h c4
      exact rl_lvs hG [0, 1, 2] rfl (H38 (k4) (hk4) v1 v2 h)
    · have h := it_f h c4
      refine rl_iconst hG (v := 1) dX8_leastSet_34 (by decide) ?_
      refine rl_goto hG (tgt := 39) dX8_leastSet_35 (by decide) ?_
      exact rl_lvs hG [0, 1, 2] rfl (H39 (k4) (hk4) v1 v2 (1 : Int32) h)
  have H4 : ∀ (n : Nat) (v1 : Int32) (v2 : Int32), fX8_leastSet_L4 u n v1 v2 = some r → G u 4 [(0, .ref (a 0)), (1, .int v1), (2, .int v2)] [] := by
    intro n
    induction n with
    | zero =>
      intro v1 v2 h
      exact absurd h (by rw [fX8_leastSet_L4]; exact fun q => by cases q)
    | succ n ih =>
      intro v1 v2 h
      rw [fX8_leastSet_L4] at h
      refine rl_iload_n hG dX8_leastSet_4 rfl 2 rfl ?_
      refine rl_bipush hG (v := 64) dX8_leastSet_5 (by decide) ?_
      refine rl_icmp_ge hG (tgt := 56) dX8_leastSet_7 (by decide) (fun c5 => ?_) (fun c5 => ?_)
      · have h := it_t h c5
        refine rl_iload_n hG dX8_leastSet_56 rfl 1 rfl ?_
        exact rl_ret1 hret h rfl dX8_leastSet_57
      · have h := it_f h c5
        refine rl_iload_n hG dX8_leastSet_10 rfl 1 rfl ?_
        refine rl_iconst hG (v := -1) dX8_leastSet_11 (by decide) ?_
        refine rl_icmp_eq hG (tgt := 26) dX8_leastSet_12 (by decide) (fun c6 => ?_) (fun c6 => ?_)
        · have h := it_t h c6
          exact rl_lvs hG [0, 1, 2] rfl (H26 (fX8_leastSet_L4 u n) (ih) v1 v2 h)
        · have h := it_f h c6
          refine rl_iload_n hG dX8_leastSet_15 rfl 2 rfl ?_
          obtain ⟨x7, hx7q, h⟩ := o1_ok h
          refine rl_callZi hG (As := [.int v2]) (kX8_many l D u v2 x7 hx7q) gX8_leastSet_X8_many rfl 1 rfl (by decide +kernel) rfl rfl (by decide) (Nat.le_of_ble_eq_true rfl) rfl dX8_leastSet_16 ?_
          refine rl_iload_n hG dX8_leastSet_19 rfl 1 rfl ?_
          obtain ⟨x8, hx8q, h⟩ := o1_ok h
          refine rl_callZi hG (As := [.int v1]) (kX8_many l D u v1 x8 hx8q) gX8_leastSet_X8_many rfl 1 rfl (by decide +kernel) rfl rfl (by decide) (Nat.le_of_ble_eq_true rfl) rfl dX8_leastSet_20 ?_
          refine rl_icmp_ge hG (tgt := 38) dX8_leastSet_23 (by decide) (fun c9 => ?_) (fun c9 => ?_)
          · have h := it_t h c9
            exact rl_lvs hG [0, 1, 2] rfl (H38 (fX8_leastSet_L4 u n) (ih) v1 v2 h)
          · have h := it_f h c9
            exact rl_lvs hG [0, 1, 2] rfl (H26 (fX8_leastSet_L4 u n) (ih) v1 v2 h)
  have h := h0
  rw [fX8_leastSet] at h
  show G u 0 [(0, .ref (a 0))] []
  refine rl_iconst hG (v := -1) dX8_leastSet_0 (by decide) ?_
  refine rl_istore_n hG [(1, .int (-1 : Int32)), (0, .ref (a 0))] dX8_leastSet_1 rfl (Nat.le_of_ble_eq_true rfl) rfl rfl ?_
  refine rl_iconst hG (v := 0) dX8_leastSet_2 (by decide) ?_
  refine rl_istore_n hG [(2, .int (0 : Int32)), (1, .int (-1 : Int32)), (0, .ref (a 0))] dX8_leastSet_3 rfl (Nat.le_of_ble_eq_true rfl) rfl rfl ?_
  exact rl_lvs hG [2, 1, 0] rfl (H4 2000 (-1 : Int32) (0 : Int32) h)
def fX8_needed (u : St)   : Option (Int32) := o1 (fX8_leastSet u) (fun x1 => (if x1 = (-1 : Int32) then some (7 : Int32) else o1 (fX8_many x1) (fun x3 => some x3)))
set_option maxRecDepth 100000 in
set_option maxHeartbeats 4000000 in
theorem kX8_needed (l : Launch) (D : va_G) (a : Nat → Nat) (cI : ClassId) (aS : Nat → Prop) (u : St)   (r : Int32)  (h0 : fX8_needed u = some r) : rl_Mi l yX8_needed wsX8_needed ({ frames := 4, cells := 0, slots := 0, locals := 96 } : Room) D (tyM cI) (wM a cI) ro_0 aS [.ref (a 0)] u r u := by
  refine rl_meth_i (cc := cX8_needed) (maxL := 2) (own := RX8) (ty := .int) (by decide) rfl rfl (Nat.le_of_ble_eq_true rfl) ?_
  intro G hG hret
  have h := h0
  rw [fX8_needed] at h
  show G u 0 [(0, .ref (a 0))] []
  refine rl_aload_n hG dX8_needed_0 rfl 0 rfl ?_
  obtain ⟨x1, hx1q, h⟩ := o1_ok h
  refine rl_callVi hG ro_0_ok (As := []) (kX8_leastSet l D a cI aS u  x1  hx1q) gX8_needed_X8_leastSet rfl 0 (gM_0 a cI u) hcX8 0 rfl (by decide +kernel) rfl rfl (by decide) (Nat.le_of_ble_eq_true rfl) rfl dX8_needed_1 ?_
  refine rl_istore_n hG [(1, .int x1), (0, .ref (a 0))] dX8_needed_4 rfl (Nat.le_of_ble_eq_true rfl) rfl rfl ?_
  refine rl_iload_n hG dX8_needed_5 rfl 0 rfl ?_
  refine rl_iconst hG (v := -1) dX8_needed_6 (by decide) ?_
  refine rl_icmp_ne hG (tgt := 15) dX8_needed_7 (by decide) (fun c2 => ?_) (fun c2 => ?_)
  · have h := it_f h c2
    refine rl_iload_n hG dX8_needed_15 rfl 0 rfl ?_
    obtain ⟨x3, hx3q, h⟩ := o1_ok h
    refine rl_callZi hG (As := [.int x1]) (kX8_many l D u x1 x3 hx3q) gX8_needed_X8_many rfl 1 rfl (by decide +kernel) rfl rfl (by decide) (Nat.le_of_ble_eq_true rfl) rfl dX8_needed_16 ?_
    exact rl_ret1 hret h rfl dX8_needed_19
  · have h := it_t h c2
    refine rl_bipush hG (v := 7) dX8_needed_10 (by decide) ?_
    refine rl_goto hG (tgt := 19) dX8_needed_12 (by decide) ?_
    exact rl_ret1 hret h rfl dX8_needed_19
def fX8_wrongStep_L8   : Nat → St → Int32 → Int32 → Int32 → Option (Int32 × St)
  | 0 => fun _ _ _ _ => none
  | n + 1 => fun u v2 v3 v4 => (if (u 0 25) ≤ v4 then some ((-1 : Int32), u) else bd ((v2 >>> (((3 : Int32) * v4) &&& 31)) &&& (7 : Int32)) (fun x2 => oz (fX8_isGuild x2) (fun x3 => (if x3 = (0 : Int32) then some (v4, u) else ald u 14 96 ((((12 : Int32) * v4) + ((6 : Int32) * ((v3 >>> (v4 &&& 31)) &&& (1 : Int32)))) + x2) (fun x5 => (if x5 = (0 : Int32) then some (v4, u) else bd (v4 + (1 : Int32)) (fun x7 => fX8_wrongStep_L8 n u v2 v3 x7)))))))
def fX8_wrongStep (u : St)  (p1 : Int32) (p2 : Int32) (p3 : Int32) : Option (Int32 × St) := o1 (fX8_lay u p1) (fun u8 => fX8_wrongStep_L8 2000 u8 p2 p3 (0 : Int32))
theorem nX8_wrongStep_0 : Cond.fieldLink RX8 175 "WhoseWorkModel" "steps" "I" ∈ wsX8_wrongStep := by decide +kernel
theorem nX8_wrongStep_1 : Cond.fieldLink RX8 49 "WhoseWorkModel" "codes" "[I" ∈ wsX8_wrongStep := by decide +kernel
theorem iX8_wrongStep_X8 : ∀ w ∈ wsX80, w ∈ wsX8_wrongStep := by decide +kernel
set_option maxRecDepth 100000 in
set_option maxHeartbeats 4000000 in
theorem kX8_wrongStep (l : Launch) (D : va_G) (a : Nat → Nat) (cI : ClassId) (aS : Nat → Prop) (u : St)  (p1 : Int32) (p2 : Int32) (p3 : Int32) (r : Int32) (τ : St)  (h0 : fX8_wrongStep u p1 p2 p3 = some (r, τ)) : rl_Mi l yX8_wrongStep wsX8_wrongStep ({ frames := 5, cells := 0, slots := 0, locals := 119 } : Room) D (tyM cI) (wM a cI) ro_0 aS [.ref (a 0), .int p1, .int p2, .int p3] u r τ := by
  refine rl_meth_i (cc := cX8_wrongStep) (maxL := 6) (own := RX8) (ty := .int) (by decide) rfl rfl (Nat.le_of_ble_eq_true rfl) ?_
  intro G hG hret
  have H8 : ∀ (n : Nat) (u : St) (v2 : Int32) (v3 : Int32) (v4 : Int32), fX8_wrongStep_L8 n u v2 v3 v4 = some (r, τ) → G u 8 [(0, .ref (a 0)), (2, .int v2), (3, .int v3), (4, .int v4)] [] := by
    intro n
    induction n with
    | zero =>
      intro u v2 v3 v4 h
      exact absurd h (by rw [fX8_wrongStep_L8]; exact fun q => by cases q)
    | succ n ih =>
      intro u v2 v3 v4 h
      rw [fX8_wrongStep_L8] at h
      refine rl_iload hG dX8_wrongStep_8 3 rfl ?_
      refine rl_aload_n hG dX8_wrongStep_10 rfl 0 rfl ?_
      refine rl_get hG iX8_wrongStep_X8 0 (gM_0 a cI u) hcX8 25 (Nat.le_of_ble_eq_true rfl) nX8_wrongStep_0 rfl dX8_wrongStep_11 ?_
      refine rl_icmp_ge hG (tgt := 71) dX8_wrongStep_14 (by decide) (fun c1 => ?_) (fun c1 => ?_)
      · have h := it_t h c1
        refine rl_iconst hG (v := -1) dX8_wrongStep_71 (by decide) ?_
        exact rl_ret2 hret h rfl dX8_wrongStep_72
      · have h := it_f h c1
        refine rl_iload_n hG dX8_wrongStep_17 rfl 1 rfl ?_
        refine rl_iconst hG (v := 3) dX8_wrongStep_18 (by decide) ?_
        refine rl_iload hG dX8_wrongStep_19 3 rfl ?_
        refine rl_imul hG dX8_wrongStep_21 ?_
        refine rl_ishr hG dX8_wrongStep_22 ?_
        refine rl_bipush hG (v := 7) dX8_wrongStep_23 (by decide) ?_
        refine rl_iand hG dX8_wrongStep_25 ?_
        obtain ⟨x2, ex2, h⟩ := bd_ok h
        refine rl_istore hG [(5, .int x2), (0, .ref (a 0)), (2, .int v2), (3, .int v3), (4, .int v4)] dX8_wrongStep_26 (Nat.le_of_ble_eq_true rfl) ex2 rfl ?_
        refine rl_iload hG dX8_wrongStep_28 0 rfl ?_
        obtain ⟨x3, hx3q, zx3, h⟩ := oz_ok h
        refine rl_callZi hG (As := [.int x2]) (kX8_isGuild l D u x2 x3 hx3q) gX8_wrongStep_X8_isGuild rfl 1 rfl (by decide +kernel) rfl rfl (by decide) (Nat.le_of_ble_eq_true rfl) rfl dX8_wrongStep_30 ?_
        refine rl_if_eq hG (tgt := 62) dX8_wrongStep_33 (by decide) (fun c4 => ?_) (fun c4 => ?_)
        · have h := it_t h c4
          refine rl_iload hG dX8_wrongStep_62 4 rfl ?_
          exact rl_ret2 hret h rfl dX8_wrongStep_64
        · have h := it_f h c4
          refine rl_aload_n hG dX8_wrongStep_36 rfl 1 rfl ?_
          refine rl_get hG iX8_wrongStep_X8 0 (gM_0 a cI u) hcX8 24 (Nat.le_of_ble_eq_true rfl) nX8_wrongStep_1 rfl dX8_wrongStep_37 ?_
          refine rl_bipush hG (v := 12) dX8_wrongStep_40 (by decide) ?_
          refine rl_iload hG dX8_wrongStep_42 4 rfl ?_
          refine rl_imul hG dX8_wrongStep_44 ?_
          refine rl_bipush hG (v := 6) dX8_wrongStep_45 (by decide) ?_
          refine rl_iload_n hG dX8_wrongStep_47 rfl 3 rfl ?_
          refine rl_iload hG dX8_wrongStep_48 4 rfl ?_
          refine rl_ishr hG dX8_wrongStep_50 ?_
          refine rl_iconst hG (v := 1) dX8_wrongStep_51 (by decide) ?_
          refine rl_iand hG dX8_wrongStep_52 ?_
          refine rl_imul hG dX8_wrongStep_53 ?_
          refine rl_iadd hG dX8_wrongStep_54 ?_
          refine rl_iload hG dX8_wrongStep_55 0 rfl ?_
          refine rl_iadd hG dX8_wrongStep_57 ?_
          obtain ⟨x5, ix5, ex5, h⟩ := ald_ok h
          refine rl_iald hG 14 0 (gM_14 a cI u) rfl ix5 ex5 dX8_wrongStep_58 ?_
          refine rl_if_ne hG (tgt := 65) dX8_wrongStep_59 (by decide) (fun c6 => ?_) (fun c6 => ?_)
          · have h := it_f h c6
            obtain ⟨x7, ex7, h⟩ := bd_ok h
            refine rl_iinc hG [(4, .int x7), (5, .int x2), (0, .ref (a 0)), (2, .int v2), (3, .int v3)] dX8_wrongStep_65 4 rfl (by rw [ex7]; rfl) (Nat.le_of_ble_eq_true rfl) rfl ?_
            refine rl_goto hG (tgt := 8) dX8_wrongStep_68 (by decide) ?_
            exact rl_lvs hG [2, 3, 4, 0] rfl (ih u v2 v3 x7 h)
          · have h := it_t h c6
            refine rl_iload hG dX8_wrongStep_62 4 rfl ?_
            exact rl_ret2 hret h rfl dX8_wrongStep_64
  have h := h0
  rw [fX8_wrongStep] at h
  show G u 0 [(0, .ref (a 0)), (1, .int p1), (2, .int p2), (3, .int p3)] []
  refine rl_aload_n hG dX8_wrongStep_0 rfl 0 rfl ?_
  refine rl_iload_n hG dX8_wrongStep_1 rfl 1 rfl ?_
  obtain ⟨u8, hu8q, h⟩ := o1_ok h
  refine rl_callVv hG ro_0_ok (As := [.int p1]) (kX8_lay l D a cI aS u p1 u8  hu8q) gX8_wrongStep_X8_lay rfl 0 (gM_0 a cI u) hcX8 1 rfl (by decide +kernel) rfl rfl (by decide) (Nat.le_of_ble_eq_true rfl) rfl dX8_wrongStep_2 ?_
  refine rl_iconst hG (v := 0) dX8_wrongStep_5 (by decide) ?_
  refine rl_istore hG [(4, .int (0 : Int32)), (0, .ref (a 0)), (1, .int p1), (2, .int p2), (3, .int p3)] dX8_wrongStep_6 (Nat.le_of_ble_eq_true rfl) rfl rfl ?_
  exact rl_lvs hG [1, 3, 4, 0] rfl (H8 2000 u8 p2 p3 (0 : Int32) h)
def fX8_judge (u : St)  (p1 : Int32) (p2 : Int32) (p3 : Int32) : Option (Int32 × St) := oz (fX8_isThing p1) (fun x1 => (if x1 = (0 : Int32) then some ((-2 : Int32), u) else o2 (fX8_wrongStep u p1 p2 p3) (fun x3 u4 => some (x3, u4))))
set_option maxRecDepth 100000 in
set_option maxHeartbeats 4000000 in
theorem kX8_judge (l : Launch) (D : va_G) (a : Nat → Nat) (cI : ClassId) (aS : Nat → Prop) (u : St)  (p1 : Int32) (p2 : Int32) (p3 : Int32) (r : Int32) (τ : St)  (h0 : fX8_judge u p1 p2 p3 = some (r, τ)) : rl_Mi l yX8_judge wsX8_judge ({ frames := 6, cells := 0, slots := 0, locals := 144 } : Room) D (tyM cI) (wM a cI) ro_0 aS [.ref (a 0), .int p1, .int p2, .int p3] u r τ := by
  refine rl_meth_i (cc := cX8_judge) (maxL := 4) (own := RX8) (ty := .int) (by decide) rfl rfl (Nat.le_of_ble_eq_true rfl) ?_
  intro G hG hret
  have h := h0
  rw [fX8_judge] at h
  show G u 0 [(0, .ref (a 0)), (1, .int p1), (2, .int p2), (3, .int p3)] []
  refine rl_iload_n hG dX8_judge_0 rfl 1 rfl ?_
  obtain ⟨x1, hx1q, zx1, h⟩ := oz_ok h
  refine rl_callZi hG (As := [.int p1]) (kX8_isThing l D u p1 x1 hx1q) gX8_judge_X8_isThing rfl 1 rfl (by decide +kernel) rfl rfl (by decide) (Nat.le_of_ble_eq_true rfl) rfl dX8_judge_1 ?_
  refine rl_if_eq hG (tgt := 17) dX8_judge_4 (by decide) (fun c2 => ?_) (fun c2 => ?_)
  · have h := it_t h c2
    refine rl_bipush hG (v := -2) dX8_judge_17 (by decide) ?_
    exact rl_ret2 hret h rfl dX8_judge_19
  · have h := it_f h c2
    refine rl_aload_n hG dX8_judge_7 rfl 0 rfl ?_
    refine rl_iload_n hG dX8_judge_8 rfl 1 rfl ?_
    refine rl_iload_n hG dX8_judge_9 rfl 2 rfl ?_
    refine rl_iload_n hG dX8_judge_10 rfl 3 rfl ?_
    obtain ⟨x3, u4, hx3q, h⟩ := o2_ok h
    refine rl_callVi hG ro_0_ok (As := [.int p1, .int p2, .int p3]) (kX8_wrongStep l D a cI aS u p1 p2 p3 x3 u4  hx3q) gX8_judge_X8_wrongStep rfl 0 (gM_0 a cI u) hcX8 3 rfl (by decide +kernel) rfl rfl (by decide) (Nat.le_of_ble_eq_true rfl) rfl dX8_judge_11 ?_
    refine rl_goto hG (tgt := 19) dX8_judge_14 (by decide) ?_
    exact rl_ret2 hret h rfl dX8_judge_19
def fX8_stepCost_L17 (u : St)  (v1 : Int32) (v2 : Int32) (v3 : Int32) (v5 : Int32) (w0 : Int32) : Option (Int32) := (if v5 = (0 : Int32) then ald u 13 16 (((2 : Int32) * v1) + v2) (fun x2 => ald u 7 36 (((6 : Int32) * v3) + (x2 / (40 : Int32))) (fun x3 => (if w0 = (0 : Int32) then some (x3 + (0 : Int32)) else some (x3 + (u 0 11))))) else ald u 8 6 v3 (fun x5 => (if w0 = (0 : Int32) then some (x5 + (0 : Int32)) else some (x5 + (1 : Int32)))))
def fX8_stepCost_L16 (u : St)  (v1 : Int32) (v2 : Int32) (v3 : Int32) (v5 : Int32) : Option (Int32) := fX8_stepCost_L17 u v1 v2 v3 v5 (0 : Int32)
def fX8_stepCost (u : St)  (p1 : Int32) (p2 : Int32) (p3 : Int32) (p4 : Int32) (p5 : Int32) : Option (Int32) := (if p4 = (-1 : Int32) then fX8_stepCost_L16 u p1 p2 p3 p5 else (if p4 = p3 then fX8_stepCost_L16 u p1 p2 p3 p5 else fX8_stepCost_L17 u p1 p2 p3 p5 (1 : Int32)))
theorem nX8_stepCost_0 : Cond.fieldLink RX8 28 "WhoseWorkModel" "prices" "[I" ∈ wsX8_stepCost := by decide +kernel
theorem nX8_stepCost_1 : Cond.fieldLink RX8 46 "WhoseWorkModel" "works" "[I" ∈ wsX8_stepCost := by decide +kernel
theorem nX8_stepCost_2 : Cond.fieldLink RX8 172 "WhoseWorkModel" "carrying" "I" ∈ wsX8_stepCost := by decide +kernel
theorem nX8_stepCost_3 : Cond.fieldLink RX8 31 "WhoseWorkModel" "daysOf" "[I" ∈ wsX8_stepCost := by decide +kernel
theorem iX8_stepCost_X8 : ∀ w ∈ wsX80, w ∈ wsX8_stepCost := by decide +kernel
set_option maxRecDepth 100000 in
set_option maxHeartbeats 4000000 in
theorem kX8_stepCost (l : Launch) (D : va_G) (a : Nat → Nat) (cI : ClassId) (aS : Nat → Prop) (u : St)  (p1 : Int32) (p2 : Int32) (p3 : Int32) (p4 : Int32) (p5 : Int32) (r : Int32)  (h0 : fX8_stepCost u p1 p2 p3 p4 p5 = some r) : rl_Mi l yX8_stepCost wsX8_stepCost ({ frames := 0, cells := 0, slots := 0, locals := 0 } : Room) D (tyM cI) (wM a cI) ro_0 aS [.ref (a 0), .int p1, .int p2, .int p3, .int p4, .int p5] u r u := by
  refine rl_meth_i (cc := cX8_stepCost) (maxL := 7) (own := RX8) (ty := .int) (by decide) rfl rfl (Nat.le_of_ble_eq_true rfl) ?_
  intro G hG hret
  have H17 : ∀ (v1 : Int32) (v2 : Int32) (v3 : Int32) (v5 : Int32) (w0 : Int32), fX8_stepCost_L17 u v1 v2 v3 v5 w0 = some r → G u 17 [(0, .ref (a 0)), (1, .int v1), (2, .int v2), (3, .int v3), (5, .int v5)] [.int w0] := by
    intro  v1 v2 v3 v5 w0 h
    rw [fX8_stepCost_L17] at h
    refine rl_istore hG [(6, .int w0), (0, .ref (a 0)), (1, .int v1), (2, .int v2), (3, .int v3), (5, .int v5)] dX8_stepCost_17 (Nat.le_of_ble_eq_true rfl) rfl rfl ?_
    refine rl_iload hG dX8_stepCost_19 5 rfl ?_
    refine rl_if_eq hG (tgt := 44) dX8_stepCost_21 (by decide) (fun c1 => ?_) (fun c1 => ?_)
    · have h := it_t h c1
      refine rl_aload_n hG dX8_stepCost_44 rfl 1 rfl ?_
      refine rl_get hG iX8_stepCost_X8 0 (gM_0 a cI u) hcX8 9 (Nat.le_of_ble_eq_true rfl) nX8_stepCost_0 rfl dX8_stepCost_45 ?_
      refine rl_bipush hG (v := 6) dX8_stepCost_48 (by decide) ?_
      refine rl_iload_n hG dX8_stepCost_50 rfl 4 rfl ?_
      refine rl_imul hG dX8_stepCost_51 ?_
      refine rl_aload_n hG dX8_stepCost_52 rfl 1 rfl ?_
      refine rl_get hG iX8_stepCost_X8 0 (gM_0 a cI u) hcX8 23 (Nat.le_of_ble_eq_true rfl) nX8_stepCost_1 rfl dX8_stepCost_53 ?_
      refine rl_iconst hG (v := 2) dX8_stepCost_56 (by decide) ?_
      refine rl_iload_n hG dX8_stepCost_57 rfl 2 rfl ?_
      refine rl_imul hG dX8_stepCost_58 ?_
      refine rl_iload_n hG dX8_stepCost_59 rfl 3 rfl ?_
      refine rl_iadd hG dX8_stepCost_60 ?_
      obtain ⟨x2, ix2, ex2, h⟩ := ald_ok h
      refine rl_iald hG 13 0 (gM_13 a cI u) rfl ix2 ex2 dX8_stepCost_61 ?_
      refine rl_bipush hG (v := 40) dX8_stepCost_62 (by decide) ?_
      refine rl_idiv hG dX8_stepCost_64 (by decide) ?_
      refine rl_iadd hG dX8_stepCost_65 ?_
      obtain ⟨x3, ix3, ex3, h⟩ := ald_ok h
      refine rl_iald hG 7 0 (gM_7 a cI u) rfl ix3 ex3 dX8_stepCost_66 ?_
      refine rl_iload hG dX8_stepCost_67 0 rfl ?_
      refine rl_if_eq hG (tgt := 79) dX8_stepCost_69 (by decide) (fun c4 => ?_) (fun c4 => ?_)
      · have h := it_t h c4
        refine rl_iconst hG (v := 0) dX8_stepCost_79 (by decide) ?_
        refine rl_iadd hG dX8_stepCost_80 ?_
        exact rl_ret1 hret h rfl dX8_stepCost_81
      · have h := it_f h c4
        refine rl_aload_n hG dX8_stepCost_72 rfl 1 rfl ?_
        refine rl_get hG iX8_stepCost_X8 0 (gM_0 a cI u) hcX8 11 (Nat.le_of_ble_eq_true rfl) nX8_stepCost_2 rfl dX8_stepCost_73 ?_
        refine rl_goto hG (tgt := 80) dX8_stepCost_76 (by decide) ?_
        refine rl_iadd hG dX8_stepCost_80 ?_
        exact rl_ret1 hret h rfl dX8_stepCost_81
    · have h := it_f h c1
      refine rl_aload_n hG dX8_stepCost_24 rfl 1 rfl ?_
      refine rl_get hG iX8_stepCost_X8 0 (gM_0 a cI u) hcX8 10 (Nat.le_of_ble_eq_true rfl) nX8_stepCost_3 rfl dX8_stepCost_25 ?_
      refine rl_iload_n hG dX8_stepCost_28 rfl 4 rfl ?_
      obtain ⟨x5, ix5, ex5, h⟩ := ald_ok h
      refine rl_iald hG 8 0 (gM_8 a cI u) rfl ix5 ex5 dX8_stepCost_29 ?_
      refine rl_iload hG dX8_stepCost_30 0 rfl ?_
      refine rl_if_eq hG (tgt := 39) dX8_stepCost_32 (by decide) (fun c6 => ?_) (fun c6 => ?_)
      · have h := it_t h c6
        refine rl_iconst hG (v := 0) dX8_stepCost_39 (by decide) ?_
        refine rl_iadd hG dX8_stepCost_40 ?_
        refine rl_goto hG (tgt := 81) dX8_stepCost_41 (by decide) ?_
        exact rl_ret1 hret h rfl dX8_stepCost_81
      · have h := it_f h c6
        refine rl_iconst hG (v := 1) dX8_stepCost_35 (by decide) ?_
        refine rl_goto hG (tgt := 40) dX8_stepCost_36 (by decide) ?_
        refine rl_iadd hG dX8_stepCost_40 ?_
        refine rl_goto hG (tgt := 81) dX8_stepCost_41 (by decide) ?_
        exact rl_ret1 hret h rfl dX8_stepCost_81
  have H16 : ∀ (v1 : Int32) (v2 : Int32) (v3 : Int32) (v5 : Int32), fX8_stepCost_L16 u v1 v2 v3 v5 = some r → G u 16 [(0, .ref (a 0)), (1, .int v1), (2, .int v2), (3, .int v3), (5, .int v5)] [] := by
    intro  v1 v2 v3 v5 h
    rw [fX8_stepCost_L16] at h
    refine rl_iconst hG (v := 0) dX8_stepCost_16 (by decide) ?_
    exact rl_lvs hG [0, 1, 2, 3, 4] rfl (H17 v1 v2 v3 v5 (0 : Int32) h)
  have h := h0
  rw [fX8_stepCost] at h
  show G u 0 [(0, .ref (a 0)), (1, .int p1), (2, .int p2), (3, .int p3), (4, .int p4), (5, .int p5)] []
  refine rl_iload hG dX8_stepCost_0 4 rfl ?_
  refine rl_iconst hG (v := -1) dX8_stepCost_2 (by decide) ?_
  refine rl_icmp_eq hG (tgt := 16) dX8_stepCost_3 (by decide) (fun c7 => ?_) (fun c7 => ?_)
  · have h := it_t h c7
    exact rl_lvs hG [0, 1, 2, 3, 5] rfl (H16 p1 p2 p3 p5 h)
  · have h := it_f h c7
    refine rl_iload hG dX8_stepCost_6 4 rfl ?_
    refine rl_iload_n hG dX8_stepCost_8 rfl 3 rfl ?_
    refine rl_icmp_eq hG (tgt := 16) dX8_stepCost_9 (by decide) (fun c8 => ?_) (fun c8 => ?_)
    · have h := it_t h c8
      exact rl_lvs hG [0, 1, 2, 3, 5] rfl (H16 p1 p2 p3 p5 h)
    · have h := it_f h c8
      refine rl_iconst hG (v := 1) dX8_stepCost_12 (by decide) ?_
      refine rl_goto hG (tgt := 17) dX8_stepCost_13 (by decide) ?_
      exact rl_lvs hG [0, 1, 2, 3, 5] rfl (H17 p1 p2 p3 p5 (1 : Int32) h)
def fX8_told_L117  (k49 : St → Int32 → Int32 → Int32 → Int32 → Int32 → Int32 → Option (Int32 × St)) (u : St) (v2 : Int32) (v3 : Int32) (v4 : Int32) (v6 : Int32) (v7 : Int32) (v8 : Int32) (v9 : Int32) (w0 : Int32) (w1 : Int32) (w2 : Int32) (w3 : Int32) (w4 : Int32) (w6 : Int32) : Option (Int32 × St) := o1 (fX8_stepCost u w4 w3 w2 w1 w0) (fun x1 => bd (w6 + x1) (fun x2 => o1 (fX8_hands u v7 v9 v8) (fun x3 => bd (v6 ||| x3) (fun x4 => bd (v7 + (1 : Int32)) (fun x5 => k49 u v2 v3 v4 x2 x4 x5)))))
def fX8_told_L106  (k49 : St → Int32 → Int32 → Int32 → Int32 → Int32 → Int32 → Option (Int32 × St)) (u : St) (v2 : Int32) (v3 : Int32) (v4 : Int32) (v6 : Int32) (v7 : Int32) (v8 : Int32) (v9 : Int32) (w0 : Int32) (w1 : Int32) (w2 : Int32) (w3 : Int32) (w5 : Int32) : Option (Int32 × St) := (if v4 = (1 : Int32) then fX8_told_L117 k49 u v2 v3 v4 v6 v7 v8 v9 (1 : Int32) w0 w1 w2 w3 w5 else fX8_told_L117 k49 u v2 v3 v4 v6 v7 v8 v9 (0 : Int32) w0 w1 w2 w3 w5)
def fX8_told_L144   (u : St) (v4 : Int32) (v5 : Int32) (v6 : Int32) : Option (Int32 × St) := (if v4 = (2 : Int32) then some (v6, u) else some (v5, u))
def fX8_told_L49   : Nat → St → Int32 → Int32 → Int32 → Int32 → Int32 → Int32 → Option (Int32 × St)
  | 0 => fun _ _ _ _ _ _ _ => none
  | n + 1 => fun u v2 v3 v4 v5 v6 v7 => (if (u 0 25) ≤ v7 then fX8_told_L144 u v4 v5 v6 else bd ((v2 >>> (((3 : Int32) * v7) &&& 31)) &&& (7 : Int32)) (fun x9 => bd ((v3 >>> (v7 &&& 31)) &&& (1 : Int32)) (fun x10 => (if v7 = (0 : Int32) then fX8_told_L106 (fX8_told_L49 n) u v2 v3 v4 v6 v7 x9 x10 (-1 : Int32) x9 x10 v7 v5 else fX8_told_L106 (fX8_told_L49 n) u v2 v3 v4 v6 v7 x9 x10 ((v2 >>> ((((3 : Int32) * v7) - (3 : Int32)) &&& 31)) &&& (7 : Int32)) x9 x10 v7 v5))))
def fX8_told (u : St)  (p1 : Int32) (p2 : Int32) (p3 : Int32) (p4 : Int32) : Option (Int32 × St) := oz (fX8_isThing p1) (fun x12 => (if x12 = (0 : Int32) then some ((-2 : Int32), u) else oz (fX8_in p4.toInt64 (0 : Int64) (2 : Int64)) (fun x14 => (if x14 = (0 : Int32) then some ((-3 : Int32), u) else o2 (fX8_wrongStep u p1 p2 p3) (fun x16 u17 => (if x16 = (-1 : Int32) then fX8_told_L49 2000 u17 p2 p3 p4 (0 : Int32) (0 : Int32) (0 : Int32) else some ((-4 : Int32), u17)))))))
theorem nX8_told_0 : Cond.fieldLink RX8 175 "WhoseWorkModel" "steps" "I" ∈ wsX8_told := by decide +kernel
theorem nX8_told_1 : Cond.constantLong RX8 160 (2) ∈ wsX8_told := by decide +kernel
theorem iX8_told_X8 : ∀ w ∈ wsX80, w ∈ wsX8_told := by decide +kernel
set_option maxRecDepth 100000 in
set_option maxHeartbeats 4000000 in
theorem kX8_told (l : Launch) (D : va_G) (a : Nat → Nat) (cI : ClassId) (aS : Nat → Prop) (u : St)  (p1 : Int32) (p2 : Int32) (p3 : Int32) (p4 : Int32) (r : Int32) (τ : St)  (h0 : fX8_told u p1 p2 p3 p4 = some (r, τ)) : rl_Mi l yX8_told wsX8_told ({ frames := 6, cells := 0, slots := 0, locals := 144 } : Room) D (tyM cI) (wM a cI) ro_0 aS [.ref (a 0), .int p1, .int p2, .int p3, .int p4] u r τ := by
  refine rl_meth_i (cc := cX8_told) (maxL := 10) (own := RX8) (ty := .int) (by decide) rfl rfl (Nat.le_of_ble_eq_true rfl) ?_
  intro G hG hret
  have H117 : ∀ (k49 : St → Int32 → Int32 → Int32 → Int32 → Int32 → Int32 → Option (Int32 × St)) (hk49 : ∀ (u : St) (v2 : Int32) (v3 : Int32) (v4 : Int32) (v5 : Int32) (v6 : Int32) (v7 : Int32), k49 u v2 v3 v4 v5 v6 v7 = some (r, τ) → G u 49 [(0, .ref (a 0)), (2, .int v2), (3, .int v3), (4, .int v4), (5, .int v5), (6, .int v6), (7, .int v7)] []), ∀ (u : St) (v2 : Int32) (v3 : Int32) (v4 : Int32) (v6 : Int32) (v7 : Int32) (v8 : Int32) (v9 : Int32) (w0 : Int32) (w1 : Int32) (w2 : Int32) (w3 : Int32) (w4 : Int32) (w6 : Int32), fX8_told_L117 k49 u v2 v3 v4 v6 v7 v8 v9 w0 w1 w2 w3 w4 w6 = some (r, τ) → G u 117 [(0, .ref (a 0)), (2, .int v2), (3, .int v3), (4, .int v4), (6, .int v6), (7, .int v7), (8, .int v8), (9, .int v9)] [.int w0, .int w1, .int w2, .int w3, .int w4, .ref (a 0), .int w6] := by
    intro k49 hk49 u v2 v3 v4 v6 v7 v8 v9 w0 w1 w2 w3 w4 w6 h
    rw [fX8_told_L117] at h
    obtain ⟨x1, hx1q, h⟩ := o1_ok h
    refine rl_callVi hG ro_0_ok (As := [.int w4, .int w3, .int w2, .int w1, .int w0]) (kX8_stepCost l D a cI aS u w4 w3 w2 w1 w0 x1  hx1q) gX8_told_X8_stepCost rfl 0 (gM_0 a cI u) hcX8 5 rfl (by decide +kernel) rfl rfl (by decide) (Nat.le_of_ble_eq_true rfl) rfl dX8_told_117 ?_
    refine rl_iadd hG dX8_told_120 ?_
    obtain ⟨x2, ex2, h⟩ := bd_ok h
    refine rl_istore hG [(5, .int x2), (0, .ref (a 0)), (2, .int v2), (3, .int v3), (4, .int v4), (6, .int v6), (7, .int v7), (8, .int v8), (9, .int v9)] dX8_told_121 (Nat.le_of_ble_eq_true rfl) ex2 rfl ?_
    refine rl_iload hG dX8_told_123 5 rfl ?_
    refine rl_aload_n hG dX8_told_125 rfl 1 rfl ?_
    refine rl_iload hG dX8_told_126 6 rfl ?_
    refine rl_iload hG dX8_told_128 8 rfl ?_
    refine rl_iload hG dX8_told_130 7 rfl ?_
    obtain ⟨x3, hx3q, h⟩ := o1_ok h
    refine rl_callVi hG ro_0_ok (As := [.int v7, .int v9, .int v8]) (kX8_hands l D a cI aS u v7 v9 v8 x3  hx3q) gX8_told_X8_hands rfl 0 (gM_0 a cI u) hcX8 3 rfl (by decide +kernel) rfl rfl (by decide) (Nat.le_of_ble_eq_true rfl) rfl dX8_told_132 ?_
    refine rl_ior hG dX8_told_135 ?_
    obtain ⟨x4, ex4, h⟩ := bd_ok h
    refine rl_istore hG [(6, .int x4), (5, .int x2), (0, .ref (a 0)), (2, .int v2), (3, .int v3), (4, .int v4), (7, .int v7), (8, .int v8), (9, .int v9)] dX8_told_136 (Nat.le_of_ble_eq_true rfl) ex4 rfl ?_
    obtain ⟨x5, ex5, h⟩ := bd_ok h
    refine rl_iinc hG [(7, .int x5), (6, .int x4), (5, .int x2), (0, .ref (a 0)), (2, .int v2), (3, .int v3), (4, .int v4), (8, .int v8), (9, .int v9)] dX8_told_138 6 rfl (by rw [ex5]; rfl) (Nat.le_of_ble_eq_true rfl) rfl ?_
    refine rl_goto hG (tgt := 49) dX8_told_141 (by decide) ?_
    exact rl_lvs hG [3, 4, 5, 6, 2, 1, 0] rfl (hk49 u v2 v3 v4 x2 x4 x5 h)
  have H106 : ∀ (k49 : St → Int32 → Int32 → Int32 → Int32 → Int32 → Int32 → Option (Int32 × St)) (hk49 : ∀ (u : St) (v2 : Int32) (v3 : Int32) (v4 : Int32) (v5 : Int32) (v6 : Int32) (v7 : Int32), k49 u v2 v3 v4 v5 v6 v7 = some (r, τ) → G u 49 [(0, .ref (a 0)), (2, .int v2), (3, .int v3), (4, .int v4), (5, .int v5), (6, .int v6), (7, .int v7)] []), ∀ (u : St) (v2 : Int32) (v3 : Int32) (v4 : Int32) (v6 : Int32) (v7 : Int32) (v8 : Int32) (v9 : Int32) (w0 : Int32) (w1 : Int32) (w2 : Int32) (w3 : Int32) (w5 : Int32), fX8_told_L106 k49 u v2 v3 v4 v6 v7 v8 v9 w0 w1 w2 w3 w5 = some (r, τ) → G u 106 [(0, .ref (a 0)), (2, .int v2), (3, .int v3), (4, .int v4), (6, .int v6), (7, .int v7), (8, .int v8), (9, .int v9)] [.int w0, .int w1, .int w2, .int w3, .ref (a 0), .int w5] := by
    intro k49 hk49 u v2 v3 v4 v6 v7 v8 v9 w0 w1 w2 w3 w5 h
    rw [fX8_told_L106] at h
    refine rl_iload hG dX8_told_106 3 rfl ?_
    refine rl_iconst hG (v := 1) dX8_told_108 (by decide) ?_
    refine rl_icmp_ne hG (tgt := 116) dX8_told_109 (by decide) (fun c6 => ?_) (fun c6 => ?_)
    · have h := it_f h c6
      refine rl_iconst hG (v := 0) dX8_told_116 (by decide) ?_
      exact rl_lvs hG [0, 1, 2, 3, 4, 5, 6, 7] rfl (H117 (k49) (hk49) u v2 v3 v4 v6 v7 v8 v9 (0 : Int32) w0 w1 w2 w3 w5 h)
    · have h := it_t h c6
      refine rl_iconst hG (v := 1) dX8_told_112 (by decide) ?_
      refine rl_goto hG (tgt := 117) dX8_told_113 (by decide) ?_
      exact rl_lvs hG [0, 1, 2, 3, 4, 5, 6, 7] rfl (H117 (k49) (hk49) u v2 v3 v4 v6 v7 v8 v9 (1 : Int32) w0 w1 w2 w3 w5 h)
  have H144 : ∀ (u : St) (v4 : Int32) (v5 : Int32) (v6 : Int32), fX8_told_L144 u v4 v5 v6 = some (r, τ) → G u 144 [(4, .int v4), (5, .int v5), (6, .int v6)] [] := by
    intro  u v4 v5 v6 h
    rw [fX8_told_L144] at h
    refine rl_iload hG dX8_told_144 0 rfl ?_
    refine rl_iconst hG (v := 2) dX8_told_146 (by decide) ?_
    refine rl_icmp_ne hG (tgt := 155) dX8_told_147 (by decide) (fun c7 => ?_) (fun c7 => ?_)
    · have h := it_f h c7
      refine rl_iload hG dX8_told_155 1 rfl ?_
      exact rl_ret2 hret h rfl dX8_told_157
    · have h := it_t h c7
      refine rl_iload hG dX8_told_150 2 rfl ?_
      refine rl_goto hG (tgt := 157) dX8_told_152 (by decide) ?_
      exact rl_ret2 hret h rfl dX8_told_157
  have H49 : ∀ (n : Nat) (u : St) (v2 : Int32) (v3 : Int32) (v4 : Int32) (v5 : Int32) (v6 : Int32) (v7 : Int32), fX8_told_L49 n u v2 v3 v4 v5 v6 v7 = some (r, τ) → G u 49 [(0, .ref (a 0)), (2, .int v2), (3, .int v3), (4, .int v4), (5, .int v5), (6, .int v6), (7, .int v7)] [] := by
    intro n
    induction n with
    | zero =>
      intro u v2 v3 v4 v5 v6 v7 h
      exact absurd h (by rw [fX8_told_L49]; exact fun q => by cases q)
    | succ n ih =>
      intro u v2 v3 v4 v5 v6 v7 h
      rw [fX8_told_L49] at h
      refine rl_iload hG dX8_told_49 6 rfl ?_
      refine rl_aload_n hG dX8_told_51 rfl 0 rfl ?_
      refine rl_get hG iX8_told_X8 0 (gM_0 a cI u) hcX8 25 (Nat.le_of_ble_eq_true rfl) nX8_told_0 rfl dX8_told_52 ?_
      refine rl_icmp_ge hG (tgt := 144) dX8_told_55 (by decide) (fun c8 => ?_) (fun c8 => ?_)
      · have h := it_t h c8
        exact rl_lvs hG [3, 4, 5] rfl (H144 u v4 v5 v6 h)
      · have h := it_f h c8
        refine rl_iload_n hG dX8_told_58 rfl 1 rfl ?_
        refine rl_iconst hG (v := 3) dX8_told_59 (by decide) ?_
        refine rl_iload hG dX8_told_60 6 rfl ?_
        refine rl_imul hG dX8_told_62 ?_
        refine rl_ishr hG dX8_told_63 ?_
        refine rl_bipush hG (v := 7) dX8_told_64 (by decide) ?_
        refine rl_iand hG dX8_told_66 ?_
        obtain ⟨x9, ex9, h⟩ := bd_ok h
        refine rl_istore hG [(8, .int x9), (0, .ref (a 0)), (2, .int v2), (3, .int v3), (4, .int v4), (5, .int v5), (6, .int v6), (7, .int v7)] dX8_told_67 (Nat.le_of_ble_eq_true rfl) ex9 rfl ?_
        refine rl_iload_n hG dX8_told_69 rfl 3 rfl ?_
        refine rl_iload hG dX8_told_70 7 rfl ?_
        refine rl_ishr hG dX8_told_72 ?_
        refine rl_iconst hG (v := 1) dX8_told_73 (by decide) ?_
        refine rl_iand hG dX8_told_74 ?_
        obtain ⟨x10, ex10, h⟩ := bd_ok h
        refine rl_istore hG [(9, .int x10), (8, .int x9), (0, .ref (a 0)), (2, .int v2), (3, .int v3), (4, .int v4), (5, .int v5), (6, .int v6), (7, .int v7)] dX8_told_75 (Nat.le_of_ble_eq_true rfl) ex10 rfl ?_
        refine rl_iload hG dX8_told_77 6 rfl ?_
        refine rl_aload_n hG dX8_told_79 rfl 2 rfl ?_
        refine rl_iload hG dX8_told_80 8 rfl ?_
        refine rl_iload hG dX8_told_82 0 rfl ?_
        refine rl_iload hG dX8_told_84 1 rfl ?_
        refine rl_iload hG dX8_told_86 8 rfl ?_
        refine rl_if_ne hG (tgt := 95) dX8_told_88 (by decide) (fun c11 => ?_) (fun c11 => ?_)
        · have h := it_f h c11
          refine rl_iload_n hG dX8_told_95 rfl 3 rfl ?_
          refine rl_iconst hG (v := 3) dX8_told_96 (by decide) ?_
          refine rl_iload hG dX8_told_97 8 rfl ?_
          refine rl_imul hG dX8_told_99 ?_
          refine rl_iconst hG (v := 3) dX8_told_100 (by decide) ?_
          refine rl_isub hG dX8_told_101 ?_
          refine rl_ishr hG dX8_told_102 ?_
          refine rl_bipush hG (v := 7) dX8_told_103 (by decide) ?_
          refine rl_iand hG dX8_told_105 ?_
          exact rl_lvs hG [2, 3, 4, 5, 7, 8, 1, 0] rfl (H106 (fX8_told_L49 n) (ih) u v2 v3 v4 v6 v7 x9 x10 ((v2 >>> ((((3 : Int32) * v7) - (3 : Int32)) &&& 31)) &&& (7 : Int32)) x9 x10 v7 v5 h)
        · have h := it_t h c11
          refine rl_iconst hG (v := -1) dX8_told_91 (by decide) ?_
          refine rl_goto hG (tgt := 106) dX8_told_92 (by decide) ?_
          exact rl_lvs hG [2, 3, 4, 5, 7, 8, 1, 0] rfl (H106 (fX8_told_L49 n) (ih) u v2 v3 v4 v6 v7 x9 x10 (-1 : Int32) x9 x10 v7 v5 h)
  have h := h0
  rw [fX8_told] at h
  show G u 0 [(0, .ref (a 0)), (1, .int p1), (2, .int p2), (3, .int p3), (4, .int p4)] []
  refine rl_iload_n hG dX8_told_0 rfl 1 rfl ?_
  obtain ⟨x12, hx12q, zx12, h⟩ := oz_ok h
  refine rl_callZi hG (As := [.int p1]) (kX8_isThing l D u p1 x12 hx12q) gX8_told_X8_isThing rfl 1 rfl (by decide +kernel) rfl rfl (by decide) (Nat.le_of_ble_eq_true rfl) rfl dX8_told_1 ?_
  refine rl_if_ne hG (tgt := 10) dX8_told_4 (by decide) (fun c13 => ?_) (fun c13 => ?_)
  · have h := it_f h c13
    refine rl_iload hG dX8_told_10 4 rfl ?_
    refine rl_i2l hG dX8_told_12 ?_
    refine rl_lconst hG (v := 0) dX8_told_13 (by decide) ?_
    refine rl_ldc2 hG (v := 2) dX8_told_14 nX8_told_1 ?_
    obtain ⟨x14, hx14q, zx14, h⟩ := oz_ok h
    refine rl_callZi hG (As := [.long p4.toInt64, .long (0 : Int64), .long (2 : Int64)]) (kX8_in l D u p4.toInt64 (0 : Int64) (2 : Int64) x14 hx14q) gX8_told_X8_in rfl 3 rfl (by decide +kernel) rfl rfl (by decide) (Nat.le_of_ble_eq_true rfl) rfl dX8_told_17 ?_
    refine rl_if_ne hG (tgt := 26) dX8_told_20 (by decide) (fun c15 => ?_) (fun c15 => ?_)
    · have h := it_f h c15
      refine rl_aload_n hG dX8_told_26 rfl 0 rfl ?_
      refine rl_iload_n hG dX8_told_27 rfl 1 rfl ?_
      refine rl_iload_n hG dX8_told_28 rfl 2 rfl ?_
      refine rl_iload_n hG dX8_told_29 rfl 3 rfl ?_
      obtain ⟨x16, u17, hx16q, h⟩ := o2_ok h
      refine rl_callVi hG ro_0_ok (As := [.int p1, .int p2, .int p3]) (kX8_wrongStep l D a cI aS u p1 p2 p3 x16 u17  hx16q) gX8_told_X8_wrongStep rfl 0 (gM_0 a cI u) hcX8 3 rfl (by decide +kernel) rfl rfl (by decide) (Nat.le_of_ble_eq_true rfl) rfl dX8_told_30 ?_
      refine rl_iconst hG (v := -1) dX8_told_33 (by decide) ?_
      refine rl_icmp_eq hG (tgt := 40) dX8_told_34 (by decide) (fun c18 => ?_) (fun c18 => ?_)
      · have h := it_t h c18
        refine rl_iconst hG (v := 0) dX8_told_40 (by decide) ?_
        refine rl_istore hG [(5, .int (0 : Int32)), (0, .ref (a 0)), (1, .int p1), (2, .int p2), (3, .int p3), (4, .int p4)] dX8_told_41 (Nat.le_of_ble_eq_true rfl) rfl rfl ?_
        refine rl_iconst hG (v := 0) dX8_told_43 (by decide) ?_
        refine rl_istore hG [(6, .int (0 : Int32)), (5, .int (0 : Int32)), (0, .ref (a 0)), (1, .int p1), (2, .int p2), (3, .int p3), (4, .int p4)] dX8_told_44 (Nat.le_of_ble_eq_true rfl) rfl rfl ?_
        refine rl_iconst hG (v := 0) dX8_told_46 (by decide) ?_
        refine rl_istore hG [(7, .int (0 : Int32)), (6, .int (0 : Int32)), (5, .int (0 : Int32)), (0, .ref (a 0)), (1, .int p1), (2, .int p2), (3, .int p3), (4, .int p4)] dX8_told_47 (Nat.le_of_ble_eq_true rfl) rfl rfl ?_
        exact rl_lvs hG [3, 5, 6, 7, 2, 1, 0] rfl (H49 2000 u17 p2 p3 p4 (0 : Int32) (0 : Int32) (0 : Int32) h)
      · have h := it_f h c18
        refine rl_bipush hG (v := -4) dX8_told_37 (by decide) ?_
        exact rl_ret2 hret h rfl dX8_told_39
    · have h := it_t h c15
      refine rl_bipush hG (v := -3) dX8_told_23 (by decide) ?_
      exact rl_ret2 hret h rfl dX8_told_25
  · have h := it_t h c13
    refine rl_bipush hG (v := -2) dX8_told_7 (by decide) ?_
    exact rl_ret2 hret h rfl dX8_told_9
def fX8_can (u : St)  (p1 : Int32) (p2 : Int32) : Option (Int32 × St) := oz (fX8_isThing p1) (fun x1 => (if x1 = (0 : Int32) then some ((-2 : Int32), u) else oz (fX8_isGuilds p2) (fun x3 => (if x3 = (0 : Int32) then some ((-3 : Int32), u) else o1 (fX8_lay u p1) (fun u5 => oz (fX8_makes u5 p2) (fun x6 => (if x6 = (0 : Int32) then some ((0 : Int32), u5) else some ((1 : Int32), u5))))))))
set_option maxRecDepth 100000 in
set_option maxHeartbeats 4000000 in
theorem kX8_can (l : Launch) (D : va_G) (a : Nat → Nat) (cI : ClassId) (aS : Nat → Prop) (u : St)  (p1 : Int32) (p2 : Int32) (r : Int32) (τ : St)  (h0 : fX8_can u p1 p2 = some (r, τ)) : rl_Mi l yX8_can wsX8_can ({ frames := 5, cells := 0, slots := 0, locals := 119 } : Room) D (tyM cI) (wM a cI) ro_0 aS [.ref (a 0), .int p1, .int p2] u r τ := by
  refine rl_meth_i (cc := cX8_can) (maxL := 3) (own := RX8) (ty := .int) (by decide) rfl rfl (Nat.le_of_ble_eq_true rfl) ?_
  intro G hG hret
  have h := h0
  rw [fX8_can] at h
  show G u 0 [(0, .ref (a 0)), (1, .int p1), (2, .int p2)] []
  refine rl_iload_n hG dX8_can_0 rfl 1 rfl ?_
  obtain ⟨x1, hx1q, zx1, h⟩ := oz_ok h
  refine rl_callZi hG (As := [.int p1]) (kX8_isThing l D u p1 x1 hx1q) gX8_can_X8_isThing rfl 1 rfl (by decide +kernel) rfl rfl (by decide) (Nat.le_of_ble_eq_true rfl) rfl dX8_can_1 ?_
  refine rl_if_ne hG (tgt := 10) dX8_can_4 (by decide) (fun c2 => ?_) (fun c2 => ?_)
  · have h := it_f h c2
    refine rl_iload_n hG dX8_can_10 rfl 2 rfl ?_
    obtain ⟨x3, hx3q, zx3, h⟩ := oz_ok h
    refine rl_callZi hG (As := [.int p2]) (kX8_isGuilds l D u p2 x3 hx3q) gX8_can_X8_isGuilds rfl 1 rfl (by decide +kernel) rfl rfl (by decide) (Nat.le_of_ble_eq_true rfl) rfl dX8_can_11 ?_
    refine rl_if_ne hG (tgt := 20) dX8_can_14 (by decide) (fun c4 => ?_) (fun c4 => ?_)
    · have h := it_f h c4
      refine rl_aload_n hG dX8_can_20 rfl 0 rfl ?_
      refine rl_iload_n hG dX8_can_21 rfl 1 rfl ?_
      obtain ⟨u5, hu5q, h⟩ := o1_ok h
      refine rl_callVv hG ro_0_ok (As := [.int p1]) (kX8_lay l D a cI aS u p1 u5  hu5q) gX8_can_X8_lay rfl 0 (gM_0 a cI u) hcX8 1 rfl (by decide +kernel) rfl rfl (by decide) (Nat.le_of_ble_eq_true rfl) rfl dX8_can_22 ?_
      refine rl_aload_n hG dX8_can_25 rfl 0 rfl ?_
      refine rl_iload_n hG dX8_can_26 rfl 2 rfl ?_
      obtain ⟨x6, hx6q, zx6, h⟩ := oz_ok h
      refine rl_callVi hG ro_0_ok (As := [.int p2]) (kX8_makes l D a cI aS u5 p2 x6  hx6q) gX8_can_X8_makes rfl 0 (gM_0 a cI u5) hcX8 1 rfl (by decide +kernel) rfl rfl (by decide) (Nat.le_of_ble_eq_true rfl) rfl dX8_can_27 ?_
      refine rl_if_eq hG (tgt := 37) dX8_can_30 (by decide) (fun c7 => ?_) (fun c7 => ?_)
      · have h := it_t h c7
        refine rl_iconst hG (v := 0) dX8_can_37 (by decide) ?_
        exact rl_ret2 hret h rfl dX8_can_38
      · have h := it_f h c7
        refine rl_iconst hG (v := 1) dX8_can_33 (by decide) ?_
        refine rl_goto hG (tgt := 38) dX8_can_34 (by decide) ?_
        exact rl_ret2 hret h rfl dX8_can_38
    · have h := it_t h c4
      refine rl_bipush hG (v := -3) dX8_can_17 (by decide) ?_
      exact rl_ret2 hret h rfl dX8_can_19
  · have h := it_t h c2
    refine rl_bipush hG (v := -2) dX8_can_7 (by decide) ?_
    exact rl_ret2 hret h rfl dX8_can_9
def fX8_fewest (u : St)  (p1 : Int32) (p2 : Int32) : Option (Int32 × St) := oz (fX8_isThing p1) (fun x1 => (if x1 = (0 : Int32) then some ((-2 : Int32), u) else oz (fX8_in p2.toInt64 (0 : Int64) (1 : Int64)) (fun x3 => (if x3 = (0 : Int32) then some ((-3 : Int32), u) else o1 (fX8_lay u p1) (fun u5 => o1 (fX8_leastSet u5) (fun x6 => (if x6 = (-1 : Int32) then some (x6, u5) else (if p2 = (1 : Int32) then some (x6, u5) else o1 (fX8_many x6) (fun x9 => some (x9, u5))))))))))
set_option maxRecDepth 100000 in
set_option maxHeartbeats 4000000 in
theorem kX8_fewest (l : Launch) (D : va_G) (a : Nat → Nat) (cI : ClassId) (aS : Nat → Prop) (u : St)  (p1 : Int32) (p2 : Int32) (r : Int32) (τ : St)  (h0 : fX8_fewest u p1 p2 = some (r, τ)) : rl_Mi l yX8_fewest wsX8_fewest ({ frames := 5, cells := 0, slots := 0, locals := 119 } : Room) D (tyM cI) (wM a cI) ro_0 aS [.ref (a 0), .int p1, .int p2] u r τ := by
  refine rl_meth_i (cc := cX8_fewest) (maxL := 4) (own := RX8) (ty := .int) (by decide) rfl rfl (Nat.le_of_ble_eq_true rfl) ?_
  intro G hG hret
  have h := h0
  rw [fX8_fewest] at h
  show G u 0 [(0, .ref (a 0)), (1, .int p1), (2, .int p2)] []
  refine rl_iload_n hG dX8_fewest_0 rfl 1 rfl ?_
  obtain ⟨x1, hx1q, zx1, h⟩ := oz_ok h
  refine rl_callZi hG (As := [.int p1]) (kX8_isThing l D u p1 x1 hx1q) gX8_fewest_X8_isThing rfl 1 rfl (by decide +kernel) rfl rfl (by decide) (Nat.le_of_ble_eq_true rfl) rfl dX8_fewest_1 ?_
  refine rl_if_ne hG (tgt := 10) dX8_fewest_4 (by decide) (fun c2 => ?_) (fun c2 => ?_)
  · have h := it_f h c2
    refine rl_iload_n hG dX8_fewest_10 rfl 2 rfl ?_
    refine rl_i2l hG dX8_fewest_11 ?_
    refine rl_lconst hG (v := 0) dX8_fewest_12 (by decide) ?_
    refine rl_lconst hG (v := 1) dX8_fewest_13 (by decide) ?_
    obtain ⟨x3, hx3q, zx3, h⟩ := oz_ok h
    refine rl_callZi hG (As := [.long p2.toInt64, .long (0 : Int64), .long (1 : Int64)]) (kX8_in l D u p2.toInt64 (0 : Int64) (1 : Int64) x3 hx3q) gX8_fewest_X8_in rfl 3 rfl (by decide +kernel) rfl rfl (by decide) (Nat.le_of_ble_eq_true rfl) rfl dX8_fewest_14 ?_
    refine rl_if_ne hG (tgt := 23) dX8_fewest_17 (by decide) (fun c4 => ?_) (fun c4 => ?_)
    · have h := it_f h c4
      refine rl_aload_n hG dX8_fewest_23 rfl 0 rfl ?_
      refine rl_iload_n hG dX8_fewest_24 rfl 1 rfl ?_
      obtain ⟨u5, hu5q, h⟩ := o1_ok h
      refine rl_callVv hG ro_0_ok (As := [.int p1]) (kX8_lay l D a cI aS u p1 u5  hu5q) gX8_fewest_X8_lay rfl 0 (gM_0 a cI u) hcX8 1 rfl (by decide +kernel) rfl rfl (by decide) (Nat.le_of_ble_eq_true rfl) rfl dX8_fewest_25 ?_
      refine rl_aload_n hG dX8_fewest_28 rfl 0 rfl ?_
      obtain ⟨x6, hx6q, h⟩ := o1_ok h
      refine rl_callVi hG ro_0_ok (As := []) (kX8_leastSet l D a cI aS u5  x6  hx6q) gX8_fewest_X8_leastSet rfl 0 (gM_0 a cI u5) hcX8 0 rfl (by decide +kernel) rfl rfl (by decide) (Nat.le_of_ble_eq_true rfl) rfl dX8_fewest_29 ?_
      refine rl_istore_n hG [(3, .int x6), (0, .ref (a 0)), (1, .int p1), (2, .int p2)] dX8_fewest_32 rfl (Nat.le_of_ble_eq_true rfl) rfl rfl ?_
      refine rl_iload_n hG dX8_fewest_33 rfl 0 rfl ?_
      refine rl_iconst hG (v := -1) dX8_fewest_34 (by decide) ?_
      refine rl_icmp_eq hG (tgt := 43) dX8_fewest_35 (by decide) (fun c7 => ?_) (fun c7 => ?_)
      · have h := it_t h c7
        refine rl_iload_n hG dX8_fewest_43 rfl 0 rfl ?_
        refine rl_goto hG (tgt := 51) dX8_fewest_44 (by decide) ?_
        exact rl_ret2 hret h rfl dX8_fewest_51
      · have h := it_f h c7
        refine rl_iload_n hG dX8_fewest_38 rfl 3 rfl ?_
        refine rl_iconst hG (v := 1) dX8_fewest_39 (by decide) ?_
        refine rl_icmp_ne hG (tgt := 47) dX8_fewest_40 (by decide) (fun c8 => ?_) (fun c8 => ?_)
        · have h := it_f h c8
          refine rl_iload_n hG dX8_fewest_47 rfl 0 rfl ?_
          obtain ⟨x9, hx9q, h⟩ := o1_ok h
          refine rl_callZi hG (As := [.int x6]) (kX8_many l D u5 x6 x9 hx9q) gX8_fewest_X8_many rfl 1 rfl (by decide +kernel) rfl rfl (by decide) (Nat.le_of_ble_eq_true rfl) rfl dX8_fewest_48 ?_
          exact rl_ret2 hret h rfl dX8_fewest_51
        · have h := it_t h c8
          refine rl_iload_n hG dX8_fewest_43 rfl 0 rfl ?_
          refine rl_goto hG (tgt := 51) dX8_fewest_44 (by decide) ?_
          exact rl_ret2 hret h rfl dX8_fewest_51
    · have h := it_t h c4
      refine rl_bipush hG (v := -3) dX8_fewest_20 (by decide) ?_
      exact rl_ret2 hret h rfl dX8_fewest_22
  · have h := it_t h c2
    refine rl_bipush hG (v := -2) dX8_fewest_7 (by decide) ?_
    exact rl_ret2 hret h rfl dX8_fewest_9
def fX8_layRest_L147  (k36 : St → Int32 → Int32 → Int32 → Option (St)) (k43 : St → Int32 → Int32 → Int32 → Int32 → Option (St)) (k57 : St → Int32 → Int32 → Int32 → Int32 → Int32 → Int32 → Option (St)) (u : St) (v1 : Int32) (v2 : Int32) (v3 : Int32) (v4 : Int32) (v5 : Int32) (v6 : Int32) : Option (St) := bd (v6 + (1 : Int32)) (fun x1 => k57 u v1 v2 v3 v4 v5 x1)
def fX8_layRest_L145  (k36 : St → Int32 → Int32 → Int32 → Option (St)) (k43 : St → Int32 → Int32 → Int32 → Int32 → Option (St)) (k57 : St → Int32 → Int32 → Int32 → Int32 → Int32 → Int32 → Option (St)) (u : St) (v1 : Int32) (v2 : Int32) (v3 : Int32) (v4 : Int32) (v6 : Int32) (w0 : Int32) : Option (St) := fX8_layRest_L147 k36 k43 k57 u v1 v2 v3 v4 w0 v6
def fX8_layRest_L109  (k36 : St → Int32 → Int32 → Int32 → Option (St)) (k43 : St → Int32 → Int32 → Int32 → Int32 → Option (St)) (k57 : St → Int32 → Int32 → Int32 → Int32 → Int32 → Int32 → Option (St)) (u : St) (v1 : Int32) (v2 : Int32) (v3 : Int32) (v4 : Int32) (v5 : Int32) (v6 : Int32) (v7 : Int32) (w0 : Int32) (w1 : Int32) (w2 : Int32) (w3 : Int32) : Option (St) := o1 (fX8_stepCost u w3 w2 w1 w0 v2) (fun x2 => ald u 15 63 ((((7 : Int32) * v3) + (7 : Int32)) + v7) (fun x3 => bd (x2 + x3) (fun x4 => (if v5 ≤ x4 then fX8_layRest_L145 k36 k43 k57 u v1 v2 v3 v4 v6 v5 else fX8_layRest_L145 k36 k43 k57 u v1 v2 v3 v4 v6 x4))))
def fX8_layRest_L153  (k36 : St → Int32 → Int32 → Int32 → Option (St)) (k43 : St → Int32 → Int32 → Int32 → Int32 → Option (St)) (u : St) (v1 : Int32) (v2 : Int32) (v3 : Int32) (v4 : Int32) (v5 : Int32) : Option (St) := asr u 15 63 (((7 : Int32) * v3) + v4) v5 (fun u6 => bd (v4 + (1 : Int32)) (fun x7 => k43 u6 v1 v2 v3 x7))
def fX8_layRest_L57  (k36 : St → Int32 → Int32 → Int32 → Option (St)) (k43 : St → Int32 → Int32 → Int32 → Int32 → Option (St)) : Nat → St → Int32 → Int32 → Int32 → Int32 → Int32 → Int32 → Option (St)
  | 0 => fun _ _ _ _ _ _ _ => none
  | n + 1 => fun u v1 v2 v3 v4 v5 v6 => (if (12 : Int32) ≤ v6 then fX8_layRest_L153 k36 k43 u v1 v2 v3 v4 v5 else bd (v6 - v6 / (6 : Int32) * (6 : Int32)) (fun x9 => oz (fX8_goes u v3 (v6 / (6 : Int32)) x9 v1) (fun x10 => (if x10 = (0 : Int32) then fX8_layRest_L147 k36 k43 (fX8_layRest_L57 k36 k43 n) u v1 v2 v3 v4 v5 v6 else (if v4 = (6 : Int32) then fX8_layRest_L109 k36 k43 (fX8_layRest_L57 k36 k43 n) u v1 v2 v3 v4 v5 v6 x9 (-1 : Int32) x9 (v6 / (6 : Int32)) v3 else fX8_layRest_L109 k36 k43 (fX8_layRest_L57 k36 k43 n) u v1 v2 v3 v4 v5 v6 x9 v4 x9 (v6 / (6 : Int32)) v3)))))
def fX8_layRest_L173  (k36 : St → Int32 → Int32 → Int32 → Option (St)) (u : St) (v1 : Int32) (v2 : Int32) (v3 : Int32) : Option (St) := bd (v3 + (-1 : Int32)) (fun x13 => k36 u v1 v2 x13)
def fX8_layRest_L43  (k36 : St → Int32 → Int32 → Int32 → Option (St)) : Nat → St → Int32 → Int32 → Int32 → Int32 → Option (St)
  | 0 => fun _ _ _ _ _ => none
  | n + 1 => fun u v1 v2 v3 v4 => (if (7 : Int32) ≤ v4 then fX8_layRest_L173 k36 u v1 v2 v3 else fX8_layRest_L57 k36 (fX8_layRest_L43 k36 n) 2000 u v1 v2 v3 v4 (268435456 : Int32) (0 : Int32))
def fX8_layRest_L36   : Nat → St → Int32 → Int32 → Int32 → Option (St)
  | 0 => fun _ _ _ _ => none
  | n + 1 => fun u v1 v2 v3 => (if v3 < (0 : Int32) then some u else fX8_layRest_L43 (fX8_layRest_L36 n) 2000 u v1 v2 v3 (0 : Int32))
def fX8_layRest_L29   (u : St) (v1 : Int32) (v2 : Int32) : Option (St) := bd ((u 0 25) - (1 : Int32)) (fun x16 => fX8_layRest_L36 2000 u v1 v2 x16)
def fX8_layRest_L2   : Nat → St → Int32 → Int32 → Int32 → Option (St)
  | 0 => fun _ _ _ _ => none
  | n + 1 => fun u v1 v2 v3 => (if (7 : Int32) ≤ v3 then fX8_layRest_L29 u v1 v2 else asr u 15 63 (((7 : Int32) * (u 0 25)) + v3) (0 : Int32) (fun u18 => bd (v3 + (1 : Int32)) (fun x19 => fX8_layRest_L2 n u18 v1 v2 x19)))
def fX8_layRest (u : St)  (p1 : Int32) (p2 : Int32) : Option (St) := fX8_layRest_L2 2000 u p1 p2 (0 : Int32)
theorem nX8_layRest_0 : Cond.fieldLink RX8 52 "WhoseWorkModel" "rest" "[I" ∈ wsX8_layRest := by decide +kernel
theorem nX8_layRest_1 : Cond.constant RX8 214 (268435456) ∈ wsX8_layRest := by decide +kernel
theorem nX8_layRest_2 : Cond.fieldLink RX8 175 "WhoseWorkModel" "steps" "I" ∈ wsX8_layRest := by decide +kernel
theorem iX8_layRest_X8 : ∀ w ∈ wsX80, w ∈ wsX8_layRest := by decide +kernel
set_option maxRecDepth 100000 in
set_option maxHeartbeats 4000000 in
theorem kX8_layRest (l : Launch) (D : va_G) (a : Nat → Nat) (cI : ClassId) (aS : Nat → Prop) (u : St)  (p1 : Int32) (p2 : Int32) (τ : St)  (h0 : fX8_layRest u p1 p2 = some τ) : rl_Mv l yX8_layRest wsX8_layRest ({ frames := 2, cells := 0, slots := 0, locals := 48 } : Room) D (tyM cI) (wM a cI) ro_0 aS [.ref (a 0), .int p1, .int p2] u τ := by
  refine rl_meth_v (cc := cX8_layRest) (maxL := 9) (own := RX8) (by decide) rfl rfl (Nat.le_of_ble_eq_true rfl) ?_
  intro G hG hret
  have H147 : ∀ (k36 : St → Int32 → Int32 → Int32 → Option (St)) (hk36 : ∀ (u : St) (v1 : Int32) (v2 : Int32) (v3 : Int32), k36 u v1 v2 v3 = some τ → G u 36 [(0, .ref (a 0)), (1, .int v1), (2, .int v2), (3, .int v3)] []) (k43 : St → Int32 → Int32 → Int32 → Int32 → Option (St)) (hk43 : ∀ (u : St) (v1 : Int32) (v2 : Int32) (v3 : Int32) (v4 : Int32), k43 u v1 v2 v3 v4 = some τ → G u 43 [(0, .ref (a 0)), (1, .int v1), (2, .int v2), (3, .int v3), (4, .int v4)] []) (k57 : St → Int32 → Int32 → Int32 → Int32 → Int32 → Int32 → Option (St)) (hk57 : ∀ (u : St) (v1 : Int32) (v2 : Int32) (v3 : Int32) (v4 : Int32) (v5 : Int32) (v6 : Int32), k57 u v1 v2 v3 v4 v5 v6 = some τ → G u 57 [(0, .ref (a 0)), (1, .int v1), (2, .int v2), (3, .int v3), (4, .int v4), (5, .int v5), (6, .int v6)] []), ∀ (u : St) (v1 : Int32) (v2 : Int32) (v3 : Int32) (v4 : Int32) (v5 : Int32) (v6 : Int32), fX8_layRest_L147 k36 k43 k57 u v1 v2 v3 v4 v5 v6 = some τ → G u 147 [(0, .ref (a 0)), (1, .int v1), (2, .int v2), (3, .int v3), (4, .int v4), (5, .int v5), (6, .int v6)] [] := by
    intro k36 hk36 k43 hk43 k57 hk57 u v1 v2 v3 v4 v5 v6 h
    rw [fX8_layRest_L147] at h
    obtain ⟨x1, ex1, h⟩ := bd_ok h
    refine rl_iinc hG [(6, .int x1), (0, .ref (a 0)), (1, .int v1), (2, .int v2), (3, .int v3), (4, .int v4), (5, .int v5)] dX8_layRest_147 6 rfl (by rw [ex1]; rfl) (Nat.le_of_ble_eq_true rfl) rfl ?_
    refine rl_goto hG (tgt := 57) dX8_layRest_150 (by decide) ?_
    exact rl_lvs hG [1, 2, 3, 4, 5, 6, 0] rfl (hk57 u v1 v2 v3 v4 v5 x1 h)
  have H145 : ∀ (k36 : St → Int32 → Int32 → Int32 → Option (St)) (hk36 : ∀ (u : St) (v1 : Int32) (v2 : Int32) (v3 : Int32), k36 u v1 v2 v3 = some τ → G u 36 [(0, .ref (a 0)), (1, .int v1), (2, .int v2), (3, .int v3)] []) (k43 : St → Int32 → Int32 → Int32 → Int32 → Option (St)) (hk43 : ∀ (u : St) (v1 : Int32) (v2 : Int32) (v3 : Int32) (v4 : Int32), k43 u v1 v2 v3 v4 = some τ → G u 43 [(0, .ref (a 0)), (1, .int v1), (2, .int v2), (3, .int v3), (4, .int v4)] []) (k57 : St → Int32 → Int32 → Int32 → Int32 → Int32 → Int32 → Option (St)) (hk57 : ∀ (u : St) (v1 : Int32) (v2 : Int32) (v3 : Int32) (v4 : Int32) (v5 : Int32) (v6 : Int32), k57 u v1 v2 v3 v4 v5 v6 = some τ → G u 57 [(0, .ref (a 0)), (1, .int v1), (2, .int v2), (3, .int v3), (4, .int v4), (5, .int v5), (6, .int v6)] []), ∀ (u : St) (v1 : Int32) (v2 : Int32) (v3 : Int32) (v4 : Int32) (v6 : Int32) (w0 : Int32), fX8_layRest_L145 k36 k43 k57 u v1 v2 v3 v4 v6 w0 = some τ → G u 145 [(0, .ref (a 0)), (1, .int v1), (2, .int v2), (3, .int v3), (4, .int v4), (6, .int v6)] [.int w0] := by
    intro k36 hk36 k43 hk43 k57 hk57 u v1 v2 v3 v4 v6 w0 h
    rw [fX8_layRest_L145] at h
    refine rl_istore hG [(5, .int w0), (0, .ref (a 0)), (1, .int v1), (2, .int v2), (3, .int v3), (4, .int v4), (6, .int v6)] dX8_layRest_145 (Nat.le_of_ble_eq_true rfl) rfl rfl ?_
    exact rl_lvs hG [1, 2, 3, 4, 5, 0, 6] rfl (H147 (k36) (hk36) (k43) (hk43) (k57) (hk57) u v1 v2 v3 v4 w0 v6 h)
  have H109 : ∀ (k36 : St → Int32 → Int32 → Int32 → Option (St)) (hk36 : ∀ (u : St) (v1 : Int32) (v2 : Int32) (v3 : Int32), k36 u v1 v2 v3 = some τ → G u 36 [(0, .ref (a 0)), (1, .int v1), (2, .int v2), (3, .int v3)] []) (k43 : St → Int32 → Int32 → Int32 → Int32 → Option (St)) (hk43 : ∀ (u : St) (v1 : Int32) (v2 : Int32) (v3 : Int32) (v4 : Int32), k43 u v1 v2 v3 v4 = some τ → G u 43 [(0, .ref (a 0)), (1, .int v1), (2, .int v2), (3, .int v3), (4, .int v4)] []) (k57 : St → Int32 → Int32 → Int32 → Int32 → Int32 → Int32 → Option (St)) (hk57 : ∀ (u : St) (v1 : Int32) (v2 : Int32) (v3 : Int32) (v4 : Int32) (v5 : Int32) (v6 : Int32), k57 u v1 v2 v3 v4 v5 v6 = some τ → G u 57 [(0, .ref (a 0)), (1, .int v1), (2, .int v2), (3, .int v3), (4, .int v4), (5, .int v5), (6, .int v6)] []), ∀ (u : St) (v1 : Int32) (v2 : Int32) (v3 : Int32) (v4 : Int32) (v5 : Int32) (v6 : Int32) (v7 : Int32) (w0 : Int32) (w1 : Int32) (w2 : Int32) (w3 : Int32), fX8_layRest_L109 k36 k43 k57 u v1 v2 v3 v4 v5 v6 v7 w0 w1 w2 w3 = some τ → G u 109 [(0, .ref (a 0)), (1, .int v1), (2, .int v2), (3, .int v3), (4, .int v4), (5, .int v5), (6, .int v6), (7, .int v7)] [.int w0, .int w1, .int w2, .int w3, .ref (a 0)] := by
    intro k36 hk36 k43 hk43 k57 hk57 u v1 v2 v3 v4 v5 v6 v7 w0 w1 w2 w3 h
    rw [fX8_layRest_L109] at h
    refine rl_iload_n hG dX8_layRest_109 rfl 2 rfl ?_
    obtain ⟨x2, hx2q, h⟩ := o1_ok h
    refine rl_callVi hG ro_0_ok (As := [.int w3, .int w2, .int w1, .int w0, .int v2]) (kX8_stepCost l D a cI aS u w3 w2 w1 w0 v2 x2  hx2q) gX8_layRest_X8_stepCost rfl 0 (gM_0 a cI u) hcX8 5 rfl (by decide +kernel) rfl rfl (by decide) (Nat.le_of_ble_eq_true rfl) rfl dX8_layRest_110 ?_
    refine rl_aload_n hG dX8_layRest_113 rfl 0 rfl ?_
    refine rl_get hG iX8_layRest_X8 0 (gM_0 a cI u) hcX8 26 (Nat.le_of_ble_eq_true rfl) nX8_layRest_0 rfl dX8_layRest_114 ?_
    refine rl_bipush hG (v := 7) dX8_layRest_117 (by decide) ?_
    refine rl_iload_n hG dX8_layRest_119 rfl 3 rfl ?_
    refine rl_imul hG dX8_layRest_120 ?_
    refine rl_bipush hG (v := 7) dX8_layRest_121 (by decide) ?_
    refine rl_iadd hG dX8_layRest_123 ?_
    refine rl_iload hG dX8_layRest_124 7 rfl ?_
    refine rl_iadd hG dX8_layRest_126 ?_
    obtain ⟨x3, ix3, ex3, h⟩ := ald_ok h
    refine rl_iald hG 15 0 (gM_15 a cI u) rfl ix3 ex3 dX8_layRest_127 ?_
    refine rl_iadd hG dX8_layRest_128 ?_
    obtain ⟨x4, ex4, h⟩ := bd_ok h
    refine rl_istore hG [(8, .int x4), (0, .ref (a 0)), (1, .int v1), (2, .int v2), (3, .int v3), (4, .int v4), (5, .int v5), (6, .int v6), (7, .int v7)] dX8_layRest_129 (Nat.le_of_ble_eq_true rfl) ex4 rfl ?_
    refine rl_iload hG dX8_layRest_131 0 rfl ?_
    refine rl_iload hG dX8_layRest_133 6 rfl ?_
    refine rl_icmp_ge hG (tgt := 143) dX8_layRest_135 (by decide) (fun c5 => ?_) (fun c5 => ?_)
    · have h := it_t h c5
      refine rl_iload hG dX8_layRest_143 6 rfl ?_
      exact rl_lvs hG [1, 2, 3, 4, 5, 7] rfl (H145 (k36) (hk36) (k43) (hk43) (k57) (hk57) u v1 v2 v3 v4 v6 v5 h)
    · have h := it_f h c5
      refine rl_iload hG dX8_layRest_138 0 rfl ?_
      refine rl_goto hG (tgt := 145) dX8_layRest_140 (by decide) ?_
      exact rl_lvs hG [1, 2, 3, 4, 5, 7] rfl (H145 (k36) (hk36) (k43) (hk43) (k57) (hk57) u v1 v2 v3 v4 v6 x4 h)
  have H153 : ∀ (k36 : St → Int32 → Int32 → Int32 → Option (St)) (hk36 : ∀ (u : St) (v1 : Int32) (v2 : Int32) (v3 : Int32), k36 u v1 v2 v3 = some τ → G u 36 [(0, .ref (a 0)), (1, .int v1), (2, .int v2), (3, .int v3)] []) (k43 : St → Int32 → Int32 → Int32 → Int32 → Option (St)) (hk43 : ∀ (u : St) (v1 : Int32) (v2 : Int32) (v3 : Int32) (v4 : Int32), k43 u v1 v2 v3 v4 = some τ → G u 43 [(0, .ref (a 0)), (1, .int v1), (2, .int v2), (3, .int v3), (4, .int v4)] []), ∀ (u : St) (v1 : Int32) (v2 : Int32) (v3 : Int32) (v4 : Int32) (v5 : Int32), fX8_layRest_L153 k36 k43 u v1 v2 v3 v4 v5 = some τ → G u 153 [(0, .ref (a 0)), (1, .int v1), (2, .int v2), (3, .int v3), (4, .int v4), (5, .int v5)] [] := by
    intro k36 hk36 k43 hk43 u v1 v2 v3 v4 v5 h
    rw [fX8_layRest_L153] at h
    refine rl_aload_n hG dX8_layRest_153 rfl 0 rfl ?_
    refine rl_get hG iX8_layRest_X8 0 (gM_0 a cI u) hcX8 26 (Nat.le_of_ble_eq_true rfl) nX8_layRest_0 rfl dX8_layRest_154 ?_
    refine rl_bipush hG (v := 7) dX8_layRest_157 (by decide) ?_
    refine rl_iload_n hG dX8_layRest_159 rfl 3 rfl ?_
    refine rl_imul hG dX8_layRest_160 ?_
    refine rl_iload hG dX8_layRest_161 4 rfl ?_
    refine rl_iadd hG dX8_layRest_163 ?_
    refine rl_iload hG dX8_layRest_164 5 rfl ?_
    obtain ⟨u6, iu6, eu6, h⟩ := asr_ok h
    refine rl_iast hG 15 0 (gM_15 a cI u) rfl iu6 (σ' := u6) ((sM_15 a cI u _).trans (congrArg _ eu6.symm)) dX8_layRest_166 ?_
    obtain ⟨x7, ex7, h⟩ := bd_ok h
    refine rl_iinc hG [(4, .int x7), (0, .ref (a 0)), (1, .int v1), (2, .int v2), (3, .int v3), (5, .int v5)] dX8_layRest_167 4 rfl (by rw [ex7]; rfl) (Nat.le_of_ble_eq_true rfl) rfl ?_
    refine rl_goto hG (tgt := 43) dX8_layRest_170 (by decide) ?_
    exact rl_lvs hG [1, 2, 3, 4, 0] rfl (hk43 u6 v1 v2 v3 x7 h)
  have H57 : ∀ (k36 : St → Int32 → Int32 → Int32 → Option (St)) (hk36 : ∀ (u : St) (v1 : Int32) (v2 : Int32) (v3 : Int32), k36 u v1 v2 v3 = some τ → G u 36 [(0, .ref (a 0)), (1, .int v1), (2, .int v2), (3, .int v3)] []) (k43 : St → Int32 → Int32 → Int32 → Int32 → Option (St)) (hk43 : ∀ (u : St) (v1 : Int32) (v2 : Int32) (v3 : Int32) (v4 : Int32), k43 u v1 v2 v3 v4 = some τ → G u 43 [(0, .ref (a 0)), (1, .int v1), (2, .int v2), (3, .int v3), (4, .int v4)] []), ∀ (n : Nat) (u : St) (v1 : Int32) (v2 : Int32) (v3 : Int32) (v4 : Int32) (v5 : Int32) (v6 : Int32), fX8_layRest_L57 k36 k43 n u v1 v2 v3 v4 v5 v6 = some τ → G u 57 [(0, .ref (a 0)), (1, .int v1), (2, .int v2), (3, .int v3), (4, .int v4), (5, .int v5), (6, .int v6)] [] := by
    intro k36 hk36 k43 hk43
    intro n
    induction n with
    | zero =>
      intro u v1 v2 v3 v4 v5 v6 h
      exact absurd h (by rw [fX8_layRest_L57]; exact fun q => by cases q)
    | succ n ih =>
      intro u v1 v2 v3 v4 v5 v6 h
      rw [fX8_layRest_L57] at h
      refine rl_iload hG dX8_layRest_57 6 rfl ?_
      refine rl_bipush hG (v := 12) dX8_layRest_59 (by decide) ?_
      refine rl_icmp_ge hG (tgt := 153) dX8_layRest_61 (by decide) (fun c8 => ?_) (fun c8 => ?_)
      · have h := it_t h c8
        exact rl_lvs hG [0, 1, 2, 3, 4, 5] rfl (H153 (k36) (hk36) (k43) (hk43) u v1 v2 v3 v4 v5 h)
      · have h := it_f h c8
        refine rl_iload hG dX8_layRest_64 6 rfl ?_
        refine rl_bipush hG (v := 6) dX8_layRest_66 (by decide) ?_
        refine rl_irem hG dX8_layRest_68 (by decide) ?_
        obtain ⟨x9, ex9, h⟩ := bd_ok h
        refine rl_istore hG [(7, .int x9), (0, .ref (a 0)), (1, .int v1), (2, .int v2), (3, .int v3), (4, .int v4), (5, .int v5), (6, .int v6)] dX8_layRest_69 (Nat.le_of_ble_eq_true rfl) ex9 rfl ?_
        refine rl_aload_n hG dX8_layRest_71 rfl 1 rfl ?_
        refine rl_iload_n hG dX8_layRest_72 rfl 4 rfl ?_
        refine rl_iload hG dX8_layRest_73 7 rfl ?_
        refine rl_bipush hG (v := 6) dX8_layRest_75 (by decide) ?_
        refine rl_idiv hG dX8_layRest_77 (by decide) ?_
        refine rl_iload hG dX8_layRest_78 0 rfl ?_
        refine rl_iload_n hG dX8_layRest_80 rfl 2 rfl ?_
        obtain ⟨x10, hx10q, zx10, h⟩ := oz_ok h
        refine rl_callVi hG ro_0_ok (As := [.int v3, .int (v6 / (6 : Int32)), .int x9, .int v1]) (kX8_goes l D a cI aS u v3 (v6 / (6 : Int32)) x9 v1 x10  hx10q) gX8_layRest_X8_goes rfl 0 (gM_0 a cI u) hcX8 4 rfl (by decide +kernel) rfl rfl (by decide) (Nat.le_of_ble_eq_true rfl) rfl dX8_layRest_81 ?_
        refine rl_if_eq hG (tgt := 147) dX8_layRest_84 (by decide) (fun c11 => ?_) (fun c11 => ?_)
        · have h := it_t h c11
          exact rl_lvs hG [1, 2, 3, 4, 5, 6, 7] rfl (H147 (k36) (hk36) (k43) (hk43) (fX8_layRest_L57 k36 k43 n) (ih) u v1 v2 v3 v4 v5 v6 h)
        · have h := it_f h c11
          refine rl_aload_n hG dX8_layRest_87 rfl 1 rfl ?_
          refine rl_iload_n hG dX8_layRest_88 rfl 4 rfl ?_
          refine rl_iload hG dX8_layRest_89 7 rfl ?_
          refine rl_bipush hG (v := 6) dX8_layRest_91 (by decide) ?_
          refine rl_idiv hG dX8_layRest_93 (by decide) ?_
          refine rl_iload hG dX8_layRest_94 0 rfl ?_
          refine rl_iload hG dX8_layRest_96 5 rfl ?_
          refine rl_bipush hG (v := 6) dX8_layRest_98 (by decide) ?_
          refine rl_icmp_ne hG (tgt := 107) dX8_layRest_100 (by decide) (fun c12 => ?_) (fun c12 => ?_)
          · have h := it_f h c12
            refine rl_iload hG dX8_layRest_107 5 rfl ?_
            exact rl_lvs hG [1, 2, 3, 4, 5, 6, 7, 0] rfl (H109 (k36) (hk36) (k43) (hk43) (fX8_layRest_L57 k36 k43 n) (ih) u v1 v2 v3 v4 v5 v6 x9 v4 x9 (v6 / (6 : Int32)) v3 h)
          · have h := it_t h c12
            refine rl_iconst hG (v := -1) dX8_layRest_103 (by decide) ?_
            refine rl_goto hG (tgt := 109) dX8_layRest_104 (by decide) ?_
            exact rl_lvs hG [1, 2, 3, 4, 5, 6, 7, 0] rfl (H109 (k36) (hk36) (k43) (hk43) (fX8_layRest_L57 k36 k43 n) (ih) u v1 v2 v3 v4 v5 v6 x9 (-1 : Int32) x9 (v6 / (6 : Int32)) v3 h)
  have H173 : ∀ (k36 : St → Int32 → Int32 → Int32 → Option (St)) (hk36 : ∀ (u : St) (v1 : Int32) (v2 : Int32) (v3 : Int32), k36 u v1 v2 v3 = some τ → G u 36 [(0, .ref (a 0)), (1, .int v1), (2, .int v2), (3, .int v3)] []), ∀ (u : St) (v1 : Int32) (v2 : Int32) (v3 : Int32), fX8_layRest_L173 k36 u v1 v2 v3 = some τ → G u 173 [(0, .ref (a 0)), (1, .int v1), (2, .int v2), (3, .int v3)] [] := by
    intro k36 hk36 u v1 v2 v3 h
    rw [fX8_layRest_L173] at h
    obtain ⟨x13, ex13, h⟩ := bd_ok h
    refine rl_iinc hG [(3, .int x13), (0, .ref (a 0)), (1, .int v1), (2, .int v2)] dX8_layRest_173 3 rfl (by rw [ex13]; rfl) (Nat.le_of_ble_eq_true rfl) rfl ?_
    refine rl_goto hG (tgt := 36) dX8_layRest_176 (by decide) ?_
    exact rl_lvs hG [1, 2, 3, 0] rfl (hk36 u v1 v2 x13 h)
  have H43 : ∀ (k36 : St → Int32 → Int32 → Int32 → Option (St)) (hk36 : ∀ (u : St) (v1 : Int32) (v2 : Int32) (v3 : Int32), k36 u v1 v2 v3 = some τ → G u 36 [(0, .ref (a 0)), (1, .int v1), (2, .int v2), (3, .int v3)] []), ∀ (n : Nat) (u : St) (v1 : Int32) (v2 : Int32) (v3 : Int32) (v4 : Int32), fX8_layRest_L43 k36 n u v1 v2 v3 v4 = some τ → G u 43 [(0, .ref (a 0)), (1, .int v1), (2, .int v2), (3, .int v3), (4, .int v4)] [] := by
    intro k36 hk36
    intro n
    induction n with
    | zero =>
      intro u v1 v2 v3 v4 h
      exact absurd h (by rw [fX8_layRest_L43]; exact fun q => by cases q)
    | succ n ih =>
      intro u v1 v2 v3 v4 h
      rw [fX8_layRest_L43] at h
      refine rl_iload hG dX8_layRest_43 4 rfl ?_
      refine rl_bipush hG (v := 7) dX8_layRest_45 (by decide) ?_
      refine rl_icmp_ge hG (tgt := 173) dX8_layRest_47 (by decide) (fun c14 => ?_) (fun c14 => ?_)
      · have h := it_t h c14
        exact rl_lvs hG [0, 1, 2, 3] rfl (H173 (k36) (hk36) u v1 v2 v3 h)
      · have h := it_f h c14
        refine rl_ldc hG (v := 268435456) dX8_layRest_50 nX8_layRest_1 ?_
        refine rl_istore hG [(5, .int (268435456 : Int32)), (0, .ref (a 0)), (1, .int v1), (2, .int v2), (3, .int v3), (4, .int v4)] dX8_layRest_52 (Nat.le_of_ble_eq_true rfl) rfl rfl ?_
        refine rl_iconst hG (v := 0) dX8_layRest_54 (by decide) ?_
        refine rl_istore hG [(6, .int (0 : Int32)), (5, .int (268435456 : Int32)), (0, .ref (a 0)), (1, .int v1), (2, .int v2), (3, .int v3), (4, .int v4)] dX8_layRest_55 (Nat.le_of_ble_eq_true rfl) rfl rfl ?_
        exact rl_lvs hG [2, 3, 4, 5, 6, 1, 0] rfl (H57 (k36) (hk36) (fX8_layRest_L43 k36 n) (ih) 2000 u v1 v2 v3 v4 (268435456 : Int32) (0 : Int32) h)
  have H36 : ∀ (n : Nat) (u : St) (v1 : Int32) (v2 : Int32) (v3 : Int32), fX8_layRest_L36 n u v1 v2 v3 = some τ → G u 36 [(0, .ref (a 0)), (1, .int v1), (2, .int v2), (3, .int v3)] [] := by
    intro n
    induction n with
    | zero =>
      intro u v1 v2 v3 h
      exact absurd h (by rw [fX8_layRest_L36]; exact fun q => by cases q)
    | succ n ih =>
      intro u v1 v2 v3 h
      rw [fX8_layRest_L36] at h
      refine rl_iload_n hG dX8_layRest_36 rfl 3 rfl ?_
      refine rl_if_lt hG (tgt := 179) dX8_layRest_37 (by decide) (fun c15 => ?_) (fun c15 => ?_)
      · have h := it_t h c15
        exact rl_retv hret h dX8_layRest_179
      · have h := it_f h c15
        refine rl_iconst hG (v := 0) dX8_layRest_40 (by decide) ?_
        refine rl_istore hG [(4, .int (0 : Int32)), (0, .ref (a 0)), (1, .int v1), (2, .int v2), (3, .int v3)] dX8_layRest_41 (Nat.le_of_ble_eq_true rfl) rfl rfl ?_
        exact rl_lvs hG [1, 2, 3, 4, 0] rfl (H43 (fX8_layRest_L36 n) (ih) 2000 u v1 v2 v3 (0 : Int32) h)
  have H29 : ∀ (u : St) (v1 : Int32) (v2 : Int32), fX8_layRest_L29 u v1 v2 = some τ → G u 29 [(0, .ref (a 0)), (1, .int v1), (2, .int v2)] [] := by
    intro  u v1 v2 h
    rw [fX8_layRest_L29] at h
    refine rl_aload_n hG dX8_layRest_29 rfl 0 rfl ?_
    refine rl_get hG iX8_layRest_X8 0 (gM_0 a cI u) hcX8 25 (Nat.le_of_ble_eq_true rfl) nX8_layRest_2 rfl dX8_layRest_30 ?_
    refine rl_iconst hG (v := 1) dX8_layRest_33 (by decide) ?_
    refine rl_isub hG dX8_layRest_34 ?_
    obtain ⟨x16, ex16, h⟩ := bd_ok h
    refine rl_istore_n hG [(3, .int x16), (0, .ref (a 0)), (1, .int v1), (2, .int v2)] dX8_layRest_35 rfl (Nat.le_of_ble_eq_true rfl) ex16 rfl ?_
    exact rl_lvs hG [1, 2, 3, 0] rfl (H36 2000 u v1 v2 x16 h)
  have H2 : ∀ (n : Nat) (u : St) (v1 : Int32) (v2 : Int32) (v3 : Int32), fX8_layRest_L2 n u v1 v2 v3 = some τ → G u 2 [(0, .ref (a 0)), (1, .int v1), (2, .int v2), (3, .int v3)] [] := by
    intro n
    induction n with
    | zero =>
      intro u v1 v2 v3 h
      exact absurd h (by rw [fX8_layRest_L2]; exact fun q => by cases q)
    | succ n ih =>
      intro u v1 v2 v3 h
      rw [fX8_layRest_L2] at h
      refine rl_iload_n hG dX8_layRest_2 rfl 3 rfl ?_
      refine rl_bipush hG (v := 7) dX8_layRest_3 (by decide) ?_
      refine rl_icmp_ge hG (tgt := 29) dX8_layRest_5 (by decide) (fun c17 => ?_) (fun c17 => ?_)
      · have h := it_t h c17
        exact rl_lvs hG [0, 1, 2] rfl (H29 u v1 v2 h)
      · have h := it_f h c17
        refine rl_aload_n hG dX8_layRest_8 rfl 0 rfl ?_
        refine rl_get hG iX8_layRest_X8 0 (gM_0 a cI u) hcX8 26 (Nat.le_of_ble_eq_true rfl) nX8_layRest_0 rfl dX8_layRest_9 ?_
        refine rl_bipush hG (v := 7) dX8_layRest_12 (by decide) ?_
        refine rl_aload_n hG dX8_layRest_14 rfl 0 rfl ?_
        refine rl_get hG iX8_layRest_X8 0 (gM_0 a cI u) hcX8 25 (Nat.le_of_ble_eq_true rfl) nX8_layRest_2 rfl dX8_layRest_15 ?_
        refine rl_imul hG dX8_layRest_18 ?_
        refine rl_iload_n hG dX8_layRest_19 rfl 3 rfl ?_
        refine rl_iadd hG dX8_layRest_20 ?_
        refine rl_iconst hG (v := 0) dX8_layRest_21 (by decide) ?_
        obtain ⟨u18, iu18, eu18, h⟩ := asr_ok h
        refine rl_iast hG 15 0 (gM_15 a cI u) rfl iu18 (σ' := u18) ((sM_15 a cI u _).trans (congrArg _ eu18.symm)) dX8_layRest_22 ?_
        obtain ⟨x19, ex19, h⟩ := bd_ok h
        refine rl_iinc hG [(3, .int x19), (0, .ref (a 0)), (1, .int v1), (2, .int v2)] dX8_layRest_23 3 rfl (by rw [ex19]; rfl) (Nat.le_of_ble_eq_true rfl) rfl ?_
        refine rl_goto hG (tgt := 2) dX8_layRest_26 (by decide) ?_
        exact rl_lvs hG [1, 2, 3, 0] rfl (ih u18 v1 v2 x19 h)
  have h := h0
  rw [fX8_layRest] at h
  show G u 0 [(0, .ref (a 0)), (1, .int p1), (2, .int p2)] []
  refine rl_iconst hG (v := 0) dX8_layRest_0 (by decide) ?_
  refine rl_istore_n hG [(3, .int (0 : Int32)), (0, .ref (a 0)), (1, .int p1), (2, .int p2)] dX8_layRest_1 rfl (Nat.le_of_ble_eq_true rfl) rfl rfl ?_
  exact rl_lvs hG [1, 2, 3, 0] rfl (H2 2000 u p1 p2 (0 : Int32) h)
def fX8_best_L47   (u : St) (w0 : Int32) (w1 : Int32) : Option (Int32 × St) := o1 (fX8_layRest u w1 w0) (fun u1 => ald u1 15 63 (6 : Int32) (fun x2 => (if x2 < (268435456 : Int32) then ald u1 15 63 (6 : Int32) (fun x4 => some (x4, u1)) else some ((-1 : Int32), u1))))
def fX8_best (u : St)  (p1 : Int32) (p2 : Int32) (p3 : Int32) : Option (Int32 × St) := oz (fX8_isThing p1) (fun x5 => (if x5 = (0 : Int32) then some ((-2 : Int32), u) else oz (fX8_isGuilds p2) (fun x7 => (if x7 = (0 : Int32) then some ((-3 : Int32), u) else oz (fX8_in p3.toInt64 (0 : Int64) (1 : Int64)) (fun x9 => (if x9 = (0 : Int32) then some ((-3 : Int32), u) else o1 (fX8_lay u p1) (fun u11 => (if p3 = (1 : Int32) then fX8_best_L47 u11 (1 : Int32) p2 else fX8_best_L47 u11 (0 : Int32) p2))))))))
theorem nX8_best_0 : Cond.fieldLink RX8 52 "WhoseWorkModel" "rest" "[I" ∈ wsX8_best := by decide +kernel
theorem nX8_best_1 : Cond.constant RX8 214 (268435456) ∈ wsX8_best := by decide +kernel
theorem iX8_best_X8 : ∀ w ∈ wsX80, w ∈ wsX8_best := by decide +kernel
set_option maxRecDepth 100000 in
set_option maxHeartbeats 4000000 in
theorem kX8_best (l : Launch) (D : va_G) (a : Nat → Nat) (cI : ClassId) (aS : Nat → Prop) (u : St)  (p1 : Int32) (p2 : Int32) (p3 : Int32) (r : Int32) (τ : St)  (h0 : fX8_best u p1 p2 p3 = some (r, τ)) : rl_Mi l yX8_best wsX8_best ({ frames := 5, cells := 0, slots := 0, locals := 119 } : Room) D (tyM cI) (wM a cI) ro_0 aS [.ref (a 0), .int p1, .int p2, .int p3] u r τ := by
  refine rl_meth_i (cc := cX8_best) (maxL := 4) (own := RX8) (ty := .int) (by decide) rfl rfl (Nat.le_of_ble_eq_true rfl) ?_
  intro G hG hret
  have H47 : ∀ (u : St) (w0 : Int32) (w1 : Int32), fX8_best_L47 u w0 w1 = some (r, τ) → G u 47 [(0, .ref (a 0))] [.int w0, .int w1, .ref (a 0)] := by
    intro  u w0 w1 h
    rw [fX8_best_L47] at h
    obtain ⟨u1, hu1q, h⟩ := o1_ok h
    refine rl_callVv hG ro_0_ok (As := [.int w1, .int w0]) (kX8_layRest l D a cI aS u w1 w0 u1  hu1q) gX8_best_X8_layRest rfl 0 (gM_0 a cI u) hcX8 2 rfl (by decide +kernel) rfl rfl (by decide) (Nat.le_of_ble_eq_true rfl) rfl dX8_best_47 ?_
    refine rl_aload_n hG dX8_best_50 rfl 0 rfl ?_
    refine rl_get hG iX8_best_X8 0 (gM_0 a cI u1) hcX8 26 (Nat.le_of_ble_eq_true rfl) nX8_best_0 rfl dX8_best_51 ?_
    refine rl_bipush hG (v := 6) dX8_best_54 (by decide) ?_
    obtain ⟨x2, ix2, ex2, h⟩ := ald_ok h
    refine rl_iald hG 15 0 (gM_15 a cI u1) rfl ix2 ex2 dX8_best_56 ?_
    refine rl_ldc hG (v := 268435456) dX8_best_57 nX8_best_1 ?_
    refine rl_icmp_lt hG (tgt := 66) dX8_best_59 (by decide) (fun c3 => ?_) (fun c3 => ?_)
    · have h := it_t h c3
      refine rl_aload_n hG dX8_best_66 rfl 0 rfl ?_
      refine rl_get hG iX8_best_X8 0 (gM_0 a cI u1) hcX8 26 (Nat.le_of_ble_eq_true rfl) nX8_best_0 rfl dX8_best_67 ?_
      refine rl_bipush hG (v := 6) dX8_best_70 (by decide) ?_
      obtain ⟨x4, ix4, ex4, h⟩ := ald_ok h
      refine rl_iald hG 15 0 (gM_15 a cI u1) rfl ix4 ex4 dX8_best_72 ?_
      exact rl_ret2 hret h rfl dX8_best_73
    · have h := it_f h c3
      refine rl_iconst hG (v := -1) dX8_best_62 (by decide) ?_
      refine rl_goto hG (tgt := 73) dX8_best_63 (by decide) ?_
      exact rl_ret2 hret h rfl dX8_best_73
  have h := h0
  rw [fX8_best] at h
  show G u 0 [(0, .ref (a 0)), (1, .int p1), (2, .int p2), (3, .int p3)] []
  refine rl_iload_n hG dX8_best_0 rfl 1 rfl ?_
  obtain ⟨x5, hx5q, zx5, h⟩ := oz_ok h
  refine rl_callZi hG (As := [.int p1]) (kX8_isThing l D u p1 x5 hx5q) gX8_best_X8_isThing rfl 1 rfl (by decide +kernel) rfl rfl (by decide) (Nat.le_of_ble_eq_true rfl) rfl dX8_best_1 ?_
  refine rl_if_ne hG (tgt := 10) dX8_best_4 (by decide) (fun c6 => ?_) (fun c6 => ?_)
  · have h := it_f h c6
    refine rl_iload_n hG dX8_best_10 rfl 2 rfl ?_
    obtain ⟨x7, hx7q, zx7, h⟩ := oz_ok h
    refine rl_callZi hG (As := [.int p2]) (kX8_isGuilds l D u p2 x7 hx7q) gX8_best_X8_isGuilds rfl 1 rfl (by decide +kernel) rfl rfl (by decide) (Nat.le_of_ble_eq_true rfl) rfl dX8_best_11 ?_
    refine rl_if_eq hG (tgt := 27) dX8_best_14 (by decide) (fun c8 => ?_) (fun c8 => ?_)
    · have h := it_t h c8
      refine rl_bipush hG (v := -3) dX8_best_27 (by decide) ?_
      exact rl_ret2 hret h rfl dX8_best_29
    · have h := it_f h c8
      refine rl_iload_n hG dX8_best_17 rfl 3 rfl ?_
      refine rl_i2l hG dX8_best_18 ?_
      refine rl_lconst hG (v := 0) dX8_best_19 (by decide) ?_
      refine rl_lconst hG (v := 1) dX8_best_20 (by decide) ?_
      obtain ⟨x9, hx9q, zx9, h⟩ := oz_ok h
      refine rl_callZi hG (As := [.long p3.toInt64, .long (0 : Int64), .long (1 : Int64)]) (kX8_in l D u p3.toInt64 (0 : Int64) (1 : Int64) x9 hx9q) gX8_best_X8_in rfl 3 rfl (by decide +kernel) rfl rfl (by decide) (Nat.le_of_ble_eq_true rfl) rfl dX8_best_21 ?_
      refine rl_if_ne hG (tgt := 30) dX8_best_24 (by decide) (fun c10 => ?_) (fun c10 => ?_)
      · have h := it_f h c10
        refine rl_aload_n hG dX8_best_30 rfl 0 rfl ?_
        refine rl_iload_n hG dX8_best_31 rfl 1 rfl ?_
        obtain ⟨u11, hu11q, h⟩ := o1_ok h
        refine rl_callVv hG ro_0_ok (As := [.int p1]) (kX8_lay l D a cI aS u p1 u11  hu11q) gX8_best_X8_lay rfl 0 (gM_0 a cI u) hcX8 1 rfl (by decide +kernel) rfl rfl (by decide) (Nat.le_of_ble_eq_true rfl) rfl dX8_best_32 ?_
        refine rl_aload_n hG dX8_best_35 rfl 0 rfl ?_
        refine rl_iload_n hG dX8_best_36 rfl 2 rfl ?_
        refine rl_iload_n hG dX8_best_37 rfl 3 rfl ?_
        refine rl_iconst hG (v := 1) dX8_best_38 (by decide) ?_
        refine rl_icmp_ne hG (tgt := 46) dX8_best_39 (by decide) (fun c12 => ?_) (fun c12 => ?_)
        · have h := it_f h c12
          refine rl_iconst hG (v := 0) dX8_best_46 (by decide) ?_
          exact rl_lvs hG [0] rfl (H47 u11 (0 : Int32) p2 h)
        · have h := it_t h c12
          refine rl_iconst hG (v := 1) dX8_best_42 (by decide) ?_
          refine rl_goto hG (tgt := 47) dX8_best_43 (by decide) ?_
          exact rl_lvs hG [0] rfl (H47 u11 (1 : Int32) p2 h)
      · have h := it_t h c10
        refine rl_bipush hG (v := -3) dX8_best_27 (by decide) ?_
        exact rl_ret2 hret h rfl dX8_best_29
  · have h := it_t h c6
    refine rl_bipush hG (v := -2) dX8_best_7 (by decide) ?_
    exact rl_ret2 hret h rfl dX8_best_9
def fX8_way_L204  (k78 : St → Int32 → Int32 → Int32 → Int32 → Int32 → Int32 → Option (Int32 × St)) (k90 : St → Int32 → Int32 → Int32 → Int32 → Int32 → Int32 → Int32 → Option (Int32 × St)) (u : St) (v2 : Int32) (v3 : Int32) (v4 : Int32) (v5 : Int32) (v7 : Int32) (v9 : Int32) (w0 : Int32) : Option (Int32 × St) := bd (v9 + (1 : Int32)) (fun x1 => k90 u v2 v3 v4 v5 v7 w0 x1)
def fX8_way_L191  (k78 : St → Int32 → Int32 → Int32 → Int32 → Int32 → Int32 → Option (Int32 × St)) (k90 : St → Int32 → Int32 → Int32 → Int32 → Int32 → Int32 → Int32 → Option (Int32 × St)) (u : St) (v2 : Int32) (v3 : Int32) (v4 : Int32) (v5 : Int32) (v7 : Int32) (v9 : Int32) (w0 : Int32) : Option (Int32 × St) := (if w0 = (0 : Int32) then fX8_way_L204 k78 k90 u v2 v3 v4 v5 v7 v9 (-1 : Int32) else fX8_way_L204 k78 k90 u v2 v3 v4 v5 v7 v9 v9)
def fX8_way_L190  (k78 : St → Int32 → Int32 → Int32 → Int32 → Int32 → Int32 → Option (Int32 × St)) (k90 : St → Int32 → Int32 → Int32 → Int32 → Int32 → Int32 → Int32 → Option (Int32 × St)) (u : St) (v2 : Int32) (v3 : Int32) (v4 : Int32) (v5 : Int32) (v7 : Int32) (v9 : Int32) : Option (Int32 × St) := fX8_way_L191 k78 k90 u v2 v3 v4 v5 v7 v9 (0 : Int32)
def fX8_way_L149  (k78 : St → Int32 → Int32 → Int32 → Int32 → Int32 → Int32 → Option (Int32 × St)) (k90 : St → Int32 → Int32 → Int32 → Int32 → Int32 → Int32 → Int32 → Option (Int32 × St)) (u : St) (v2 : Int32) (v3 : Int32) (v4 : Int32) (v5 : Int32) (v7 : Int32) (v9 : Int32) (v10 : Int32) (w0 : Int32) (w1 : Int32) (w2 : Int32) (w3 : Int32) : Option (Int32 × St) := o1 (fX8_stepCost u w3 w2 w1 w0 (0 : Int32)) (fun x3 => ald u 15 63 ((((7 : Int32) * v7) + (7 : Int32)) + v10) (fun x4 => ald u 15 63 (((7 : Int32) * v7) + v5) (fun x5 => (if (x3 + x4) = x5 then fX8_way_L191 k78 k90 u v2 v3 v4 v5 v7 v9 (1 : Int32) else fX8_way_L190 k78 k90 u v2 v3 v4 v5 v7 v9))))
def fX8_way_L212  (k78 : St → Int32 → Int32 → Int32 → Int32 → Int32 → Int32 → Option (Int32 × St)) (u : St) (v2 : Int32) (v3 : Int32) (v4 : Int32) (v7 : Int32) (v8 : Int32) : Option (Int32 × St) := bd (v8 / (2 : Int32)) (fun x7 => bd (v8 - v8 / (2 : Int32) * (2 : Int32)) (fun x8 => bd (v7 + (1 : Int32)) (fun x9 => k78 u v2 v3 v4 x7 x8 x9)))
def fX8_way_L90  (k78 : St → Int32 → Int32 → Int32 → Int32 → Int32 → Int32 → Option (Int32 × St)) : Nat → St → Int32 → Int32 → Int32 → Int32 → Int32 → Int32 → Int32 → Option (Int32 × St)
  | 0 => fun _ _ _ _ _ _ _ _ => none
  | n + 1 => fun u v2 v3 v4 v5 v7 v8 v9 => (if (12 : Int32) ≤ v9 then fX8_way_L212 k78 u v2 v3 v4 v7 v8 else (if v8 = (-1 : Int32) then bd (v9 / (2 : Int32)) (fun x12 => bd (v9 - v9 / (2 : Int32) * (2 : Int32)) (fun x13 => oz (fX8_goes u v7 x13 x12 v2) (fun x14 => (if x14 = (0 : Int32) then fX8_way_L190 k78 (fX8_way_L90 k78 n) u v2 v3 v4 v5 v7 v9 else (if v5 = (6 : Int32) then fX8_way_L149 k78 (fX8_way_L90 k78 n) u v2 v3 v4 v5 v7 v9 x12 (-1 : Int32) x12 x13 v7 else fX8_way_L149 k78 (fX8_way_L90 k78 n) u v2 v3 v4 v5 v7 v9 x12 v5 x12 x13 v7))))) else fX8_way_L212 k78 u v2 v3 v4 v7 v8))
def fX8_way_L230   (u : St) (v4 : Int32) (v5 : Int32) (v6 : Int32) : Option (Int32 × St) := (if v4 = (0 : Int32) then some (v5, u) else some (v6, u))
def fX8_way_L78   : Nat → St → Int32 → Int32 → Int32 → Int32 → Int32 → Int32 → Option (Int32 × St)
  | 0 => fun _ _ _ _ _ _ _ => none
  | n + 1 => fun u v2 v3 v4 v5 v6 v7 => (if v3 < v7 then fX8_way_L230 u v4 v5 v6 else fX8_way_L90 (fX8_way_L78 n) 2000 u v2 v3 v4 v5 v7 (-1 : Int32) (0 : Int32))
def fX8_way (u : St)  (p1 : Int32) (p2 : Int32) (p3 : Int32) (p4 : Int32) : Option (Int32 × St) := oz (fX8_isThing p1) (fun x19 => (if x19 = (0 : Int32) then some ((-2 : Int32), u) else oz (fX8_isGuilds p2) (fun x21 => (if x21 = (0 : Int32) then some ((-3 : Int32), u) else (if p3 < (0 : Int32) then some ((-3 : Int32), u) else oz (fX8_in p4.toInt64 (0 : Int64) (1 : Int64)) (fun x24 => (if x24 = (0 : Int32) then some ((-3 : Int32), u) else o1 (fX8_lay u p1) (fun u26 => o1 (fX8_layRest u26 p2 (0 : Int32)) (fun u27 => ald u27 15 63 (6 : Int32) (fun x28 => (if (268435456 : Int32) ≤ x28 then some ((-1 : Int32), u27) else (if p3 < (u27 0 25) then fX8_way_L78 2000 u27 p2 p3 p4 (6 : Int32) (0 : Int32) (0 : Int32) else some ((-1 : Int32), u27)))))))))))))
theorem nX8_way_0 : Cond.fieldLink RX8 52 "WhoseWorkModel" "rest" "[I" ∈ wsX8_way := by decide +kernel
theorem nX8_way_1 : Cond.constant RX8 214 (268435456) ∈ wsX8_way := by decide +kernel
theorem nX8_way_2 : Cond.fieldLink RX8 175 "WhoseWorkModel" "steps" "I" ∈ wsX8_way := by decide +kernel
theorem iX8_way_X8 : ∀ w ∈ wsX80, w ∈ wsX8_way := by decide +kernel
set_option maxRecDepth 100000 in
set_option maxHeartbeats 4000000 in
theorem kX8_way (l : Launch) (D : va_G) (a : Nat → Nat) (cI : ClassId) (aS : Nat → Prop) (u : St)  (p1 : Int32) (p2 : Int32) (p3 : Int32) (p4 : Int32) (r : Int32) (τ : St)  (h0 : fX8_way u p1 p2 p3 p4 = some (r, τ)) : rl_Mi l yX8_way wsX8_way ({ frames := 5, cells := 0, slots := 0, locals := 119 } : Room) D (tyM cI) (wM a cI) ro_0 aS [.ref (a 0), .int p1, .int p2, .int p3, .int p4] u r τ := by
  refine rl_meth_i (cc := cX8_way) (maxL := 13) (own := RX8) (ty := .int) (by decide) rfl rfl (Nat.le_of_ble_eq_true rfl) ?_
  intro G hG hret
  have H204 : ∀ (k78 : St → Int32 → Int32 → Int32 → Int32 → Int32 → Int32 → Option (Int32 × St)) (hk78 : ∀ (u : St) (v2 : Int32) (v3 : Int32) (v4 : Int32) (v5 : Int32) (v6 : Int32) (v7 : Int32), k78 u v2 v3 v4 v5 v6 v7 = some (r, τ) → G u 78 [(0, .ref (a 0)), (2, .int v2), (3, .int v3), (4, .int v4), (5, .int v5), (6, .int v6), (7, .int v7)] []) (k90 : St → Int32 → Int32 → Int32 → Int32 → Int32 → Int32 → Int32 → Option (Int32 × St)) (hk90 : ∀ (u : St) (v2 : Int32) (v3 : Int32) (v4 : Int32) (v5 : Int32) (v7 : Int32) (v8 : Int32) (v9 : Int32), k90 u v2 v3 v4 v5 v7 v8 v9 = some (r, τ) → G u 90 [(0, .ref (a 0)), (2, .int v2), (3, .int v3), (4, .int v4), (5, .int v5), (7, .int v7), (8, .int v8), (9, .int v9)] []), ∀ (u : St) (v2 : Int32) (v3 : Int32) (v4 : Int32) (v5 : Int32) (v7 : Int32) (v9 : Int32) (w0 : Int32), fX8_way_L204 k78 k90 u v2 v3 v4 v5 v7 v9 w0 = some (r, τ) → G u 204 [(0, .ref (a 0)), (2, .int v2), (3, .int v3), (4, .int v4), (5, .int v5), (7, .int v7), (9, .int v9)] [.int w0] := by
    intro k78 hk78 k90 hk90 u v2 v3 v4 v5 v7 v9 w0 h
    rw [fX8_way_L204] at h
    refine rl_istore hG [(8, .int w0), (0, .ref (a 0)), (2, .int v2), (3, .int v3), (4, .int v4), (5, .int v5), (7, .int v7), (9, .int v9)] dX8_way_204 (Nat.le_of_ble_eq_true rfl) rfl rfl ?_
    obtain ⟨x1, ex1, h⟩ := bd_ok h
    refine rl_iinc hG [(9, .int x1), (8, .int w0), (0, .ref (a 0)), (2, .int v2), (3, .int v3), (4, .int v4), (5, .int v5), (7, .int v7)] dX8_way_206 7 rfl (by rw [ex1]; rfl) (Nat.le_of_ble_eq_true rfl) rfl ?_
    refine rl_goto hG (tgt := 90) dX8_way_209 (by decide) ?_
    exact rl_lvs hG [2, 3, 4, 5, 6, 7, 1, 0] rfl (hk90 u v2 v3 v4 v5 v7 w0 x1 h)
  have H191 : ∀ (k78 : St → Int32 → Int32 → Int32 → Int32 → Int32 → Int32 → Option (Int32 × St)) (hk78 : ∀ (u : St) (v2 : Int32) (v3 : Int32) (v4 : Int32) (v5 : Int32) (v6 : Int32) (v7 : Int32), k78 u v2 v3 v4 v5 v6 v7 = some (r, τ) → G u 78 [(0, .ref (a 0)), (2, .int v2), (3, .int v3), (4, .int v4), (5, .int v5), (6, .int v6), (7, .int v7)] []) (k90 : St → Int32 → Int32 → Int32 → Int32 → Int32 → Int32 → Int32 → Option (Int32 × St)) (hk90 : ∀ (u : St) (v2 : Int32) (v3 : Int32) (v4 : Int32) (v5 : Int32) (v7 : Int32) (v8 : Int32) (v9 : Int32), k90 u v2 v3 v4 v5 v7 v8 v9 = some (r, τ) → G u 90 [(0, .ref (a 0)), (2, .int v2), (3, .int v3), (4, .int v4), (5, .int v5), (7, .int v7), (8, .int v8), (9, .int v9)] []), ∀ (u : St) (v2 : Int32) (v3 : Int32) (v4 : Int32) (v5 : Int32) (v7 : Int32) (v9 : Int32) (w0 : Int32), fX8_way_L191 k78 k90 u v2 v3 v4 v5 v7 v9 w0 = some (r, τ) → G u 191 [(0, .ref (a 0)), (2, .int v2), (3, .int v3), (4, .int v4), (5, .int v5), (7, .int v7), (9, .int v9)] [.int w0] := by
    intro k78 hk78 k90 hk90 u v2 v3 v4 v5 v7 v9 w0 h
    rw [fX8_way_L191] at h
    refine rl_istore hG [(12, .int w0), (0, .ref (a 0)), (2, .int v2), (3, .int v3), (4, .int v4), (5, .int v5), (7, .int v7), (9, .int v9)] dX8_way_191 (Nat.le_of_ble_eq_true rfl) rfl rfl ?_
    refine rl_iload hG dX8_way_193 0 rfl ?_
    refine rl_if_eq hG (tgt := 203) dX8_way_195 (by decide) (fun c2 => ?_) (fun c2 => ?_)
    · have h := it_t h c2
      refine rl_iconst hG (v := -1) dX8_way_203 (by decide) ?_
      exact rl_lvs hG [1, 2, 3, 4, 5, 6, 7] rfl (H204 (k78) (hk78) (k90) (hk90) u v2 v3 v4 v5 v7 v9 (-1 : Int32) h)
    · have h := it_f h c2
      refine rl_iload hG dX8_way_198 7 rfl ?_
      refine rl_goto hG (tgt := 204) dX8_way_200 (by decide) ?_
      exact rl_lvs hG [1, 2, 3, 4, 5, 6, 7] rfl (H204 (k78) (hk78) (k90) (hk90) u v2 v3 v4 v5 v7 v9 v9 h)
  have H190 : ∀ (k78 : St → Int32 → Int32 → Int32 → Int32 → Int32 → Int32 → Option (Int32 × St)) (hk78 : ∀ (u : St) (v2 : Int32) (v3 : Int32) (v4 : Int32) (v5 : Int32) (v6 : Int32) (v7 : Int32), k78 u v2 v3 v4 v5 v6 v7 = some (r, τ) → G u 78 [(0, .ref (a 0)), (2, .int v2), (3, .int v3), (4, .int v4), (5, .int v5), (6, .int v6), (7, .int v7)] []) (k90 : St → Int32 → Int32 → Int32 → Int32 → Int32 → Int32 → Int32 → Option (Int32 × St)) (hk90 : ∀ (u : St) (v2 : Int32) (v3 : Int32) (v4 : Int32) (v5 : Int32) (v7 : Int32) (v8 : Int32) (v9 : Int32), k90 u v2 v3 v4 v5 v7 v8 v9 = some (r, τ) → G u 90 [(0, .ref (a 0)), (2, .int v2), (3, .int v3), (4, .int v4), (5, .int v5), (7, .int v7), (8, .int v8), (9, .int v9)] []), ∀ (u : St) (v2 : Int32) (v3 : Int32) (v4 : Int32) (v5 : Int32) (v7 : Int32) (v9 : Int32), fX8_way_L190 k78 k90 u v2 v3 v4 v5 v7 v9 = some (r, τ) → G u 190 [(0, .ref (a 0)), (2, .int v2), (3, .int v3), (4, .int v4), (5, .int v5), (7, .int v7), (9, .int v9)] [] := by
    intro k78 hk78 k90 hk90 u v2 v3 v4 v5 v7 v9 h
    rw [fX8_way_L190] at h
    refine rl_iconst hG (v := 0) dX8_way_190 (by decide) ?_
    exact rl_lvs hG [0, 1, 2, 3, 4, 5, 6] rfl (H191 (k78) (hk78) (k90) (hk90) u v2 v3 v4 v5 v7 v9 (0 : Int32) h)
  have H149 : ∀ (k78 : St → Int32 → Int32 → Int32 → Int32 → Int32 → Int32 → Option (Int32 × St)) (hk78 : ∀ (u : St) (v2 : Int32) (v3 : Int32) (v4 : Int32) (v5 : Int32) (v6 : Int32) (v7 : Int32), k78 u v2 v3 v4 v5 v6 v7 = some (r, τ) → G u 78 [(0, .ref (a 0)), (2, .int v2), (3, .int v3), (4, .int v4), (5, .int v5), (6, .int v6), (7, .int v7)] []) (k90 : St → Int32 → Int32 → Int32 → Int32 → Int32 → Int32 → Int32 → Option (Int32 × St)) (hk90 : ∀ (u : St) (v2 : Int32) (v3 : Int32) (v4 : Int32) (v5 : Int32) (v7 : Int32) (v8 : Int32) (v9 : Int32), k90 u v2 v3 v4 v5 v7 v8 v9 = some (r, τ) → G u 90 [(0, .ref (a 0)), (2, .int v2), (3, .int v3), (4, .int v4), (5, .int v5), (7, .int v7), (8, .int v8), (9, .int v9)] []), ∀ (u : St) (v2 : Int32) (v3 : Int32) (v4 : Int32) (v5 : Int32) (v7 : Int32) (v9 : Int32) (v10 : Int32) (w0 : Int32) (w1 : Int32) (w2 : Int32) (w3 : Int32), fX8_way_L149 k78 k90 u v2 v3 v4 v5 v7 v9 v10 w0 w1 w2 w3 = some (r, τ) → G u 149 [(0, .ref (a 0)), (2, .int v2), (3, .int v3), (4, .int v4), (5, .int v5), (7, .int v7), (9, .int v9), (10, .int v10)] [.int w0, .int w1, .int w2, .int w3, .ref (a 0)] := by
    intro k78 hk78 k90 hk90 u v2 v3 v4 v5 v7 v9 v10 w0 w1 w2 w3 h
    rw [fX8_way_L149] at h
    refine rl_iconst hG (v := 0) dX8_way_149 (by decide) ?_
    obtain ⟨x3, hx3q, h⟩ := o1_ok h
    refine rl_callVi hG ro_0_ok (As := [.int w3, .int w2, .int w1, .int w0, .int (0 : Int32)]) (kX8_stepCost l D a cI aS u w3 w2 w1 w0 (0 : Int32) x3  hx3q) gX8_way_X8_stepCost rfl 0 (gM_0 a cI u) hcX8 5 rfl (by decide +kernel) rfl rfl (by decide) (Nat.le_of_ble_eq_true rfl) rfl dX8_way_150 ?_
    refine rl_aload_n hG dX8_way_153 rfl 0 rfl ?_
    refine rl_get hG iX8_way_X8 0 (gM_0 a cI u) hcX8 26 (Nat.le_of_ble_eq_true rfl) nX8_way_0 rfl dX8_way_154 ?_
    refine rl_bipush hG (v := 7) dX8_way_157 (by decide) ?_
    refine rl_iload hG dX8_way_159 5 rfl ?_
    refine rl_imul hG dX8_way_161 ?_
    refine rl_bipush hG (v := 7) dX8_way_162 (by decide) ?_
    refine rl_iadd hG dX8_way_164 ?_
    refine rl_iload hG dX8_way_165 7 rfl ?_
    refine rl_iadd hG dX8_way_167 ?_
    obtain ⟨x4, ix4, ex4, h⟩ := ald_ok h
    refine rl_iald hG 15 0 (gM_15 a cI u) rfl ix4 ex4 dX8_way_168 ?_
    refine rl_iadd hG dX8_way_169 ?_
    refine rl_aload_n hG dX8_way_170 rfl 0 rfl ?_
    refine rl_get hG iX8_way_X8 0 (gM_0 a cI u) hcX8 26 (Nat.le_of_ble_eq_true rfl) nX8_way_0 rfl dX8_way_171 ?_
    refine rl_bipush hG (v := 7) dX8_way_174 (by decide) ?_
    refine rl_iload hG dX8_way_176 5 rfl ?_
    refine rl_imul hG dX8_way_178 ?_
    refine rl_iload hG dX8_way_179 4 rfl ?_
    refine rl_iadd hG dX8_way_181 ?_
    obtain ⟨x5, ix5, ex5, h⟩ := ald_ok h
    refine rl_iald hG 15 0 (gM_15 a cI u) rfl ix5 ex5 dX8_way_182 ?_
    refine rl_icmp_ne hG (tgt := 190) dX8_way_183 (by decide) (fun c6 => ?_) (fun c6 => ?_)
    · have h := it_f h c6
      exact rl_lvs hG [0, 1, 2, 3, 4, 5, 6] rfl (H190 (k78) (hk78) (k90) (hk90) u v2 v3 v4 v5 v7 v9 h)
    · have h := it_t h c6
      refine rl_iconst hG (v := 1) dX8_way_186 (by decide) ?_
      refine rl_goto hG (tgt := 191) dX8_way_187 (by decide) ?_
      exact rl_lvs hG [0, 1, 2, 3, 4, 5, 6] rfl (H191 (k78) (hk78) (k90) (hk90) u v2 v3 v4 v5 v7 v9 (1 : Int32) h)
  have H212 : ∀ (k78 : St → Int32 → Int32 → Int32 → Int32 → Int32 → Int32 → Option (Int32 × St)) (hk78 : ∀ (u : St) (v2 : Int32) (v3 : Int32) (v4 : Int32) (v5 : Int32) (v6 : Int32) (v7 : Int32), k78 u v2 v3 v4 v5 v6 v7 = some (r, τ) → G u 78 [(0, .ref (a 0)), (2, .int v2), (3, .int v3), (4, .int v4), (5, .int v5), (6, .int v6), (7, .int v7)] []), ∀ (u : St) (v2 : Int32) (v3 : Int32) (v4 : Int32) (v7 : Int32) (v8 : Int32), fX8_way_L212 k78 u v2 v3 v4 v7 v8 = some (r, τ) → G u 212 [(0, .ref (a 0)), (2, .int v2), (3, .int v3), (4, .int v4), (7, .int v7), (8, .int v8)] [] := by
    intro k78 hk78 u v2 v3 v4 v7 v8 h
    rw [fX8_way_L212] at h
    refine rl_iload hG dX8_way_212 5 rfl ?_
    refine rl_iconst hG (v := 2) dX8_way_214 (by decide) ?_
    refine rl_idiv hG dX8_way_215 (by decide) ?_
    obtain ⟨x7, ex7, h⟩ := bd_ok h
    refine rl_istore hG [(5, .int x7), (0, .ref (a 0)), (2, .int v2), (3, .int v3), (4, .int v4), (7, .int v7), (8, .int v8)] dX8_way_216 (Nat.le_of_ble_eq_true rfl) ex7 rfl ?_
    refine rl_iload hG dX8_way_218 6 rfl ?_
    refine rl_iconst hG (v := 2) dX8_way_220 (by decide) ?_
    refine rl_irem hG dX8_way_221 (by decide) ?_
    obtain ⟨x8, ex8, h⟩ := bd_ok h
    refine rl_istore hG [(6, .int x8), (5, .int x7), (0, .ref (a 0)), (2, .int v2), (3, .int v3), (4, .int v4), (7, .int v7), (8, .int v8)] dX8_way_222 (Nat.le_of_ble_eq_true rfl) ex8 rfl ?_
    obtain ⟨x9, ex9, h⟩ := bd_ok h
    refine rl_iinc hG [(7, .int x9), (6, .int x8), (5, .int x7), (0, .ref (a 0)), (2, .int v2), (3, .int v3), (4, .int v4), (8, .int v8)] dX8_way_224 6 rfl (by rw [ex9]; rfl) (Nat.le_of_ble_eq_true rfl) rfl ?_
    refine rl_goto hG (tgt := 78) dX8_way_227 (by decide) ?_
    exact rl_lvs hG [3, 4, 5, 6, 2, 1, 0] rfl (hk78 u v2 v3 v4 x7 x8 x9 h)
  have H90 : ∀ (k78 : St → Int32 → Int32 → Int32 → Int32 → Int32 → Int32 → Option (Int32 × St)) (hk78 : ∀ (u : St) (v2 : Int32) (v3 : Int32) (v4 : Int32) (v5 : Int32) (v6 : Int32) (v7 : Int32), k78 u v2 v3 v4 v5 v6 v7 = some (r, τ) → G u 78 [(0, .ref (a 0)), (2, .int v2), (3, .int v3), (4, .int v4), (5, .int v5), (6, .int v6), (7, .int v7)] []), ∀ (n : Nat) (u : St) (v2 : Int32) (v3 : Int32) (v4 : Int32) (v5 : Int32) (v7 : Int32) (v8 : Int32) (v9 : Int32), fX8_way_L90 k78 n u v2 v3 v4 v5 v7 v8 v9 = some (r, τ) → G u 90 [(0, .ref (a 0)), (2, .int v2), (3, .int v3), (4, .int v4), (5, .int v5), (7, .int v7), (8, .int v8), (9, .int v9)] [] := by
    intro k78 hk78
    intro n
    induction n with
    | zero =>
      intro u v2 v3 v4 v5 v7 v8 v9 h
      exact absurd h (by rw [fX8_way_L90]; exact fun q => by cases q)
    | succ n ih =>
      intro u v2 v3 v4 v5 v7 v8 v9 h
      rw [fX8_way_L90] at h
      refine rl_iload hG dX8_way_90 7 rfl ?_
      refine rl_bipush hG (v := 12) dX8_way_92 (by decide) ?_
      refine rl_icmp_ge hG (tgt := 212) dX8_way_94 (by decide) (fun c10 => ?_) (fun c10 => ?_)
      · have h := it_t h c10
        exact rl_lvs hG [0, 1, 2, 3, 5, 6] rfl (H212 (k78) (hk78) u v2 v3 v4 v7 v8 h)
      · have h := it_f h c10
        refine rl_iload hG dX8_way_97 6 rfl ?_
        refine rl_iconst hG (v := -1) dX8_way_99 (by decide) ?_
        refine rl_icmp_ne hG (tgt := 212) dX8_way_100 (by decide) (fun c11 => ?_) (fun c11 => ?_)
        · have h := it_f h c11
          exact rl_lvs hG [0, 1, 2, 3, 5, 6] rfl (H212 (k78) (hk78) u v2 v3 v4 v7 v8 h)
        · have h := it_t h c11
          refine rl_iload hG dX8_way_103 7 rfl ?_
          refine rl_iconst hG (v := 2) dX8_way_105 (by decide) ?_
          refine rl_idiv hG dX8_way_106 (by decide) ?_
          obtain ⟨x12, ex12, h⟩ := bd_ok h
          refine rl_istore hG [(10, .int x12), (0, .ref (a 0)), (2, .int v2), (3, .int v3), (4, .int v4), (5, .int v5), (7, .int v7), (8, .int v8), (9, .int v9)] dX8_way_107 (Nat.le_of_ble_eq_true rfl) ex12 rfl ?_
          refine rl_iload hG dX8_way_109 8 rfl ?_
          refine rl_iconst hG (v := 2) dX8_way_111 (by decide) ?_
          refine rl_irem hG dX8_way_112 (by decide) ?_
          obtain ⟨x13, ex13, h⟩ := bd_ok h
          refine rl_istore hG [(11, .int x13), (10, .int x12), (0, .ref (a 0)), (2, .int v2), (3, .int v3), (4, .int v4), (5, .int v5), (7, .int v7), (8, .int v8), (9, .int v9)] dX8_way_113 (Nat.le_of_ble_eq_true rfl) ex13 rfl ?_
          refine rl_aload_n hG dX8_way_115 rfl 2 rfl ?_
          refine rl_iload hG dX8_way_116 7 rfl ?_
          refine rl_iload hG dX8_way_118 0 rfl ?_
          refine rl_iload hG dX8_way_120 1 rfl ?_
          refine rl_iload_n hG dX8_way_122 rfl 3 rfl ?_
          obtain ⟨x14, hx14q, zx14, h⟩ := oz_ok h
          refine rl_callVi hG ro_0_ok (As := [.int v7, .int x13, .int x12, .int v2]) (kX8_goes l D a cI aS u v7 x13 x12 v2 x14  hx14q) gX8_way_X8_goes rfl 0 (gM_0 a cI u) hcX8 4 rfl (by decide +kernel) rfl rfl (by decide) (Nat.le_of_ble_eq_true rfl) rfl dX8_way_123 ?_
          refine rl_if_eq hG (tgt := 190) dX8_way_126 (by decide) (fun c15 => ?_) (fun c15 => ?_)
          · have h := it_t h c15
            exact rl_lvs hG [2, 3, 4, 5, 6, 7, 9] rfl (H190 (k78) (hk78) (fX8_way_L90 k78 n) (ih) u v2 v3 v4 v5 v7 v9 h)
          · have h := it_f h c15
            refine rl_aload_n hG dX8_way_129 rfl 2 rfl ?_
            refine rl_iload hG dX8_way_130 7 rfl ?_
            refine rl_iload hG dX8_way_132 0 rfl ?_
            refine rl_iload hG dX8_way_134 1 rfl ?_
            refine rl_iload hG dX8_way_136 6 rfl ?_
            refine rl_bipush hG (v := 6) dX8_way_138 (by decide) ?_
            refine rl_icmp_ne hG (tgt := 147) dX8_way_140 (by decide) (fun c16 => ?_) (fun c16 => ?_)
            · have h := it_f h c16
              refine rl_iload hG dX8_way_147 6 rfl ?_
              exact rl_lvs hG [2, 3, 4, 5, 6, 7, 9, 1] rfl (H149 (k78) (hk78) (fX8_way_L90 k78 n) (ih) u v2 v3 v4 v5 v7 v9 x12 v5 x12 x13 v7 h)
            · have h := it_t h c16
              refine rl_iconst hG (v := -1) dX8_way_143 (by decide) ?_
              refine rl_goto hG (tgt := 149) dX8_way_144 (by decide) ?_
              exact rl_lvs hG [2, 3, 4, 5, 6, 7, 9, 1] rfl (H149 (k78) (hk78) (fX8_way_L90 k78 n) (ih) u v2 v3 v4 v5 v7 v9 x12 (-1 : Int32) x12 x13 v7 h)
  have H230 : ∀ (u : St) (v4 : Int32) (v5 : Int32) (v6 : Int32), fX8_way_L230 u v4 v5 v6 = some (r, τ) → G u 230 [(4, .int v4), (5, .int v5), (6, .int v6)] [] := by
    intro  u v4 v5 v6 h
    rw [fX8_way_L230] at h
    refine rl_iload hG dX8_way_230 0 rfl ?_
    refine rl_if_ne hG (tgt := 240) dX8_way_232 (by decide) (fun c17 => ?_) (fun c17 => ?_)
    · have h := it_f h c17
      refine rl_iload hG dX8_way_240 2 rfl ?_
      exact rl_ret2 hret h rfl dX8_way_242
    · have h := it_t h c17
      refine rl_iload hG dX8_way_235 1 rfl ?_
      refine rl_goto hG (tgt := 242) dX8_way_237 (by decide) ?_
      exact rl_ret2 hret h rfl dX8_way_242
  have H78 : ∀ (n : Nat) (u : St) (v2 : Int32) (v3 : Int32) (v4 : Int32) (v5 : Int32) (v6 : Int32) (v7 : Int32), fX8_way_L78 n u v2 v3 v4 v5 v6 v7 = some (r, τ) → G u 78 [(0, .ref (a 0)), (2, .int v2), (3, .int v3), (4, .int v4), (5, .int v5), (6, .int v6), (7, .int v7)] [] := by
    intro n
    induction n with
    | zero =>
      intro u v2 v3 v4 v5 v6 v7 h
      exact absurd h (by rw [fX8_way_L78]; exact fun q => by cases q)
    | succ n ih =>
      intro u v2 v3 v4 v5 v6 v7 h
      rw [fX8_way_L78] at h
      refine rl_iload hG dX8_way_78 6 rfl ?_
      refine rl_iload_n hG dX8_way_80 rfl 2 rfl ?_
      refine rl_icmp_gt hG (tgt := 230) dX8_way_81 (by decide) (fun c18 => ?_) (fun c18 => ?_)
      · have h := it_t h c18
        exact rl_lvs hG [3, 4, 5] rfl (H230 u v4 v5 v6 h)
      · have h := it_f h c18
        refine rl_iconst hG (v := -1) dX8_way_84 (by decide) ?_
        refine rl_istore hG [(8, .int (-1 : Int32)), (0, .ref (a 0)), (2, .int v2), (3, .int v3), (4, .int v4), (5, .int v5), (6, .int v6), (7, .int v7)] dX8_way_85 (Nat.le_of_ble_eq_true rfl) rfl rfl ?_
        refine rl_iconst hG (v := 0) dX8_way_87 (by decide) ?_
        refine rl_istore hG [(9, .int (0 : Int32)), (8, .int (-1 : Int32)), (0, .ref (a 0)), (2, .int v2), (3, .int v3), (4, .int v4), (5, .int v5), (6, .int v6), (7, .int v7)] dX8_way_88 (Nat.le_of_ble_eq_true rfl) rfl rfl ?_
        exact rl_lvs hG [2, 3, 4, 5, 6, 8, 1, 0] rfl (H90 (fX8_way_L78 n) (ih) 2000 u v2 v3 v4 v5 v7 (-1 : Int32) (0 : Int32) h)
  have h := h0
  rw [fX8_way] at h
  show G u 0 [(0, .ref (a 0)), (1, .int p1), (2, .int p2), (3, .int p3), (4, .int p4)] []
  refine rl_iload_n hG dX8_way_0 rfl 1 rfl ?_
  obtain ⟨x19, hx19q, zx19, h⟩ := oz_ok h
  refine rl_callZi hG (As := [.int p1]) (kX8_isThing l D u p1 x19 hx19q) gX8_way_X8_isThing rfl 1 rfl (by decide +kernel) rfl rfl (by decide) (Nat.le_of_ble_eq_true rfl) rfl dX8_way_1 ?_
  refine rl_if_ne hG (tgt := 10) dX8_way_4 (by decide) (fun c20 => ?_) (fun c20 => ?_)
  · have h := it_f h c20
    refine rl_iload_n hG dX8_way_10 rfl 2 rfl ?_
    obtain ⟨x21, hx21q, zx21, h⟩ := oz_ok h
    refine rl_callZi hG (As := [.int p2]) (kX8_isGuilds l D u p2 x21 hx21q) gX8_way_X8_isGuilds rfl 1 rfl (by decide +kernel) rfl rfl (by decide) (Nat.le_of_ble_eq_true rfl) rfl dX8_way_11 ?_
    refine rl_if_eq hG (tgt := 32) dX8_way_14 (by decide) (fun c22 => ?_) (fun c22 => ?_)
    · have h := it_t h c22
      refine rl_bipush hG (v := -3) dX8_way_32 (by decide) ?_
      exact rl_ret2 hret h rfl dX8_way_34
    · have h := it_f h c22
      refine rl_iload_n hG dX8_way_17 rfl 3 rfl ?_
      refine rl_if_lt hG (tgt := 32) dX8_way_18 (by decide) (fun c23 => ?_) (fun c23 => ?_)
      · have h := it_t h c23
        refine rl_bipush hG (v := -3) dX8_way_32 (by decide) ?_
        exact rl_ret2 hret h rfl dX8_way_34
      · have h := it_f h c23
        refine rl_iload hG dX8_way_21 4 rfl ?_
        refine rl_i2l hG dX8_way_23 ?_
        refine rl_lconst hG (v := 0) dX8_way_24 (by decide) ?_
        refine rl_lconst hG (v := 1) dX8_way_25 (by decide) ?_
        obtain ⟨x24, hx24q, zx24, h⟩ := oz_ok h
        refine rl_callZi hG (As := [.long p4.toInt64, .long (0 : Int64), .long (1 : Int64)]) (kX8_in l D u p4.toInt64 (0 : Int64) (1 : Int64) x24 hx24q) gX8_way_X8_in rfl 3 rfl (by decide +kernel) rfl rfl (by decide) (Nat.le_of_ble_eq_true rfl) rfl dX8_way_26 ?_
        refine rl_if_ne hG (tgt := 35) dX8_way_29 (by decide) (fun c25 => ?_) (fun c25 => ?_)
        · have h := it_f h c25
          refine rl_aload_n hG dX8_way_35 rfl 0 rfl ?_
          refine rl_iload_n hG dX8_way_36 rfl 1 rfl ?_
          obtain ⟨u26, hu26q, h⟩ := o1_ok h
          refine rl_callVv hG ro_0_ok (As := [.int p1]) (kX8_lay l D a cI aS u p1 u26  hu26q) gX8_way_X8_lay rfl 0 (gM_0 a cI u) hcX8 1 rfl (by decide +kernel) rfl rfl (by decide) (Nat.le_of_ble_eq_true rfl) rfl dX8_way_37 ?_
          refine rl_aload_n hG dX8_way_40 rfl 0 rfl ?_
          refine rl_iload_n hG dX8_way_41 rfl 2 rfl ?_
          refine rl_iconst hG (v := 0) dX8_way_42 (by decide) ?_
          obtain ⟨u27, hu27q, h⟩ := o1_ok h
          refine rl_callVv hG ro_0_ok (As := [.int p2, .int (0 : Int32)]) (kX8_layRest l D a cI aS u26 p2 (0 : Int32) u27  hu27q) gX8_way_X8_layRest rfl 0 (gM_0 a cI u26) hcX8 2 rfl (by decide +kernel) rfl rfl (by decide) (Nat.le_of_ble_eq_true rfl) rfl dX8_way_43 ?_
          refine rl_aload_n hG dX8_way_46 rfl 0 rfl ?_
          refine rl_get hG iX8_way_X8 0 (gM_0 a cI u27) hcX8 26 (Nat.le_of_ble_eq_true rfl) nX8_way_0 rfl dX8_way_47 ?_
          refine rl_bipush hG (v := 6) dX8_way_50 (by decide) ?_
          obtain ⟨x28, ix28, ex28, h⟩ := ald_ok h
          refine rl_iald hG 15 0 (gM_15 a cI u27) rfl ix28 ex28 dX8_way_52 ?_
          refine rl_ldc hG (v := 268435456) dX8_way_53 nX8_way_1 ?_
          refine rl_icmp_ge hG (tgt := 66) dX8_way_55 (by decide) (fun c29 => ?_) (fun c29 => ?_)
          · have h := it_t h c29
            refine rl_iconst hG (v := -1) dX8_way_66 (by decide) ?_
            exact rl_ret2 hret h rfl dX8_way_67
          · have h := it_f h c29
            refine rl_iload_n hG dX8_way_58 rfl 3 rfl ?_
            refine rl_aload_n hG dX8_way_59 rfl 0 rfl ?_
            refine rl_get hG iX8_way_X8 0 (gM_0 a cI u27) hcX8 25 (Nat.le_of_ble_eq_true rfl) nX8_way_2 rfl dX8_way_60 ?_
            refine rl_icmp_lt hG (tgt := 68) dX8_way_63 (by decide) (fun c30 => ?_) (fun c30 => ?_)
            · have h := it_t h c30
              refine rl_bipush hG (v := 6) dX8_way_68 (by decide) ?_
              refine rl_istore hG [(5, .int (6 : Int32)), (0, .ref (a 0)), (1, .int p1), (2, .int p2), (3, .int p3), (4, .int p4)] dX8_way_70 (Nat.le_of_ble_eq_true rfl) rfl rfl ?_
              refine rl_iconst hG (v := 0) dX8_way_72 (by decide) ?_
              refine rl_istore hG [(6, .int (0 : Int32)), (5, .int (6 : Int32)), (0, .ref (a 0)), (1, .int p1), (2, .int p2), (3, .int p3), (4, .int p4)] dX8_way_73 (Nat.le_of_ble_eq_true rfl) rfl rfl ?_
              refine rl_iconst hG (v := 0) dX8_way_75 (by decide) ?_
              refine rl_istore hG [(7, .int (0 : Int32)), (6, .int (0 : Int32)), (5, .int (6 : Int32)), (0, .ref (a 0)), (1, .int p1), (2, .int p2), (3, .int p3), (4, .int p4)] dX8_way_76 (Nat.le_of_ble_eq_true rfl) rfl rfl ?_
              exact rl_lvs hG [3, 5, 6, 7, 2, 1, 0] rfl (H78 2000 u27 p2 p3 p4 (6 : Int32) (0 : Int32) (0 : Int32) h)
            · have h := it_f h c30
              refine rl_iconst hG (v := -1) dX8_way_66 (by decide) ?_
              exact rl_ret2 hret h rfl dX8_way_67
        · have h := it_t h c25
          refine rl_bipush hG (v := -3) dX8_way_32 (by decide) ?_
          exact rl_ret2 hret h rfl dX8_way_34
  · have h := it_t h c20
    refine rl_bipush hG (v := -2) dX8_way_7 (by decide) ?_
    exact rl_ret2 hret h rfl dX8_way_9
def fX8_alone_L50  (k14 : St → Int32 → Int32 → Int32 → Option (Int32 × St)) (u : St) (v1 : Int32) (v3 : Int32) (w0 : Int32) (w1 : Int32) : Option (Int32 × St) := bd (w1 ||| w0) (fun x1 => bd (v3 + (1 : Int32)) (fun x2 => k14 u v1 x1 x2))
def fX8_alone_L49  (k14 : St → Int32 → Int32 → Int32 → Option (Int32 × St)) (u : St) (v1 : Int32) (v3 : Int32) (w0 : Int32) : Option (Int32 × St) := fX8_alone_L50 k14 u v1 v3 (0 : Int32) w0
def fX8_alone_L14   : Nat → St → Int32 → Int32 → Int32 → Option (Int32 × St)
  | 0 => fun _ _ _ _ => none
  | n + 1 => fun u v1 v2 v3 => (if (6 : Int32) ≤ v3 then some (v2, u) else o1 (fX8_lay u v3) (fun u4 => (if (u4 0 25) ≤ (0 : Int32) then fX8_alone_L49 (fX8_alone_L14 n) u4 v1 v3 v2 else oz (fX8_makes u4 ((1 : Int32) <<< (v1 &&& 31))) (fun x6 => (if x6 = (0 : Int32) then fX8_alone_L49 (fX8_alone_L14 n) u4 v1 v3 v2 else fX8_alone_L50 (fX8_alone_L14 n) u4 v1 v3 ((1 : Int32) <<< (v3 &&& 31)) v2)))))
def fX8_alone (u : St)  (p1 : Int32) : Option (Int32 × St) := oz (fX8_isGuild p1) (fun x8 => (if x8 = (0 : Int32) then some ((-2 : Int32), u) else fX8_alone_L14 2000 u p1 (0 : Int32) (0 : Int32)))
theorem nX8_alone_0 : Cond.fieldLink RX8 175 "WhoseWorkModel" "steps" "I" ∈ wsX8_alone := by decide +kernel
theorem iX8_alone_X8 : ∀ w ∈ wsX80, w ∈ wsX8_alone := by decide +kernel
set_option maxRecDepth 100000 in
set_option maxHeartbeats 4000000 in
theorem kX8_alone (l : Launch) (D : va_G) (a : Nat → Nat) (cI : ClassId) (aS : Nat → Prop) (u : St)  (p1 : Int32) (r : Int32) (τ : St)  (h0 : fX8_alone u p1 = some (r, τ)) : rl_Mi l yX8_alone wsX8_alone ({ frames := 5, cells := 0, slots := 0, locals := 119 } : Room) D (tyM cI) (wM a cI) ro_0 aS [.ref (a 0), .int p1] u r τ := by
  refine rl_meth_i (cc := cX8_alone) (maxL := 4) (own := RX8) (ty := .int) (by decide) rfl rfl (Nat.le_of_ble_eq_true rfl) ?_
  intro G hG hret
  have H50 : ∀ (k14 : St → Int32 → Int32 → Int32 → Option (Int32 × St)) (hk14 : ∀ (u : St) (v1 : Int32) (v2 : Int32) (v3 : Int32), k14 u v1 v2 v3 = some (r, τ) → G u 14 [(0, .ref (a 0)), (1, .int v1), (2, .int v2), (3, .int v3)] []), ∀ (u : St) (v1 : Int32) (v3 : Int32) (w0 : Int32) (w1 : Int32), fX8_alone_L50 k14 u v1 v3 w0 w1 = some (r, τ) → G u 50 [(0, .ref (a 0)), (1, .int v1), (3, .int v3)] [.int w0, .int w1] := by
    intro k14 hk14 u v1 v3 w0 w1 h
    rw [fX8_alone_L50] at h
    refine rl_ior hG dX8_alone_50 ?_
    obtain ⟨x1, ex1, h⟩ := bd_ok h
    refine rl_istore_n hG [(2, .int x1), (0, .ref (a 0)), (1, .int v1), (3, .int v3)] dX8_alone_51 rfl (Nat.le_of_ble_eq_true rfl) ex1 rfl ?_
    obtain ⟨x2, ex2, h⟩ := bd_ok h
    refine rl_iinc hG [(3, .int x2), (2, .int x1), (0, .ref (a 0)), (1, .int v1)] dX8_alone_52 3 rfl (by rw [ex2]; rfl) (Nat.le_of_ble_eq_true rfl) rfl ?_
    refine rl_goto hG (tgt := 14) dX8_alone_55 (by decide) ?_
    exact rl_lvs hG [2, 3, 1, 0] rfl (hk14 u v1 x1 x2 h)
  have H49 : ∀ (k14 : St → Int32 → Int32 → Int32 → Option (Int32 × St)) (hk14 : ∀ (u : St) (v1 : Int32) (v2 : Int32) (v3 : Int32), k14 u v1 v2 v3 = some (r, τ) → G u 14 [(0, .ref (a 0)), (1, .int v1), (2, .int v2), (3, .int v3)] []), ∀ (u : St) (v1 : Int32) (v3 : Int32) (w0 : Int32), fX8_alone_L49 k14 u v1 v3 w0 = some (r, τ) → G u 49 [(0, .ref (a 0)), (1, .int v1), (3, .int v3)] [.int w0] := by
    intro k14 hk14 u v1 v3 w0 h
    rw [fX8_alone_L49] at h
    refine rl_iconst hG (v := 0) dX8_alone_49 (by decide) ?_
    exact rl_lvs hG [0, 1, 2] rfl (H50 (k14) (hk14) u v1 v3 (0 : Int32) w0 h)
  have H14 : ∀ (n : Nat) (u : St) (v1 : Int32) (v2 : Int32) (v3 : Int32), fX8_alone_L14 n u v1 v2 v3 = some (r, τ) → G u 14 [(0, .ref (a 0)), (1, .int v1), (2, .int v2), (3, .int v3)] [] := by
    intro n
    induction n with
    | zero =>
      intro u v1 v2 v3 h
      exact absurd h (by rw [fX8_alone_L14]; exact fun q => by cases q)
    | succ n ih =>
      intro u v1 v2 v3 h
      rw [fX8_alone_L14] at h
      refine rl_iload_n hG dX8_alone_14 rfl 3 rfl ?_
      refine rl_bipush hG (v := 6) dX8_alone_15 (by decide) ?_
      refine rl_icmp_ge hG (tgt := 58) dX8_alone_17 (by decide) (fun c3 => ?_) (fun c3 => ?_)
      · have h := it_t h c3
        refine rl_iload_n hG dX8_alone_58 rfl 2 rfl ?_
        exact rl_ret2 hret h rfl dX8_alone_59
      · have h := it_f h c3
        refine rl_aload_n hG dX8_alone_20 rfl 0 rfl ?_
        refine rl_iload_n hG dX8_alone_21 rfl 3 rfl ?_
        obtain ⟨u4, hu4q, h⟩ := o1_ok h
        refine rl_callVv hG ro_0_ok (As := [.int v3]) (kX8_lay l D a cI aS u v3 u4  hu4q) gX8_alone_X8_lay rfl 0 (gM_0 a cI u) hcX8 1 rfl (by decide +kernel) rfl rfl (by decide) (Nat.le_of_ble_eq_true rfl) rfl dX8_alone_22 ?_
        refine rl_iload_n hG dX8_alone_25 rfl 2 rfl ?_
        refine rl_aload_n hG dX8_alone_26 rfl 0 rfl ?_
        refine rl_get hG iX8_alone_X8 0 (gM_0 a cI u4) hcX8 25 (Nat.le_of_ble_eq_true rfl) nX8_alone_0 rfl dX8_alone_27 ?_
        refine rl_if_le hG (tgt := 49) dX8_alone_30 (by decide) (fun c5 => ?_) (fun c5 => ?_)
        · have h := it_t h c5
          exact rl_lvs hG [0, 1, 3] rfl (H49 (fX8_alone_L14 n) (ih) u4 v1 v3 v2 h)
        · have h := it_f h c5
          refine rl_aload_n hG dX8_alone_33 rfl 0 rfl ?_
          refine rl_iconst hG (v := 1) dX8_alone_34 (by decide) ?_
          refine rl_iload_n hG dX8_alone_35 rfl 1 rfl ?_
          refine rl_ishl hG dX8_alone_36 ?_
          obtain ⟨x6, hx6q, zx6, h⟩ := oz_ok h
          refine rl_callVi hG ro_0_ok (As := [.int ((1 : Int32) <<< (v1 &&& 31))]) (kX8_makes l D a cI aS u4 ((1 : Int32) <<< (v1 &&& 31)) x6  hx6q) gX8_alone_X8_makes rfl 0 (gM_0 a cI u4) hcX8 1 rfl (by decide +kernel) rfl rfl (by decide) (Nat.le_of_ble_eq_true rfl) rfl dX8_alone_37 ?_
          refine rl_if_eq hG (tgt := 49) dX8_alone_40 (by decide) (fun c7 => ?_) (fun c7 => ?_)
          · have h := it_t h c7
            exact rl_lvs hG [0, 1, 3] rfl (H49 (fX8_alone_L14 n) (ih) u4 v1 v3 v2 h)
          · have h := it_f h c7
            refine rl_iconst hG (v := 1) dX8_alone_43 (by decide) ?_
            refine rl_iload_n hG dX8_alone_44 rfl 3 rfl ?_
            refine rl_ishl hG dX8_alone_45 ?_
            refine rl_goto hG (tgt := 50) dX8_alone_46 (by decide) ?_
            exact rl_lvs hG [0, 1, 3] rfl (H50 (fX8_alone_L14 n) (ih) u4 v1 v3 ((1 : Int32) <<< (v3 &&& 31)) v2 h)
  have h := h0
  rw [fX8_alone] at h
  show G u 0 [(0, .ref (a 0)), (1, .int p1)] []
  refine rl_iload_n hG dX8_alone_0 rfl 1 rfl ?_
  obtain ⟨x8, hx8q, zx8, h⟩ := oz_ok h
  refine rl_callZi hG (As := [.int p1]) (kX8_isGuild l D u p1 x8 hx8q) gX8_alone_X8_isGuild rfl 1 rfl (by decide +kernel) rfl rfl (by decide) (Nat.le_of_ble_eq_true rfl) rfl dX8_alone_1 ?_
  refine rl_if_ne hG (tgt := 10) dX8_alone_4 (by decide) (fun c9 => ?_) (fun c9 => ?_)
  · have h := it_f h c9
    refine rl_iconst hG (v := 0) dX8_alone_10 (by decide) ?_
    refine rl_istore_n hG [(2, .int (0 : Int32)), (0, .ref (a 0)), (1, .int p1)] dX8_alone_11 rfl (Nat.le_of_ble_eq_true rfl) rfl rfl ?_
    refine rl_iconst hG (v := 0) dX8_alone_12 (by decide) ?_
    refine rl_istore_n hG [(3, .int (0 : Int32)), (2, .int (0 : Int32)), (0, .ref (a 0)), (1, .int p1)] dX8_alone_13 rfl (Nat.le_of_ble_eq_true rfl) rfl rfl ?_
    exact rl_lvs hG [2, 3, 1, 0] rfl (H14 2000 u p1 (0 : Int32) (0 : Int32) h)
  · have h := it_t h c9
    refine rl_bipush hG (v := -2) dX8_alone_7 (by decide) ?_
    exact rl_ret2 hret h rfl dX8_alone_9
def fX8_sly_L196  (k52 : St → Int32 → Int32 → Int32 → Int32 → Int32 → Option (Int32 × St)) (k75 : St → Int32 → Int32 → Int32 → Int32 → Int32 → Int32 → Int32 → Option (Int32 × St)) (u : St) (v2 : Int32) (v3 : Int32) (v4 : Int32) (v5 : Int32) (v6 : Int32) (v7 : Int32) (v8 : Int32) : Option (Int32 × St) := bd (v8 + (1 : Int32)) (fun x1 => k75 u v2 v3 v4 v5 v6 v7 x1)
def fX8_sly_L194  (k52 : St → Int32 → Int32 → Int32 → Int32 → Int32 → Option (Int32 × St)) (k75 : St → Int32 → Int32 → Int32 → Int32 → Int32 → Int32 → Int32 → Option (Int32 × St)) (u : St) (v2 : Int32) (v3 : Int32) (v5 : Int32) (v6 : Int32) (v7 : Int32) (v8 : Int32) (w0 : Int32) : Option (Int32 × St) := fX8_sly_L196 k52 k75 u v2 v3 w0 v5 v6 v7 v8
def fX8_sly_L178  (k52 : St → Int32 → Int32 → Int32 → Int32 → Int32 → Option (Int32 × St)) (k75 : St → Int32 → Int32 → Int32 → Int32 → Int32 → Int32 → Int32 → Option (Int32 × St)) (u : St) (v2 : Int32) (v3 : Int32) (v4 : Int32) (v6 : Int32) (v7 : Int32) (v8 : Int32) (v10 : Int32) (w0 : Int32) : Option (Int32 × St) := (if v4 ≤ v10 then fX8_sly_L194 k52 k75 u v2 v3 w0 v6 v7 v8 v4 else fX8_sly_L194 k52 k75 u v2 v3 w0 v6 v7 v8 v10)
def fX8_sly_L117  (k52 : St → Int32 → Int32 → Int32 → Int32 → Int32 → Option (Int32 × St)) (k75 : St → Int32 → Int32 → Int32 → Int32 → Int32 → Int32 → Int32 → Option (Int32 × St)) (u : St) (v2 : Int32) (v3 : Int32) (v4 : Int32) (v5 : Int32) (v6 : Int32) (v7 : Int32) (v8 : Int32) (w0 : Int32) : Option (Int32 × St) := (if w0 ≤ (0 : Int32) then fX8_sly_L196 k52 k75 u v2 v3 v4 v5 v6 v7 v8 else (if v2 < w0 then fX8_sly_L196 k52 k75 u v2 v3 v4 v5 v6 v7 v8 else asr u 13 16 v6 (((v7 / (10 : Int32)) * (10 : Int32)) + v8) (fun u5 => o1 (fX8_layCodes u5) (fun u6 => o1 (fX8_needed u6) (fun x7 => (if v4 ≤ x7 then fX8_sly_L178 k52 k75 u6 v2 v3 v4 v6 v7 v8 x7 v5 else fX8_sly_L178 k52 k75 u6 v2 v3 v4 v6 v7 v8 x7 (((10 : Int32) * v6) + v8)))))))
def fX8_sly_L202  (k52 : St → Int32 → Int32 → Int32 → Int32 → Int32 → Option (Int32 × St)) (u : St) (v2 : Int32) (v3 : Int32) (v4 : Int32) (v5 : Int32) (v6 : Int32) (v7 : Int32) : Option (Int32 × St) := asr u 13 16 v6 v7 (fun u9 => bd (v6 + (1 : Int32)) (fun x10 => k52 u9 v2 v3 v4 v5 x10))
def fX8_sly_L75  (k52 : St → Int32 → Int32 → Int32 → Int32 → Int32 → Option (Int32 × St)) : Nat → St → Int32 → Int32 → Int32 → Int32 → Int32 → Int32 → Int32 → Option (Int32 × St)
  | 0 => fun _ _ _ _ _ _ _ _ => none
  | n + 1 => fun u v2 v3 v4 v5 v6 v7 v8 => (if (10 : Int32) ≤ v8 then fX8_sly_L202 k52 u v2 v3 v4 v5 v6 v7 else (if v7 = (-1 : Int32) then fX8_sly_L202 k52 u v2 v3 v4 v5 v6 v7 else (if (v7 - v7 / (10 : Int32) * (10 : Int32)) ≤ v8 then fX8_sly_L117 k52 (fX8_sly_L75 k52 n) u v2 v3 v4 v5 v6 v7 v8 (v8 - (v7 - v7 / (10 : Int32) * (10 : Int32))) else fX8_sly_L117 k52 (fX8_sly_L75 k52 n) u v2 v3 v4 v5 v6 v7 v8 ((v7 - v7 / (10 : Int32) * (10 : Int32)) - v8))))
def fX8_sly_L217   (u : St) (v3 : Int32) (v4 : Int32) (v5 : Int32) : Option (Int32 × St) := (if v5 = (-1 : Int32) then some (v5, u) else (if v3 = (0 : Int32) then some (v5, u) else some (v4, u)))
def fX8_sly_L52   : Nat → St → Int32 → Int32 → Int32 → Int32 → Int32 → Option (Int32 × St)
  | 0 => fun _ _ _ _ _ _ => none
  | n + 1 => fun u v2 v3 v4 v5 v6 => (if ((2 : Int32) * (u 0 25)) ≤ v6 then fX8_sly_L217 u v3 v4 v5 else ald u 13 16 v6 (fun x17 => fX8_sly_L75 (fX8_sly_L52 n) 2000 u v2 v3 v4 v5 v6 x17 (0 : Int32)))
def fX8_sly (u : St)  (p1 : Int32) (p2 : Int32) (p3 : Int32) : Option (Int32 × St) := oz (fX8_isThing p1) (fun x18 => (if x18 = (0 : Int32) then some ((-2 : Int32), u) else oz (fX8_in p2.toInt64 (1 : Int64) (9 : Int64)) (fun x20 => (if x20 = (0 : Int32) then some ((-3 : Int32), u) else oz (fX8_in p3.toInt64 (0 : Int64) (1 : Int64)) (fun x22 => (if x22 = (0 : Int32) then some ((-3 : Int32), u) else o1 (fX8_lay u p1) (fun u24 => o1 (fX8_needed u24) (fun x25 => fX8_sly_L52 2000 u24 p2 p3 x25 (-1 : Int32) (0 : Int32)))))))))
theorem nX8_sly_0 : Cond.fieldLink RX8 46 "WhoseWorkModel" "works" "[I" ∈ wsX8_sly := by decide +kernel
theorem nX8_sly_1 : Cond.fieldLink RX8 175 "WhoseWorkModel" "steps" "I" ∈ wsX8_sly := by decide +kernel
theorem nX8_sly_2 : Cond.constantLong RX8 170 (9) ∈ wsX8_sly := by decide +kernel
theorem iX8_sly_X8 : ∀ w ∈ wsX80, w ∈ wsX8_sly := by decide +kernel
set_option maxRecDepth 100000 in
set_option maxHeartbeats 4000000 in
theorem kX8_sly (l : Launch) (D : va_G) (a : Nat → Nat) (cI : ClassId) (aS : Nat → Prop) (u : St)  (p1 : Int32) (p2 : Int32) (p3 : Int32) (r : Int32) (τ : St)  (h0 : fX8_sly u p1 p2 p3 = some (r, τ)) : rl_Mi l yX8_sly wsX8_sly ({ frames := 5, cells := 0, slots := 0, locals := 119 } : Room) D (tyM cI) (wM a cI) ro_0 aS [.ref (a 0), .int p1, .int p2, .int p3] u r τ := by
  refine rl_meth_i (cc := cX8_sly) (maxL := 11) (own := RX8) (ty := .int) (by decide) rfl rfl (Nat.le_of_ble_eq_true rfl) ?_
  intro G hG hret
  have H196 : ∀ (k52 : St → Int32 → Int32 → Int32 → Int32 → Int32 → Option (Int32 × St)) (hk52 : ∀ (u : St) (v2 : Int32) (v3 : Int32) (v4 : Int32) (v5 : Int32) (v6 : Int32), k52 u v2 v3 v4 v5 v6 = some (r, τ) → G u 52 [(0, .ref (a 0)), (2, .int v2), (3, .int v3), (4, .int v4), (5, .int v5), (6, .int v6)] []) (k75 : St → Int32 → Int32 → Int32 → Int32 → Int32 → Int32 → Int32 → Option (Int32 × St)) (hk75 : ∀ (u : St) (v2 : Int32) (v3 : Int32) (v4 : Int32) (v5 : Int32) (v6 : Int32) (v7 : Int32) (v8 : Int32), k75 u v2 v3 v4 v5 v6 v7 v8 = some (r, τ) → G u 75 [(0, .ref (a 0)), (2, .int v2), (3, .int v3), (4, .int v4), (5, .int v5), (6, .int v6), (7, .int v7), (8, .int v8)] []), ∀ (u : St) (v2 : Int32) (v3 : Int32) (v4 : Int32) (v5 : Int32) (v6 : Int32) (v7 : Int32) (v8 : Int32), fX8_sly_L196 k52 k75 u v2 v3 v4 v5 v6 v7 v8 = some (r, τ) → G u 196 [(0, .ref (a 0)), (2, .int v2), (3, .int v3), (4, .int v4), (5, .int v5), (6, .int v6), (7, .int v7), (8, .int v8)] [] := by
    intro k52 hk52 k75 hk75 u v2 v3 v4 v5 v6 v7 v8 h
    rw [fX8_sly_L196] at h
    obtain ⟨x1, ex1, h⟩ := bd_ok h
    refine rl_iinc hG [(8, .int x1), (0, .ref (a 0)), (2, .int v2), (3, .int v3), (4, .int v4), (5, .int v5), (6, .int v6), (7, .int v7)] dX8_sly_196 7 rfl (by rw [ex1]; rfl) (Nat.le_of_ble_eq_true rfl) rfl ?_
    refine rl_goto hG (tgt := 75) dX8_sly_199 (by decide) ?_
    exact rl_lvs hG [1, 2, 3, 4, 5, 6, 7, 0] rfl (hk75 u v2 v3 v4 v5 v6 v7 x1 h)
  have H194 : ∀ (k52 : St → Int32 → Int32 → Int32 → Int32 → Int32 → Option (Int32 × St)) (hk52 : ∀ (u : St) (v2 : Int32) (v3 : Int32) (v4 : Int32) (v5 : Int32) (v6 : Int32), k52 u v2 v3 v4 v5 v6 = some (r, τ) → G u 52 [(0, .ref (a 0)), (2, .int v2), (3, .int v3), (4, .int v4), (5, .int v5), (6, .int v6)] []) (k75 : St → Int32 → Int32 → Int32 → Int32 → Int32 → Int32 → Int32 → Option (Int32 × St)) (hk75 : ∀ (u : St) (v2 : Int32) (v3 : Int32) (v4 : Int32) (v5 : Int32) (v6 : Int32) (v7 : Int32) (v8 : Int32), k75 u v2 v3 v4 v5 v6 v7 v8 = some (r, τ) → G u 75 [(0, .ref (a 0)), (2, .int v2), (3, .int v3), (4, .int v4), (5, .int v5), (6, .int v6), (7, .int v7), (8, .int v8)] []), ∀ (u : St) (v2 : Int32) (v3 : Int32) (v5 : Int32) (v6 : Int32) (v7 : Int32) (v8 : Int32) (w0 : Int32), fX8_sly_L194 k52 k75 u v2 v3 v5 v6 v7 v8 w0 = some (r, τ) → G u 194 [(0, .ref (a 0)), (2, .int v2), (3, .int v3), (5, .int v5), (6, .int v6), (7, .int v7), (8, .int v8)] [.int w0] := by
    intro k52 hk52 k75 hk75 u v2 v3 v5 v6 v7 v8 w0 h
    rw [fX8_sly_L194] at h
    refine rl_istore hG [(4, .int w0), (0, .ref (a 0)), (2, .int v2), (3, .int v3), (5, .int v5), (6, .int v6), (7, .int v7), (8, .int v8)] dX8_sly_194 (Nat.le_of_ble_eq_true rfl) rfl rfl ?_
    exact rl_lvs hG [1, 2, 3, 0, 4, 5, 6, 7] rfl (H196 (k52) (hk52) (k75) (hk75) u v2 v3 w0 v5 v6 v7 v8 h)
  have H178 : ∀ (k52 : St → Int32 → Int32 → Int32 → Int32 → Int32 → Option (Int32 × St)) (hk52 : ∀ (u : St) (v2 : Int32) (v3 : Int32) (v4 : Int32) (v5 : Int32) (v6 : Int32), k52 u v2 v3 v4 v5 v6 = some (r, τ) → G u 52 [(0, .ref (a 0)), (2, .int v2), (3, .int v3), (4, .int v4), (5, .int v5), (6, .int v6)] []) (k75 : St → Int32 → Int32 → Int32 → Int32 → Int32 → Int32 → Int32 → Option (Int32 × St)) (hk75 : ∀ (u : St) (v2 : Int32) (v3 : Int32) (v4 : Int32) (v5 : Int32) (v6 : Int32) (v7 : Int32) (v8 : Int32), k75 u v2 v3 v4 v5 v6 v7 v8 = some (r, τ) → G u 75 [(0, .ref (a 0)), (2, .int v2), (3, .int v3), (4, .int v4), (5, .int v5), (6, .int v6), (7, .int v7), (8, .int v8)] []), ∀ (u : St) (v2 : Int32) (v3 : Int32) (v4 : Int32) (v6 : Int32) (v7 : Int32) (v8 : Int32) (v10 : Int32) (w0 : Int32), fX8_sly_L178 k52 k75 u v2 v3 v4 v6 v7 v8 v10 w0 = some (r, τ) → G u 178 [(0, .ref (a 0)), (2, .int v2), (3, .int v3), (4, .int v4), (6, .int v6), (7, .int v7), (8, .int v8), (10, .int v10)] [.int w0] := by
    intro k52 hk52 k75 hk75 u v2 v3 v4 v6 v7 v8 v10 w0 h
    rw [fX8_sly_L178] at h
    refine rl_istore hG [(5, .int w0), (0, .ref (a 0)), (2, .int v2), (3, .int v3), (4, .int v4), (6, .int v6), (7, .int v7), (8, .int v8), (10, .int v10)] dX8_sly_178 (Nat.le_of_ble_eq_true rfl) rfl rfl ?_
    refine rl_iload hG dX8_sly_180 8 rfl ?_
    refine rl_iload hG dX8_sly_182 4 rfl ?_
    refine rl_icmp_ge hG (tgt := 192) dX8_sly_184 (by decide) (fun c2 => ?_) (fun c2 => ?_)
    · have h := it_t h c2
      refine rl_iload hG dX8_sly_192 4 rfl ?_
      exact rl_lvs hG [1, 2, 3, 0, 5, 6, 7] rfl (H194 (k52) (hk52) (k75) (hk75) u v2 v3 w0 v6 v7 v8 v4 h)
    · have h := it_f h c2
      refine rl_iload hG dX8_sly_187 8 rfl ?_
      refine rl_goto hG (tgt := 194) dX8_sly_189 (by decide) ?_
      exact rl_lvs hG [1, 2, 3, 0, 5, 6, 7] rfl (H194 (k52) (hk52) (k75) (hk75) u v2 v3 w0 v6 v7 v8 v10 h)
  have H117 : ∀ (k52 : St → Int32 → Int32 → Int32 → Int32 → Int32 → Option (Int32 × St)) (hk52 : ∀ (u : St) (v2 : Int32) (v3 : Int32) (v4 : Int32) (v5 : Int32) (v6 : Int32), k52 u v2 v3 v4 v5 v6 = some (r, τ) → G u 52 [(0, .ref (a 0)), (2, .int v2), (3, .int v3), (4, .int v4), (5, .int v5), (6, .int v6)] []) (k75 : St → Int32 → Int32 → Int32 → Int32 → Int32 → Int32 → Int32 → Option (Int32 × St)) (hk75 : ∀ (u : St) (v2 : Int32) (v3 : Int32) (v4 : Int32) (v5 : Int32) (v6 : Int32) (v7 : Int32) (v8 : Int32), k75 u v2 v3 v4 v5 v6 v7 v8 = some (r, τ) → G u 75 [(0, .ref (a 0)), (2, .int v2), (3, .int v3), (4, .int v4), (5, .int v5), (6, .int v6), (7, .int v7), (8, .int v8)] []), ∀ (u : St) (v2 : Int32) (v3 : Int32) (v4 : Int32) (v5 : Int32) (v6 : Int32) (v7 : Int32) (v8 : Int32) (w0 : Int32), fX8_sly_L117 k52 k75 u v2 v3 v4 v5 v6 v7 v8 w0 = some (r, τ) → G u 117 [(0, .ref (a 0)), (2, .int v2), (3, .int v3), (4, .int v4), (5, .int v5), (6, .int v6), (7, .int v7), (8, .int v8)] [.int w0] := by
    intro k52 hk52 k75 hk75 u v2 v3 v4 v5 v6 v7 v8 w0 h
    rw [fX8_sly_L117] at h
    refine rl_istore hG [(9, .int w0), (0, .ref (a 0)), (2, .int v2), (3, .int v3), (4, .int v4), (5, .int v5), (6, .int v6), (7, .int v7), (8, .int v8)] dX8_sly_117 (Nat.le_of_ble_eq_true rfl) rfl rfl ?_
    refine rl_iload hG dX8_sly_119 0 rfl ?_
    refine rl_if_le hG (tgt := 196) dX8_sly_121 (by decide) (fun c3 => ?_) (fun c3 => ?_)
    · have h := it_t h c3
      exact rl_lvs hG [1, 2, 3, 4, 5, 6, 7, 8] rfl (H196 (k52) (hk52) (k75) (hk75) u v2 v3 v4 v5 v6 v7 v8 h)
    · have h := it_f h c3
      refine rl_iload hG dX8_sly_124 0 rfl ?_
      refine rl_iload_n hG dX8_sly_126 rfl 2 rfl ?_
      refine rl_icmp_gt hG (tgt := 196) dX8_sly_127 (by decide) (fun c4 => ?_) (fun c4 => ?_)
      · have h := it_t h c4
        exact rl_lvs hG [1, 2, 3, 4, 5, 6, 7, 8] rfl (H196 (k52) (hk52) (k75) (hk75) u v2 v3 v4 v5 v6 v7 v8 h)
      · have h := it_f h c4
        refine rl_aload_n hG dX8_sly_130 rfl 1 rfl ?_
        refine rl_get hG iX8_sly_X8 0 (gM_0 a cI u) hcX8 23 (Nat.le_of_ble_eq_true rfl) nX8_sly_0 rfl dX8_sly_131 ?_
        refine rl_iload hG dX8_sly_134 6 rfl ?_
        refine rl_iload hG dX8_sly_136 7 rfl ?_
        refine rl_bipush hG (v := 10) dX8_sly_138 (by decide) ?_
        refine rl_idiv hG dX8_sly_140 (by decide) ?_
        refine rl_bipush hG (v := 10) dX8_sly_141 (by decide) ?_
        refine rl_imul hG dX8_sly_143 ?_
        refine rl_iload hG dX8_sly_144 8 rfl ?_
        refine rl_iadd hG dX8_sly_146 ?_
        obtain ⟨u5, iu5, eu5, h⟩ := asr_ok h
        refine rl_iast hG 13 0 (gM_13 a cI u) rfl iu5 (σ' := u5) ((sM_13 a cI u _).trans (congrArg _ eu5.symm)) dX8_sly_147 ?_
        refine rl_aload_n hG dX8_sly_148 rfl 1 rfl ?_
        obtain ⟨u6, hu6q, h⟩ := o1_ok h
        refine rl_callVv hG ro_0_ok (As := []) (kX8_layCodes l D a cI aS u5  u6  hu6q) gX8_sly_X8_layCodes rfl 0 (gM_0 a cI u5) hcX8 0 rfl (by decide +kernel) rfl rfl (by decide) (Nat.le_of_ble_eq_true rfl) rfl dX8_sly_149 ?_
        refine rl_aload_n hG dX8_sly_152 rfl 1 rfl ?_
        obtain ⟨x7, hx7q, h⟩ := o1_ok h
        refine rl_callVi hG ro_0_ok (As := []) (kX8_needed l D a cI aS u6  x7  hx7q) gX8_sly_X8_needed rfl 0 (gM_0 a cI u6) hcX8 0 rfl (by decide +kernel) rfl rfl (by decide) (Nat.le_of_ble_eq_true rfl) rfl dX8_sly_153 ?_
        refine rl_istore hG [(10, .int x7), (9, .int w0), (0, .ref (a 0)), (2, .int v2), (3, .int v3), (4, .int v4), (5, .int v5), (6, .int v6), (7, .int v7), (8, .int v8)] dX8_sly_156 (Nat.le_of_ble_eq_true rfl) rfl rfl ?_
        refine rl_iload hG dX8_sly_158 0 rfl ?_
        refine rl_iload hG dX8_sly_160 5 rfl ?_
        refine rl_icmp_ge hG (tgt := 176) dX8_sly_162 (by decide) (fun c8 => ?_) (fun c8 => ?_)
        · have h := it_t h c8
          refine rl_iload hG dX8_sly_176 6 rfl ?_
          exact rl_lvs hG [2, 3, 4, 5, 7, 8, 9, 0] rfl (H178 (k52) (hk52) (k75) (hk75) u6 v2 v3 v4 v6 v7 v8 x7 v5 h)
        · have h := it_f h c8
          refine rl_bipush hG (v := 10) dX8_sly_165 (by decide) ?_
          refine rl_iload hG dX8_sly_167 7 rfl ?_
          refine rl_imul hG dX8_sly_169 ?_
          refine rl_iload hG dX8_sly_170 9 rfl ?_
          refine rl_iadd hG dX8_sly_172 ?_
          refine rl_goto hG (tgt := 178) dX8_sly_173 (by decide) ?_
          exact rl_lvs hG [2, 3, 4, 5, 7, 8, 9, 0] rfl (H178 (k52) (hk52) (k75) (hk75) u6 v2 v3 v4 v6 v7 v8 x7 (((10 : Int32) * v6) + v8) h)
  have H202 : ∀ (k52 : St → Int32 → Int32 → Int32 → Int32 → Int32 → Option (Int32 × St)) (hk52 : ∀ (u : St) (v2 : Int32) (v3 : Int32) (v4 : Int32) (v5 : Int32) (v6 : Int32), k52 u v2 v3 v4 v5 v6 = some (r, τ) → G u 52 [(0, .ref (a 0)), (2, .int v2), (3, .int v3), (4, .int v4), (5, .int v5), (6, .int v6)] []), ∀ (u : St) (v2 : Int32) (v3 : Int32) (v4 : Int32) (v5 : Int32) (v6 : Int32) (v7 : Int32), fX8_sly_L202 k52 u v2 v3 v4 v5 v6 v7 = some (r, τ) → G u 202 [(0, .ref (a 0)), (2, .int v2), (3, .int v3), (4, .int v4), (5, .int v5), (6, .int v6), (7, .int v7)] [] := by
    intro k52 hk52 u v2 v3 v4 v5 v6 v7 h
    rw [fX8_sly_L202] at h
    refine rl_aload_n hG dX8_sly_202 rfl 0 rfl ?_
    refine rl_get hG iX8_sly_X8 0 (gM_0 a cI u) hcX8 23 (Nat.le_of_ble_eq_true rfl) nX8_sly_0 rfl dX8_sly_203 ?_
    refine rl_iload hG dX8_sly_206 5 rfl ?_
    refine rl_iload hG dX8_sly_208 6 rfl ?_
    obtain ⟨u9, iu9, eu9, h⟩ := asr_ok h
    refine rl_iast hG 13 0 (gM_13 a cI u) rfl iu9 (σ' := u9) ((sM_13 a cI u _).trans (congrArg _ eu9.symm)) dX8_sly_210 ?_
    obtain ⟨x10, ex10, h⟩ := bd_ok h
    refine rl_iinc hG [(6, .int x10), (0, .ref (a 0)), (2, .int v2), (3, .int v3), (4, .int v4), (5, .int v5), (7, .int v7)] dX8_sly_211 5 rfl (by rw [ex10]; rfl) (Nat.le_of_ble_eq_true rfl) rfl ?_
    refine rl_goto hG (tgt := 52) dX8_sly_214 (by decide) ?_
    exact rl_lvs hG [1, 2, 3, 4, 5, 0] rfl (hk52 u9 v2 v3 v4 v5 x10 h)
  have H75 : ∀ (k52 : St → Int32 → Int32 → Int32 → Int32 → Int32 → Option (Int32 × St)) (hk52 : ∀ (u : St) (v2 : Int32) (v3 : Int32) (v4 : Int32) (v5 : Int32) (v6 : Int32), k52 u v2 v3 v4 v5 v6 = some (r, τ) → G u 52 [(0, .ref (a 0)), (2, .int v2), (3, .int v3), (4, .int v4), (5, .int v5), (6, .int v6)] []), ∀ (n : Nat) (u : St) (v2 : Int32) (v3 : Int32) (v4 : Int32) (v5 : Int32) (v6 : Int32) (v7 : Int32) (v8 : Int32), fX8_sly_L75 k52 n u v2 v3 v4 v5 v6 v7 v8 = some (r, τ) → G u 75 [(0, .ref (a 0)), (2, .int v2), (3, .int v3), (4, .int v4), (5, .int v5), (6, .int v6), (7, .int v7), (8, .int v8)] [] := by
    intro k52 hk52
    intro n
    induction n with
    | zero =>
      intro u v2 v3 v4 v5 v6 v7 v8 h
      exact absurd h (by rw [fX8_sly_L75]; exact fun q => by cases q)
    | succ n ih =>
      intro u v2 v3 v4 v5 v6 v7 v8 h
      rw [fX8_sly_L75] at h
      refine rl_iload hG dX8_sly_75 7 rfl ?_
      refine rl_bipush hG (v := 10) dX8_sly_77 (by decide) ?_
      refine rl_icmp_ge hG (tgt := 202) dX8_sly_79 (by decide) (fun c11 => ?_) (fun c11 => ?_)
      · have h := it_t h c11
        exact rl_lvs hG [0, 1, 2, 3, 4, 5, 6] rfl (H202 (k52) (hk52) u v2 v3 v4 v5 v6 v7 h)
      · have h := it_f h c11
        refine rl_iload hG dX8_sly_82 6 rfl ?_
        refine rl_iconst hG (v := -1) dX8_sly_84 (by decide) ?_
        refine rl_icmp_eq hG (tgt := 202) dX8_sly_85 (by decide) (fun c12 => ?_) (fun c12 => ?_)
        · have h := it_t h c12
          exact rl_lvs hG [0, 1, 2, 3, 4, 5, 6] rfl (H202 (k52) (hk52) u v2 v3 v4 v5 v6 v7 h)
        · have h := it_f h c12
          refine rl_iload hG dX8_sly_88 6 rfl ?_
          refine rl_bipush hG (v := 10) dX8_sly_90 (by decide) ?_
          refine rl_irem hG dX8_sly_92 (by decide) ?_
          refine rl_iload hG dX8_sly_93 7 rfl ?_
          refine rl_icmp_le hG (tgt := 109) dX8_sly_95 (by decide) (fun c13 => ?_) (fun c13 => ?_)
          · have h := it_t h c13
            refine rl_iload hG dX8_sly_109 7 rfl ?_
            refine rl_iload hG dX8_sly_111 6 rfl ?_
            refine rl_bipush hG (v := 10) dX8_sly_113 (by decide) ?_
            refine rl_irem hG dX8_sly_115 (by decide) ?_
            refine rl_isub hG dX8_sly_116 ?_
            exact rl_lvs hG [0, 1, 2, 3, 4, 5, 6, 7] rfl (H117 (k52) (hk52) (fX8_sly_L75 k52 n) (ih) u v2 v3 v4 v5 v6 v7 v8 (v8 - (v7 - v7 / (10 : Int32) * (10 : Int32))) h)
          · have h := it_f h c13
            refine rl_iload hG dX8_sly_98 6 rfl ?_
            refine rl_bipush hG (v := 10) dX8_sly_100 (by decide) ?_
            refine rl_irem hG dX8_sly_102 (by decide) ?_
            refine rl_iload hG dX8_sly_103 7 rfl ?_
            refine rl_isub hG dX8_sly_105 ?_
            refine rl_goto hG (tgt := 117) dX8_sly_106 (by decide) ?_
            exact rl_lvs hG [0, 1, 2, 3, 4, 5, 6, 7] rfl (H117 (k52) (hk52) (fX8_sly_L75 k52 n) (ih) u v2 v3 v4 v5 v6 v7 v8 ((v7 - v7 / (10 : Int32) * (10 : Int32)) - v8) h)
  have H217 : ∀ (u : St) (v3 : Int32) (v4 : Int32) (v5 : Int32), fX8_sly_L217 u v3 v4 v5 = some (r, τ) → G u 217 [(3, .int v3), (4, .int v4), (5, .int v5)] [] := by
    intro  u v3 v4 v5 h
    rw [fX8_sly_L217] at h
    refine rl_iload hG dX8_sly_217 2 rfl ?_
    refine rl_iconst hG (v := -1) dX8_sly_219 (by decide) ?_
    refine rl_icmp_eq hG (tgt := 227) dX8_sly_220 (by decide) (fun c14 => ?_) (fun c14 => ?_)
    · have h := it_t h c14
      refine rl_iload hG dX8_sly_227 2 rfl ?_
      refine rl_goto hG (tgt := 234) dX8_sly_229 (by decide) ?_
      exact rl_ret2 hret h rfl dX8_sly_234
    · have h := it_f h c14
      refine rl_iload_n hG dX8_sly_223 rfl 0 rfl ?_
      refine rl_if_ne hG (tgt := 232) dX8_sly_224 (by decide) (fun c15 => ?_) (fun c15 => ?_)
      · have h := it_f h c15
        refine rl_iload hG dX8_sly_232 1 rfl ?_
        exact rl_ret2 hret h rfl dX8_sly_234
      · have h := it_t h c15
        refine rl_iload hG dX8_sly_227 2 rfl ?_
        refine rl_goto hG (tgt := 234) dX8_sly_229 (by decide) ?_
        exact rl_ret2 hret h rfl dX8_sly_234
  have H52 : ∀ (n : Nat) (u : St) (v2 : Int32) (v3 : Int32) (v4 : Int32) (v5 : Int32) (v6 : Int32), fX8_sly_L52 n u v2 v3 v4 v5 v6 = some (r, τ) → G u 52 [(0, .ref (a 0)), (2, .int v2), (3, .int v3), (4, .int v4), (5, .int v5), (6, .int v6)] [] := by
    intro n
    induction n with
    | zero =>
      intro u v2 v3 v4 v5 v6 h
      exact absurd h (by rw [fX8_sly_L52]; exact fun q => by cases q)
    | succ n ih =>
      intro u v2 v3 v4 v5 v6 h
      rw [fX8_sly_L52] at h
      refine rl_iload hG dX8_sly_52 5 rfl ?_
      refine rl_iconst hG (v := 2) dX8_sly_54 (by decide) ?_
      refine rl_aload_n hG dX8_sly_55 rfl 0 rfl ?_
      refine rl_get hG iX8_sly_X8 0 (gM_0 a cI u) hcX8 25 (Nat.le_of_ble_eq_true rfl) nX8_sly_1 rfl dX8_sly_56 ?_
      refine rl_imul hG dX8_sly_59 ?_
      refine rl_icmp_ge hG (tgt := 217) dX8_sly_60 (by decide) (fun c16 => ?_) (fun c16 => ?_)
      · have h := it_t h c16
        exact rl_lvs hG [2, 3, 4] rfl (H217 u v3 v4 v5 h)
      · have h := it_f h c16
        refine rl_aload_n hG dX8_sly_63 rfl 0 rfl ?_
        refine rl_get hG iX8_sly_X8 0 (gM_0 a cI u) hcX8 23 (Nat.le_of_ble_eq_true rfl) nX8_sly_0 rfl dX8_sly_64 ?_
        refine rl_iload hG dX8_sly_67 5 rfl ?_
        obtain ⟨x17, ix17, ex17, h⟩ := ald_ok h
        refine rl_iald hG 13 0 (gM_13 a cI u) rfl ix17 ex17 dX8_sly_69 ?_
        refine rl_istore hG [(7, .int x17), (0, .ref (a 0)), (2, .int v2), (3, .int v3), (4, .int v4), (5, .int v5), (6, .int v6)] dX8_sly_70 (Nat.le_of_ble_eq_true rfl) rfl rfl ?_
        refine rl_iconst hG (v := 0) dX8_sly_72 (by decide) ?_
        refine rl_istore hG [(8, .int (0 : Int32)), (7, .int x17), (0, .ref (a 0)), (2, .int v2), (3, .int v3), (4, .int v4), (5, .int v5), (6, .int v6)] dX8_sly_73 (Nat.le_of_ble_eq_true rfl) rfl rfl ?_
        exact rl_lvs hG [2, 3, 4, 5, 6, 7, 1, 0] rfl (H75 (fX8_sly_L52 n) (ih) 2000 u v2 v3 v4 v5 v6 x17 (0 : Int32) h)
  have h := h0
  rw [fX8_sly] at h
  show G u 0 [(0, .ref (a 0)), (1, .int p1), (2, .int p2), (3, .int p3)] []
  refine rl_iload_n hG dX8_sly_0 rfl 1 rfl ?_
  obtain ⟨x18, hx18q, zx18, h⟩ := oz_ok h
  refine rl_callZi hG (As := [.int p1]) (kX8_isThing l D u p1 x18 hx18q) gX8_sly_X8_isThing rfl 1 rfl (by decide +kernel) rfl rfl (by decide) (Nat.le_of_ble_eq_true rfl) rfl dX8_sly_1 ?_
  refine rl_if_ne hG (tgt := 10) dX8_sly_4 (by decide) (fun c19 => ?_) (fun c19 => ?_)
  · have h := it_f h c19
    refine rl_iload_n hG dX8_sly_10 rfl 2 rfl ?_
    refine rl_i2l hG dX8_sly_11 ?_
    refine rl_lconst hG (v := 1) dX8_sly_12 (by decide) ?_
    refine rl_ldc2 hG (v := 9) dX8_sly_13 nX8_sly_2 ?_
    obtain ⟨x20, hx20q, zx20, h⟩ := oz_ok h
    refine rl_callZi hG (As := [.long p2.toInt64, .long (1 : Int64), .long (9 : Int64)]) (kX8_in l D u p2.toInt64 (1 : Int64) (9 : Int64) x20 hx20q) gX8_sly_X8_in rfl 3 rfl (by decide +kernel) rfl rfl (by decide) (Nat.le_of_ble_eq_true rfl) rfl dX8_sly_16 ?_
    refine rl_if_eq hG (tgt := 32) dX8_sly_19 (by decide) (fun c21 => ?_) (fun c21 => ?_)
    · have h := it_t h c21
      refine rl_bipush hG (v := -3) dX8_sly_32 (by decide) ?_
      exact rl_ret2 hret h rfl dX8_sly_34
    · have h := it_f h c21
      refine rl_iload_n hG dX8_sly_22 rfl 3 rfl ?_
      refine rl_i2l hG dX8_sly_23 ?_
      refine rl_lconst hG (v := 0) dX8_sly_24 (by decide) ?_
      refine rl_lconst hG (v := 1) dX8_sly_25 (by decide) ?_
      obtain ⟨x22, hx22q, zx22, h⟩ := oz_ok h
      refine rl_callZi hG (As := [.long p3.toInt64, .long (0 : Int64), .long (1 : Int64)]) (kX8_in l D u p3.toInt64 (0 : Int64) (1 : Int64) x22 hx22q) gX8_sly_X8_in rfl 3 rfl (by decide +kernel) rfl rfl (by decide) (Nat.le_of_ble_eq_true rfl) rfl dX8_sly_26 ?_
      refine rl_if_ne hG (tgt := 35) dX8_sly_29 (by decide) (fun c23 => ?_) (fun c23 => ?_)
      · have h := it_f h c23
        refine rl_aload_n hG dX8_sly_35 rfl 0 rfl ?_
        refine rl_iload_n hG dX8_sly_36 rfl 1 rfl ?_
        obtain ⟨u24, hu24q, h⟩ := o1_ok h
        refine rl_callVv hG ro_0_ok (As := [.int p1]) (kX8_lay l D a cI aS u p1 u24  hu24q) gX8_sly_X8_lay rfl 0 (gM_0 a cI u) hcX8 1 rfl (by decide +kernel) rfl rfl (by decide) (Nat.le_of_ble_eq_true rfl) rfl dX8_sly_37 ?_
        refine rl_aload_n hG dX8_sly_40 rfl 0 rfl ?_
        obtain ⟨x25, hx25q, h⟩ := o1_ok h
        refine rl_callVi hG ro_0_ok (As := []) (kX8_needed l D a cI aS u24  x25  hx25q) gX8_sly_X8_needed rfl 0 (gM_0 a cI u24) hcX8 0 rfl (by decide +kernel) rfl rfl (by decide) (Nat.le_of_ble_eq_true rfl) rfl dX8_sly_41 ?_
        refine rl_istore hG [(4, .int x25), (0, .ref (a 0)), (1, .int p1), (2, .int p2), (3, .int p3)] dX8_sly_44 (Nat.le_of_ble_eq_true rfl) rfl rfl ?_
        refine rl_iconst hG (v := -1) dX8_sly_46 (by decide) ?_
        refine rl_istore hG [(5, .int (-1 : Int32)), (4, .int x25), (0, .ref (a 0)), (1, .int p1), (2, .int p2), (3, .int p3)] dX8_sly_47 (Nat.le_of_ble_eq_true rfl) rfl rfl ?_
        refine rl_iconst hG (v := 0) dX8_sly_49 (by decide) ?_
        refine rl_istore hG [(6, .int (0 : Int32)), (5, .int (-1 : Int32)), (4, .int x25), (0, .ref (a 0)), (1, .int p1), (2, .int p2), (3, .int p3)] dX8_sly_50 (Nat.le_of_ble_eq_true rfl) rfl rfl ?_
        exact rl_lvs hG [3, 5, 6, 2, 1, 0] rfl (H52 2000 u24 p2 p3 x25 (-1 : Int32) (0 : Int32) h)
      · have h := it_t h c23
        refine rl_bipush hG (v := -3) dX8_sly_32 (by decide) ?_
        exact rl_ret2 hret h rfl dX8_sly_34
  · have h := it_t h c19
    refine rl_bipush hG (v := -2) dX8_sly_7 (by decide) ?_
    exact rl_ret2 hret h rfl dX8_sly_9
def fX8_struck_L113  (k59 : St → Int32 → Int32 → Int32 → Int32 → Option (Int32 × St)) (u : St) (v2 : Int32) (v3 : Int32) (v4 : Int32) (v5 : Int32) : Option (Int32 × St) := bd (v5 + (1 : Int32)) (fun x1 => k59 u v2 v3 v4 x1)
def fX8_struck_L111  (k59 : St → Int32 → Int32 → Int32 → Int32 → Option (Int32 × St)) (u : St) (v2 : Int32) (v3 : Int32) (v5 : Int32) (w0 : Int32) : Option (Int32 × St) := fX8_struck_L113 k59 u v2 v3 w0 v5
def fX8_struck_L86  (k59 : St → Int32 → Int32 → Int32 → Int32 → Option (Int32 × St)) (u : St) (v2 : Int32) (v3 : Int32) (v4 : Int32) (v5 : Int32) : Option (Int32 × St) := bd (st_wr u 0 21 v5) (fun u2 => o1 (fX8_layCodes u2) (fun u3 => o1 (fX8_needed u3) (fun x4 => (if v2 < x4 then fX8_struck_L111 k59 u3 v2 v3 v5 v4 else fX8_struck_L111 k59 u3 v2 v3 v5 v5))))
def fX8_struck_L59   : Nat → St → Int32 → Int32 → Int32 → Int32 → Option (Int32 × St)
  | 0 => fun _ _ _ _ _ => none
  | n + 1 => fun u v2 v3 v4 v5 => (if ((1 : Int32) <<< (v3 &&& 31)) ≤ v5 then some (v4, u) else (if v4 = (-1 : Int32) then fX8_struck_L86 (fX8_struck_L59 n) u v2 v3 v4 v5 else o1 (fX8_many v5) (fun x8 => o1 (fX8_many v4) (fun x9 => (if x9 ≤ x8 then fX8_struck_L113 (fX8_struck_L59 n) u v2 v3 v4 v5 else fX8_struck_L86 (fX8_struck_L59 n) u v2 v3 v4 v5)))))
def fX8_struck_L52   (u : St) (v2 : Int32) (w0 : Int32) : Option (Int32 × St) := fX8_struck_L59 2000 u v2 w0 (-1 : Int32) (0 : Int32)
def fX8_struck (u : St)  (p1 : Int32) (p2 : Int32) : Option (Int32 × St) := oz (fX8_isThing p1) (fun x11 => (if x11 = (0 : Int32) then some ((-2 : Int32), u) else oz (fX8_in p2.toInt64 (0 : Int64) (6 : Int64)) (fun x13 => (if x13 = (0 : Int32) then some ((-3 : Int32), u) else o1 (fX8_allThere u) (fun u15 => o1 (fX8_layWorks u15 p1) (fun u16 => (if (10 : Int32) ≤ (u16 0 3) then fX8_struck_L52 u16 p2 (10 : Int32) else fX8_struck_L52 u16 p2 (u16 0 3))))))))
theorem nX8_struck_0 : Cond.fieldLink RX8 130 "WhoseWorkModel" "out" "I" ∈ wsX8_struck := by decide +kernel
theorem nX8_struck_1 : Cond.constantLong RX8 125 (6) ∈ wsX8_struck := by decide +kernel
theorem nX8_struck_2 : Cond.fieldLink RX8 119 "WhoseWorkModel" "boundMany" "I" ∈ wsX8_struck := by decide +kernel
theorem iX8_struck_X8 : ∀ w ∈ wsX80, w ∈ wsX8_struck := by decide +kernel
set_option maxRecDepth 100000 in
set_option maxHeartbeats 4000000 in
theorem kX8_struck (l : Launch) (D : va_G) (a : Nat → Nat) (cI : ClassId) (aS : Nat → Prop) (u : St)  (p1 : Int32) (p2 : Int32) (r : Int32) (τ : St)  (h0 : fX8_struck u p1 p2 = some (r, τ)) : rl_Mi l yX8_struck wsX8_struck ({ frames := 5, cells := 0, slots := 0, locals := 117 } : Room) D (tyM cI) (wM a cI) ro_0 aS [.ref (a 0), .int p1, .int p2] u r τ := by
  refine rl_meth_i (cc := cX8_struck) (maxL := 6) (own := RX8) (ty := .int) (by decide) rfl rfl (Nat.le_of_ble_eq_true rfl) ?_
  intro G hG hret
  have H113 : ∀ (k59 : St → Int32 → Int32 → Int32 → Int32 → Option (Int32 × St)) (hk59 : ∀ (u : St) (v2 : Int32) (v3 : Int32) (v4 : Int32) (v5 : Int32), k59 u v2 v3 v4 v5 = some (r, τ) → G u 59 [(0, .ref (a 0)), (2, .int v2), (3, .int v3), (4, .int v4), (5, .int v5)] []), ∀ (u : St) (v2 : Int32) (v3 : Int32) (v4 : Int32) (v5 : Int32), fX8_struck_L113 k59 u v2 v3 v4 v5 = some (r, τ) → G u 113 [(0, .ref (a 0)), (2, .int v2), (3, .int v3), (4, .int v4), (5, .int v5)] [] := by
    intro k59 hk59 u v2 v3 v4 v5 h
    rw [fX8_struck_L113] at h
    obtain ⟨x1, ex1, h⟩ := bd_ok h
    refine rl_iinc hG [(5, .int x1), (0, .ref (a 0)), (2, .int v2), (3, .int v3), (4, .int v4)] dX8_struck_113 4 rfl (by rw [ex1]; rfl) (Nat.le_of_ble_eq_true rfl) rfl ?_
    refine rl_goto hG (tgt := 59) dX8_struck_116 (by decide) ?_
    exact rl_lvs hG [1, 2, 3, 4, 0] rfl (hk59 u v2 v3 v4 x1 h)
  have H111 : ∀ (k59 : St → Int32 → Int32 → Int32 → Int32 → Option (Int32 × St)) (hk59 : ∀ (u : St) (v2 : Int32) (v3 : Int32) (v4 : Int32) (v5 : Int32), k59 u v2 v3 v4 v5 = some (r, τ) → G u 59 [(0, .ref (a 0)), (2, .int v2), (3, .int v3), (4, .int v4), (5, .int v5)] []), ∀ (u : St) (v2 : Int32) (v3 : Int32) (v5 : Int32) (w0 : Int32), fX8_struck_L111 k59 u v2 v3 v5 w0 = some (r, τ) → G u 111 [(0, .ref (a 0)), (2, .int v2), (3, .int v3), (5, .int v5)] [.int w0] := by
    intro k59 hk59 u v2 v3 v5 w0 h
    rw [fX8_struck_L111] at h
    refine rl_istore hG [(4, .int w0), (0, .ref (a 0)), (2, .int v2), (3, .int v3), (5, .int v5)] dX8_struck_111 (Nat.le_of_ble_eq_true rfl) rfl rfl ?_
    exact rl_lvs hG [1, 2, 3, 0, 4] rfl (H113 (k59) (hk59) u v2 v3 w0 v5 h)
  have H86 : ∀ (k59 : St → Int32 → Int32 → Int32 → Int32 → Option (Int32 × St)) (hk59 : ∀ (u : St) (v2 : Int32) (v3 : Int32) (v4 : Int32) (v5 : Int32), k59 u v2 v3 v4 v5 = some (r, τ) → G u 59 [(0, .ref (a 0)), (2, .int v2), (3, .int v3), (4, .int v4), (5, .int v5)] []), ∀ (u : St) (v2 : Int32) (v3 : Int32) (v4 : Int32) (v5 : Int32), fX8_struck_L86 k59 u v2 v3 v4 v5 = some (r, τ) → G u 86 [(0, .ref (a 0)), (2, .int v2), (3, .int v3), (4, .int v4), (5, .int v5)] [] := by
    intro k59 hk59 u v2 v3 v4 v5 h
    rw [fX8_struck_L86] at h
    refine rl_aload_n hG dX8_struck_86 rfl 0 rfl ?_
    refine rl_iload hG dX8_struck_87 4 rfl ?_
    obtain ⟨u2, eu2, h⟩ := bd_ok h
    refine rl_put hG iX8_struck_X8 tyX8 tyX8_ok nmX8 0 (gM_0 a cI u) hcX8 21 (Nat.le_of_ble_eq_true rfl) nX8_struck_0 rfl rfl (Nat.le_of_ble_eq_true rfl) (σ' := u2) ((sM_0_21 a cI u _).trans (congrArg _ eu2.symm)) dX8_struck_89 ?_
    refine rl_aload_n hG dX8_struck_92 rfl 0 rfl ?_
    obtain ⟨u3, hu3q, h⟩ := o1_ok h
    refine rl_callVv hG ro_0_ok (As := []) (kX8_layCodes l D a cI aS u2  u3  hu3q) gX8_struck_X8_layCodes rfl 0 (gM_0 a cI u2) hcX8 0 rfl (by decide +kernel) rfl rfl (by decide) (Nat.le_of_ble_eq_true rfl) rfl dX8_struck_93 ?_
    refine rl_aload_n hG dX8_struck_96 rfl 0 rfl ?_
    obtain ⟨x4, hx4q, h⟩ := o1_ok h
    refine rl_callVi hG ro_0_ok (As := []) (kX8_needed l D a cI aS u3  x4  hx4q) gX8_struck_X8_needed rfl 0 (gM_0 a cI u3) hcX8 0 rfl (by decide +kernel) rfl rfl (by decide) (Nat.le_of_ble_eq_true rfl) rfl dX8_struck_97 ?_
    refine rl_iload_n hG dX8_struck_100 rfl 1 rfl ?_
    refine rl_icmp_gt hG (tgt := 109) dX8_struck_101 (by decide) (fun c5 => ?_) (fun c5 => ?_)
    · have h := it_t h c5
      refine rl_iload hG dX8_struck_109 3 rfl ?_
      exact rl_lvs hG [0, 1, 2, 4] rfl (H111 (k59) (hk59) u3 v2 v3 v5 v4 h)
    · have h := it_f h c5
      refine rl_iload hG dX8_struck_104 4 rfl ?_
      refine rl_goto hG (tgt := 111) dX8_struck_106 (by decide) ?_
      exact rl_lvs hG [0, 1, 2, 4] rfl (H111 (k59) (hk59) u3 v2 v3 v5 v5 h)
  have H59 : ∀ (n : Nat) (u : St) (v2 : Int32) (v3 : Int32) (v4 : Int32) (v5 : Int32), fX8_struck_L59 n u v2 v3 v4 v5 = some (r, τ) → G u 59 [(0, .ref (a 0)), (2, .int v2), (3, .int v3), (4, .int v4), (5, .int v5)] [] := by
    intro n
    induction n with
    | zero =>
      intro u v2 v3 v4 v5 h
      exact absurd h (by rw [fX8_struck_L59]; exact fun q => by cases q)
    | succ n ih =>
      intro u v2 v3 v4 v5 h
      rw [fX8_struck_L59] at h
      refine rl_iload hG dX8_struck_59 4 rfl ?_
      refine rl_iconst hG (v := 1) dX8_struck_61 (by decide) ?_
      refine rl_iload_n hG dX8_struck_62 rfl 2 rfl ?_
      refine rl_ishl hG dX8_struck_63 ?_
      refine rl_icmp_ge hG (tgt := 119) dX8_struck_64 (by decide) (fun c6 => ?_) (fun c6 => ?_)
      · have h := it_t h c6
        refine rl_iload hG dX8_struck_119 3 rfl ?_
        exact rl_ret2 hret h rfl dX8_struck_121
      · have h := it_f h c6
        refine rl_iload hG dX8_struck_67 3 rfl ?_
        refine rl_iconst hG (v := -1) dX8_struck_69 (by decide) ?_
        refine rl_icmp_eq hG (tgt := 86) dX8_struck_70 (by decide) (fun c7 => ?_) (fun c7 => ?_)
        · have h := it_t h c7
          exact rl_lvs hG [0, 1, 2, 3, 4] rfl (H86 (fX8_struck_L59 n) (ih) u v2 v3 v4 v5 h)
        · have h := it_f h c7
          refine rl_iload hG dX8_struck_73 4 rfl ?_
          obtain ⟨x8, hx8q, h⟩ := o1_ok h
          refine rl_callZi hG (As := [.int v5]) (kX8_many l D u v5 x8 hx8q) gX8_struck_X8_many rfl 1 rfl (by decide +kernel) rfl rfl (by decide) (Nat.le_of_ble_eq_true rfl) rfl dX8_struck_75 ?_
          refine rl_iload hG dX8_struck_78 3 rfl ?_
          obtain ⟨x9, hx9q, h⟩ := o1_ok h
          refine rl_callZi hG (As := [.int v4]) (kX8_many l D u v4 x9 hx9q) gX8_struck_X8_many rfl 1 rfl (by decide +kernel) rfl rfl (by decide) (Nat.le_of_ble_eq_true rfl) rfl dX8_struck_80 ?_
          refine rl_icmp_ge hG (tgt := 113) dX8_struck_83 (by decide) (fun c10 => ?_) (fun c10 => ?_)
          · have h := it_t h c10
            exact rl_lvs hG [0, 1, 2, 3, 4] rfl (H113 (fX8_struck_L59 n) (ih) u v2 v3 v4 v5 h)
          · have h := it_f h c10
            exact rl_lvs hG [0, 1, 2, 3, 4] rfl (H86 (fX8_struck_L59 n) (ih) u v2 v3 v4 v5 h)
  have H52 : ∀ (u : St) (v2 : Int32) (w0 : Int32), fX8_struck_L52 u v2 w0 = some (r, τ) → G u 52 [(0, .ref (a 0)), (2, .int v2)] [.int w0] := by
    intro  u v2 w0 h
    rw [fX8_struck_L52] at h
    refine rl_istore_n hG [(3, .int w0), (0, .ref (a 0)), (2, .int v2)] dX8_struck_52 rfl (Nat.le_of_ble_eq_true rfl) rfl rfl ?_
    refine rl_iconst hG (v := -1) dX8_struck_53 (by decide) ?_
    refine rl_istore hG [(4, .int (-1 : Int32)), (3, .int w0), (0, .ref (a 0)), (2, .int v2)] dX8_struck_54 (Nat.le_of_ble_eq_true rfl) rfl rfl ?_
    refine rl_iconst hG (v := 0) dX8_struck_56 (by decide) ?_
    refine rl_istore hG [(5, .int (0 : Int32)), (4, .int (-1 : Int32)), (3, .int w0), (0, .ref (a 0)), (2, .int v2)] dX8_struck_57 (Nat.le_of_ble_eq_true rfl) rfl rfl ?_
    exact rl_lvs hG [3, 4, 2, 1, 0] rfl (H59 2000 u v2 w0 (-1 : Int32) (0 : Int32) h)
  have h := h0
  rw [fX8_struck] at h
  show G u 0 [(0, .ref (a 0)), (1, .int p1), (2, .int p2)] []
  refine rl_iload_n hG dX8_struck_0 rfl 1 rfl ?_
  obtain ⟨x11, hx11q, zx11, h⟩ := oz_ok h
  refine rl_callZi hG (As := [.int p1]) (kX8_isThing l D u p1 x11 hx11q) gX8_struck_X8_isThing rfl 1 rfl (by decide +kernel) rfl rfl (by decide) (Nat.le_of_ble_eq_true rfl) rfl dX8_struck_1 ?_
  refine rl_if_ne hG (tgt := 10) dX8_struck_4 (by decide) (fun c12 => ?_) (fun c12 => ?_)
  · have h := it_f h c12
    refine rl_iload_n hG dX8_struck_10 rfl 2 rfl ?_
    refine rl_i2l hG dX8_struck_11 ?_
    refine rl_lconst hG (v := 0) dX8_struck_12 (by decide) ?_
    refine rl_ldc2 hG (v := 6) dX8_struck_13 nX8_struck_1 ?_
    obtain ⟨x13, hx13q, zx13, h⟩ := oz_ok h
    refine rl_callZi hG (As := [.long p2.toInt64, .long (0 : Int64), .long (6 : Int64)]) (kX8_in l D u p2.toInt64 (0 : Int64) (6 : Int64) x13 hx13q) gX8_struck_X8_in rfl 3 rfl (by decide +kernel) rfl rfl (by decide) (Nat.le_of_ble_eq_true rfl) rfl dX8_struck_16 ?_
    refine rl_if_ne hG (tgt := 25) dX8_struck_19 (by decide) (fun c14 => ?_) (fun c14 => ?_)
    · have h := it_f h c14
      refine rl_aload_n hG dX8_struck_25 rfl 0 rfl ?_
      obtain ⟨u15, hu15q, h⟩ := o1_ok h
      refine rl_callVv hG ro_0_ok (As := []) (kX8_allThere l D a cI aS u  u15  hu15q) gX8_struck_X8_allThere rfl 0 (gM_0 a cI u) hcX8 0 rfl (by decide +kernel) rfl rfl (by decide) (Nat.le_of_ble_eq_true rfl) rfl dX8_struck_26 ?_
      refine rl_aload_n hG dX8_struck_29 rfl 0 rfl ?_
      refine rl_iload_n hG dX8_struck_30 rfl 1 rfl ?_
      obtain ⟨u16, hu16q, h⟩ := o1_ok h
      refine rl_callVv hG ro_0_ok (As := [.int p1]) (kX8_layWorks l D a cI aS u15 p1 u16  hu16q) gX8_struck_X8_layWorks rfl 0 (gM_0 a cI u15) hcX8 1 rfl (by decide +kernel) rfl rfl (by decide) (Nat.le_of_ble_eq_true rfl) rfl dX8_struck_31 ?_
      refine rl_aload_n hG dX8_struck_34 rfl 0 rfl ?_
      refine rl_get hG iX8_struck_X8 0 (gM_0 a cI u16) hcX8 3 (Nat.le_of_ble_eq_true rfl) nX8_struck_2 rfl dX8_struck_35 ?_
      refine rl_bipush hG (v := 10) dX8_struck_38 (by decide) ?_
      refine rl_icmp_ge hG (tgt := 50) dX8_struck_40 (by decide) (fun c17 => ?_) (fun c17 => ?_)
      · have h := it_t h c17
        refine rl_bipush hG (v := 10) dX8_struck_50 (by decide) ?_
        exact rl_lvs hG [0, 2] rfl (H52 u16 p2 (10 : Int32) h)
      · have h := it_f h c17
        refine rl_aload_n hG dX8_struck_43 rfl 0 rfl ?_
        refine rl_get hG iX8_struck_X8 0 (gM_0 a cI u16) hcX8 3 (Nat.le_of_ble_eq_true rfl) nX8_struck_2 rfl dX8_struck_44 ?_
        refine rl_goto hG (tgt := 52) dX8_struck_47 (by decide) ?_
        exact rl_lvs hG [0, 2] rfl (H52 u16 p2 (u16 0 3) h)
    · have h := it_t h c14
      refine rl_bipush hG (v := -3) dX8_struck_22 (by decide) ?_
      exact rl_ret2 hret h rfl dX8_struck_24
  · have h := it_t h c12
    refine rl_bipush hG (v := -2) dX8_struck_7 (by decide) ?_
    exact rl_ret2 hret h rfl dX8_struck_9
def fX8_takes_L131  (k41 : St → Int32 → Int32 → Int32 → Int32 → Int32 → Option (Int32 × St)) (u : St) (v1 : Int32) (v2 : Int32) (v3 : Int32) (v5 : Int32) (w0 : Int32) (w1 : Int32) : Option (Int32 × St) := bd (w1 + w0) (fun x1 => bd (v5 + (1 : Int32)) (fun x2 => k41 u v1 v2 v3 x1 x2))
def fX8_takes_L130  (k41 : St → Int32 → Int32 → Int32 → Int32 → Int32 → Option (Int32 × St)) (u : St) (v1 : Int32) (v2 : Int32) (v3 : Int32) (v5 : Int32) (w0 : Int32) : Option (Int32 × St) := fX8_takes_L131 k41 u v1 v2 v3 v5 (0 : Int32) w0
def fX8_takes_L123  (k41 : St → Int32 → Int32 → Int32 → Int32 → Int32 → Option (Int32 × St)) (u : St) (v1 : Int32) (v2 : Int32) (v3 : Int32) (v5 : Int32) (w0 : Int32) (w1 : Int32) (w2 : Int32) : Option (Int32 × St) := (if w1 = w0 then fX8_takes_L131 k41 u v1 v2 v3 v5 (1 : Int32) w2 else fX8_takes_L130 k41 u v1 v2 v3 v5 w2)
def fX8_takes_L108  (k41 : St → Int32 → Int32 → Int32 → Int32 → Int32 → Option (Int32 × St)) (u : St) (v1 : Int32) (v2 : Int32) (v3 : Int32) (v5 : Int32) (v7 : Int32) (w0 : Int32) (w1 : Int32) (w2 : Int32) : Option (Int32 × St) := (if w1 = w0 then (if v3 = (1 : Int32) then fX8_takes_L123 k41 u v1 v2 v3 v5 (1 : Int32) v7 w2 else fX8_takes_L123 k41 u v1 v2 v3 v5 (0 : Int32) v7 w2) else fX8_takes_L130 k41 u v1 v2 v3 v5 w2)
def fX8_takes_L93  (k41 : St → Int32 → Int32 → Int32 → Int32 → Int32 → Option (Int32 × St)) (u : St) (v1 : Int32) (v2 : Int32) (v3 : Int32) (v4 : Int32) (v5 : Int32) (v6 : Int32) (w0 : Int32) : Option (Int32 × St) := (if v3 = (0 : Int32) then fX8_takes_L108 k41 u v1 v2 v3 v5 w0 (1 : Int32) v6 v4 else fX8_takes_L108 k41 u v1 v2 v3 v5 w0 (0 : Int32) v6 v4)
def fX8_takes_L69  (k41 : St → Int32 → Int32 → Int32 → Int32 → Int32 → Option (Int32 × St)) (u : St) (v1 : Int32) (v2 : Int32) (v3 : Int32) (v4 : Int32) (v5 : Int32) (w0 : Int32) : Option (Int32 × St) := bd (st_wr u 0 21 ((1 : Int32) <<< (v1 &&& 31))) (fun u7 => o1 (fX8_code u7 v2 v5) (fun x8 => (if x8 ≤ (0 : Int32) then fX8_takes_L93 k41 u7 v1 v2 v3 v4 v5 w0 (0 : Int32) else fX8_takes_L93 k41 u7 v1 v2 v3 v4 v5 w0 (1 : Int32))))
def fX8_takes_L41   : Nat → St → Int32 → Int32 → Int32 → Int32 → Int32 → Option (Int32 × St)
  | 0 => fun _ _ _ _ _ _ => none
  | n + 1 => fun u v1 v2 v3 v4 v5 => (if (240 : Int32) ≤ v5 then some (v4, u) else bd (st_wr u 0 21 (0 : Int32)) (fun u11 => o1 (fX8_code u11 v2 v5) (fun x12 => (if x12 ≤ (0 : Int32) then fX8_takes_L69 (fX8_takes_L41 n) u11 v1 v2 v3 v4 v5 (0 : Int32) else fX8_takes_L69 (fX8_takes_L41 n) u11 v1 v2 v3 v4 v5 (1 : Int32)))))
def fX8_takes (u : St)  (p1 : Int32) (p2 : Int32) (p3 : Int32) : Option (Int32 × St) := oz (fX8_isBound u p1) (fun x14 => (if x14 = (0 : Int32) then some ((-2 : Int32), u) else oz (fX8_isGuild p2) (fun x16 => (if x16 = (0 : Int32) then some ((-2 : Int32), u) else oz (fX8_in p3.toInt64 (0 : Int64) (1 : Int64)) (fun x18 => (if x18 = (0 : Int32) then some ((-3 : Int32), u) else o1 (fX8_allThere u) (fun u20 => fX8_takes_L41 2000 u20 p1 p2 p3 (0 : Int32) (0 : Int32))))))))
theorem nX8_takes_0 : Cond.fieldLink RX8 130 "WhoseWorkModel" "out" "I" ∈ wsX8_takes := by decide +kernel
theorem iX8_takes_X8 : ∀ w ∈ wsX80, w ∈ wsX8_takes := by decide +kernel
set_option maxRecDepth 100000 in
set_option maxHeartbeats 4000000 in
theorem kX8_takes (l : Launch) (D : va_G) (a : Nat → Nat) (cI : ClassId) (aS : Nat → Prop) (u : St)  (p1 : Int32) (p2 : Int32) (p3 : Int32) (r : Int32) (τ : St)  (h0 : fX8_takes u p1 p2 p3 = some (r, τ)) : rl_Mi l yX8_takes wsX8_takes ({ frames := 3, cells := 0, slots := 0, locals := 76 } : Room) D (tyM cI) (wM a cI) ro_0 aS [.ref (a 0), .int p1, .int p2, .int p3] u r τ := by
  refine rl_meth_i (cc := cX8_takes) (maxL := 8) (own := RX8) (ty := .int) (by decide) rfl rfl (Nat.le_of_ble_eq_true rfl) ?_
  intro G hG hret
  have H131 : ∀ (k41 : St → Int32 → Int32 → Int32 → Int32 → Int32 → Option (Int32 × St)) (hk41 : ∀ (u : St) (v1 : Int32) (v2 : Int32) (v3 : Int32) (v4 : Int32) (v5 : Int32), k41 u v1 v2 v3 v4 v5 = some (r, τ) → G u 41 [(0, .ref (a 0)), (1, .int v1), (2, .int v2), (3, .int v3), (4, .int v4), (5, .int v5)] []), ∀ (u : St) (v1 : Int32) (v2 : Int32) (v3 : Int32) (v5 : Int32) (w0 : Int32) (w1 : Int32), fX8_takes_L131 k41 u v1 v2 v3 v5 w0 w1 = some (r, τ) → G u 131 [(0, .ref (a 0)), (1, .int v1), (2, .int v2), (3, .int v3), (5, .int v5)] [.int w0, .int w1] := by
    intro k41 hk41 u v1 v2 v3 v5 w0 w1 h
    rw [fX8_takes_L131] at h
    refine rl_iadd hG dX8_takes_131 ?_
    obtain ⟨x1, ex1, h⟩ := bd_ok h
    refine rl_istore hG [(4, .int x1), (0, .ref (a 0)), (1, .int v1), (2, .int v2), (3, .int v3), (5, .int v5)] dX8_takes_132 (Nat.le_of_ble_eq_true rfl) ex1 rfl ?_
    obtain ⟨x2, ex2, h⟩ := bd_ok h
    refine rl_iinc hG [(5, .int x2), (4, .int x1), (0, .ref (a 0)), (1, .int v1), (2, .int v2), (3, .int v3)] dX8_takes_134 5 rfl (by rw [ex2]; rfl) (Nat.le_of_ble_eq_true rfl) rfl ?_
    refine rl_goto hG (tgt := 41) dX8_takes_137 (by decide) ?_
    exact rl_lvs hG [2, 3, 4, 5, 1, 0] rfl (hk41 u v1 v2 v3 x1 x2 h)
  have H130 : ∀ (k41 : St → Int32 → Int32 → Int32 → Int32 → Int32 → Option (Int32 × St)) (hk41 : ∀ (u : St) (v1 : Int32) (v2 : Int32) (v3 : Int32) (v4 : Int32) (v5 : Int32), k41 u v1 v2 v3 v4 v5 = some (r, τ) → G u 41 [(0, .ref (a 0)), (1, .int v1), (2, .int v2), (3, .int v3), (4, .int v4), (5, .int v5)] []), ∀ (u : St) (v1 : Int32) (v2 : Int32) (v3 : Int32) (v5 : Int32) (w0 : Int32), fX8_takes_L130 k41 u v1 v2 v3 v5 w0 = some (r, τ) → G u 130 [(0, .ref (a 0)), (1, .int v1), (2, .int v2), (3, .int v3), (5, .int v5)] [.int w0] := by
    intro k41 hk41 u v1 v2 v3 v5 w0 h
    rw [fX8_takes_L130] at h
    refine rl_iconst hG (v := 0) dX8_takes_130 (by decide) ?_
    exact rl_lvs hG [0, 1, 2, 3, 4] rfl (H131 (k41) (hk41) u v1 v2 v3 v5 (0 : Int32) w0 h)
  have H123 : ∀ (k41 : St → Int32 → Int32 → Int32 → Int32 → Int32 → Option (Int32 × St)) (hk41 : ∀ (u : St) (v1 : Int32) (v2 : Int32) (v3 : Int32) (v4 : Int32) (v5 : Int32), k41 u v1 v2 v3 v4 v5 = some (r, τ) → G u 41 [(0, .ref (a 0)), (1, .int v1), (2, .int v2), (3, .int v3), (4, .int v4), (5, .int v5)] []), ∀ (u : St) (v1 : Int32) (v2 : Int32) (v3 : Int32) (v5 : Int32) (w0 : Int32) (w1 : Int32) (w2 : Int32), fX8_takes_L123 k41 u v1 v2 v3 v5 w0 w1 w2 = some (r, τ) → G u 123 [(0, .ref (a 0)), (1, .int v1), (2, .int v2), (3, .int v3), (5, .int v5)] [.int w0, .int w1, .int w2] := by
    intro k41 hk41 u v1 v2 v3 v5 w0 w1 w2 h
    rw [fX8_takes_L123] at h
    refine rl_icmp_ne hG (tgt := 130) dX8_takes_123 (by decide) (fun c3 => ?_) (fun c3 => ?_)
    · have h := it_f h c3
      exact rl_lvs hG [0, 1, 2, 3, 4] rfl (H130 (k41) (hk41) u v1 v2 v3 v5 w2 h)
    · have h := it_t h c3
      refine rl_iconst hG (v := 1) dX8_takes_126 (by decide) ?_
      refine rl_goto hG (tgt := 131) dX8_takes_127 (by decide) ?_
      exact rl_lvs hG [0, 1, 2, 3, 4] rfl (H131 (k41) (hk41) u v1 v2 v3 v5 (1 : Int32) w2 h)
  have H108 : ∀ (k41 : St → Int32 → Int32 → Int32 → Int32 → Int32 → Option (Int32 × St)) (hk41 : ∀ (u : St) (v1 : Int32) (v2 : Int32) (v3 : Int32) (v4 : Int32) (v5 : Int32), k41 u v1 v2 v3 v4 v5 = some (r, τ) → G u 41 [(0, .ref (a 0)), (1, .int v1), (2, .int v2), (3, .int v3), (4, .int v4), (5, .int v5)] []), ∀ (u : St) (v1 : Int32) (v2 : Int32) (v3 : Int32) (v5 : Int32) (v7 : Int32) (w0 : Int32) (w1 : Int32) (w2 : Int32), fX8_takes_L108 k41 u v1 v2 v3 v5 v7 w0 w1 w2 = some (r, τ) → G u 108 [(0, .ref (a 0)), (1, .int v1), (2, .int v2), (3, .int v3), (5, .int v5), (7, .int v7)] [.int w0, .int w1, .int w2] := by
    intro k41 hk41 u v1 v2 v3 v5 v7 w0 w1 w2 h
    rw [fX8_takes_L108] at h
    refine rl_icmp_ne hG (tgt := 130) dX8_takes_108 (by decide) (fun c4 => ?_) (fun c4 => ?_)
    · have h := it_f h c4
      exact rl_lvs hG [0, 1, 2, 3, 4] rfl (H130 (k41) (hk41) u v1 v2 v3 v5 w2 h)
    · have h := it_t h c4
      refine rl_iload hG dX8_takes_111 5 rfl ?_
      refine rl_iload_n hG dX8_takes_113 rfl 3 rfl ?_
      refine rl_iconst hG (v := 1) dX8_takes_114 (by decide) ?_
      refine rl_icmp_ne hG (tgt := 122) dX8_takes_115 (by decide) (fun c5 => ?_) (fun c5 => ?_)
      · have h := it_f h c5
        refine rl_iconst hG (v := 0) dX8_takes_122 (by decide) ?_
        exact rl_lvs hG [0, 1, 2, 3, 4] rfl (H123 (k41) (hk41) u v1 v2 v3 v5 (0 : Int32) v7 w2 h)
      · have h := it_t h c5
        refine rl_iconst hG (v := 1) dX8_takes_118 (by decide) ?_
        refine rl_goto hG (tgt := 123) dX8_takes_119 (by decide) ?_
        exact rl_lvs hG [0, 1, 2, 3, 4] rfl (H123 (k41) (hk41) u v1 v2 v3 v5 (1 : Int32) v7 w2 h)
  have H93 : ∀ (k41 : St → Int32 → Int32 → Int32 → Int32 → Int32 → Option (Int32 × St)) (hk41 : ∀ (u : St) (v1 : Int32) (v2 : Int32) (v3 : Int32) (v4 : Int32) (v5 : Int32), k41 u v1 v2 v3 v4 v5 = some (r, τ) → G u 41 [(0, .ref (a 0)), (1, .int v1), (2, .int v2), (3, .int v3), (4, .int v4), (5, .int v5)] []), ∀ (u : St) (v1 : Int32) (v2 : Int32) (v3 : Int32) (v4 : Int32) (v5 : Int32) (v6 : Int32) (w0 : Int32), fX8_takes_L93 k41 u v1 v2 v3 v4 v5 v6 w0 = some (r, τ) → G u 93 [(0, .ref (a 0)), (1, .int v1), (2, .int v2), (3, .int v3), (4, .int v4), (5, .int v5), (6, .int v6)] [.int w0] := by
    intro k41 hk41 u v1 v2 v3 v4 v5 v6 w0 h
    rw [fX8_takes_L93] at h
    refine rl_istore hG [(7, .int w0), (0, .ref (a 0)), (1, .int v1), (2, .int v2), (3, .int v3), (4, .int v4), (5, .int v5), (6, .int v6)] dX8_takes_93 (Nat.le_of_ble_eq_true rfl) rfl rfl ?_
    refine rl_iload hG dX8_takes_95 5 rfl ?_
    refine rl_iload hG dX8_takes_97 7 rfl ?_
    refine rl_iload_n hG dX8_takes_99 rfl 4 rfl ?_
    refine rl_if_ne hG (tgt := 107) dX8_takes_100 (by decide) (fun c6 => ?_) (fun c6 => ?_)
    · have h := it_f h c6
      refine rl_iconst hG (v := 0) dX8_takes_107 (by decide) ?_
      exact rl_lvs hG [1, 2, 3, 4, 6, 0] rfl (H108 (k41) (hk41) u v1 v2 v3 v5 w0 (0 : Int32) v6 v4 h)
    · have h := it_t h c6
      refine rl_iconst hG (v := 1) dX8_takes_103 (by decide) ?_
      refine rl_goto hG (tgt := 108) dX8_takes_104 (by decide) ?_
      exact rl_lvs hG [1, 2, 3, 4, 6, 0] rfl (H108 (k41) (hk41) u v1 v2 v3 v5 w0 (1 : Int32) v6 v4 h)
  have H69 : ∀ (k41 : St → Int32 → Int32 → Int32 → Int32 → Int32 → Option (Int32 × St)) (hk41 : ∀ (u : St) (v1 : Int32) (v2 : Int32) (v3 : Int32) (v4 : Int32) (v5 : Int32), k41 u v1 v2 v3 v4 v5 = some (r, τ) → G u 41 [(0, .ref (a 0)), (1, .int v1), (2, .int v2), (3, .int v3), (4, .int v4), (5, .int v5)] []), ∀ (u : St) (v1 : Int32) (v2 : Int32) (v3 : Int32) (v4 : Int32) (v5 : Int32) (w0 : Int32), fX8_takes_L69 k41 u v1 v2 v3 v4 v5 w0 = some (r, τ) → G u 69 [(0, .ref (a 0)), (1, .int v1), (2, .int v2), (3, .int v3), (4, .int v4), (5, .int v5)] [.int w0] := by
    intro k41 hk41 u v1 v2 v3 v4 v5 w0 h
    rw [fX8_takes_L69] at h
    refine rl_istore hG [(6, .int w0), (0, .ref (a 0)), (1, .int v1), (2, .int v2), (3, .int v3), (4, .int v4), (5, .int v5)] dX8_takes_69 (Nat.le_of_ble_eq_true rfl) rfl rfl ?_
    refine rl_aload_n hG dX8_takes_71 rfl 1 rfl ?_
    refine rl_iconst hG (v := 1) dX8_takes_72 (by decide) ?_
    refine rl_iload_n hG dX8_takes_73 rfl 2 rfl ?_
    refine rl_ishl hG dX8_takes_74 ?_
    obtain ⟨u7, eu7, h⟩ := bd_ok h
    refine rl_put hG iX8_takes_X8 tyX8 tyX8_ok nmX8 0 (gM_0 a cI u) hcX8 21 (Nat.le_of_ble_eq_true rfl) nX8_takes_0 rfl rfl (Nat.le_of_ble_eq_true rfl) (σ' := u7) ((sM_0_21 a cI u _).trans (congrArg _ eu7.symm)) dX8_takes_75 ?_
    refine rl_aload_n hG dX8_takes_78 rfl 1 rfl ?_
    refine rl_iload_n hG dX8_takes_79 rfl 3 rfl ?_
    refine rl_iload hG dX8_takes_80 6 rfl ?_
    obtain ⟨x8, hx8q, h⟩ := o1_ok h
    refine rl_callVi hG ro_0_ok (As := [.int v2, .int v5]) (kX8_code l D a cI aS u7 v2 v5 x8  hx8q) gX8_takes_X8_code rfl 0 (gM_0 a cI u7) hcX8 2 rfl (by decide +kernel) rfl rfl (by decide) (Nat.le_of_ble_eq_true rfl) rfl dX8_takes_82 ?_
    refine rl_if_le hG (tgt := 92) dX8_takes_85 (by decide) (fun c9 => ?_) (fun c9 => ?_)
    · have h := it_t h c9
      refine rl_iconst hG (v := 0) dX8_takes_92 (by decide) ?_
      exact rl_lvs hG [1, 2, 3, 4, 5, 6, 0] rfl (H93 (k41) (hk41) u7 v1 v2 v3 v4 v5 w0 (0 : Int32) h)
    · have h := it_f h c9
      refine rl_iconst hG (v := 1) dX8_takes_88 (by decide) ?_
      refine rl_goto hG (tgt := 93) dX8_takes_89 (by decide) ?_
      exact rl_lvs hG [1, 2, 3, 4, 5, 6, 0] rfl (H93 (k41) (hk41) u7 v1 v2 v3 v4 v5 w0 (1 : Int32) h)
  have H41 : ∀ (n : Nat) (u : St) (v1 : Int32) (v2 : Int32) (v3 : Int32) (v4 : Int32) (v5 : Int32), fX8_takes_L41 n u v1 v2 v3 v4 v5 = some (r, τ) → G u 41 [(0, .ref (a 0)), (1, .int v1), (2, .int v2), (3, .int v3), (4, .int v4), (5, .int v5)] [] := by
    intro n
    induction n with
    | zero =>
      intro u v1 v2 v3 v4 v5 h
      exact absurd h (by rw [fX8_takes_L41]; exact fun q => by cases q)
    | succ n ih =>
      intro u v1 v2 v3 v4 v5 h
      rw [fX8_takes_L41] at h
      refine rl_iload hG dX8_takes_41 5 rfl ?_
      refine rl_sipush hG (v := 240) dX8_takes_43 (by decide) ?_
      refine rl_icmp_ge hG (tgt := 140) dX8_takes_46 (by decide) (fun c10 => ?_) (fun c10 => ?_)
      · have h := it_t h c10
        refine rl_iload hG dX8_takes_140 4 rfl ?_
        exact rl_ret2 hret h rfl dX8_takes_142
      · have h := it_f h c10
        refine rl_aload_n hG dX8_takes_49 rfl 0 rfl ?_
        refine rl_iconst hG (v := 0) dX8_takes_50 (by decide) ?_
        obtain ⟨u11, eu11, h⟩ := bd_ok h
        refine rl_put hG iX8_takes_X8 tyX8 tyX8_ok nmX8 0 (gM_0 a cI u) hcX8 21 (Nat.le_of_ble_eq_true rfl) nX8_takes_0 rfl rfl (Nat.le_of_ble_eq_true rfl) (σ' := u11) ((sM_0_21 a cI u _).trans (congrArg _ eu11.symm)) dX8_takes_51 ?_
        refine rl_aload_n hG dX8_takes_54 rfl 0 rfl ?_
        refine rl_iload_n hG dX8_takes_55 rfl 2 rfl ?_
        refine rl_iload hG dX8_takes_56 5 rfl ?_
        obtain ⟨x12, hx12q, h⟩ := o1_ok h
        refine rl_callVi hG ro_0_ok (As := [.int v2, .int v5]) (kX8_code l D a cI aS u11 v2 v5 x12  hx12q) gX8_takes_X8_code rfl 0 (gM_0 a cI u11) hcX8 2 rfl (by decide +kernel) rfl rfl (by decide) (Nat.le_of_ble_eq_true rfl) rfl dX8_takes_58 ?_
        refine rl_if_le hG (tgt := 68) dX8_takes_61 (by decide) (fun c13 => ?_) (fun c13 => ?_)
        · have h := it_t h c13
          refine rl_iconst hG (v := 0) dX8_takes_68 (by decide) ?_
          exact rl_lvs hG [0, 1, 2, 3, 4, 5] rfl (H69 (fX8_takes_L41 n) (ih) u11 v1 v2 v3 v4 v5 (0 : Int32) h)
        · have h := it_f h c13
          refine rl_iconst hG (v := 1) dX8_takes_64 (by decide) ?_
          refine rl_goto hG (tgt := 69) dX8_takes_65 (by decide) ?_
          exact rl_lvs hG [0, 1, 2, 3, 4, 5] rfl (H69 (fX8_takes_L41 n) (ih) u11 v1 v2 v3 v4 v5 (1 : Int32) h)
  have h := h0
  rw [fX8_takes] at h
  show G u 0 [(0, .ref (a 0)), (1, .int p1), (2, .int p2), (3, .int p3)] []
  refine rl_aload_n hG dX8_takes_0 rfl 0 rfl ?_
  refine rl_iload_n hG dX8_takes_1 rfl 1 rfl ?_
  obtain ⟨x14, hx14q, zx14, h⟩ := oz_ok h
  refine rl_callVi hG ro_0_ok (As := [.int p1]) (kX8_isBound l D a cI aS u p1 x14  hx14q) gX8_takes_X8_isBound rfl 0 (gM_0 a cI u) hcX8 1 rfl (by decide +kernel) rfl rfl (by decide) (Nat.le_of_ble_eq_true rfl) rfl dX8_takes_2 ?_
  refine rl_if_eq hG (tgt := 15) dX8_takes_5 (by decide) (fun c15 => ?_) (fun c15 => ?_)
  · have h := it_t h c15
    refine rl_bipush hG (v := -2) dX8_takes_15 (by decide) ?_
    exact rl_ret2 hret h rfl dX8_takes_17
  · have h := it_f h c15
    refine rl_iload_n hG dX8_takes_8 rfl 2 rfl ?_
    obtain ⟨x16, hx16q, zx16, h⟩ := oz_ok h
    refine rl_callZi hG (As := [.int p2]) (kX8_isGuild l D u p2 x16 hx16q) gX8_takes_X8_isGuild rfl 1 rfl (by decide +kernel) rfl rfl (by decide) (Nat.le_of_ble_eq_true rfl) rfl dX8_takes_9 ?_
    refine rl_if_ne hG (tgt := 18) dX8_takes_12 (by decide) (fun c17 => ?_) (fun c17 => ?_)
    · have h := it_f h c17
      refine rl_iload_n hG dX8_takes_18 rfl 3 rfl ?_
      refine rl_i2l hG dX8_takes_19 ?_
      refine rl_lconst hG (v := 0) dX8_takes_20 (by decide) ?_
      refine rl_lconst hG (v := 1) dX8_takes_21 (by decide) ?_
      obtain ⟨x18, hx18q, zx18, h⟩ := oz_ok h
      refine rl_callZi hG (As := [.long p3.toInt64, .long (0 : Int64), .long (1 : Int64)]) (kX8_in l D u p3.toInt64 (0 : Int64) (1 : Int64) x18 hx18q) gX8_takes_X8_in rfl 3 rfl (by decide +kernel) rfl rfl (by decide) (Nat.le_of_ble_eq_true rfl) rfl dX8_takes_22 ?_
      refine rl_if_ne hG (tgt := 31) dX8_takes_25 (by decide) (fun c19 => ?_) (fun c19 => ?_)
      · have h := it_f h c19
        refine rl_aload_n hG dX8_takes_31 rfl 0 rfl ?_
        obtain ⟨u20, hu20q, h⟩ := o1_ok h
        refine rl_callVv hG ro_0_ok (As := []) (kX8_allThere l D a cI aS u  u20  hu20q) gX8_takes_X8_allThere rfl 0 (gM_0 a cI u) hcX8 0 rfl (by decide +kernel) rfl rfl (by decide) (Nat.le_of_ble_eq_true rfl) rfl dX8_takes_32 ?_
        refine rl_iconst hG (v := 0) dX8_takes_35 (by decide) ?_
        refine rl_istore hG [(4, .int (0 : Int32)), (0, .ref (a 0)), (1, .int p1), (2, .int p2), (3, .int p3)] dX8_takes_36 (Nat.le_of_ble_eq_true rfl) rfl rfl ?_
        refine rl_iconst hG (v := 0) dX8_takes_38 (by decide) ?_
        refine rl_istore hG [(5, .int (0 : Int32)), (4, .int (0 : Int32)), (0, .ref (a 0)), (1, .int p1), (2, .int p2), (3, .int p3)] dX8_takes_39 (Nat.le_of_ble_eq_true rfl) rfl rfl ?_
        exact rl_lvs hG [2, 3, 4, 5, 1, 0] rfl (H41 2000 u20 p1 p2 p3 (0 : Int32) (0 : Int32) h)
      · have h := it_t h c19
        refine rl_bipush hG (v := -3) dX8_takes_28 (by decide) ?_
        exact rl_ret2 hret h rfl dX8_takes_30
    · have h := it_t h c17
      refine rl_bipush hG (v := -2) dX8_takes_15 (by decide) ?_
      exact rl_ret2 hret h rfl dX8_takes_17
def fX8_isIdle_L2   : Nat → St → Int32 → Int32 → Option (Int32 × St)
  | 0 => fun _ _ _ => none
  | n + 1 => fun u v1 v2 => (if (1440 : Int32) ≤ v2 then some ((1 : Int32), u) else bd (st_wr u 0 21 (0 : Int32)) (fun u2 => o1 (fX8_code u2 (v2 / (240 : Int32)) (v2 - v2 / (240 : Int32) * (240 : Int32))) (fun x3 => bd (st_wr u2 0 21 ((1 : Int32) <<< (v1 &&& 31))) (fun u4 => o1 (fX8_code u4 (v2 / (240 : Int32)) (v2 - v2 / (240 : Int32) * (240 : Int32))) (fun x5 => (if x5 = x3 then bd (v2 + (1 : Int32)) (fun x7 => fX8_isIdle_L2 n u4 v1 x7) else some ((0 : Int32), u4)))))))
def fX8_isIdle (u : St)  (p1 : Int32) : Option (Int32 × St) := fX8_isIdle_L2 2000 u p1 (0 : Int32)
theorem nX8_isIdle_0 : Cond.fieldLink RX8 130 "WhoseWorkModel" "out" "I" ∈ wsX8_isIdle := by decide +kernel
theorem iX8_isIdle_X8 : ∀ w ∈ wsX80, w ∈ wsX8_isIdle := by decide +kernel
set_option maxRecDepth 100000 in
set_option maxHeartbeats 4000000 in
theorem kX8_isIdle (l : Launch) (D : va_G) (a : Nat → Nat) (cI : ClassId) (aS : Nat → Prop) (u : St)  (p1 : Int32) (r : Int32) (τ : St)  (h0 : fX8_isIdle u p1 = some (r, τ)) : rl_Mi l yX8_isIdle wsX8_isIdle ({ frames := 3, cells := 0, slots := 0, locals := 76 } : Room) D (tyM cI) (wM a cI) ro_0 aS [.ref (a 0), .int p1] u r τ := by
  refine rl_meth_i (cc := cX8_isIdle) (maxL := 4) (own := RX8) (ty := .boolean) (by decide) rfl rfl (Nat.le_of_ble_eq_true rfl) ?_
  intro G hG hret
  have H2 : ∀ (n : Nat) (u : St) (v1 : Int32) (v2 : Int32), fX8_isIdle_L2 n u v1 v2 = some (r, τ) → G u 2 [(0, .ref (a 0)), (1, .int v1), (2, .int v2)] [] := by
    intro n
    induction n with
    | zero =>
      intro u v1 v2 h
      exact absurd h (by rw [fX8_isIdle_L2]; exact fun q => by cases q)
    | succ n ih =>
      intro u v1 v2 h
      rw [fX8_isIdle_L2] at h
      refine rl_iload_n hG dX8_isIdle_2 rfl 2 rfl ?_
      refine rl_sipush hG (v := 1440) dX8_isIdle_3 (by decide) ?_
      refine rl_icmp_ge hG (tgt := 62) dX8_isIdle_6 (by decide) (fun c1 => ?_) (fun c1 => ?_)
      · have h := it_t h c1
        refine rl_iconst hG (v := 1) dX8_isIdle_62 (by decide) ?_
        exact rl_ret2 hret h rfl dX8_isIdle_63
      · have h := it_f h c1
        refine rl_aload_n hG dX8_isIdle_9 rfl 0 rfl ?_
        refine rl_iconst hG (v := 0) dX8_isIdle_10 (by decide) ?_
        obtain ⟨u2, eu2, h⟩ := bd_ok h
        refine rl_put hG iX8_isIdle_X8 tyX8 tyX8_ok nmX8 0 (gM_0 a cI u) hcX8 21 (Nat.le_of_ble_eq_true rfl) nX8_isIdle_0 rfl rfl (Nat.le_of_ble_eq_true rfl) (σ' := u2) ((sM_0_21 a cI u _).trans (congrArg _ eu2.symm)) dX8_isIdle_11 ?_
        refine rl_aload_n hG dX8_isIdle_14 rfl 0 rfl ?_
        refine rl_iload_n hG dX8_isIdle_15 rfl 2 rfl ?_
        refine rl_sipush hG (v := 240) dX8_isIdle_16 (by decide) ?_
        refine rl_idiv hG dX8_isIdle_19 (by decide) ?_
        refine rl_iload_n hG dX8_isIdle_20 rfl 2 rfl ?_
        refine rl_sipush hG (v := 240) dX8_isIdle_21 (by decide) ?_
        refine rl_irem hG dX8_isIdle_24 (by decide) ?_
        obtain ⟨x3, hx3q, h⟩ := o1_ok h
        refine rl_callVi hG ro_0_ok (As := [.int (v2 / (240 : Int32)), .int (v2 - v2 / (240 : Int32) * (240 : Int32))]) (kX8_code l D a cI aS u2 (v2 / (240 : Int32)) (v2 - v2 / (240 : Int32) * (240 : Int32)) x3  hx3q) gX8_isIdle_X8_code rfl 0 (gM_0 a cI u2) hcX8 2 rfl (by decide +kernel) rfl rfl (by decide) (Nat.le_of_ble_eq_true rfl) rfl dX8_isIdle_25 ?_
        refine rl_istore_n hG [(3, .int x3), (0, .ref (a 0)), (1, .int v1), (2, .int v2)] dX8_isIdle_28 rfl (Nat.le_of_ble_eq_true rfl) rfl rfl ?_
        refine rl_aload_n hG dX8_isIdle_29 rfl 1 rfl ?_
        refine rl_iconst hG (v := 1) dX8_isIdle_30 (by decide) ?_
        refine rl_iload_n hG dX8_isIdle_31 rfl 2 rfl ?_
        refine rl_ishl hG dX8_isIdle_32 ?_
        obtain ⟨u4, eu4, h⟩ := bd_ok h
        refine rl_put hG iX8_isIdle_X8 tyX8 tyX8_ok nmX8 0 (gM_0 a cI u2) hcX8 21 (Nat.le_of_ble_eq_true rfl) nX8_isIdle_0 rfl rfl (Nat.le_of_ble_eq_true rfl) (σ' := u4) ((sM_0_21 a cI u2 _).trans (congrArg _ eu4.symm)) dX8_isIdle_33 ?_
        refine rl_aload_n hG dX8_isIdle_36 rfl 1 rfl ?_
        refine rl_iload_n hG dX8_isIdle_37 rfl 3 rfl ?_
        refine rl_sipush hG (v := 240) dX8_isIdle_38 (by decide) ?_
        refine rl_idiv hG dX8_isIdle_41 (by decide) ?_
        refine rl_iload_n hG dX8_isIdle_42 rfl 3 rfl ?_
        refine rl_sipush hG (v := 240) dX8_isIdle_43 (by decide) ?_
        refine rl_irem hG dX8_isIdle_46 (by decide) ?_
        obtain ⟨x5, hx5q, h⟩ := o1_ok h
        refine rl_callVi hG ro_0_ok (As := [.int (v2 / (240 : Int32)), .int (v2 - v2 / (240 : Int32) * (240 : Int32))]) (kX8_code l D a cI aS u4 (v2 / (240 : Int32)) (v2 - v2 / (240 : Int32) * (240 : Int32)) x5  hx5q) gX8_isIdle_X8_code rfl 0 (gM_0 a cI u4) hcX8 2 rfl (by decide +kernel) rfl rfl (by decide) (Nat.le_of_ble_eq_true rfl) rfl dX8_isIdle_47 ?_
        refine rl_iload_n hG dX8_isIdle_50 rfl 0 rfl ?_
        refine rl_icmp_eq hG (tgt := 56) dX8_isIdle_51 (by decide) (fun c6 => ?_) (fun c6 => ?_)
        · have h := it_t h c6
          obtain ⟨x7, ex7, h⟩ := bd_ok h
          refine rl_iinc hG [(2, .int x7), (3, .int x3), (0, .ref (a 0)), (1, .int v1)] dX8_isIdle_56 3 rfl (by rw [ex7]; rfl) (Nat.le_of_ble_eq_true rfl) rfl ?_
          refine rl_goto hG (tgt := 2) dX8_isIdle_59 (by decide) ?_
          exact rl_lvs hG [2, 3, 0] rfl (ih u4 v1 x7 h)
        · have h := it_f h c6
          refine rl_iconst hG (v := 0) dX8_isIdle_54 (by decide) ?_
          exact rl_ret2 hret h rfl dX8_isIdle_55
  have h := h0
  rw [fX8_isIdle] at h
  show G u 0 [(0, .ref (a 0)), (1, .int p1)] []
  refine rl_iconst hG (v := 0) dX8_isIdle_0 (by decide) ?_
  refine rl_istore_n hG [(2, .int (0 : Int32)), (0, .ref (a 0)), (1, .int p1)] dX8_isIdle_1 rfl (Nat.le_of_ble_eq_true rfl) rfl rfl ?_
  exact rl_lvs hG [1, 2, 0] rfl (H2 2000 u p1 (0 : Int32) h)
def fX8_idle_L32  (k8 : St → Int32 → Int32 → Option (Int32 × St)) (u : St) (v2 : Int32) (w0 : Int32) (w1 : Int32) : Option (Int32 × St) := bd (w1 ||| w0) (fun x1 => bd (v2 + (1 : Int32)) (fun x2 => k8 u x1 x2))
def fX8_idle_L8   : Nat → St → Int32 → Int32 → Option (Int32 × St)
  | 0 => fun _ _ _ => none
  | n + 1 => fun u v1 v2 => (if (u 0 3) ≤ v2 then some (v1, u) else o2z (fX8_isIdle u v2) (fun x4 u5 => (if x4 = (0 : Int32) then fX8_idle_L32 (fX8_idle_L8 n) u5 v2 (0 : Int32) v1 else fX8_idle_L32 (fX8_idle_L8 n) u5 v2 ((1 : Int32) <<< (v2 &&& 31)) v1)))
def fX8_idle (u : St)   : Option (Int32 × St) := o1 (fX8_allThere u) (fun u7 => fX8_idle_L8 2000 u7 (0 : Int32) (0 : Int32))
theorem nX8_idle_0 : Cond.fieldLink RX8 119 "WhoseWorkModel" "boundMany" "I" ∈ wsX8_idle := by decide +kernel
theorem iX8_idle_X8 : ∀ w ∈ wsX80, w ∈ wsX8_idle := by decide +kernel
set_option maxRecDepth 100000 in
set_option maxHeartbeats 4000000 in
theorem kX8_idle (l : Launch) (D : va_G) (a : Nat → Nat) (cI : ClassId) (aS : Nat → Prop) (u : St)   (r : Int32) (τ : St)  (h0 : fX8_idle u = some (r, τ)) : rl_Mi l yX8_idle wsX8_idle ({ frames := 4, cells := 0, slots := 0, locals := 99 } : Room) D (tyM cI) (wM a cI) ro_0 aS [.ref (a 0)] u r τ := by
  refine rl_meth_i (cc := cX8_idle) (maxL := 3) (own := RX8) (ty := .int) (by decide) rfl rfl (Nat.le_of_ble_eq_true rfl) ?_
  intro G hG hret
  have H32 : ∀ (k8 : St → Int32 → Int32 → Option (Int32 × St)) (hk8 : ∀ (u : St) (v1 : Int32) (v2 : Int32), k8 u v1 v2 = some (r, τ) → G u 8 [(0, .ref (a 0)), (1, .int v1), (2, .int v2)] []), ∀ (u : St) (v2 : Int32) (w0 : Int32) (w1 : Int32), fX8_idle_L32 k8 u v2 w0 w1 = some (r, τ) → G u 32 [(0, .ref (a 0)), (2, .int v2)] [.int w0, .int w1] := by
    intro k8 hk8 u v2 w0 w1 h
    rw [fX8_idle_L32] at h
    refine rl_ior hG dX8_idle_32 ?_
    obtain ⟨x1, ex1, h⟩ := bd_ok h
    refine rl_istore_n hG [(1, .int x1), (0, .ref (a 0)), (2, .int v2)] dX8_idle_33 rfl (Nat.le_of_ble_eq_true rfl) ex1 rfl ?_
    obtain ⟨x2, ex2, h⟩ := bd_ok h
    refine rl_iinc hG [(2, .int x2), (1, .int x1), (0, .ref (a 0))] dX8_idle_34 2 rfl (by rw [ex2]; rfl) (Nat.le_of_ble_eq_true rfl) rfl ?_
    refine rl_goto hG (tgt := 8) dX8_idle_37 (by decide) ?_
    exact rl_lvs hG [2, 1, 0] rfl (hk8 u x1 x2 h)
  have H8 : ∀ (n : Nat) (u : St) (v1 : Int32) (v2 : Int32), fX8_idle_L8 n u v1 v2 = some (r, τ) → G u 8 [(0, .ref (a 0)), (1, .int v1), (2, .int v2)] [] := by
    intro n
    induction n with
    | zero =>
      intro u v1 v2 h
      exact absurd h (by rw [fX8_idle_L8]; exact fun q => by cases q)
    | succ n ih =>
      intro u v1 v2 h
      rw [fX8_idle_L8] at h
      refine rl_iload_n hG dX8_idle_8 rfl 2 rfl ?_
      refine rl_aload_n hG dX8_idle_9 rfl 0 rfl ?_
      refine rl_get hG iX8_idle_X8 0 (gM_0 a cI u) hcX8 3 (Nat.le_of_ble_eq_true rfl) nX8_idle_0 rfl dX8_idle_10 ?_
      refine rl_icmp_ge hG (tgt := 40) dX8_idle_13 (by decide) (fun c3 => ?_) (fun c3 => ?_)
      · have h := it_t h c3
        refine rl_iload_n hG dX8_idle_40 rfl 1 rfl ?_
        exact rl_ret2 hret h rfl dX8_idle_41
      · have h := it_f h c3
        refine rl_iload_n hG dX8_idle_16 rfl 1 rfl ?_
        refine rl_aload_n hG dX8_idle_17 rfl 0 rfl ?_
        refine rl_iload_n hG dX8_idle_18 rfl 2 rfl ?_
        obtain ⟨x4, u5, hx4q, zx4, h⟩ := o2z_ok h
        refine rl_callVi hG ro_0_ok (As := [.int v2]) (kX8_isIdle l D a cI aS u v2 x4 u5  hx4q) gX8_idle_X8_isIdle rfl 0 (gM_0 a cI u) hcX8 1 rfl (by decide +kernel) rfl rfl (by decide) (Nat.le_of_ble_eq_true rfl) rfl dX8_idle_19 ?_
        refine rl_if_eq hG (tgt := 31) dX8_idle_22 (by decide) (fun c6 => ?_) (fun c6 => ?_)
        · have h := it_t h c6
          refine rl_iconst hG (v := 0) dX8_idle_31 (by decide) ?_
          exact rl_lvs hG [0, 2] rfl (H32 (fX8_idle_L8 n) (ih) u5 v2 (0 : Int32) v1 h)
        · have h := it_f h c6
          refine rl_iconst hG (v := 1) dX8_idle_25 (by decide) ?_
          refine rl_iload_n hG dX8_idle_26 rfl 2 rfl ?_
          refine rl_ishl hG dX8_idle_27 ?_
          refine rl_goto hG (tgt := 32) dX8_idle_28 (by decide) ?_
          exact rl_lvs hG [0, 2] rfl (H32 (fX8_idle_L8 n) (ih) u5 v2 ((1 : Int32) <<< (v2 &&& 31)) v1 h)
  have h := h0
  rw [fX8_idle] at h
  show G u 0 [(0, .ref (a 0))] []
  refine rl_aload_n hG dX8_idle_0 rfl 0 rfl ?_
  obtain ⟨u7, hu7q, h⟩ := o1_ok h
  refine rl_callVv hG ro_0_ok (As := []) (kX8_allThere l D a cI aS u  u7  hu7q) gX8_idle_X8_allThere rfl 0 (gM_0 a cI u) hcX8 0 rfl (by decide +kernel) rfl rfl (by decide) (Nat.le_of_ble_eq_true rfl) rfl dX8_idle_1 ?_
  refine rl_iconst hG (v := 0) dX8_idle_4 (by decide) ?_
  refine rl_istore_n hG [(1, .int (0 : Int32)), (0, .ref (a 0))] dX8_idle_5 rfl (Nat.le_of_ble_eq_true rfl) rfl rfl ?_
  refine rl_iconst hG (v := 0) dX8_idle_6 (by decide) ?_
  refine rl_istore_n hG [(2, .int (0 : Int32)), (1, .int (0 : Int32)), (0, .ref (a 0))] dX8_idle_7 rfl (Nat.le_of_ble_eq_true rfl) rfl rfl ?_
  exact rl_lvs hG [2, 1, 0] rfl (H8 2000 u7 (0 : Int32) (0 : Int32) h)
def fX8_seize (u : St)  (p1 : Int32) (p2 : Int32) (p3 : Int32) : Option (Int32 × St) := oz (fX8_isGuild p1) (fun x1 => (if x1 = (0 : Int32) then some ((-2 : Int32), u) else oz (fX8_isWork p2) (fun x3 => (if x3 = (0 : Int32) then some ((-2 : Int32), u) else oz (fX8_in p3.toInt64 (0 : Int64) (u 0 3).toInt64) (fun x5 => (if x5 = (0 : Int32) then some ((-3 : Int32), u) else (if (u 0 15) = (16 : Int32) then some ((-5 : Int32), u) else asr u 11 16 (u 0 15) p1 (fun u8 => asr u8 10 16 (u8 0 15) p2 (fun u9 => asr u9 9 16 (u9 0 15) p3 (fun u10 => bd (st_wr u10 0 15 ((u10 0 15) + (1 : Int32))) (fun u11 => some ((u11 0 15), u11))))))))))))
theorem nX8_seize_0 : Cond.fieldLink RX8 119 "WhoseWorkModel" "boundMany" "I" ∈ wsX8_seize := by decide +kernel
theorem nX8_seize_1 : Cond.fieldLink RX8 225 "WhoseWorkModel" "seizures" "I" ∈ wsX8_seize := by decide +kernel
theorem nX8_seize_2 : Cond.fieldLink RX8 40 "WhoseWorkModel" "seizedFrom" "[I" ∈ wsX8_seize := by decide +kernel
theorem nX8_seize_3 : Cond.fieldLink RX8 37 "WhoseWorkModel" "seizedAt" "[I" ∈ wsX8_seize := by decide +kernel
theorem nX8_seize_4 : Cond.fieldLink RX8 34 "WhoseWorkModel" "seizedBy" "[I" ∈ wsX8_seize := by decide +kernel
theorem iX8_seize_X8 : ∀ w ∈ wsX80, w ∈ wsX8_seize := by decide +kernel
set_option maxRecDepth 100000 in
set_option maxHeartbeats 4000000 in
theorem kX8_seize (l : Launch) (D : va_G) (a : Nat → Nat) (cI : ClassId) (aS : Nat → Prop) (u : St)  (p1 : Int32) (p2 : Int32) (p3 : Int32) (r : Int32) (τ : St)  (h0 : fX8_seize u p1 p2 p3 = some (r, τ)) : rl_Mi l yX8_seize wsX8_seize ({ frames := 2, cells := 0, slots := 0, locals := 45 } : Room) D (tyM cI) (wM a cI) ro_0 aS [.ref (a 0), .int p1, .int p2, .int p3] u r τ := by
  refine rl_meth_i (cc := cX8_seize) (maxL := 4) (own := RX8) (ty := .int) (by decide) rfl rfl (Nat.le_of_ble_eq_true rfl) ?_
  intro G hG hret
  have h := h0
  rw [fX8_seize] at h
  show G u 0 [(0, .ref (a 0)), (1, .int p1), (2, .int p2), (3, .int p3)] []
  refine rl_iload_n hG dX8_seize_0 rfl 1 rfl ?_
  obtain ⟨x1, hx1q, zx1, h⟩ := oz_ok h
  refine rl_callZi hG (As := [.int p1]) (kX8_isGuild l D u p1 x1 hx1q) gX8_seize_X8_isGuild rfl 1 rfl (by decide +kernel) rfl rfl (by decide) (Nat.le_of_ble_eq_true rfl) rfl dX8_seize_1 ?_
  refine rl_if_eq hG (tgt := 14) dX8_seize_4 (by decide) (fun c2 => ?_) (fun c2 => ?_)
  · have h := it_t h c2
    refine rl_bipush hG (v := -2) dX8_seize_14 (by decide) ?_
    exact rl_ret2 hret h rfl dX8_seize_16
  · have h := it_f h c2
    refine rl_iload_n hG dX8_seize_7 rfl 2 rfl ?_
    obtain ⟨x3, hx3q, zx3, h⟩ := oz_ok h
    refine rl_callZi hG (As := [.int p2]) (kX8_isWork l D u p2 x3 hx3q) gX8_seize_X8_isWork rfl 1 rfl (by decide +kernel) rfl rfl (by decide) (Nat.le_of_ble_eq_true rfl) rfl dX8_seize_8 ?_
    refine rl_if_ne hG (tgt := 17) dX8_seize_11 (by decide) (fun c4 => ?_) (fun c4 => ?_)
    · have h := it_f h c4
      refine rl_iload_n hG dX8_seize_17 rfl 3 rfl ?_
      refine rl_i2l hG dX8_seize_18 ?_
      refine rl_lconst hG (v := 0) dX8_seize_19 (by decide) ?_
      refine rl_aload_n hG dX8_seize_20 rfl 0 rfl ?_
      refine rl_get hG iX8_seize_X8 0 (gM_0 a cI u) hcX8 3 (Nat.le_of_ble_eq_true rfl) nX8_seize_0 rfl dX8_seize_21 ?_
      refine rl_i2l hG dX8_seize_24 ?_
      obtain ⟨x5, hx5q, zx5, h⟩ := oz_ok h
      refine rl_callZi hG (As := [.long p3.toInt64, .long (0 : Int64), .long (u 0 3).toInt64]) (kX8_in l D u p3.toInt64 (0 : Int64) (u 0 3).toInt64 x5 hx5q) gX8_seize_X8_in rfl 3 rfl (by decide +kernel) rfl rfl (by decide) (Nat.le_of_ble_eq_true rfl) rfl dX8_seize_25 ?_
      refine rl_if_ne hG (tgt := 34) dX8_seize_28 (by decide) (fun c6 => ?_) (fun c6 => ?_)
      · have h := it_f h c6
        refine rl_aload_n hG dX8_seize_34 rfl 0 rfl ?_
        refine rl_get hG iX8_seize_X8 0 (gM_0 a cI u) hcX8 15 (Nat.le_of_ble_eq_true rfl) nX8_seize_1 rfl dX8_seize_35 ?_
        refine rl_bipush hG (v := 16) dX8_seize_38 (by decide) ?_
        refine rl_icmp_ne hG (tgt := 46) dX8_seize_40 (by decide) (fun c7 => ?_) (fun c7 => ?_)
        · have h := it_f h c7
          refine rl_aload_n hG dX8_seize_46 rfl 0 rfl ?_
          refine rl_get hG iX8_seize_X8 0 (gM_0 a cI u) hcX8 14 (Nat.le_of_ble_eq_true rfl) nX8_seize_2 rfl dX8_seize_47 ?_
          refine rl_aload_n hG dX8_seize_50 rfl 0 rfl ?_
          refine rl_get hG iX8_seize_X8 0 (gM_0 a cI u) hcX8 15 (Nat.le_of_ble_eq_true rfl) nX8_seize_1 rfl dX8_seize_51 ?_
          refine rl_iload_n hG dX8_seize_54 rfl 1 rfl ?_
          obtain ⟨u8, iu8, eu8, h⟩ := asr_ok h
          refine rl_iast hG 11 0 (gM_11 a cI u) rfl iu8 (σ' := u8) ((sM_11 a cI u _).trans (congrArg _ eu8.symm)) dX8_seize_55 ?_
          refine rl_aload_n hG dX8_seize_56 rfl 0 rfl ?_
          refine rl_get hG iX8_seize_X8 0 (gM_0 a cI u8) hcX8 13 (Nat.le_of_ble_eq_true rfl) nX8_seize_3 rfl dX8_seize_57 ?_
          refine rl_aload_n hG dX8_seize_60 rfl 0 rfl ?_
          refine rl_get hG iX8_seize_X8 0 (gM_0 a cI u8) hcX8 15 (Nat.le_of_ble_eq_true rfl) nX8_seize_1 rfl dX8_seize_61 ?_
          refine rl_iload_n hG dX8_seize_64 rfl 2 rfl ?_
          obtain ⟨u9, iu9, eu9, h⟩ := asr_ok h
          refine rl_iast hG 10 0 (gM_10 a cI u8) rfl iu9 (σ' := u9) ((sM_10 a cI u8 _).trans (congrArg _ eu9.symm)) dX8_seize_65 ?_
          refine rl_aload_n hG dX8_seize_66 rfl 0 rfl ?_
          refine rl_get hG iX8_seize_X8 0 (gM_0 a cI u9) hcX8 12 (Nat.le_of_ble_eq_true rfl) nX8_seize_4 rfl dX8_seize_67 ?_
          refine rl_aload_n hG dX8_seize_70 rfl 0 rfl ?_
          refine rl_get hG iX8_seize_X8 0 (gM_0 a cI u9) hcX8 15 (Nat.le_of_ble_eq_true rfl) nX8_seize_1 rfl dX8_seize_71 ?_
          refine rl_iload_n hG dX8_seize_74 rfl 3 rfl ?_
          obtain ⟨u10, iu10, eu10, h⟩ := asr_ok h
          refine rl_iast hG 9 0 (gM_9 a cI u9) rfl iu10 (σ' := u10) ((sM_9 a cI u9 _).trans (congrArg _ eu10.symm)) dX8_seize_75 ?_
          refine rl_aload_n hG dX8_seize_76 rfl 0 rfl ?_
          refine rl_dup hG dX8_seize_77 rfl ?_
          refine rl_get hG iX8_seize_X8 0 (gM_0 a cI u10) hcX8 15 (Nat.le_of_ble_eq_true rfl) nX8_seize_1 rfl dX8_seize_78 ?_
          refine rl_iconst hG (v := 1) dX8_seize_81 (by decide) ?_
          refine rl_iadd hG dX8_seize_82 ?_
          obtain ⟨u11, eu11, h⟩ := bd_ok h
          refine rl_put hG iX8_seize_X8 tyX8 tyX8_ok nmX8 0 (gM_0 a cI u10) hcX8 15 (Nat.le_of_ble_eq_true rfl) nX8_seize_1 rfl rfl (Nat.le_of_ble_eq_true rfl) (σ' := u11) ((sM_0_15 a cI u10 _).trans (congrArg _ eu11.symm)) dX8_seize_83 ?_
          refine rl_aload_n hG dX8_seize_86 rfl 0 rfl ?_
          refine rl_get hG iX8_seize_X8 0 (gM_0 a cI u11) hcX8 15 (Nat.le_of_ble_eq_true rfl) nX8_seize_1 rfl dX8_seize_87 ?_
          exact rl_ret2 hret h rfl dX8_seize_90
        · have h := it_t h c7
          refine rl_bipush hG (v := -5) dX8_seize_43 (by decide) ?_
          exact rl_ret2 hret h rfl dX8_seize_45
      · have h := it_t h c6
        refine rl_bipush hG (v := -3) dX8_seize_31 (by decide) ?_
        exact rl_ret2 hret h rfl dX8_seize_33
    · have h := it_t h c4
      refine rl_bipush hG (v := -2) dX8_seize_14 (by decide) ?_
      exact rl_ret2 hret h rfl dX8_seize_16
def fX8_isRight (u : St)  (p1 : Int32) : Option (Int32 × St) := bd (st_wr u 0 21 (0 : Int32)) (fun u1 => ald u1 9 16 p1 (fun x2 => bd (st_wr u1 0 22 x2) (fun u3 => ald u3 11 16 p1 (fun x4 => ald u3 10 16 p1 (fun x5 => o1 (fX8_code u3 x4 x5) (fun x6 => (if x6 = (0 : Int32) then some ((1 : Int32), u3) else some ((0 : Int32), u3))))))))
theorem nX8_isRight_0 : Cond.fieldLink RX8 130 "WhoseWorkModel" "out" "I" ∈ wsX8_isRight := by decide +kernel
theorem nX8_isRight_1 : Cond.fieldLink RX8 34 "WhoseWorkModel" "seizedBy" "[I" ∈ wsX8_isRight := by decide +kernel
theorem nX8_isRight_2 : Cond.fieldLink RX8 127 "WhoseWorkModel" "upTo" "I" ∈ wsX8_isRight := by decide +kernel
theorem nX8_isRight_3 : Cond.fieldLink RX8 40 "WhoseWorkModel" "seizedFrom" "[I" ∈ wsX8_isRight := by decide +kernel
theorem nX8_isRight_4 : Cond.fieldLink RX8 37 "WhoseWorkModel" "seizedAt" "[I" ∈ wsX8_isRight := by decide +kernel
theorem iX8_isRight_X8 : ∀ w ∈ wsX80, w ∈ wsX8_isRight := by decide +kernel
set_option maxRecDepth 100000 in
set_option maxHeartbeats 4000000 in
theorem kX8_isRight (l : Launch) (D : va_G) (a : Nat → Nat) (cI : ClassId) (aS : Nat → Prop) (u : St)  (p1 : Int32) (r : Int32) (τ : St)  (h0 : fX8_isRight u p1 = some (r, τ)) : rl_Mi l yX8_isRight wsX8_isRight ({ frames := 3, cells := 0, slots := 0, locals := 76 } : Room) D (tyM cI) (wM a cI) ro_0 aS [.ref (a 0), .int p1] u r τ := by
  refine rl_meth_i (cc := cX8_isRight) (maxL := 2) (own := RX8) (ty := .boolean) (by decide) rfl rfl (Nat.le_of_ble_eq_true rfl) ?_
  intro G hG hret
  have h := h0
  rw [fX8_isRight] at h
  show G u 0 [(0, .ref (a 0)), (1, .int p1)] []
  refine rl_aload_n hG dX8_isRight_0 rfl 0 rfl ?_
  refine rl_iconst hG (v := 0) dX8_isRight_1 (by decide) ?_
  obtain ⟨u1, eu1, h⟩ := bd_ok h
  refine rl_put hG iX8_isRight_X8 tyX8 tyX8_ok nmX8 0 (gM_0 a cI u) hcX8 21 (Nat.le_of_ble_eq_true rfl) nX8_isRight_0 rfl rfl (Nat.le_of_ble_eq_true rfl) (σ' := u1) ((sM_0_21 a cI u _).trans (congrArg _ eu1.symm)) dX8_isRight_2 ?_
  refine rl_aload_n hG dX8_isRight_5 rfl 0 rfl ?_
  refine rl_aload_n hG dX8_isRight_6 rfl 0 rfl ?_
  refine rl_get hG iX8_isRight_X8 0 (gM_0 a cI u1) hcX8 12 (Nat.le_of_ble_eq_true rfl) nX8_isRight_1 rfl dX8_isRight_7 ?_
  refine rl_iload_n hG dX8_isRight_10 rfl 1 rfl ?_
  obtain ⟨x2, ix2, ex2, h⟩ := ald_ok h
  refine rl_iald hG 9 0 (gM_9 a cI u1) rfl ix2 ex2 dX8_isRight_11 ?_
  obtain ⟨u3, eu3, h⟩ := bd_ok h
  refine rl_put hG iX8_isRight_X8 tyX8 tyX8_ok nmX8 0 (gM_0 a cI u1) hcX8 22 (Nat.le_of_ble_eq_true rfl) nX8_isRight_2 rfl rfl (Nat.le_of_ble_eq_true rfl) (σ' := u3) ((sM_0_22 a cI u1 _).trans (congrArg _ eu3.symm)) dX8_isRight_12 ?_
  refine rl_aload_n hG dX8_isRight_15 rfl 0 rfl ?_
  refine rl_aload_n hG dX8_isRight_16 rfl 0 rfl ?_
  refine rl_get hG iX8_isRight_X8 0 (gM_0 a cI u3) hcX8 14 (Nat.le_of_ble_eq_true rfl) nX8_isRight_3 rfl dX8_isRight_17 ?_
  refine rl_iload_n hG dX8_isRight_20 rfl 1 rfl ?_
  obtain ⟨x4, ix4, ex4, h⟩ := ald_ok h
  refine rl_iald hG 11 0 (gM_11 a cI u3) rfl ix4 ex4 dX8_isRight_21 ?_
  refine rl_aload_n hG dX8_isRight_22 rfl 0 rfl ?_
  refine rl_get hG iX8_isRight_X8 0 (gM_0 a cI u3) hcX8 13 (Nat.le_of_ble_eq_true rfl) nX8_isRight_4 rfl dX8_isRight_23 ?_
  refine rl_iload_n hG dX8_isRight_26 rfl 1 rfl ?_
  obtain ⟨x5, ix5, ex5, h⟩ := ald_ok h
  refine rl_iald hG 10 0 (gM_10 a cI u3) rfl ix5 ex5 dX8_isRight_27 ?_
  obtain ⟨x6, hx6q, h⟩ := o1_ok h
  refine rl_callVi hG ro_0_ok (As := [.int x4, .int x5]) (kX8_code l D a cI aS u3 x4 x5 x6  hx6q) gX8_isRight_X8_code rfl 0 (gM_0 a cI u3) hcX8 2 rfl (by decide +kernel) rfl rfl (by decide) (Nat.le_of_ble_eq_true rfl) rfl dX8_isRight_28 ?_
  refine rl_if_ne hG (tgt := 38) dX8_isRight_31 (by decide) (fun c7 => ?_) (fun c7 => ?_)
  · have h := it_f h c7
    refine rl_iconst hG (v := 0) dX8_isRight_38 (by decide) ?_
    exact rl_ret2 hret h rfl dX8_isRight_39
  · have h := it_t h c7
    refine rl_iconst hG (v := 1) dX8_isRight_34 (by decide) ?_
    refine rl_goto hG (tgt := 39) dX8_isRight_35 (by decide) ?_
    exact rl_ret2 hret h rfl dX8_isRight_39
def fX8_right_L41   : Nat → St → Int32 → Option (Int32 × St)
  | 0 => fun _ _ => none
  | n + 1 => fun u v2 => (if (u 0 15) ≤ v2 then some ((-1 : Int32), u) else o2z (fX8_isRight u v2) (fun x2 u3 => (if x2 = (0 : Int32) then some (v2, u3) else bd (v2 + (1 : Int32)) (fun x5 => fX8_right_L41 n u3 x5))))
def fX8_right (u : St)  (p1 : Int32) : Option (Int32 × St) := oz (fX8_in p1.toInt64 (-1 : Int64) ((u 0 15) - (1 : Int32)).toInt64) (fun x6 => (if x6 = (0 : Int32) then some ((-2 : Int32), u) else (if p1 < (0 : Int32) then fX8_right_L41 2000 u (0 : Int32) else o2z (fX8_isRight u p1) (fun x9 u10 => (if x9 = (0 : Int32) then some ((0 : Int32), u10) else some ((1 : Int32), u10))))))
theorem nX8_right_0 : Cond.fieldLink RX8 225 "WhoseWorkModel" "seizures" "I" ∈ wsX8_right := by decide +kernel
theorem nX8_right_1 : Cond.constantLong RX8 228 (-1) ∈ wsX8_right := by decide +kernel
theorem iX8_right_X8 : ∀ w ∈ wsX80, w ∈ wsX8_right := by decide +kernel
set_option maxRecDepth 100000 in
set_option maxHeartbeats 4000000 in
theorem kX8_right (l : Launch) (D : va_G) (a : Nat → Nat) (cI : ClassId) (aS : Nat → Prop) (u : St)  (p1 : Int32) (r : Int32) (τ : St)  (h0 : fX8_right u p1 = some (r, τ)) : rl_Mi l yX8_right wsX8_right ({ frames := 4, cells := 0, slots := 0, locals := 97 } : Room) D (tyM cI) (wM a cI) ro_0 aS [.ref (a 0), .int p1] u r τ := by
  refine rl_meth_i (cc := cX8_right) (maxL := 3) (own := RX8) (ty := .int) (by decide) rfl rfl (Nat.le_of_ble_eq_true rfl) ?_
  intro G hG hret
  have H41 : ∀ (n : Nat) (u : St) (v2 : Int32), fX8_right_L41 n u v2 = some (r, τ) → G u 41 [(0, .ref (a 0)), (2, .int v2)] [] := by
    intro n
    induction n with
    | zero =>
      intro u v2 h
      exact absurd h (by rw [fX8_right_L41]; exact fun q => by cases q)
    | succ n ih =>
      intro u v2 h
      rw [fX8_right_L41] at h
      refine rl_iload_n hG dX8_right_41 rfl 1 rfl ?_
      refine rl_aload_n hG dX8_right_42 rfl 0 rfl ?_
      refine rl_get hG iX8_right_X8 0 (gM_0 a cI u) hcX8 15 (Nat.le_of_ble_eq_true rfl) nX8_right_0 rfl dX8_right_43 ?_
      refine rl_icmp_ge hG (tgt := 65) dX8_right_46 (by decide) (fun c1 => ?_) (fun c1 => ?_)
      · have h := it_t h c1
        refine rl_iconst hG (v := -1) dX8_right_65 (by decide) ?_
        exact rl_ret2 hret h rfl dX8_right_66
      · have h := it_f h c1
        refine rl_aload_n hG dX8_right_49 rfl 0 rfl ?_
        refine rl_iload_n hG dX8_right_50 rfl 1 rfl ?_
        obtain ⟨x2, u3, hx2q, zx2, h⟩ := o2z_ok h
        refine rl_callVi hG ro_0_ok (As := [.int v2]) (kX8_isRight l D a cI aS u v2 x2 u3  hx2q) gX8_right_X8_isRight rfl 0 (gM_0 a cI u) hcX8 1 rfl (by decide +kernel) rfl rfl (by decide) (Nat.le_of_ble_eq_true rfl) rfl dX8_right_51 ?_
        refine rl_if_ne hG (tgt := 59) dX8_right_54 (by decide) (fun c4 => ?_) (fun c4 => ?_)
        · have h := it_f h c4
          obtain ⟨x5, ex5, h⟩ := bd_ok h
          refine rl_iinc hG [(2, .int x5), (0, .ref (a 0))] dX8_right_59 1 rfl (by rw [ex5]; rfl) (Nat.le_of_ble_eq_true rfl) rfl ?_
          refine rl_goto hG (tgt := 41) dX8_right_62 (by decide) ?_
          exact rl_lvs hG [1, 0] rfl (ih u3 x5 h)
        · have h := it_t h c4
          refine rl_iload_n hG dX8_right_57 rfl 1 rfl ?_
          exact rl_ret2 hret h rfl dX8_right_58
  have h := h0
  rw [fX8_right] at h
  show G u 0 [(0, .ref (a 0)), (1, .int p1)] []
  refine rl_iload_n hG dX8_right_0 rfl 1 rfl ?_
  refine rl_i2l hG dX8_right_1 ?_
  refine rl_ldc2 hG (v := -1) dX8_right_2 nX8_right_1 ?_
  refine rl_aload_n hG dX8_right_5 rfl 0 rfl ?_
  refine rl_get hG iX8_right_X8 0 (gM_0 a cI u) hcX8 15 (Nat.le_of_ble_eq_true rfl) nX8_right_0 rfl dX8_right_6 ?_
  refine rl_iconst hG (v := 1) dX8_right_9 (by decide) ?_
  refine rl_isub hG dX8_right_10 ?_
  refine rl_i2l hG dX8_right_11 ?_
  obtain ⟨x6, hx6q, zx6, h⟩ := oz_ok h
  refine rl_callZi hG (As := [.long p1.toInt64, .long (-1 : Int64), .long ((u 0 15) - (1 : Int32)).toInt64]) (kX8_in l D u p1.toInt64 (-1 : Int64) ((u 0 15) - (1 : Int32)).toInt64 x6 hx6q) gX8_right_X8_in rfl 3 rfl (by decide +kernel) rfl rfl (by decide) (Nat.le_of_ble_eq_true rfl) rfl dX8_right_12 ?_
  refine rl_if_ne hG (tgt := 21) dX8_right_15 (by decide) (fun c7 => ?_) (fun c7 => ?_)
  · have h := it_f h c7
    refine rl_iload_n hG dX8_right_21 rfl 1 rfl ?_
    refine rl_if_lt hG (tgt := 39) dX8_right_22 (by decide) (fun c8 => ?_) (fun c8 => ?_)
    · have h := it_t h c8
      refine rl_iconst hG (v := 0) dX8_right_39 (by decide) ?_
      refine rl_istore_n hG [(2, .int (0 : Int32)), (0, .ref (a 0)), (1, .int p1)] dX8_right_40 rfl (Nat.le_of_ble_eq_true rfl) rfl rfl ?_
      exact rl_lvs hG [1, 0] rfl (H41 2000 u (0 : Int32) h)
    · have h := it_f h c8
      refine rl_aload_n hG dX8_right_25 rfl 0 rfl ?_
      refine rl_iload_n hG dX8_right_26 rfl 1 rfl ?_
      obtain ⟨x9, u10, hx9q, zx9, h⟩ := o2z_ok h
      refine rl_callVi hG ro_0_ok (As := [.int p1]) (kX8_isRight l D a cI aS u p1 x9 u10  hx9q) gX8_right_X8_isRight rfl 0 (gM_0 a cI u) hcX8 1 rfl (by decide +kernel) rfl rfl (by decide) (Nat.le_of_ble_eq_true rfl) rfl dX8_right_27 ?_
      refine rl_if_eq hG (tgt := 37) dX8_right_30 (by decide) (fun c11 => ?_) (fun c11 => ?_)
      · have h := it_t h c11
        refine rl_iconst hG (v := 0) dX8_right_37 (by decide) ?_
        exact rl_ret2 hret h rfl dX8_right_38
      · have h := it_f h c11
        refine rl_iconst hG (v := 1) dX8_right_33 (by decide) ?_
        refine rl_goto hG (tgt := 38) dX8_right_34 (by decide) ?_
        exact rl_ret2 hret h rfl dX8_right_38
  · have h := it_t h c7
    refine rl_bipush hG (v := -2) dX8_right_18 (by decide) ?_
    exact rl_ret2 hret h rfl dX8_right_20
def fX8_year (u : St)  (p1 : Int32) : Option (Int32 × St) := oz (fX8_isWork p1) (fun x1 => (if x1 = (0 : Int32) then some ((-2 : Int32), u) else (if (u 0 17) = (24 : Int32) then some ((-5 : Int32), u) else asr u 12 24 (u 0 17) p1 (fun u4 => bd (st_wr u4 0 17 ((u4 0 17) + (1 : Int32))) (fun u5 => some ((u5 0 17), u5))))))
theorem nX8_year_0 : Cond.fieldLink RX8 233 "WhoseWorkModel" "yearMany" "I" ∈ wsX8_year := by decide +kernel
theorem nX8_year_1 : Cond.fieldLink RX8 43 "WhoseWorkModel" "years" "[I" ∈ wsX8_year := by decide +kernel
theorem iX8_year_X8 : ∀ w ∈ wsX80, w ∈ wsX8_year := by decide +kernel
set_option maxRecDepth 100000 in
set_option maxHeartbeats 4000000 in
theorem kX8_year (l : Launch) (D : va_G) (a : Nat → Nat) (cI : ClassId) (aS : Nat → Prop) (u : St)  (p1 : Int32) (r : Int32) (τ : St)  (h0 : fX8_year u p1 = some (r, τ)) : rl_Mi l yX8_year wsX8_year ({ frames := 2, cells := 0, slots := 0, locals := 45 } : Room) D (tyM cI) (wM a cI) ro_0 aS [.ref (a 0), .int p1] u r τ := by
  refine rl_meth_i (cc := cX8_year) (maxL := 2) (own := RX8) (ty := .int) (by decide) rfl rfl (Nat.le_of_ble_eq_true rfl) ?_
  intro G hG hret
  have h := h0
  rw [fX8_year] at h
  show G u 0 [(0, .ref (a 0)), (1, .int p1)] []
  refine rl_iload_n hG dX8_year_0 rfl 1 rfl ?_
  obtain ⟨x1, hx1q, zx1, h⟩ := oz_ok h
  refine rl_callZi hG (As := [.int p1]) (kX8_isWork l D u p1 x1 hx1q) gX8_year_X8_isWork rfl 1 rfl (by decide +kernel) rfl rfl (by decide) (Nat.le_of_ble_eq_true rfl) rfl dX8_year_1 ?_
  refine rl_if_ne hG (tgt := 10) dX8_year_4 (by decide) (fun c2 => ?_) (fun c2 => ?_)
  · have h := it_f h c2
    refine rl_aload_n hG dX8_year_10 rfl 0 rfl ?_
    refine rl_get hG iX8_year_X8 0 (gM_0 a cI u) hcX8 17 (Nat.le_of_ble_eq_true rfl) nX8_year_0 rfl dX8_year_11 ?_
    refine rl_bipush hG (v := 24) dX8_year_14 (by decide) ?_
    refine rl_icmp_ne hG (tgt := 22) dX8_year_16 (by decide) (fun c3 => ?_) (fun c3 => ?_)
    · have h := it_f h c3
      refine rl_aload_n hG dX8_year_22 rfl 0 rfl ?_
      refine rl_get hG iX8_year_X8 0 (gM_0 a cI u) hcX8 16 (Nat.le_of_ble_eq_true rfl) nX8_year_1 rfl dX8_year_23 ?_
      refine rl_aload_n hG dX8_year_26 rfl 0 rfl ?_
      refine rl_get hG iX8_year_X8 0 (gM_0 a cI u) hcX8 17 (Nat.le_of_ble_eq_true rfl) nX8_year_0 rfl dX8_year_27 ?_
      refine rl_iload_n hG dX8_year_30 rfl 1 rfl ?_
      obtain ⟨u4, iu4, eu4, h⟩ := asr_ok h
      refine rl_iast hG 12 0 (gM_12 a cI u) rfl iu4 (σ' := u4) ((sM_12 a cI u _).trans (congrArg _ eu4.symm)) dX8_year_31 ?_
      refine rl_aload_n hG dX8_year_32 rfl 0 rfl ?_
      refine rl_dup hG dX8_year_33 rfl ?_
      refine rl_get hG iX8_year_X8 0 (gM_0 a cI u4) hcX8 17 (Nat.le_of_ble_eq_true rfl) nX8_year_0 rfl dX8_year_34 ?_
      refine rl_iconst hG (v := 1) dX8_year_37 (by decide) ?_
      refine rl_iadd hG dX8_year_38 ?_
      obtain ⟨u5, eu5, h⟩ := bd_ok h
      refine rl_put hG iX8_year_X8 tyX8 tyX8_ok nmX8 0 (gM_0 a cI u4) hcX8 17 (Nat.le_of_ble_eq_true rfl) nX8_year_0 rfl rfl (Nat.le_of_ble_eq_true rfl) (σ' := u5) ((sM_0_17 a cI u4 _).trans (congrArg _ eu5.symm)) dX8_year_39 ?_
      refine rl_aload_n hG dX8_year_42 rfl 0 rfl ?_
      refine rl_get hG iX8_year_X8 0 (gM_0 a cI u5) hcX8 17 (Nat.le_of_ble_eq_true rfl) nX8_year_0 rfl dX8_year_43 ?_
      exact rl_ret2 hret h rfl dX8_year_46
    · have h := it_t h c3
      refine rl_bipush hG (v := -5) dX8_year_19 (by decide) ?_
      exact rl_ret2 hret h rfl dX8_year_21
  · have h := it_t h c2
    refine rl_bipush hG (v := -2) dX8_year_7 (by decide) ?_
    exact rl_ret2 hret h rfl dX8_year_9
def fX8_yearly_L46  (k18 : St → Int32 → Int32 → Int32 → Option (Int32 × St)) (u : St) (v1 : Int32) (v3 : Int32) (w0 : Int32) (w1 : Int32) : Option (Int32 × St) := bd (w1 + w0) (fun x1 => bd (v3 + (1 : Int32)) (fun x2 => k18 u v1 x1 x2))
def fX8_yearly_L18   : Nat → St → Int32 → Int32 → Int32 → Option (Int32 × St)
  | 0 => fun _ _ _ _ => none
  | n + 1 => fun u v1 v2 v3 => (if (u 0 17) ≤ v3 then some (v2, u) else ald u 12 24 v3 (fun x4 => o1 (fX8_code u v1 x4) (fun x5 => (if x5 ≤ (0 : Int32) then fX8_yearly_L46 (fX8_yearly_L18 n) u v1 v3 (0 : Int32) v2 else fX8_yearly_L46 (fX8_yearly_L18 n) u v1 v3 (1 : Int32) v2))))
def fX8_yearly (u : St)  (p1 : Int32) : Option (Int32 × St) := oz (fX8_isGuild p1) (fun x7 => (if x7 = (0 : Int32) then some ((-2 : Int32), u) else o1 (fX8_allThere u) (fun u9 => fX8_yearly_L18 2000 u9 p1 (0 : Int32) (0 : Int32))))
theorem nX8_yearly_0 : Cond.fieldLink RX8 233 "WhoseWorkModel" "yearMany" "I" ∈ wsX8_yearly := by decide +kernel
theorem nX8_yearly_1 : Cond.fieldLink RX8 43 "WhoseWorkModel" "years" "[I" ∈ wsX8_yearly := by decide +kernel
theorem iX8_yearly_X8 : ∀ w ∈ wsX80, w ∈ wsX8_yearly := by decide +kernel
set_option maxRecDepth 100000 in
set_option maxHeartbeats 4000000 in
theorem kX8_yearly (l : Launch) (D : va_G) (a : Nat → Nat) (cI : ClassId) (aS : Nat → Prop) (u : St)  (p1 : Int32) (r : Int32) (τ : St)  (h0 : fX8_yearly u p1 = some (r, τ)) : rl_Mi l yX8_yearly wsX8_yearly ({ frames := 3, cells := 0, slots := 0, locals := 76 } : Room) D (tyM cI) (wM a cI) ro_0 aS [.ref (a 0), .int p1] u r τ := by
  refine rl_meth_i (cc := cX8_yearly) (maxL := 4) (own := RX8) (ty := .int) (by decide) rfl rfl (Nat.le_of_ble_eq_true rfl) ?_
  intro G hG hret
  have H46 : ∀ (k18 : St → Int32 → Int32 → Int32 → Option (Int32 × St)) (hk18 : ∀ (u : St) (v1 : Int32) (v2 : Int32) (v3 : Int32), k18 u v1 v2 v3 = some (r, τ) → G u 18 [(0, .ref (a 0)), (1, .int v1), (2, .int v2), (3, .int v3)] []), ∀ (u : St) (v1 : Int32) (v3 : Int32) (w0 : Int32) (w1 : Int32), fX8_yearly_L46 k18 u v1 v3 w0 w1 = some (r, τ) → G u 46 [(0, .ref (a 0)), (1, .int v1), (3, .int v3)] [.int w0, .int w1] := by
    intro k18 hk18 u v1 v3 w0 w1 h
    rw [fX8_yearly_L46] at h
    refine rl_iadd hG dX8_yearly_46 ?_
    obtain ⟨x1, ex1, h⟩ := bd_ok h
    refine rl_istore_n hG [(2, .int x1), (0, .ref (a 0)), (1, .int v1), (3, .int v3)] dX8_yearly_47 rfl (Nat.le_of_ble_eq_true rfl) ex1 rfl ?_
    obtain ⟨x2, ex2, h⟩ := bd_ok h
    refine rl_iinc hG [(3, .int x2), (2, .int x1), (0, .ref (a 0)), (1, .int v1)] dX8_yearly_48 3 rfl (by rw [ex2]; rfl) (Nat.le_of_ble_eq_true rfl) rfl ?_
    refine rl_goto hG (tgt := 18) dX8_yearly_51 (by decide) ?_
    exact rl_lvs hG [2, 3, 1, 0] rfl (hk18 u v1 x1 x2 h)
  have H18 : ∀ (n : Nat) (u : St) (v1 : Int32) (v2 : Int32) (v3 : Int32), fX8_yearly_L18 n u v1 v2 v3 = some (r, τ) → G u 18 [(0, .ref (a 0)), (1, .int v1), (2, .int v2), (3, .int v3)] [] := by
    intro n
    induction n with
    | zero =>
      intro u v1 v2 v3 h
      exact absurd h (by rw [fX8_yearly_L18]; exact fun q => by cases q)
    | succ n ih =>
      intro u v1 v2 v3 h
      rw [fX8_yearly_L18] at h
      refine rl_iload_n hG dX8_yearly_18 rfl 3 rfl ?_
      refine rl_aload_n hG dX8_yearly_19 rfl 0 rfl ?_
      refine rl_get hG iX8_yearly_X8 0 (gM_0 a cI u) hcX8 17 (Nat.le_of_ble_eq_true rfl) nX8_yearly_0 rfl dX8_yearly_20 ?_
      refine rl_icmp_ge hG (tgt := 54) dX8_yearly_23 (by decide) (fun c3 => ?_) (fun c3 => ?_)
      · have h := it_t h c3
        refine rl_iload_n hG dX8_yearly_54 rfl 2 rfl ?_
        exact rl_ret2 hret h rfl dX8_yearly_55
      · have h := it_f h c3
        refine rl_iload_n hG dX8_yearly_26 rfl 2 rfl ?_
        refine rl_aload_n hG dX8_yearly_27 rfl 0 rfl ?_
        refine rl_iload_n hG dX8_yearly_28 rfl 1 rfl ?_
        refine rl_aload_n hG dX8_yearly_29 rfl 0 rfl ?_
        refine rl_get hG iX8_yearly_X8 0 (gM_0 a cI u) hcX8 16 (Nat.le_of_ble_eq_true rfl) nX8_yearly_1 rfl dX8_yearly_30 ?_
        refine rl_iload_n hG dX8_yearly_33 rfl 3 rfl ?_
        obtain ⟨x4, ix4, ex4, h⟩ := ald_ok h
        refine rl_iald hG 12 0 (gM_12 a cI u) rfl ix4 ex4 dX8_yearly_34 ?_
        obtain ⟨x5, hx5q, h⟩ := o1_ok h
        refine rl_callVi hG ro_0_ok (As := [.int v1, .int x4]) (kX8_code l D a cI aS u v1 x4 x5  hx5q) gX8_yearly_X8_code rfl 0 (gM_0 a cI u) hcX8 2 rfl (by decide +kernel) rfl rfl (by decide) (Nat.le_of_ble_eq_true rfl) rfl dX8_yearly_35 ?_
        refine rl_if_le hG (tgt := 45) dX8_yearly_38 (by decide) (fun c6 => ?_) (fun c6 => ?_)
        · have h := it_t h c6
          refine rl_iconst hG (v := 0) dX8_yearly_45 (by decide) ?_
          exact rl_lvs hG [0, 1, 3] rfl (H46 (fX8_yearly_L18 n) (ih) u v1 v3 (0 : Int32) v2 h)
        · have h := it_f h c6
          refine rl_iconst hG (v := 1) dX8_yearly_41 (by decide) ?_
          refine rl_goto hG (tgt := 46) dX8_yearly_42 (by decide) ?_
          exact rl_lvs hG [0, 1, 3] rfl (H46 (fX8_yearly_L18 n) (ih) u v1 v3 (1 : Int32) v2 h)
  have h := h0
  rw [fX8_yearly] at h
  show G u 0 [(0, .ref (a 0)), (1, .int p1)] []
  refine rl_iload_n hG dX8_yearly_0 rfl 1 rfl ?_
  obtain ⟨x7, hx7q, zx7, h⟩ := oz_ok h
  refine rl_callZi hG (As := [.int p1]) (kX8_isGuild l D u p1 x7 hx7q) gX8_yearly_X8_isGuild rfl 1 rfl (by decide +kernel) rfl rfl (by decide) (Nat.le_of_ble_eq_true rfl) rfl dX8_yearly_1 ?_
  refine rl_if_ne hG (tgt := 10) dX8_yearly_4 (by decide) (fun c8 => ?_) (fun c8 => ?_)
  · have h := it_f h c8
    refine rl_aload_n hG dX8_yearly_10 rfl 0 rfl ?_
    obtain ⟨u9, hu9q, h⟩ := o1_ok h
    refine rl_callVv hG ro_0_ok (As := []) (kX8_allThere l D a cI aS u  u9  hu9q) gX8_yearly_X8_allThere rfl 0 (gM_0 a cI u) hcX8 0 rfl (by decide +kernel) rfl rfl (by decide) (Nat.le_of_ble_eq_true rfl) rfl dX8_yearly_11 ?_
    refine rl_iconst hG (v := 0) dX8_yearly_14 (by decide) ?_
    refine rl_istore_n hG [(2, .int (0 : Int32)), (0, .ref (a 0)), (1, .int p1)] dX8_yearly_15 rfl (Nat.le_of_ble_eq_true rfl) rfl rfl ?_
    refine rl_iconst hG (v := 0) dX8_yearly_16 (by decide) ?_
    refine rl_istore_n hG [(3, .int (0 : Int32)), (2, .int (0 : Int32)), (0, .ref (a 0)), (1, .int p1)] dX8_yearly_17 rfl (Nat.le_of_ble_eq_true rfl) rfl rfl ?_
    exact rl_lvs hG [2, 3, 1, 0] rfl (H18 2000 u9 p1 (0 : Int32) (0 : Int32) h)
  · have h := it_t h c8
    refine rl_bipush hG (v := -2) dX8_yearly_7 (by decide) ?_
    exact rl_ret2 hret h rfl dX8_yearly_9
def fX8_count_L76 (u : St)  (v1 : Int32) : Option (Int32) := ald u 6 6 (v1 - (4 : Int32)) (fun x1 => some x1)
def fX8_count (u : St)  (p1 : Int32) : Option (Int32) := (if p1 = (0 : Int32) then some (u 0 3) else (if p1 = (1 : Int32) then some (u 0 1) else (if p1 = (2 : Int32) then some (u 0 15) else (if p1 = (3 : Int32) then some (u 0 17) else (if p1 = (4 : Int32) then fX8_count_L76 u p1 else (if p1 = (5 : Int32) then fX8_count_L76 u p1 else (if p1 = (6 : Int32) then fX8_count_L76 u p1 else (if p1 = (7 : Int32) then fX8_count_L76 u p1 else (if p1 = (8 : Int32) then fX8_count_L76 u p1 else (if p1 = (9 : Int32) then fX8_count_L76 u p1 else some (-3 : Int32)))))))))))
theorem nX8_count_0 : Cond.fieldLink RX8 25 "WhoseWorkModel" "stepMany" "[I" ∈ wsX8_count := by decide +kernel
theorem nX8_count_1 : Cond.fieldLink RX8 119 "WhoseWorkModel" "boundMany" "I" ∈ wsX8_count := by decide +kernel
theorem nX8_count_2 : Cond.fieldLink RX8 65 "WhoseWorkModel" "length" "I" ∈ wsX8_count := by decide +kernel
theorem nX8_count_3 : Cond.fieldLink RX8 225 "WhoseWorkModel" "seizures" "I" ∈ wsX8_count := by decide +kernel
theorem nX8_count_4 : Cond.fieldLink RX8 233 "WhoseWorkModel" "yearMany" "I" ∈ wsX8_count := by decide +kernel
theorem iX8_count_X8 : ∀ w ∈ wsX80, w ∈ wsX8_count := by decide +kernel
set_option maxRecDepth 100000 in
set_option maxHeartbeats 4000000 in
theorem kX8_count (l : Launch) (D : va_G) (a : Nat → Nat) (cI : ClassId) (aS : Nat → Prop) (u : St)  (p1 : Int32) (r : Int32)  (h0 : fX8_count u p1 = some r) : rl_Mi l yX8_count wsX8_count ({ frames := 0, cells := 0, slots := 0, locals := 0 } : Room) D (tyM cI) (wM a cI) ro_0 aS [.ref (a 0), .int p1] u r u := by
  refine rl_meth_i (cc := cX8_count) (maxL := 2) (own := RX8) (ty := .int) (by decide) rfl rfl (Nat.le_of_ble_eq_true rfl) ?_
  intro G hG hret
  have H76 : ∀ (v1 : Int32), fX8_count_L76 u v1 = some r → G u 76 [(0, .ref (a 0)), (1, .int v1)] [] := by
    intro  v1 h
    rw [fX8_count_L76] at h
    refine rl_aload_n hG dX8_count_76 rfl 0 rfl ?_
    refine rl_get hG iX8_count_X8 0 (gM_0 a cI u) hcX8 8 (Nat.le_of_ble_eq_true rfl) nX8_count_0 rfl dX8_count_77 ?_
    refine rl_iload_n hG dX8_count_80 rfl 1 rfl ?_
    refine rl_iconst hG (v := 4) dX8_count_81 (by decide) ?_
    refine rl_isub hG dX8_count_82 ?_
    obtain ⟨x1, ix1, ex1, h⟩ := ald_ok h
    refine rl_iald hG 6 0 (gM_6 a cI u) rfl ix1 ex1 dX8_count_83 ?_
    exact rl_ret1 hret h rfl dX8_count_84
  have h := h0
  rw [fX8_count] at h
  show G u 0 [(0, .ref (a 0)), (1, .int p1)] []
  refine rl_iload_n hG dX8_count_0 rfl 1 rfl ?_
  by_cases c2 : p1 = (0 : Int32)
  · have h := it_t h c2
    refine rl_tableIn hG (tgt := 56) dX8_count_1 (by rw [c2]; decide) (by rw [c2]; decide) (off := 55) (by rw [c2]; first | done | rfl) (by decide) ?_
    refine rl_aload_n hG dX8_count_56 rfl 0 rfl ?_
    refine rl_get hG iX8_count_X8 0 (gM_0 a cI u) hcX8 3 (Nat.le_of_ble_eq_true rfl) nX8_count_1 rfl dX8_count_57 ?_
    exact rl_ret1 hret h rfl dX8_count_60
  have h := it_f h c2
  by_cases c3 : p1 = (1 : Int32)
  · have h := it_t h c3
    refine rl_tableIn hG (tgt := 61) dX8_count_1 (by rw [c3]; decide) (by rw [c3]; decide) (off := 60) (by rw [c3]; first | done | rfl) (by decide) ?_
    refine rl_aload_n hG dX8_count_61 rfl 0 rfl ?_
    refine rl_get hG iX8_count_X8 0 (gM_0 a cI u) hcX8 1 (Nat.le_of_ble_eq_true rfl) nX8_count_2 rfl dX8_count_62 ?_
    exact rl_ret1 hret h rfl dX8_count_65
  have h := it_f h c3
  by_cases c4 : p1 = (2 : Int32)
  · have h := it_t h c4
    refine rl_tableIn hG (tgt := 66) dX8_count_1 (by rw [c4]; decide) (by rw [c4]; decide) (off := 65) (by rw [c4]; first | done | rfl) (by decide) ?_
    refine rl_aload_n hG dX8_count_66 rfl 0 rfl ?_
    refine rl_get hG iX8_count_X8 0 (gM_0 a cI u) hcX8 15 (Nat.le_of_ble_eq_true rfl) nX8_count_3 rfl dX8_count_67 ?_
    exact rl_ret1 hret h rfl dX8_count_70
  have h := it_f h c4
  by_cases c5 : p1 = (3 : Int32)
  · have h := it_t h c5
    refine rl_tableIn hG (tgt := 71) dX8_count_1 (by rw [c5]; decide) (by rw [c5]; decide) (off := 70) (by rw [c5]; first | done | rfl) (by decide) ?_
    refine rl_aload_n hG dX8_count_71 rfl 0 rfl ?_
    refine rl_get hG iX8_count_X8 0 (gM_0 a cI u) hcX8 17 (Nat.le_of_ble_eq_true rfl) nX8_count_4 rfl dX8_count_72 ?_
    exact rl_ret1 hret h rfl dX8_count_75
  have h := it_f h c5
  by_cases c6 : p1 = (4 : Int32)
  · have h := it_t h c6
    refine rl_tableIn hG (tgt := 76) dX8_count_1 (by rw [c6]; decide) (by rw [c6]; decide) (off := 75) (by rw [c6]; first | done | rfl) (by decide) ?_
    exact rl_lvs hG [0, 1] rfl (H76 p1 h)
  have h := it_f h c6
  by_cases c7 : p1 = (5 : Int32)
  · have h := it_t h c7
    refine rl_tableIn hG (tgt := 76) dX8_count_1 (by rw [c7]; decide) (by rw [c7]; decide) (off := 75) (by rw [c7]; first | done | rfl) (by decide) ?_
    exact rl_lvs hG [0, 1] rfl (H76 p1 h)
  have h := it_f h c7
  by_cases c8 : p1 = (6 : Int32)
  · have h := it_t h c8
    refine rl_tableIn hG (tgt := 76) dX8_count_1 (by rw [c8]; decide) (by rw [c8]; decide) (off := 75) (by rw [c8]; first | done | rfl) (by decide) ?_
    exact rl_lvs hG [0, 1] rfl (H76 p1 h)
  have h := it_f h c8
  by_cases c9 : p1 = (7 : Int32)
  · have h := it_t h c9
    refine rl_tableIn hG (tgt := 76) dX8_count_1 (by rw [c9]; decide) (by rw [c9]; decide) (off := 75) (by rw [c9]; first | done | rfl) (by decide) ?_
    exact rl_lvs hG [0, 1] rfl (H76 p1 h)
  have h := it_f h c9
  by_cases c10 : p1 = (8 : Int32)
  · have h := it_t h c10
    refine rl_tableIn hG (tgt := 76) dX8_count_1 (by rw [c10]; decide) (by rw [c10]; decide) (off := 75) (by rw [c10]; first | done | rfl) (by decide) ?_
    exact rl_lvs hG [0, 1] rfl (H76 p1 h)
  have h := it_f h c10
  by_cases c11 : p1 = (9 : Int32)
  · have h := it_t h c11
    refine rl_tableIn hG (tgt := 76) dX8_count_1 (by rw [c11]; decide) (by rw [c11]; decide) (off := 75) (by rw [c11]; first | done | rfl) (by decide) ?_
    exact rl_lvs hG [0, 1] rfl (H76 p1 h)
  have h := it_f h c11
  refine rl_tableOut hG (tgt := 85) dX8_count_1 (sw_out [(0 : Int32), (1 : Int32), (2 : Int32), (3 : Int32), (4 : Int32), (5 : Int32), (6 : Int32), (7 : Int32), (8 : Int32), (9 : Int32)] rfl rfl rfl (List.forall_mem_cons.mpr ⟨c2, List.forall_mem_cons.mpr ⟨c3, List.forall_mem_cons.mpr ⟨c4, List.forall_mem_cons.mpr ⟨c5, List.forall_mem_cons.mpr ⟨c6, List.forall_mem_cons.mpr ⟨c7, List.forall_mem_cons.mpr ⟨c8, List.forall_mem_cons.mpr ⟨c9, List.forall_mem_cons.mpr ⟨c10, List.forall_mem_cons.mpr ⟨c11, fun _ hm => absurd hm List.not_mem_nil⟩⟩⟩⟩⟩⟩⟩⟩⟩⟩)) (by decide) ?_
  refine rl_bipush hG (v := -3) dX8_count_85 (by decide) ?_
  exact rl_ret1 hret h rfl dX8_count_87
