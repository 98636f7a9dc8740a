def fX8_write_L33   : Nat → St → Int64 → Int32 → Int32 → Option (Int32 × St)
  | 0 => fun _ _ _ _ => none
  | n + 1 => fun u v1 v3 v4 => (if v3 ≤ v4 then some ((u 0 1), u) else asr u 1 160 (u 0 1) ((v1 >>> (((8 : Int32) * v4).toInt64 &&& 63)) &&& (255 : Int64)).toInt32 (fun u2 => bd (st_wr u2 0 1 ((u2 0 1) + (1 : Int32))) (fun u3 => bd (v4 + (1 : Int32)) (fun x4 => fX8_write_L33 n u3 v1 v3 x4))))
def fX8_write (u : St)  (p1 : Int64) (p3 : Int32) : Option (Int32 × St) := oz (fX8_in p3.toInt64 (1 : Int64) (8 : Int64)) (fun x5 => (if x5 = (0 : Int32) then some ((-3 : Int32), u) else (if ((u 0 1) + p3) ≤ (160 : Int32) then fX8_write_L33 2000 u p1 p3 (0 : Int32) else some ((-5 : Int32), u))))
theorem nX8_write_0 : Cond.fieldLink RX8 65 "WhoseWorkModel" "length" "I" ∈ wsX8_write := by decide +kernel
theorem nX8_write_1 : Cond.fieldLink RX8 7 "WhoseWorkModel" "text" "[I" ∈ wsX8_write := by decide +kernel
theorem nX8_write_2 : Cond.constantLong RX8 69 (255) ∈ wsX8_write := by decide +kernel
theorem nX8_write_3 : Cond.constantLong RX8 63 (8) ∈ wsX8_write := by decide +kernel
theorem iX8_write_X8 : ∀ w ∈ wsX80, w ∈ wsX8_write := by decide +kernel
set_option maxRecDepth 100000 in
set_option maxHeartbeats 4000000 in
theorem kX8_write (l : Launch) (D : va_G) (a : Nat → Nat) (cI : ClassId) (aS : Nat → Prop) (u : St)  (p1 : Int64) (p3 : Int32) (r : Int32) (τ : St)  (h0 : fX8_write u p1 p3 = some (r, τ)) : rl_Mi l yX8_write wsX8_write ({ frames := 1, cells := 0, slots := 0, locals := 25 } : Room) D (tyM cI) (wM a cI) ro_0 aS [.ref (a 0), .long p1, .int p3] u r τ := by
  refine rl_meth_i (cc := cX8_write) (maxL := 5) (own := RX8) (ty := .int) (by decide) rfl rfl (Nat.le_of_ble_eq_true rfl) ?_
  intro G hG hret
  have H33 : ∀ (n : Nat) (u : St) (v1 : Int64) (v3 : Int32) (v4 : Int32), fX8_write_L33 n u v1 v3 v4 = some (r, τ) → G u 33 [(0, .ref (a 0)), (1, .long v1), (3, .int v3), (4, .int v4)] [] := by
    intro n
    induction n with
    | zero =>
      intro u v1 v3 v4 h
      exact absurd h (by rw [fX8_write_L33]; exact fun q => by cases q)
    | succ n ih =>
      intro u v1 v3 v4 h
      rw [fX8_write_L33] at h
      refine rl_iload hG dX8_write_33 3 rfl ?_
      refine rl_iload_n hG dX8_write_35 rfl 2 rfl ?_
      refine rl_icmp_ge hG (tgt := 76) dX8_write_36 (by decide) (fun c1 => ?_) (fun c1 => ?_)
      · have h := it_t h c1
        refine rl_aload_n hG dX8_write_76 rfl 0 rfl ?_
        refine rl_get hG iX8_write_X8 0 (gM_0 a cI u) hcX8 1 (Nat.le_of_ble_eq_true rfl) nX8_write_0 rfl dX8_write_77 ?_
        exact rl_ret2 hret h rfl dX8_write_80
      · have h := it_f h c1
        refine rl_aload_n hG dX8_write_39 rfl 0 rfl ?_
        refine rl_get hG iX8_write_X8 0 (gM_0 a cI u) hcX8 0 (Nat.le_of_ble_eq_true rfl) nX8_write_1 rfl dX8_write_40 ?_
        refine rl_aload_n hG dX8_write_43 rfl 0 rfl ?_
        refine rl_get hG iX8_write_X8 0 (gM_0 a cI u) hcX8 1 (Nat.le_of_ble_eq_true rfl) nX8_write_0 rfl dX8_write_44 ?_
        refine rl_lload_n hG dX8_write_47 rfl 1 rfl ?_
        refine rl_bipush hG (v := 8) dX8_write_48 (by decide) ?_
        refine rl_iload hG dX8_write_50 3 rfl ?_
        refine rl_imul hG dX8_write_52 ?_
        refine rl_lshr hG dX8_write_53 ?_
        refine rl_ldc2 hG (v := 255) dX8_write_54 nX8_write_2 ?_
        refine rl_land hG dX8_write_57 ?_
        refine rl_l2i hG dX8_write_58 ?_
        obtain ⟨u2, iu2, eu2, h⟩ := asr_ok h
        refine rl_iast hG 1 0 (gM_1 a cI u) rfl iu2 (σ' := u2) ((sM_1 a cI u _).trans (congrArg _ eu2.symm)) dX8_write_59 ?_
        refine rl_aload_n hG dX8_write_60 rfl 0 rfl ?_
        refine rl_dup hG dX8_write_61 rfl ?_
        refine rl_get hG iX8_write_X8 0 (gM_0 a cI u2) hcX8 1 (Nat.le_of_ble_eq_true rfl) nX8_write_0 rfl dX8_write_62 ?_
        refine rl_iconst hG (v := 1) dX8_write_65 (by decide) ?_
        refine rl_iadd hG dX8_write_66 ?_
        obtain ⟨u3, eu3, h⟩ := bd_ok h
        refine rl_put hG iX8_write_X8 tyX8 tyX8_ok nmX8 0 (gM_0 a cI u2) hcX8 1 (Nat.le_of_ble_eq_true rfl) nX8_write_0 rfl rfl (Nat.le_of_ble_eq_true rfl) (σ' := u3) ((sM_0_1 a cI u2 _).trans (congrArg _ eu3.symm)) dX8_write_67 ?_
        obtain ⟨x4, ex4, h⟩ := bd_ok h
        refine rl_iinc hG [(4, .int x4), (0, .ref (a 0)), (1, .long v1), (3, .int v3)] dX8_write_70 3 rfl (by rw [ex4]; rfl) (Nat.le_of_ble_eq_true rfl) rfl ?_
        refine rl_goto hG (tgt := 33) dX8_write_73 (by decide) ?_
        exact rl_lvs hG [1, 2, 3, 0] rfl (ih u3 v1 v3 x4 h)
  have h := h0
  rw [fX8_write] at h
  show G u 0 [(0, .ref (a 0)), (1, .long p1), (3, .int p3)] []
  refine rl_iload_n hG dX8_write_0 rfl 2 rfl ?_
  refine rl_i2l hG dX8_write_1 ?_
  refine rl_lconst hG (v := 1) dX8_write_2 (by decide) ?_
  refine rl_ldc2 hG (v := 8) dX8_write_3 nX8_write_3 ?_
  obtain ⟨x5, hx5q, zx5, h⟩ := oz_ok h
  refine rl_callZi hG (As := [.long p3.toInt64, .long (1 : Int64), .long (8 : Int64)]) (kX8_in l D u p3.toInt64 (1 : Int64) (8 : Int64) x5 hx5q) gX8_write_X8_in rfl 3 rfl (by decide +kernel) rfl rfl (by decide) (Nat.le_of_ble_eq_true rfl) rfl dX8_write_6 ?_
  refine rl_if_ne hG (tgt := 15) dX8_write_9 (by decide) (fun c6 => ?_) (fun c6 => ?_)
  · have h := it_f h c6
    refine rl_aload_n hG dX8_write_15 rfl 0 rfl ?_
    refine rl_get hG iX8_write_X8 0 (gM_0 a cI u) hcX8 1 (Nat.le_of_ble_eq_true rfl) nX8_write_0 rfl dX8_write_16 ?_
    refine rl_iload_n hG dX8_write_19 rfl 2 rfl ?_
    refine rl_iadd hG dX8_write_20 ?_
    refine rl_sipush hG (v := 160) dX8_write_21 (by decide) ?_
    refine rl_icmp_le hG (tgt := 30) dX8_write_24 (by decide) (fun c7 => ?_) (fun c7 => ?_)
    · have h := it_t h c7
      refine rl_iconst hG (v := 0) dX8_write_30 (by decide) ?_
      refine rl_istore hG [(4, .int (0 : Int32)), (0, .ref (a 0)), (1, .long p1), (3, .int p3)] dX8_write_31 (Nat.le_of_ble_eq_true rfl) rfl rfl ?_
      exact rl_lvs hG [1, 2, 3, 0] rfl (H33 2000 u p1 p3 (0 : Int32) h)
    · have h := it_f h c7
      refine rl_bipush hG (v := -5) dX8_write_27 (by decide) ?_
      exact rl_ret2 hret h rfl dX8_write_29
  · have h := it_t h c6
    refine rl_bipush hG (v := -3) dX8_write_12 (by decide) ?_
    exact rl_ret2 hret h rfl dX8_write_14
def fX8_erase (u : St)   : Option (Int32 × St) := bd (u 0 1) (fun x1 => bd (st_wr u 0 1 (0 : Int32)) (fun u2 => some (x1, u2)))
theorem nX8_erase_0 : Cond.fieldLink RX8 65 "WhoseWorkModel" "length" "I" ∈ wsX8_erase := by decide +kernel
theorem iX8_erase_X8 : ∀ w ∈ wsX80, w ∈ wsX8_erase := by decide +kernel
set_option maxRecDepth 100000 in
set_option maxHeartbeats 4000000 in
theorem kX8_erase (l : Launch) (D : va_G) (a : Nat → Nat) (cI : ClassId) (aS : Nat → Prop) (u : St)   (r : Int32) (τ : St)  (h0 : fX8_erase u = some (r, τ)) : rl_Mi l yX8_erase wsX8_erase ({ frames := 0, cells := 0, slots := 0, locals := 0 } : Room) D (tyM cI) (wM a cI) ro_0 aS [.ref (a 0)] u r τ := by
  refine rl_meth_i (cc := cX8_erase) (maxL := 2) (own := RX8) (ty := .int) (by decide) rfl rfl (Nat.le_of_ble_eq_true rfl) ?_
  intro G hG hret
  have h := h0
  rw [fX8_erase] at h
  show G u 0 [(0, .ref (a 0))] []
  refine rl_aload_n hG dX8_erase_0 rfl 0 rfl ?_
  refine rl_get hG iX8_erase_X8 0 (gM_0 a cI u) hcX8 1 (Nat.le_of_ble_eq_true rfl) nX8_erase_0 rfl dX8_erase_1 ?_
  obtain ⟨x1, ex1, h⟩ := bd_ok h
  refine rl_istore_n hG [(1, .int x1), (0, .ref (a 0))] dX8_erase_4 rfl (Nat.le_of_ble_eq_true rfl) ex1 rfl ?_
  refine rl_aload_n hG dX8_erase_5 rfl 1 rfl ?_
  refine rl_iconst hG (v := 0) dX8_erase_6 (by decide) ?_
  obtain ⟨u2, eu2, h⟩ := bd_ok h
  refine rl_put hG iX8_erase_X8 tyX8 tyX8_ok nmX8 0 (gM_0 a cI u) hcX8 1 (Nat.le_of_ble_eq_true rfl) nX8_erase_0 rfl rfl (Nat.le_of_ble_eq_true rfl) (σ' := u2) ((sM_0_1 a cI u _).trans (congrArg _ eu2.symm)) dX8_erase_7 ?_
  refine rl_iload_n hG dX8_erase_10 rfl 0 rfl ?_
  exact rl_ret2 hret h rfl dX8_erase_11
def fX8_token_L137   (u : St) : Option (St) := bd (st_wr u 0 20 (u 0 18)) (fun u1 => some u1)
def fX8_token_L71   : Nat → St → Option (St)
  | 0 => fun _ => none
  | n + 1 => fun u => (if (u 0 1) ≤ (u 0 18) then fX8_token_L137 u else ald u 1 160 (u 0 19) (fun x3 => o1 (fX8_sort x3) (fun x4 => (if x4 ≤ (0 : Int32) then fX8_token_L137 u else ald u 1 160 (u 0 18) (fun x6 => o1 (fX8_sort x6) (fun x7 => ald u 1 160 (u 0 19) (fun x8 => o1 (fX8_sort x8) (fun x9 => (if x7 = x9 then bd (st_wr u 0 18 ((u 0 18) + (1 : Int32))) (fun u11 => fX8_token_L71 n u11) else fX8_token_L137 u)))))))))
def fX8_token_L67   (u : St) (w0 : Int32) (w1 : Int32) : Option (St) := bd (st_wr u 0 18 (w1 + w0)) (fun u12 => fX8_token_L71 2000 u12)
def fX8_token_L38   (u : St) : Option (St) := bd (st_wr u 0 19 (u 0 18)) (fun u13 => (if (u13 0 1) ≤ (u13 0 18) then fX8_token_L67 u13 (0 : Int32) (u13 0 18) else fX8_token_L67 u13 (1 : Int32) (u13 0 18)))
def fX8_token_L0   : Nat → St → Option (St)
  | 0 => fun _ => none
  | n + 1 => fun u => (if (u 0 1) ≤ (u 0 18) then fX8_token_L38 u else ald u 1 160 (u 0 18) (fun x16 => (if x16 = (32 : Int32) then bd (st_wr u 0 18 ((u 0 18) + (1 : Int32))) (fun u18 => fX8_token_L0 n u18) else fX8_token_L38 u)))
def fX8_token (u : St)   : Option (St) := fX8_token_L0 2000 u
theorem nX8_token_0 : Cond.fieldLink RX8 71 "WhoseWorkModel" "at" "I" ∈ wsX8_token := by decide +kernel
theorem nX8_token_1 : Cond.fieldLink RX8 81 "WhoseWorkModel" "end" "I" ∈ wsX8_token := by decide +kernel
theorem nX8_token_2 : Cond.fieldLink RX8 65 "WhoseWorkModel" "length" "I" ∈ wsX8_token := by decide +kernel
theorem nX8_token_3 : Cond.fieldLink RX8 7 "WhoseWorkModel" "text" "[I" ∈ wsX8_token := by decide +kernel
theorem nX8_token_4 : Cond.fieldLink RX8 74 "WhoseWorkModel" "place" "I" ∈ wsX8_token := by decide +kernel
theorem iX8_token_X8 : ∀ w ∈ wsX80, w ∈ wsX8_token := by decide +kernel
set_option maxRecDepth 100000 in
set_option maxHeartbeats 4000000 in
theorem kX8_token (l : Launch) (D : va_G) (a : Nat → Nat) (cI : ClassId) (aS : Nat → Prop) (u : St)   (τ : St)  (h0 : fX8_token u = some τ) : rl_Mv l yX8_token wsX8_token ({ frames := 1, cells := 0, slots := 0, locals := 20 } : Room) D (tyM cI) (wM a cI) ro_0 aS [.ref (a 0)] u τ := by
  refine rl_meth_v (cc := cX8_token) (maxL := 1) (own := RX8) (by decide) rfl rfl (Nat.le_of_ble_eq_true rfl) ?_
  intro G hG hret
  have H137 : ∀ (u : St), fX8_token_L137 u = some τ → G u 137 [(0, .ref (a 0))] [] := by
    intro  u h
    rw [fX8_token_L137] at h
    refine rl_aload_n hG dX8_token_137 rfl 0 rfl ?_
    refine rl_aload_n hG dX8_token_138 rfl 0 rfl ?_
    refine rl_get hG iX8_token_X8 0 (gM_0 a cI u) hcX8 18 (Nat.le_of_ble_eq_true rfl) nX8_token_0 rfl dX8_token_139 ?_
    obtain ⟨u1, eu1, h⟩ := bd_ok h
    refine rl_put hG iX8_token_X8 tyX8 tyX8_ok nmX8 0 (gM_0 a cI u) hcX8 20 (Nat.le_of_ble_eq_true rfl) nX8_token_1 rfl rfl (Nat.le_of_ble_eq_true rfl) (σ' := u1) ((sM_0_20 a cI u _).trans (congrArg _ eu1.symm)) dX8_token_142 ?_
    exact rl_retv hret h dX8_token_145
  have H71 : ∀ (n : Nat) (u : St), fX8_token_L71 n u = some τ → G u 71 [(0, .ref (a 0))] [] := by
    intro n
    induction n with
    | zero =>
      intro u h
      exact absurd h (by rw [fX8_token_L71]; exact fun q => by cases q)
    | succ n ih =>
      intro u h
      rw [fX8_token_L71] at h
      refine rl_aload_n hG dX8_token_71 rfl 0 rfl ?_
      refine rl_get hG iX8_token_X8 0 (gM_0 a cI u) hcX8 18 (Nat.le_of_ble_eq_true rfl) nX8_token_0 rfl dX8_token_72 ?_
      refine rl_aload_n hG dX8_token_75 rfl 0 rfl ?_
      refine rl_get hG iX8_token_X8 0 (gM_0 a cI u) hcX8 1 (Nat.le_of_ble_eq_true rfl) nX8_token_2 rfl dX8_token_76 ?_
      refine rl_icmp_ge hG (tgt := 137) dX8_token_79 (by decide) (fun c2 => ?_) (fun c2 => ?_)
      · have h := it_t h c2
        exact rl_lvs hG [0] rfl (H137 u h)
      · have h := it_f h c2
        refine rl_aload_n hG dX8_token_82 rfl 0 rfl ?_
        refine rl_get hG iX8_token_X8 0 (gM_0 a cI u) hcX8 0 (Nat.le_of_ble_eq_true rfl) nX8_token_3 rfl dX8_token_83 ?_
        refine rl_aload_n hG dX8_token_86 rfl 0 rfl ?_
        refine rl_get hG iX8_token_X8 0 (gM_0 a cI u) hcX8 19 (Nat.le_of_ble_eq_true rfl) nX8_token_4 rfl dX8_token_87 ?_
        obtain ⟨x3, ix3, ex3, h⟩ := ald_ok h
        refine rl_iald hG 1 0 (gM_1 a cI u) rfl ix3 ex3 dX8_token_90 ?_
        obtain ⟨x4, hx4q, h⟩ := o1_ok h
        refine rl_callZi hG (As := [.int x3]) (kX8_sort l D u x3 x4 hx4q) gX8_token_X8_sort rfl 1 rfl (by decide +kernel) rfl rfl (by decide) (Nat.le_of_ble_eq_true rfl) rfl dX8_token_91 ?_
        refine rl_if_le hG (tgt := 137) dX8_token_94 (by decide) (fun c5 => ?_) (fun c5 => ?_)
        · have h := it_t h c5
          exact rl_lvs hG [0] rfl (H137 u h)
        · have h := it_f h c5
          refine rl_aload_n hG dX8_token_97 rfl 0 rfl ?_
          refine rl_get hG iX8_token_X8 0 (gM_0 a cI u) hcX8 0 (Nat.le_of_ble_eq_true rfl) nX8_token_3 rfl dX8_token_98 ?_
          refine rl_aload_n hG dX8_token_101 rfl 0 rfl ?_
          refine rl_get hG iX8_token_X8 0 (gM_0 a cI u) hcX8 18 (Nat.le_of_ble_eq_true rfl) nX8_token_0 rfl dX8_token_102 ?_
          obtain ⟨x6, ix6, ex6, h⟩ := ald_ok h
          refine rl_iald hG 1 0 (gM_1 a cI u) rfl ix6 ex6 dX8_token_105 ?_
          obtain ⟨x7, hx7q, h⟩ := o1_ok h
          refine rl_callZi hG (As := [.int x6]) (kX8_sort l D u x6 x7 hx7q) gX8_token_X8_sort rfl 1 rfl (by decide +kernel) rfl rfl (by decide) (Nat.le_of_ble_eq_true rfl) rfl dX8_token_106 ?_
          refine rl_aload_n hG dX8_token_109 rfl 0 rfl ?_
          refine rl_get hG iX8_token_X8 0 (gM_0 a cI u) hcX8 0 (Nat.le_of_ble_eq_true rfl) nX8_token_3 rfl dX8_token_110 ?_
          refine rl_aload_n hG dX8_token_113 rfl 0 rfl ?_
          refine rl_get hG iX8_token_X8 0 (gM_0 a cI u) hcX8 19 (Nat.le_of_ble_eq_true rfl) nX8_token_4 rfl dX8_token_114 ?_
          obtain ⟨x8, ix8, ex8, h⟩ := ald_ok h
          refine rl_iald hG 1 0 (gM_1 a cI u) rfl ix8 ex8 dX8_token_117 ?_
          obtain ⟨x9, hx9q, h⟩ := o1_ok h
          refine rl_callZi hG (As := [.int x8]) (kX8_sort l D u x8 x9 hx9q) gX8_token_X8_sort rfl 1 rfl (by decide +kernel) rfl rfl (by decide) (Nat.le_of_ble_eq_true rfl) rfl dX8_token_118 ?_
          refine rl_icmp_ne hG (tgt := 137) dX8_token_121 (by decide) (fun c10 => ?_) (fun c10 => ?_)
          · have h := it_f h c10
            exact rl_lvs hG [0] rfl (H137 u h)
          · have h := it_t h c10
            refine rl_aload_n hG dX8_token_124 rfl 0 rfl ?_
            refine rl_dup hG dX8_token_125 rfl ?_
            refine rl_get hG iX8_token_X8 0 (gM_0 a cI u) hcX8 18 (Nat.le_of_ble_eq_true rfl) nX8_token_0 rfl dX8_token_126 ?_
            refine rl_iconst hG (v := 1) dX8_token_129 (by decide) ?_
            refine rl_iadd hG dX8_token_130 ?_
            obtain ⟨u11, eu11, h⟩ := bd_ok h
            refine rl_put hG iX8_token_X8 tyX8 tyX8_ok nmX8 0 (gM_0 a cI u) hcX8 18 (Nat.le_of_ble_eq_true rfl) nX8_token_0 rfl rfl (Nat.le_of_ble_eq_true rfl) (σ' := u11) ((sM_0_18 a cI u _).trans (congrArg _ eu11.symm)) dX8_token_131 ?_
            refine rl_goto hG (tgt := 71) dX8_token_134 (by decide) ?_
            exact rl_lvs hG [0] rfl (ih u11 h)
  have H67 : ∀ (u : St) (w0 : Int32) (w1 : Int32), fX8_token_L67 u w0 w1 = some τ → G u 67 [(0, .ref (a 0))] [.int w0, .int w1, .ref (a 0)] := by
    intro  u w0 w1 h
    rw [fX8_token_L67] at h
    refine rl_iadd hG dX8_token_67 ?_
    obtain ⟨u12, eu12, h⟩ := bd_ok h
    refine rl_put hG iX8_token_X8 tyX8 tyX8_ok nmX8 0 (gM_0 a cI u) hcX8 18 (Nat.le_of_ble_eq_true rfl) nX8_token_0 rfl rfl (Nat.le_of_ble_eq_true rfl) (σ' := u12) ((sM_0_18 a cI u _).trans (congrArg _ eu12.symm)) dX8_token_68 ?_
    exact rl_lvs hG [0] rfl (H71 2000 u12 h)
  have H38 : ∀ (u : St), fX8_token_L38 u = some τ → G u 38 [(0, .ref (a 0))] [] := by
    intro  u h
    rw [fX8_token_L38] at h
    refine rl_aload_n hG dX8_token_38 rfl 0 rfl ?_
    refine rl_aload_n hG dX8_token_39 rfl 0 rfl ?_
    refine rl_get hG iX8_token_X8 0 (gM_0 a cI u) hcX8 18 (Nat.le_of_ble_eq_true rfl) nX8_token_0 rfl dX8_token_40 ?_
    obtain ⟨u13, eu13, h⟩ := bd_ok h
    refine rl_put hG iX8_token_X8 tyX8 tyX8_ok nmX8 0 (gM_0 a cI u) hcX8 19 (Nat.le_of_ble_eq_true rfl) nX8_token_4 rfl rfl (Nat.le_of_ble_eq_true rfl) (σ' := u13) ((sM_0_19 a cI u _).trans (congrArg _ eu13.symm)) dX8_token_43 ?_
    refine rl_aload_n hG dX8_token_46 rfl 0 rfl ?_
    refine rl_dup hG dX8_token_47 rfl ?_
    refine rl_get hG iX8_token_X8 0 (gM_0 a cI u13) hcX8 18 (Nat.le_of_ble_eq_true rfl) nX8_token_0 rfl dX8_token_48 ?_
    refine rl_aload_n hG dX8_token_51 rfl 0 rfl ?_
    refine rl_get hG iX8_token_X8 0 (gM_0 a cI u13) hcX8 18 (Nat.le_of_ble_eq_true rfl) nX8_token_0 rfl dX8_token_52 ?_
    refine rl_aload_n hG dX8_token_55 rfl 0 rfl ?_
    refine rl_get hG iX8_token_X8 0 (gM_0 a cI u13) hcX8 1 (Nat.le_of_ble_eq_true rfl) nX8_token_2 rfl dX8_token_56 ?_
    refine rl_icmp_ge hG (tgt := 66) dX8_token_59 (by decide) (fun c14 => ?_) (fun c14 => ?_)
    · have h := it_t h c14
      refine rl_iconst hG (v := 0) dX8_token_66 (by decide) ?_
      exact rl_lvs hG [0] rfl (H67 u13 (0 : Int32) (u13 0 18) h)
    · have h := it_f h c14
      refine rl_iconst hG (v := 1) dX8_token_62 (by decide) ?_
      refine rl_goto hG (tgt := 67) dX8_token_63 (by decide) ?_
      exact rl_lvs hG [0] rfl (H67 u13 (1 : Int32) (u13 0 18) h)
  have H0 : ∀ (n : Nat) (u : St), fX8_token_L0 n u = some τ → G u 0 [(0, .ref (a 0))] [] := by
    intro n
    induction n with
    | zero =>
      intro u h
      exact absurd h (by rw [fX8_token_L0]; exact fun q => by cases q)
    | succ n ih =>
      intro u h
      rw [fX8_token_L0] at h
      refine rl_aload_n hG dX8_token_0 rfl 0 rfl ?_
      refine rl_get hG iX8_token_X8 0 (gM_0 a cI u) hcX8 18 (Nat.le_of_ble_eq_true rfl) nX8_token_0 rfl dX8_token_1 ?_
      refine rl_aload_n hG dX8_token_4 rfl 0 rfl ?_
      refine rl_get hG iX8_token_X8 0 (gM_0 a cI u) hcX8 1 (Nat.le_of_ble_eq_true rfl) nX8_token_2 rfl dX8_token_5 ?_
      refine rl_icmp_ge hG (tgt := 38) dX8_token_8 (by decide) (fun c15 => ?_) (fun c15 => ?_)
      · have h := it_t h c15
        exact rl_lvs hG [0] rfl (H38 u h)
      · have h := it_f h c15
        refine rl_aload_n hG dX8_token_11 rfl 0 rfl ?_
        refine rl_get hG iX8_token_X8 0 (gM_0 a cI u) hcX8 0 (Nat.le_of_ble_eq_true rfl) nX8_token_3 rfl dX8_token_12 ?_
        refine rl_aload_n hG dX8_token_15 rfl 0 rfl ?_
        refine rl_get hG iX8_token_X8 0 (gM_0 a cI u) hcX8 18 (Nat.le_of_ble_eq_true rfl) nX8_token_0 rfl dX8_token_16 ?_
        obtain ⟨x16, ix16, ex16, h⟩ := ald_ok h
        refine rl_iald hG 1 0 (gM_1 a cI u) rfl ix16 ex16 dX8_token_19 ?_
        refine rl_bipush hG (v := 32) dX8_token_20 (by decide) ?_
        refine rl_icmp_ne hG (tgt := 38) dX8_token_22 (by decide) (fun c17 => ?_) (fun c17 => ?_)
        · have h := it_f h c17
          exact rl_lvs hG [0] rfl (H38 u h)
        · have h := it_t h c17
          refine rl_aload_n hG dX8_token_25 rfl 0 rfl ?_
          refine rl_dup hG dX8_token_26 rfl ?_
          refine rl_get hG iX8_token_X8 0 (gM_0 a cI u) hcX8 18 (Nat.le_of_ble_eq_true rfl) nX8_token_0 rfl dX8_token_27 ?_
          refine rl_iconst hG (v := 1) dX8_token_30 (by decide) ?_
          refine rl_iadd hG dX8_token_31 ?_
          obtain ⟨u18, eu18, h⟩ := bd_ok h
          refine rl_put hG iX8_token_X8 tyX8 tyX8_ok nmX8 0 (gM_0 a cI u) hcX8 18 (Nat.le_of_ble_eq_true rfl) nX8_token_0 rfl rfl (Nat.le_of_ble_eq_true rfl) (σ' := u18) ((sM_0_18 a cI u _).trans (congrArg _ eu18.symm)) dX8_token_32 ?_
          refine rl_goto hG (tgt := 0) dX8_token_35 (by decide) ?_
          exact rl_lvs hG [0] rfl (ih u18 h)
  have h := h0
  rw [fX8_token] at h
  show G u 0 [(0, .ref (a 0))] []
  exact rl_lvs hG [0] rfl (H0 2000 u h)
def fX8_isWord_L64 (u : St) (k22 : Int32 → Int32 → Int32 → Int32 → Option (Int32)) (v1 : Int32) (v2 : Int32) (v4 : Int32) (w0 : Int32) : Option (Int32) := bd (v4 + (1 : Int32)) (fun x1 => k22 v1 v2 w0 x1)
def fX8_isWord_L22 (u : St)  : Nat → Int32 → Int32 → Int32 → Int32 → Option (Int32)
  | 0 => fun _ _ _ _ => none
  | n + 1 => fun v1 v2 v3 v4 => (if v3 = (0 : Int32) then rb v3 (fun y => some y) else (if v2 ≤ v4 then rb v3 (fun y => some y) else ald u 1 160 ((u 0 19) + v4) (fun x4 => (if x4 = ((96 : Int32) + ((v1 >>> (((5 : Int32) * v4) &&& 31)) &&& (31 : Int32))) then fX8_isWord_L64 u (fX8_isWord_L22 u n) v1 v2 v4 (1 : Int32) else fX8_isWord_L64 u (fX8_isWord_L22 u n) v1 v2 v4 (0 : Int32)))))
def fX8_isWord_L18 (u : St)  (v1 : Int32) (v2 : Int32) (w0 : Int32) : Option (Int32) := fX8_isWord_L22 u 2000 v1 v2 w0 (0 : Int32)
def fX8_isWord (u : St)  (p1 : Int32) (p2 : Int32) : Option (Int32) := (if ((u 0 20) - (u 0 19)) = p2 then fX8_isWord_L18 u p1 p2 (1 : Int32) else fX8_isWord_L18 u p1 p2 (0 : Int32))
theorem nX8_isWord_0 : Cond.fieldLink RX8 7 "WhoseWorkModel" "text" "[I" ∈ wsX8_isWord := by decide +kernel
theorem nX8_isWord_1 : Cond.fieldLink RX8 74 "WhoseWorkModel" "place" "I" ∈ wsX8_isWord := by decide +kernel
theorem nX8_isWord_2 : Cond.fieldLink RX8 81 "WhoseWorkModel" "end" "I" ∈ wsX8_isWord := by decide +kernel
theorem iX8_isWord_X8 : ∀ w ∈ wsX80, w ∈ wsX8_isWord := by decide +kernel
set_option maxRecDepth 100000 in
set_option maxHeartbeats 4000000 in
theorem kX8_isWord (l : Launch) (D : va_G) (a : Nat → Nat) (cI : ClassId) (aS : Nat → Prop) (u : St)  (p1 : Int32) (p2 : Int32) (r : Int32)  (h0 : fX8_isWord u p1 p2 = some r) : rl_Mi l yX8_isWord wsX8_isWord ({ frames := 0, cells := 0, slots := 0, locals := 0 } : Room) D (tyM cI) (wM a cI) ro_0 aS [.ref (a 0), .int p1, .int p2] u r u := by
  refine rl_meth_i (cc := cX8_isWord) (maxL := 5) (own := RX8) (ty := .boolean) (by decide) rfl rfl (Nat.le_of_ble_eq_true rfl) ?_
  intro G hG hret
  have H64 : ∀ (k22 : Int32 → Int32 → Int32 → Int32 → Option (Int32)) (hk22 : ∀ (v1 : Int32) (v2 : Int32) (v3 : Int32) (v4 : Int32), k22 v1 v2 v3 v4 = some r → G u 22 [(0, .ref (a 0)), (1, .int v1), (2, .int v2), (3, .int v3), (4, .int v4)] []), ∀ (v1 : Int32) (v2 : Int32) (v4 : Int32) (w0 : Int32), fX8_isWord_L64 u k22 v1 v2 v4 w0 = some r → G u 64 [(0, .ref (a 0)), (1, .int v1), (2, .int v2), (4, .int v4)] [.int w0] := by
    intro k22 hk22 v1 v2 v4 w0 h
    rw [fX8_isWord_L64] at h
    refine rl_istore_n hG [(3, .int w0), (0, .ref (a 0)), (1, .int v1), (2, .int v2), (4, .int v4)] dX8_isWord_64 rfl (Nat.le_of_ble_eq_true rfl) rfl rfl ?_
    obtain ⟨x1, ex1, h⟩ := bd_ok h
    refine rl_iinc hG [(4, .int x1), (3, .int w0), (0, .ref (a 0)), (1, .int v1), (2, .int v2)] dX8_isWord_65 4 rfl (by rw [ex1]; rfl) (Nat.le_of_ble_eq_true rfl) rfl ?_
    refine rl_goto hG (tgt := 22) dX8_isWord_68 (by decide) ?_
    exact rl_lvs hG [2, 3, 4, 1, 0] rfl (hk22 v1 v2 w0 x1 h)
  have H22 : ∀ (n : Nat) (v1 : Int32) (v2 : Int32) (v3 : Int32) (v4 : Int32), fX8_isWord_L22 u n v1 v2 v3 v4 = some r → G u 22 [(0, .ref (a 0)), (1, .int v1), (2, .int v2), (3, .int v3), (4, .int v4)] [] := by
    intro n
    induction n with
    | zero =>
      intro v1 v2 v3 v4 h
      exact absurd h (by rw [fX8_isWord_L22]; exact fun q => by cases q)
    | succ n ih =>
      intro v1 v2 v3 v4 h
      rw [fX8_isWord_L22] at h
      refine rl_iload_n hG dX8_isWord_22 rfl 3 rfl ?_
      refine rl_if_eq hG (tgt := 71) dX8_isWord_23 (by decide) (fun c2 => ?_) (fun c2 => ?_)
      · have h := it_t h c2
        refine rl_iload_n hG dX8_isWord_71 rfl 3 rfl ?_
        obtain ⟨hz, h⟩ := rb_ok h
        exact rl_ret1 hret h (na_z hz) dX8_isWord_72
      · have h := it_f h c2
        refine rl_iload hG dX8_isWord_26 4 rfl ?_
        refine rl_iload_n hG dX8_isWord_28 rfl 2 rfl ?_
        refine rl_icmp_ge hG (tgt := 71) dX8_isWord_29 (by decide) (fun c3 => ?_) (fun c3 => ?_)
        · have h := it_t h c3
          refine rl_iload_n hG dX8_isWord_71 rfl 3 rfl ?_
          obtain ⟨hz, h⟩ := rb_ok h
          exact rl_ret1 hret h (na_z hz) dX8_isWord_72
        · have h := it_f h c3
          refine rl_aload_n hG dX8_isWord_32 rfl 0 rfl ?_
          refine rl_get hG iX8_isWord_X8 0 (gM_0 a cI u) hcX8 0 (Nat.le_of_ble_eq_true rfl) nX8_isWord_0 rfl dX8_isWord_33 ?_
          refine rl_aload_n hG dX8_isWord_36 rfl 0 rfl ?_
          refine rl_get hG iX8_isWord_X8 0 (gM_0 a cI u) hcX8 19 (Nat.le_of_ble_eq_true rfl) nX8_isWord_1 rfl dX8_isWord_37 ?_
          refine rl_iload hG dX8_isWord_40 4 rfl ?_
          refine rl_iadd hG dX8_isWord_42 ?_
          obtain ⟨x4, ix4, ex4, h⟩ := ald_ok h
          refine rl_iald hG 1 0 (gM_1 a cI u) rfl ix4 ex4 dX8_isWord_43 ?_
          refine rl_bipush hG (v := 96) dX8_isWord_44 (by decide) ?_
          refine rl_iload_n hG dX8_isWord_46 rfl 1 rfl ?_
          refine rl_iconst hG (v := 5) dX8_isWord_47 (by decide) ?_
          refine rl_iload hG dX8_isWord_48 4 rfl ?_
          refine rl_imul hG dX8_isWord_50 ?_
          refine rl_ishr hG dX8_isWord_51 ?_
          refine rl_bipush hG (v := 31) dX8_isWord_52 (by decide) ?_
          refine rl_iand hG dX8_isWord_54 ?_
          refine rl_iadd hG dX8_isWord_55 ?_
          refine rl_icmp_ne hG (tgt := 63) dX8_isWord_56 (by decide) (fun c5 => ?_) (fun c5 => ?_)
          · have h := it_f h c5
            refine rl_iconst hG (v := 0) dX8_isWord_63 (by decide) ?_
            exact rl_lvs hG [0, 1, 2, 4] rfl (H64 (fX8_isWord_L22 u n) (ih) v1 v2 v4 (0 : Int32) h)
          · have h := it_t h c5
            refine rl_iconst hG (v := 1) dX8_isWord_59 (by decide) ?_
            refine rl_goto hG (tgt := 64) dX8_isWord_60 (by decide) ?_
            exact rl_lvs hG [0, 1, 2, 4] rfl (H64 (fX8_isWord_L22 u n) (ih) v1 v2 v4 (1 : Int32) h)
  have H18 : ∀ (v1 : Int32) (v2 : Int32) (w0 : Int32), fX8_isWord_L18 u v1 v2 w0 = some r → G u 18 [(0, .ref (a 0)), (1, .int v1), (2, .int v2)] [.int w0] := by
    intro  v1 v2 w0 h
    rw [fX8_isWord_L18] at h
    refine rl_istore_n hG [(3, .int w0), (0, .ref (a 0)), (1, .int v1), (2, .int v2)] dX8_isWord_18 rfl (Nat.le_of_ble_eq_true rfl) rfl rfl ?_
    refine rl_iconst hG (v := 0) dX8_isWord_19 (by decide) ?_
    refine rl_istore hG [(4, .int (0 : Int32)), (3, .int w0), (0, .ref (a 0)), (1, .int v1), (2, .int v2)] dX8_isWord_20 (Nat.le_of_ble_eq_true rfl) rfl rfl ?_
    exact rl_lvs hG [2, 3, 4, 1, 0] rfl (H22 2000 v1 v2 w0 (0 : Int32) h)
  have h := h0
  rw [fX8_isWord] at h
  show G u 0 [(0, .ref (a 0)), (1, .int p1), (2, .int p2)] []
  refine rl_aload_n hG dX8_isWord_0 rfl 0 rfl ?_
  refine rl_get hG iX8_isWord_X8 0 (gM_0 a cI u) hcX8 20 (Nat.le_of_ble_eq_true rfl) nX8_isWord_2 rfl dX8_isWord_1 ?_
  refine rl_aload_n hG dX8_isWord_4 rfl 0 rfl ?_
  refine rl_get hG iX8_isWord_X8 0 (gM_0 a cI u) hcX8 19 (Nat.le_of_ble_eq_true rfl) nX8_isWord_1 rfl dX8_isWord_5 ?_
  refine rl_isub hG dX8_isWord_8 ?_
  refine rl_iload_n hG dX8_isWord_9 rfl 2 rfl ?_
  refine rl_icmp_ne hG (tgt := 17) dX8_isWord_10 (by decide) (fun c6 => ?_) (fun c6 => ?_)
  · have h := it_f h c6
    refine rl_iconst hG (v := 0) dX8_isWord_17 (by decide) ?_
    exact rl_lvs hG [0, 1, 2] rfl (H18 p1 p2 (0 : Int32) h)
  · have h := it_t h c6
    refine rl_iconst hG (v := 1) dX8_isWord_13 (by decide) ?_
    refine rl_goto hG (tgt := 18) dX8_isWord_14 (by decide) ?_
    exact rl_lvs hG [0, 1, 2] rfl (H18 p1 p2 (1 : Int32) h)
def fX8_figure (u : St)  (p1 : Int32) (p2 : Int32) : Option (Int32 × St) := (if (u 0 19) = (u 0 1) then some ((-1 : Int32), u) else ald u 1 160 (u 0 19) (fun x2 => o1 (fX8_sort x2) (fun x3 => (if x3 = (2 : Int32) then (if ((u 0 20) - (u 0 19)) = (1 : Int32) then ald u 1 160 (u 0 19) (fun x6 => oz (fX8_in (x6 - (48 : Int32)).toInt64 p1.toInt64 p2.toInt64) (fun x7 => (if x7 = (0 : Int32) then some ((-1 : Int32), u) else ald u 1 160 (u 0 19) (fun x9 => bd (x9 - (48 : Int32)) (fun x10 => o1 (fX8_token u) (fun u11 => some (x10, u11))))))) else some ((-1 : Int32), u)) else some ((-1 : Int32), u)))))
theorem nX8_figure_0 : Cond.fieldLink RX8 74 "WhoseWorkModel" "place" "I" ∈ wsX8_figure := by decide +kernel
theorem nX8_figure_1 : Cond.fieldLink RX8 65 "WhoseWorkModel" "length" "I" ∈ wsX8_figure := by decide +kernel
theorem nX8_figure_2 : Cond.fieldLink RX8 7 "WhoseWorkModel" "text" "[I" ∈ wsX8_figure := by decide +kernel
theorem nX8_figure_3 : Cond.fieldLink RX8 81 "WhoseWorkModel" "end" "I" ∈ wsX8_figure := by decide +kernel
theorem iX8_figure_X8 : ∀ w ∈ wsX80, w ∈ wsX8_figure := by decide +kernel
set_option maxRecDepth 100000 in
set_option maxHeartbeats 4000000 in
theorem kX8_figure (l : Launch) (D : va_G) (a : Nat → Nat) (cI : ClassId) (aS : Nat → Prop) (u : St)  (p1 : Int32) (p2 : Int32) (r : Int32) (τ : St)  (h0 : fX8_figure u p1 p2 = some (r, τ)) : rl_Mi l yX8_figure wsX8_figure ({ frames := 2, cells := 0, slots := 0, locals := 40 } : Room) D (tyM cI) (wM a cI) ro_0 aS [.ref (a 0), .int p1, .int p2] u r τ := by
  refine rl_meth_i (cc := cX8_figure) (maxL := 4) (own := RX8) (ty := .int) (by decide) rfl rfl (Nat.le_of_ble_eq_true rfl) ?_
  intro G hG hret
  have h := h0
  rw [fX8_figure] at h
  show G u 0 [(0, .ref (a 0)), (1, .int p1), (2, .int p2)] []
  refine rl_aload_n hG dX8_figure_0 rfl 0 rfl ?_
  refine rl_get hG iX8_figure_X8 0 (gM_0 a cI u) hcX8 19 (Nat.le_of_ble_eq_true rfl) nX8_figure_0 rfl dX8_figure_1 ?_
  refine rl_aload_n hG dX8_figure_4 rfl 0 rfl ?_
  refine rl_get hG iX8_figure_X8 0 (gM_0 a cI u) hcX8 1 (Nat.le_of_ble_eq_true rfl) nX8_figure_1 rfl dX8_figure_5 ?_
  refine rl_icmp_eq hG (tgt := 63) dX8_figure_8 (by decide) (fun c1 => ?_) (fun c1 => ?_)
  · have h := it_t h c1
    refine rl_iconst hG (v := -1) dX8_figure_63 (by decide) ?_
    exact rl_ret2 hret h rfl dX8_figure_64
  · have h := it_f h c1
    refine rl_aload_n hG dX8_figure_11 rfl 0 rfl ?_
    refine rl_get hG iX8_figure_X8 0 (gM_0 a cI u) hcX8 0 (Nat.le_of_ble_eq_true rfl) nX8_figure_2 rfl dX8_figure_12 ?_
    refine rl_aload_n hG dX8_figure_15 rfl 0 rfl ?_
    refine rl_get hG iX8_figure_X8 0 (gM_0 a cI u) hcX8 19 (Nat.le_of_ble_eq_true rfl) nX8_figure_0 rfl dX8_figure_16 ?_
    obtain ⟨x2, ix2, ex2, h⟩ := ald_ok h
    refine rl_iald hG 1 0 (gM_1 a cI u) rfl ix2 ex2 dX8_figure_19 ?_
    obtain ⟨x3, hx3q, h⟩ := o1_ok h
    refine rl_callZi hG (As := [.int x2]) (kX8_sort l D u x2 x3 hx3q) gX8_figure_X8_sort rfl 1 rfl (by decide +kernel) rfl rfl (by decide) (Nat.le_of_ble_eq_true rfl) rfl dX8_figure_20 ?_
    refine rl_iconst hG (v := 2) dX8_figure_23 (by decide) ?_
    refine rl_icmp_ne hG (tgt := 63) dX8_figure_24 (by decide) (fun c4 => ?_) (fun c4 => ?_)
    · have h := it_f h c4
      refine rl_iconst hG (v := -1) dX8_figure_63 (by decide) ?_
      exact rl_ret2 hret h rfl dX8_figure_64
    · have h := it_t h c4
      refine rl_aload_n hG dX8_figure_27 rfl 0 rfl ?_
      refine rl_get hG iX8_figure_X8 0 (gM_0 a cI u) hcX8 20 (Nat.le_of_ble_eq_true rfl) nX8_figure_3 rfl dX8_figure_28 ?_
      refine rl_aload_n hG dX8_figure_31 rfl 0 rfl ?_
      refine rl_get hG iX8_figure_X8 0 (gM_0 a cI u) hcX8 19 (Nat.le_of_ble_eq_true rfl) nX8_figure_0 rfl dX8_figure_32 ?_
      refine rl_isub hG dX8_figure_35 ?_
      refine rl_iconst hG (v := 1) dX8_figure_36 (by decide) ?_
      refine rl_icmp_ne hG (tgt := 63) dX8_figure_37 (by decide) (fun c5 => ?_) (fun c5 => ?_)
      · have h := it_f h c5
        refine rl_iconst hG (v := -1) dX8_figure_63 (by decide) ?_
        exact rl_ret2 hret h rfl dX8_figure_64
      · have h := it_t h c5
        refine rl_aload_n hG dX8_figure_40 rfl 0 rfl ?_
        refine rl_get hG iX8_figure_X8 0 (gM_0 a cI u) hcX8 0 (Nat.le_of_ble_eq_true rfl) nX8_figure_2 rfl dX8_figure_41 ?_
        refine rl_aload_n hG dX8_figure_44 rfl 0 rfl ?_
        refine rl_get hG iX8_figure_X8 0 (gM_0 a cI u) hcX8 19 (Nat.le_of_ble_eq_true rfl) nX8_figure_0 rfl dX8_figure_45 ?_
        obtain ⟨x6, ix6, ex6, h⟩ := ald_ok h
        refine rl_iald hG 1 0 (gM_1 a cI u) rfl ix6 ex6 dX8_figure_48 ?_
        refine rl_bipush hG (v := 48) dX8_figure_49 (by decide) ?_
        refine rl_isub hG dX8_figure_51 ?_
        refine rl_i2l hG dX8_figure_52 ?_
        refine rl_iload_n hG dX8_figure_53 rfl 1 rfl ?_
        refine rl_i2l hG dX8_figure_54 ?_
        refine rl_iload_n hG dX8_figure_55 rfl 2 rfl ?_
        refine rl_i2l hG dX8_figure_56 ?_
        obtain ⟨x7, hx7q, zx7, h⟩ := oz_ok h
        refine rl_callZi hG (As := [.long (x6 - (48 : Int32)).toInt64, .long p1.toInt64, .long p2.toInt64]) (kX8_in l D u (x6 - (48 : Int32)).toInt64 p1.toInt64 p2.toInt64 x7 hx7q) gX8_figure_X8_in rfl 3 rfl (by decide +kernel) rfl rfl (by decide) (Nat.le_of_ble_eq_true rfl) rfl dX8_figure_57 ?_
        refine rl_if_ne hG (tgt := 65) dX8_figure_60 (by decide) (fun c8 => ?_) (fun c8 => ?_)
        · have h := it_f h c8
          refine rl_aload_n hG dX8_figure_65 rfl 0 rfl ?_
          refine rl_get hG iX8_figure_X8 0 (gM_0 a cI u) hcX8 0 (Nat.le_of_ble_eq_true rfl) nX8_figure_2 rfl dX8_figure_66 ?_
          refine rl_aload_n hG dX8_figure_69 rfl 0 rfl ?_
          refine rl_get hG iX8_figure_X8 0 (gM_0 a cI u) hcX8 19 (Nat.le_of_ble_eq_true rfl) nX8_figure_0 rfl dX8_figure_70 ?_
          obtain ⟨x9, ix9, ex9, h⟩ := ald_ok h
          refine rl_iald hG 1 0 (gM_1 a cI u) rfl ix9 ex9 dX8_figure_73 ?_
          refine rl_bipush hG (v := 48) dX8_figure_74 (by decide) ?_
          refine rl_isub hG dX8_figure_76 ?_
          obtain ⟨x10, ex10, h⟩ := bd_ok h
          refine rl_istore_n hG [(3, .int x10), (0, .ref (a 0)), (1, .int p1), (2, .int p2)] dX8_figure_77 rfl (Nat.le_of_ble_eq_true rfl) ex10 rfl ?_
          refine rl_aload_n hG dX8_figure_78 rfl 1 rfl ?_
          obtain ⟨u11, hu11q, h⟩ := o1_ok h
          refine rl_callVv hG ro_0_ok (As := []) (kX8_token l D a cI aS u  u11  hu11q) gX8_figure_X8_token rfl 0 (gM_0 a cI u) hcX8 0 rfl (by decide +kernel) rfl rfl (by decide) (Nat.le_of_ble_eq_true rfl) rfl dX8_figure_79 ?_
          refine rl_iload_n hG dX8_figure_82 rfl 0 rfl ?_
          exact rl_ret2 hret h rfl dX8_figure_83
        · have h := it_t h c8
          refine rl_iconst hG (v := -1) dX8_figure_63 (by decide) ?_
          exact rl_ret2 hret h rfl dX8_figure_64
def fX8_part (u : St)  (p1 : Int32) (p2 : Int32) (p3 : Int32) (p4 : Int32) : Option (Int32 × St) := oz (fX8_isWord u p1 p2) (fun x1 => (if x1 = (0 : Int32) then some ((-2 : Int32), u) else o1 (fX8_token u) (fun u3 => o2 (fX8_figure u3 p3 p4) (fun x4 u5 => some (x4, u5)))))
set_option maxRecDepth 100000 in
set_option maxHeartbeats 4000000 in
theorem kX8_part (l : Launch) (D : va_G) (a : Nat → Nat) (cI : ClassId) (aS : Nat → Prop) (u : St)  (p1 : Int32) (p2 : Int32) (p3 : Int32) (p4 : Int32) (r : Int32) (τ : St)  (h0 : fX8_part u p1 p2 p3 p4 = some (r, τ)) : rl_Mi l yX8_part wsX8_part ({ frames := 3, cells := 0, slots := 0, locals := 63 } : Room) D (tyM cI) (wM a cI) ro_0 aS [.ref (a 0), .int p1, .int p2, .int p3, .int p4] u r τ := by
  refine rl_meth_i (cc := cX8_part) (maxL := 5) (own := RX8) (ty := .int) (by decide) rfl rfl (Nat.le_of_ble_eq_true rfl) ?_
  intro G hG hret
  have h := h0
  rw [fX8_part] at h
  show G u 0 [(0, .ref (a 0)), (1, .int p1), (2, .int p2), (3, .int p3), (4, .int p4)] []
  refine rl_aload_n hG dX8_part_0 rfl 0 rfl ?_
  refine rl_iload_n hG dX8_part_1 rfl 1 rfl ?_
  refine rl_iload_n hG dX8_part_2 rfl 2 rfl ?_
  obtain ⟨x1, hx1q, zx1, h⟩ := oz_ok h
  refine rl_callVi hG ro_0_ok (As := [.int p1, .int p2]) (kX8_isWord l D a cI aS u p1 p2 x1  hx1q) gX8_part_X8_isWord rfl 0 (gM_0 a cI u) hcX8 2 rfl (by decide +kernel) rfl rfl (by decide) (Nat.le_of_ble_eq_true rfl) rfl dX8_part_3 ?_
  refine rl_if_ne hG (tgt := 12) dX8_part_6 (by decide) (fun c2 => ?_) (fun c2 => ?_)
  · have h := it_f h c2
    refine rl_aload_n hG dX8_part_12 rfl 0 rfl ?_
    obtain ⟨u3, hu3q, h⟩ := o1_ok h
    refine rl_callVv hG ro_0_ok (As := []) (kX8_token l D a cI aS u  u3  hu3q) gX8_part_X8_token rfl 0 (gM_0 a cI u) hcX8 0 rfl (by decide +kernel) rfl rfl (by decide) (Nat.le_of_ble_eq_true rfl) rfl dX8_part_13 ?_
    refine rl_aload_n hG dX8_part_16 rfl 0 rfl ?_
    refine rl_iload_n hG dX8_part_17 rfl 3 rfl ?_
    refine rl_iload hG dX8_part_18 4 rfl ?_
    obtain ⟨x4, u5, hx4q, h⟩ := o2_ok h
    refine rl_callVi hG ro_0_ok (As := [.int p3, .int p4]) (kX8_figure l D a cI aS u3 p3 p4 x4 u5  hx4q) gX8_part_X8_figure rfl 0 (gM_0 a cI u3) hcX8 2 rfl (by decide +kernel) rfl rfl (by decide) (Nat.le_of_ble_eq_true rfl) rfl dX8_part_20 ?_
    exact rl_ret2 hret h rfl dX8_part_23
  · have h := it_t h c2
    refine rl_bipush hG (v := -2) dX8_part_9 (by decide) ?_
    exact rl_ret2 hret h rfl dX8_part_11
def fX8_readsReach_L193  (k59 : St → Int32 → Int32 → Int32 → Option (Int32 × St)) (u : St) (v1 : Int32) (v2 : Int32) (v3 : Int32) (w0 : Int32) (w1 : Int32) : Option (Int32 × St) := asr u 3 56 w1 w0 (fun u1 => bd (v3 + (1 : Int32)) (fun x2 => k59 u1 v1 v2 x2))
def fX8_readsReach_L161  (k59 : St → Int32 → Int32 → Int32 → Option (Int32 × St)) (u : St) (v1 : Int32) (v3 : Int32) (v4 : Int32) (w0 : Int32) : Option (Int32 × St) := (if v4 = (-2 : Int32) then ald u 3 56 ((v1 + (3 : Int32)) + v3) (fun x4 => fX8_readsReach_L193 k59 u v1 w0 v3 x4 ((v1 + (3 : Int32)) + v3)) else fX8_readsReach_L193 k59 u v1 w0 v3 v4 ((v1 + (3 : Int32)) + v3))
def fX8_readsReach_L156  (k59 : St → Int32 → Int32 → Int32 → Option (Int32 × St)) (u : St) (v1 : Int32) (v3 : Int32) (v4 : Int32) : Option (Int32 × St) := fX8_readsReach_L161 k59 u v1 v3 v4 (1 : Int32)
def fX8_readsReach_L135  (k59 : St → Int32 → Int32 → Int32 → Option (Int32 × St)) (u : St) (v1 : Int32) (v2 : Int32) (v3 : Int32) (w0 : Int32) : Option (Int32 × St) := (if w0 = (-1 : Int32) then some ((0 : Int32), u) else (if v2 = (0 : Int32) then (if w0 = (-2 : Int32) then fX8_readsReach_L161 k59 u v1 v3 w0 (0 : Int32) else fX8_readsReach_L156 k59 u v1 v3 w0) else fX8_readsReach_L156 k59 u v1 v3 w0))
def fX8_readsReach_L59   : Nat → St → Int32 → Int32 → Int32 → Option (Int32 × St)
  | 0 => fun _ _ _ _ => none
  | n + 1 => fun u v1 v2 v3 => (if (4 : Int32) ≤ v3 then rb v2 (fun y => some (y, u)) else (if v3 = (0 : Int32) then o2 (fX8_part u (484 : Int32) (2 : Int32) (0 : Int32) (5 : Int32)) (fun x19 u20 => fX8_readsReach_L135 (fX8_readsReach_L59 n) u20 v1 v2 v3 x19) else (if v3 = (1 : Int32) then o2 (fX8_part u (207 : Int32) (2 : Int32) (0 : Int32) (3 : Int32)) (fun x17 u18 => fX8_readsReach_L135 (fX8_readsReach_L59 n) u18 v1 v2 v3 x17) else (if v3 = (2 : Int32) then o2 (fX8_part u (441926 : Int32) (4 : Int32) (0 : Int32) (9 : Int32)) (fun x15 u16 => fX8_readsReach_L135 (fX8_readsReach_L59 n) u16 v1 v2 v3 x15) else ald u 3 56 (v1 + (5 : Int32)) (fun x12 => o2 (fX8_part u (500 : Int32) (2 : Int32) x12 (9 : Int32)) (fun x13 u14 => fX8_readsReach_L135 (fX8_readsReach_L59 n) u14 v1 v2 v3 x13))))))
def fX8_readsReach (u : St)  (p1 : Int32) : Option (Int32 × St) := asr u 3 56 (p1 + (3 : Int32)) (-1 : Int32) (fun u21 => asr u21 3 56 (p1 + (4 : Int32)) (-1 : Int32) (fun u22 => asr u22 3 56 (p1 + (5 : Int32)) (0 : Int32) (fun u23 => asr u23 3 56 (p1 + (6 : Int32)) (9 : Int32) (fun u24 => oz (fX8_isWord u24 (12673 : Int32) (3 : Int32)) (fun x25 => (if x25 = (0 : Int32) then fX8_readsReach_L59 2000 u24 p1 (0 : Int32) (0 : Int32) else o1 (fX8_token u24) (fun u27 => some ((1 : Int32), u27))))))))
theorem nX8_readsReach_0 : Cond.fieldLink RX8 16 "WhoseWorkModel" "read" "[I" ∈ wsX8_readsReach := by decide +kernel
theorem nX8_readsReach_1 : Cond.constant RX8 99 (441926) ∈ wsX8_readsReach := by decide +kernel
theorem iX8_readsReach_X8 : ∀ w ∈ wsX80, w ∈ wsX8_readsReach := by decide +kernel
set_option maxRecDepth 100000 in
set_option maxHeartbeats 4000000 in
theorem kX8_readsReach (l : Launch) (D : va_G) (a : Nat → Nat) (cI : ClassId) (aS : Nat → Prop) (u : St)  (p1 : Int32) (r : Int32) (τ : St)  (h0 : fX8_readsReach u p1 = some (r, τ)) : rl_Mi l yX8_readsReach wsX8_readsReach ({ frames := 4, cells := 0, slots := 0, locals := 87 } : Room) D (tyM cI) (wM a cI) ro_0 aS [.ref (a 0), .int p1] u r τ := by
  refine rl_meth_i (cc := cX8_readsReach) (maxL := 5) (own := RX8) (ty := .boolean) (by decide) rfl rfl (Nat.le_of_ble_eq_true rfl) ?_
  intro G hG hret
  have H193 : ∀ (k59 : St → Int32 → Int32 → Int32 → Option (Int32 × St)) (hk59 : ∀ (u : St) (v1 : Int32) (v2 : Int32) (v3 : Int32), k59 u v1 v2 v3 = some (r, τ) → G u 59 [(0, .ref (a 0)), (1, .int v1), (2, .int v2), (3, .int v3)] []), ∀ (u : St) (v1 : Int32) (v2 : Int32) (v3 : Int32) (w0 : Int32) (w1 : Int32), fX8_readsReach_L193 k59 u v1 v2 v3 w0 w1 = some (r, τ) → G u 193 [(0, .ref (a 0)), (1, .int v1), (2, .int v2), (3, .int v3)] [.int w0, .int w1, .ref (a 3)] := by
    intro k59 hk59 u v1 v2 v3 w0 w1 h
    rw [fX8_readsReach_L193] at h
    obtain ⟨u1, iu1, eu1, h⟩ := asr_ok h
    refine rl_iast hG 3 0 (gM_3 a cI u) rfl iu1 (σ' := u1) ((sM_3 a cI u _).trans (congrArg _ eu1.symm)) dX8_readsReach_193 ?_
    obtain ⟨x2, ex2, h⟩ := bd_ok h
    refine rl_iinc hG [(3, .int x2), (0, .ref (a 0)), (1, .int v1), (2, .int v2)] dX8_readsReach_194 3 rfl (by rw [ex2]; rfl) (Nat.le_of_ble_eq_true rfl) rfl ?_
    refine rl_goto hG (tgt := 59) dX8_readsReach_197 (by decide) ?_
    exact rl_lvs hG [1, 2, 3, 0] rfl (hk59 u1 v1 v2 x2 h)
  have H161 : ∀ (k59 : St → Int32 → Int32 → Int32 → Option (Int32 × St)) (hk59 : ∀ (u : St) (v1 : Int32) (v2 : Int32) (v3 : Int32), k59 u v1 v2 v3 = some (r, τ) → G u 59 [(0, .ref (a 0)), (1, .int v1), (2, .int v2), (3, .int v3)] []), ∀ (u : St) (v1 : Int32) (v3 : Int32) (v4 : Int32) (w0 : Int32), fX8_readsReach_L161 k59 u v1 v3 v4 w0 = some (r, τ) → G u 161 [(0, .ref (a 0)), (1, .int v1), (3, .int v3), (4, .int v4)] [.int w0] := by
    intro k59 hk59 u v1 v3 v4 w0 h
    rw [fX8_readsReach_L161] at h
    refine rl_istore_n hG [(2, .int w0), (0, .ref (a 0)), (1, .int v1), (3, .int v3), (4, .int v4)] dX8_readsReach_161 rfl (Nat.le_of_ble_eq_true rfl) rfl rfl ?_
    refine rl_aload_n hG dX8_readsReach_162 rfl 1 rfl ?_
    refine rl_get hG iX8_readsReach_X8 0 (gM_0 a cI u) hcX8 4 (Nat.le_of_ble_eq_true rfl) nX8_readsReach_0 rfl dX8_readsReach_163 ?_
    refine rl_iload_n hG dX8_readsReach_166 rfl 2 rfl ?_
    refine rl_iconst hG (v := 3) dX8_readsReach_167 (by decide) ?_
    refine rl_iadd hG dX8_readsReach_168 ?_
    refine rl_iload_n hG dX8_readsReach_169 rfl 3 rfl ?_
    refine rl_iadd hG dX8_readsReach_170 ?_
    refine rl_iload hG dX8_readsReach_171 4 rfl ?_
    refine rl_bipush hG (v := -2) dX8_readsReach_173 (by decide) ?_
    refine rl_icmp_ne hG (tgt := 191) dX8_readsReach_175 (by decide) (fun c3 => ?_) (fun c3 => ?_)
    · have h := it_f h c3
      refine rl_iload hG dX8_readsReach_191 4 rfl ?_
      exact rl_lvs hG [1, 2, 0, 3] rfl (H193 (k59) (hk59) u v1 w0 v3 v4 ((v1 + (3 : Int32)) + v3) h)
    · have h := it_t h c3
      refine rl_aload_n hG dX8_readsReach_178 rfl 1 rfl ?_
      refine rl_get hG iX8_readsReach_X8 0 (gM_0 a cI u) hcX8 4 (Nat.le_of_ble_eq_true rfl) nX8_readsReach_0 rfl dX8_readsReach_179 ?_
      refine rl_iload_n hG dX8_readsReach_182 rfl 2 rfl ?_
      refine rl_iconst hG (v := 3) dX8_readsReach_183 (by decide) ?_
      refine rl_iadd hG dX8_readsReach_184 ?_
      refine rl_iload_n hG dX8_readsReach_185 rfl 3 rfl ?_
      refine rl_iadd hG dX8_readsReach_186 ?_
      obtain ⟨x4, ix4, ex4, h⟩ := ald_ok h
      refine rl_iald hG 3 0 (gM_3 a cI u) rfl ix4 ex4 dX8_readsReach_187 ?_
      refine rl_goto hG (tgt := 193) dX8_readsReach_188 (by decide) ?_
      exact rl_lvs hG [1, 2, 0, 3] rfl (H193 (k59) (hk59) u v1 w0 v3 x4 ((v1 + (3 : Int32)) + v3) h)
  have H156 : ∀ (k59 : St → Int32 → Int32 → Int32 → Option (Int32 × St)) (hk59 : ∀ (u : St) (v1 : Int32) (v2 : Int32) (v3 : Int32), k59 u v1 v2 v3 = some (r, τ) → G u 59 [(0, .ref (a 0)), (1, .int v1), (2, .int v2), (3, .int v3)] []), ∀ (u : St) (v1 : Int32) (v3 : Int32) (v4 : Int32), fX8_readsReach_L156 k59 u v1 v3 v4 = some (r, τ) → G u 156 [(0, .ref (a 0)), (1, .int v1), (3, .int v3), (4, .int v4)] [] := by
    intro k59 hk59 u v1 v3 v4 h
    rw [fX8_readsReach_L156] at h
    refine rl_iconst hG (v := 1) dX8_readsReach_156 (by decide) ?_
    refine rl_goto hG (tgt := 161) dX8_readsReach_157 (by decide) ?_
    exact rl_lvs hG [0, 1, 2, 3] rfl (H161 (k59) (hk59) u v1 v3 v4 (1 : Int32) h)
  have H135 : ∀ (k59 : St → Int32 → Int32 → Int32 → Option (Int32 × St)) (hk59 : ∀ (u : St) (v1 : Int32) (v2 : Int32) (v3 : Int32), k59 u v1 v2 v3 = some (r, τ) → G u 59 [(0, .ref (a 0)), (1, .int v1), (2, .int v2), (3, .int v3)] []), ∀ (u : St) (v1 : Int32) (v2 : Int32) (v3 : Int32) (w0 : Int32), fX8_readsReach_L135 k59 u v1 v2 v3 w0 = some (r, τ) → G u 135 [(0, .ref (a 0)), (1, .int v1), (2, .int v2), (3, .int v3)] [.int w0] := by
    intro k59 hk59 u v1 v2 v3 w0 h
    rw [fX8_readsReach_L135] at h
    refine rl_istore hG [(4, .int w0), (0, .ref (a 0)), (1, .int v1), (2, .int v2), (3, .int v3)] dX8_readsReach_135 (Nat.le_of_ble_eq_true rfl) rfl rfl ?_
    refine rl_iload hG dX8_readsReach_137 0 rfl ?_
    refine rl_iconst hG (v := -1) dX8_readsReach_139 (by decide) ?_
    refine rl_icmp_ne hG (tgt := 145) dX8_readsReach_140 (by decide) (fun c5 => ?_) (fun c5 => ?_)
    · have h := it_f h c5
      refine rl_iload_n hG dX8_readsReach_145 rfl 3 rfl ?_
      refine rl_if_ne hG (tgt := 156) dX8_readsReach_146 (by decide) (fun c6 => ?_) (fun c6 => ?_)
      · have h := it_f h c6
        exact rl_lvs hG [1, 2, 4, 0] rfl (H156 (k59) (hk59) u v1 v3 w0 h)
      · have h := it_t h c6
        refine rl_iload hG dX8_readsReach_149 0 rfl ?_
        refine rl_bipush hG (v := -2) dX8_readsReach_151 (by decide) ?_
        refine rl_icmp_eq hG (tgt := 160) dX8_readsReach_153 (by decide) (fun c7 => ?_) (fun c7 => ?_)
        · have h := it_t h c7
          refine rl_iconst hG (v := 0) dX8_readsReach_160 (by decide) ?_
          exact rl_lvs hG [1, 2, 4, 0] rfl (H161 (k59) (hk59) u v1 v3 w0 (0 : Int32) h)
        · have h := it_f h c7
          exact rl_lvs hG [1, 2, 4, 0] rfl (H156 (k59) (hk59) u v1 v3 w0 h)
    · have h := it_t h c5
      refine rl_iconst hG (v := 0) dX8_readsReach_143 (by decide) ?_
      exact rl_ret2 hret h rfl dX8_readsReach_144
  have H59 : ∀ (n : Nat) (u : St) (v1 : Int32) (v2 : Int32) (v3 : Int32), fX8_readsReach_L59 n u v1 v2 v3 = some (r, τ) → G u 59 [(0, .ref (a 0)), (1, .int v1), (2, .int v2), (3, .int v3)] [] := by
    intro n
    induction n with
    | zero =>
      intro u v1 v2 v3 h
      exact absurd h (by rw [fX8_readsReach_L59]; exact fun q => by cases q)
    | succ n ih =>
      intro u v1 v2 v3 h
      rw [fX8_readsReach_L59] at h
      refine rl_iload_n hG dX8_readsReach_59 rfl 3 rfl ?_
      refine rl_iconst hG (v := 4) dX8_readsReach_60 (by decide) ?_
      refine rl_icmp_ge hG (tgt := 200) dX8_readsReach_61 (by decide) (fun c8 => ?_) (fun c8 => ?_)
      · have h := it_t h c8
        refine rl_iload_n hG dX8_readsReach_200 rfl 2 rfl ?_
        obtain ⟨hz, h⟩ := rb_ok h
        exact rl_ret2 hret h (na_z hz) dX8_readsReach_201
      · have h := it_f h c8
        refine rl_iload_n hG dX8_readsReach_64 rfl 3 rfl ?_
        refine rl_if_ne hG (tgt := 81) dX8_readsReach_65 (by decide) (fun c9 => ?_) (fun c9 => ?_)
        · have h := it_f h c9
          refine rl_iload_n hG dX8_readsReach_81 rfl 3 rfl ?_
          refine rl_iconst hG (v := 1) dX8_readsReach_82 (by decide) ?_
          refine rl_icmp_ne hG (tgt := 99) dX8_readsReach_83 (by decide) (fun c10 => ?_) (fun c10 => ?_)
          · have h := it_f h c10
            refine rl_iload_n hG dX8_readsReach_99 rfl 3 rfl ?_
            refine rl_iconst hG (v := 2) dX8_readsReach_100 (by decide) ?_
            refine rl_icmp_ne hG (tgt := 117) dX8_readsReach_101 (by decide) (fun c11 => ?_) (fun c11 => ?_)
            · have h := it_f h c11
              refine rl_aload_n hG dX8_readsReach_117 rfl 0 rfl ?_
              refine rl_sipush hG (v := 500) dX8_readsReach_118 (by decide) ?_
              refine rl_iconst hG (v := 2) dX8_readsReach_121 (by decide) ?_
              refine rl_aload_n hG dX8_readsReach_122 rfl 0 rfl ?_
              refine rl_get hG iX8_readsReach_X8 0 (gM_0 a cI u) hcX8 4 (Nat.le_of_ble_eq_true rfl) nX8_readsReach_0 rfl dX8_readsReach_123 ?_
              refine rl_iload_n hG dX8_readsReach_126 rfl 1 rfl ?_
              refine rl_iconst hG (v := 5) dX8_readsReach_127 (by decide) ?_
              refine rl_iadd hG dX8_readsReach_128 ?_
              obtain ⟨x12, ix12, ex12, h⟩ := ald_ok h
              refine rl_iald hG 3 0 (gM_3 a cI u) rfl ix12 ex12 dX8_readsReach_129 ?_
              refine rl_bipush hG (v := 9) dX8_readsReach_130 (by decide) ?_
              obtain ⟨x13, u14, hx13q, h⟩ := o2_ok h
              refine rl_callVi hG ro_0_ok (As := [.int (500 : Int32), .int (2 : Int32), .int x12, .int (9 : Int32)]) (kX8_part l D a cI aS u (500 : Int32) (2 : Int32) x12 (9 : Int32) x13 u14  hx13q) gX8_readsReach_X8_part rfl 0 (gM_0 a cI u) hcX8 4 rfl (by decide +kernel) rfl rfl (by decide) (Nat.le_of_ble_eq_true rfl) rfl dX8_readsReach_132 ?_
              exact rl_lvs hG [0, 1, 2, 3] rfl (H135 (fX8_readsReach_L59 n) (ih) u14 v1 v2 v3 x13 h)
            · have h := it_t h c11
              refine rl_aload_n hG dX8_readsReach_104 rfl 0 rfl ?_
              refine rl_ldc hG (v := 441926) dX8_readsReach_105 nX8_readsReach_1 ?_
              refine rl_iconst hG (v := 4) dX8_readsReach_107 (by decide) ?_
              refine rl_iconst hG (v := 0) dX8_readsReach_108 (by decide) ?_
              refine rl_bipush hG (v := 9) dX8_readsReach_109 (by decide) ?_
              obtain ⟨x15, u16, hx15q, h⟩ := o2_ok h
              refine rl_callVi hG ro_0_ok (As := [.int (441926 : Int32), .int (4 : Int32), .int (0 : Int32), .int (9 : Int32)]) (kX8_part l D a cI aS u (441926 : Int32) (4 : Int32) (0 : Int32) (9 : Int32) x15 u16  hx15q) gX8_readsReach_X8_part rfl 0 (gM_0 a cI u) hcX8 4 rfl (by decide +kernel) rfl rfl (by decide) (Nat.le_of_ble_eq_true rfl) rfl dX8_readsReach_111 ?_
              refine rl_goto hG (tgt := 135) dX8_readsReach_114 (by decide) ?_
              exact rl_lvs hG [0, 1, 2, 3] rfl (H135 (fX8_readsReach_L59 n) (ih) u16 v1 v2 v3 x15 h)
          · have h := it_t h c10
            refine rl_aload_n hG dX8_readsReach_86 rfl 0 rfl ?_
            refine rl_sipush hG (v := 207) dX8_readsReach_87 (by decide) ?_
            refine rl_iconst hG (v := 2) dX8_readsReach_90 (by decide) ?_
            refine rl_iconst hG (v := 0) dX8_readsReach_91 (by decide) ?_
            refine rl_iconst hG (v := 3) dX8_readsReach_92 (by decide) ?_
            obtain ⟨x17, u18, hx17q, h⟩ := o2_ok h
            refine rl_callVi hG ro_0_ok (As := [.int (207 : Int32), .int (2 : Int32), .int (0 : Int32), .int (3 : Int32)]) (kX8_part l D a cI aS u (207 : Int32) (2 : Int32) (0 : Int32) (3 : Int32) x17 u18  hx17q) gX8_readsReach_X8_part rfl 0 (gM_0 a cI u) hcX8 4 rfl (by decide +kernel) rfl rfl (by decide) (Nat.le_of_ble_eq_true rfl) rfl dX8_readsReach_93 ?_
            refine rl_goto hG (tgt := 135) dX8_readsReach_96 (by decide) ?_
            exact rl_lvs hG [0, 1, 2, 3] rfl (H135 (fX8_readsReach_L59 n) (ih) u18 v1 v2 v3 x17 h)
        · have h := it_t h c9
          refine rl_aload_n hG dX8_readsReach_68 rfl 0 rfl ?_
          refine rl_sipush hG (v := 484) dX8_readsReach_69 (by decide) ?_
          refine rl_iconst hG (v := 2) dX8_readsReach_72 (by decide) ?_
          refine rl_iconst hG (v := 0) dX8_readsReach_73 (by decide) ?_
          refine rl_iconst hG (v := 5) dX8_readsReach_74 (by decide) ?_
          obtain ⟨x19, u20, hx19q, h⟩ := o2_ok h
          refine rl_callVi hG ro_0_ok (As := [.int (484 : Int32), .int (2 : Int32), .int (0 : Int32), .int (5 : Int32)]) (kX8_part l D a cI aS u (484 : Int32) (2 : Int32) (0 : Int32) (5 : Int32) x19 u20  hx19q) gX8_readsReach_X8_part rfl 0 (gM_0 a cI u) hcX8 4 rfl (by decide +kernel) rfl rfl (by decide) (Nat.le_of_ble_eq_true rfl) rfl dX8_readsReach_75 ?_
          refine rl_goto hG (tgt := 135) dX8_readsReach_78 (by decide) ?_
          exact rl_lvs hG [0, 1, 2, 3] rfl (H135 (fX8_readsReach_L59 n) (ih) u20 v1 v2 v3 x19 h)
  have h := h0
  rw [fX8_readsReach] at h
  show G u 0 [(0, .ref (a 0)), (1, .int p1)] []
  refine rl_aload_n hG dX8_readsReach_0 rfl 0 rfl ?_
  refine rl_get hG iX8_readsReach_X8 0 (gM_0 a cI u) hcX8 4 (Nat.le_of_ble_eq_true rfl) nX8_readsReach_0 rfl dX8_readsReach_1 ?_
  refine rl_iload_n hG dX8_readsReach_4 rfl 1 rfl ?_
  refine rl_iconst hG (v := 3) dX8_readsReach_5 (by decide) ?_
  refine rl_iadd hG dX8_readsReach_6 ?_
  refine rl_iconst hG (v := -1) dX8_readsReach_7 (by decide) ?_
  obtain ⟨u21, iu21, eu21, h⟩ := asr_ok h
  refine rl_iast hG 3 0 (gM_3 a cI u) rfl iu21 (σ' := u21) ((sM_3 a cI u _).trans (congrArg _ eu21.symm)) dX8_readsReach_8 ?_
  refine rl_aload_n hG dX8_readsReach_9 rfl 0 rfl ?_
  refine rl_get hG iX8_readsReach_X8 0 (gM_0 a cI u21) hcX8 4 (Nat.le_of_ble_eq_true rfl) nX8_readsReach_0 rfl dX8_readsReach_10 ?_
  refine rl_iload_n hG dX8_readsReach_13 rfl 1 rfl ?_
  refine rl_iconst hG (v := 4) dX8_readsReach_14 (by decide) ?_
  refine rl_iadd hG dX8_readsReach_15 ?_
  refine rl_iconst hG (v := -1) dX8_readsReach_16 (by decide) ?_
  obtain ⟨u22, iu22, eu22, h⟩ := asr_ok h
  refine rl_iast hG 3 0 (gM_3 a cI u21) rfl iu22 (σ' := u22) ((sM_3 a cI u21 _).trans (congrArg _ eu22.symm)) dX8_readsReach_17 ?_
  refine rl_aload_n hG dX8_readsReach_18 rfl 0 rfl ?_
  refine rl_get hG iX8_readsReach_X8 0 (gM_0 a cI u22) hcX8 4 (Nat.le_of_ble_eq_true rfl) nX8_readsReach_0 rfl dX8_readsReach_19 ?_
  refine rl_iload_n hG dX8_readsReach_22 rfl 1 rfl ?_
  refine rl_iconst hG (v := 5) dX8_readsReach_23 (by decide) ?_
  refine rl_iadd hG dX8_readsReach_24 ?_
  refine rl_iconst hG (v := 0) dX8_readsReach_25 (by decide) ?_
  obtain ⟨u23, iu23, eu23, h⟩ := asr_ok h
  refine rl_iast hG 3 0 (gM_3 a cI u22) rfl iu23 (σ' := u23) ((sM_3 a cI u22 _).trans (congrArg _ eu23.symm)) dX8_readsReach_26 ?_
  refine rl_aload_n hG dX8_readsReach_27 rfl 0 rfl ?_
  refine rl_get hG iX8_readsReach_X8 0 (gM_0 a cI u23) hcX8 4 (Nat.le_of_ble_eq_true rfl) nX8_readsReach_0 rfl dX8_readsReach_28 ?_
  refine rl_iload_n hG dX8_readsReach_31 rfl 1 rfl ?_
  refine rl_bipush hG (v := 6) dX8_readsReach_32 (by decide) ?_
  refine rl_iadd hG dX8_readsReach_34 ?_
  refine rl_bipush hG (v := 9) dX8_readsReach_35 (by decide) ?_
  obtain ⟨u24, iu24, eu24, h⟩ := asr_ok h
  refine rl_iast hG 3 0 (gM_3 a cI u23) rfl iu24 (σ' := u24) ((sM_3 a cI u23 _).trans (congrArg _ eu24.symm)) dX8_readsReach_37 ?_
  refine rl_aload_n hG dX8_readsReach_38 rfl 0 rfl ?_
  refine rl_sipush hG (v := 12673) dX8_readsReach_39 (by decide) ?_
  refine rl_iconst hG (v := 3) dX8_readsReach_42 (by decide) ?_
  obtain ⟨x25, hx25q, zx25, h⟩ := oz_ok h
  refine rl_callVi hG ro_0_ok (As := [.int (12673 : Int32), .int (3 : Int32)]) (kX8_isWord l D a cI aS u24 (12673 : Int32) (3 : Int32) x25  hx25q) gX8_readsReach_X8_isWord rfl 0 (gM_0 a cI u24) hcX8 2 rfl (by decide +kernel) rfl rfl (by decide) (Nat.le_of_ble_eq_true rfl) rfl dX8_readsReach_43 ?_
  refine rl_if_eq hG (tgt := 55) dX8_readsReach_46 (by decide) (fun c26 => ?_) (fun c26 => ?_)
  · have h := it_t h c26
    refine rl_iconst hG (v := 0) dX8_readsReach_55 (by decide) ?_
    refine rl_istore_n hG [(2, .int (0 : Int32)), (0, .ref (a 0)), (1, .int p1)] dX8_readsReach_56 rfl (Nat.le_of_ble_eq_true rfl) rfl rfl ?_
    refine rl_iconst hG (v := 0) dX8_readsReach_57 (by decide) ?_
    refine rl_istore_n hG [(3, .int (0 : Int32)), (2, .int (0 : Int32)), (0, .ref (a 0)), (1, .int p1)] dX8_readsReach_58 rfl (Nat.le_of_ble_eq_true rfl) rfl rfl ?_
    exact rl_lvs hG [2, 3, 1, 0] rfl (H59 2000 u24 p1 (0 : Int32) (0 : Int32) h)
  · have h := it_f h c26
    refine rl_aload_n hG dX8_readsReach_49 rfl 0 rfl ?_
    obtain ⟨u27, hu27q, h⟩ := o1_ok h
    refine rl_callVv hG ro_0_ok (As := []) (kX8_token l D a cI aS u24  u27  hu27q) gX8_readsReach_X8_token rfl 0 (gM_0 a cI u24) hcX8 0 rfl (by decide +kernel) rfl rfl (by decide) (Nat.le_of_ble_eq_true rfl) rfl dX8_readsReach_50 ?_
    refine rl_iconst hG (v := 1) dX8_readsReach_53 (by decide) ?_
    exact rl_ret2 hret h rfl dX8_readsReach_54
def fX8_readsLine_L254   (u : St) (v1 : Int32) : Option (Int32 × St) := o2z (fX8_readsReach u v1) (fun x1 u2 => (if x1 = (0 : Int32) then some ((0 : Int32), u2) else bd (st_wr u2 0 5 ((u2 0 5) + (1 : Int32))) (fun u4 => some ((1 : Int32), u4))))
def fX8_readsLine_L234   (u : St) (v1 : Int32) (w0 : Int32) : Option (Int32 × St) := (if w0 = (-1 : Int32) then some ((0 : Int32), u) else asr u 3 56 (v1 + (2 : Int32)) w0 (fun u6 => fX8_readsLine_L254 u6 v1))
def fX8_readsLine_L217   (u : St) (v1 : Int32) (w0 : Int32) : Option (Int32 × St) := (if w0 = (0 : Int32) then o2 (fX8_figure u (0 : Int32) (5 : Int32)) (fun x8 u9 => fX8_readsLine_L234 u9 v1 x8) else fX8_readsLine_L234 u v1 (-1 : Int32))
def fX8_readsLine_L216   (u : St) (v1 : Int32) : Option (Int32 × St) := fX8_readsLine_L217 u v1 (0 : Int32)
def fX8_readsLine_L162   (u : St) (v1 : Int32) (v3 : Int32) : Option (Int32 × St) := ald u 3 56 v1 (fun x10 => (if x10 = (3 : Int32) then (if (u 0 1) ≤ (u 0 19) then fX8_readsLine_L216 u v1 else ald u 1 160 (u 0 19) (fun x13 => (if x13 = ((48 : Int32) + v3) then (if ((u 0 20) - (u 0 19)) = (1 : Int32) then fX8_readsLine_L217 u v1 (1 : Int32) else fX8_readsLine_L216 u v1) else fX8_readsLine_L216 u v1))) else fX8_readsLine_L254 u v1))
def fX8_readsLine_L141   (u : St) (v1 : Int32) (v2 : Int32) (v3 : Int32) (w0 : Int32) (w1 : Int32) : Option (Int32 × St) := asr u 3 56 w1 w0 (fun u16 => ald u16 3 56 v1 (fun x17 => (if x17 = (-1 : Int32) then some ((0 : Int32), u16) else (if v2 = (0 : Int32) then o1 (fX8_token u16) (fun u20 => fX8_readsLine_L162 u20 v1 v3) else fX8_readsLine_L162 u16 v1 v3))))
def fX8_readsLine_L32   (u : St) (v1 : Int32) (v2 : Int32) : Option (Int32 × St) := o1 (fX8_token u) (fun u21 => o2 (fX8_figure u21 (0 : Int32) (5 : Int32)) (fun x22 u23 => (if x22 = (-1 : Int32) then some ((0 : Int32), u23) else asr u23 3 56 (v1 + (1 : Int32)) x22 (fun u25 => asr u25 3 56 (v1 + (2 : Int32)) (-1 : Int32) (fun u26 => (if v2 = (0 : Int32) then oz (fX8_isWord u26 (25645 : Int32) (3 : Int32)) (fun x28 => (if x28 = (0 : Int32) then oz (fX8_isWord u26 (20974 : Int32) (3 : Int32)) (fun x30 => (if x30 = (0 : Int32) then oz (fX8_isWord u26 (831951 : Int32) (4 : Int32)) (fun x32 => (if x32 = (0 : Int32) then oz (fX8_isWord u26 (172280994 : Int32) (6 : Int32)) (fun x34 => (if x34 = (0 : Int32) then fX8_readsLine_L141 u26 v1 v2 x22 (-1 : Int32) v1 else fX8_readsLine_L141 u26 v1 v2 x22 (3 : Int32) v1)) else fX8_readsLine_L141 u26 v1 v2 x22 (2 : Int32) v1)) else fX8_readsLine_L141 u26 v1 v2 x22 (1 : Int32) v1)) else fX8_readsLine_L141 u26 v1 v2 x22 (0 : Int32) v1)) else fX8_readsLine_L141 u26 v1 v2 x22 (4 : Int32) v1))))))
def fX8_readsLine (u : St)   : Option (Int32 × St) := bd ((7 : Int32) * (u 0 5)) (fun x36 => oz (fX8_isWord u (21431879 : Int32) (5 : Int32)) (fun x37 => (if x37 = (0 : Int32) then oz (fX8_isWord u (4597415 : Int32) (5 : Int32)) (fun x39 => (if x39 = (0 : Int32) then some ((0 : Int32), u) else fX8_readsLine_L32 u x36 x37)) else fX8_readsLine_L32 u x36 x37)))
theorem nX8_readsLine_0 : Cond.fieldLink RX8 100 "WhoseWorkModel" "readMany" "I" ∈ wsX8_readsLine := by decide +kernel
theorem nX8_readsLine_1 : Cond.fieldLink RX8 16 "WhoseWorkModel" "read" "[I" ∈ wsX8_readsLine := by decide +kernel
theorem nX8_readsLine_2 : Cond.fieldLink RX8 74 "WhoseWorkModel" "place" "I" ∈ wsX8_readsLine := by decide +kernel
theorem nX8_readsLine_3 : Cond.fieldLink RX8 65 "WhoseWorkModel" "length" "I" ∈ wsX8_readsLine := by decide +kernel
theorem nX8_readsLine_4 : Cond.fieldLink RX8 7 "WhoseWorkModel" "text" "[I" ∈ wsX8_readsLine := by decide +kernel
theorem nX8_readsLine_5 : Cond.fieldLink RX8 81 "WhoseWorkModel" "end" "I" ∈ wsX8_readsLine := by decide +kernel
theorem nX8_readsLine_6 : Cond.constant RX8 105 (831951) ∈ wsX8_readsLine := by decide +kernel
theorem nX8_readsLine_7 : Cond.constant RX8 106 (172280994) ∈ wsX8_readsLine := by decide +kernel
theorem nX8_readsLine_8 : Cond.constant RX8 103 (21431879) ∈ wsX8_readsLine := by decide +kernel
theorem nX8_readsLine_9 : Cond.constant RX8 104 (4597415) ∈ wsX8_readsLine := by decide +kernel
theorem iX8_readsLine_X8 : ∀ w ∈ wsX80, w ∈ wsX8_readsLine := by decide +kernel
set_option maxRecDepth 100000 in
set_option maxHeartbeats 4000000 in
theorem kX8_readsLine (l : Launch) (D : va_G) (a : Nat → Nat) (cI : ClassId) (aS : Nat → Prop) (u : St)   (r : Int32) (τ : St)  (h0 : fX8_readsLine u = some (r, τ)) : rl_Mi l yX8_readsLine wsX8_readsLine ({ frames := 5, cells := 0, slots := 0, locals := 111 } : Room) D (tyM cI) (wM a cI) ro_0 aS [.ref (a 0)] u r τ := by
  refine rl_meth_i (cc := cX8_readsLine) (maxL := 6) (own := RX8) (ty := .boolean) (by decide) rfl rfl (Nat.le_of_ble_eq_true rfl) ?_
  intro G hG hret
  have H254 : ∀ (u : St) (v1 : Int32), fX8_readsLine_L254 u v1 = some (r, τ) → G u 254 [(0, .ref (a 0)), (1, .int v1)] [] := by
    intro  u v1 h
    rw [fX8_readsLine_L254] at h
    refine rl_aload_n hG dX8_readsLine_254 rfl 0 rfl ?_
    refine rl_iload_n hG dX8_readsLine_255 rfl 1 rfl ?_
    obtain ⟨x1, u2, hx1q, zx1, h⟩ := o2z_ok h
    refine rl_callVi hG ro_0_ok (As := [.int v1]) (kX8_readsReach l D a cI aS u v1 x1 u2  hx1q) gX8_readsLine_X8_readsReach rfl 0 (gM_0 a cI u) hcX8 1 rfl (by decide +kernel) rfl rfl (by decide) (Nat.le_of_ble_eq_true rfl) rfl dX8_readsLine_256 ?_
    refine rl_if_ne hG (tgt := 264) dX8_readsLine_259 (by decide) (fun c3 => ?_) (fun c3 => ?_)
    · have h := it_f h c3
      refine rl_aload_n hG dX8_readsLine_264 rfl 0 rfl ?_
      refine rl_dup hG dX8_readsLine_265 rfl ?_
      refine rl_get hG iX8_readsLine_X8 0 (gM_0 a cI u2) hcX8 5 (Nat.le_of_ble_eq_true rfl) nX8_readsLine_0 rfl dX8_readsLine_266 ?_
      refine rl_iconst hG (v := 1) dX8_readsLine_269 (by decide) ?_
      refine rl_iadd hG dX8_readsLine_270 ?_
      obtain ⟨u4, eu4, h⟩ := bd_ok h
      refine rl_put hG iX8_readsLine_X8 tyX8 tyX8_ok nmX8 0 (gM_0 a cI u2) hcX8 5 (Nat.le_of_ble_eq_true rfl) nX8_readsLine_0 rfl rfl (Nat.le_of_ble_eq_true rfl) (σ' := u4) ((sM_0_5 a cI u2 _).trans (congrArg _ eu4.symm)) dX8_readsLine_271 ?_
      refine rl_iconst hG (v := 1) dX8_readsLine_274 (by decide) ?_
      exact rl_ret2 hret h rfl dX8_readsLine_275
    · have h := it_t h c3
      refine rl_iconst hG (v := 0) dX8_readsLine_262 (by decide) ?_
      exact rl_ret2 hret h rfl dX8_readsLine_263
  have H234 : ∀ (u : St) (v1 : Int32) (w0 : Int32), fX8_readsLine_L234 u v1 w0 = some (r, τ) → G u 234 [(0, .ref (a 0)), (1, .int v1)] [.int w0] := by
    intro  u v1 w0 h
    rw [fX8_readsLine_L234] at h
    refine rl_istore hG [(5, .int w0), (0, .ref (a 0)), (1, .int v1)] dX8_readsLine_234 (Nat.le_of_ble_eq_true rfl) rfl rfl ?_
    refine rl_iload hG dX8_readsLine_236 0 rfl ?_
    refine rl_iconst hG (v := -1) dX8_readsLine_238 (by decide) ?_
    refine rl_icmp_ne hG (tgt := 244) dX8_readsLine_239 (by decide) (fun c5 => ?_) (fun c5 => ?_)
    · have h := it_f h c5
      refine rl_aload_n hG dX8_readsLine_244 rfl 1 rfl ?_
      refine rl_get hG iX8_readsLine_X8 0 (gM_0 a cI u) hcX8 4 (Nat.le_of_ble_eq_true rfl) nX8_readsLine_1 rfl dX8_readsLine_245 ?_
      refine rl_iload_n hG dX8_readsLine_248 rfl 2 rfl ?_
      refine rl_iconst hG (v := 2) dX8_readsLine_249 (by decide) ?_
      refine rl_iadd hG dX8_readsLine_250 ?_
      refine rl_iload hG dX8_readsLine_251 0 rfl ?_
      obtain ⟨u6, iu6, eu6, h⟩ := asr_ok h
      refine rl_iast hG 3 0 (gM_3 a cI u) rfl iu6 (σ' := u6) ((sM_3 a cI u _).trans (congrArg _ eu6.symm)) dX8_readsLine_253 ?_
      exact rl_lvs hG [1, 2] rfl (H254 u6 v1 h)
    · have h := it_t h c5
      refine rl_iconst hG (v := 0) dX8_readsLine_242 (by decide) ?_
      exact rl_ret2 hret h rfl dX8_readsLine_243
  have H217 : ∀ (u : St) (v1 : Int32) (w0 : Int32), fX8_readsLine_L217 u v1 w0 = some (r, τ) → G u 217 [(0, .ref (a 0)), (1, .int v1)] [.int w0] := by
    intro  u v1 w0 h
    rw [fX8_readsLine_L217] at h
    refine rl_istore hG [(4, .int w0), (0, .ref (a 0)), (1, .int v1)] dX8_readsLine_217 (Nat.le_of_ble_eq_true rfl) rfl rfl ?_
    refine rl_iload hG dX8_readsLine_219 0 rfl ?_
    refine rl_if_eq hG (tgt := 228) dX8_readsLine_221 (by decide) (fun c7 => ?_) (fun c7 => ?_)
    · have h := it_t h c7
      refine rl_aload_n hG dX8_readsLine_228 rfl 1 rfl ?_
      refine rl_iconst hG (v := 0) dX8_readsLine_229 (by decide) ?_
      refine rl_iconst hG (v := 5) dX8_readsLine_230 (by decide) ?_
      obtain ⟨x8, u9, hx8q, h⟩ := o2_ok h
      refine rl_callVi hG ro_0_ok (As := [.int (0 : Int32), .int (5 : Int32)]) (kX8_figure l D a cI aS u (0 : Int32) (5 : Int32) x8 u9  hx8q) gX8_readsLine_X8_figure rfl 0 (gM_0 a cI u) hcX8 2 rfl (by decide +kernel) rfl rfl (by decide) (Nat.le_of_ble_eq_true rfl) rfl dX8_readsLine_231 ?_
      exact rl_lvs hG [1, 2] rfl (H234 u9 v1 x8 h)
    · have h := it_f h c7
      refine rl_iconst hG (v := -1) dX8_readsLine_224 (by decide) ?_
      refine rl_goto hG (tgt := 234) dX8_readsLine_225 (by decide) ?_
      exact rl_lvs hG [1, 2] rfl (H234 u v1 (-1 : Int32) h)
  have H216 : ∀ (u : St) (v1 : Int32), fX8_readsLine_L216 u v1 = some (r, τ) → G u 216 [(0, .ref (a 0)), (1, .int v1)] [] := by
    intro  u v1 h
    rw [fX8_readsLine_L216] at h
    refine rl_iconst hG (v := 0) dX8_readsLine_216 (by decide) ?_
    exact rl_lvs hG [0, 1] rfl (H217 u v1 (0 : Int32) h)
  have H162 : ∀ (u : St) (v1 : Int32) (v3 : Int32), fX8_readsLine_L162 u v1 v3 = some (r, τ) → G u 162 [(0, .ref (a 0)), (1, .int v1), (3, .int v3)] [] := by
    intro  u v1 v3 h
    rw [fX8_readsLine_L162] at h
    refine rl_aload_n hG dX8_readsLine_162 rfl 0 rfl ?_
    refine rl_get hG iX8_readsLine_X8 0 (gM_0 a cI u) hcX8 4 (Nat.le_of_ble_eq_true rfl) nX8_readsLine_1 rfl dX8_readsLine_163 ?_
    refine rl_iload_n hG dX8_readsLine_166 rfl 1 rfl ?_
    obtain ⟨x10, ix10, ex10, h⟩ := ald_ok h
    refine rl_iald hG 3 0 (gM_3 a cI u) rfl ix10 ex10 dX8_readsLine_167 ?_
    refine rl_iconst hG (v := 3) dX8_readsLine_168 (by decide) ?_
    refine rl_icmp_ne hG (tgt := 254) dX8_readsLine_169 (by decide) (fun c11 => ?_) (fun c11 => ?_)
    · have h := it_f h c11
      exact rl_lvs hG [0, 1] rfl (H254 u v1 h)
    · have h := it_t h c11
      refine rl_aload_n hG dX8_readsLine_172 rfl 0 rfl ?_
      refine rl_get hG iX8_readsLine_X8 0 (gM_0 a cI u) hcX8 19 (Nat.le_of_ble_eq_true rfl) nX8_readsLine_2 rfl dX8_readsLine_173 ?_
      refine rl_aload_n hG dX8_readsLine_176 rfl 0 rfl ?_
      refine rl_get hG iX8_readsLine_X8 0 (gM_0 a cI u) hcX8 1 (Nat.le_of_ble_eq_true rfl) nX8_readsLine_3 rfl dX8_readsLine_177 ?_
      refine rl_icmp_ge hG (tgt := 216) dX8_readsLine_180 (by decide) (fun c12 => ?_) (fun c12 => ?_)
      · have h := it_t h c12
        exact rl_lvs hG [0, 1] rfl (H216 u v1 h)
      · have h := it_f h c12
        refine rl_aload_n hG dX8_readsLine_183 rfl 0 rfl ?_
        refine rl_get hG iX8_readsLine_X8 0 (gM_0 a cI u) hcX8 0 (Nat.le_of_ble_eq_true rfl) nX8_readsLine_4 rfl dX8_readsLine_184 ?_
        refine rl_aload_n hG dX8_readsLine_187 rfl 0 rfl ?_
        refine rl_get hG iX8_readsLine_X8 0 (gM_0 a cI u) hcX8 19 (Nat.le_of_ble_eq_true rfl) nX8_readsLine_2 rfl dX8_readsLine_188 ?_
        obtain ⟨x13, ix13, ex13, h⟩ := ald_ok h
        refine rl_iald hG 1 0 (gM_1 a cI u) rfl ix13 ex13 dX8_readsLine_191 ?_
        refine rl_bipush hG (v := 48) dX8_readsLine_192 (by decide) ?_
        refine rl_iload_n hG dX8_readsLine_194 rfl 2 rfl ?_
        refine rl_iadd hG dX8_readsLine_195 ?_
        refine rl_icmp_ne hG (tgt := 216) dX8_readsLine_196 (by decide) (fun c14 => ?_) (fun c14 => ?_)
        · have h := it_f h c14
          exact rl_lvs hG [0, 1] rfl (H216 u v1 h)
        · have h := it_t h c14
          refine rl_aload_n hG dX8_readsLine_199 rfl 0 rfl ?_
          refine rl_get hG iX8_readsLine_X8 0 (gM_0 a cI u) hcX8 20 (Nat.le_of_ble_eq_true rfl) nX8_readsLine_5 rfl dX8_readsLine_200 ?_
          refine rl_aload_n hG dX8_readsLine_203 rfl 0 rfl ?_
          refine rl_get hG iX8_readsLine_X8 0 (gM_0 a cI u) hcX8 19 (Nat.le_of_ble_eq_true rfl) nX8_readsLine_2 rfl dX8_readsLine_204 ?_
          refine rl_isub hG dX8_readsLine_207 ?_
          refine rl_iconst hG (v := 1) dX8_readsLine_208 (by decide) ?_
          refine rl_icmp_ne hG (tgt := 216) dX8_readsLine_209 (by decide) (fun c15 => ?_) (fun c15 => ?_)
          · have h := it_f h c15
            exact rl_lvs hG [0, 1] rfl (H216 u v1 h)
          · have h := it_t h c15
            refine rl_iconst hG (v := 1) dX8_readsLine_212 (by decide) ?_
            refine rl_goto hG (tgt := 217) dX8_readsLine_213 (by decide) ?_
            exact rl_lvs hG [0, 1] rfl (H217 u v1 (1 : Int32) h)
  have H141 : ∀ (u : St) (v1 : Int32) (v2 : Int32) (v3 : Int32) (w0 : Int32) (w1 : Int32), fX8_readsLine_L141 u v1 v2 v3 w0 w1 = some (r, τ) → G u 141 [(0, .ref (a 0)), (1, .int v1), (2, .int v2), (3, .int v3)] [.int w0, .int w1, .ref (a 3)] := by
    intro  u v1 v2 v3 w0 w1 h
    rw [fX8_readsLine_L141] at h
    obtain ⟨u16, iu16, eu16, h⟩ := asr_ok h
    refine rl_iast hG 3 0 (gM_3 a cI u) rfl iu16 (σ' := u16) ((sM_3 a cI u _).trans (congrArg _ eu16.symm)) dX8_readsLine_141 ?_
    refine rl_aload_n hG dX8_readsLine_142 rfl 0 rfl ?_
    refine rl_get hG iX8_readsLine_X8 0 (gM_0 a cI u16) hcX8 4 (Nat.le_of_ble_eq_true rfl) nX8_readsLine_1 rfl dX8_readsLine_143 ?_
    refine rl_iload_n hG dX8_readsLine_146 rfl 1 rfl ?_
    obtain ⟨x17, ix17, ex17, h⟩ := ald_ok h
    refine rl_iald hG 3 0 (gM_3 a cI u16) rfl ix17 ex17 dX8_readsLine_147 ?_
    refine rl_iconst hG (v := -1) dX8_readsLine_148 (by decide) ?_
    refine rl_icmp_ne hG (tgt := 154) dX8_readsLine_149 (by decide) (fun c18 => ?_) (fun c18 => ?_)
    · have h := it_f h c18
      refine rl_iload_n hG dX8_readsLine_154 rfl 2 rfl ?_
      refine rl_if_ne hG (tgt := 162) dX8_readsLine_155 (by decide) (fun c19 => ?_) (fun c19 => ?_)
      · have h := it_f h c19
        exact rl_lvs hG [0, 1, 3] rfl (H162 u16 v1 v3 h)
      · have h := it_t h c19
        refine rl_aload_n hG dX8_readsLine_158 rfl 0 rfl ?_
        obtain ⟨u20, hu20q, h⟩ := o1_ok h
        refine rl_callVv hG ro_0_ok (As := []) (kX8_token l D a cI aS u16  u20  hu20q) gX8_readsLine_X8_token rfl 0 (gM_0 a cI u16) hcX8 0 rfl (by decide +kernel) rfl rfl (by decide) (Nat.le_of_ble_eq_true rfl) rfl dX8_readsLine_159 ?_
        exact rl_lvs hG [0, 1, 3] rfl (H162 u20 v1 v3 h)
    · have h := it_t h c18
      refine rl_iconst hG (v := 0) dX8_readsLine_152 (by decide) ?_
      exact rl_ret2 hret h rfl dX8_readsLine_153
  have H32 : ∀ (u : St) (v1 : Int32) (v2 : Int32), fX8_readsLine_L32 u v1 v2 = some (r, τ) → G u 32 [(0, .ref (a 0)), (1, .int v1), (2, .int v2)] [] := by
    intro  u v1 v2 h
    rw [fX8_readsLine_L32] at h
    refine rl_aload_n hG dX8_readsLine_32 rfl 0 rfl ?_
    obtain ⟨u21, hu21q, h⟩ := o1_ok h
    refine rl_callVv hG ro_0_ok (As := []) (kX8_token l D a cI aS u  u21  hu21q) gX8_readsLine_X8_token rfl 0 (gM_0 a cI u) hcX8 0 rfl (by decide +kernel) rfl rfl (by decide) (Nat.le_of_ble_eq_true rfl) rfl dX8_readsLine_33 ?_
    refine rl_aload_n hG dX8_readsLine_36 rfl 0 rfl ?_
    refine rl_iconst hG (v := 0) dX8_readsLine_37 (by decide) ?_
    refine rl_iconst hG (v := 5) dX8_readsLine_38 (by decide) ?_
    obtain ⟨x22, u23, hx22q, h⟩ := o2_ok h
    refine rl_callVi hG ro_0_ok (As := [.int (0 : Int32), .int (5 : Int32)]) (kX8_figure l D a cI aS u21 (0 : Int32) (5 : Int32) x22 u23  hx22q) gX8_readsLine_X8_figure rfl 0 (gM_0 a cI u21) hcX8 2 rfl (by decide +kernel) rfl rfl (by decide) (Nat.le_of_ble_eq_true rfl) rfl dX8_readsLine_39 ?_
    refine rl_istore_n hG [(3, .int x22), (0, .ref (a 0)), (1, .int v1), (2, .int v2)] dX8_readsLine_42 rfl (Nat.le_of_ble_eq_true rfl) rfl rfl ?_
    refine rl_iload_n hG dX8_readsLine_43 rfl 0 rfl ?_
    refine rl_iconst hG (v := -1) dX8_readsLine_44 (by decide) ?_
    refine rl_icmp_ne hG (tgt := 50) dX8_readsLine_45 (by decide) (fun c24 => ?_) (fun c24 => ?_)
    · have h := it_f h c24
      refine rl_aload_n hG dX8_readsLine_50 rfl 1 rfl ?_
      refine rl_get hG iX8_readsLine_X8 0 (gM_0 a cI u23) hcX8 4 (Nat.le_of_ble_eq_true rfl) nX8_readsLine_1 rfl dX8_readsLine_51 ?_
      refine rl_iload_n hG dX8_readsLine_54 rfl 2 rfl ?_
      refine rl_iconst hG (v := 1) dX8_readsLine_55 (by decide) ?_
      refine rl_iadd hG dX8_readsLine_56 ?_
      refine rl_iload_n hG dX8_readsLine_57 rfl 0 rfl ?_
      obtain ⟨u25, iu25, eu25, h⟩ := asr_ok h
      refine rl_iast hG 3 0 (gM_3 a cI u23) rfl iu25 (σ' := u25) ((sM_3 a cI u23 _).trans (congrArg _ eu25.symm)) dX8_readsLine_58 ?_
      refine rl_aload_n hG dX8_readsLine_59 rfl 1 rfl ?_
      refine rl_get hG iX8_readsLine_X8 0 (gM_0 a cI u25) hcX8 4 (Nat.le_of_ble_eq_true rfl) nX8_readsLine_1 rfl dX8_readsLine_60 ?_
      refine rl_iload_n hG dX8_readsLine_63 rfl 2 rfl ?_
      refine rl_iconst hG (v := 2) dX8_readsLine_64 (by decide) ?_
      refine rl_iadd hG dX8_readsLine_65 ?_
      refine rl_iconst hG (v := -1) dX8_readsLine_66 (by decide) ?_
      obtain ⟨u26, iu26, eu26, h⟩ := asr_ok h
      refine rl_iast hG 3 0 (gM_3 a cI u25) rfl iu26 (σ' := u26) ((sM_3 a cI u25 _).trans (congrArg _ eu26.symm)) dX8_readsLine_67 ?_
      refine rl_aload_n hG dX8_readsLine_68 rfl 1 rfl ?_
      refine rl_get hG iX8_readsLine_X8 0 (gM_0 a cI u26) hcX8 4 (Nat.le_of_ble_eq_true rfl) nX8_readsLine_1 rfl dX8_readsLine_69 ?_
      refine rl_iload_n hG dX8_readsLine_72 rfl 2 rfl ?_
      refine rl_iload_n hG dX8_readsLine_73 rfl 3 rfl ?_
      refine rl_if_eq hG (tgt := 81) dX8_readsLine_74 (by decide) (fun c27 => ?_) (fun c27 => ?_)
      · have h := it_t h c27
        refine rl_aload_n hG dX8_readsLine_81 rfl 1 rfl ?_
        refine rl_sipush hG (v := 25645) dX8_readsLine_82 (by decide) ?_
        refine rl_iconst hG (v := 3) dX8_readsLine_85 (by decide) ?_
        obtain ⟨x28, hx28q, zx28, h⟩ := oz_ok h
        refine rl_callVi hG ro_0_ok (As := [.int (25645 : Int32), .int (3 : Int32)]) (kX8_isWord l D a cI aS u26 (25645 : Int32) (3 : Int32) x28  hx28q) gX8_readsLine_X8_isWord rfl 0 (gM_0 a cI u26) hcX8 2 rfl (by decide +kernel) rfl rfl (by decide) (Nat.le_of_ble_eq_true rfl) rfl dX8_readsLine_86 ?_
        refine rl_if_eq hG (tgt := 96) dX8_readsLine_89 (by decide) (fun c29 => ?_) (fun c29 => ?_)
        · have h := it_t h c29
          refine rl_aload_n hG dX8_readsLine_96 rfl 1 rfl ?_
          refine rl_sipush hG (v := 20974) dX8_readsLine_97 (by decide) ?_
          refine rl_iconst hG (v := 3) dX8_readsLine_100 (by decide) ?_
          obtain ⟨x30, hx30q, zx30, h⟩ := oz_ok h
          refine rl_callVi hG ro_0_ok (As := [.int (20974 : Int32), .int (3 : Int32)]) (kX8_isWord l D a cI aS u26 (20974 : Int32) (3 : Int32) x30  hx30q) gX8_readsLine_X8_isWord rfl 0 (gM_0 a cI u26) hcX8 2 rfl (by decide +kernel) rfl rfl (by decide) (Nat.le_of_ble_eq_true rfl) rfl dX8_readsLine_101 ?_
          refine rl_if_eq hG (tgt := 111) dX8_readsLine_104 (by decide) (fun c31 => ?_) (fun c31 => ?_)
          · have h := it_t h c31
            refine rl_aload_n hG dX8_readsLine_111 rfl 1 rfl ?_
            refine rl_ldc hG (v := 831951) dX8_readsLine_112 nX8_readsLine_6 ?_
            refine rl_iconst hG (v := 4) dX8_readsLine_114 (by decide) ?_
            obtain ⟨x32, hx32q, zx32, h⟩ := oz_ok h
            refine rl_callVi hG ro_0_ok (As := [.int (831951 : Int32), .int (4 : Int32)]) (kX8_isWord l D a cI aS u26 (831951 : Int32) (4 : Int32) x32  hx32q) gX8_readsLine_X8_isWord rfl 0 (gM_0 a cI u26) hcX8 2 rfl (by decide +kernel) rfl rfl (by decide) (Nat.le_of_ble_eq_true rfl) rfl dX8_readsLine_115 ?_
            refine rl_if_eq hG (tgt := 125) dX8_readsLine_118 (by decide) (fun c33 => ?_) (fun c33 => ?_)
            · have h := it_t h c33
              refine rl_aload_n hG dX8_readsLine_125 rfl 1 rfl ?_
              refine rl_ldc hG (v := 172280994) dX8_readsLine_126 nX8_readsLine_7 ?_
              refine rl_bipush hG (v := 6) dX8_readsLine_128 (by decide) ?_
              obtain ⟨x34, hx34q, zx34, h⟩ := oz_ok h
              refine rl_callVi hG ro_0_ok (As := [.int (172280994 : Int32), .int (6 : Int32)]) (kX8_isWord l D a cI aS u26 (172280994 : Int32) (6 : Int32) x34  hx34q) gX8_readsLine_X8_isWord rfl 0 (gM_0 a cI u26) hcX8 2 rfl (by decide +kernel) rfl rfl (by decide) (Nat.le_of_ble_eq_true rfl) rfl dX8_readsLine_130 ?_
              refine rl_if_eq hG (tgt := 140) dX8_readsLine_133 (by decide) (fun c35 => ?_) (fun c35 => ?_)
              · have h := it_t h c35
                refine rl_iconst hG (v := -1) dX8_readsLine_140 (by decide) ?_
                exact rl_lvs hG [1, 2, 3, 0] rfl (H141 u26 v1 v2 x22 (-1 : Int32) v1 h)
              · have h := it_f h c35
                refine rl_iconst hG (v := 3) dX8_readsLine_136 (by decide) ?_
                refine rl_goto hG (tgt := 141) dX8_readsLine_137 (by decide) ?_
                exact rl_lvs hG [1, 2, 3, 0] rfl (H141 u26 v1 v2 x22 (3 : Int32) v1 h)
            · have h := it_f h c33
              refine rl_iconst hG (v := 2) dX8_readsLine_121 (by decide) ?_
              refine rl_goto hG (tgt := 141) dX8_readsLine_122 (by decide) ?_
              exact rl_lvs hG [1, 2, 3, 0] rfl (H141 u26 v1 v2 x22 (2 : Int32) v1 h)
          · have h := it_f h c31
            refine rl_iconst hG (v := 1) dX8_readsLine_107 (by decide) ?_
            refine rl_goto hG (tgt := 141) dX8_readsLine_108 (by decide) ?_
            exact rl_lvs hG [1, 2, 3, 0] rfl (H141 u26 v1 v2 x22 (1 : Int32) v1 h)
        · have h := it_f h c29
          refine rl_iconst hG (v := 0) dX8_readsLine_92 (by decide) ?_
          refine rl_goto hG (tgt := 141) dX8_readsLine_93 (by decide) ?_
          exact rl_lvs hG [1, 2, 3, 0] rfl (H141 u26 v1 v2 x22 (0 : Int32) v1 h)
      · have h := it_f h c27
        refine rl_iconst hG (v := 4) dX8_readsLine_77 (by decide) ?_
        refine rl_goto hG (tgt := 141) dX8_readsLine_78 (by decide) ?_
        exact rl_lvs hG [1, 2, 3, 0] rfl (H141 u26 v1 v2 x22 (4 : Int32) v1 h)
    · have h := it_t h c24
      refine rl_iconst hG (v := 0) dX8_readsLine_48 (by decide) ?_
      exact rl_ret2 hret h rfl dX8_readsLine_49
  have h := h0
  rw [fX8_readsLine] at h
  show G u 0 [(0, .ref (a 0))] []
  refine rl_bipush hG (v := 7) dX8_readsLine_0 (by decide) ?_
  refine rl_aload_n hG dX8_readsLine_2 rfl 0 rfl ?_
  refine rl_get hG iX8_readsLine_X8 0 (gM_0 a cI u) hcX8 5 (Nat.le_of_ble_eq_true rfl) nX8_readsLine_0 rfl dX8_readsLine_3 ?_
  refine rl_imul hG dX8_readsLine_6 ?_
  obtain ⟨x36, ex36, h⟩ := bd_ok h
  refine rl_istore_n hG [(1, .int x36), (0, .ref (a 0))] dX8_readsLine_7 rfl (Nat.le_of_ble_eq_true rfl) ex36 rfl ?_
  refine rl_aload_n hG dX8_readsLine_8 rfl 1 rfl ?_
  refine rl_ldc hG (v := 21431879) dX8_readsLine_9 nX8_readsLine_8 ?_
  refine rl_iconst hG (v := 5) dX8_readsLine_11 (by decide) ?_
  obtain ⟨x37, hx37q, zx37, h⟩ := oz_ok h
  refine rl_callVi hG ro_0_ok (As := [.int (21431879 : Int32), .int (5 : Int32)]) (kX8_isWord l D a cI aS u (21431879 : Int32) (5 : Int32) x37  hx37q) gX8_readsLine_X8_isWord rfl 0 (gM_0 a cI u) hcX8 2 rfl (by decide +kernel) rfl rfl (by decide) (Nat.le_of_ble_eq_true rfl) rfl dX8_readsLine_12 ?_
  refine rl_istore_n hG [(2, .int x37), (1, .int x36), (0, .ref (a 0))] dX8_readsLine_15 rfl (Nat.le_of_ble_eq_true rfl) rfl rfl ?_
  refine rl_iload_n hG dX8_readsLine_16 rfl 0 rfl ?_
  refine rl_if_ne hG (tgt := 32) dX8_readsLine_17 (by decide) (fun c38 => ?_) (fun c38 => ?_)
  · have h := it_f h c38
    exact rl_lvs hG [2, 1, 0] rfl (H32 u x36 x37 h)
  · have h := it_t h c38
    refine rl_aload_n hG dX8_readsLine_20 rfl 2 rfl ?_
    refine rl_ldc hG (v := 4597415) dX8_readsLine_21 nX8_readsLine_9 ?_
    refine rl_iconst hG (v := 5) dX8_readsLine_23 (by decide) ?_
    obtain ⟨x39, hx39q, zx39, h⟩ := oz_ok h
    refine rl_callVi hG ro_0_ok (As := [.int (4597415 : Int32), .int (5 : Int32)]) (kX8_isWord l D a cI aS u (4597415 : Int32) (5 : Int32) x39  hx39q) gX8_readsLine_X8_isWord rfl 0 (gM_0 a cI u) hcX8 2 rfl (by decide +kernel) rfl rfl (by decide) (Nat.le_of_ble_eq_true rfl) rfl dX8_readsLine_24 ?_
    refine rl_if_ne hG (tgt := 32) dX8_readsLine_27 (by decide) (fun c40 => ?_) (fun c40 => ?_)
    · have h := it_f h c40
      exact rl_lvs hG [2, 1, 0] rfl (H32 u x36 x37 h)
    · have h := it_t h c40
      refine rl_iconst hG (v := 0) dX8_readsLine_30 (by decide) ?_
      exact rl_ret2 hret h rfl dX8_readsLine_31
def fX8_fault_L92  (k26 : St → Option (Int32 × St)) (u : St) (v1 : Int32) : Option (Int32 × St) := (if v1 = (0 : Int32) then some ((u 0 19), u) else k26 u)
def fX8_fault_L78  (k26 : St → Option (Int32 × St)) (u : St) (w0 : Int32) : Option (Int32 × St) := (if w0 = (0 : Int32) then fX8_fault_L92 k26 u w0 else o1 (fX8_token u) (fun u3 => o2z (fX8_readsLine u3) (fun x4 u5 => fX8_fault_L92 k26 u5 x4)))
def fX8_fault_L77  (k26 : St → Option (Int32 × St)) (u : St) : Option (Int32 × St) := fX8_fault_L78 k26 u (0 : Int32)
def fX8_fault_L26   : Nat → St → Option (Int32 × St)
  | 0 => fun _ => none
  | n + 1 => fun u => (if (u 0 1) ≤ (u 0 19) then some ((-1 : Int32), u) else (if ((u 0 20) - (u 0 19)) = (1 : Int32) then ald u 1 160 (u 0 19) (fun x8 => (if x8 = (59 : Int32) then (if (8 : Int32) ≤ (u 0 5) then fX8_fault_L77 (fX8_fault_L26 n) u else fX8_fault_L78 (fX8_fault_L26 n) u (1 : Int32)) else fX8_fault_L77 (fX8_fault_L26 n) u)) else fX8_fault_L77 (fX8_fault_L26 n) u))
def fX8_fault (u : St)   : Option (Int32 × St) := bd (st_wr u 0 18 (0 : Int32)) (fun u11 => bd (st_wr u11 0 5 (0 : Int32)) (fun u12 => o1 (fX8_token u12) (fun u13 => o2z (fX8_readsLine u13) (fun x14 u15 => (if x14 = (0 : Int32) then some ((u15 0 19), u15) else fX8_fault_L26 2000 u15)))))
theorem nX8_fault_0 : Cond.fieldLink RX8 74 "WhoseWorkModel" "place" "I" ∈ wsX8_fault := by decide +kernel
theorem nX8_fault_1 : Cond.fieldLink RX8 65 "WhoseWorkModel" "length" "I" ∈ wsX8_fault := by decide +kernel
theorem nX8_fault_2 : Cond.fieldLink RX8 81 "WhoseWorkModel" "end" "I" ∈ wsX8_fault := by decide +kernel
theorem nX8_fault_3 : Cond.fieldLink RX8 7 "WhoseWorkModel" "text" "[I" ∈ wsX8_fault := by decide +kernel
theorem nX8_fault_4 : Cond.fieldLink RX8 100 "WhoseWorkModel" "readMany" "I" ∈ wsX8_fault := by decide +kernel
theorem nX8_fault_5 : Cond.fieldLink RX8 71 "WhoseWorkModel" "at" "I" ∈ wsX8_fault := by decide +kernel
theorem iX8_fault_X8 : ∀ w ∈ wsX80, w ∈ wsX8_fault := by decide +kernel
set_option maxRecDepth 100000 in
set_option maxHeartbeats 4000000 in
theorem kX8_fault (l : Launch) (D : va_G) (a : Nat → Nat) (cI : ClassId) (aS : Nat → Prop) (u : St)   (r : Int32) (τ : St)  (h0 : fX8_fault u = some (r, τ)) : rl_Mi l yX8_fault wsX8_fault ({ frames := 6, cells := 0, slots := 0, locals := 136 } : Room) D (tyM cI) (wM a cI) ro_0 aS [.ref (a 0)] u r τ := by
  refine rl_meth_i (cc := cX8_fault) (maxL := 2) (own := RX8) (ty := .int) (by decide) rfl rfl (Nat.le_of_ble_eq_true rfl) ?_
  intro G hG hret
  have H92 : ∀ (k26 : St → Option (Int32 × St)) (hk26 : ∀ (u : St), k26 u = some (r, τ) → G u 26 [(0, .ref (a 0))] []), ∀ (u : St) (v1 : Int32), fX8_fault_L92 k26 u v1 = some (r, τ) → G u 92 [(0, .ref (a 0)), (1, .int v1)] [] := by
    intro k26 hk26 u v1 h
    rw [fX8_fault_L92] at h
    refine rl_iload_n hG dX8_fault_92 rfl 1 rfl ?_
    refine rl_if_ne hG (tgt := 101) dX8_fault_93 (by decide) (fun c1 => ?_) (fun c1 => ?_)
    · have h := it_f h c1
      refine rl_goto hG (tgt := 26) dX8_fault_101 (by decide) ?_
      exact rl_lvs hG [0] rfl (hk26 u h)
    · have h := it_t h c1
      refine rl_aload_n hG dX8_fault_96 rfl 0 rfl ?_
      refine rl_get hG iX8_fault_X8 0 (gM_0 a cI u) hcX8 19 (Nat.le_of_ble_eq_true rfl) nX8_fault_0 rfl dX8_fault_97 ?_
      exact rl_ret2 hret h rfl dX8_fault_100
  have H78 : ∀ (k26 : St → Option (Int32 × St)) (hk26 : ∀ (u : St), k26 u = some (r, τ) → G u 26 [(0, .ref (a 0))] []), ∀ (u : St) (w0 : Int32), fX8_fault_L78 k26 u w0 = some (r, τ) → G u 78 [(0, .ref (a 0))] [.int w0] := by
    intro k26 hk26 u w0 h
    rw [fX8_fault_L78] at h
    refine rl_istore_n hG [(1, .int w0), (0, .ref (a 0))] dX8_fault_78 rfl (Nat.le_of_ble_eq_true rfl) rfl rfl ?_
    refine rl_iload_n hG dX8_fault_79 rfl 0 rfl ?_
    refine rl_if_eq hG (tgt := 92) dX8_fault_80 (by decide) (fun c2 => ?_) (fun c2 => ?_)
    · have h := it_t h c2
      exact rl_lvs hG [1, 0] rfl (H92 (k26) (hk26) u w0 h)
    · have h := it_f h c2
      refine rl_aload_n hG dX8_fault_83 rfl 1 rfl ?_
      obtain ⟨u3, hu3q, h⟩ := o1_ok h
      refine rl_callVv hG ro_0_ok (As := []) (kX8_token l D a cI aS u  u3  hu3q) gX8_fault_X8_token rfl 0 (gM_0 a cI u) hcX8 0 rfl (by decide +kernel) rfl rfl (by decide) (Nat.le_of_ble_eq_true rfl) rfl dX8_fault_84 ?_
      refine rl_aload_n hG dX8_fault_87 rfl 1 rfl ?_
      obtain ⟨x4, u5, hx4q, zx4, h⟩ := o2z_ok h
      refine rl_callVi hG ro_0_ok (As := []) (kX8_readsLine l D a cI aS u3  x4 u5  hx4q) gX8_fault_X8_readsLine rfl 0 (gM_0 a cI u3) hcX8 0 rfl (by decide +kernel) rfl rfl (by decide) (Nat.le_of_ble_eq_true rfl) rfl dX8_fault_88 ?_
      refine rl_istore_n hG [(1, .int x4), (0, .ref (a 0))] dX8_fault_91 rfl (Nat.le_of_ble_eq_true rfl) rfl rfl ?_
      exact rl_lvs hG [1, 0] rfl (H92 (k26) (hk26) u5 x4 h)
  have H77 : ∀ (k26 : St → Option (Int32 × St)) (hk26 : ∀ (u : St), k26 u = some (r, τ) → G u 26 [(0, .ref (a 0))] []), ∀ (u : St), fX8_fault_L77 k26 u = some (r, τ) → G u 77 [(0, .ref (a 0))] [] := by
    intro k26 hk26 u h
    rw [fX8_fault_L77] at h
    refine rl_iconst hG (v := 0) dX8_fault_77 (by decide) ?_
    exact rl_lvs hG [0] rfl (H78 (k26) (hk26) u (0 : Int32) h)
  have H26 : ∀ (n : Nat) (u : St), fX8_fault_L26 n u = some (r, τ) → G u 26 [(0, .ref (a 0))] [] := by
    intro n
    induction n with
    | zero =>
      intro u h
      exact absurd h (by rw [fX8_fault_L26]; exact fun q => by cases q)
    | succ n ih =>
      intro u h
      rw [fX8_fault_L26] at h
      refine rl_aload_n hG dX8_fault_26 rfl 0 rfl ?_
      refine rl_get hG iX8_fault_X8 0 (gM_0 a cI u) hcX8 19 (Nat.le_of_ble_eq_true rfl) nX8_fault_0 rfl dX8_fault_27 ?_
      refine rl_aload_n hG dX8_fault_30 rfl 0 rfl ?_
      refine rl_get hG iX8_fault_X8 0 (gM_0 a cI u) hcX8 1 (Nat.le_of_ble_eq_true rfl) nX8_fault_1 rfl dX8_fault_31 ?_
      refine rl_icmp_ge hG (tgt := 104) dX8_fault_34 (by decide) (fun c6 => ?_) (fun c6 => ?_)
      · have h := it_t h c6
        refine rl_iconst hG (v := -1) dX8_fault_104 (by decide) ?_
        exact rl_ret2 hret h rfl dX8_fault_105
      · have h := it_f h c6
        refine rl_aload_n hG dX8_fault_37 rfl 0 rfl ?_
        refine rl_get hG iX8_fault_X8 0 (gM_0 a cI u) hcX8 20 (Nat.le_of_ble_eq_true rfl) nX8_fault_2 rfl dX8_fault_38 ?_
        refine rl_aload_n hG dX8_fault_41 rfl 0 rfl ?_
        refine rl_get hG iX8_fault_X8 0 (gM_0 a cI u) hcX8 19 (Nat.le_of_ble_eq_true rfl) nX8_fault_0 rfl dX8_fault_42 ?_
        refine rl_isub hG dX8_fault_45 ?_
        refine rl_iconst hG (v := 1) dX8_fault_46 (by decide) ?_
        refine rl_icmp_ne hG (tgt := 77) dX8_fault_47 (by decide) (fun c7 => ?_) (fun c7 => ?_)
        · have h := it_f h c7
          exact rl_lvs hG [0] rfl (H77 (fX8_fault_L26 n) (ih) u h)
        · have h := it_t h c7
          refine rl_aload_n hG dX8_fault_50 rfl 0 rfl ?_
          refine rl_get hG iX8_fault_X8 0 (gM_0 a cI u) hcX8 0 (Nat.le_of_ble_eq_true rfl) nX8_fault_3 rfl dX8_fault_51 ?_
          refine rl_aload_n hG dX8_fault_54 rfl 0 rfl ?_
          refine rl_get hG iX8_fault_X8 0 (gM_0 a cI u) hcX8 19 (Nat.le_of_ble_eq_true rfl) nX8_fault_0 rfl dX8_fault_55 ?_
          obtain ⟨x8, ix8, ex8, h⟩ := ald_ok h
          refine rl_iald hG 1 0 (gM_1 a cI u) rfl ix8 ex8 dX8_fault_58 ?_
          refine rl_bipush hG (v := 59) dX8_fault_59 (by decide) ?_
          refine rl_icmp_ne hG (tgt := 77) dX8_fault_61 (by decide) (fun c9 => ?_) (fun c9 => ?_)
          · have h := it_f h c9
            exact rl_lvs hG [0] rfl (H77 (fX8_fault_L26 n) (ih) u h)
          · have h := it_t h c9
            refine rl_aload_n hG dX8_fault_64 rfl 0 rfl ?_
            refine rl_get hG iX8_fault_X8 0 (gM_0 a cI u) hcX8 5 (Nat.le_of_ble_eq_true rfl) nX8_fault_4 rfl dX8_fault_65 ?_
            refine rl_bipush hG (v := 8) dX8_fault_68 (by decide) ?_
            refine rl_icmp_ge hG (tgt := 77) dX8_fault_70 (by decide) (fun c10 => ?_) (fun c10 => ?_)
            · have h := it_t h c10
              exact rl_lvs hG [0] rfl (H77 (fX8_fault_L26 n) (ih) u h)
            · have h := it_f h c10
              refine rl_iconst hG (v := 1) dX8_fault_73 (by decide) ?_
              refine rl_goto hG (tgt := 78) dX8_fault_74 (by decide) ?_
              exact rl_lvs hG [0] rfl (H78 (fX8_fault_L26 n) (ih) u (1 : Int32) h)
  have h := h0
  rw [fX8_fault] at h
  show G u 0 [(0, .ref (a 0))] []
  refine rl_aload_n hG dX8_fault_0 rfl 0 rfl ?_
  refine rl_iconst hG (v := 0) dX8_fault_1 (by decide) ?_
  obtain ⟨u11, eu11, h⟩ := bd_ok h
  refine rl_put hG iX8_fault_X8 tyX8 tyX8_ok nmX8 0 (gM_0 a cI u) hcX8 18 (Nat.le_of_ble_eq_true rfl) nX8_fault_5 rfl rfl (Nat.le_of_ble_eq_true rfl) (σ' := u11) ((sM_0_18 a cI u _).trans (congrArg _ eu11.symm)) dX8_fault_2 ?_
  refine rl_aload_n hG dX8_fault_5 rfl 0 rfl ?_
  refine rl_iconst hG (v := 0) dX8_fault_6 (by decide) ?_
  obtain ⟨u12, eu12, h⟩ := bd_ok h
  refine rl_put hG iX8_fault_X8 tyX8 tyX8_ok nmX8 0 (gM_0 a cI u11) hcX8 5 (Nat.le_of_ble_eq_true rfl) nX8_fault_4 rfl rfl (Nat.le_of_ble_eq_true rfl) (σ' := u12) ((sM_0_5 a cI u11 _).trans (congrArg _ eu12.symm)) dX8_fault_7 ?_
  refine rl_aload_n hG dX8_fault_10 rfl 0 rfl ?_
  obtain ⟨u13, hu13q, h⟩ := o1_ok h
  refine rl_callVv hG ro_0_ok (As := []) (kX8_token l D a cI aS u12  u13  hu13q) gX8_fault_X8_token rfl 0 (gM_0 a cI u12) hcX8 0 rfl (by decide +kernel) rfl rfl (by decide) (Nat.le_of_ble_eq_true rfl) rfl dX8_fault_11 ?_
  refine rl_aload_n hG dX8_fault_14 rfl 0 rfl ?_
  obtain ⟨x14, u15, hx14q, zx14, h⟩ := o2z_ok h
  refine rl_callVi hG ro_0_ok (As := []) (kX8_readsLine l D a cI aS u13  x14 u15  hx14q) gX8_fault_X8_readsLine rfl 0 (gM_0 a cI u13) hcX8 0 rfl (by decide +kernel) rfl rfl (by decide) (Nat.le_of_ble_eq_true rfl) rfl dX8_fault_15 ?_
  refine rl_if_ne hG (tgt := 26) dX8_fault_18 (by decide) (fun c16 => ?_) (fun c16 => ?_)
  · have h := it_f h c16
    exact rl_lvs hG [0] rfl (H26 2000 u15 h)
  · have h := it_t h c16
    refine rl_aload_n hG dX8_fault_21 rfl 0 rfl ?_
    refine rl_get hG iX8_fault_X8 0 (gM_0 a cI u15) hcX8 19 (Nat.le_of_ble_eq_true rfl) nX8_fault_0 rfl dX8_fault_22 ?_
    exact rl_ret2 hret h rfl dX8_fault_25
def fX8_bounds_L67   (u : St) : Option (Int32 × St) := bd (st_wr u 0 3 ((u 0 3) + (u 0 5))) (fun u1 => bd (st_wr u1 0 1 (0 : Int32)) (fun u2 => some ((u2 0 3), u2)))
def fX8_bounds_L30   : Nat → St → Int32 → Option (Int32 × St)
  | 0 => fun _ _ => none
  | n + 1 => fun u v1 => (if ((7 : Int32) * (u 0 5)) ≤ v1 then fX8_bounds_L67 u else ald u 3 56 v1 (fun x4 => asr u 2 140 (((7 : Int32) * (u 0 3)) + v1) x4 (fun u5 => bd (v1 + (1 : Int32)) (fun x6 => fX8_bounds_L30 n u5 x6))))
def fX8_bounds (u : St)   : Option (Int32 × St) := o2 (fX8_fault u) (fun x7 u8 => (if x7 = (-1 : Int32) then (if ((u8 0 3) + (u8 0 5)) ≤ (20 : Int32) then fX8_bounds_L30 2000 u8 (0 : Int32) else some ((-5 : Int32), u8)) else some ((-4 : Int32), u8)))
theorem nX8_bounds_0 : Cond.fieldLink RX8 119 "WhoseWorkModel" "boundMany" "I" ∈ wsX8_bounds := by decide +kernel
theorem nX8_bounds_1 : Cond.fieldLink RX8 100 "WhoseWorkModel" "readMany" "I" ∈ wsX8_bounds := by decide +kernel
theorem nX8_bounds_2 : Cond.fieldLink RX8 65 "WhoseWorkModel" "length" "I" ∈ wsX8_bounds := by decide +kernel
theorem nX8_bounds_3 : Cond.fieldLink RX8 13 "WhoseWorkModel" "bounds" "[I" ∈ wsX8_bounds := by decide +kernel
theorem nX8_bounds_4 : Cond.fieldLink RX8 16 "WhoseWorkModel" "read" "[I" ∈ wsX8_bounds := by decide +kernel
theorem iX8_bounds_X8 : ∀ w ∈ wsX80, w ∈ wsX8_bounds := by decide +kernel
set_option maxRecDepth 100000 in
set_option maxHeartbeats 4000000 in
theorem kX8_bounds (l : Launch) (D : va_G) (a : Nat → Nat) (cI : ClassId) (aS : Nat → Prop) (u : St)   (r : Int32) (τ : St)  (h0 : fX8_bounds u = some (r, τ)) : rl_Mi l yX8_bounds wsX8_bounds ({ frames := 7, cells := 0, slots := 0, locals := 157 } : Room) D (tyM cI) (wM a cI) ro_0 aS [.ref (a 0)] u r τ := by
  refine rl_meth_i (cc := cX8_bounds) (maxL := 2) (own := RX8) (ty := .int) (by decide) rfl rfl (Nat.le_of_ble_eq_true rfl) ?_
  intro G hG hret
  have H67 : ∀ (u : St), fX8_bounds_L67 u = some (r, τ) → G u 67 [(0, .ref (a 0))] [] := by
    intro  u h
    rw [fX8_bounds_L67] at h
    refine rl_aload_n hG dX8_bounds_67 rfl 0 rfl ?_
    refine rl_dup hG dX8_bounds_68 rfl ?_
    refine rl_get hG iX8_bounds_X8 0 (gM_0 a cI u) hcX8 3 (Nat.le_of_ble_eq_true rfl) nX8_bounds_0 rfl dX8_bounds_69 ?_
    refine rl_aload_n hG dX8_bounds_72 rfl 0 rfl ?_
    refine rl_get hG iX8_bounds_X8 0 (gM_0 a cI u) hcX8 5 (Nat.le_of_ble_eq_true rfl) nX8_bounds_1 rfl dX8_bounds_73 ?_
    refine rl_iadd hG dX8_bounds_76 ?_
    obtain ⟨u1, eu1, h⟩ := bd_ok h
    refine rl_put hG iX8_bounds_X8 tyX8 tyX8_ok nmX8 0 (gM_0 a cI u) hcX8 3 (Nat.le_of_ble_eq_true rfl) nX8_bounds_0 rfl rfl (Nat.le_of_ble_eq_true rfl) (σ' := u1) ((sM_0_3 a cI u _).trans (congrArg _ eu1.symm)) dX8_bounds_77 ?_
    refine rl_aload_n hG dX8_bounds_80 rfl 0 rfl ?_
    refine rl_iconst hG (v := 0) dX8_bounds_81 (by decide) ?_
    obtain ⟨u2, eu2, h⟩ := bd_ok h
    refine rl_put hG iX8_bounds_X8 tyX8 tyX8_ok nmX8 0 (gM_0 a cI u1) hcX8 1 (Nat.le_of_ble_eq_true rfl) nX8_bounds_2 rfl rfl (Nat.le_of_ble_eq_true rfl) (σ' := u2) ((sM_0_1 a cI u1 _).trans (congrArg _ eu2.symm)) dX8_bounds_82 ?_
    refine rl_aload_n hG dX8_bounds_85 rfl 0 rfl ?_
    refine rl_get hG iX8_bounds_X8 0 (gM_0 a cI u2) hcX8 3 (Nat.le_of_ble_eq_true rfl) nX8_bounds_0 rfl dX8_bounds_86 ?_
    exact rl_ret2 hret h rfl dX8_bounds_89
  have H30 : ∀ (n : Nat) (u : St) (v1 : Int32), fX8_bounds_L30 n u v1 = some (r, τ) → G u 30 [(0, .ref (a 0)), (1, .int v1)] [] := by
    intro n
    induction n with
    | zero =>
      intro u v1 h
      exact absurd h (by rw [fX8_bounds_L30]; exact fun q => by cases q)
    | succ n ih =>
      intro u v1 h
      rw [fX8_bounds_L30] at h
      refine rl_iload_n hG dX8_bounds_30 rfl 1 rfl ?_
      refine rl_bipush hG (v := 7) dX8_bounds_31 (by decide) ?_
      refine rl_aload_n hG dX8_bounds_33 rfl 0 rfl ?_
      refine rl_get hG iX8_bounds_X8 0 (gM_0 a cI u) hcX8 5 (Nat.le_of_ble_eq_true rfl) nX8_bounds_1 rfl dX8_bounds_34 ?_
      refine rl_imul hG dX8_bounds_37 ?_
      refine rl_icmp_ge hG (tgt := 67) dX8_bounds_38 (by decide) (fun c3 => ?_) (fun c3 => ?_)
      · have h := it_t h c3
        exact rl_lvs hG [0] rfl (H67 u h)
      · have h := it_f h c3
        refine rl_aload_n hG dX8_bounds_41 rfl 0 rfl ?_
        refine rl_get hG iX8_bounds_X8 0 (gM_0 a cI u) hcX8 2 (Nat.le_of_ble_eq_true rfl) nX8_bounds_3 rfl dX8_bounds_42 ?_
        refine rl_bipush hG (v := 7) dX8_bounds_45 (by decide) ?_
        refine rl_aload_n hG dX8_bounds_47 rfl 0 rfl ?_
        refine rl_get hG iX8_bounds_X8 0 (gM_0 a cI u) hcX8 3 (Nat.le_of_ble_eq_true rfl) nX8_bounds_0 rfl dX8_bounds_48 ?_
        refine rl_imul hG dX8_bounds_51 ?_
        refine rl_iload_n hG dX8_bounds_52 rfl 1 rfl ?_
        refine rl_iadd hG dX8_bounds_53 ?_
        refine rl_aload_n hG dX8_bounds_54 rfl 0 rfl ?_
        refine rl_get hG iX8_bounds_X8 0 (gM_0 a cI u) hcX8 4 (Nat.le_of_ble_eq_true rfl) nX8_bounds_4 rfl dX8_bounds_55 ?_
        refine rl_iload_n hG dX8_bounds_58 rfl 1 rfl ?_
        obtain ⟨x4, ix4, ex4, h⟩ := ald_ok h
        refine rl_iald hG 3 0 (gM_3 a cI u) rfl ix4 ex4 dX8_bounds_59 ?_
        obtain ⟨u5, iu5, eu5, h⟩ := asr_ok h
        refine rl_iast hG 2 0 (gM_2 a cI u) rfl iu5 (σ' := u5) ((sM_2 a cI u _).trans (congrArg _ eu5.symm)) dX8_bounds_60 ?_
        obtain ⟨x6, ex6, h⟩ := bd_ok h
        refine rl_iinc hG [(1, .int x6), (0, .ref (a 0))] dX8_bounds_61 1 rfl (by rw [ex6]; rfl) (Nat.le_of_ble_eq_true rfl) rfl ?_
        refine rl_goto hG (tgt := 30) dX8_bounds_64 (by decide) ?_
        exact rl_lvs hG [1, 0] rfl (ih u5 x6 h)
  have h := h0
  rw [fX8_bounds] at h
  show G u 0 [(0, .ref (a 0))] []
  refine rl_aload_n hG dX8_bounds_0 rfl 0 rfl ?_
  obtain ⟨x7, u8, hx7q, h⟩ := o2_ok h
  refine rl_callVi hG ro_0_ok (As := []) (kX8_fault l D a cI aS u  x7 u8  hx7q) gX8_bounds_X8_fault rfl 0 (gM_0 a cI u) hcX8 0 rfl (by decide +kernel) rfl rfl (by decide) (Nat.le_of_ble_eq_true rfl) rfl dX8_bounds_1 ?_
  refine rl_iconst hG (v := -1) dX8_bounds_4 (by decide) ?_
  refine rl_icmp_eq hG (tgt := 11) dX8_bounds_5 (by decide) (fun c9 => ?_) (fun c9 => ?_)
  · have h := it_t h c9
    refine rl_aload_n hG dX8_bounds_11 rfl 0 rfl ?_
    refine rl_get hG iX8_bounds_X8 0 (gM_0 a cI u8) hcX8 3 (Nat.le_of_ble_eq_true rfl) nX8_bounds_0 rfl dX8_bounds_12 ?_
    refine rl_aload_n hG dX8_bounds_15 rfl 0 rfl ?_
    refine rl_get hG iX8_bounds_X8 0 (gM_0 a cI u8) hcX8 5 (Nat.le_of_ble_eq_true rfl) nX8_bounds_1 rfl dX8_bounds_16 ?_
    refine rl_iadd hG dX8_bounds_19 ?_
    refine rl_bipush hG (v := 20) dX8_bounds_20 (by decide) ?_
    refine rl_icmp_le hG (tgt := 28) dX8_bounds_22 (by decide) (fun c10 => ?_) (fun c10 => ?_)
    · have h := it_t h c10
      refine rl_iconst hG (v := 0) dX8_bounds_28 (by decide) ?_
      refine rl_istore_n hG [(1, .int (0 : Int32)), (0, .ref (a 0))] dX8_bounds_29 rfl (Nat.le_of_ble_eq_true rfl) rfl rfl ?_
      exact rl_lvs hG [1, 0] rfl (H30 2000 u8 (0 : Int32) h)
    · have h := it_f h c10
      refine rl_bipush hG (v := -5) dX8_bounds_25 (by decide) ?_
      exact rl_ret2 hret h rfl dX8_bounds_27
  · have h := it_f h c9
    refine rl_bipush hG (v := -4) dX8_bounds_8 (by decide) ?_
    exact rl_ret2 hret h rfl dX8_bounds_10
def fX8_isBound (u : St)  (p1 : Int32) : Option (Int32) := oz (fX8_in p1.toInt64 (0 : Int64) ((u 0 3) - (1 : Int32)).toInt64) (fun x1 => rb x1 (fun y => some y))
theorem nX8_isBound_0 : Cond.fieldLink RX8 119 "WhoseWorkModel" "boundMany" "I" ∈ wsX8_isBound := by decide +kernel
theorem iX8_isBound_X8 : ∀ w ∈ wsX80, w ∈ wsX8_isBound := by decide +kernel
set_option maxRecDepth 100000 in
set_option maxHeartbeats 4000000 in
theorem kX8_isBound (l : Launch) (D : va_G) (a : Nat → Nat) (cI : ClassId) (aS : Nat → Prop) (u : St)  (p1 : Int32) (r : Int32)  (h0 : fX8_isBound u p1 = some r) : rl_Mi l yX8_isBound wsX8_isBound ({ frames := 1, cells := 0, slots := 0, locals := 25 } : Room) D (tyM cI) (wM a cI) ro_0 aS [.ref (a 0), .int p1] u r u := by
  refine rl_meth_i (cc := cX8_isBound) (maxL := 2) (own := RX8) (ty := .boolean) (by decide) rfl rfl (Nat.le_of_ble_eq_true rfl) ?_
  intro G hG hret
  have h := h0
  rw [fX8_isBound] at h
  show G u 0 [(0, .ref (a 0)), (1, .int p1)] []
  refine rl_iload_n hG dX8_isBound_0 rfl 1 rfl ?_
  refine rl_i2l hG dX8_isBound_1 ?_
  refine rl_lconst hG (v := 0) dX8_isBound_2 (by decide) ?_
  refine rl_aload_n hG dX8_isBound_3 rfl 0 rfl ?_
  refine rl_get hG iX8_isBound_X8 0 (gM_0 a cI u) hcX8 3 (Nat.le_of_ble_eq_true rfl) nX8_isBound_0 rfl dX8_isBound_4 ?_
  refine rl_iconst hG (v := 1) dX8_isBound_7 (by decide) ?_
  refine rl_isub hG dX8_isBound_8 ?_
  refine rl_i2l hG dX8_isBound_9 ?_
  obtain ⟨x1, hx1q, zx1, h⟩ := oz_ok h
  refine rl_callZi hG (As := [.long p1.toInt64, .long (0 : Int64), .long ((u 0 3) - (1 : Int32)).toInt64]) (kX8_in l D u p1.toInt64 (0 : Int64) ((u 0 3) - (1 : Int32)).toInt64 x1 hx1q) gX8_isBound_X8_in rfl 3 rfl (by decide +kernel) rfl rfl (by decide) (Nat.le_of_ble_eq_true rfl) rfl dX8_isBound_10 ?_
  obtain ⟨hz, h⟩ := rb_ok h
  exact rl_ret1 hret h (na_z hz) dX8_isBound_13
def fX8_strike_L51   (u : St) : Option (Int32 × St) := bd (st_wr u 0 3 ((u 0 3) - (1 : Int32))) (fun u1 => some ((u1 0 3), u1))
def fX8_strike_L16   : Nat → St → Int32 → Option (Int32 × St)
  | 0 => fun _ _ => none
  | n + 1 => fun u v2 => (if (((7 : Int32) * (u 0 3)) - (7 : Int32)) ≤ v2 then fX8_strike_L51 u else ald u 2 140 (v2 + (7 : Int32)) (fun x3 => asr u 2 140 v2 x3 (fun u4 => bd (v2 + (1 : Int32)) (fun x5 => fX8_strike_L16 n u4 x5))))
def fX8_strike (u : St)  (p1 : Int32) : Option (Int32 × St) := oz (fX8_isBound u p1) (fun x6 => (if x6 = (0 : Int32) then some ((-2 : Int32), u) else bd ((7 : Int32) * p1) (fun x8 => fX8_strike_L16 2000 u x8)))
theorem nX8_strike_0 : Cond.fieldLink RX8 119 "WhoseWorkModel" "boundMany" "I" ∈ wsX8_strike := by decide +kernel
theorem nX8_strike_1 : Cond.fieldLink RX8 13 "WhoseWorkModel" "bounds" "[I" ∈ wsX8_strike := by decide +kernel
theorem iX8_strike_X8 : ∀ w ∈ wsX80, w ∈ wsX8_strike := by decide +kernel
set_option maxRecDepth 100000 in
set_option maxHeartbeats 4000000 in
theorem kX8_strike (l : Launch) (D : va_G) (a : Nat → Nat) (cI : ClassId) (aS : Nat → Prop) (u : St)  (p1 : Int32) (r : Int32) (τ : St)  (h0 : fX8_strike u p1 = some (r, τ)) : rl_Mi l yX8_strike wsX8_strike ({ frames := 2, cells := 0, slots := 0, locals := 46 } : Room) D (tyM cI) (wM a cI) ro_0 aS [.ref (a 0), .int p1] u r τ := by
  refine rl_meth_i (cc := cX8_strike) (maxL := 3) (own := RX8) (ty := .int) (by decide) rfl rfl (Nat.le_of_ble_eq_true rfl) ?_
  intro G hG hret
  have H51 : ∀ (u : St), fX8_strike_L51 u = some (r, τ) → G u 51 [(0, .ref (a 0))] [] := by
    intro  u h
    rw [fX8_strike_L51] at h
    refine rl_aload_n hG dX8_strike_51 rfl 0 rfl ?_
    refine rl_dup hG dX8_strike_52 rfl ?_
    refine rl_get hG iX8_strike_X8 0 (gM_0 a cI u) hcX8 3 (Nat.le_of_ble_eq_true rfl) nX8_strike_0 rfl dX8_strike_53 ?_
    refine rl_iconst hG (v := 1) dX8_strike_56 (by decide) ?_
    refine rl_isub hG dX8_strike_57 ?_
    obtain ⟨u1, eu1, h⟩ := bd_ok h
    refine rl_put hG iX8_strike_X8 tyX8 tyX8_ok nmX8 0 (gM_0 a cI u) hcX8 3 (Nat.le_of_ble_eq_true rfl) nX8_strike_0 rfl rfl (Nat.le_of_ble_eq_true rfl) (σ' := u1) ((sM_0_3 a cI u _).trans (congrArg _ eu1.symm)) dX8_strike_58 ?_
    refine rl_aload_n hG dX8_strike_61 rfl 0 rfl ?_
    refine rl_get hG iX8_strike_X8 0 (gM_0 a cI u1) hcX8 3 (Nat.le_of_ble_eq_true rfl) nX8_strike_0 rfl dX8_strike_62 ?_
    exact rl_ret2 hret h rfl dX8_strike_65
  have H16 : ∀ (n : Nat) (u : St) (v2 : Int32), fX8_strike_L16 n u v2 = some (r, τ) → G u 16 [(0, .ref (a 0)), (2, .int v2)] [] := by
    intro n
    induction n with
    | zero =>
      intro u v2 h
      exact absurd h (by rw [fX8_strike_L16]; exact fun q => by cases q)
    | succ n ih =>
      intro u v2 h
      rw [fX8_strike_L16] at h
      refine rl_iload_n hG dX8_strike_16 rfl 1 rfl ?_
      refine rl_bipush hG (v := 7) dX8_strike_17 (by decide) ?_
      refine rl_aload_n hG dX8_strike_19 rfl 0 rfl ?_
      refine rl_get hG iX8_strike_X8 0 (gM_0 a cI u) hcX8 3 (Nat.le_of_ble_eq_true rfl) nX8_strike_0 rfl dX8_strike_20 ?_
      refine rl_imul hG dX8_strike_23 ?_
      refine rl_bipush hG (v := 7) dX8_strike_24 (by decide) ?_
      refine rl_isub hG dX8_strike_26 ?_
      refine rl_icmp_ge hG (tgt := 51) dX8_strike_27 (by decide) (fun c2 => ?_) (fun c2 => ?_)
      · have h := it_t h c2
        exact rl_lvs hG [0] rfl (H51 u h)
      · have h := it_f h c2
        refine rl_aload_n hG dX8_strike_30 rfl 0 rfl ?_
        refine rl_get hG iX8_strike_X8 0 (gM_0 a cI u) hcX8 2 (Nat.le_of_ble_eq_true rfl) nX8_strike_1 rfl dX8_strike_31 ?_
        refine rl_iload_n hG dX8_strike_34 rfl 1 rfl ?_
        refine rl_aload_n hG dX8_strike_35 rfl 0 rfl ?_
        refine rl_get hG iX8_strike_X8 0 (gM_0 a cI u) hcX8 2 (Nat.le_of_ble_eq_true rfl) nX8_strike_1 rfl dX8_strike_36 ?_
        refine rl_iload_n hG dX8_strike_39 rfl 1 rfl ?_
        refine rl_bipush hG (v := 7) dX8_strike_40 (by decide) ?_
        refine rl_iadd hG dX8_strike_42 ?_
        obtain ⟨x3, ix3, ex3, h⟩ := ald_ok h
        refine rl_iald hG 2 0 (gM_2 a cI u) rfl ix3 ex3 dX8_strike_43 ?_
        obtain ⟨u4, iu4, eu4, h⟩ := asr_ok h
        refine rl_iast hG 2 0 (gM_2 a cI u) rfl iu4 (σ' := u4) ((sM_2 a cI u _).trans (congrArg _ eu4.symm)) dX8_strike_44 ?_
        obtain ⟨x5, ex5, h⟩ := bd_ok h
        refine rl_iinc hG [(2, .int x5), (0, .ref (a 0))] dX8_strike_45 1 rfl (by rw [ex5]; rfl) (Nat.le_of_ble_eq_true rfl) rfl ?_
        refine rl_goto hG (tgt := 16) dX8_strike_48 (by decide) ?_
        exact rl_lvs hG [1, 0] rfl (ih u4 x5 h)
  have h := h0
  rw [fX8_strike] at h
  show G u 0 [(0, .ref (a 0)), (1, .int p1)] []
  refine rl_aload_n hG dX8_strike_0 rfl 0 rfl ?_
  refine rl_iload_n hG dX8_strike_1 rfl 1 rfl ?_
  obtain ⟨x6, hx6q, zx6, h⟩ := oz_ok h
  refine rl_callVi hG ro_0_ok (As := [.int p1]) (kX8_isBound l D a cI aS u p1 x6  hx6q) gX8_strike_X8_isBound rfl 0 (gM_0 a cI u) hcX8 1 rfl (by decide +kernel) rfl rfl (by decide) (Nat.le_of_ble_eq_true rfl) rfl dX8_strike_2 ?_
  refine rl_if_ne hG (tgt := 11) dX8_strike_5 (by decide) (fun c7 => ?_) (fun c7 => ?_)
  · have h := it_f h c7
    refine rl_bipush hG (v := 7) dX8_strike_11 (by decide) ?_
    refine rl_iload_n hG dX8_strike_13 rfl 1 rfl ?_
    refine rl_imul hG dX8_strike_14 ?_
    obtain ⟨x8, ex8, h⟩ := bd_ok h
    refine rl_istore_n hG [(2, .int x8), (0, .ref (a 0)), (1, .int p1)] dX8_strike_15 rfl (Nat.le_of_ble_eq_true rfl) ex8 rfl ?_
    exact rl_lvs hG [1, 0] rfl (H16 2000 u x8 h)
  · have h := it_t h c7
    refine rl_bipush hG (v := -2) dX8_strike_8 (by decide) ?_
    exact rl_ret2 hret h rfl dX8_strike_10
def fX8_bound (u : St)  (p1 : Int32) (p2 : Int32) : Option (Int32) := oz (fX8_isBound u p1) (fun x1 => (if x1 = (0 : Int32) then some (-2 : Int32) else oz (fX8_in p2.toInt64 (0 : Int64) (6 : Int64)) (fun x3 => (if x3 = (0 : Int32) then some (-3 : Int32) else ald u 2 140 (((7 : Int32) * p1) + p2) (fun x5 => some x5)))))
theorem nX8_bound_0 : Cond.constantLong RX8 125 (6) ∈ wsX8_bound := by decide +kernel
theorem nX8_bound_1 : Cond.fieldLink RX8 13 "WhoseWorkModel" "bounds" "[I" ∈ wsX8_bound := by decide +kernel
theorem iX8_bound_X8 : ∀ w ∈ wsX80, w ∈ wsX8_bound := by decide +kernel
set_option maxRecDepth 100000 in
set_option maxHeartbeats 4000000 in
theorem kX8_bound (l : Launch) (D : va_G) (a : Nat → Nat) (cI : ClassId) (aS : Nat → Prop) (u : St)  (p1 : Int32) (p2 : Int32) (r : Int32)  (h0 : fX8_bound u p1 p2 = some r) : rl_Mi l yX8_bound wsX8_bound ({ frames := 2, cells := 0, slots := 0, locals := 46 } : Room) D (tyM cI) (wM a cI) ro_0 aS [.ref (a 0), .int p1, .int p2] u r u := by
  refine rl_meth_i (cc := cX8_bound) (maxL := 3) (own := RX8) (ty := .int) (by decide) rfl rfl (Nat.le_of_ble_eq_true rfl) ?_
  intro G hG hret
  have h := h0
  rw [fX8_bound] at h
  show G u 0 [(0, .ref (a 0)), (1, .int p1), (2, .int p2)] []
  refine rl_aload_n hG dX8_bound_0 rfl 0 rfl ?_
  refine rl_iload_n hG dX8_bound_1 rfl 1 rfl ?_
  obtain ⟨x1, hx1q, zx1, h⟩ := oz_ok h
  refine rl_callVi hG ro_0_ok (As := [.int p1]) (kX8_isBound l D a cI aS u p1 x1  hx1q) gX8_bound_X8_isBound rfl 0 (gM_0 a cI u) hcX8 1 rfl (by decide +kernel) rfl rfl (by decide) (Nat.le_of_ble_eq_true rfl) rfl dX8_bound_2 ?_
  refine rl_if_ne hG (tgt := 11) dX8_bound_5 (by decide) (fun c2 => ?_) (fun c2 => ?_)
  · have h := it_f h c2
    refine rl_iload_n hG dX8_bound_11 rfl 2 rfl ?_
    refine rl_i2l hG dX8_bound_12 ?_
    refine rl_lconst hG (v := 0) dX8_bound_13 (by decide) ?_
    refine rl_ldc2 hG (v := 6) dX8_bound_14 nX8_bound_0 ?_
    obtain ⟨x3, hx3q, zx3, h⟩ := oz_ok h
    refine rl_callZi hG (As := [.long p2.toInt64, .long (0 : Int64), .long (6 : Int64)]) (kX8_in l D u p2.toInt64 (0 : Int64) (6 : Int64) x3 hx3q) gX8_bound_X8_in rfl 3 rfl (by decide +kernel) rfl rfl (by decide) (Nat.le_of_ble_eq_true rfl) rfl dX8_bound_17 ?_
    refine rl_if_eq hG (tgt := 37) dX8_bound_20 (by decide) (fun c4 => ?_) (fun c4 => ?_)
    · have h := it_t h c4
      refine rl_bipush hG (v := -3) dX8_bound_37 (by decide) ?_
      exact rl_ret1 hret h rfl dX8_bound_39
    · have h := it_f h c4
      refine rl_aload_n hG dX8_bound_23 rfl 0 rfl ?_
      refine rl_get hG iX8_bound_X8 0 (gM_0 a cI u) hcX8 2 (Nat.le_of_ble_eq_true rfl) nX8_bound_1 rfl dX8_bound_24 ?_
      refine rl_bipush hG (v := 7) dX8_bound_27 (by decide) ?_
      refine rl_iload_n hG dX8_bound_29 rfl 1 rfl ?_
      refine rl_imul hG dX8_bound_30 ?_
      refine rl_iload_n hG dX8_bound_31 rfl 2 rfl ?_
      refine rl_iadd hG dX8_bound_32 ?_
      obtain ⟨x5, ix5, ex5, h⟩ := ald_ok h
      refine rl_iald hG 2 0 (gM_2 a cI u) rfl ix5 ex5 dX8_bound_33 ?_
      refine rl_goto hG (tgt := 39) dX8_bound_34 (by decide) ?_
      exact rl_ret1 hret h rfl dX8_bound_39
  · have h := it_t h c2
    refine rl_bipush hG (v := -2) dX8_bound_8 (by decide) ?_
    exact rl_ret1 hret h rfl dX8_bound_10
def fX8_reaches_L61 (u : St)  (v1 : Int32) (v5 : Int32) : Option (Int32) := ald u 2 140 (((7 : Int32) * v1) + (5 : Int32)) (fun x1 => (if v5 < x1 then some (0 : Int32) else ald u 2 140 (((7 : Int32) * v1) + (6 : Int32)) (fun x3 => (if x3 < v5 then some (0 : Int32) else some (1 : Int32)))))
def fX8_reaches_L44 (u : St)  (v1 : Int32) (v2 : Int32) (v4 : Int32) (v5 : Int32) : Option (Int32) := (if v4 = (-1 : Int32) then fX8_reaches_L61 u v1 v5 else bd (v2 / (10 : Int32)) (fun x6 => (if v4 = (x6 - x6 / (4 : Int32) * (4 : Int32)) then fX8_reaches_L61 u v1 v5 else some (0 : Int32))))
def fX8_reaches (u : St)  (p1 : Int32) (p2 : Int32) : Option (Int32) := ald u 2 140 (((7 : Int32) * p1) + (3 : Int32)) (fun x8 => ald u 2 140 (((7 : Int32) * p1) + (4 : Int32)) (fun x9 => bd (p2 - p2 / (10 : Int32) * (10 : Int32)) (fun x10 => (if x8 = (-1 : Int32) then fX8_reaches_L44 u p1 p2 x9 x10 else (if x8 = (p2 / (40 : Int32)) then fX8_reaches_L44 u p1 p2 x9 x10 else some (0 : Int32))))))
theorem nX8_reaches_0 : Cond.fieldLink RX8 13 "WhoseWorkModel" "bounds" "[I" ∈ wsX8_reaches := by decide +kernel
theorem iX8_reaches_X8 : ∀ w ∈ wsX80, w ∈ wsX8_reaches := by decide +kernel
set_option maxRecDepth 100000 in
set_option maxHeartbeats 4000000 in
theorem kX8_reaches (l : Launch) (D : va_G) (a : Nat → Nat) (cI : ClassId) (aS : Nat → Prop) (u : St)  (p1 : Int32) (p2 : Int32) (r : Int32)  (h0 : fX8_reaches u p1 p2 = some r) : rl_Mi l yX8_reaches wsX8_reaches ({ frames := 0, cells := 0, slots := 0, locals := 0 } : Room) D (tyM cI) (wM a cI) ro_0 aS [.ref (a 0), .int p1, .int p2] u r u := by
  refine rl_meth_i (cc := cX8_reaches) (maxL := 6) (own := RX8) (ty := .boolean) (by decide) rfl rfl (Nat.le_of_ble_eq_true rfl) ?_
  intro G hG hret
  have H61 : ∀ (v1 : Int32) (v5 : Int32), fX8_reaches_L61 u v1 v5 = some r → G u 61 [(0, .ref (a 0)), (1, .int v1), (5, .int v5)] [] := by
    intro  v1 v5 h
    rw [fX8_reaches_L61] at h
    refine rl_iload hG dX8_reaches_61 2 rfl ?_
    refine rl_aload_n hG dX8_reaches_63 rfl 0 rfl ?_
    refine rl_get hG iX8_reaches_X8 0 (gM_0 a cI u) hcX8 2 (Nat.le_of_ble_eq_true rfl) nX8_reaches_0 rfl dX8_reaches_64 ?_
    refine rl_bipush hG (v := 7) dX8_reaches_67 (by decide) ?_
    refine rl_iload_n hG dX8_reaches_69 rfl 1 rfl ?_
    refine rl_imul hG dX8_reaches_70 ?_
    refine rl_iconst hG (v := 5) dX8_reaches_71 (by decide) ?_
    refine rl_iadd hG dX8_reaches_72 ?_
    obtain ⟨x1, ix1, ex1, h⟩ := ald_ok h
    refine rl_iald hG 2 0 (gM_2 a cI u) rfl ix1 ex1 dX8_reaches_73 ?_
    refine rl_icmp_lt hG (tgt := 98) dX8_reaches_74 (by decide) (fun c2 => ?_) (fun c2 => ?_)
    · have h := it_t h c2
      refine rl_iconst hG (v := 0) dX8_reaches_98 (by decide) ?_
      exact rl_ret1 hret h rfl dX8_reaches_99
    · have h := it_f h c2
      refine rl_iload hG dX8_reaches_77 2 rfl ?_
      refine rl_aload_n hG dX8_reaches_79 rfl 0 rfl ?_
      refine rl_get hG iX8_reaches_X8 0 (gM_0 a cI u) hcX8 2 (Nat.le_of_ble_eq_true rfl) nX8_reaches_0 rfl dX8_reaches_80 ?_
      refine rl_bipush hG (v := 7) dX8_reaches_83 (by decide) ?_
      refine rl_iload_n hG dX8_reaches_85 rfl 1 rfl ?_
      refine rl_imul hG dX8_reaches_86 ?_
      refine rl_bipush hG (v := 6) dX8_reaches_87 (by decide) ?_
      refine rl_iadd hG dX8_reaches_89 ?_
      obtain ⟨x3, ix3, ex3, h⟩ := ald_ok h
      refine rl_iald hG 2 0 (gM_2 a cI u) rfl ix3 ex3 dX8_reaches_90 ?_
      refine rl_icmp_gt hG (tgt := 98) dX8_reaches_91 (by decide) (fun c4 => ?_) (fun c4 => ?_)
      · have h := it_t h c4
        refine rl_iconst hG (v := 0) dX8_reaches_98 (by decide) ?_
        exact rl_ret1 hret h rfl dX8_reaches_99
      · have h := it_f h c4
        refine rl_iconst hG (v := 1) dX8_reaches_94 (by decide) ?_
        refine rl_goto hG (tgt := 99) dX8_reaches_95 (by decide) ?_
        exact rl_ret1 hret h rfl dX8_reaches_99
  have H44 : ∀ (v1 : Int32) (v2 : Int32) (v4 : Int32) (v5 : Int32), fX8_reaches_L44 u v1 v2 v4 v5 = some r → G u 44 [(0, .ref (a 0)), (1, .int v1), (2, .int v2), (4, .int v4), (5, .int v5)] [] := by
    intro  v1 v2 v4 v5 h
    rw [fX8_reaches_L44] at h
    refine rl_iload hG dX8_reaches_44 3 rfl ?_
    refine rl_iconst hG (v := -1) dX8_reaches_46 (by decide) ?_
    refine rl_icmp_eq hG (tgt := 61) dX8_reaches_47 (by decide) (fun c5 => ?_) (fun c5 => ?_)
    · have h := it_t h c5
      exact rl_lvs hG [0, 1, 4] rfl (H61 v1 v5 h)
    · have h := it_f h c5
      refine rl_iload hG dX8_reaches_50 3 rfl ?_
      refine rl_iload_n hG dX8_reaches_52 rfl 2 rfl ?_
      refine rl_bipush hG (v := 10) dX8_reaches_53 (by decide) ?_
      refine rl_idiv hG dX8_reaches_55 (by decide) ?_
      refine rl_iconst hG (v := 4) dX8_reaches_56 (by decide) ?_
      obtain ⟨x6, ex6, h⟩ := bd_ok h
      refine rl_irem2 hG ex6 dX8_reaches_57 (by decide) ?_
      refine rl_icmp_ne hG (tgt := 98) dX8_reaches_58 (by decide) (fun c7 => ?_) (fun c7 => ?_)
      · have h := it_f h c7
        refine rl_iconst hG (v := 0) dX8_reaches_98 (by decide) ?_
        exact rl_ret1 hret h rfl dX8_reaches_99
      · have h := it_t h c7
        exact rl_lvs hG [0, 1, 4] rfl (H61 v1 v5 h)
  have h := h0
  rw [fX8_reaches] at h
  show G u 0 [(0, .ref (a 0)), (1, .int p1), (2, .int p2)] []
  refine rl_aload_n hG dX8_reaches_0 rfl 0 rfl ?_
  refine rl_get hG iX8_reaches_X8 0 (gM_0 a cI u) hcX8 2 (Nat.le_of_ble_eq_true rfl) nX8_reaches_0 rfl dX8_reaches_1 ?_
  refine rl_bipush hG (v := 7) dX8_reaches_4 (by decide) ?_
  refine rl_iload_n hG dX8_reaches_6 rfl 1 rfl ?_
  refine rl_imul hG dX8_reaches_7 ?_
  refine rl_iconst hG (v := 3) dX8_reaches_8 (by decide) ?_
  refine rl_iadd hG dX8_reaches_9 ?_
  obtain ⟨x8, ix8, ex8, h⟩ := ald_ok h
  refine rl_iald hG 2 0 (gM_2 a cI u) rfl ix8 ex8 dX8_reaches_10 ?_
  refine rl_istore_n hG [(3, .int x8), (0, .ref (a 0)), (1, .int p1), (2, .int p2)] dX8_reaches_11 rfl (Nat.le_of_ble_eq_true rfl) rfl rfl ?_
  refine rl_aload_n hG dX8_reaches_12 rfl 1 rfl ?_
  refine rl_get hG iX8_reaches_X8 0 (gM_0 a cI u) hcX8 2 (Nat.le_of_ble_eq_true rfl) nX8_reaches_0 rfl dX8_reaches_13 ?_
  refine rl_bipush hG (v := 7) dX8_reaches_16 (by decide) ?_
  refine rl_iload_n hG dX8_reaches_18 rfl 2 rfl ?_
  refine rl_imul hG dX8_reaches_19 ?_
  refine rl_iconst hG (v := 4) dX8_reaches_20 (by decide) ?_
  refine rl_iadd hG dX8_reaches_21 ?_
  obtain ⟨x9, ix9, ex9, h⟩ := ald_ok h
  refine rl_iald hG 2 0 (gM_2 a cI u) rfl ix9 ex9 dX8_reaches_22 ?_
  refine rl_istore hG [(4, .int x9), (3, .int x8), (0, .ref (a 0)), (1, .int p1), (2, .int p2)] dX8_reaches_23 (Nat.le_of_ble_eq_true rfl) rfl rfl ?_
  refine rl_iload_n hG dX8_reaches_25 rfl 4 rfl ?_
  refine rl_bipush hG (v := 10) dX8_reaches_26 (by decide) ?_
  refine rl_irem hG dX8_reaches_28 (by decide) ?_
  obtain ⟨x10, ex10, h⟩ := bd_ok h
  refine rl_istore hG [(5, .int x10), (4, .int x9), (3, .int x8), (0, .ref (a 0)), (1, .int p1), (2, .int p2)] dX8_reaches_29 (Nat.le_of_ble_eq_true rfl) ex10 rfl ?_
  refine rl_iload_n hG dX8_reaches_31 rfl 2 rfl ?_
  refine rl_iconst hG (v := -1) dX8_reaches_32 (by decide) ?_
  refine rl_icmp_eq hG (tgt := 44) dX8_reaches_33 (by decide) (fun c11 => ?_) (fun c11 => ?_)
  · have h := it_t h c11
    exact rl_lvs hG [3, 4, 5, 1, 0] rfl (H44 p1 p2 x9 x10 h)
  · have h := it_f h c11
    refine rl_iload_n hG dX8_reaches_36 rfl 2 rfl ?_
    refine rl_iload_n hG dX8_reaches_37 rfl 5 rfl ?_
    refine rl_bipush hG (v := 40) dX8_reaches_38 (by decide) ?_
    refine rl_idiv hG dX8_reaches_40 (by decide) ?_
    refine rl_icmp_ne hG (tgt := 98) dX8_reaches_41 (by decide) (fun c12 => ?_) (fun c12 => ?_)
    · have h := it_f h c12
      refine rl_iconst hG (v := 0) dX8_reaches_98 (by decide) ?_
      exact rl_ret1 hret h rfl dX8_reaches_99
    · have h := it_t h c12
      exact rl_lvs hG [3, 4, 5, 1, 0] rfl (H44 p1 p2 x9 x10 h)
def fX8_isThere (u : St)  (p1 : Int32) : Option (Int32) := (if (u 0 22) ≤ p1 then some (0 : Int32) else (if (((u 0 21) >>> (p1 &&& 31)) &&& (1 : Int32)) = (0 : Int32) then some (1 : Int32) else some (0 : Int32)))
theorem nX8_isThere_0 : Cond.fieldLink RX8 127 "WhoseWorkModel" "upTo" "I" ∈ wsX8_isThere := by decide +kernel
theorem nX8_isThere_1 : Cond.fieldLink RX8 130 "WhoseWorkModel" "out" "I" ∈ wsX8_isThere := by decide +kernel
theorem iX8_isThere_X8 : ∀ w ∈ wsX80, w ∈ wsX8_isThere := by decide +kernel
set_option maxRecDepth 100000 in
set_option maxHeartbeats 4000000 in
theorem kX8_isThere (l : Launch) (D : va_G) (a : Nat → Nat) (cI : ClassId) (aS : Nat → Prop) (u : St)  (p1 : Int32) (r : Int32)  (h0 : fX8_isThere u p1 = some r) : rl_Mi l yX8_isThere wsX8_isThere ({ frames := 0, cells := 0, slots := 0, locals := 0 } : Room) D (tyM cI) (wM a cI) ro_0 aS [.ref (a 0), .int p1] u r u := by
  refine rl_meth_i (cc := cX8_isThere) (maxL := 2) (own := RX8) (ty := .boolean) (by decide) rfl rfl (Nat.le_of_ble_eq_true rfl) ?_
  intro G hG hret
  have h := h0
  rw [fX8_isThere] at h
  show G u 0 [(0, .ref (a 0)), (1, .int p1)] []
  refine rl_iload_n hG dX8_isThere_0 rfl 1 rfl ?_
  refine rl_aload_n hG dX8_isThere_1 rfl 0 rfl ?_
  refine rl_get hG iX8_isThere_X8 0 (gM_0 a cI u) hcX8 22 (Nat.le_of_ble_eq_true rfl) nX8_isThere_0 rfl dX8_isThere_2 ?_
  refine rl_icmp_ge hG (tgt := 23) dX8_isThere_5 (by decide) (fun c1 => ?_) (fun c1 => ?_)
  · have h := it_t h c1
    refine rl_iconst hG (v := 0) dX8_isThere_23 (by decide) ?_
    exact rl_ret1 hret h rfl dX8_isThere_24
  · have h := it_f h c1
    refine rl_aload_n hG dX8_isThere_8 rfl 0 rfl ?_
    refine rl_get hG iX8_isThere_X8 0 (gM_0 a cI u) hcX8 21 (Nat.le_of_ble_eq_true rfl) nX8_isThere_1 rfl dX8_isThere_9 ?_
    refine rl_iload_n hG dX8_isThere_12 rfl 1 rfl ?_
    refine rl_ishr hG dX8_isThere_13 ?_
    refine rl_iconst hG (v := 1) dX8_isThere_14 (by decide) ?_
    refine rl_iand hG dX8_isThere_15 ?_
    refine rl_if_ne hG (tgt := 23) dX8_isThere_16 (by decide) (fun c2 => ?_) (fun c2 => ?_)
    · have h := it_f h c2
      refine rl_iconst hG (v := 0) dX8_isThere_23 (by decide) ?_
      exact rl_ret1 hret h rfl dX8_isThere_24
    · have h := it_t h c2
      refine rl_iconst hG (v := 1) dX8_isThere_19 (by decide) ?_
      refine rl_goto hG (tgt := 24) dX8_isThere_20 (by decide) ?_
      exact rl_ret1 hret h rfl dX8_isThere_24
def fX8_decides_L152 (u : St) (k11 : Int32 → Int32 → Int32 → Int32 → Int32 → Int32 → Option (Int32)) (v1 : Int32) (v2 : Int32) (v3 : Int32) (v4 : Int32) (v5 : Int32) (v6 : Int32) : Option (Int32) := bd (v6 + (1 : Int32)) (fun x1 => k11 v1 v2 v3 v4 v5 x1)
def fX8_decides_L150 (u : St) (k11 : Int32 → Int32 → Int32 → Int32 → Int32 → Int32 → Option (Int32)) (v1 : Int32) (v2 : Int32) (v3 : Int32) (v4 : Int32) (v6 : Int32) (w0 : Int32) : Option (Int32) := fX8_decides_L152 u k11 v1 v2 v3 v4 w0 v6
def fX8_decides_L148 (u : St) (k11 : Int32 → Int32 → Int32 → Int32 → Int32 → Int32 → Option (Int32)) (v1 : Int32) (v2 : Int32) (v3 : Int32) (v4 : Int32) (v5 : Int32) (v6 : Int32) : Option (Int32) := fX8_decides_L150 u k11 v1 v2 v3 v4 v6 v5
def fX8_decides_L130 (u : St) (k11 : Int32 → Int32 → Int32 → Int32 → Int32 → Int32 → Option (Int32)) (v1 : Int32) (v2 : Int32) (v3 : Int32) (v5 : Int32) (v6 : Int32) (v7 : Int32) (v8 : Int32) (w0 : Int32) : Option (Int32) := (if v7 = (4 : Int32) then fX8_decides_L148 u k11 v1 v2 v3 w0 v5 v6 else (if v8 = (0 : Int32) then fX8_decides_L148 u k11 v1 v2 v3 w0 v5 v6 else fX8_decides_L150 u k11 v1 v2 v3 w0 v6 v6))
def fX8_decides_L128 (u : St) (k11 : Int32 → Int32 → Int32 → Int32 → Int32 → Int32 → Option (Int32)) (v1 : Int32) (v2 : Int32) (v3 : Int32) (v4 : Int32) (v5 : Int32) (v6 : Int32) (v7 : Int32) (v8 : Int32) : Option (Int32) := fX8_decides_L130 u k11 v1 v2 v3 v5 v6 v7 v8 v4
def fX8_decides_L105 (u : St) (k11 : Int32 → Int32 → Int32 → Int32 → Int32 → Int32 → Option (Int32)) (v1 : Int32) (v2 : Int32) (v4 : Int32) (v5 : Int32) (v6 : Int32) (v7 : Int32) (v8 : Int32) (w0 : Int32) : Option (Int32) := (if v7 = (2 : Int32) then (if v8 = (0 : Int32) then (if v4 = (-1 : Int32) then fX8_decides_L130 u k11 v1 v2 w0 v5 v6 v7 v8 v6 else fX8_decides_L128 u k11 v1 v2 w0 v4 v5 v6 v7 v8) else fX8_decides_L128 u k11 v1 v2 w0 v4 v5 v6 v7 v8) else fX8_decides_L128 u k11 v1 v2 w0 v4 v5 v6 v7 v8)
def fX8_decides_L104 (u : St) (k11 : Int32 → Int32 → Int32 → Int32 → Int32 → Int32 → Option (Int32)) (v1 : Int32) (v2 : Int32) (v3 : Int32) (v4 : Int32) (v5 : Int32) (v6 : Int32) (v7 : Int32) (v8 : Int32) : Option (Int32) := fX8_decides_L105 u k11 v1 v2 v4 v5 v6 v7 v8 v3
def fX8_decides_L88 (u : St) (k11 : Int32 → Int32 → Int32 → Int32 → Int32 → Int32 → Option (Int32)) (v1 : Int32) (v2 : Int32) (v3 : Int32) (v4 : Int32) (v5 : Int32) (v6 : Int32) (v7 : Int32) (v8 : Int32) : Option (Int32) := (if v7 = (2 : Int32) then (if v8 = (0 : Int32) then fX8_decides_L104 u k11 v1 v2 v3 v4 v5 v6 v7 v8 else fX8_decides_L105 u k11 v1 v2 v4 v5 v6 v7 v8 v6) else fX8_decides_L104 u k11 v1 v2 v3 v4 v5 v6 v7 v8)
def fX8_decides_L72 (u : St) (k11 : Int32 → Int32 → Int32 → Int32 → Int32 → Int32 → Option (Int32)) (v1 : Int32) (v2 : Int32) (v3 : Int32) (v4 : Int32) (v5 : Int32) (v6 : Int32) (v7 : Int32) (w0 : Int32) : Option (Int32) := (if v7 = (4 : Int32) then (if w0 = (0 : Int32) then fX8_decides_L88 u k11 v1 v2 v3 v4 v5 v6 v7 w0 else some v6) else fX8_decides_L88 u k11 v1 v2 v3 v4 v5 v6 v7 w0)
def fX8_decides_L158 (u : St)  (v3 : Int32) (v4 : Int32) (v5 : Int32) : Option (Int32) := (if v4 = (-1 : Int32) then some v5 else (if v3 = (-1 : Int32) then some v4 else some v5))
def fX8_decides_L11 (u : St)  : Nat → Int32 → Int32 → Int32 → Int32 → Int32 → Int32 → Option (Int32)
  | 0 => fun _ _ _ _ _ _ => none
  | n + 1 => fun v1 v2 v3 v4 v5 v6 => (if (u 0 3) ≤ v6 then fX8_decides_L158 u v3 v4 v5 else oz (fX8_isThere u v6) (fun x14 => (if x14 = (0 : Int32) then fX8_decides_L152 u (fX8_decides_L11 u n) v1 v2 v3 v4 v5 v6 else oz (fX8_reaches u v6 v2) (fun x16 => (if x16 = (0 : Int32) then fX8_decides_L152 u (fX8_decides_L11 u n) v1 v2 v3 v4 v5 v6 else ald u 2 140 ((7 : Int32) * v6) (fun x18 => ald u 2 140 (((7 : Int32) * v6) + (1 : Int32)) (fun x19 => (if x19 = v1 then fX8_decides_L72 u (fX8_decides_L11 u n) v1 v2 v3 v4 v5 v6 x18 (1 : Int32) else fX8_decides_L72 u (fX8_decides_L11 u n) v1 v2 v3 v4 v5 v6 x18 (0 : Int32)))))))))
def fX8_decides (u : St)  (p1 : Int32) (p2 : Int32) : Option (Int32) := fX8_decides_L11 u 2000 p1 p2 (-1 : Int32) (-1 : Int32) (-1 : Int32) (0 : Int32)
theorem nX8_decides_0 : Cond.fieldLink RX8 119 "WhoseWorkModel" "boundMany" "I" ∈ wsX8_decides := by decide +kernel
theorem nX8_decides_1 : Cond.fieldLink RX8 13 "WhoseWorkModel" "bounds" "[I" ∈ wsX8_decides := by decide +kernel
theorem iX8_decides_X8 : ∀ w ∈ wsX80, w ∈ wsX8_decides := by decide +kernel
set_option maxRecDepth 100000 in
set_option maxHeartbeats 4000000 in
theorem kX8_decides (l : Launch) (D : va_G) (a : Nat → Nat) (cI : ClassId) (aS : Nat → Prop) (u : St)  (p1 : Int32) (p2 : Int32) (r : Int32)  (h0 : fX8_decides u p1 p2 = some r) : rl_Mi l yX8_decides wsX8_decides ({ frames := 1, cells := 0, slots := 0, locals := 25 } : Room) D (tyM cI) (wM a cI) ro_0 aS [.ref (a 0), .int p1, .int p2] u r u := by
  refine rl_meth_i (cc := cX8_decides) (maxL := 9) (own := RX8) (ty := .int) (by decide) rfl rfl (Nat.le_of_ble_eq_true rfl) ?_
  intro G hG hret
  have H152 : ∀ (k11 : Int32 → Int32 → Int32 → Int32 → Int32 → Int32 → Option (Int32)) (hk11 : ∀ (v1 : Int32) (v2 : Int32) (v3 : Int32) (v4 : Int32) (v5 : Int32) (v6 : Int32), k11 v1 v2 v3 v4 v5 v6 = some r → G u 11 [(0, .ref (a 0)), (1, .int v1), (2, .int v2), (3, .int v3), (4, .int v4), (5, .int v5), (6, .int v6)] []), ∀ (v1 : Int32) (v2 : Int32) (v3 : Int32) (v4 : Int32) (v5 : Int32) (v6 : Int32), fX8_decides_L152 u k11 v1 v2 v3 v4 v5 v6 = some r → G u 152 [(0, .ref (a 0)), (1, .int v1), (2, .int v2), (3, .int v3), (4, .int v4), (5, .int v5), (6, .int v6)] [] := by
    intro k11 hk11 v1 v2 v3 v4 v5 v6 h
    rw [fX8_decides_L152] at h
    obtain ⟨x1, ex1, h⟩ := bd_ok h
    refine rl_iinc hG [(6, .int x1), (0, .ref (a 0)), (1, .int v1), (2, .int v2), (3, .int v3), (4, .int v4), (5, .int v5)] dX8_decides_152 6 rfl (by rw [ex1]; rfl) (Nat.le_of_ble_eq_true rfl) rfl ?_
    refine rl_goto hG (tgt := 11) dX8_decides_155 (by decide) ?_
    exact rl_lvs hG [1, 2, 3, 4, 5, 6, 0] rfl (hk11 v1 v2 v3 v4 v5 x1 h)
  have H150 : ∀ (k11 : Int32 → Int32 → Int32 → Int32 → Int32 → Int32 → Option (Int32)) (hk11 : ∀ (v1 : Int32) (v2 : Int32) (v3 : Int32) (v4 : Int32) (v5 : Int32) (v6 : Int32), k11 v1 v2 v3 v4 v5 v6 = some r → G u 11 [(0, .ref (a 0)), (1, .int v1), (2, .int v2), (3, .int v3), (4, .int v4), (5, .int v5), (6, .int v6)] []), ∀ (v1 : Int32) (v2 : Int32) (v3 : Int32) (v4 : Int32) (v6 : Int32) (w0 : Int32), fX8_decides_L150 u k11 v1 v2 v3 v4 v6 w0 = some r → G u 150 [(0, .ref (a 0)), (1, .int v1), (2, .int v2), (3, .int v3), (4, .int v4), (6, .int v6)] [.int w0] := by
    intro k11 hk11 v1 v2 v3 v4 v6 w0 h
    rw [fX8_decides_L150] at h
    refine rl_istore hG [(5, .int w0), (0, .ref (a 0)), (1, .int v1), (2, .int v2), (3, .int v3), (4, .int v4), (6, .int v6)] dX8_decides_150 (Nat.le_of_ble_eq_true rfl) rfl rfl ?_
    exact rl_lvs hG [1, 2, 3, 4, 5, 0, 6] rfl (H152 (k11) (hk11) v1 v2 v3 v4 w0 v6 h)
  have H148 : ∀ (k11 : Int32 → Int32 → Int32 → Int32 → Int32 → Int32 → Option (Int32)) (hk11 : ∀ (v1 : Int32) (v2 : Int32) (v3 : Int32) (v4 : Int32) (v5 : Int32) (v6 : Int32), k11 v1 v2 v3 v4 v5 v6 = some r → G u 11 [(0, .ref (a 0)), (1, .int v1), (2, .int v2), (3, .int v3), (4, .int v4), (5, .int v5), (6, .int v6)] []), ∀ (v1 : Int32) (v2 : Int32) (v3 : Int32) (v4 : Int32) (v5 : Int32) (v6 : Int32), fX8_decides_L148 u k11 v1 v2 v3 v4 v5 v6 = some r → G u 148 [(0, .ref (a 0)), (1, .int v1), (2, .int v2), (3, .int v3), (4, .int v4), (5, .int v5), (6, .int v6)] [] := by
    intro k11 hk11 v1 v2 v3 v4 v5 v6 h
    rw [fX8_decides_L148] at h
    refine rl_iload hG dX8_decides_148 5 rfl ?_
    exact rl_lvs hG [0, 1, 2, 3, 4, 6] rfl (H150 (k11) (hk11) v1 v2 v3 v4 v6 v5 h)
  have H130 : ∀ (k11 : Int32 → Int32 → Int32 → Int32 → Int32 → Int32 → Option (Int32)) (hk11 : ∀ (v1 : Int32) (v2 : Int32) (v3 : Int32) (v4 : Int32) (v5 : Int32) (v6 : Int32), k11 v1 v2 v3 v4 v5 v6 = some r → G u 11 [(0, .ref (a 0)), (1, .int v1), (2, .int v2), (3, .int v3), (4, .int v4), (5, .int v5), (6, .int v6)] []), ∀ (v1 : Int32) (v2 : Int32) (v3 : Int32) (v5 : Int32) (v6 : Int32) (v7 : Int32) (v8 : Int32) (w0 : Int32), fX8_decides_L130 u k11 v1 v2 v3 v5 v6 v7 v8 w0 = some r → G u 130 [(0, .ref (a 0)), (1, .int v1), (2, .int v2), (3, .int v3), (5, .int v5), (6, .int v6), (7, .int v7), (8, .int v8)] [.int w0] := by
    intro k11 hk11 v1 v2 v3 v5 v6 v7 v8 w0 h
    rw [fX8_decides_L130] at h
    refine rl_istore hG [(4, .int w0), (0, .ref (a 0)), (1, .int v1), (2, .int v2), (3, .int v3), (5, .int v5), (6, .int v6), (7, .int v7), (8, .int v8)] dX8_decides_130 (Nat.le_of_ble_eq_true rfl) rfl rfl ?_
    refine rl_iload hG dX8_decides_132 7 rfl ?_
    refine rl_iconst hG (v := 4) dX8_decides_134 (by decide) ?_
    refine rl_icmp_eq hG (tgt := 148) dX8_decides_135 (by decide) (fun c2 => ?_) (fun c2 => ?_)
    · have h := it_t h c2
      exact rl_lvs hG [1, 2, 3, 4, 0, 5, 6] rfl (H148 (k11) (hk11) v1 v2 v3 w0 v5 v6 h)
    · have h := it_f h c2
      refine rl_iload hG dX8_decides_138 8 rfl ?_
      refine rl_if_eq hG (tgt := 148) dX8_decides_140 (by decide) (fun c3 => ?_) (fun c3 => ?_)
      · have h := it_t h c3
        exact rl_lvs hG [1, 2, 3, 4, 0, 5, 6] rfl (H148 (k11) (hk11) v1 v2 v3 w0 v5 v6 h)
      · have h := it_f h c3
        refine rl_iload hG dX8_decides_143 6 rfl ?_
        refine rl_goto hG (tgt := 150) dX8_decides_145 (by decide) ?_
        exact rl_lvs hG [1, 2, 3, 4, 0, 6] rfl (H150 (k11) (hk11) v1 v2 v3 w0 v6 v6 h)
  have H128 : ∀ (k11 : Int32 → Int32 → Int32 → Int32 → Int32 → Int32 → Option (Int32)) (hk11 : ∀ (v1 : Int32) (v2 : Int32) (v3 : Int32) (v4 : Int32) (v5 : Int32) (v6 : Int32), k11 v1 v2 v3 v4 v5 v6 = some r → G u 11 [(0, .ref (a 0)), (1, .int v1), (2, .int v2), (3, .int v3), (4, .int v4), (5, .int v5), (6, .int v6)] []), ∀ (v1 : Int32) (v2 : Int32) (v3 : Int32) (v4 : Int32) (v5 : Int32) (v6 : Int32) (v7 : Int32) (v8 : Int32), fX8_decides_L128 u k11 v1 v2 v3 v4 v5 v6 v7 v8 = some r → G u 128 [(0, .ref (a 0)), (1, .int v1), (2, .int v2), (3, .int v3), (4, .int v4), (5, .int v5), (6, .int v6), (7, .int v7), (8, .int v8)] [] := by
    intro k11 hk11 v1 v2 v3 v4 v5 v6 v7 v8 h
    rw [fX8_decides_L128] at h
    refine rl_iload hG dX8_decides_128 4 rfl ?_
    exact rl_lvs hG [0, 1, 2, 3, 5, 6, 7, 8] rfl (H130 (k11) (hk11) v1 v2 v3 v5 v6 v7 v8 v4 h)
  have H105 : ∀ (k11 : Int32 → Int32 → Int32 → Int32 → Int32 → Int32 → Option (Int32)) (hk11 : ∀ (v1 : Int32) (v2 : Int32) (v3 : Int32) (v4 : Int32) (v5 : Int32) (v6 : Int32), k11 v1 v2 v3 v4 v5 v6 = some r → G u 11 [(0, .ref (a 0)), (1, .int v1), (2, .int v2), (3, .int v3), (4, .int v4), (5, .int v5), (6, .int v6)] []), ∀ (v1 : Int32) (v2 : Int32) (v4 : Int32) (v5 : Int32) (v6 : Int32) (v7 : Int32) (v8 : Int32) (w0 : Int32), fX8_decides_L105 u k11 v1 v2 v4 v5 v6 v7 v8 w0 = some r → G u 105 [(0, .ref (a 0)), (1, .int v1), (2, .int v2), (4, .int v4), (5, .int v5), (6, .int v6), (7, .int v7), (8, .int v8)] [.int w0] := by
    intro k11 hk11 v1 v2 v4 v5 v6 v7 v8 w0 h
    rw [fX8_decides_L105] at h
    refine rl_istore_n hG [(3, .int w0), (0, .ref (a 0)), (1, .int v1), (2, .int v2), (4, .int v4), (5, .int v5), (6, .int v6), (7, .int v7), (8, .int v8)] dX8_decides_105 rfl (Nat.le_of_ble_eq_true rfl) rfl rfl ?_
    refine rl_iload hG dX8_decides_106 7 rfl ?_
    refine rl_iconst hG (v := 2) dX8_decides_108 (by decide) ?_
    refine rl_icmp_ne hG (tgt := 128) dX8_decides_109 (by decide) (fun c4 => ?_) (fun c4 => ?_)
    · have h := it_f h c4
      exact rl_lvs hG [1, 2, 3, 0, 4, 5, 6, 7, 8] rfl (H128 (k11) (hk11) v1 v2 w0 v4 v5 v6 v7 v8 h)
    · have h := it_t h c4
      refine rl_iload hG dX8_decides_112 8 rfl ?_
      refine rl_if_ne hG (tgt := 128) dX8_decides_114 (by decide) (fun c5 => ?_) (fun c5 => ?_)
      · have h := it_f h c5
        exact rl_lvs hG [1, 2, 3, 0, 4, 5, 6, 7, 8] rfl (H128 (k11) (hk11) v1 v2 w0 v4 v5 v6 v7 v8 h)
      · have h := it_t h c5
        refine rl_iload hG dX8_decides_117 4 rfl ?_
        refine rl_iconst hG (v := -1) dX8_decides_119 (by decide) ?_
        refine rl_icmp_ne hG (tgt := 128) dX8_decides_120 (by decide) (fun c6 => ?_) (fun c6 => ?_)
        · have h := it_f h c6
          exact rl_lvs hG [1, 2, 3, 0, 4, 5, 6, 7, 8] rfl (H128 (k11) (hk11) v1 v2 w0 v4 v5 v6 v7 v8 h)
        · have h := it_t h c6
          refine rl_iload hG dX8_decides_123 6 rfl ?_
          refine rl_goto hG (tgt := 130) dX8_decides_125 (by decide) ?_
          exact rl_lvs hG [1, 2, 3, 0, 5, 6, 7, 8] rfl (H130 (k11) (hk11) v1 v2 w0 v5 v6 v7 v8 v6 h)
  have H104 : ∀ (k11 : Int32 → Int32 → Int32 → Int32 → Int32 → Int32 → Option (Int32)) (hk11 : ∀ (v1 : Int32) (v2 : Int32) (v3 : Int32) (v4 : Int32) (v5 : Int32) (v6 : Int32), k11 v1 v2 v3 v4 v5 v6 = some r → G u 11 [(0, .ref (a 0)), (1, .int v1), (2, .int v2), (3, .int v3), (4, .int v4), (5, .int v5), (6, .int v6)] []), ∀ (v1 : Int32) (v2 : Int32) (v3 : Int32) (v4 : Int32) (v5 : Int32) (v6 : Int32) (v7 : Int32) (v8 : Int32), fX8_decides_L104 u k11 v1 v2 v3 v4 v5 v6 v7 v8 = some r → G u 104 [(0, .ref (a 0)), (1, .int v1), (2, .int v2), (3, .int v3), (4, .int v4), (5, .int v5), (6, .int v6), (7, .int v7), (8, .int v8)] [] := by
    intro k11 hk11 v1 v2 v3 v4 v5 v6 v7 v8 h
    rw [fX8_decides_L104] at h
    refine rl_iload_n hG dX8_decides_104 rfl 3 rfl ?_
    exact rl_lvs hG [0, 1, 2, 4, 5, 6, 7, 8] rfl (H105 (k11) (hk11) v1 v2 v4 v5 v6 v7 v8 v3 h)
  have H88 : ∀ (k11 : Int32 → Int32 → Int32 → Int32 → Int32 → Int32 → Option (Int32)) (hk11 : ∀ (v1 : Int32) (v2 : Int32) (v3 : Int32) (v4 : Int32) (v5 : Int32) (v6 : Int32), k11 v1 v2 v3 v4 v5 v6 = some r → G u 11 [(0, .ref (a 0)), (1, .int v1), (2, .int v2), (3, .int v3), (4, .int v4), (5, .int v5), (6, .int v6)] []), ∀ (v1 : Int32) (v2 : Int32) (v3 : Int32) (v4 : Int32) (v5 : Int32) (v6 : Int32) (v7 : Int32) (v8 : Int32), fX8_decides_L88 u k11 v1 v2 v3 v4 v5 v6 v7 v8 = some r → G u 88 [(0, .ref (a 0)), (1, .int v1), (2, .int v2), (3, .int v3), (4, .int v4), (5, .int v5), (6, .int v6), (7, .int v7), (8, .int v8)] [] := by
    intro k11 hk11 v1 v2 v3 v4 v5 v6 v7 v8 h
    rw [fX8_decides_L88] at h
    refine rl_iload hG dX8_decides_88 7 rfl ?_
    refine rl_iconst hG (v := 2) dX8_decides_90 (by decide) ?_
    refine rl_icmp_ne hG (tgt := 104) dX8_decides_91 (by decide) (fun c7 => ?_) (fun c7 => ?_)
    · have h := it_f h c7
      exact rl_lvs hG [0, 1, 2, 3, 4, 5, 6, 7, 8] rfl (H104 (k11) (hk11) v1 v2 v3 v4 v5 v6 v7 v8 h)
    · have h := it_t h c7
      refine rl_iload hG dX8_decides_94 8 rfl ?_
      refine rl_if_eq hG (tgt := 104) dX8_decides_96 (by decide) (fun c8 => ?_) (fun c8 => ?_)
      · have h := it_t h c8
        exact rl_lvs hG [0, 1, 2, 3, 4, 5, 6, 7, 8] rfl (H104 (k11) (hk11) v1 v2 v3 v4 v5 v6 v7 v8 h)
      · have h := it_f h c8
        refine rl_iload hG dX8_decides_99 6 rfl ?_
        refine rl_goto hG (tgt := 105) dX8_decides_101 (by decide) ?_
        exact rl_lvs hG [0, 1, 2, 4, 5, 6, 7, 8] rfl (H105 (k11) (hk11) v1 v2 v4 v5 v6 v7 v8 v6 h)
  have H72 : ∀ (k11 : Int32 → Int32 → Int32 → Int32 → Int32 → Int32 → Option (Int32)) (hk11 : ∀ (v1 : Int32) (v2 : Int32) (v3 : Int32) (v4 : Int32) (v5 : Int32) (v6 : Int32), k11 v1 v2 v3 v4 v5 v6 = some r → G u 11 [(0, .ref (a 0)), (1, .int v1), (2, .int v2), (3, .int v3), (4, .int v4), (5, .int v5), (6, .int v6)] []), ∀ (v1 : Int32) (v2 : Int32) (v3 : Int32) (v4 : Int32) (v5 : Int32) (v6 : Int32) (v7 : Int32) (w0 : Int32), fX8_decides_L72 u k11 v1 v2 v3 v4 v5 v6 v7 w0 = some r → G u 72 [(0, .ref (a 0)), (1, .int v1), (2, .int v2), (3, .int v3), (4, .int v4), (5, .int v5), (6, .int v6), (7, .int v7)] [.int w0] := by
    intro k11 hk11 v1 v2 v3 v4 v5 v6 v7 w0 h
    rw [fX8_decides_L72] at h
    refine rl_istore hG [(8, .int w0), (0, .ref (a 0)), (1, .int v1), (2, .int v2), (3, .int v3), (4, .int v4), (5, .int v5), (6, .int v6), (7, .int v7)] dX8_decides_72 (Nat.le_of_ble_eq_true rfl) rfl rfl ?_
    refine rl_iload hG dX8_decides_74 8 rfl ?_
    refine rl_iconst hG (v := 4) dX8_decides_76 (by decide) ?_
    refine rl_icmp_ne hG (tgt := 88) dX8_decides_77 (by decide) (fun c9 => ?_) (fun c9 => ?_)
    · have h := it_f h c9
      exact rl_lvs hG [1, 2, 3, 4, 5, 6, 7, 8, 0] rfl (H88 (k11) (hk11) v1 v2 v3 v4 v5 v6 v7 w0 h)
    · have h := it_t h c9
      refine rl_iload hG dX8_decides_80 0 rfl ?_
      refine rl_if_eq hG (tgt := 88) dX8_decides_82 (by decide) (fun c10 => ?_) (fun c10 => ?_)
      · have h := it_t h c10
        exact rl_lvs hG [1, 2, 3, 4, 5, 6, 7, 8, 0] rfl (H88 (k11) (hk11) v1 v2 v3 v4 v5 v6 v7 w0 h)
      · have h := it_f h c10
        refine rl_iload hG dX8_decides_85 7 rfl ?_
        exact rl_ret1 hret h rfl dX8_decides_87
  have H158 : ∀ (v3 : Int32) (v4 : Int32) (v5 : Int32), fX8_decides_L158 u v3 v4 v5 = some r → G u 158 [(3, .int v3), (4, .int v4), (5, .int v5)] [] := by
    intro  v3 v4 v5 h
    rw [fX8_decides_L158] at h
    refine rl_iload hG dX8_decides_158 1 rfl ?_
    refine rl_iconst hG (v := -1) dX8_decides_160 (by decide) ?_
    refine rl_icmp_eq hG (tgt := 174) dX8_decides_161 (by decide) (fun c11 => ?_) (fun c11 => ?_)
    · have h := it_t h c11
      refine rl_iload hG dX8_decides_174 2 rfl ?_
      exact rl_ret1 hret h rfl dX8_decides_176
    · have h := it_f h c11
      refine rl_iload_n hG dX8_decides_164 rfl 0 rfl ?_
      refine rl_iconst hG (v := -1) dX8_decides_165 (by decide) ?_
      refine rl_icmp_ne hG (tgt := 174) dX8_decides_166 (by decide) (fun c12 => ?_) (fun c12 => ?_)
      · have h := it_f h c12
        refine rl_iload hG dX8_decides_174 2 rfl ?_
        exact rl_ret1 hret h rfl dX8_decides_176
      · have h := it_t h c12
        refine rl_iload hG dX8_decides_169 1 rfl ?_
        refine rl_goto hG (tgt := 176) dX8_decides_171 (by decide) ?_
        exact rl_ret1 hret h rfl dX8_decides_176
  have H11 : ∀ (n : Nat) (v1 : Int32) (v2 : Int32) (v3 : Int32) (v4 : Int32) (v5 : Int32) (v6 : Int32), fX8_decides_L11 u n v1 v2 v3 v4 v5 v6 = some r → G u 11 [(0, .ref (a 0)), (1, .int v1), (2, .int v2), (3, .int v3), (4, .int v4), (5, .int v5), (6, .int v6)] [] := by
    intro n
    induction n with
    | zero =>
      intro v1 v2 v3 v4 v5 v6 h
      exact absurd h (by rw [fX8_decides_L11]; exact fun q => by cases q)
    | succ n ih =>
      intro v1 v2 v3 v4 v5 v6 h
      rw [fX8_decides_L11] at h
      refine rl_iload hG dX8_decides_11 6 rfl ?_
      refine rl_aload_n hG dX8_decides_13 rfl 0 rfl ?_
      refine rl_get hG iX8_decides_X8 0 (gM_0 a cI u) hcX8 3 (Nat.le_of_ble_eq_true rfl) nX8_decides_0 rfl dX8_decides_14 ?_
      refine rl_icmp_ge hG (tgt := 158) dX8_decides_17 (by decide) (fun c13 => ?_) (fun c13 => ?_)
      · have h := it_t h c13
        exact rl_lvs hG [3, 4, 5] rfl (H158 v3 v4 v5 h)
      · have h := it_f h c13
        refine rl_aload_n hG dX8_decides_20 rfl 0 rfl ?_
        refine rl_iload hG dX8_decides_21 6 rfl ?_
        obtain ⟨x14, hx14q, zx14, h⟩ := oz_ok h
        refine rl_callVi hG ro_0_ok (As := [.int v6]) (kX8_isThere l D a cI aS u v6 x14  hx14q) gX8_decides_X8_isThere rfl 0 (gM_0 a cI u) hcX8 1 rfl (by decide +kernel) rfl rfl (by decide) (Nat.le_of_ble_eq_true rfl) rfl dX8_decides_23 ?_
        refine rl_if_eq hG (tgt := 152) dX8_decides_26 (by decide) (fun c15 => ?_) (fun c15 => ?_)
        · have h := it_t h c15
          exact rl_lvs hG [0, 1, 2, 3, 4, 5, 6] rfl (H152 (fX8_decides_L11 u n) (ih) v1 v2 v3 v4 v5 v6 h)
        · have h := it_f h c15
          refine rl_aload_n hG dX8_decides_29 rfl 0 rfl ?_
          refine rl_iload hG dX8_decides_30 6 rfl ?_
          refine rl_iload_n hG dX8_decides_32 rfl 2 rfl ?_
          obtain ⟨x16, hx16q, zx16, h⟩ := oz_ok h
          refine rl_callVi hG ro_0_ok (As := [.int v6, .int v2]) (kX8_reaches l D a cI aS u v6 v2 x16  hx16q) gX8_decides_X8_reaches rfl 0 (gM_0 a cI u) hcX8 2 rfl (by decide +kernel) rfl rfl (by decide) (Nat.le_of_ble_eq_true rfl) rfl dX8_decides_33 ?_
          refine rl_if_eq hG (tgt := 152) dX8_decides_36 (by decide) (fun c17 => ?_) (fun c17 => ?_)
          · have h := it_t h c17
            exact rl_lvs hG [0, 1, 2, 3, 4, 5, 6] rfl (H152 (fX8_decides_L11 u n) (ih) v1 v2 v3 v4 v5 v6 h)
          · have h := it_f h c17
            refine rl_aload_n hG dX8_decides_39 rfl 0 rfl ?_
            refine rl_get hG iX8_decides_X8 0 (gM_0 a cI u) hcX8 2 (Nat.le_of_ble_eq_true rfl) nX8_decides_1 rfl dX8_decides_40 ?_
            refine rl_bipush hG (v := 7) dX8_decides_43 (by decide) ?_
            refine rl_iload hG dX8_decides_45 6 rfl ?_
            refine rl_imul hG dX8_decides_47 ?_
            obtain ⟨x18, ix18, ex18, h⟩ := ald_ok h
            refine rl_iald hG 2 0 (gM_2 a cI u) rfl ix18 ex18 dX8_decides_48 ?_
            refine rl_istore hG [(7, .int x18), (0, .ref (a 0)), (1, .int v1), (2, .int v2), (3, .int v3), (4, .int v4), (5, .int v5), (6, .int v6)] dX8_decides_49 (Nat.le_of_ble_eq_true rfl) rfl rfl ?_
            refine rl_aload_n hG dX8_decides_51 rfl 1 rfl ?_
            refine rl_get hG iX8_decides_X8 0 (gM_0 a cI u) hcX8 2 (Nat.le_of_ble_eq_true rfl) nX8_decides_1 rfl dX8_decides_52 ?_
            refine rl_bipush hG (v := 7) dX8_decides_55 (by decide) ?_
            refine rl_iload hG dX8_decides_57 7 rfl ?_
            refine rl_imul hG dX8_decides_59 ?_
            refine rl_iconst hG (v := 1) dX8_decides_60 (by decide) ?_
            refine rl_iadd hG dX8_decides_61 ?_
            obtain ⟨x19, ix19, ex19, h⟩ := ald_ok h
            refine rl_iald hG 2 0 (gM_2 a cI u) rfl ix19 ex19 dX8_decides_62 ?_
            refine rl_iload_n hG dX8_decides_63 rfl 2 rfl ?_
            refine rl_icmp_ne hG (tgt := 71) dX8_decides_64 (by decide) (fun c20 => ?_) (fun c20 => ?_)
            · have h := it_f h c20
              refine rl_iconst hG (v := 0) dX8_decides_71 (by decide) ?_
              exact rl_lvs hG [1, 2, 3, 4, 5, 6, 7, 0] rfl (H72 (fX8_decides_L11 u n) (ih) v1 v2 v3 v4 v5 v6 x18 (0 : Int32) h)
            · have h := it_t h c20
              refine rl_iconst hG (v := 1) dX8_decides_67 (by decide) ?_
              refine rl_goto hG (tgt := 72) dX8_decides_68 (by decide) ?_
              exact rl_lvs hG [1, 2, 3, 4, 5, 6, 7, 0] rfl (H72 (fX8_decides_L11 u n) (ih) v1 v2 v3 v4 v5 v6 x18 (1 : Int32) h)
  have h := h0
  rw [fX8_decides] at h
  show G u 0 [(0, .ref (a 0)), (1, .int p1), (2, .int p2)] []
  refine rl_iconst hG (v := -1) dX8_decides_0 (by decide) ?_
  refine rl_istore_n hG [(3, .int (-1 : Int32)), (0, .ref (a 0)), (1, .int p1), (2, .int p2)] dX8_decides_1 rfl (Nat.le_of_ble_eq_true rfl) rfl rfl ?_
  refine rl_iconst hG (v := -1) dX8_decides_2 (by decide) ?_
  refine rl_istore hG [(4, .int (-1 : Int32)), (3, .int (-1 : Int32)), (0, .ref (a 0)), (1, .int p1), (2, .int p2)] dX8_decides_3 (Nat.le_of_ble_eq_true rfl) rfl rfl ?_
  refine rl_iconst hG (v := -1) dX8_decides_5 (by decide) ?_
  refine rl_istore hG [(5, .int (-1 : Int32)), (4, .int (-1 : Int32)), (3, .int (-1 : Int32)), (0, .ref (a 0)), (1, .int p1), (2, .int p2)] dX8_decides_6 (Nat.le_of_ble_eq_true rfl) rfl rfl ?_
  refine rl_iconst hG (v := 0) dX8_decides_8 (by decide) ?_
  refine rl_istore hG [(6, .int (0 : Int32)), (5, .int (-1 : Int32)), (4, .int (-1 : Int32)), (3, .int (-1 : Int32)), (0, .ref (a 0)), (1, .int p1), (2, .int p2)] dX8_decides_9 (Nat.le_of_ble_eq_true rfl) rfl rfl ?_
  exact rl_lvs hG [4, 5, 6, 3, 2, 1, 0] rfl (H11 2000 p1 p2 (-1 : Int32) (-1 : Int32) (-1 : Int32) (0 : Int32) h)
def fX8_code (u : St)  (p1 : Int32) (p2 : Int32) : Option (Int32) := o1 (fX8_decides u p1 p2) (fun x1 => (if x1 = (-1 : Int32) then some (0 : Int32) else ald u 2 140 (((7 : Int32) * x1) + (1 : Int32)) (fun x3 => (if x3 = p1 then ald u 2 140 ((7 : Int32) * x1) (fun x5 => (if x5 = (1 : Int32) then some (0 : Int32) else ald u 2 140 ((7 : Int32) * x1) (fun x7 => (if x7 = (3 : Int32) then ald u 2 140 (((7 : Int32) * x1) + (2 : Int32)) (fun x9 => some ((2 : Int32) + x9)) else some (1 : Int32))))) else some (0 : Int32)))))
theorem nX8_code_0 : Cond.fieldLink RX8 13 "WhoseWorkModel" "bounds" "[I" ∈ wsX8_code := by decide +kernel
theorem iX8_code_X8 : ∀ w ∈ wsX80, w ∈ wsX8_code := by decide +kernel
set_option maxRecDepth 100000 in
set_option maxHeartbeats 4000000 in
theorem kX8_code (l : Launch) (D : va_G) (a : Nat → Nat) (cI : ClassId) (aS : Nat → Prop) (u : St)  (p1 : Int32) (p2 : Int32) (r : Int32)  (h0 : fX8_code u p1 p2 = some r) : rl_Mi l yX8_code wsX8_code ({ frames := 2, cells := 0, slots := 0, locals := 53 } : Room) D (tyM cI) (wM a cI) ro_0 aS [.ref (a 0), .int p1, .int p2] u r u := by
  refine rl_meth_i (cc := cX8_code) (maxL := 4) (own := RX8) (ty := .int) (by decide) rfl rfl (Nat.le_of_ble_eq_true rfl) ?_
  intro G hG hret
  have h := h0
  rw [fX8_code] at h
  show G u 0 [(0, .ref (a 0)), (1, .int p1), (2, .int p2)] []
  refine rl_aload_n hG dX8_code_0 rfl 0 rfl ?_
  refine rl_iload_n hG dX8_code_1 rfl 1 rfl ?_
  refine rl_iload_n hG dX8_code_2 rfl 2 rfl ?_
  obtain ⟨x1, hx1q, h⟩ := o1_ok h
  refine rl_callVi hG ro_0_ok (As := [.int p1, .int p2]) (kX8_decides l D a cI aS u p1 p2 x1  hx1q) gX8_code_X8_decides rfl 0 (gM_0 a cI u) hcX8 2 rfl (by decide +kernel) rfl rfl (by decide) (Nat.le_of_ble_eq_true rfl) rfl dX8_code_3 ?_
  refine rl_istore_n hG [(3, .int x1), (0, .ref (a 0)), (1, .int p1), (2, .int p2)] dX8_code_6 rfl (Nat.le_of_ble_eq_true rfl) rfl rfl ?_
  refine rl_iload_n hG dX8_code_7 rfl 0 rfl ?_
  refine rl_iconst hG (v := -1) dX8_code_8 (by decide) ?_
  refine rl_icmp_eq hG (tgt := 40) dX8_code_9 (by decide) (fun c2 => ?_) (fun c2 => ?_)
  · have h := it_t h c2
    refine rl_iconst hG (v := 0) dX8_code_40 (by decide) ?_
    exact rl_ret1 hret h rfl dX8_code_41
  · have h := it_f h c2
    refine rl_aload_n hG dX8_code_12 rfl 1 rfl ?_
    refine rl_get hG iX8_code_X8 0 (gM_0 a cI u) hcX8 2 (Nat.le_of_ble_eq_true rfl) nX8_code_0 rfl dX8_code_13 ?_
    refine rl_bipush hG (v := 7) dX8_code_16 (by decide) ?_
    refine rl_iload_n hG dX8_code_18 rfl 0 rfl ?_
    refine rl_imul hG dX8_code_19 ?_
    refine rl_iconst hG (v := 1) dX8_code_20 (by decide) ?_
    refine rl_iadd hG dX8_code_21 ?_
    obtain ⟨x3, ix3, ex3, h⟩ := ald_ok h
    refine rl_iald hG 2 0 (gM_2 a cI u) rfl ix3 ex3 dX8_code_22 ?_
    refine rl_iload_n hG dX8_code_23 rfl 2 rfl ?_
    refine rl_icmp_ne hG (tgt := 40) dX8_code_24 (by decide) (fun c4 => ?_) (fun c4 => ?_)
    · have h := it_f h c4
      refine rl_iconst hG (v := 0) dX8_code_40 (by decide) ?_
      exact rl_ret1 hret h rfl dX8_code_41
    · have h := it_t h c4
      refine rl_aload_n hG dX8_code_27 rfl 1 rfl ?_
      refine rl_get hG iX8_code_X8 0 (gM_0 a cI u) hcX8 2 (Nat.le_of_ble_eq_true rfl) nX8_code_0 rfl dX8_code_28 ?_
      refine rl_bipush hG (v := 7) dX8_code_31 (by decide) ?_
      refine rl_iload_n hG dX8_code_33 rfl 0 rfl ?_
      refine rl_imul hG dX8_code_34 ?_
      obtain ⟨x5, ix5, ex5, h⟩ := ald_ok h
      refine rl_iald hG 2 0 (gM_2 a cI u) rfl ix5 ex5 dX8_code_35 ?_
      refine rl_iconst hG (v := 1) dX8_code_36 (by decide) ?_
      refine rl_icmp_ne hG (tgt := 42) dX8_code_37 (by decide) (fun c6 => ?_) (fun c6 => ?_)
      · have h := it_f h c6
        refine rl_aload_n hG dX8_code_42 rfl 1 rfl ?_
        refine rl_get hG iX8_code_X8 0 (gM_0 a cI u) hcX8 2 (Nat.le_of_ble_eq_true rfl) nX8_code_0 rfl dX8_code_43 ?_
        refine rl_bipush hG (v := 7) dX8_code_46 (by decide) ?_
        refine rl_iload_n hG dX8_code_48 rfl 0 rfl ?_
        refine rl_imul hG dX8_code_49 ?_
        obtain ⟨x7, ix7, ex7, h⟩ := ald_ok h
        refine rl_iald hG 2 0 (gM_2 a cI u) rfl ix7 ex7 dX8_code_50 ?_
        refine rl_iconst hG (v := 3) dX8_code_51 (by decide) ?_
        refine rl_icmp_ne hG (tgt := 71) dX8_code_52 (by decide) (fun c8 => ?_) (fun c8 => ?_)
        · have h := it_f h c8
          refine rl_iconst hG (v := 1) dX8_code_71 (by decide) ?_
          exact rl_ret1 hret h rfl dX8_code_72
        · have h := it_t h c8
          refine rl_iconst hG (v := 2) dX8_code_55 (by decide) ?_
          refine rl_aload_n hG dX8_code_56 rfl 1 rfl ?_
          refine rl_get hG iX8_code_X8 0 (gM_0 a cI u) hcX8 2 (Nat.le_of_ble_eq_true rfl) nX8_code_0 rfl dX8_code_57 ?_
          refine rl_bipush hG (v := 7) dX8_code_60 (by decide) ?_
          refine rl_iload_n hG dX8_code_62 rfl 0 rfl ?_
          refine rl_imul hG dX8_code_63 ?_
          refine rl_iconst hG (v := 2) dX8_code_64 (by decide) ?_
          refine rl_iadd hG dX8_code_65 ?_
          obtain ⟨x9, ix9, ex9, h⟩ := ald_ok h
          refine rl_iald hG 2 0 (gM_2 a cI u) rfl ix9 ex9 dX8_code_66 ?_
          refine rl_iadd hG dX8_code_67 ?_
          refine rl_goto hG (tgt := 72) dX8_code_68 (by decide) ?_
          exact rl_ret1 hret h rfl dX8_code_72
      · have h := it_t h c6
        refine rl_iconst hG (v := 0) dX8_code_40 (by decide) ?_
        exact rl_ret1 hret h rfl dX8_code_41
def fX8_allThere (u : St)   : Option (St) := bd (st_wr u 0 21 (0 : Int32)) (fun u1 => bd (st_wr u1 0 22 (u1 0 3)) (fun u2 => some u2))
theorem nX8_allThere_0 : Cond.fieldLink RX8 130 "WhoseWorkModel" "out" "I" ∈ wsX8_allThere := by decide +kernel
theorem nX8_allThere_1 : Cond.fieldLink RX8 119 "WhoseWorkModel" "boundMany" "I" ∈ wsX8_allThere := by decide +kernel
theorem nX8_allThere_2 : Cond.fieldLink RX8 127 "WhoseWorkModel" "upTo" "I" ∈ wsX8_allThere := by decide +kernel
theorem iX8_allThere_X8 : ∀ w ∈ wsX80, w ∈ wsX8_allThere := by decide +kernel
set_option maxRecDepth 100000 in
set_option maxHeartbeats 4000000 in
theorem kX8_allThere (l : Launch) (D : va_G) (a : Nat → Nat) (cI : ClassId) (aS : Nat → Prop) (u : St)   (τ : St)  (h0 : fX8_allThere u = some τ) : rl_Mv l yX8_allThere wsX8_allThere ({ frames := 0, cells := 0, slots := 0, locals := 0 } : Room) D (tyM cI) (wM a cI) ro_0 aS [.ref (a 0)] u τ := by
  refine rl_meth_v (cc := cX8_allThere) (maxL := 1) (own := RX8) (by decide) rfl rfl (Nat.le_of_ble_eq_true rfl) ?_
  intro G hG hret
  have h := h0
  rw [fX8_allThere] at h
  show G u 0 [(0, .ref (a 0))] []
  refine rl_aload_n hG dX8_allThere_0 rfl 0 rfl ?_
  refine rl_iconst hG (v := 0) dX8_allThere_1 (by decide) ?_
  obtain ⟨u1, eu1, h⟩ := bd_ok h
  refine rl_put hG iX8_allThere_X8 tyX8 tyX8_ok nmX8 0 (gM_0 a cI u) hcX8 21 (Nat.le_of_ble_eq_true rfl) nX8_allThere_0 rfl rfl (Nat.le_of_ble_eq_true rfl) (σ' := u1) ((sM_0_21 a cI u _).trans (congrArg _ eu1.symm)) dX8_allThere_2 ?_
  refine rl_aload_n hG dX8_allThere_5 rfl 0 rfl ?_
  refine rl_aload_n hG dX8_allThere_6 rfl 0 rfl ?_
  refine rl_get hG iX8_allThere_X8 0 (gM_0 a cI u1) hcX8 3 (Nat.le_of_ble_eq_true rfl) nX8_allThere_1 rfl dX8_allThere_7 ?_
  obtain ⟨u2, eu2, h⟩ := bd_ok h
  refine rl_put hG iX8_allThere_X8 tyX8 tyX8_ok nmX8 0 (gM_0 a cI u1) hcX8 22 (Nat.le_of_ble_eq_true rfl) nX8_allThere_2 rfl rfl (Nat.le_of_ble_eq_true rfl) (σ' := u2) ((sM_0_22 a cI u1 _).trans (congrArg _ eu2.symm)) dX8_allThere_10 ?_
  exact rl_retv hret h dX8_allThere_13
def fX8_may (u : St)  (p1 : Int32) (p2 : Int32) : Option (Int32 × St) := oz (fX8_isGuild p1) (fun x1 => (if x1 = (0 : Int32) then some ((-2 : Int32), u) else oz (fX8_isWork p2) (fun x3 => (if x3 = (0 : Int32) then some ((-2 : Int32), u) else o1 (fX8_allThere u) (fun u5 => o1 (fX8_code u5 p1 p2) (fun x6 => some (x6, u5)))))))
set_option maxRecDepth 100000 in
set_option maxHeartbeats 4000000 in
theorem kX8_may (l : Launch) (D : va_G) (a : Nat → Nat) (cI : ClassId) (aS : Nat → Prop) (u : St)  (p1 : Int32) (p2 : Int32) (r : Int32) (τ : St)  (h0 : fX8_may u p1 p2 = some (r, τ)) : rl_Mi l yX8_may wsX8_may ({ frames := 3, cells := 0, slots := 0, locals := 76 } : Room) D (tyM cI) (wM a cI) ro_0 aS [.ref (a 0), .int p1, .int p2] u r τ := by
  refine rl_meth_i (cc := cX8_may) (maxL := 3) (own := RX8) (ty := .int) (by decide) rfl rfl (Nat.le_of_ble_eq_true rfl) ?_
  intro G hG hret
  have h := h0
  rw [fX8_may] at h
  show G u 0 [(0, .ref (a 0)), (1, .int p1), (2, .int p2)] []
  refine rl_iload_n hG dX8_may_0 rfl 1 rfl ?_
  obtain ⟨x1, hx1q, zx1, h⟩ := oz_ok h
  refine rl_callZi hG (As := [.int p1]) (kX8_isGuild l D u p1 x1 hx1q) gX8_may_X8_isGuild rfl 1 rfl (by decide +kernel) rfl rfl (by decide) (Nat.le_of_ble_eq_true rfl) rfl dX8_may_1 ?_
  refine rl_if_eq hG (tgt := 14) dX8_may_4 (by decide) (fun c2 => ?_) (fun c2 => ?_)
  · have h := it_t h c2
    refine rl_bipush hG (v := -2) dX8_may_14 (by decide) ?_
    exact rl_ret2 hret h rfl dX8_may_16
  · have h := it_f h c2
    refine rl_iload_n hG dX8_may_7 rfl 2 rfl ?_
    obtain ⟨x3, hx3q, zx3, h⟩ := oz_ok h
    refine rl_callZi hG (As := [.int p2]) (kX8_isWork l D u p2 x3 hx3q) gX8_may_X8_isWork rfl 1 rfl (by decide +kernel) rfl rfl (by decide) (Nat.le_of_ble_eq_true rfl) rfl dX8_may_8 ?_
    refine rl_if_ne hG (tgt := 17) dX8_may_11 (by decide) (fun c4 => ?_) (fun c4 => ?_)
    · have h := it_f h c4
      refine rl_aload_n hG dX8_may_17 rfl 0 rfl ?_
      obtain ⟨u5, hu5q, h⟩ := o1_ok h
      refine rl_callVv hG ro_0_ok (As := []) (kX8_allThere l D a cI aS u  u5  hu5q) gX8_may_X8_allThere rfl 0 (gM_0 a cI u) hcX8 0 rfl (by decide +kernel) rfl rfl (by decide) (Nat.le_of_ble_eq_true rfl) rfl dX8_may_18 ?_
      refine rl_aload_n hG dX8_may_21 rfl 0 rfl ?_
      refine rl_iload_n hG dX8_may_22 rfl 1 rfl ?_
      refine rl_iload_n hG dX8_may_23 rfl 2 rfl ?_
      obtain ⟨x6, hx6q, h⟩ := o1_ok h
      refine rl_callVi hG ro_0_ok (As := [.int p1, .int p2]) (kX8_code l D a cI aS u5 p1 p2 x6  hx6q) gX8_may_X8_code rfl 0 (gM_0 a cI u5) hcX8 2 rfl (by decide +kernel) rfl rfl (by decide) (Nat.le_of_ble_eq_true rfl) rfl dX8_may_24 ?_
      exact rl_ret2 hret h rfl dX8_may_27
    · have h := it_t h c4
      refine rl_bipush hG (v := -2) dX8_may_14 (by decide) ?_
      exact rl_ret2 hret h rfl dX8_may_16
def fX8_why (u : St)  (p1 : Int32) (p2 : Int32) : Option (Int32 × St) := oz (fX8_isGuild p1) (fun x1 => (if x1 = (0 : Int32) then some ((-2 : Int32), u) else oz (fX8_isWork p2) (fun x3 => (if x3 = (0 : Int32) then some ((-2 : Int32), u) else o1 (fX8_allThere u) (fun u5 => o1 (fX8_decides u5 p1 p2) (fun x6 => some (x6, u5)))))))
set_option maxRecDepth 100000 in
set_option maxHeartbeats 4000000 in
theorem kX8_why (l : Launch) (D : va_G) (a : Nat → Nat) (cI : ClassId) (aS : Nat → Prop) (u : St)  (p1 : Int32) (p2 : Int32) (r : Int32) (τ : St)  (h0 : fX8_why u p1 p2 = some (r, τ)) : rl_Mi l yX8_why wsX8_why ({ frames := 2, cells := 0, slots := 0, locals := 53 } : Room) D (tyM cI) (wM a cI) ro_0 aS [.ref (a 0), .int p1, .int p2] u r τ := by
  refine rl_meth_i (cc := cX8_why) (maxL := 3) (own := RX8) (ty := .int) (by decide) rfl rfl (Nat.le_of_ble_eq_true rfl) ?_
  intro G hG hret
  have h := h0
  rw [fX8_why] at h
  show G u 0 [(0, .ref (a 0)), (1, .int p1), (2, .int p2)] []
  refine rl_iload_n hG dX8_why_0 rfl 1 rfl ?_
  obtain ⟨x1, hx1q, zx1, h⟩ := oz_ok h
  refine rl_callZi hG (As := [.int p1]) (kX8_isGuild l D u p1 x1 hx1q) gX8_why_X8_isGuild rfl 1 rfl (by decide +kernel) rfl rfl (by decide) (Nat.le_of_ble_eq_true rfl) rfl dX8_why_1 ?_
  refine rl_if_eq hG (tgt := 14) dX8_why_4 (by decide) (fun c2 => ?_) (fun c2 => ?_)
  · have h := it_t h c2
    refine rl_bipush hG (v := -2) dX8_why_14 (by decide) ?_
    exact rl_ret2 hret h rfl dX8_why_16
  · have h := it_f h c2
    refine rl_iload_n hG dX8_why_7 rfl 2 rfl ?_
    obtain ⟨x3, hx3q, zx3, h⟩ := oz_ok h
    refine rl_callZi hG (As := [.int p2]) (kX8_isWork l D u p2 x3 hx3q) gX8_why_X8_isWork rfl 1 rfl (by decide +kernel) rfl rfl (by decide) (Nat.le_of_ble_eq_true rfl) rfl dX8_why_8 ?_
    refine rl_if_ne hG (tgt := 17) dX8_why_11 (by decide) (fun c4 => ?_) (fun c4 => ?_)
    · have h := it_f h c4
      refine rl_aload_n hG dX8_why_17 rfl 0 rfl ?_
      obtain ⟨u5, hu5q, h⟩ := o1_ok h
      refine rl_callVv hG ro_0_ok (As := []) (kX8_allThere l D a cI aS u  u5  hu5q) gX8_why_X8_allThere rfl 0 (gM_0 a cI u) hcX8 0 rfl (by decide +kernel) rfl rfl (by decide) (Nat.le_of_ble_eq_true rfl) rfl dX8_why_18 ?_
      refine rl_aload_n hG dX8_why_21 rfl 0 rfl ?_
      refine rl_iload_n hG dX8_why_22 rfl 1 rfl ?_
      refine rl_iload_n hG dX8_why_23 rfl 2 rfl ?_
      obtain ⟨x6, hx6q, h⟩ := o1_ok h
      refine rl_callVi hG ro_0_ok (As := [.int p1, .int p2]) (kX8_decides l D a cI aS u5 p1 p2 x6  hx6q) gX8_why_X8_decides rfl 0 (gM_0 a cI u5) hcX8 2 rfl (by decide +kernel) rfl rfl (by decide) (Nat.le_of_ble_eq_true rfl) rfl dX8_why_24 ?_
      exact rl_ret2 hret h rfl dX8_why_27
    · have h := it_t h c4
      refine rl_bipush hG (v := -2) dX8_why_14 (by decide) ?_
      exact rl_ret2 hret h rfl dX8_why_16
def fX8_whoMay_L27 (u : St) (k4 : Int32 → Int32 → Int32 → Option (Int32)) (v1 : Int32) (v3 : Int32) (w0 : Int32) (w1 : Int32) : Option (Int32) := bd (w1 ||| w0) (fun x1 => bd (v3 + (1 : Int32)) (fun x2 => k4 v1 x1 x2))
def fX8_whoMay_L4 (u : St)  : Nat → Int32 → Int32 → Int32 → Option (Int32)
  | 0 => fun _ _ _ => none
  | n + 1 => fun v1 v2 v3 => (if (6 : Int32) ≤ v3 then some v2 else o1 (fX8_code u v3 v1) (fun x4 => (if x4 ≤ (0 : Int32) then fX8_whoMay_L27 u (fX8_whoMay_L4 u n) v1 v3 (0 : Int32) v2 else fX8_whoMay_L27 u (fX8_whoMay_L4 u n) v1 v3 ((1 : Int32) <<< (v3 &&& 31)) v2)))
def fX8_whoMay (u : St)  (p1 : Int32) : Option (Int32) := fX8_whoMay_L4 u 2000 p1 (0 : Int32) (0 : Int32)
set_option maxRecDepth 100000 in
set_option maxHeartbeats 4000000 in
theorem kX8_whoMay (l : Launch) (D : va_G) (a : Nat → Nat) (cI : ClassId) (aS : Nat → Prop) (u : St)  (p1 : Int32) (r : Int32)  (h0 : fX8_whoMay u p1 = some r) : rl_Mi l yX8_whoMay wsX8_whoMay ({ frames := 3, cells := 0, slots := 0, locals := 76 } : Room) D (tyM cI) (wM a cI) ro_0 aS [.ref (a 0), .int p1] u r u := by
  refine rl_meth_i (cc := cX8_whoMay) (maxL := 4) (own := RX8) (ty := .int) (by decide) rfl rfl (Nat.le_of_ble_eq_true rfl) ?_
  intro G hG hret
  have H27 : ∀ (k4 : Int32 → Int32 → Int32 → Option (Int32)) (hk4 : ∀ (v1 : Int32) (v2 : Int32) (v3 : Int32), k4 v1 v2 v3 = some r → G u 4 [(0, .ref (a 0)), (1, .int v1), (2, .int v2), (3, .int v3)] []), ∀ (v1 : Int32) (v3 : Int32) (w0 : Int32) (w1 : Int32), fX8_whoMay_L27 u k4 v1 v3 w0 w1 = some r → G u 27 [(0, .ref (a 0)), (1, .int v1), (3, .int v3)] [.int w0, .int w1] := by
    intro k4 hk4 v1 v3 w0 w1 h
    rw [fX8_whoMay_L27] at h
    refine rl_ior hG dX8_whoMay_27 ?_
    obtain ⟨x1, ex1, h⟩ := bd_ok h
    refine rl_istore_n hG [(2, .int x1), (0, .ref (a 0)), (1, .int v1), (3, .int v3)] dX8_whoMay_28 rfl (Nat.le_of_ble_eq_true rfl) ex1 rfl ?_
    obtain ⟨x2, ex2, h⟩ := bd_ok h
    refine rl_iinc hG [(3, .int x2), (2, .int x1), (0, .ref (a 0)), (1, .int v1)] dX8_whoMay_29 3 rfl (by rw [ex2]; rfl) (Nat.le_of_ble_eq_true rfl) rfl ?_
    refine rl_goto hG (tgt := 4) dX8_whoMay_32 (by decide) ?_
    exact rl_lvs hG [2, 3, 1, 0] rfl (hk4 v1 x1 x2 h)
  have H4 : ∀ (n : Nat) (v1 : Int32) (v2 : Int32) (v3 : Int32), fX8_whoMay_L4 u n v1 v2 v3 = some r → G u 4 [(0, .ref (a 0)), (1, .int v1), (2, .int v2), (3, .int v3)] [] := by
    intro n
    induction n with
    | zero =>
      intro v1 v2 v3 h
      exact absurd h (by rw [fX8_whoMay_L4]; exact fun q => by cases q)
    | succ n ih =>
      intro v1 v2 v3 h
      rw [fX8_whoMay_L4] at h
      refine rl_iload_n hG dX8_whoMay_4 rfl 3 rfl ?_
      refine rl_bipush hG (v := 6) dX8_whoMay_5 (by decide) ?_
      refine rl_icmp_ge hG (tgt := 35) dX8_whoMay_7 (by decide) (fun c3 => ?_) (fun c3 => ?_)
      · have h := it_t h c3
        refine rl_iload_n hG dX8_whoMay_35 rfl 2 rfl ?_
        exact rl_ret1 hret h rfl dX8_whoMay_36
      · have h := it_f h c3
        refine rl_iload_n hG dX8_whoMay_10 rfl 2 rfl ?_
        refine rl_aload_n hG dX8_whoMay_11 rfl 0 rfl ?_
        refine rl_iload_n hG dX8_whoMay_12 rfl 3 rfl ?_
        refine rl_iload_n hG dX8_whoMay_13 rfl 1 rfl ?_
        obtain ⟨x4, hx4q, h⟩ := o1_ok h
        refine rl_callVi hG ro_0_ok (As := [.int v3, .int v1]) (kX8_code l D a cI aS u v3 v1 x4  hx4q) gX8_whoMay_X8_code rfl 0 (gM_0 a cI u) hcX8 2 rfl (by decide +kernel) rfl rfl (by decide) (Nat.le_of_ble_eq_true rfl) rfl dX8_whoMay_14 ?_
        refine rl_if_le hG (tgt := 26) dX8_whoMay_17 (by decide) (fun c5 => ?_) (fun c5 => ?_)
        · have h := it_t h c5
          refine rl_iconst hG (v := 0) dX8_whoMay_26 (by decide) ?_
          exact rl_lvs hG [0, 1, 3] rfl (H27 (fX8_whoMay_L4 u n) (ih) v1 v3 (0 : Int32) v2 h)
        · have h := it_f h c5
          refine rl_iconst hG (v := 1) dX8_whoMay_20 (by decide) ?_
          refine rl_iload_n hG dX8_whoMay_21 rfl 3 rfl ?_
          refine rl_ishl hG dX8_whoMay_22 ?_
          refine rl_goto hG (tgt := 27) dX8_whoMay_23 (by decide) ?_
          exact rl_lvs hG [0, 1, 3] rfl (H27 (fX8_whoMay_L4 u n) (ih) v1 v3 ((1 : Int32) <<< (v3 &&& 31)) v2 h)
  have h := h0
  rw [fX8_whoMay] at h
  show G u 0 [(0, .ref (a 0)), (1, .int p1)] []
  refine rl_iconst hG (v := 0) dX8_whoMay_0 (by decide) ?_
  refine rl_istore_n hG [(2, .int (0 : Int32)), (0, .ref (a 0)), (1, .int p1)] dX8_whoMay_1 rfl (Nat.le_of_ble_eq_true rfl) rfl rfl ?_
  refine rl_iconst hG (v := 0) dX8_whoMay_2 (by decide) ?_
  refine rl_istore_n hG [(3, .int (0 : Int32)), (2, .int (0 : Int32)), (0, .ref (a 0)), (1, .int p1)] dX8_whoMay_3 rfl (Nat.le_of_ble_eq_true rfl) rfl rfl ?_
  exact rl_lvs hG [2, 3, 1, 0] rfl (H4 2000 p1 (0 : Int32) (0 : Int32) h)
def fX8_who (u : St)  (p1 : Int32) : Option (Int32 × St) := oz (fX8_isWork p1) (fun x1 => (if x1 = (0 : Int32) then some ((-2 : Int32), u) else o1 (fX8_allThere u) (fun u3 => o1 (fX8_whoMay u3 p1) (fun x4 => some (x4, u3)))))
set_option maxRecDepth 100000 in
set_option maxHeartbeats 4000000 in
theorem kX8_who (l : Launch) (D : va_G) (a : Nat → Nat) (cI : ClassId) (aS : Nat → Prop) (u : St)  (p1 : Int32) (r : Int32) (τ : St)  (h0 : fX8_who u p1 = some (r, τ)) : rl_Mi l yX8_who wsX8_who ({ frames := 4, cells := 0, slots := 0, locals := 99 } : Room) D (tyM cI) (wM a cI) ro_0 aS [.ref (a 0), .int p1] u r τ := by
  refine rl_meth_i (cc := cX8_who) (maxL := 2) (own := RX8) (ty := .int) (by decide) rfl rfl (Nat.le_of_ble_eq_true rfl) ?_
  intro G hG hret
  have h := h0
  rw [fX8_who] at h
  show G u 0 [(0, .ref (a 0)), (1, .int p1)] []
  refine rl_iload_n hG dX8_who_0 rfl 1 rfl ?_
  obtain ⟨x1, hx1q, zx1, h⟩ := oz_ok h
  refine rl_callZi hG (As := [.int p1]) (kX8_isWork l D u p1 x1 hx1q) gX8_who_X8_isWork rfl 1 rfl (by decide +kernel) rfl rfl (by decide) (Nat.le_of_ble_eq_true rfl) rfl dX8_who_1 ?_
  refine rl_if_ne hG (tgt := 10) dX8_who_4 (by decide) (fun c2 => ?_) (fun c2 => ?_)
  · have h := it_f h c2
    refine rl_aload_n hG dX8_who_10 rfl 0 rfl ?_
    obtain ⟨u3, hu3q, h⟩ := o1_ok h
    refine rl_callVv hG ro_0_ok (As := []) (kX8_allThere l D a cI aS u  u3  hu3q) gX8_who_X8_allThere rfl 0 (gM_0 a cI u) hcX8 0 rfl (by decide +kernel) rfl rfl (by decide) (Nat.le_of_ble_eq_true rfl) rfl dX8_who_11 ?_
    refine rl_aload_n hG dX8_who_14 rfl 0 rfl ?_
    refine rl_iload_n hG dX8_who_15 rfl 1 rfl ?_
    obtain ⟨x4, hx4q, h⟩ := o1_ok h
    refine rl_callVi hG ro_0_ok (As := [.int p1]) (kX8_whoMay l D a cI aS u3 p1 x4  hx4q) gX8_who_X8_whoMay rfl 0 (gM_0 a cI u3) hcX8 1 rfl (by decide +kernel) rfl rfl (by decide) (Nat.le_of_ble_eq_true rfl) rfl dX8_who_16 ?_
    exact rl_ret2 hret h rfl dX8_who_19
  · have h := it_t h c2
    refine rl_bipush hG (v := -2) dX8_who_7 (by decide) ?_
    exact rl_ret2 hret h rfl dX8_who_9
def fX8_claimants_L52 (u : St) (k4 : Int32 → Int32 → Int32 → Option (Int32)) (v1 : Int32) (v3 : Int32) (w0 : Int32) (w1 : Int32) : Option (Int32) := bd (w1 ||| w0) (fun x1 => bd (v3 + (1 : Int32)) (fun x2 => k4 v1 x1 x2))
def fX8_claimants_L51 (u : St) (k4 : Int32 → Int32 → Int32 → Option (Int32)) (v1 : Int32) (v3 : Int32) (w0 : Int32) : Option (Int32) := fX8_claimants_L52 u k4 v1 v3 (0 : Int32) w0
def fX8_claimants_L60 (u : St)  (v2 : Int32) : Option (Int32) := o1 (fX8_many v2) (fun x3 => some x3)
def fX8_claimants_L4 (u : St)  : Nat → Int32 → Int32 → Int32 → Option (Int32)
  | 0 => fun _ _ _ => none
  | n + 1 => fun v1 v2 v3 => (if (u 0 3) ≤ v3 then fX8_claimants_L60 u v2 else ald u 2 140 ((7 : Int32) * v3) (fun x5 => (if x5 = (2 : Int32) then oz (fX8_reaches u v3 v1) (fun x7 => (if x7 = (0 : Int32) then fX8_claimants_L51 u (fX8_claimants_L4 u n) v1 v3 v2 else ald u 2 140 (((7 : Int32) * v3) + (1 : Int32)) (fun x9 => fX8_claimants_L52 u (fX8_claimants_L4 u n) v1 v3 ((1 : Int32) <<< (x9 &&& 31)) v2))) else fX8_claimants_L51 u (fX8_claimants_L4 u n) v1 v3 v2)))
def fX8_claimants (u : St)  (p1 : Int32) : Option (Int32) := fX8_claimants_L4 u 2000 p1 (0 : Int32) (0 : Int32)
theorem nX8_claimants_0 : Cond.fieldLink RX8 119 "WhoseWorkModel" "boundMany" "I" ∈ wsX8_claimants := by decide +kernel
theorem nX8_claimants_1 : Cond.fieldLink RX8 13 "WhoseWorkModel" "bounds" "[I" ∈ wsX8_claimants := by decide +kernel
theorem iX8_claimants_X8 : ∀ w ∈ wsX80, w ∈ wsX8_claimants := by decide +kernel
set_option maxRecDepth 100000 in
set_option maxHeartbeats 4000000 in
theorem kX8_claimants (l : Launch) (D : va_G) (a : Nat → Nat) (cI : ClassId) (aS : Nat → Prop) (u : St)  (p1 : Int32) (r : Int32)  (h0 : fX8_claimants u p1 = some r) : rl_Mi l yX8_claimants wsX8_claimants ({ frames := 1, cells := 0, slots := 0, locals := 25 } : Room) D (tyM cI) (wM a cI) ro_0 aS [.ref (a 0), .int p1] u r u := by
  refine rl_meth_i (cc := cX8_claimants) (maxL := 4) (own := RX8) (ty := .int) (by decide) rfl rfl (Nat.le_of_ble_eq_true rfl) ?_
  intro G hG hret
  have H52 : ∀ (k4 : Int32 → Int32 → Int32 → Option (Int32)) (hk4 : ∀ (v1 : Int32) (v2 : Int32) (v3 : Int32), k4 v1 v2 v3 = some r → G u 4 [(0, .ref (a 0)), (1, .int v1), (2, .int v2), (3, .int v3)] []), ∀ (v1 : Int32) (v3 : Int32) (w0 : Int32) (w1 : Int32), fX8_claimants_L52 u k4 v1 v3 w0 w1 = some r → G u 52 [(0, .ref (a 0)), (1, .int v1), (3, .int v3)] [.int w0, .int w1] := by
    intro k4 hk4 v1 v3 w0 w1 h
    rw [fX8_claimants_L52] at h
    refine rl_ior hG dX8_claimants_52 ?_
    obtain ⟨x1, ex1, h⟩ := bd_ok h
    refine rl_istore_n hG [(2, .int x1), (0, .ref (a 0)), (1, .int v1), (3, .int v3)] dX8_claimants_53 rfl (Nat.le_of_ble_eq_true rfl) ex1 rfl ?_
    obtain ⟨x2, ex2, h⟩ := bd_ok h
    refine rl_iinc hG [(3, .int x2), (2, .int x1), (0, .ref (a 0)), (1, .int v1)] dX8_claimants_54 3 rfl (by rw [ex2]; rfl) (Nat.le_of_ble_eq_true rfl) rfl ?_
    refine rl_goto hG (tgt := 4) dX8_claimants_57 (by decide) ?_
    exact rl_lvs hG [2, 3, 1, 0] rfl (hk4 v1 x1 x2 h)
  have H51 : ∀ (k4 : Int32 → Int32 → Int32 → Option (Int32)) (hk4 : ∀ (v1 : Int32) (v2 : Int32) (v3 : Int32), k4 v1 v2 v3 = some r → G u 4 [(0, .ref (a 0)), (1, .int v1), (2, .int v2), (3, .int v3)] []), ∀ (v1 : Int32) (v3 : Int32) (w0 : Int32), fX8_claimants_L51 u k4 v1 v3 w0 = some r → G u 51 [(0, .ref (a 0)), (1, .int v1), (3, .int v3)] [.int w0] := by
    intro k4 hk4 v1 v3 w0 h
    rw [fX8_claimants_L51] at h
    refine rl_iconst hG (v := 0) dX8_claimants_51 (by decide) ?_
    exact rl_lvs hG [0, 1, 2] rfl (H52 (k4) (hk4) v1 v3 (0 : Int32) w0 h)
  have H60 : ∀ (v2 : Int32), fX8_claimants_L60 u v2 = some r → G u 60 [(2, .int v2)] [] := by
    intro  v2 h
    rw [fX8_claimants_L60] at h
    refine rl_iload_n hG dX8_claimants_60 rfl 0 rfl ?_
    obtain ⟨x3, hx3q, h⟩ := o1_ok h
    refine rl_callZi hG (As := [.int v2]) (kX8_many l D u v2 x3 hx3q) gX8_claimants_X8_many rfl 1 rfl (by decide +kernel) rfl rfl (by decide) (Nat.le_of_ble_eq_true rfl) rfl dX8_claimants_61 ?_
    exact rl_ret1 hret h rfl dX8_claimants_64
  have H4 : ∀ (n : Nat) (v1 : Int32) (v2 : Int32) (v3 : Int32), fX8_claimants_L4 u n v1 v2 v3 = some r → G u 4 [(0, .ref (a 0)), (1, .int v1), (2, .int v2), (3, .int v3)] [] := by
    intro n
    induction n with
    | zero =>
      intro v1 v2 v3 h
      exact absurd h (by rw [fX8_claimants_L4]; exact fun q => by cases q)
    | succ n ih =>
      intro v1 v2 v3 h
      rw [fX8_claimants_L4] at h
      refine rl_iload_n hG dX8_claimants_4 rfl 3 rfl ?_
      refine rl_aload_n hG dX8_claimants_5 rfl 0 rfl ?_
      refine rl_get hG iX8_claimants_X8 0 (gM_0 a cI u) hcX8 3 (Nat.le_of_ble_eq_true rfl) nX8_claimants_0 rfl dX8_claimants_6 ?_
      refine rl_icmp_ge hG (tgt := 60) dX8_claimants_9 (by decide) (fun c4 => ?_) (fun c4 => ?_)
      · have h := it_t h c4
        exact rl_lvs hG [2] rfl (H60 v2 h)
      · have h := it_f h c4
        refine rl_iload_n hG dX8_claimants_12 rfl 2 rfl ?_
        refine rl_aload_n hG dX8_claimants_13 rfl 0 rfl ?_
        refine rl_get hG iX8_claimants_X8 0 (gM_0 a cI u) hcX8 2 (Nat.le_of_ble_eq_true rfl) nX8_claimants_1 rfl dX8_claimants_14 ?_
        refine rl_bipush hG (v := 7) dX8_claimants_17 (by decide) ?_
        refine rl_iload_n hG dX8_claimants_19 rfl 3 rfl ?_
        refine rl_imul hG dX8_claimants_20 ?_
        obtain ⟨x5, ix5, ex5, h⟩ := ald_ok h
        refine rl_iald hG 2 0 (gM_2 a cI u) rfl ix5 ex5 dX8_claimants_21 ?_
        refine rl_iconst hG (v := 2) dX8_claimants_22 (by decide) ?_
        refine rl_icmp_ne hG (tgt := 51) dX8_claimants_23 (by decide) (fun c6 => ?_) (fun c6 => ?_)
        · have h := it_f h c6
          exact rl_lvs hG [0, 1, 3] rfl (H51 (fX8_claimants_L4 u n) (ih) v1 v3 v2 h)
        · have h := it_t h c6
          refine rl_aload_n hG dX8_claimants_26 rfl 0 rfl ?_
          refine rl_iload_n hG dX8_claimants_27 rfl 3 rfl ?_
          refine rl_iload_n hG dX8_claimants_28 rfl 1 rfl ?_
          obtain ⟨x7, hx7q, zx7, h⟩ := oz_ok h
          refine rl_callVi hG ro_0_ok (As := [.int v3, .int v1]) (kX8_reaches l D a cI aS u v3 v1 x7  hx7q) gX8_claimants_X8_reaches rfl 0 (gM_0 a cI u) hcX8 2 rfl (by decide +kernel) rfl rfl (by decide) (Nat.le_of_ble_eq_true rfl) rfl dX8_claimants_29 ?_
          refine rl_if_eq hG (tgt := 51) dX8_claimants_32 (by decide) (fun c8 => ?_) (fun c8 => ?_)
          · have h := it_t h c8
            exact rl_lvs hG [0, 1, 3] rfl (H51 (fX8_claimants_L4 u n) (ih) v1 v3 v2 h)
          · have h := it_f h c8
            refine rl_iconst hG (v := 1) dX8_claimants_35 (by decide) ?_
            refine rl_aload_n hG dX8_claimants_36 rfl 0 rfl ?_
            refine rl_get hG iX8_claimants_X8 0 (gM_0 a cI u) hcX8 2 (Nat.le_of_ble_eq_true rfl) nX8_claimants_1 rfl dX8_claimants_37 ?_
            refine rl_bipush hG (v := 7) dX8_claimants_40 (by decide) ?_
            refine rl_iload_n hG dX8_claimants_42 rfl 3 rfl ?_
            refine rl_imul hG dX8_claimants_43 ?_
            refine rl_iconst hG (v := 1) dX8_claimants_44 (by decide) ?_
            refine rl_iadd hG dX8_claimants_45 ?_
            obtain ⟨x9, ix9, ex9, h⟩ := ald_ok h
            refine rl_iald hG 2 0 (gM_2 a cI u) rfl ix9 ex9 dX8_claimants_46 ?_
            refine rl_ishl hG dX8_claimants_47 ?_
            refine rl_goto hG (tgt := 52) dX8_claimants_48 (by decide) ?_
            exact rl_lvs hG [0, 1, 3] rfl (H52 (fX8_claimants_L4 u n) (ih) v1 v3 ((1 : Int32) <<< (x9 &&& 31)) v2 h)
  have h := h0
  rw [fX8_claimants] at h
  show G u 0 [(0, .ref (a 0)), (1, .int p1)] []
  refine rl_iconst hG (v := 0) dX8_claimants_0 (by decide) ?_
  refine rl_istore_n hG [(2, .int (0 : Int32)), (0, .ref (a 0)), (1, .int p1)] dX8_claimants_1 rfl (Nat.le_of_ble_eq_true rfl) rfl rfl ?_
  refine rl_iconst hG (v := 0) dX8_claimants_2 (by decide) ?_
  refine rl_istore_n hG [(3, .int (0 : Int32)), (2, .int (0 : Int32)), (0, .ref (a 0)), (1, .int p1)] dX8_claimants_3 rfl (Nat.le_of_ble_eq_true rfl) rfl rfl ?_
  exact rl_lvs hG [2, 3, 1, 0] rfl (H4 2000 p1 (0 : Int32) (0 : Int32) h)
def fX8_works_L125  (k29 : St → Int32 → Int32 → Int32 → Int32 → Option (Int32 × St)) (u : St) (v1 : Int32) (v2 : Int32) (v4 : Int32) (w0 : Int32) (w1 : Int32) : Option (Int32 × St) := bd (w1 + w0) (fun x1 => bd (v4 + (1 : Int32)) (fun x2 => k29 u v1 v2 x1 x2))
def fX8_works_L114  (k29 : St → Int32 → Int32 → Int32 → Int32 → Option (Int32 × St)) (u : St) (v1 : Int32) (v2 : Int32) (v3 : Int32) (v4 : Int32) (v5 : Int32) : Option (Int32 × St) := (if v5 = (0 : Int32) then fX8_works_L125 k29 u v1 v2 v4 (0 : Int32) v3 else fX8_works_L125 k29 u v1 v2 v4 (1 : Int32) v3)
def fX8_works_L99  (k29 : St → Int32 → Int32 → Int32 → Int32 → Option (Int32 × St)) (u : St) (v1 : Int32) (v2 : Int32) (v3 : Int32) (v4 : Int32) (w0 : Int32) : Option (Int32 × St) := (if w0 = (0 : Int32) then fX8_works_L114 k29 u v1 v2 v3 v4 w0 else (if v3 = v2 then some (v4, u) else fX8_works_L114 k29 u v1 v2 v3 v4 w0))
def fX8_works_L133   (u : St) (v2 : Int32) (v3 : Int32) : Option (Int32 × St) := (if v2 = (-1 : Int32) then some (v3, u) else some ((-1 : Int32), u))
def fX8_works_L29   : Nat → St → Int32 → Int32 → Int32 → Int32 → Option (Int32 × St)
  | 0 => fun _ _ _ _ _ => none
  | n + 1 => fun u v1 v2 v3 v4 => (if (240 : Int32) ≤ v4 then fX8_works_L133 u v2 v3 else (if v1 = (0 : Int32) then o1 (fX8_whoMay u v4) (fun x15 => (if x15 = (0 : Int32) then fX8_works_L99 (fX8_works_L29 n) u v1 v2 v3 v4 (1 : Int32) else fX8_works_L99 (fX8_works_L29 n) u v1 v2 v3 v4 (0 : Int32))) else (if v1 = (1 : Int32) then o1 (fX8_whoMay u v4) (fun x12 => o1 (fX8_many x12) (fun x13 => (if x13 ≤ (1 : Int32) then fX8_works_L99 (fX8_works_L29 n) u v1 v2 v3 v4 (0 : Int32) else fX8_works_L99 (fX8_works_L29 n) u v1 v2 v3 v4 (1 : Int32)))) else o1 (fX8_claimants u v4) (fun x10 => (if x10 ≤ (1 : Int32) then fX8_works_L99 (fX8_works_L29 n) u v1 v2 v3 v4 (0 : Int32) else fX8_works_L99 (fX8_works_L29 n) u v1 v2 v3 v4 (1 : Int32))))))
def fX8_works (u : St)  (p1 : Int32) (p2 : Int32) : Option (Int32 × St) := oz (fX8_in p1.toInt64 (0 : Int64) (2 : Int64)) (fun x17 => (if x17 = (0 : Int32) then some ((-3 : Int32), u) else (if (-1 : Int32) ≤ p2 then o1 (fX8_allThere u) (fun u20 => fX8_works_L29 2000 u20 p1 p2 (0 : Int32) (0 : Int32)) else some ((-3 : Int32), u))))
theorem nX8_works_0 : Cond.constantLong RX8 160 (2) ∈ wsX8_works := by decide +kernel
set_option maxRecDepth 100000 in
set_option maxHeartbeats 4000000 in
theorem kX8_works (l : Launch) (D : va_G) (a : Nat → Nat) (cI : ClassId) (aS : Nat → Prop) (u : St)  (p1 : Int32) (p2 : Int32) (r : Int32) (τ : St)  (h0 : fX8_works u p1 p2 = some (r, τ)) : rl_Mi l yX8_works wsX8_works ({ frames := 4, cells := 0, slots := 0, locals := 99 } : Room) D (tyM cI) (wM a cI) ro_0 aS [.ref (a 0), .int p1, .int p2] u r τ := by
  refine rl_meth_i (cc := cX8_works) (maxL := 6) (own := RX8) (ty := .int) (by decide) rfl rfl (Nat.le_of_ble_eq_true rfl) ?_
  intro G hG hret
  have H125 : ∀ (k29 : St → Int32 → Int32 → Int32 → Int32 → Option (Int32 × St)) (hk29 : ∀ (u : St) (v1 : Int32) (v2 : Int32) (v3 : Int32) (v4 : Int32), k29 u v1 v2 v3 v4 = some (r, τ) → G u 29 [(0, .ref (a 0)), (1, .int v1), (2, .int v2), (3, .int v3), (4, .int v4)] []), ∀ (u : St) (v1 : Int32) (v2 : Int32) (v4 : Int32) (w0 : Int32) (w1 : Int32), fX8_works_L125 k29 u v1 v2 v4 w0 w1 = some (r, τ) → G u 125 [(0, .ref (a 0)), (1, .int v1), (2, .int v2), (4, .int v4)] [.int w0, .int w1] := by
    intro k29 hk29 u v1 v2 v4 w0 w1 h
    rw [fX8_works_L125] at h
    refine rl_iadd hG dX8_works_125 ?_
    obtain ⟨x1, ex1, h⟩ := bd_ok h
    refine rl_istore_n hG [(3, .int x1), (0, .ref (a 0)), (1, .int v1), (2, .int v2), (4, .int v4)] dX8_works_126 rfl (Nat.le_of_ble_eq_true rfl) ex1 rfl ?_
    obtain ⟨x2, ex2, h⟩ := bd_ok h
    refine rl_iinc hG [(4, .int x2), (3, .int x1), (0, .ref (a 0)), (1, .int v1), (2, .int v2)] dX8_works_127 4 rfl (by rw [ex2]; rfl) (Nat.le_of_ble_eq_true rfl) rfl ?_
    refine rl_goto hG (tgt := 29) dX8_works_130 (by decide) ?_
    exact rl_lvs hG [2, 3, 4, 1, 0] rfl (hk29 u v1 v2 x1 x2 h)
  have H114 : ∀ (k29 : St → Int32 → Int32 → Int32 → Int32 → Option (Int32 × St)) (hk29 : ∀ (u : St) (v1 : Int32) (v2 : Int32) (v3 : Int32) (v4 : Int32), k29 u v1 v2 v3 v4 = some (r, τ) → G u 29 [(0, .ref (a 0)), (1, .int v1), (2, .int v2), (3, .int v3), (4, .int v4)] []), ∀ (u : St) (v1 : Int32) (v2 : Int32) (v3 : Int32) (v4 : Int32) (v5 : Int32), fX8_works_L114 k29 u v1 v2 v3 v4 v5 = some (r, τ) → G u 114 [(0, .ref (a 0)), (1, .int v1), (2, .int v2), (3, .int v3), (4, .int v4), (5, .int v5)] [] := by
    intro k29 hk29 u v1 v2 v3 v4 v5 h
    rw [fX8_works_L114] at h
    refine rl_iload_n hG dX8_works_114 rfl 3 rfl ?_
    refine rl_iload hG dX8_works_115 5 rfl ?_
    refine rl_if_eq hG (tgt := 124) dX8_works_117 (by decide) (fun c3 => ?_) (fun c3 => ?_)
    · have h := it_t h c3
      refine rl_iconst hG (v := 0) dX8_works_124 (by decide) ?_
      exact rl_lvs hG [0, 1, 2, 4] rfl (H125 (k29) (hk29) u v1 v2 v4 (0 : Int32) v3 h)
    · have h := it_f h c3
      refine rl_iconst hG (v := 1) dX8_works_120 (by decide) ?_
      refine rl_goto hG (tgt := 125) dX8_works_121 (by decide) ?_
      exact rl_lvs hG [0, 1, 2, 4] rfl (H125 (k29) (hk29) u v1 v2 v4 (1 : Int32) v3 h)
  have H99 : ∀ (k29 : St → Int32 → Int32 → Int32 → Int32 → Option (Int32 × St)) (hk29 : ∀ (u : St) (v1 : Int32) (v2 : Int32) (v3 : Int32) (v4 : Int32), k29 u v1 v2 v3 v4 = some (r, τ) → G u 29 [(0, .ref (a 0)), (1, .int v1), (2, .int v2), (3, .int v3), (4, .int v4)] []), ∀ (u : St) (v1 : Int32) (v2 : Int32) (v3 : Int32) (v4 : Int32) (w0 : Int32), fX8_works_L99 k29 u v1 v2 v3 v4 w0 = some (r, τ) → G u 99 [(0, .ref (a 0)), (1, .int v1), (2, .int v2), (3, .int v3), (4, .int v4)] [.int w0] := by
    intro k29 hk29 u v1 v2 v3 v4 w0 h
    rw [fX8_works_L99] at h
    refine rl_istore hG [(5, .int w0), (0, .ref (a 0)), (1, .int v1), (2, .int v2), (3, .int v3), (4, .int v4)] dX8_works_99 (Nat.le_of_ble_eq_true rfl) rfl rfl ?_
    refine rl_iload hG dX8_works_101 0 rfl ?_
    refine rl_if_eq hG (tgt := 114) dX8_works_103 (by decide) (fun c4 => ?_) (fun c4 => ?_)
    · have h := it_t h c4
      exact rl_lvs hG [1, 2, 3, 4, 5, 0] rfl (H114 (k29) (hk29) u v1 v2 v3 v4 w0 h)
    · have h := it_f h c4
      refine rl_iload_n hG dX8_works_106 rfl 4 rfl ?_
      refine rl_iload_n hG dX8_works_107 rfl 3 rfl ?_
      refine rl_icmp_ne hG (tgt := 114) dX8_works_108 (by decide) (fun c5 => ?_) (fun c5 => ?_)
      · have h := it_f h c5
        exact rl_lvs hG [1, 2, 3, 4, 5, 0] rfl (H114 (k29) (hk29) u v1 v2 v3 v4 w0 h)
      · have h := it_t h c5
        refine rl_iload hG dX8_works_111 5 rfl ?_
        exact rl_ret2 hret h rfl dX8_works_113
  have H133 : ∀ (u : St) (v2 : Int32) (v3 : Int32), fX8_works_L133 u v2 v3 = some (r, τ) → G u 133 [(2, .int v2), (3, .int v3)] [] := by
    intro  u v2 v3 h
    rw [fX8_works_L133] at h
    refine rl_iload_n hG dX8_works_133 rfl 0 rfl ?_
    refine rl_iconst hG (v := -1) dX8_works_134 (by decide) ?_
    refine rl_icmp_ne hG (tgt := 142) dX8_works_135 (by decide) (fun c6 => ?_) (fun c6 => ?_)
    · have h := it_f h c6
      refine rl_iconst hG (v := -1) dX8_works_142 (by decide) ?_
      exact rl_ret2 hret h rfl dX8_works_143
    · have h := it_t h c6
      refine rl_iload_n hG dX8_works_138 rfl 1 rfl ?_
      refine rl_goto hG (tgt := 143) dX8_works_139 (by decide) ?_
      exact rl_ret2 hret h rfl dX8_works_143
  have H29 : ∀ (n : Nat) (u : St) (v1 : Int32) (v2 : Int32) (v3 : Int32) (v4 : Int32), fX8_works_L29 n u v1 v2 v3 v4 = some (r, τ) → G u 29 [(0, .ref (a 0)), (1, .int v1), (2, .int v2), (3, .int v3), (4, .int v4)] [] := by
    intro n
    induction n with
    | zero =>
      intro u v1 v2 v3 v4 h
      exact absurd h (by rw [fX8_works_L29]; exact fun q => by cases q)
    | succ n ih =>
      intro u v1 v2 v3 v4 h
      rw [fX8_works_L29] at h
      refine rl_iload hG dX8_works_29 4 rfl ?_
      refine rl_sipush hG (v := 240) dX8_works_31 (by decide) ?_
      refine rl_icmp_ge hG (tgt := 133) dX8_works_34 (by decide) (fun c7 => ?_) (fun c7 => ?_)
      · have h := it_t h c7
        exact rl_lvs hG [2, 3] rfl (H133 u v2 v3 h)
      · have h := it_f h c7
        refine rl_iload_n hG dX8_works_37 rfl 1 rfl ?_
        refine rl_if_ne hG (tgt := 58) dX8_works_38 (by decide) (fun c8 => ?_) (fun c8 => ?_)
        · have h := it_f h c8
          refine rl_iload_n hG dX8_works_58 rfl 1 rfl ?_
          refine rl_iconst hG (v := 1) dX8_works_59 (by decide) ?_
          refine rl_icmp_ne hG (tgt := 84) dX8_works_60 (by decide) (fun c9 => ?_) (fun c9 => ?_)
          · have h := it_f h c9
            refine rl_aload_n hG dX8_works_84 rfl 0 rfl ?_
            refine rl_iload hG dX8_works_85 4 rfl ?_
            obtain ⟨x10, hx10q, h⟩ := o1_ok h
            refine rl_callVi hG ro_0_ok (As := [.int v4]) (kX8_claimants l D a cI aS u v4 x10  hx10q) gX8_works_X8_claimants rfl 0 (gM_0 a cI u) hcX8 1 rfl (by decide +kernel) rfl rfl (by decide) (Nat.le_of_ble_eq_true rfl) rfl dX8_works_87 ?_
            refine rl_iconst hG (v := 1) dX8_works_90 (by decide) ?_
            refine rl_icmp_le hG (tgt := 98) dX8_works_91 (by decide) (fun c11 => ?_) (fun c11 => ?_)
            · have h := it_t h c11
              refine rl_iconst hG (v := 0) dX8_works_98 (by decide) ?_
              exact rl_lvs hG [0, 1, 2, 3, 4] rfl (H99 (fX8_works_L29 n) (ih) u v1 v2 v3 v4 (0 : Int32) h)
            · have h := it_f h c11
              refine rl_iconst hG (v := 1) dX8_works_94 (by decide) ?_
              refine rl_goto hG (tgt := 99) dX8_works_95 (by decide) ?_
              exact rl_lvs hG [0, 1, 2, 3, 4] rfl (H99 (fX8_works_L29 n) (ih) u v1 v2 v3 v4 (1 : Int32) h)
          · have h := it_t h c9
            refine rl_aload_n hG dX8_works_63 rfl 0 rfl ?_
            refine rl_iload hG dX8_works_64 4 rfl ?_
            obtain ⟨x12, hx12q, h⟩ := o1_ok h
            refine rl_callVi hG ro_0_ok (As := [.int v4]) (kX8_whoMay l D a cI aS u v4 x12  hx12q) gX8_works_X8_whoMay rfl 0 (gM_0 a cI u) hcX8 1 rfl (by decide +kernel) rfl rfl (by decide) (Nat.le_of_ble_eq_true rfl) rfl dX8_works_66 ?_
            obtain ⟨x13, hx13q, h⟩ := o1_ok h
            refine rl_callZi hG (As := [.int x12]) (kX8_many l D u x12 x13 hx13q) gX8_works_X8_many rfl 1 rfl (by decide +kernel) rfl rfl (by decide) (Nat.le_of_ble_eq_true rfl) rfl dX8_works_69 ?_
            refine rl_iconst hG (v := 1) dX8_works_72 (by decide) ?_
            refine rl_icmp_le hG (tgt := 80) dX8_works_73 (by decide) (fun c14 => ?_) (fun c14 => ?_)
            · have h := it_t h c14
              refine rl_iconst hG (v := 0) dX8_works_80 (by decide) ?_
              refine rl_goto hG (tgt := 99) dX8_works_81 (by decide) ?_
              exact rl_lvs hG [0, 1, 2, 3, 4] rfl (H99 (fX8_works_L29 n) (ih) u v1 v2 v3 v4 (0 : Int32) h)
            · have h := it_f h c14
              refine rl_iconst hG (v := 1) dX8_works_76 (by decide) ?_
              refine rl_goto hG (tgt := 99) dX8_works_77 (by decide) ?_
              exact rl_lvs hG [0, 1, 2, 3, 4] rfl (H99 (fX8_works_L29 n) (ih) u v1 v2 v3 v4 (1 : Int32) h)
        · have h := it_t h c8
          refine rl_aload_n hG dX8_works_41 rfl 0 rfl ?_
          refine rl_iload hG dX8_works_42 4 rfl ?_
          obtain ⟨x15, hx15q, h⟩ := o1_ok h
          refine rl_callVi hG ro_0_ok (As := [.int v4]) (kX8_whoMay l D a cI aS u v4 x15  hx15q) gX8_works_X8_whoMay rfl 0 (gM_0 a cI u) hcX8 1 rfl (by decide +kernel) rfl rfl (by decide) (Nat.le_of_ble_eq_true rfl) rfl dX8_works_44 ?_
          refine rl_if_ne hG (tgt := 54) dX8_works_47 (by decide) (fun c16 => ?_) (fun c16 => ?_)
          · have h := it_f h c16
            refine rl_iconst hG (v := 0) dX8_works_54 (by decide) ?_
            refine rl_goto hG (tgt := 99) dX8_works_55 (by decide) ?_
            exact rl_lvs hG [0, 1, 2, 3, 4] rfl (H99 (fX8_works_L29 n) (ih) u v1 v2 v3 v4 (0 : Int32) h)
          · have h := it_t h c16
            refine rl_iconst hG (v := 1) dX8_works_50 (by decide) ?_
            refine rl_goto hG (tgt := 99) dX8_works_51 (by decide) ?_
            exact rl_lvs hG [0, 1, 2, 3, 4] rfl (H99 (fX8_works_L29 n) (ih) u v1 v2 v3 v4 (1 : Int32) h)
  have h := h0
  rw [fX8_works] at h
  show G u 0 [(0, .ref (a 0)), (1, .int p1), (2, .int p2)] []
  refine rl_iload_n hG dX8_works_0 rfl 1 rfl ?_
  refine rl_i2l hG dX8_works_1 ?_
  refine rl_lconst hG (v := 0) dX8_works_2 (by decide) ?_
  refine rl_ldc2 hG (v := 2) dX8_works_3 nX8_works_0 ?_
  obtain ⟨x17, hx17q, zx17, h⟩ := oz_ok h
  refine rl_callZi hG (As := [.long p1.toInt64, .long (0 : Int64), .long (2 : Int64)]) (kX8_in l D u p1.toInt64 (0 : Int64) (2 : Int64) x17 hx17q) gX8_works_X8_in rfl 3 rfl (by decide +kernel) rfl rfl (by decide) (Nat.le_of_ble_eq_true rfl) rfl dX8_works_6 ?_
  refine rl_if_eq hG (tgt := 17) dX8_works_9 (by decide) (fun c18 => ?_) (fun c18 => ?_)
  · have h := it_t h c18
    refine rl_bipush hG (v := -3) dX8_works_17 (by decide) ?_
    exact rl_ret2 hret h rfl dX8_works_19
  · have h := it_f h c18
    refine rl_iload_n hG dX8_works_12 rfl 2 rfl ?_
    refine rl_iconst hG (v := -1) dX8_works_13 (by decide) ?_
    refine rl_icmp_ge hG (tgt := 20) dX8_works_14 (by decide) (fun c19 => ?_) (fun c19 => ?_)
    · have h := it_t h c19
      refine rl_aload_n hG dX8_works_20 rfl 0 rfl ?_
      obtain ⟨u20, hu20q, h⟩ := o1_ok h
      refine rl_callVv hG ro_0_ok (As := []) (kX8_allThere l D a cI aS u  u20  hu20q) gX8_works_X8_allThere rfl 0 (gM_0 a cI u) hcX8 0 rfl (by decide +kernel) rfl rfl (by decide) (Nat.le_of_ble_eq_true rfl) rfl dX8_works_21 ?_
      refine rl_iconst hG (v := 0) dX8_works_24 (by decide) ?_
      refine rl_istore_n hG [(3, .int (0 : Int32)), (0, .ref (a 0)), (1, .int p1), (2, .int p2)] dX8_works_25 rfl (Nat.le_of_ble_eq_true rfl) rfl rfl ?_
      refine rl_iconst hG (v := 0) dX8_works_26 (by decide) ?_
      refine rl_istore hG [(4, .int (0 : Int32)), (3, .int (0 : Int32)), (0, .ref (a 0)), (1, .int p1), (2, .int p2)] dX8_works_27 (Nat.le_of_ble_eq_true rfl) rfl rfl ?_
      exact rl_lvs hG [2, 3, 4, 1, 0] rfl (H29 2000 u20 p1 p2 (0 : Int32) (0 : Int32) h)
    · have h := it_f h c19
      refine rl_bipush hG (v := -3) dX8_works_17 (by decide) ?_
      exact rl_ret2 hret h rfl dX8_works_19
def fX8_step_L29   (u : St) (v1 : Int32) (v2 : Int32) (v3 : Int32) : Option (Int32 × St) := ald u 6 6 v1 (fun x1 => (if x1 = (8 : Int32) then some ((-5 : Int32), u) else ald u 6 6 v1 (fun x3 => asr u 4 48 (((8 : Int32) * v1) + x3) v2 (fun u4 => ald u4 6 6 v1 (fun x5 => asr u4 5 48 (((8 : Int32) * v1) + x5) v3 (fun u6 => ald u6 6 6 v1 (fun x7 => asr u6 6 6 v1 (x7 + (1 : Int32)) (fun u8 => ald u8 6 6 v1 (fun x9 => some (x9, u8))))))))))
def fX8_step (u : St)  (p1 : Int32) (p2 : Int32) (p3 : Int32) : Option (Int32 × St) := oz (fX8_isThing p1) (fun x10 => (if x10 = (0 : Int32) then some ((-2 : Int32), u) else oz (fX8_isWork p2) (fun x12 => (if x12 = (0 : Int32) then some ((-2 : Int32), u) else (if p3 = (-1 : Int32) then fX8_step_L29 u p1 p2 p3 else oz (fX8_isWork p3) (fun x15 => (if x15 = (0 : Int32) then some ((-2 : Int32), u) else fX8_step_L29 u p1 p2 p3)))))))
theorem nX8_step_0 : Cond.fieldLink RX8 25 "WhoseWorkModel" "stepMany" "[I" ∈ wsX8_step := by decide +kernel
theorem nX8_step_1 : Cond.fieldLink RX8 19 "WhoseWorkModel" "first" "[I" ∈ wsX8_step := by decide +kernel
theorem nX8_step_2 : Cond.fieldLink RX8 22 "WhoseWorkModel" "second" "[I" ∈ wsX8_step := by decide +kernel
theorem iX8_step_X8 : ∀ w ∈ wsX80, w ∈ wsX8_step := by decide +kernel
set_option maxRecDepth 100000 in
set_option maxHeartbeats 4000000 in
theorem kX8_step (l : Launch) (D : va_G) (a : Nat → Nat) (cI : ClassId) (aS : Nat → Prop) (u : St)  (p1 : Int32) (p2 : Int32) (p3 : Int32) (r : Int32) (τ : St)  (h0 : fX8_step u p1 p2 p3 = some (r, τ)) : rl_Mi l yX8_step wsX8_step ({ frames := 2, cells := 0, slots := 0, locals := 45 } : Room) D (tyM cI) (wM a cI) ro_0 aS [.ref (a 0), .int p1, .int p2, .int p3] u r τ := by
  refine rl_meth_i (cc := cX8_step) (maxL := 4) (own := RX8) (ty := .int) (by decide) rfl rfl (Nat.le_of_ble_eq_true rfl) ?_
  intro G hG hret
  have H29 : ∀ (u : St) (v1 : Int32) (v2 : Int32) (v3 : Int32), fX8_step_L29 u v1 v2 v3 = some (r, τ) → G u 29 [(0, .ref (a 0)), (1, .int v1), (2, .int v2), (3, .int v3)] [] := by
    intro  u v1 v2 v3 h
    rw [fX8_step_L29] at h
    refine rl_aload_n hG dX8_step_29 rfl 0 rfl ?_
    refine rl_get hG iX8_step_X8 0 (gM_0 a cI u) hcX8 8 (Nat.le_of_ble_eq_true rfl) nX8_step_0 rfl dX8_step_30 ?_
    refine rl_iload_n hG dX8_step_33 rfl 1 rfl ?_
    obtain ⟨x1, ix1, ex1, h⟩ := ald_ok h
    refine rl_iald hG 6 0 (gM_6 a cI u) rfl ix1 ex1 dX8_step_34 ?_
    refine rl_bipush hG (v := 8) dX8_step_35 (by decide) ?_
    refine rl_icmp_ne hG (tgt := 43) dX8_step_37 (by decide) (fun c2 => ?_) (fun c2 => ?_)
    · have h := it_f h c2
      refine rl_aload_n hG dX8_step_43 rfl 0 rfl ?_
      refine rl_get hG iX8_step_X8 0 (gM_0 a cI u) hcX8 6 (Nat.le_of_ble_eq_true rfl) nX8_step_1 rfl dX8_step_44 ?_
      refine rl_bipush hG (v := 8) dX8_step_47 (by decide) ?_
      refine rl_iload_n hG dX8_step_49 rfl 1 rfl ?_
      refine rl_imul hG dX8_step_50 ?_
      refine rl_aload_n hG dX8_step_51 rfl 0 rfl ?_
      refine rl_get hG iX8_step_X8 0 (gM_0 a cI u) hcX8 8 (Nat.le_of_ble_eq_true rfl) nX8_step_0 rfl dX8_step_52 ?_
      refine rl_iload_n hG dX8_step_55 rfl 1 rfl ?_
      obtain ⟨x3, ix3, ex3, h⟩ := ald_ok h
      refine rl_iald hG 6 0 (gM_6 a cI u) rfl ix3 ex3 dX8_step_56 ?_
      refine rl_iadd hG dX8_step_57 ?_
      refine rl_iload_n hG dX8_step_58 rfl 2 rfl ?_
      obtain ⟨u4, iu4, eu4, h⟩ := asr_ok h
      refine rl_iast hG 4 0 (gM_4 a cI u) rfl iu4 (σ' := u4) ((sM_4 a cI u _).trans (congrArg _ eu4.symm)) dX8_step_59 ?_
      refine rl_aload_n hG dX8_step_60 rfl 0 rfl ?_
      refine rl_get hG iX8_step_X8 0 (gM_0 a cI u4) hcX8 7 (Nat.le_of_ble_eq_true rfl) nX8_step_2 rfl dX8_step_61 ?_
      refine rl_bipush hG (v := 8) dX8_step_64 (by decide) ?_
      refine rl_iload_n hG dX8_step_66 rfl 1 rfl ?_
      refine rl_imul hG dX8_step_67 ?_
      refine rl_aload_n hG dX8_step_68 rfl 0 rfl ?_
      refine rl_get hG iX8_step_X8 0 (gM_0 a cI u4) hcX8 8 (Nat.le_of_ble_eq_true rfl) nX8_step_0 rfl dX8_step_69 ?_
      refine rl_iload_n hG dX8_step_72 rfl 1 rfl ?_
      obtain ⟨x5, ix5, ex5, h⟩ := ald_ok h
      refine rl_iald hG 6 0 (gM_6 a cI u4) rfl ix5 ex5 dX8_step_73 ?_
      refine rl_iadd hG dX8_step_74 ?_
      refine rl_iload_n hG dX8_step_75 rfl 3 rfl ?_
      obtain ⟨u6, iu6, eu6, h⟩ := asr_ok h
      refine rl_iast hG 5 0 (gM_5 a cI u4) rfl iu6 (σ' := u6) ((sM_5 a cI u4 _).trans (congrArg _ eu6.symm)) dX8_step_76 ?_
      refine rl_aload_n hG dX8_step_77 rfl 0 rfl ?_
      refine rl_get hG iX8_step_X8 0 (gM_0 a cI u6) hcX8 8 (Nat.le_of_ble_eq_true rfl) nX8_step_0 rfl dX8_step_78 ?_
      refine rl_iload_n hG dX8_step_81 rfl 1 rfl ?_
      refine rl_dup2 hG dX8_step_82 rfl rfl ?_
      obtain ⟨x7, ix7, ex7, h⟩ := ald_ok h
      refine rl_iald hG 6 0 (gM_6 a cI u6) rfl ix7 ex7 dX8_step_83 ?_
      refine rl_iconst hG (v := 1) dX8_step_84 (by decide) ?_
      refine rl_iadd hG dX8_step_85 ?_
      obtain ⟨u8, iu8, eu8, h⟩ := asr_ok h
      refine rl_iast hG 6 0 (gM_6 a cI u6) rfl iu8 (σ' := u8) ((sM_6 a cI u6 _).trans (congrArg _ eu8.symm)) dX8_step_86 ?_
      refine rl_aload_n hG dX8_step_87 rfl 0 rfl ?_
      refine rl_get hG iX8_step_X8 0 (gM_0 a cI u8) hcX8 8 (Nat.le_of_ble_eq_true rfl) nX8_step_0 rfl dX8_step_88 ?_
      refine rl_iload_n hG dX8_step_91 rfl 1 rfl ?_
      obtain ⟨x9, ix9, ex9, h⟩ := ald_ok h
      refine rl_iald hG 6 0 (gM_6 a cI u8) rfl ix9 ex9 dX8_step_92 ?_
      exact rl_ret2 hret h rfl dX8_step_93
    · have h := it_t h c2
      refine rl_bipush hG (v := -5) dX8_step_40 (by decide) ?_
      exact rl_ret2 hret h rfl dX8_step_42
  have h := h0
  rw [fX8_step] at h
  show G u 0 [(0, .ref (a 0)), (1, .int p1), (2, .int p2), (3, .int p3)] []
  refine rl_iload_n hG dX8_step_0 rfl 1 rfl ?_
  obtain ⟨x10, hx10q, zx10, h⟩ := oz_ok h
  refine rl_callZi hG (As := [.int p1]) (kX8_isThing l D u p1 x10 hx10q) gX8_step_X8_isThing rfl 1 rfl (by decide +kernel) rfl rfl (by decide) (Nat.le_of_ble_eq_true rfl) rfl dX8_step_1 ?_
  refine rl_if_eq hG (tgt := 26) dX8_step_4 (by decide) (fun c11 => ?_) (fun c11 => ?_)
  · have h := it_t h c11
    refine rl_bipush hG (v := -2) dX8_step_26 (by decide) ?_
    exact rl_ret2 hret h rfl dX8_step_28
  · have h := it_f h c11
    refine rl_iload_n hG dX8_step_7 rfl 2 rfl ?_
    obtain ⟨x12, hx12q, zx12, h⟩ := oz_ok h
    refine rl_callZi hG (As := [.int p2]) (kX8_isWork l D u p2 x12 hx12q) gX8_step_X8_isWork rfl 1 rfl (by decide +kernel) rfl rfl (by decide) (Nat.le_of_ble_eq_true rfl) rfl dX8_step_8 ?_
    refine rl_if_eq hG (tgt := 26) dX8_step_11 (by decide) (fun c13 => ?_) (fun c13 => ?_)
    · have h := it_t h c13
      refine rl_bipush hG (v := -2) dX8_step_26 (by decide) ?_
      exact rl_ret2 hret h rfl dX8_step_28
    · have h := it_f h c13
      refine rl_iload_n hG dX8_step_14 rfl 3 rfl ?_
      refine rl_iconst hG (v := -1) dX8_step_15 (by decide) ?_
      refine rl_icmp_eq hG (tgt := 29) dX8_step_16 (by decide) (fun c14 => ?_) (fun c14 => ?_)
      · have h := it_t h c14
        exact rl_lvs hG [0, 1, 2, 3] rfl (H29 u p1 p2 p3 h)
      · have h := it_f h c14
        refine rl_iload_n hG dX8_step_19 rfl 3 rfl ?_
        obtain ⟨x15, hx15q, zx15, h⟩ := oz_ok h
        refine rl_callZi hG (As := [.int p3]) (kX8_isWork l D u p3 x15 hx15q) gX8_step_X8_isWork rfl 1 rfl (by decide +kernel) rfl rfl (by decide) (Nat.le_of_ble_eq_true rfl) rfl dX8_step_20 ?_
        refine rl_if_ne hG (tgt := 29) dX8_step_23 (by decide) (fun c16 => ?_) (fun c16 => ?_)
        · have h := it_f h c16
          exact rl_lvs hG [0, 1, 2, 3] rfl (H29 u p1 p2 p3 h)
        · have h := it_t h c16
          refine rl_bipush hG (v := -2) dX8_step_26 (by decide) ?_
          exact rl_ret2 hret h rfl dX8_step_28
def fX8_clear (u : St)  (p1 : Int32) : Option (Int32 × St) := oz (fX8_isThing p1) (fun x1 => (if x1 = (0 : Int32) then some ((-2 : Int32), u) else ald u 6 6 p1 (fun x3 => asr u 6 6 p1 (0 : Int32) (fun u4 => some (x3, u4)))))
theorem nX8_clear_0 : Cond.fieldLink RX8 25 "WhoseWorkModel" "stepMany" "[I" ∈ wsX8_clear := by decide +kernel
theorem iX8_clear_X8 : ∀ w ∈ wsX80, w ∈ wsX8_clear := by decide +kernel
set_option maxRecDepth 100000 in
set_option maxHeartbeats 4000000 in
theorem kX8_clear (l : Launch) (D : va_G) (a : Nat → Nat) (cI : ClassId) (aS : Nat → Prop) (u : St)  (p1 : Int32) (r : Int32) (τ : St)  (h0 : fX8_clear u p1 = some (r, τ)) : rl_Mi l yX8_clear wsX8_clear ({ frames := 2, cells := 0, slots := 0, locals := 45 } : Room) D (tyM cI) (wM a cI) ro_0 aS [.ref (a 0), .int p1] u r τ := by
  refine rl_meth_i (cc := cX8_clear) (maxL := 3) (own := RX8) (ty := .int) (by decide) rfl rfl (Nat.le_of_ble_eq_true rfl) ?_
  intro G hG hret
  have h := h0
  rw [fX8_clear] at h
  show G u 0 [(0, .ref (a 0)), (1, .int p1)] []
  refine rl_iload_n hG dX8_clear_0 rfl 1 rfl ?_
  obtain ⟨x1, hx1q, zx1, h⟩ := oz_ok h
  refine rl_callZi hG (As := [.int p1]) (kX8_isThing l D u p1 x1 hx1q) gX8_clear_X8_isThing rfl 1 rfl (by decide +kernel) rfl rfl (by decide) (Nat.le_of_ble_eq_true rfl) rfl dX8_clear_1 ?_
  refine rl_if_ne hG (tgt := 10) dX8_clear_4 (by decide) (fun c2 => ?_) (fun c2 => ?_)
  · have h := it_f h c2
    refine rl_aload_n hG dX8_clear_10 rfl 0 rfl ?_
    refine rl_get hG iX8_clear_X8 0 (gM_0 a cI u) hcX8 8 (Nat.le_of_ble_eq_true rfl) nX8_clear_0 rfl dX8_clear_11 ?_
    refine rl_iload_n hG dX8_clear_14 rfl 1 rfl ?_
    obtain ⟨x3, ix3, ex3, h⟩ := ald_ok h
    refine rl_iald hG 6 0 (gM_6 a cI u) rfl ix3 ex3 dX8_clear_15 ?_
    refine rl_istore_n hG [(2, .int x3), (0, .ref (a 0)), (1, .int p1)] dX8_clear_16 rfl (Nat.le_of_ble_eq_true rfl) rfl rfl ?_
    refine rl_aload_n hG dX8_clear_17 rfl 1 rfl ?_
    refine rl_get hG iX8_clear_X8 0 (gM_0 a cI u) hcX8 8 (Nat.le_of_ble_eq_true rfl) nX8_clear_0 rfl dX8_clear_18 ?_
    refine rl_iload_n hG dX8_clear_21 rfl 2 rfl ?_
    refine rl_iconst hG (v := 0) dX8_clear_22 (by decide) ?_
    obtain ⟨u4, iu4, eu4, h⟩ := asr_ok h
    refine rl_iast hG 6 0 (gM_6 a cI u) rfl iu4 (σ' := u4) ((sM_6 a cI u _).trans (congrArg _ eu4.symm)) dX8_clear_23 ?_
    refine rl_iload_n hG dX8_clear_24 rfl 0 rfl ?_
    exact rl_ret2 hret h rfl dX8_clear_25
  · have h := it_t h c2
    refine rl_bipush hG (v := -2) dX8_clear_7 (by decide) ?_
    exact rl_ret2 hret h rfl dX8_clear_9
def fX8_price (u : St)  (p1 : Int32) (p2 : Int32) (p3 : Int32) : Option (Int32 × St) := oz (fX8_isGuild p1) (fun x1 => (if x1 = (0 : Int32) then some ((-2 : Int32), u) else oz (fX8_in p2.toInt64 (0 : Int64) (5 : Int64)) (fun x3 => (if x3 = (0 : Int32) then some ((-3 : Int32), u) else oz (fX8_in p3.toInt64 (0 : Int64) (99 : Int64)) (fun x5 => (if x5 = (0 : Int32) then some ((-3 : Int32), u) else ald u 7 36 (((6 : Int32) * p1) + p2) (fun x7 => asr u 7 36 (((6 : Int32) * p1) + p2) p3 (fun u8 => some (x7, u8)))))))))
theorem nX8_price_0 : Cond.constantLong RX8 55 (5) ∈ wsX8_price := by decide +kernel
theorem nX8_price_1 : Cond.constantLong RX8 168 (99) ∈ wsX8_price := by decide +kernel
theorem nX8_price_2 : Cond.fieldLink RX8 28 "WhoseWorkModel" "prices" "[I" ∈ wsX8_price := by decide +kernel
theorem iX8_price_X8 : ∀ w ∈ wsX80, w ∈ wsX8_price := by decide +kernel
set_option maxRecDepth 100000 in
set_option maxHeartbeats 4000000 in
theorem kX8_price (l : Launch) (D : va_G) (a : Nat → Nat) (cI : ClassId) (aS : Nat → Prop) (u : St)  (p1 : Int32) (p2 : Int32) (p3 : Int32) (r : Int32) (τ : St)  (h0 : fX8_price u p1 p2 p3 = some (r, τ)) : rl_Mi l yX8_price wsX8_price ({ frames := 2, cells := 0, slots := 0, locals := 45 } : Room) D (tyM cI) (wM a cI) ro_0 aS [.ref (a 0), .int p1, .int p2, .int p3] u r τ := by
  refine rl_meth_i (cc := cX8_price) (maxL := 5) (own := RX8) (ty := .int) (by decide) rfl rfl (Nat.le_of_ble_eq_true rfl) ?_
  intro G hG hret
  have h := h0
  rw [fX8_price] at h
  show G u 0 [(0, .ref (a 0)), (1, .int p1), (2, .int p2), (3, .int p3)] []
  refine rl_iload_n hG dX8_price_0 rfl 1 rfl ?_
  obtain ⟨x1, hx1q, zx1, h⟩ := oz_ok h
  refine rl_callZi hG (As := [.int p1]) (kX8_isGuild l D u p1 x1 hx1q) gX8_price_X8_isGuild rfl 1 rfl (by decide +kernel) rfl rfl (by decide) (Nat.le_of_ble_eq_true rfl) rfl dX8_price_1 ?_
  refine rl_if_ne hG (tgt := 10) dX8_price_4 (by decide) (fun c2 => ?_) (fun c2 => ?_)
  · have h := it_f h c2
    refine rl_iload_n hG dX8_price_10 rfl 2 rfl ?_
    refine rl_i2l hG dX8_price_11 ?_
    refine rl_lconst hG (v := 0) dX8_price_12 (by decide) ?_
    refine rl_ldc2 hG (v := 5) dX8_price_13 nX8_price_0 ?_
    obtain ⟨x3, hx3q, zx3, h⟩ := oz_ok h
    refine rl_callZi hG (As := [.long p2.toInt64, .long (0 : Int64), .long (5 : Int64)]) (kX8_in l D u p2.toInt64 (0 : Int64) (5 : Int64) x3 hx3q) gX8_price_X8_in rfl 3 rfl (by decide +kernel) rfl rfl (by decide) (Nat.le_of_ble_eq_true rfl) rfl dX8_price_16 ?_
    refine rl_if_eq hG (tgt := 34) dX8_price_19 (by decide) (fun c4 => ?_) (fun c4 => ?_)
    · have h := it_t h c4
      refine rl_bipush hG (v := -3) dX8_price_34 (by decide) ?_
      exact rl_ret2 hret h rfl dX8_price_36
    · have h := it_f h c4
      refine rl_iload_n hG dX8_price_22 rfl 3 rfl ?_
      refine rl_i2l hG dX8_price_23 ?_
      refine rl_lconst hG (v := 0) dX8_price_24 (by decide) ?_
      refine rl_ldc2 hG (v := 99) dX8_price_25 nX8_price_1 ?_
      obtain ⟨x5, hx5q, zx5, h⟩ := oz_ok h
      refine rl_callZi hG (As := [.long p3.toInt64, .long (0 : Int64), .long (99 : Int64)]) (kX8_in l D u p3.toInt64 (0 : Int64) (99 : Int64) x5 hx5q) gX8_price_X8_in rfl 3 rfl (by decide +kernel) rfl rfl (by decide) (Nat.le_of_ble_eq_true rfl) rfl dX8_price_28 ?_
      refine rl_if_ne hG (tgt := 37) dX8_price_31 (by decide) (fun c6 => ?_) (fun c6 => ?_)
      · have h := it_f h c6
        refine rl_aload_n hG dX8_price_37 rfl 0 rfl ?_
        refine rl_get hG iX8_price_X8 0 (gM_0 a cI u) hcX8 9 (Nat.le_of_ble_eq_true rfl) nX8_price_2 rfl dX8_price_38 ?_
        refine rl_bipush hG (v := 6) dX8_price_41 (by decide) ?_
        refine rl_iload_n hG dX8_price_43 rfl 1 rfl ?_
        refine rl_imul hG dX8_price_44 ?_
        refine rl_iload_n hG dX8_price_45 rfl 2 rfl ?_
        refine rl_iadd hG dX8_price_46 ?_
        obtain ⟨x7, ix7, ex7, h⟩ := ald_ok h
        refine rl_iald hG 7 0 (gM_7 a cI u) rfl ix7 ex7 dX8_price_47 ?_
        refine rl_istore hG [(4, .int x7), (0, .ref (a 0)), (1, .int p1), (2, .int p2), (3, .int p3)] dX8_price_48 (Nat.le_of_ble_eq_true rfl) rfl rfl ?_
        refine rl_aload_n hG dX8_price_50 rfl 1 rfl ?_
        refine rl_get hG iX8_price_X8 0 (gM_0 a cI u) hcX8 9 (Nat.le_of_ble_eq_true rfl) nX8_price_2 rfl dX8_price_51 ?_
        refine rl_bipush hG (v := 6) dX8_price_54 (by decide) ?_
        refine rl_iload_n hG dX8_price_56 rfl 2 rfl ?_
        refine rl_imul hG dX8_price_57 ?_
        refine rl_iload_n hG dX8_price_58 rfl 3 rfl ?_
        refine rl_iadd hG dX8_price_59 ?_
        refine rl_iload_n hG dX8_price_60 rfl 4 rfl ?_
        obtain ⟨u8, iu8, eu8, h⟩ := asr_ok h
        refine rl_iast hG 7 0 (gM_7 a cI u) rfl iu8 (σ' := u8) ((sM_7 a cI u _).trans (congrArg _ eu8.symm)) dX8_price_61 ?_
        refine rl_iload hG dX8_price_62 0 rfl ?_
        exact rl_ret2 hret h rfl dX8_price_64
      · have h := it_t h c6
        refine rl_bipush hG (v := -3) dX8_price_34 (by decide) ?_
        exact rl_ret2 hret h rfl dX8_price_36
  · have h := it_t h c2
    refine rl_bipush hG (v := -2) dX8_price_7 (by decide) ?_
    exact rl_ret2 hret h rfl dX8_price_9
def fX8_days (u : St)  (p1 : Int32) (p2 : Int32) : Option (Int32 × St) := oz (fX8_isGuild p1) (fun x1 => (if x1 = (0 : Int32) then some ((-2 : Int32), u) else oz (fX8_in p2.toInt64 (1 : Int64) (9 : Int64)) (fun x3 => (if x3 = (0 : Int32) then some ((-3 : Int32), u) else ald u 8 6 p1 (fun x5 => asr u 8 6 p1 p2 (fun u6 => some (x5, u6)))))))
theorem nX8_days_0 : Cond.constantLong RX8 170 (9) ∈ wsX8_days := by decide +kernel
theorem nX8_days_1 : Cond.fieldLink RX8 31 "WhoseWorkModel" "daysOf" "[I" ∈ wsX8_days := by decide +kernel
theorem iX8_days_X8 : ∀ w ∈ wsX80, w ∈ wsX8_days := by decide +kernel
set_option maxRecDepth 100000 in
set_option maxHeartbeats 4000000 in
theorem kX8_days (l : Launch) (D : va_G) (a : Nat → Nat) (cI : ClassId) (aS : Nat → Prop) (u : St)  (p1 : Int32) (p2 : Int32) (r : Int32) (τ : St)  (h0 : fX8_days u p1 p2 = some (r, τ)) : rl_Mi l yX8_days wsX8_days ({ frames := 2, cells := 0, slots := 0, locals := 45 } : Room) D (tyM cI) (wM a cI) ro_0 aS [.ref (a 0), .int p1, .int p2] u r τ := by
  refine rl_meth_i (cc := cX8_days) (maxL := 4) (own := RX8) (ty := .int) (by decide) rfl rfl (Nat.le_of_ble_eq_true rfl) ?_
  intro G hG hret
  have h := h0
  rw [fX8_days] at h
  show G u 0 [(0, .ref (a 0)), (1, .int p1), (2, .int p2)] []
  refine rl_iload_n hG dX8_days_0 rfl 1 rfl ?_
  obtain ⟨x1, hx1q, zx1, h⟩ := oz_ok h
  refine rl_callZi hG (As := [.int p1]) (kX8_isGuild l D u p1 x1 hx1q) gX8_days_X8_isGuild rfl 1 rfl (by decide +kernel) rfl rfl (by decide) (Nat.le_of_ble_eq_true rfl) rfl dX8_days_1 ?_
  refine rl_if_ne hG (tgt := 10) dX8_days_4 (by decide) (fun c2 => ?_) (fun c2 => ?_)
  · have h := it_f h c2
    refine rl_iload_n hG dX8_days_10 rfl 2 rfl ?_
    refine rl_i2l hG dX8_days_11 ?_
    refine rl_lconst hG (v := 1) dX8_days_12 (by decide) ?_
    refine rl_ldc2 hG (v := 9) dX8_days_13 nX8_days_0 ?_
    obtain ⟨x3, hx3q, zx3, h⟩ := oz_ok h
    refine rl_callZi hG (As := [.long p2.toInt64, .long (1 : Int64), .long (9 : Int64)]) (kX8_in l D u p2.toInt64 (1 : Int64) (9 : Int64) x3 hx3q) gX8_days_X8_in rfl 3 rfl (by decide +kernel) rfl rfl (by decide) (Nat.le_of_ble_eq_true rfl) rfl dX8_days_16 ?_
    refine rl_if_ne hG (tgt := 25) dX8_days_19 (by decide) (fun c4 => ?_) (fun c4 => ?_)
    · have h := it_f h c4
      refine rl_aload_n hG dX8_days_25 rfl 0 rfl ?_
      refine rl_get hG iX8_days_X8 0 (gM_0 a cI u) hcX8 10 (Nat.le_of_ble_eq_true rfl) nX8_days_1 rfl dX8_days_26 ?_
      refine rl_iload_n hG dX8_days_29 rfl 1 rfl ?_
      obtain ⟨x5, ix5, ex5, h⟩ := ald_ok h
      refine rl_iald hG 8 0 (gM_8 a cI u) rfl ix5 ex5 dX8_days_30 ?_
      refine rl_istore_n hG [(3, .int x5), (0, .ref (a 0)), (1, .int p1), (2, .int p2)] dX8_days_31 rfl (Nat.le_of_ble_eq_true rfl) rfl rfl ?_
      refine rl_aload_n hG dX8_days_32 rfl 1 rfl ?_
      refine rl_get hG iX8_days_X8 0 (gM_0 a cI u) hcX8 10 (Nat.le_of_ble_eq_true rfl) nX8_days_1 rfl dX8_days_33 ?_
      refine rl_iload_n hG dX8_days_36 rfl 2 rfl ?_
      refine rl_iload_n hG dX8_days_37 rfl 3 rfl ?_
      obtain ⟨u6, iu6, eu6, h⟩ := asr_ok h
      refine rl_iast hG 8 0 (gM_8 a cI u) rfl iu6 (σ' := u6) ((sM_8 a cI u _).trans (congrArg _ eu6.symm)) dX8_days_38 ?_
      refine rl_iload_n hG dX8_days_39 rfl 0 rfl ?_
      exact rl_ret2 hret h rfl dX8_days_40
    · have h := it_t h c4
      refine rl_bipush hG (v := -3) dX8_days_22 (by decide) ?_
      exact rl_ret2 hret h rfl dX8_days_24
  · have h := it_t h c2
    refine rl_bipush hG (v := -2) dX8_days_7 (by decide) ?_
    exact rl_ret2 hret h rfl dX8_days_9
def fX8_carry (u : St)  (p1 : Int32) : Option (Int32 × St) := oz (fX8_in p1.toInt64 (0 : Int64) (99 : Int64)) (fun x1 => (if x1 = (0 : Int32) then some ((-3 : Int32), u) else bd (u 0 11) (fun x3 => bd (st_wr u 0 11 p1) (fun u4 => some (x3, u4)))))
theorem nX8_carry_0 : Cond.constantLong RX8 168 (99) ∈ wsX8_carry := by decide +kernel
theorem nX8_carry_1 : Cond.fieldLink RX8 172 "WhoseWorkModel" "carrying" "I" ∈ wsX8_carry := by decide +kernel
theorem iX8_carry_X8 : ∀ w ∈ wsX80, w ∈ wsX8_carry := by decide +kernel
set_option maxRecDepth 100000 in
set_option maxHeartbeats 4000000 in
theorem kX8_carry (l : Launch) (D : va_G) (a : Nat → Nat) (cI : ClassId) (aS : Nat → Prop) (u : St)  (p1 : Int32) (r : Int32) (τ : St)  (h0 : fX8_carry u p1 = some (r, τ)) : rl_Mi l yX8_carry wsX8_carry ({ frames := 1, cells := 0, slots := 0, locals := 25 } : Room) D (tyM cI) (wM a cI) ro_0 aS [.ref (a 0), .int p1] u r τ := by
  refine rl_meth_i (cc := cX8_carry) (maxL := 3) (own := RX8) (ty := .int) (by decide) rfl rfl (Nat.le_of_ble_eq_true rfl) ?_
  intro G hG hret
  have h := h0
  rw [fX8_carry] at h
  show G u 0 [(0, .ref (a 0)), (1, .int p1)] []
  refine rl_iload_n hG dX8_carry_0 rfl 1 rfl ?_
  refine rl_i2l hG dX8_carry_1 ?_
  refine rl_lconst hG (v := 0) dX8_carry_2 (by decide) ?_
  refine rl_ldc2 hG (v := 99) dX8_carry_3 nX8_carry_0 ?_
  obtain ⟨x1, hx1q, zx1, h⟩ := oz_ok h
  refine rl_callZi hG (As := [.long p1.toInt64, .long (0 : Int64), .long (99 : Int64)]) (kX8_in l D u p1.toInt64 (0 : Int64) (99 : Int64) x1 hx1q) gX8_carry_X8_in rfl 3 rfl (by decide +kernel) rfl rfl (by decide) (Nat.le_of_ble_eq_true rfl) rfl dX8_carry_6 ?_
  refine rl_if_ne hG (tgt := 15) dX8_carry_9 (by decide) (fun c2 => ?_) (fun c2 => ?_)
  · have h := it_f h c2
    refine rl_aload_n hG dX8_carry_15 rfl 0 rfl ?_
    refine rl_get hG iX8_carry_X8 0 (gM_0 a cI u) hcX8 11 (Nat.le_of_ble_eq_true rfl) nX8_carry_1 rfl dX8_carry_16 ?_
    obtain ⟨x3, ex3, h⟩ := bd_ok h
    refine rl_istore_n hG [(2, .int x3), (0, .ref (a 0)), (1, .int p1)] dX8_carry_19 rfl (Nat.le_of_ble_eq_true rfl) ex3 rfl ?_
    refine rl_aload_n hG dX8_carry_20 rfl 1 rfl ?_
    refine rl_iload_n hG dX8_carry_21 rfl 2 rfl ?_
    obtain ⟨u4, eu4, h⟩ := bd_ok h
    refine rl_put hG iX8_carry_X8 tyX8 tyX8_ok nmX8 0 (gM_0 a cI u) hcX8 11 (Nat.le_of_ble_eq_true rfl) nX8_carry_1 rfl rfl (Nat.le_of_ble_eq_true rfl) (σ' := u4) ((sM_0_11 a cI u _).trans (congrArg _ eu4.symm)) dX8_carry_22 ?_
    refine rl_iload_n hG dX8_carry_25 rfl 0 rfl ?_
    exact rl_ret2 hret h rfl dX8_carry_26
  · have h := it_t h c2
    refine rl_bipush hG (v := -3) dX8_carry_12 (by decide) ?_
    exact rl_ret2 hret h rfl dX8_carry_14
