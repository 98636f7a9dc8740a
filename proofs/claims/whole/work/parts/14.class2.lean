def fX2_takeSort (u : St)   : Option (Int32 × St) := o2z (fX2_takeWord u 7) (fun x1 u2 => (if x1 = (0 : Int32) then o2z (fX2_takeWord u2 8) (fun x4 u5 => (if x4 = (0 : Int32) then o2z (fX2_takeWord u5 9) (fun x7 u8 => (if x7 = (0 : Int32) then o2z (fX2_takeWord u8 10) (fun x10 u11 => (if x10 = (0 : Int32) then some ((-1 : Int32), u11) else some ((3 : Int32), u11))) else some ((2 : Int32), u8))) else some ((1 : Int32), u5))) else some ((0 : Int32), u2)))
set_option maxRecDepth 100000 in
set_option maxHeartbeats 4000000 in
theorem kX2_takeSort (l : Launch) (D : va_G) (a : Nat → Nat) (cI cT : ClassId) (aS : Nat → Prop) (xx : Rx) (u : St)   (r : Int32) (τ : St)  (h0 : fX2_takeSort u = some (r, τ)) : rl_Mi l yX2_takeSort wsX2_takeSort ({ frames := 5, cells := 0, slots := 0, locals := 107 } : Room) D (tyX cI cT) (wX a cI cT) (roX xx) aS [.ref (a 2)] u r τ := by
  refine rl_meth_i (cc := cX2_takeSort) (maxL := 1) (own := RX2) (ty := .int) (by decide) rfl rfl (Nat.le_of_ble_eq_true rfl) ?_
  intro G hG hret
  have h := h0
  rw [fX2_takeSort] at h
  show G u 0 [(0, .ref (a 2))] []
  refine rl_aload_n hG dX2_takeSort_0 rfl 0 rfl ?_
  refine rl_ldcs hG (strX_7 xx) dX2_takeSort_1 ?_
  obtain ⟨x1, u2, hx1q, zx1, h⟩ := o2z_ok h
  refine rl_callVi hG (roX_ok xx) (As := [.ref (xx.1 7)]) (kX2_takeWord l D a cI cT aS xx u 7 x1 u2 (Nat.le_of_ble_eq_true rfl) hx1q) gX2_takeSort_X2_takeWord rfl 2 (gX_2 a cI cT u) hcX2 1 rfl (by decide +kernel) rfl rfl (by decide) (Nat.le_of_ble_eq_true rfl) rfl dX2_takeSort_3 ?_
  refine rl_if_eq hG (tgt := 11) dX2_takeSort_6 (by decide) (fun c3 => ?_) (fun c3 => ?_)
  · have h := it_t h c3
    refine rl_aload_n hG dX2_takeSort_11 rfl 0 rfl ?_
    refine rl_ldcs hG (strX_8 xx) dX2_takeSort_12 ?_
    obtain ⟨x4, u5, hx4q, zx4, h⟩ := o2z_ok h
    refine rl_callVi hG (roX_ok xx) (As := [.ref (xx.1 8)]) (kX2_takeWord l D a cI cT aS xx u2 8 x4 u5 (Nat.le_of_ble_eq_true rfl) hx4q) gX2_takeSort_X2_takeWord rfl 2 (gX_2 a cI cT u2) hcX2 1 rfl (by decide +kernel) rfl rfl (by decide) (Nat.le_of_ble_eq_true rfl) rfl dX2_takeSort_14 ?_
    refine rl_if_eq hG (tgt := 22) dX2_takeSort_17 (by decide) (fun c6 => ?_) (fun c6 => ?_)
    · have h := it_t h c6
      refine rl_aload_n hG dX2_takeSort_22 rfl 0 rfl ?_
      refine rl_ldcs hG (strX_9 xx) dX2_takeSort_23 ?_
      obtain ⟨x7, u8, hx7q, zx7, h⟩ := o2z_ok h
      refine rl_callVi hG (roX_ok xx) (As := [.ref (xx.1 9)]) (kX2_takeWord l D a cI cT aS xx u5 9 x7 u8 (Nat.le_of_ble_eq_true rfl) hx7q) gX2_takeSort_X2_takeWord rfl 2 (gX_2 a cI cT u5) hcX2 1 rfl (by decide +kernel) rfl rfl (by decide) (Nat.le_of_ble_eq_true rfl) rfl dX2_takeSort_25 ?_
      refine rl_if_eq hG (tgt := 33) dX2_takeSort_28 (by decide) (fun c9 => ?_) (fun c9 => ?_)
      · have h := it_t h c9
        refine rl_aload_n hG dX2_takeSort_33 rfl 0 rfl ?_
        refine rl_ldcs hG (strX_10 xx) dX2_takeSort_34 ?_
        obtain ⟨x10, u11, hx10q, zx10, h⟩ := o2z_ok h
        refine rl_callVi hG (roX_ok xx) (As := [.ref (xx.1 10)]) (kX2_takeWord l D a cI cT aS xx u8 10 x10 u11 (Nat.le_of_ble_eq_true rfl) hx10q) gX2_takeSort_X2_takeWord rfl 2 (gX_2 a cI cT u8) hcX2 1 rfl (by decide +kernel) rfl rfl (by decide) (Nat.le_of_ble_eq_true rfl) rfl dX2_takeSort_36 ?_
        refine rl_if_eq hG (tgt := 46) dX2_takeSort_39 (by decide) (fun c12 => ?_) (fun c12 => ?_)
        · have h := it_t h c12
          refine rl_iconst hG (v := -1) dX2_takeSort_46 (by decide) ?_
          exact rl_ret2 hret h rfl dX2_takeSort_47
        · have h := it_f h c12
          refine rl_iconst hG (v := 3) dX2_takeSort_42 (by decide) ?_
          refine rl_goto hG (tgt := 47) dX2_takeSort_43 (by decide) ?_
          exact rl_ret2 hret h rfl dX2_takeSort_47
      · have h := it_f h c9
        refine rl_iconst hG (v := 2) dX2_takeSort_31 (by decide) ?_
        exact rl_ret2 hret h rfl dX2_takeSort_32
    · have h := it_f h c6
      refine rl_iconst hG (v := 1) dX2_takeSort_20 (by decide) ?_
      exact rl_ret2 hret h rfl dX2_takeSort_21
  · have h := it_f h c3
    refine rl_iconst hG (v := 0) dX2_takeSort_9 (by decide) ?_
    exact rl_ret2 hret h rfl dX2_takeSort_10
def fX2_readPart (u : St) (sx : Nat) (p2 : Int32) (p3 : Int32) (p4 : Int32) : Option (Int32 × St) := o2z (fX2_takeWord u sx) (fun x1 u2 => (if x1 = (0 : Int32) then some ((1 : Int32), u2) else o2 (fX2_takeNumber u2 p3 p4 (-1 : Int32)) (fun x4 u5 => (if x4 = (-1 : Int32) then some ((0 : Int32), u5) else asr u5 10 56 p2 x4 (fun u7 => some ((1 : Int32), u7))))))
theorem nX2_readPart_0 : Cond.fieldLink RX2 9 "WhoseWork$Reader" "cells" "[I" ∈ wsX2_readPart := by decide +kernel
theorem iX2_readPart_X2 : ∀ w ∈ wsX20, w ∈ wsX2_readPart := by decide +kernel
set_option maxRecDepth 100000 in
set_option maxHeartbeats 4000000 in
theorem kX2_readPart (l : Launch) (D : va_G) (a : Nat → Nat) (cI cT : ClassId) (aS : Nat → Prop) (xx : Rx) (u : St) (sx : Nat) (p2 : Int32) (p3 : Int32) (p4 : Int32) (r : Int32) (τ : St) (hsx : sx < 11) (h0 : fX2_readPart u sx p2 p3 p4 = some (r, τ)) : rl_Mi l yX2_readPart wsX2_readPart ({ frames := 5, cells := 0, slots := 0, locals := 107 } : Room) D (tyX cI cT) (wX a cI cT) (roX xx) aS [.ref (a 2), .ref (xx.1 sx), .int p2, .int p3, .int p4] u r τ := by
  refine rl_meth_i (cc := cX2_readPart) (maxL := 6) (own := RX2) (ty := .boolean) (by decide) rfl rfl (Nat.le_of_ble_eq_true rfl) ?_
  intro G hG hret
  have h := h0
  rw [fX2_readPart] at h
  show G u 0 [(0, .ref (a 2)), (1, .ref (xx.1 sx)), (2, .int p2), (3, .int p3), (4, .int p4)] []
  refine rl_aload_n hG dX2_readPart_0 rfl 0 rfl ?_
  refine rl_aload_n hG dX2_readPart_1 rfl 1 rfl ?_
  obtain ⟨x1, u2, hx1q, zx1, h⟩ := o2z_ok h
  refine rl_callVi hG (roX_ok xx) (As := [.ref (xx.1 sx)]) (kX2_takeWord l D a cI cT aS xx u sx x1 u2 hsx hx1q) gX2_readPart_X2_takeWord rfl 2 (gX_2 a cI cT u) hcX2 1 rfl (by decide +kernel) rfl rfl (by decide) (Nat.le_of_ble_eq_true rfl) rfl dX2_readPart_2 ?_
  refine rl_if_ne hG (tgt := 10) dX2_readPart_5 (by decide) (fun c3 => ?_) (fun c3 => ?_)
  · have h := it_f h c3
    refine rl_aload_n hG dX2_readPart_10 rfl 0 rfl ?_
    refine rl_iload_n hG dX2_readPart_11 rfl 3 rfl ?_
    refine rl_iload hG dX2_readPart_12 4 rfl ?_
    refine rl_iconst hG (v := -1) dX2_readPart_14 (by decide) ?_
    obtain ⟨x4, u5, hx4q, h⟩ := o2_ok h
    refine rl_callVi hG (roX_ok xx) (As := [.int p3, .int p4, .int (-1 : Int32)]) (kX2_takeNumber l D a cI cT aS xx u2 p3 p4 (-1 : Int32) x4 u5  hx4q) gX2_readPart_X2_takeNumber rfl 2 (gX_2 a cI cT u2) hcX2 3 rfl (by decide +kernel) rfl rfl (by decide) (Nat.le_of_ble_eq_true rfl) rfl dX2_readPart_15 ?_
    refine rl_istore hG [(5, .int x4), (0, .ref (a 2)), (1, .ref (xx.1 sx)), (2, .int p2), (3, .int p3), (4, .int p4)] dX2_readPart_18 (Nat.le_of_ble_eq_true rfl) rfl rfl ?_
    refine rl_iload hG dX2_readPart_20 0 rfl ?_
    refine rl_iconst hG (v := -1) dX2_readPart_22 (by decide) ?_
    refine rl_icmp_ne hG (tgt := 28) dX2_readPart_23 (by decide) (fun c6 => ?_) (fun c6 => ?_)
    · have h := it_f h c6
      refine rl_aload_n hG dX2_readPart_28 rfl 1 rfl ?_
      refine rl_get hG iX2_readPart_X2 2 (gX_2 a cI cT u5) hcX2 4 (Nat.le_of_ble_eq_true rfl) nX2_readPart_0 rfl dX2_readPart_29 ?_
      refine rl_iload_n hG dX2_readPart_32 rfl 3 rfl ?_
      refine rl_iload hG dX2_readPart_33 0 rfl ?_
      obtain ⟨u7, iu7, eu7, h⟩ := asr_ok h
      refine rl_iast hG 10 0 (gX_10 a cI cT u5) rfl iu7 (σ' := u7) ((sX_10 a cI cT u5 _).trans (congrArg _ eu7.symm)) dX2_readPart_35 ?_
      refine rl_iconst hG (v := 1) dX2_readPart_36 (by decide) ?_
      exact rl_ret2 hret h rfl dX2_readPart_37
    · have h := it_t h c6
      refine rl_iconst hG (v := 0) dX2_readPart_26 (by decide) ?_
      exact rl_ret2 hret h rfl dX2_readPart_27
  · have h := it_t h c3
    refine rl_iconst hG (v := 1) dX2_readPart_8 (by decide) ?_
    exact rl_ret2 hret h rfl dX2_readPart_9
def fX2_readReach (u : St)  (p1 : Int32) : Option (Int32 × St) := asr u 10 56 (p1 + (3 : Int32)) (-1 : Int32) (fun u1 => asr u1 10 56 (p1 + (4 : Int32)) (-1 : Int32) (fun u2 => asr u2 10 56 (p1 + (5 : Int32)) (0 : Int32) (fun u3 => asr u3 10 56 (p1 + (6 : Int32)) (9 : Int32) (fun u4 => o2z (fX2_takeWord u4 2) (fun x5 u6 => (if x5 = (0 : Int32) then bd (u6 2 2) (fun x8 => o2z (fX2_readPart u6 3 (p1 + (3 : Int32)) (0 : Int32) (5 : Int32)) (fun x9 u10 => (if x9 = (0 : Int32) then some ((0 : Int32), u10) else o2z (fX2_readPart u10 4 (p1 + (4 : Int32)) (0 : Int32) (3 : Int32)) (fun x12 u13 => (if x12 = (0 : Int32) then some ((0 : Int32), u13) else o2z (fX2_readPart u13 5 (p1 + (5 : Int32)) (0 : Int32) (9 : Int32)) (fun x15 u16 => (if x15 = (0 : Int32) then some ((0 : Int32), u16) else ald u16 10 56 (p1 + (5 : Int32)) (fun x18 => o2z (fX2_readPart u16 6 (p1 + (6 : Int32)) x18 (9 : Int32)) (fun x19 u20 => (if x19 = (0 : Int32) then some ((0 : Int32), u20) else (if (u20 2 2) = x8 then some ((0 : Int32), u20) else some ((1 : Int32), u20)))))))))))) else some ((1 : Int32), u6)))))))
theorem nX2_readReach_0 : Cond.fieldLink RX2 9 "WhoseWork$Reader" "cells" "[I" ∈ wsX2_readReach := by decide +kernel
theorem nX2_readReach_1 : Cond.fieldLink RX2 33 "WhoseWork$Reader" "start" "I" ∈ wsX2_readReach := by decide +kernel
theorem iX2_readReach_X2 : ∀ w ∈ wsX20, w ∈ wsX2_readReach := by decide +kernel
set_option maxRecDepth 100000 in
set_option maxHeartbeats 4000000 in
theorem kX2_readReach (l : Launch) (D : va_G) (a : Nat → Nat) (cI cT : ClassId) (aS : Nat → Prop) (xx : Rx) (u : St)  (p1 : Int32) (r : Int32) (τ : St)  (h0 : fX2_readReach u p1 = some (r, τ)) : rl_Mi l yX2_readReach wsX2_readReach ({ frames := 6, cells := 0, slots := 0, locals := 132 } : Room) D (tyX cI cT) (wX a cI cT) (roX xx) aS [.ref (a 2), .int p1] u r τ := by
  refine rl_meth_i (cc := cX2_readReach) (maxL := 3) (own := RX2) (ty := .boolean) (by decide) rfl rfl (Nat.le_of_ble_eq_true rfl) ?_
  intro G hG hret
  have h := h0
  rw [fX2_readReach] at h
  show G u 0 [(0, .ref (a 2)), (1, .int p1)] []
  refine rl_aload_n hG dX2_readReach_0 rfl 0 rfl ?_
  refine rl_get hG iX2_readReach_X2 2 (gX_2 a cI cT u) hcX2 4 (Nat.le_of_ble_eq_true rfl) nX2_readReach_0 rfl dX2_readReach_1 ?_
  refine rl_iload_n hG dX2_readReach_4 rfl 1 rfl ?_
  refine rl_iconst hG (v := 3) dX2_readReach_5 (by decide) ?_
  refine rl_iadd hG dX2_readReach_6 ?_
  refine rl_iconst hG (v := -1) dX2_readReach_7 (by decide) ?_
  obtain ⟨u1, iu1, eu1, h⟩ := asr_ok h
  refine rl_iast hG 10 0 (gX_10 a cI cT u) rfl iu1 (σ' := u1) ((sX_10 a cI cT u _).trans (congrArg _ eu1.symm)) dX2_readReach_8 ?_
  refine rl_aload_n hG dX2_readReach_9 rfl 0 rfl ?_
  refine rl_get hG iX2_readReach_X2 2 (gX_2 a cI cT u1) hcX2 4 (Nat.le_of_ble_eq_true rfl) nX2_readReach_0 rfl dX2_readReach_10 ?_
  refine rl_iload_n hG dX2_readReach_13 rfl 1 rfl ?_
  refine rl_iconst hG (v := 4) dX2_readReach_14 (by decide) ?_
  refine rl_iadd hG dX2_readReach_15 ?_
  refine rl_iconst hG (v := -1) dX2_readReach_16 (by decide) ?_
  obtain ⟨u2, iu2, eu2, h⟩ := asr_ok h
  refine rl_iast hG 10 0 (gX_10 a cI cT u1) rfl iu2 (σ' := u2) ((sX_10 a cI cT u1 _).trans (congrArg _ eu2.symm)) dX2_readReach_17 ?_
  refine rl_aload_n hG dX2_readReach_18 rfl 0 rfl ?_
  refine rl_get hG iX2_readReach_X2 2 (gX_2 a cI cT u2) hcX2 4 (Nat.le_of_ble_eq_true rfl) nX2_readReach_0 rfl dX2_readReach_19 ?_
  refine rl_iload_n hG dX2_readReach_22 rfl 1 rfl ?_
  refine rl_iconst hG (v := 5) dX2_readReach_23 (by decide) ?_
  refine rl_iadd hG dX2_readReach_24 ?_
  refine rl_iconst hG (v := 0) dX2_readReach_25 (by decide) ?_
  obtain ⟨u3, iu3, eu3, h⟩ := asr_ok h
  refine rl_iast hG 10 0 (gX_10 a cI cT u2) rfl iu3 (σ' := u3) ((sX_10 a cI cT u2 _).trans (congrArg _ eu3.symm)) dX2_readReach_26 ?_
  refine rl_aload_n hG dX2_readReach_27 rfl 0 rfl ?_
  refine rl_get hG iX2_readReach_X2 2 (gX_2 a cI cT u3) hcX2 4 (Nat.le_of_ble_eq_true rfl) nX2_readReach_0 rfl dX2_readReach_28 ?_
  refine rl_iload_n hG dX2_readReach_31 rfl 1 rfl ?_
  refine rl_bipush hG (v := 6) dX2_readReach_32 (by decide) ?_
  refine rl_iadd hG dX2_readReach_34 ?_
  refine rl_bipush hG (v := 9) dX2_readReach_35 (by decide) ?_
  obtain ⟨u4, iu4, eu4, h⟩ := asr_ok h
  refine rl_iast hG 10 0 (gX_10 a cI cT u3) rfl iu4 (σ' := u4) ((sX_10 a cI cT u3 _).trans (congrArg _ eu4.symm)) dX2_readReach_37 ?_
  refine rl_aload_n hG dX2_readReach_38 rfl 0 rfl ?_
  refine rl_ldcs hG (strX_2 xx) dX2_readReach_39 ?_
  obtain ⟨x5, u6, hx5q, zx5, h⟩ := o2z_ok h
  refine rl_callVi hG (roX_ok xx) (As := [.ref (xx.1 2)]) (kX2_takeWord l D a cI cT aS xx u4 2 x5 u6 (Nat.le_of_ble_eq_true rfl) hx5q) gX2_readReach_X2_takeWord rfl 2 (gX_2 a cI cT u4) hcX2 1 rfl (by decide +kernel) rfl rfl (by decide) (Nat.le_of_ble_eq_true rfl) rfl dX2_readReach_41 ?_
  refine rl_if_eq hG (tgt := 49) dX2_readReach_44 (by decide) (fun c7 => ?_) (fun c7 => ?_)
  · have h := it_t h c7
    refine rl_aload_n hG dX2_readReach_49 rfl 0 rfl ?_
    refine rl_get hG iX2_readReach_X2 2 (gX_2 a cI cT u6) hcX2 2 (Nat.le_of_ble_eq_true rfl) nX2_readReach_1 rfl dX2_readReach_50 ?_
    obtain ⟨x8, ex8, h⟩ := bd_ok h
    refine rl_istore_n hG [(2, .int x8), (0, .ref (a 2)), (1, .int p1)] dX2_readReach_53 rfl (Nat.le_of_ble_eq_true rfl) ex8 rfl ?_
    refine rl_aload_n hG dX2_readReach_54 rfl 1 rfl ?_
    refine rl_ldcs hG (strX_3 xx) dX2_readReach_55 ?_
    refine rl_iload_n hG dX2_readReach_57 rfl 2 rfl ?_
    refine rl_iconst hG (v := 3) dX2_readReach_58 (by decide) ?_
    refine rl_iadd hG dX2_readReach_59 ?_
    refine rl_iconst hG (v := 0) dX2_readReach_60 (by decide) ?_
    refine rl_iconst hG (v := 5) dX2_readReach_61 (by decide) ?_
    obtain ⟨x9, u10, hx9q, zx9, h⟩ := o2z_ok h
    refine rl_callVi hG (roX_ok xx) (As := [.ref (xx.1 3), .int (p1 + (3 : Int32)), .int (0 : Int32), .int (5 : Int32)]) (kX2_readPart l D a cI cT aS xx u6 3 (p1 + (3 : Int32)) (0 : Int32) (5 : Int32) x9 u10 (Nat.le_of_ble_eq_true rfl) hx9q) gX2_readReach_X2_readPart rfl 2 (gX_2 a cI cT u6) hcX2 4 rfl (by decide +kernel) rfl rfl (by decide) (Nat.le_of_ble_eq_true rfl) rfl dX2_readReach_62 ?_
    refine rl_if_eq hG (tgt := 132) dX2_readReach_65 (by decide) (fun c11 => ?_) (fun c11 => ?_)
    · have h := it_t h c11
      refine rl_iconst hG (v := 0) dX2_readReach_132 (by decide) ?_
      exact rl_ret2 hret h rfl dX2_readReach_133
    · have h := it_f h c11
      refine rl_aload_n hG dX2_readReach_68 rfl 1 rfl ?_
      refine rl_ldcs hG (strX_4 xx) dX2_readReach_69 ?_
      refine rl_iload_n hG dX2_readReach_71 rfl 2 rfl ?_
      refine rl_iconst hG (v := 4) dX2_readReach_72 (by decide) ?_
      refine rl_iadd hG dX2_readReach_73 ?_
      refine rl_iconst hG (v := 0) dX2_readReach_74 (by decide) ?_
      refine rl_iconst hG (v := 3) dX2_readReach_75 (by decide) ?_
      obtain ⟨x12, u13, hx12q, zx12, h⟩ := o2z_ok h
      refine rl_callVi hG (roX_ok xx) (As := [.ref (xx.1 4), .int (p1 + (4 : Int32)), .int (0 : Int32), .int (3 : Int32)]) (kX2_readPart l D a cI cT aS xx u10 4 (p1 + (4 : Int32)) (0 : Int32) (3 : Int32) x12 u13 (Nat.le_of_ble_eq_true rfl) hx12q) gX2_readReach_X2_readPart rfl 2 (gX_2 a cI cT u10) hcX2 4 rfl (by decide +kernel) rfl rfl (by decide) (Nat.le_of_ble_eq_true rfl) rfl dX2_readReach_76 ?_
      refine rl_if_eq hG (tgt := 132) dX2_readReach_79 (by decide) (fun c14 => ?_) (fun c14 => ?_)
      · have h := it_t h c14
        refine rl_iconst hG (v := 0) dX2_readReach_132 (by decide) ?_
        exact rl_ret2 hret h rfl dX2_readReach_133
      · have h := it_f h c14
        refine rl_aload_n hG dX2_readReach_82 rfl 1 rfl ?_
        refine rl_ldcs hG (strX_5 xx) dX2_readReach_83 ?_
        refine rl_iload_n hG dX2_readReach_85 rfl 2 rfl ?_
        refine rl_iconst hG (v := 5) dX2_readReach_86 (by decide) ?_
        refine rl_iadd hG dX2_readReach_87 ?_
        refine rl_iconst hG (v := 0) dX2_readReach_88 (by decide) ?_
        refine rl_bipush hG (v := 9) dX2_readReach_89 (by decide) ?_
        obtain ⟨x15, u16, hx15q, zx15, h⟩ := o2z_ok h
        refine rl_callVi hG (roX_ok xx) (As := [.ref (xx.1 5), .int (p1 + (5 : Int32)), .int (0 : Int32), .int (9 : Int32)]) (kX2_readPart l D a cI cT aS xx u13 5 (p1 + (5 : Int32)) (0 : Int32) (9 : Int32) x15 u16 (Nat.le_of_ble_eq_true rfl) hx15q) gX2_readReach_X2_readPart rfl 2 (gX_2 a cI cT u13) hcX2 4 rfl (by decide +kernel) rfl rfl (by decide) (Nat.le_of_ble_eq_true rfl) rfl dX2_readReach_91 ?_
        refine rl_if_eq hG (tgt := 132) dX2_readReach_94 (by decide) (fun c17 => ?_) (fun c17 => ?_)
        · have h := it_t h c17
          refine rl_iconst hG (v := 0) dX2_readReach_132 (by decide) ?_
          exact rl_ret2 hret h rfl dX2_readReach_133
        · have h := it_f h c17
          refine rl_aload_n hG dX2_readReach_97 rfl 1 rfl ?_
          refine rl_ldcs hG (strX_6 xx) dX2_readReach_98 ?_
          refine rl_iload_n hG dX2_readReach_100 rfl 2 rfl ?_
          refine rl_bipush hG (v := 6) dX2_readReach_101 (by decide) ?_
          refine rl_iadd hG dX2_readReach_103 ?_
          refine rl_aload_n hG dX2_readReach_104 rfl 1 rfl ?_
          refine rl_get hG iX2_readReach_X2 2 (gX_2 a cI cT u16) hcX2 4 (Nat.le_of_ble_eq_true rfl) nX2_readReach_0 rfl dX2_readReach_105 ?_
          refine rl_iload_n hG dX2_readReach_108 rfl 2 rfl ?_
          refine rl_iconst hG (v := 5) dX2_readReach_109 (by decide) ?_
          refine rl_iadd hG dX2_readReach_110 ?_
          obtain ⟨x18, ix18, ex18, h⟩ := ald_ok h
          refine rl_iald hG 10 0 (gX_10 a cI cT u16) rfl ix18 ex18 dX2_readReach_111 ?_
          refine rl_bipush hG (v := 9) dX2_readReach_112 (by decide) ?_
          obtain ⟨x19, u20, hx19q, zx19, h⟩ := o2z_ok h
          refine rl_callVi hG (roX_ok xx) (As := [.ref (xx.1 6), .int (p1 + (6 : Int32)), .int x18, .int (9 : Int32)]) (kX2_readPart l D a cI cT aS xx u16 6 (p1 + (6 : Int32)) x18 (9 : Int32) x19 u20 (Nat.le_of_ble_eq_true rfl) hx19q) gX2_readReach_X2_readPart rfl 2 (gX_2 a cI cT u16) hcX2 4 rfl (by decide +kernel) rfl rfl (by decide) (Nat.le_of_ble_eq_true rfl) rfl dX2_readReach_114 ?_
          refine rl_if_eq hG (tgt := 132) dX2_readReach_117 (by decide) (fun c21 => ?_) (fun c21 => ?_)
          · have h := it_t h c21
            refine rl_iconst hG (v := 0) dX2_readReach_132 (by decide) ?_
            exact rl_ret2 hret h rfl dX2_readReach_133
          · have h := it_f h c21
            refine rl_aload_n hG dX2_readReach_120 rfl 1 rfl ?_
            refine rl_get hG iX2_readReach_X2 2 (gX_2 a cI cT u20) hcX2 2 (Nat.le_of_ble_eq_true rfl) nX2_readReach_1 rfl dX2_readReach_121 ?_
            refine rl_iload_n hG dX2_readReach_124 rfl 0 rfl ?_
            refine rl_icmp_eq hG (tgt := 132) dX2_readReach_125 (by decide) (fun c22 => ?_) (fun c22 => ?_)
            · have h := it_t h c22
              refine rl_iconst hG (v := 0) dX2_readReach_132 (by decide) ?_
              exact rl_ret2 hret h rfl dX2_readReach_133
            · have h := it_f h c22
              refine rl_iconst hG (v := 1) dX2_readReach_128 (by decide) ?_
              refine rl_goto hG (tgt := 133) dX2_readReach_129 (by decide) ?_
              exact rl_ret2 hret h rfl dX2_readReach_133
  · have h := it_f h c7
    refine rl_iconst hG (v := 1) dX2_readReach_47 (by decide) ?_
    exact rl_ret2 hret h rfl dX2_readReach_48
def fX2_readLine_L92   (u : St) (v1 : Int32) (v3 : Int32) (v4 : Int32) (v5 : Int32) : Option (Int32 × St) := asr u 10 56 (v1 + (0 : Int32)) v4 (fun u1 => asr u1 10 56 (v1 + (1 : Int32)) v3 (fun u2 => asr u2 10 56 (v1 + (2 : Int32)) v5 (fun u3 => o2z (fX2_readReach u3 v1) (fun x4 u5 => rb x4 (fun y => some (y, u5))))))
def fX2_readLine_L76   (u : St) (v1 : Int32) (v3 : Int32) (v4 : Int32) (w0 : Int32) : Option (Int32 × St) := (if v4 = (3 : Int32) then (if w0 = (-1 : Int32) then some ((0 : Int32), u) else fX2_readLine_L92 u v1 v3 v4 w0) else fX2_readLine_L92 u v1 v3 v4 w0)
def fX2_readLine_L49   (u : St) (v1 : Int32) (v3 : Int32) (w0 : Int32) : Option (Int32 × St) := (if w0 = (-1 : Int32) then some ((0 : Int32), u) else (if w0 = (3 : Int32) then o2 (fX2_takeNumber u (0 : Int32) (5 : Int32) v3) (fun x10 u11 => fX2_readLine_L76 u11 v1 v3 w0 x10) else fX2_readLine_L76 u v1 v3 w0 (-1 : Int32)))
def fX2_readLine_L22   (u : St) (v1 : Int32) (v2 : Int32) : Option (Int32 × St) := o2 (fX2_takeNumber u (0 : Int32) (5 : Int32) (-1 : Int32)) (fun x12 u13 => (if x12 = (-1 : Int32) then some ((0 : Int32), u13) else (if v2 = (0 : Int32) then o2 (fX2_takeSort u13) (fun x16 u17 => fX2_readLine_L49 u17 v1 x12 x16) else fX2_readLine_L49 u13 v1 x12 (4 : Int32))))
def fX2_readLine (u : St)  (p1 : Int32) : Option (Int32 × St) := o2z (fX2_takeWord u 0) (fun x18 u19 => (if x18 = (0 : Int32) then o2z (fX2_takeWord u19 1) (fun x21 u22 => (if x21 = (0 : Int32) then some ((0 : Int32), u22) else fX2_readLine_L22 u22 p1 x18)) else fX2_readLine_L22 u19 p1 x18))
theorem nX2_readLine_0 : Cond.fieldLink RX2 9 "WhoseWork$Reader" "cells" "[I" ∈ wsX2_readLine := by decide +kernel
theorem iX2_readLine_X2 : ∀ w ∈ wsX20, w ∈ wsX2_readLine := by decide +kernel
set_option maxRecDepth 100000 in
set_option maxHeartbeats 4000000 in
theorem kX2_readLine (l : Launch) (D : va_G) (a : Nat → Nat) (cI cT : ClassId) (aS : Nat → Prop) (xx : Rx) (u : St)  (p1 : Int32) (r : Int32) (τ : St)  (h0 : fX2_readLine u p1 = some (r, τ)) : rl_Mi l yX2_readLine wsX2_readLine ({ frames := 7, cells := 0, slots := 0, locals := 154 } : Room) D (tyX cI cT) (wX a cI cT) (roX xx) aS [.ref (a 2), .int p1] u r τ := by
  refine rl_meth_i (cc := cX2_readLine) (maxL := 6) (own := RX2) (ty := .boolean) (by decide) rfl rfl (Nat.le_of_ble_eq_true rfl) ?_
  intro G hG hret
  have H92 : ∀ (u : St) (v1 : Int32) (v3 : Int32) (v4 : Int32) (v5 : Int32), fX2_readLine_L92 u v1 v3 v4 v5 = some (r, τ) → G u 92 [(0, .ref (a 2)), (1, .int v1), (3, .int v3), (4, .int v4), (5, .int v5)] [] := by
    intro  u v1 v3 v4 v5 h
    rw [fX2_readLine_L92] at h
    refine rl_aload_n hG dX2_readLine_92 rfl 0 rfl ?_
    refine rl_get hG iX2_readLine_X2 2 (gX_2 a cI cT u) hcX2 4 (Nat.le_of_ble_eq_true rfl) nX2_readLine_0 rfl dX2_readLine_93 ?_
    refine rl_iload_n hG dX2_readLine_96 rfl 1 rfl ?_
    refine rl_iconst hG (v := 0) dX2_readLine_97 (by decide) ?_
    refine rl_iadd hG dX2_readLine_98 ?_
    refine rl_iload hG dX2_readLine_99 3 rfl ?_
    obtain ⟨u1, iu1, eu1, h⟩ := asr_ok h
    refine rl_iast hG 10 0 (gX_10 a cI cT u) rfl iu1 (σ' := u1) ((sX_10 a cI cT u _).trans (congrArg _ eu1.symm)) dX2_readLine_101 ?_
    refine rl_aload_n hG dX2_readLine_102 rfl 0 rfl ?_
    refine rl_get hG iX2_readLine_X2 2 (gX_2 a cI cT u1) hcX2 4 (Nat.le_of_ble_eq_true rfl) nX2_readLine_0 rfl dX2_readLine_103 ?_
    refine rl_iload_n hG dX2_readLine_106 rfl 1 rfl ?_
    refine rl_iconst hG (v := 1) dX2_readLine_107 (by decide) ?_
    refine rl_iadd hG dX2_readLine_108 ?_
    refine rl_iload_n hG dX2_readLine_109 rfl 2 rfl ?_
    obtain ⟨u2, iu2, eu2, h⟩ := asr_ok h
    refine rl_iast hG 10 0 (gX_10 a cI cT u1) rfl iu2 (σ' := u2) ((sX_10 a cI cT u1 _).trans (congrArg _ eu2.symm)) dX2_readLine_110 ?_
    refine rl_aload_n hG dX2_readLine_111 rfl 0 rfl ?_
    refine rl_get hG iX2_readLine_X2 2 (gX_2 a cI cT u2) hcX2 4 (Nat.le_of_ble_eq_true rfl) nX2_readLine_0 rfl dX2_readLine_112 ?_
    refine rl_iload_n hG dX2_readLine_115 rfl 1 rfl ?_
    refine rl_iconst hG (v := 2) dX2_readLine_116 (by decide) ?_
    refine rl_iadd hG dX2_readLine_117 ?_
    refine rl_iload hG dX2_readLine_118 4 rfl ?_
    obtain ⟨u3, iu3, eu3, h⟩ := asr_ok h
    refine rl_iast hG 10 0 (gX_10 a cI cT u2) rfl iu3 (σ' := u3) ((sX_10 a cI cT u2 _).trans (congrArg _ eu3.symm)) dX2_readLine_120 ?_
    refine rl_aload_n hG dX2_readLine_121 rfl 0 rfl ?_
    refine rl_iload_n hG dX2_readLine_122 rfl 1 rfl ?_
    obtain ⟨x4, u5, hx4q, zx4, h⟩ := o2z_ok h
    refine rl_callVi hG (roX_ok xx) (As := [.int v1]) (kX2_readReach l D a cI cT aS xx u3 v1 x4 u5  hx4q) gX2_readLine_X2_readReach rfl 2 (gX_2 a cI cT u3) hcX2 1 rfl (by decide +kernel) rfl rfl (by decide) (Nat.le_of_ble_eq_true rfl) rfl dX2_readLine_123 ?_
    obtain ⟨hz, h⟩ := rb_ok h
    exact rl_ret2 hret h (na_z hz) dX2_readLine_126
  have H76 : ∀ (u : St) (v1 : Int32) (v3 : Int32) (v4 : Int32) (w0 : Int32), fX2_readLine_L76 u v1 v3 v4 w0 = some (r, τ) → G u 76 [(0, .ref (a 2)), (1, .int v1), (3, .int v3), (4, .int v4)] [.int w0] := by
    intro  u v1 v3 v4 w0 h
    rw [fX2_readLine_L76] at h
    refine rl_istore hG [(5, .int w0), (0, .ref (a 2)), (1, .int v1), (3, .int v3), (4, .int v4)] dX2_readLine_76 (Nat.le_of_ble_eq_true rfl) rfl rfl ?_
    refine rl_iload hG dX2_readLine_78 4 rfl ?_
    refine rl_iconst hG (v := 3) dX2_readLine_80 (by decide) ?_
    refine rl_icmp_ne hG (tgt := 92) dX2_readLine_81 (by decide) (fun c6 => ?_) (fun c6 => ?_)
    · have h := it_f h c6
      exact rl_lvs hG [1, 2, 3, 4, 0] rfl (H92 u v1 v3 v4 w0 h)
    · have h := it_t h c6
      refine rl_iload hG dX2_readLine_84 0 rfl ?_
      refine rl_iconst hG (v := -1) dX2_readLine_86 (by decide) ?_
      refine rl_icmp_ne hG (tgt := 92) dX2_readLine_87 (by decide) (fun c7 => ?_) (fun c7 => ?_)
      · have h := it_f h c7
        exact rl_lvs hG [1, 2, 3, 4, 0] rfl (H92 u v1 v3 v4 w0 h)
      · have h := it_t h c7
        refine rl_iconst hG (v := 0) dX2_readLine_90 (by decide) ?_
        exact rl_ret2 hret h rfl dX2_readLine_91
  have H49 : ∀ (u : St) (v1 : Int32) (v3 : Int32) (w0 : Int32), fX2_readLine_L49 u v1 v3 w0 = some (r, τ) → G u 49 [(0, .ref (a 2)), (1, .int v1), (3, .int v3)] [.int w0] := by
    intro  u v1 v3 w0 h
    rw [fX2_readLine_L49] at h
    refine rl_istore hG [(4, .int w0), (0, .ref (a 2)), (1, .int v1), (3, .int v3)] dX2_readLine_49 (Nat.le_of_ble_eq_true rfl) rfl rfl ?_
    refine rl_iload hG dX2_readLine_51 0 rfl ?_
    refine rl_iconst hG (v := -1) dX2_readLine_53 (by decide) ?_
    refine rl_icmp_ne hG (tgt := 59) dX2_readLine_54 (by decide) (fun c8 => ?_) (fun c8 => ?_)
    · have h := it_f h c8
      refine rl_iload hG dX2_readLine_59 0 rfl ?_
      refine rl_iconst hG (v := 3) dX2_readLine_61 (by decide) ?_
      refine rl_icmp_ne hG (tgt := 75) dX2_readLine_62 (by decide) (fun c9 => ?_) (fun c9 => ?_)
      · have h := it_f h c9
        refine rl_iconst hG (v := -1) dX2_readLine_75 (by decide) ?_
        exact rl_lvs hG [1, 2, 3, 0] rfl (H76 u v1 v3 w0 (-1 : Int32) h)
      · have h := it_t h c9
        refine rl_aload_n hG dX2_readLine_65 rfl 1 rfl ?_
        refine rl_iconst hG (v := 0) dX2_readLine_66 (by decide) ?_
        refine rl_iconst hG (v := 5) dX2_readLine_67 (by decide) ?_
        refine rl_iload_n hG dX2_readLine_68 rfl 3 rfl ?_
        obtain ⟨x10, u11, hx10q, h⟩ := o2_ok h
        refine rl_callVi hG (roX_ok xx) (As := [.int (0 : Int32), .int (5 : Int32), .int v3]) (kX2_takeNumber l D a cI cT aS xx u (0 : Int32) (5 : Int32) v3 x10 u11  hx10q) gX2_readLine_X2_takeNumber rfl 2 (gX_2 a cI cT u) hcX2 3 rfl (by decide +kernel) rfl rfl (by decide) (Nat.le_of_ble_eq_true rfl) rfl dX2_readLine_69 ?_
        refine rl_goto hG (tgt := 76) dX2_readLine_72 (by decide) ?_
        exact rl_lvs hG [1, 2, 3, 0] rfl (H76 u11 v1 v3 w0 x10 h)
    · have h := it_t h c8
      refine rl_iconst hG (v := 0) dX2_readLine_57 (by decide) ?_
      exact rl_ret2 hret h rfl dX2_readLine_58
  have H22 : ∀ (u : St) (v1 : Int32) (v2 : Int32), fX2_readLine_L22 u v1 v2 = some (r, τ) → G u 22 [(0, .ref (a 2)), (1, .int v1), (2, .int v2)] [] := by
    intro  u v1 v2 h
    rw [fX2_readLine_L22] at h
    refine rl_aload_n hG dX2_readLine_22 rfl 0 rfl ?_
    refine rl_iconst hG (v := 0) dX2_readLine_23 (by decide) ?_
    refine rl_iconst hG (v := 5) dX2_readLine_24 (by decide) ?_
    refine rl_iconst hG (v := -1) dX2_readLine_25 (by decide) ?_
    obtain ⟨x12, u13, hx12q, h⟩ := o2_ok h
    refine rl_callVi hG (roX_ok xx) (As := [.int (0 : Int32), .int (5 : Int32), .int (-1 : Int32)]) (kX2_takeNumber l D a cI cT aS xx u (0 : Int32) (5 : Int32) (-1 : Int32) x12 u13  hx12q) gX2_readLine_X2_takeNumber rfl 2 (gX_2 a cI cT u) hcX2 3 rfl (by decide +kernel) rfl rfl (by decide) (Nat.le_of_ble_eq_true rfl) rfl dX2_readLine_26 ?_
    refine rl_istore_n hG [(3, .int x12), (0, .ref (a 2)), (1, .int v1), (2, .int v2)] dX2_readLine_29 rfl (Nat.le_of_ble_eq_true rfl) rfl rfl ?_
    refine rl_iload_n hG dX2_readLine_30 rfl 0 rfl ?_
    refine rl_iconst hG (v := -1) dX2_readLine_31 (by decide) ?_
    refine rl_icmp_ne hG (tgt := 37) dX2_readLine_32 (by decide) (fun c14 => ?_) (fun c14 => ?_)
    · have h := it_f h c14
      refine rl_iload_n hG dX2_readLine_37 rfl 3 rfl ?_
      refine rl_if_eq hG (tgt := 45) dX2_readLine_38 (by decide) (fun c15 => ?_) (fun c15 => ?_)
      · have h := it_t h c15
        refine rl_aload_n hG dX2_readLine_45 rfl 1 rfl ?_
        obtain ⟨x16, u17, hx16q, h⟩ := o2_ok h
        refine rl_callVi hG (roX_ok xx) (As := []) (kX2_takeSort l D a cI cT aS xx u13  x16 u17  hx16q) gX2_readLine_X2_takeSort rfl 2 (gX_2 a cI cT u13) hcX2 0 rfl (by decide +kernel) rfl rfl (by decide) (Nat.le_of_ble_eq_true rfl) rfl dX2_readLine_46 ?_
        exact rl_lvs hG [1, 2, 0] rfl (H49 u17 v1 x12 x16 h)
      · have h := it_f h c15
        refine rl_iconst hG (v := 4) dX2_readLine_41 (by decide) ?_
        refine rl_goto hG (tgt := 49) dX2_readLine_42 (by decide) ?_
        exact rl_lvs hG [1, 2, 0] rfl (H49 u13 v1 x12 (4 : Int32) h)
    · have h := it_t h c14
      refine rl_iconst hG (v := 0) dX2_readLine_35 (by decide) ?_
      exact rl_ret2 hret h rfl dX2_readLine_36
  have h := h0
  rw [fX2_readLine] at h
  show G u 0 [(0, .ref (a 2)), (1, .int p1)] []
  refine rl_aload_n hG dX2_readLine_0 rfl 0 rfl ?_
  refine rl_ldcs hG (strX_0 xx) dX2_readLine_1 ?_
  obtain ⟨x18, u19, hx18q, zx18, h⟩ := o2z_ok h
  refine rl_callVi hG (roX_ok xx) (As := [.ref (xx.1 0)]) (kX2_takeWord l D a cI cT aS xx u 0 x18 u19 (Nat.le_of_ble_eq_true rfl) hx18q) gX2_readLine_X2_takeWord rfl 2 (gX_2 a cI cT u) hcX2 1 rfl (by decide +kernel) rfl rfl (by decide) (Nat.le_of_ble_eq_true rfl) rfl dX2_readLine_3 ?_
  refine rl_istore_n hG [(2, .int x18), (0, .ref (a 2)), (1, .int p1)] dX2_readLine_6 rfl (Nat.le_of_ble_eq_true rfl) rfl rfl ?_
  refine rl_iload_n hG dX2_readLine_7 rfl 0 rfl ?_
  refine rl_if_ne hG (tgt := 22) dX2_readLine_8 (by decide) (fun c20 => ?_) (fun c20 => ?_)
  · have h := it_f h c20
    exact rl_lvs hG [1, 2, 0] rfl (H22 u19 p1 x18 h)
  · have h := it_t h c20
    refine rl_aload_n hG dX2_readLine_11 rfl 1 rfl ?_
    refine rl_ldcs hG (strX_1 xx) dX2_readLine_12 ?_
    obtain ⟨x21, u22, hx21q, zx21, h⟩ := o2z_ok h
    refine rl_callVi hG (roX_ok xx) (As := [.ref (xx.1 1)]) (kX2_takeWord l D a cI cT aS xx u19 1 x21 u22 (Nat.le_of_ble_eq_true rfl) hx21q) gX2_readLine_X2_takeWord rfl 2 (gX_2 a cI cT u19) hcX2 1 rfl (by decide +kernel) rfl rfl (by decide) (Nat.le_of_ble_eq_true rfl) rfl dX2_readLine_14 ?_
    refine rl_if_ne hG (tgt := 22) dX2_readLine_17 (by decide) (fun c23 => ?_) (fun c23 => ?_)
    · have h := it_f h c23
      exact rl_lvs hG [1, 2, 0] rfl (H22 u22 p1 x18 h)
    · have h := it_t h c23
      refine rl_iconst hG (v := 0) dX2_readLine_20 (by decide) ?_
      exact rl_ret2 hret h rfl dX2_readLine_21
def fX2_takeSemicolon (u : St)   : Option (Int32 × St) := (if (u 2 1) = (3 : Int32) then ald u 9 160 (u 2 2) (fun x2 => (if x2 = (59 : Int32) then o1 (fX2_nextToken u) (fun u4 => some ((1 : Int32), u4)) else some ((0 : Int32), u))) else some ((0 : Int32), u))
theorem nX2_takeSemicolon_0 : Cond.fieldLink RX2 40 "WhoseWork$Reader" "kind" "I" ∈ wsX2_takeSemicolon := by decide +kernel
theorem nX2_takeSemicolon_1 : Cond.fieldLink RX2 15 "WhoseWork$Reader" "text" "LWhoseWork$Text;" ∈ wsX2_takeSemicolon := by decide +kernel
theorem nX2_takeSemicolon_2 : Cond.fieldLink RX2 89 "WhoseWork$Text" "bytes" "[I" ∈ wsX2_takeSemicolon := by decide +kernel
theorem nX2_takeSemicolon_3 : Cond.fieldLink RX2 33 "WhoseWork$Reader" "start" "I" ∈ wsX2_takeSemicolon := by decide +kernel
theorem iX2_takeSemicolon_X2 : ∀ w ∈ wsX20, w ∈ wsX2_takeSemicolon := by decide +kernel
theorem iX2_takeSemicolon_X5 : ∀ w ∈ wsX50, w ∈ wsX2_takeSemicolon := by decide +kernel
set_option maxRecDepth 100000 in
set_option maxHeartbeats 4000000 in
theorem kX2_takeSemicolon (l : Launch) (D : va_G) (a : Nat → Nat) (cI cT : ClassId) (aS : Nat → Prop) (xx : Rx) (u : St)   (r : Int32) (τ : St)  (h0 : fX2_takeSemicolon u = some (r, τ)) : rl_Mi l yX2_takeSemicolon wsX2_takeSemicolon ({ frames := 2, cells := 0, slots := 0, locals := 42 } : Room) D (tyX cI cT) (wX a cI cT) (roX xx) aS [.ref (a 2)] u r τ := by
  refine rl_meth_i (cc := cX2_takeSemicolon) (maxL := 1) (own := RX2) (ty := .boolean) (by decide) rfl rfl (Nat.le_of_ble_eq_true rfl) ?_
  intro G hG hret
  have h := h0
  rw [fX2_takeSemicolon] at h
  show G u 0 [(0, .ref (a 2))] []
  refine rl_aload_n hG dX2_takeSemicolon_0 rfl 0 rfl ?_
  refine rl_get hG iX2_takeSemicolon_X2 2 (gX_2 a cI cT u) hcX2 1 (Nat.le_of_ble_eq_true rfl) nX2_takeSemicolon_0 rfl dX2_takeSemicolon_1 ?_
  refine rl_iconst hG (v := 3) dX2_takeSemicolon_4 (by decide) ?_
  refine rl_icmp_ne hG (tgt := 25) dX2_takeSemicolon_5 (by decide) (fun c1 => ?_) (fun c1 => ?_)
  · have h := it_f h c1
    refine rl_iconst hG (v := 0) dX2_takeSemicolon_25 (by decide) ?_
    exact rl_ret2 hret h rfl dX2_takeSemicolon_26
  · have h := it_t h c1
    refine rl_aload_n hG dX2_takeSemicolon_8 rfl 0 rfl ?_
    refine rl_get hG iX2_takeSemicolon_X2 2 (gX_2 a cI cT u) hcX2 0 (Nat.le_of_ble_eq_true rfl) nX2_takeSemicolon_1 rfl dX2_takeSemicolon_9 ?_
    refine rl_get hG iX2_takeSemicolon_X5 1 (gX_1 a cI cT u) hcX5 0 (Nat.le_of_ble_eq_true rfl) nX2_takeSemicolon_2 rfl dX2_takeSemicolon_12 ?_
    refine rl_aload_n hG dX2_takeSemicolon_15 rfl 0 rfl ?_
    refine rl_get hG iX2_takeSemicolon_X2 2 (gX_2 a cI cT u) hcX2 2 (Nat.le_of_ble_eq_true rfl) nX2_takeSemicolon_3 rfl dX2_takeSemicolon_16 ?_
    obtain ⟨x2, ix2, ex2, h⟩ := ald_ok h
    refine rl_iald hG 9 0 (gX_9 a cI cT u) rfl ix2 ex2 dX2_takeSemicolon_19 ?_
    refine rl_bipush hG (v := 59) dX2_takeSemicolon_20 (by decide) ?_
    refine rl_icmp_eq hG (tgt := 27) dX2_takeSemicolon_22 (by decide) (fun c3 => ?_) (fun c3 => ?_)
    · have h := it_t h c3
      refine rl_aload_n hG dX2_takeSemicolon_27 rfl 0 rfl ?_
      obtain ⟨u4, hu4q, h⟩ := o1_ok h
      refine rl_callVv hG (roX_ok xx) (As := []) (kX2_nextToken l D a cI cT aS xx u  u4  hu4q) gX2_takeSemicolon_X2_nextToken rfl 2 (gX_2 a cI cT u) hcX2 0 rfl (by decide +kernel) rfl rfl (by decide) (Nat.le_of_ble_eq_true rfl) rfl dX2_takeSemicolon_28 ?_
      refine rl_iconst hG (v := 1) dX2_takeSemicolon_31 (by decide) ?_
      exact rl_ret2 hret h rfl dX2_takeSemicolon_32
    · have h := it_f h c3
      refine rl_iconst hG (v := 0) dX2_takeSemicolon_25 (by decide) ?_
      exact rl_ret2 hret h rfl dX2_takeSemicolon_26
def fX2_readText_L75  (k18 : St → Int32 → Int32 → Option (Int32 × St)) (u : St) (v2 : Int32) (w0 : Int32) : Option (Int32 × St) := bd (v2 + (1 : Int32)) (fun x1 => k18 u w0 x1)
def fX2_readText_L74  (k18 : St → Int32 → Int32 → Option (Int32 × St)) (u : St) (v2 : Int32) : Option (Int32 × St) := fX2_readText_L75 k18 u v2 (0 : Int32)
def fX2_readText_L82   (u : St) : Option (Int32 × St) := (if (u 2 1) = (0 : Int32) then some ((-1 : Int32), u) else some ((u 2 2), u))
def fX2_readText_L18   : Nat → St → Int32 → Int32 → Option (Int32 × St)
  | 0 => fun _ _ _ => none
  | n + 1 => fun u v1 v2 => (if (8 : Int32) ≤ v2 then fX2_readText_L82 u else (if v1 = (0 : Int32) then fX2_readText_L82 u else o2z (fX2_readLine u (v2 * (7 : Int32))) (fun x5 u6 => (if x5 = (0 : Int32) then some ((u6 2 2), u6) else bd (st_wr u6 2 5 ((u6 2 5) + (1 : Int32))) (fun u8 => (if (8 : Int32) ≤ (u8 2 5) then fX2_readText_L74 (fX2_readText_L18 n) u8 v2 else o2z (fX2_takeSemicolon u8) (fun x10 u11 => (if x10 = (0 : Int32) then fX2_readText_L74 (fX2_readText_L18 n) u11 v2 else fX2_readText_L75 (fX2_readText_L18 n) u11 v2 (1 : Int32)))))))))
def fX2_readText (u : St)   : Option (Int32 × St) := bd (st_wr u 2 5 (0 : Int32)) (fun u13 => bd (st_wr u13 2 3 (0 : Int32)) (fun u14 => o1 (fX2_nextToken u14) (fun u15 => fX2_readText_L18 2000 u15 (1 : Int32) (0 : Int32))))
theorem nX2_readText_0 : Cond.fieldLink RX2 40 "WhoseWork$Reader" "kind" "I" ∈ wsX2_readText := by decide +kernel
theorem nX2_readText_1 : Cond.fieldLink RX2 33 "WhoseWork$Reader" "start" "I" ∈ wsX2_readText := by decide +kernel
theorem nX2_readText_2 : Cond.fieldLink RX2 19 "WhoseWork$Reader" "lines" "I" ∈ wsX2_readText := by decide +kernel
theorem nX2_readText_3 : Cond.fieldLink RX2 23 "WhoseWork$Reader" "end" "I" ∈ wsX2_readText := by decide +kernel
theorem iX2_readText_X2 : ∀ w ∈ wsX20, w ∈ wsX2_readText := by decide +kernel
set_option maxRecDepth 100000 in
set_option maxHeartbeats 4000000 in
theorem kX2_readText (l : Launch) (D : va_G) (a : Nat → Nat) (cI cT : ClassId) (aS : Nat → Prop) (xx : Rx) (u : St)   (r : Int32) (τ : St)  (h0 : fX2_readText u = some (r, τ)) : rl_Mi l yX2_readText wsX2_readText ({ frames := 8, cells := 0, slots := 0, locals := 179 } : Room) D (tyX cI cT) (wX a cI cT) (roX xx) aS [.ref (a 2)] u r τ := by
  refine rl_meth_i (cc := cX2_readText) (maxL := 3) (own := RX2) (ty := .int) (by decide) rfl rfl (Nat.le_of_ble_eq_true rfl) ?_
  intro G hG hret
  have H75 : ∀ (k18 : St → Int32 → Int32 → Option (Int32 × St)) (hk18 : ∀ (u : St) (v1 : Int32) (v2 : Int32), k18 u v1 v2 = some (r, τ) → G u 18 [(0, .ref (a 2)), (1, .int v1), (2, .int v2)] []), ∀ (u : St) (v2 : Int32) (w0 : Int32), fX2_readText_L75 k18 u v2 w0 = some (r, τ) → G u 75 [(0, .ref (a 2)), (2, .int v2)] [.int w0] := by
    intro k18 hk18 u v2 w0 h
    rw [fX2_readText_L75] at h
    refine rl_istore_n hG [(1, .int w0), (0, .ref (a 2)), (2, .int v2)] dX2_readText_75 rfl (Nat.le_of_ble_eq_true rfl) rfl rfl ?_
    obtain ⟨x1, ex1, h⟩ := bd_ok h
    refine rl_iinc hG [(2, .int x1), (1, .int w0), (0, .ref (a 2))] dX2_readText_76 2 rfl (by rw [ex1]; rfl) (Nat.le_of_ble_eq_true rfl) rfl ?_
    refine rl_goto hG (tgt := 18) dX2_readText_79 (by decide) ?_
    exact rl_lvs hG [2, 1, 0] rfl (hk18 u w0 x1 h)
  have H74 : ∀ (k18 : St → Int32 → Int32 → Option (Int32 × St)) (hk18 : ∀ (u : St) (v1 : Int32) (v2 : Int32), k18 u v1 v2 = some (r, τ) → G u 18 [(0, .ref (a 2)), (1, .int v1), (2, .int v2)] []), ∀ (u : St) (v2 : Int32), fX2_readText_L74 k18 u v2 = some (r, τ) → G u 74 [(0, .ref (a 2)), (2, .int v2)] [] := by
    intro k18 hk18 u v2 h
    rw [fX2_readText_L74] at h
    refine rl_iconst hG (v := 0) dX2_readText_74 (by decide) ?_
    exact rl_lvs hG [0, 1] rfl (H75 (k18) (hk18) u v2 (0 : Int32) h)
  have H82 : ∀ (u : St), fX2_readText_L82 u = some (r, τ) → G u 82 [(0, .ref (a 2))] [] := by
    intro  u h
    rw [fX2_readText_L82] at h
    refine rl_aload_n hG dX2_readText_82 rfl 0 rfl ?_
    refine rl_get hG iX2_readText_X2 2 (gX_2 a cI cT u) hcX2 1 (Nat.le_of_ble_eq_true rfl) nX2_readText_0 rfl dX2_readText_83 ?_
    refine rl_if_ne hG (tgt := 93) dX2_readText_86 (by decide) (fun c2 => ?_) (fun c2 => ?_)
    · have h := it_f h c2
      refine rl_aload_n hG dX2_readText_93 rfl 0 rfl ?_
      refine rl_get hG iX2_readText_X2 2 (gX_2 a cI cT u) hcX2 2 (Nat.le_of_ble_eq_true rfl) nX2_readText_1 rfl dX2_readText_94 ?_
      exact rl_ret2 hret h rfl dX2_readText_97
    · have h := it_t h c2
      refine rl_iconst hG (v := -1) dX2_readText_89 (by decide) ?_
      refine rl_goto hG (tgt := 97) dX2_readText_90 (by decide) ?_
      exact rl_ret2 hret h rfl dX2_readText_97
  have H18 : ∀ (n : Nat) (u : St) (v1 : Int32) (v2 : Int32), fX2_readText_L18 n u v1 v2 = some (r, τ) → G u 18 [(0, .ref (a 2)), (1, .int v1), (2, .int v2)] [] := by
    intro n
    induction n with
    | zero =>
      intro u v1 v2 h
      exact absurd h (by rw [fX2_readText_L18]; exact fun q => by cases q)
    | succ n ih =>
      intro u v1 v2 h
      rw [fX2_readText_L18] at h
      refine rl_iload_n hG dX2_readText_18 rfl 2 rfl ?_
      refine rl_bipush hG (v := 8) dX2_readText_19 (by decide) ?_
      refine rl_icmp_ge hG (tgt := 82) dX2_readText_21 (by decide) (fun c3 => ?_) (fun c3 => ?_)
      · have h := it_t h c3
        exact rl_lvs hG [0] rfl (H82 u h)
      · have h := it_f h c3
        refine rl_iload_n hG dX2_readText_24 rfl 1 rfl ?_
        refine rl_if_eq hG (tgt := 82) dX2_readText_25 (by decide) (fun c4 => ?_) (fun c4 => ?_)
        · have h := it_t h c4
          exact rl_lvs hG [0] rfl (H82 u h)
        · have h := it_f h c4
          refine rl_aload_n hG dX2_readText_28 rfl 0 rfl ?_
          refine rl_iload_n hG dX2_readText_29 rfl 2 rfl ?_
          refine rl_bipush hG (v := 7) dX2_readText_30 (by decide) ?_
          refine rl_imul hG dX2_readText_32 ?_
          obtain ⟨x5, u6, hx5q, zx5, h⟩ := o2z_ok h
          refine rl_callVi hG (roX_ok xx) (As := [.int (v2 * (7 : Int32))]) (kX2_readLine l D a cI cT aS xx u (v2 * (7 : Int32)) x5 u6  hx5q) gX2_readText_X2_readLine rfl 2 (gX_2 a cI cT u) hcX2 1 rfl (by decide +kernel) rfl rfl (by decide) (Nat.le_of_ble_eq_true rfl) rfl dX2_readText_33 ?_
          refine rl_if_ne hG (tgt := 44) dX2_readText_36 (by decide) (fun c7 => ?_) (fun c7 => ?_)
          · have h := it_f h c7
            refine rl_aload_n hG dX2_readText_44 rfl 0 rfl ?_
            refine rl_dup hG dX2_readText_45 rfl ?_
            refine rl_get hG iX2_readText_X2 2 (gX_2 a cI cT u6) hcX2 5 (Nat.le_of_ble_eq_true rfl) nX2_readText_2 rfl dX2_readText_46 ?_
            refine rl_iconst hG (v := 1) dX2_readText_49 (by decide) ?_
            refine rl_iadd hG dX2_readText_50 ?_
            obtain ⟨u8, eu8, h⟩ := bd_ok h
            refine rl_put hG iX2_readText_X2 tyX2 tyX2_ok nmX2 2 (gX_2 a cI cT u6) hcX2 5 (Nat.le_of_ble_eq_true rfl) nX2_readText_2 rfl rfl (Nat.le_of_ble_eq_true rfl) (σ' := u8) ((sX_2_5 a cI cT u6 _).trans (congrArg _ eu8.symm)) dX2_readText_51 ?_
            refine rl_aload_n hG dX2_readText_54 rfl 0 rfl ?_
            refine rl_get hG iX2_readText_X2 2 (gX_2 a cI cT u8) hcX2 5 (Nat.le_of_ble_eq_true rfl) nX2_readText_2 rfl dX2_readText_55 ?_
            refine rl_bipush hG (v := 8) dX2_readText_58 (by decide) ?_
            refine rl_icmp_ge hG (tgt := 74) dX2_readText_60 (by decide) (fun c9 => ?_) (fun c9 => ?_)
            · have h := it_t h c9
              exact rl_lvs hG [0, 2] rfl (H74 (fX2_readText_L18 n) (ih) u8 v2 h)
            · have h := it_f h c9
              refine rl_aload_n hG dX2_readText_63 rfl 0 rfl ?_
              obtain ⟨x10, u11, hx10q, zx10, h⟩ := o2z_ok h
              refine rl_callVi hG (roX_ok xx) (As := []) (kX2_takeSemicolon l D a cI cT aS xx u8  x10 u11  hx10q) gX2_readText_X2_takeSemicolon rfl 2 (gX_2 a cI cT u8) hcX2 0 rfl (by decide +kernel) rfl rfl (by decide) (Nat.le_of_ble_eq_true rfl) rfl dX2_readText_64 ?_
              refine rl_if_eq hG (tgt := 74) dX2_readText_67 (by decide) (fun c12 => ?_) (fun c12 => ?_)
              · have h := it_t h c12
                exact rl_lvs hG [0, 2] rfl (H74 (fX2_readText_L18 n) (ih) u11 v2 h)
              · have h := it_f h c12
                refine rl_iconst hG (v := 1) dX2_readText_70 (by decide) ?_
                refine rl_goto hG (tgt := 75) dX2_readText_71 (by decide) ?_
                exact rl_lvs hG [0, 2] rfl (H75 (fX2_readText_L18 n) (ih) u11 v2 (1 : Int32) h)
          · have h := it_t h c7
            refine rl_aload_n hG dX2_readText_39 rfl 0 rfl ?_
            refine rl_get hG iX2_readText_X2 2 (gX_2 a cI cT u6) hcX2 2 (Nat.le_of_ble_eq_true rfl) nX2_readText_1 rfl dX2_readText_40 ?_
            exact rl_ret2 hret h rfl dX2_readText_43
  have h := h0
  rw [fX2_readText] at h
  show G u 0 [(0, .ref (a 2))] []
  refine rl_aload_n hG dX2_readText_0 rfl 0 rfl ?_
  refine rl_iconst hG (v := 0) dX2_readText_1 (by decide) ?_
  obtain ⟨u13, eu13, h⟩ := bd_ok h
  refine rl_put hG iX2_readText_X2 tyX2 tyX2_ok nmX2 2 (gX_2 a cI cT u) hcX2 5 (Nat.le_of_ble_eq_true rfl) nX2_readText_2 rfl rfl (Nat.le_of_ble_eq_true rfl) (σ' := u13) ((sX_2_5 a cI cT u _).trans (congrArg _ eu13.symm)) dX2_readText_2 ?_
  refine rl_aload_n hG dX2_readText_5 rfl 0 rfl ?_
  refine rl_iconst hG (v := 0) dX2_readText_6 (by decide) ?_
  obtain ⟨u14, eu14, h⟩ := bd_ok h
  refine rl_put hG iX2_readText_X2 tyX2 tyX2_ok nmX2 2 (gX_2 a cI cT u13) hcX2 3 (Nat.le_of_ble_eq_true rfl) nX2_readText_3 rfl rfl (Nat.le_of_ble_eq_true rfl) (σ' := u14) ((sX_2_3 a cI cT u13 _).trans (congrArg _ eu14.symm)) dX2_readText_7 ?_
  refine rl_aload_n hG dX2_readText_10 rfl 0 rfl ?_
  obtain ⟨u15, hu15q, h⟩ := o1_ok h
  refine rl_callVv hG (roX_ok xx) (As := []) (kX2_nextToken l D a cI cT aS xx u14  u15  hu15q) gX2_readText_X2_nextToken rfl 2 (gX_2 a cI cT u14) hcX2 0 rfl (by decide +kernel) rfl rfl (by decide) (Nat.le_of_ble_eq_true rfl) rfl dX2_readText_11 ?_
  refine rl_iconst hG (v := 1) dX2_readText_14 (by decide) ?_
  refine rl_istore_n hG [(1, .int (1 : Int32)), (0, .ref (a 2))] dX2_readText_15 rfl (Nat.le_of_ble_eq_true rfl) rfl rfl ?_
  refine rl_iconst hG (v := 0) dX2_readText_16 (by decide) ?_
  refine rl_istore_n hG [(2, .int (0 : Int32)), (1, .int (1 : Int32)), (0, .ref (a 2))] dX2_readText_17 rfl (Nat.le_of_ble_eq_true rfl) rfl rfl ?_
  exact rl_lvs hG [2, 1, 0] rfl (H18 2000 u15 (1 : Int32) (0 : Int32) h)
def fX3_addSeizure (u : St)  (p1 : Int32) (p2 : Int32) (p3 : Int32) : Option (St) := asr u 20 16 (u 7 3) p1 (fun u1 => asr u1 21 16 (u1 7 3) p2 (fun u2 => asr u2 22 16 (u2 7 3) p3 (fun u3 => bd (st_wr u3 7 3 ((u3 7 3) + (1 : Int32))) (fun u4 => some u4))))
theorem nX3_addSeizure_0 : Cond.fieldLink RX3 9 "WhoseWork$Seizures" "guilds" "[I" ∈ wsX3_addSeizure := by decide +kernel
theorem nX3_addSeizure_1 : Cond.fieldLink RX3 21 "WhoseWork$Seizures" "size" "I" ∈ wsX3_addSeizure := by decide +kernel
theorem nX3_addSeizure_2 : Cond.fieldLink RX3 15 "WhoseWork$Seizures" "works" "[I" ∈ wsX3_addSeizure := by decide +kernel
theorem nX3_addSeizure_3 : Cond.fieldLink RX3 18 "WhoseWork$Seizures" "boundsThen" "[I" ∈ wsX3_addSeizure := by decide +kernel
theorem iX3_addSeizure_X3 : ∀ w ∈ wsX30, w ∈ wsX3_addSeizure := by decide +kernel
set_option maxRecDepth 100000 in
set_option maxHeartbeats 4000000 in
theorem kX3_addSeizure (l : Launch) (D : va_G) (a : Nat → Nat) (cI cT : ClassId) (aS : Nat → Prop) (xx : Rx) (u : St)  (p1 : Int32) (p2 : Int32) (p3 : Int32) (τ : St)  (h0 : fX3_addSeizure u p1 p2 p3 = some τ) : rl_Mv l yX3_addSeizure wsX3_addSeizure ({ frames := 0, cells := 0, slots := 0, locals := 0 } : Room) D (tyX cI cT) (wX a cI cT) (roX xx) aS [.ref (a 7), .int p1, .int p2, .int p3] u τ := by
  refine rl_meth_v (cc := cX3_addSeizure) (maxL := 4) (own := RX3) (by decide) rfl rfl (Nat.le_of_ble_eq_true rfl) ?_
  intro G hG hret
  have h := h0
  rw [fX3_addSeizure] at h
  show G u 0 [(0, .ref (a 7)), (1, .int p1), (2, .int p2), (3, .int p3)] []
  refine rl_aload_n hG dX3_addSeizure_0 rfl 0 rfl ?_
  refine rl_get hG iX3_addSeizure_X3 7 (gX_7 a cI cT u) hcX3 0 (Nat.le_of_ble_eq_true rfl) nX3_addSeizure_0 rfl dX3_addSeizure_1 ?_
  refine rl_aload_n hG dX3_addSeizure_4 rfl 0 rfl ?_
  refine rl_get hG iX3_addSeizure_X3 7 (gX_7 a cI cT u) hcX3 3 (Nat.le_of_ble_eq_true rfl) nX3_addSeizure_1 rfl dX3_addSeizure_5 ?_
  refine rl_iload_n hG dX3_addSeizure_8 rfl 1 rfl ?_
  obtain ⟨u1, iu1, eu1, h⟩ := asr_ok h
  refine rl_iast hG 20 0 (gX_20 a cI cT u) rfl iu1 (σ' := u1) ((sX_20 a cI cT u _).trans (congrArg _ eu1.symm)) dX3_addSeizure_9 ?_
  refine rl_aload_n hG dX3_addSeizure_10 rfl 0 rfl ?_
  refine rl_get hG iX3_addSeizure_X3 7 (gX_7 a cI cT u1) hcX3 1 (Nat.le_of_ble_eq_true rfl) nX3_addSeizure_2 rfl dX3_addSeizure_11 ?_
  refine rl_aload_n hG dX3_addSeizure_14 rfl 0 rfl ?_
  refine rl_get hG iX3_addSeizure_X3 7 (gX_7 a cI cT u1) hcX3 3 (Nat.le_of_ble_eq_true rfl) nX3_addSeizure_1 rfl dX3_addSeizure_15 ?_
  refine rl_iload_n hG dX3_addSeizure_18 rfl 2 rfl ?_
  obtain ⟨u2, iu2, eu2, h⟩ := asr_ok h
  refine rl_iast hG 21 0 (gX_21 a cI cT u1) rfl iu2 (σ' := u2) ((sX_21 a cI cT u1 _).trans (congrArg _ eu2.symm)) dX3_addSeizure_19 ?_
  refine rl_aload_n hG dX3_addSeizure_20 rfl 0 rfl ?_
  refine rl_get hG iX3_addSeizure_X3 7 (gX_7 a cI cT u2) hcX3 2 (Nat.le_of_ble_eq_true rfl) nX3_addSeizure_3 rfl dX3_addSeizure_21 ?_
  refine rl_aload_n hG dX3_addSeizure_24 rfl 0 rfl ?_
  refine rl_get hG iX3_addSeizure_X3 7 (gX_7 a cI cT u2) hcX3 3 (Nat.le_of_ble_eq_true rfl) nX3_addSeizure_1 rfl dX3_addSeizure_25 ?_
  refine rl_iload_n hG dX3_addSeizure_28 rfl 3 rfl ?_
  obtain ⟨u3, iu3, eu3, h⟩ := asr_ok h
  refine rl_iast hG 22 0 (gX_22 a cI cT u2) rfl iu3 (σ' := u3) ((sX_22 a cI cT u2 _).trans (congrArg _ eu3.symm)) dX3_addSeizure_29 ?_
  refine rl_aload_n hG dX3_addSeizure_30 rfl 0 rfl ?_
  refine rl_dup hG dX3_addSeizure_31 rfl ?_
  refine rl_get hG iX3_addSeizure_X3 7 (gX_7 a cI cT u3) hcX3 3 (Nat.le_of_ble_eq_true rfl) nX3_addSeizure_1 rfl dX3_addSeizure_32 ?_
  refine rl_iconst hG (v := 1) dX3_addSeizure_35 (by decide) ?_
  refine rl_iadd hG dX3_addSeizure_36 ?_
  obtain ⟨u4, eu4, h⟩ := bd_ok h
  refine rl_put hG iX3_addSeizure_X3 tyX3 tyX3_ok nmX3 7 (gX_7 a cI cT u3) hcX3 3 (Nat.le_of_ble_eq_true rfl) nX3_addSeizure_1 rfl rfl (Nat.le_of_ble_eq_true rfl) (σ' := u4) ((sX_7_3 a cI cT u3 _).trans (congrArg _ eu4.symm)) dX3_addSeizure_37 ?_
  exact rl_retv hret h dX3_addSeizure_40
def fX3_isRight (u : St)  (p1 : Int32) : Option (Int32) := ald u 20 16 p1 (fun x1 => ald u 21 16 p1 (fun x2 => ald u 22 16 p1 (fun x3 => o1 (fX0_leave u x1 x2 (((1 : Int32) <<< (x3 &&& 31)) - (1 : Int32))) (fun x4 => (if x4 = (0 : Int32) then some (1 : Int32) else some (0 : Int32))))))
theorem nX3_isRight_0 : Cond.fieldLink RX3 9 "WhoseWork$Seizures" "guilds" "[I" ∈ wsX3_isRight := by decide +kernel
theorem nX3_isRight_1 : Cond.fieldLink RX3 15 "WhoseWork$Seizures" "works" "[I" ∈ wsX3_isRight := by decide +kernel
theorem nX3_isRight_2 : Cond.fieldLink RX3 18 "WhoseWork$Seizures" "boundsThen" "[I" ∈ wsX3_isRight := by decide +kernel
theorem iX3_isRight_X3 : ∀ w ∈ wsX30, w ∈ wsX3_isRight := by decide +kernel
set_option maxRecDepth 100000 in
set_option maxHeartbeats 4000000 in
theorem kX3_isRight (l : Launch) (D : va_G) (a : Nat → Nat) (cI cT : ClassId) (aS : Nat → Prop) (xx : Rx) (u : St)  (p1 : Int32) (r : Int32)  (h0 : fX3_isRight u p1 = some r) : rl_Mi l yX3_isRight wsX3_isRight ({ frames := 3, cells := 0, slots := 0, locals := 72 } : Room) D (tyX cI cT) (wX a cI cT) (roX xx) aS [.ref (a 7), .int p1, .ref (a 3)] u r u := by
  refine rl_meth_i (cc := cX3_isRight) (maxL := 3) (own := RX3) (ty := .boolean) (by decide) rfl rfl (Nat.le_of_ble_eq_true rfl) ?_
  intro G hG hret
  have h := h0
  rw [fX3_isRight] at h
  show G u 0 [(0, .ref (a 7)), (1, .int p1), (2, .ref (a 3))] []
  refine rl_aload_n hG dX3_isRight_0 rfl 2 rfl ?_
  refine rl_aload_n hG dX3_isRight_1 rfl 0 rfl ?_
  refine rl_get hG iX3_isRight_X3 7 (gX_7 a cI cT u) hcX3 0 (Nat.le_of_ble_eq_true rfl) nX3_isRight_0 rfl dX3_isRight_2 ?_
  refine rl_iload_n hG dX3_isRight_5 rfl 1 rfl ?_
  obtain ⟨x1, ix1, ex1, h⟩ := ald_ok h
  refine rl_iald hG 20 0 (gX_20 a cI cT u) rfl ix1 ex1 dX3_isRight_6 ?_
  refine rl_aload_n hG dX3_isRight_7 rfl 0 rfl ?_
  refine rl_get hG iX3_isRight_X3 7 (gX_7 a cI cT u) hcX3 1 (Nat.le_of_ble_eq_true rfl) nX3_isRight_1 rfl dX3_isRight_8 ?_
  refine rl_iload_n hG dX3_isRight_11 rfl 1 rfl ?_
  obtain ⟨x2, ix2, ex2, h⟩ := ald_ok h
  refine rl_iald hG 21 0 (gX_21 a cI cT u) rfl ix2 ex2 dX3_isRight_12 ?_
  refine rl_iconst hG (v := 1) dX3_isRight_13 (by decide) ?_
  refine rl_aload_n hG dX3_isRight_14 rfl 0 rfl ?_
  refine rl_get hG iX3_isRight_X3 7 (gX_7 a cI cT u) hcX3 2 (Nat.le_of_ble_eq_true rfl) nX3_isRight_2 rfl dX3_isRight_15 ?_
  refine rl_iload_n hG dX3_isRight_18 rfl 1 rfl ?_
  obtain ⟨x3, ix3, ex3, h⟩ := ald_ok h
  refine rl_iald hG 22 0 (gX_22 a cI cT u) rfl ix3 ex3 dX3_isRight_19 ?_
  refine rl_ishl hG dX3_isRight_20 ?_
  refine rl_iconst hG (v := 1) dX3_isRight_21 (by decide) ?_
  refine rl_isub hG dX3_isRight_22 ?_
  obtain ⟨x4, hx4q, h⟩ := o1_ok h
  refine rl_callVi hG (roX_ok xx) (As := [.int x1, .int x2, .int (((1 : Int32) <<< (x3 &&& 31)) - (1 : Int32))]) (kX0_leave l D a cI cT aS xx u x1 x2 (((1 : Int32) <<< (x3 &&& 31)) - (1 : Int32)) x4  hx4q) gX3_isRight_X0_leave rfl 3 (gX_3 a cI cT u) hcX0 3 rfl (by decide +kernel) rfl rfl (by decide) (Nat.le_of_ble_eq_true rfl) rfl dX3_isRight_23 ?_
  refine rl_if_ne hG (tgt := 33) dX3_isRight_26 (by decide) (fun c5 => ?_) (fun c5 => ?_)
  · have h := it_f h c5
    refine rl_iconst hG (v := 0) dX3_isRight_33 (by decide) ?_
    exact rl_ret1 hret h rfl dX3_isRight_34
  · have h := it_t h c5
    refine rl_iconst hG (v := 1) dX3_isRight_29 (by decide) ?_
    refine rl_goto hG (tgt := 34) dX3_isRight_30 (by decide) ?_
    exact rl_ret1 hret h rfl dX3_isRight_34
def fX3_firstWrong_L2 (u : St)  : Nat → Int32 → Option (Int32)
  | 0 => fun _ => none
  | n + 1 => fun v2 => (if (u 7 3) ≤ v2 then some (-1 : Int32) else oz (fX3_isRight u v2) (fun x2 => (if x2 = (0 : Int32) then some v2 else bd (v2 + (1 : Int32)) (fun x4 => fX3_firstWrong_L2 u n x4))))
def fX3_firstWrong (u : St)   : Option (Int32) := fX3_firstWrong_L2 u 2000 (0 : Int32)
theorem nX3_firstWrong_0 : Cond.fieldLink RX3 21 "WhoseWork$Seizures" "size" "I" ∈ wsX3_firstWrong := by decide +kernel
theorem iX3_firstWrong_X3 : ∀ w ∈ wsX30, w ∈ wsX3_firstWrong := by decide +kernel
set_option maxRecDepth 100000 in
set_option maxHeartbeats 4000000 in
theorem kX3_firstWrong (l : Launch) (D : va_G) (a : Nat → Nat) (cI cT : ClassId) (aS : Nat → Prop) (xx : Rx) (u : St)   (r : Int32)  (h0 : fX3_firstWrong u = some r) : rl_Mi l yX3_firstWrong wsX3_firstWrong ({ frames := 4, cells := 0, slots := 0, locals := 94 } : Room) D (tyX cI cT) (wX a cI cT) (roX xx) aS [.ref (a 7), .ref (a 3)] u r u := by
  refine rl_meth_i (cc := cX3_firstWrong) (maxL := 3) (own := RX3) (ty := .int) (by decide) rfl rfl (Nat.le_of_ble_eq_true rfl) ?_
  intro G hG hret
  have H2 : ∀ (n : Nat) (v2 : Int32), fX3_firstWrong_L2 u n v2 = some r → G u 2 [(0, .ref (a 7)), (1, .ref (a 3)), (2, .int v2)] [] := by
    intro n
    induction n with
    | zero =>
      intro v2 h
      exact absurd h (by rw [fX3_firstWrong_L2]; exact fun q => by cases q)
    | succ n ih =>
      intro v2 h
      rw [fX3_firstWrong_L2] at h
      refine rl_iload_n hG dX3_firstWrong_2 rfl 2 rfl ?_
      refine rl_aload_n hG dX3_firstWrong_3 rfl 0 rfl ?_
      refine rl_get hG iX3_firstWrong_X3 7 (gX_7 a cI cT u) hcX3 3 (Nat.le_of_ble_eq_true rfl) nX3_firstWrong_0 rfl dX3_firstWrong_4 ?_
      refine rl_icmp_ge hG (tgt := 27) dX3_firstWrong_7 (by decide) (fun c1 => ?_) (fun c1 => ?_)
      · have h := it_t h c1
        refine rl_iconst hG (v := -1) dX3_firstWrong_27 (by decide) ?_
        exact rl_ret1 hret h rfl dX3_firstWrong_28
      · have h := it_f h c1
        refine rl_aload_n hG dX3_firstWrong_10 rfl 0 rfl ?_
        refine rl_iload_n hG dX3_firstWrong_11 rfl 2 rfl ?_
        refine rl_aload_n hG dX3_firstWrong_12 rfl 1 rfl ?_
        obtain ⟨x2, hx2q, zx2, h⟩ := oz_ok h
        refine rl_callVi hG (roX_ok xx) (As := [.int v2, .ref (a 3)]) (kX3_isRight l D a cI cT aS xx u v2 x2  hx2q) gX3_firstWrong_X3_isRight rfl 7 (gX_7 a cI cT u) hcX3 2 rfl (by decide +kernel) rfl rfl (by decide) (Nat.le_of_ble_eq_true rfl) rfl dX3_firstWrong_13 ?_
        refine rl_if_ne hG (tgt := 21) dX3_firstWrong_16 (by decide) (fun c3 => ?_) (fun c3 => ?_)
        · have h := it_f h c3
          obtain ⟨x4, ex4, h⟩ := bd_ok h
          refine rl_iinc hG [(2, .int x4), (0, .ref (a 7)), (1, .ref (a 3))] dX3_firstWrong_21 2 rfl (by rw [ex4]; rfl) (Nat.le_of_ble_eq_true rfl) rfl ?_
          refine rl_goto hG (tgt := 2) dX3_firstWrong_24 (by decide) ?_
          exact rl_lvs hG [1, 2, 0] rfl (ih x4 h)
        · have h := it_t h c3
          refine rl_iload_n hG dX3_firstWrong_19 rfl 2 rfl ?_
          exact rl_ret1 hret h rfl dX3_firstWrong_20
  have h := h0
  rw [fX3_firstWrong] at h
  show G u 0 [(0, .ref (a 7)), (1, .ref (a 3))] []
  refine rl_iconst hG (v := 0) dX3_firstWrong_0 (by decide) ?_
  refine rl_istore_n hG [(2, .int (0 : Int32)), (0, .ref (a 7)), (1, .ref (a 3))] dX3_firstWrong_1 rfl (Nat.le_of_ble_eq_true rfl) rfl rfl ?_
  exact rl_lvs hG [1, 2, 0] rfl (H2 2000 (0 : Int32) h)
def fX6_addStep (u : St) (t : Nat) (p1 : Int32) (p2 : Int32) : Option (St) := asr u (29 + t) 16 ((u (23 + t) 1) * (2 : Int32)) p1 (fun u1 => asr u1 (29 + t) 16 (((u1 (23 + t) 1) * (2 : Int32)) + (1 : Int32)) p2 (fun u2 => bd (st_wr u2 (23 + t) 1 ((u2 (23 + t) 1) + (1 : Int32))) (fun u3 => some u3)))
theorem nX6_addStep_0 : Cond.fieldLink RX6 9 "WhoseWork$Thing" "works" "[I" ∈ wsX6_addStep := by decide +kernel
theorem nX6_addStep_1 : Cond.fieldLink RX6 15 "WhoseWork$Thing" "size" "I" ∈ wsX6_addStep := by decide +kernel
theorem iX6_addStep_X6 : ∀ w ∈ wsX60, w ∈ wsX6_addStep := by decide +kernel
set_option maxRecDepth 100000 in
set_option maxHeartbeats 4000000 in
theorem kX6_addStep (l : Launch) (D : va_G) (a : Nat → Nat) (cI cT : ClassId) (aS : Nat → Prop) (xx : Rx) (u : St) (t : Nat) (p1 : Int32) (p2 : Int32) (τ : St) (ht : t < 6) (h0 : fX6_addStep u t p1 p2 = some τ) : rl_Mv l yX6_addStep wsX6_addStep ({ frames := 0, cells := 0, slots := 0, locals := 0 } : Room) D (tyX cI cT) (wX a cI cT) (roX xx) aS [.ref (a (23 + t)), .int p1, .int p2] u τ := by
  refine rl_meth_v (cc := cX6_addStep) (maxL := 3) (own := RX6) (by decide) rfl rfl (Nat.le_of_ble_eq_true rfl) ?_
  intro G hG hret
  have h := h0
  rw [fX6_addStep] at h
  show G u 0 [(0, .ref (a (23 + t))), (1, .int p1), (2, .int p2)] []
  refine rl_aload_n hG dX6_addStep_0 rfl 0 rfl ?_
  refine rl_get hG iX6_addStep_X6 (23 + t) (gX_t a cI cT u ht) hcX6 0 (Nat.le_of_ble_eq_true rfl) nX6_addStep_0 rfl dX6_addStep_1 ?_
  refine rl_aload_n hG dX6_addStep_4 rfl 0 rfl ?_
  refine rl_get hG iX6_addStep_X6 (23 + t) (gX_t a cI cT u ht) hcX6 1 (Nat.le_of_ble_eq_true rfl) nX6_addStep_1 rfl dX6_addStep_5 ?_
  refine rl_iconst hG (v := 2) dX6_addStep_8 (by decide) ?_
  refine rl_imul hG dX6_addStep_9 ?_
  refine rl_iload_n hG dX6_addStep_10 rfl 1 rfl ?_
  obtain ⟨u1, iu1, eu1, h⟩ := asr_ok h
  refine rl_iast hG (29 + t) 0 (gX_u a cI cT u ht) rfl iu1 (σ' := u1) ((sX_u a cI cT u ht _).trans (congrArg _ eu1.symm)) dX6_addStep_11 ?_
  refine rl_aload_n hG dX6_addStep_12 rfl 0 rfl ?_
  refine rl_get hG iX6_addStep_X6 (23 + t) (gX_t a cI cT u1 ht) hcX6 0 (Nat.le_of_ble_eq_true rfl) nX6_addStep_0 rfl dX6_addStep_13 ?_
  refine rl_aload_n hG dX6_addStep_16 rfl 0 rfl ?_
  refine rl_get hG iX6_addStep_X6 (23 + t) (gX_t a cI cT u1 ht) hcX6 1 (Nat.le_of_ble_eq_true rfl) nX6_addStep_1 rfl dX6_addStep_17 ?_
  refine rl_iconst hG (v := 2) dX6_addStep_20 (by decide) ?_
  refine rl_imul hG dX6_addStep_21 ?_
  refine rl_iconst hG (v := 1) dX6_addStep_22 (by decide) ?_
  refine rl_iadd hG dX6_addStep_23 ?_
  refine rl_iload_n hG dX6_addStep_24 rfl 2 rfl ?_
  obtain ⟨u2, iu2, eu2, h⟩ := asr_ok h
  refine rl_iast hG (29 + t) 0 (gX_u a cI cT u1 ht) rfl iu2 (σ' := u2) ((sX_u a cI cT u1 ht _).trans (congrArg _ eu2.symm)) dX6_addStep_25 ?_
  refine rl_aload_n hG dX6_addStep_26 rfl 0 rfl ?_
  refine rl_dup hG dX6_addStep_27 rfl ?_
  refine rl_get hG iX6_addStep_X6 (23 + t) (gX_t a cI cT u2 ht) hcX6 1 (Nat.le_of_ble_eq_true rfl) nX6_addStep_1 rfl dX6_addStep_28 ?_
  refine rl_iconst hG (v := 1) dX6_addStep_31 (by decide) ?_
  refine rl_iadd hG dX6_addStep_32 ?_
  obtain ⟨u3, eu3, h⟩ := bd_ok h
  refine rl_put hG iX6_addStep_X6 tyX6 tyX6_ok nmX6 (23 + t) (gX_t a cI cT u2 ht) hcX6 1 (Nat.le_of_ble_eq_true rfl) nX6_addStep_1 rfl rfl (Nat.le_of_ble_eq_true rfl) (σ' := u3) ((sX_t a cI cT u2 ht _).trans (congrArg _ eu3.symm)) dX6_addStep_33 ?_
  exact rl_retv hret h dX6_addStep_36
def fX7_write_L76   (u : St) (v3 : Int32) : Option (Int32 × St) := bd (st_wr u 1 1 ((u 1 1) + v3)) (fun u1 => some ((u1 1 1), u1))
def fX7_write_L34   : Nat → St → Int64 → Int32 → Int32 → Option (Int32 × St)
  | 0 => fun _ _ _ _ => none
  | n + 1 => fun u v1 v3 v4 => (if v3 ≤ v4 then fX7_write_L76 u v3 else asr u 9 160 ((u 1 1) + v4) ((v1 >>> (((8 : Int32) * v4).toInt64 &&& 63)) &&& (255 : Int64)).toInt32 (fun u3 => bd (v4 + (1 : Int32)) (fun x4 => fX7_write_L34 n u3 v1 v3 x4)))
def fX7_write (u : St)  (p1 : Int64) (p3 : Int32) : Option (Int32 × St) := oz (fX7_isOff p3 (1 : Int32) (8 : Int32)) (fun x5 => (if x5 = (0 : Int32) then (if ((u 1 1) + p3) ≤ (160 : Int32) then fX7_write_L34 2000 u p1 p3 (0 : Int32) else some ((-5 : Int32), u)) else some ((-3 : Int32), u)))
theorem nX7_write_0 : Cond.fieldLink RX7 12 "WhoseWork" "text" "LWhoseWork$Text;" ∈ wsX7_write := by decide +kernel
theorem nX7_write_1 : Cond.fieldLink RX7 70 "WhoseWork$Text" "size" "I" ∈ wsX7_write := by decide +kernel
theorem nX7_write_2 : Cond.fieldLink RX7 74 "WhoseWork$Text" "bytes" "[I" ∈ wsX7_write := by decide +kernel
theorem nX7_write_3 : Cond.constantLong RX7 77 (255) ∈ wsX7_write := by decide +kernel
theorem iX7_write_X5 : ∀ w ∈ wsX50, w ∈ wsX7_write := by decide +kernel
theorem iX7_write_X7 : ∀ w ∈ wsX70, w ∈ wsX7_write := by decide +kernel
set_option maxRecDepth 100000 in
set_option maxHeartbeats 4000000 in
theorem kX7_write (l : Launch) (D : va_G) (a : Nat → Nat) (cI cT : ClassId) (aS : Nat → Prop) (xx : Rx) (u : St)  (p1 : Int64) (p3 : Int32) (r : Int32) (τ : St)  (h0 : fX7_write u p1 p3 = some (r, τ)) : rl_Mi l yX7_write wsX7_write ({ frames := 1, cells := 0, slots := 0, locals := 22 } : Room) D (tyX cI cT) (wX a cI cT) (roX xx) aS [.ref (a 0), .long p1, .int p3] u r τ := by
  refine rl_meth_i (cc := cX7_write) (maxL := 5) (own := RX7) (ty := .int) (by decide) rfl rfl (Nat.le_of_ble_eq_true rfl) ?_
  intro G hG hret
  have H76 : ∀ (u : St) (v3 : Int32), fX7_write_L76 u v3 = some (r, τ) → G u 76 [(0, .ref (a 0)), (3, .int v3)] [] := by
    intro  u v3 h
    rw [fX7_write_L76] at h
    refine rl_aload_n hG dX7_write_76 rfl 0 rfl ?_
    refine rl_get hG iX7_write_X7 0 (gX_0 a cI cT u) hcX7 0 (Nat.le_of_ble_eq_true rfl) nX7_write_0 rfl dX7_write_77 ?_
    refine rl_dup hG dX7_write_80 rfl ?_
    refine rl_get hG iX7_write_X5 1 (gX_1 a cI cT u) hcX5 1 (Nat.le_of_ble_eq_true rfl) nX7_write_1 rfl dX7_write_81 ?_
    refine rl_iload_n hG dX7_write_84 rfl 1 rfl ?_
    refine rl_iadd hG dX7_write_85 ?_
    obtain ⟨u1, eu1, h⟩ := bd_ok h
    refine rl_put hG iX7_write_X5 tyX5 tyX5_ok nmX5 1 (gX_1 a cI cT u) hcX5 1 (Nat.le_of_ble_eq_true rfl) nX7_write_1 rfl rfl (Nat.le_of_ble_eq_true rfl) (σ' := u1) ((sX_1_1 a cI cT u _).trans (congrArg _ eu1.symm)) dX7_write_86 ?_
    refine rl_aload_n hG dX7_write_89 rfl 0 rfl ?_
    refine rl_get hG iX7_write_X7 0 (gX_0 a cI cT u1) hcX7 0 (Nat.le_of_ble_eq_true rfl) nX7_write_0 rfl dX7_write_90 ?_
    refine rl_get hG iX7_write_X5 1 (gX_1 a cI cT u1) hcX5 1 (Nat.le_of_ble_eq_true rfl) nX7_write_1 rfl dX7_write_93 ?_
    exact rl_ret2 hret h rfl dX7_write_96
  have H34 : ∀ (n : Nat) (u : St) (v1 : Int64) (v3 : Int32) (v4 : Int32), fX7_write_L34 n u v1 v3 v4 = some (r, τ) → G u 34 [(0, .ref (a 0)), (1, .long v1), (3, .int v3), (4, .int v4)] [] := by
    intro n
    induction n with
    | zero =>
      intro u v1 v3 v4 h
      exact absurd h (by rw [fX7_write_L34]; exact fun q => by cases q)
    | succ n ih =>
      intro u v1 v3 v4 h
      rw [fX7_write_L34] at h
      refine rl_iload hG dX7_write_34 3 rfl ?_
      refine rl_iload_n hG dX7_write_36 rfl 2 rfl ?_
      refine rl_icmp_ge hG (tgt := 76) dX7_write_37 (by decide) (fun c2 => ?_) (fun c2 => ?_)
      · have h := it_t h c2
        exact rl_lvs hG [0, 2] rfl (H76 u v3 h)
      · have h := it_f h c2
        refine rl_aload_n hG dX7_write_40 rfl 0 rfl ?_
        refine rl_get hG iX7_write_X7 0 (gX_0 a cI cT u) hcX7 0 (Nat.le_of_ble_eq_true rfl) nX7_write_0 rfl dX7_write_41 ?_
        refine rl_get hG iX7_write_X5 1 (gX_1 a cI cT u) hcX5 0 (Nat.le_of_ble_eq_true rfl) nX7_write_2 rfl dX7_write_44 ?_
        refine rl_aload_n hG dX7_write_47 rfl 0 rfl ?_
        refine rl_get hG iX7_write_X7 0 (gX_0 a cI cT u) hcX7 0 (Nat.le_of_ble_eq_true rfl) nX7_write_0 rfl dX7_write_48 ?_
        refine rl_get hG iX7_write_X5 1 (gX_1 a cI cT u) hcX5 1 (Nat.le_of_ble_eq_true rfl) nX7_write_1 rfl dX7_write_51 ?_
        refine rl_iload hG dX7_write_54 3 rfl ?_
        refine rl_iadd hG dX7_write_56 ?_
        refine rl_lload_n hG dX7_write_57 rfl 1 rfl ?_
        refine rl_bipush hG (v := 8) dX7_write_58 (by decide) ?_
        refine rl_iload hG dX7_write_60 3 rfl ?_
        refine rl_imul hG dX7_write_62 ?_
        refine rl_lshr hG dX7_write_63 ?_
        refine rl_ldc2 hG (v := 255) dX7_write_64 nX7_write_3 ?_
        refine rl_land hG dX7_write_67 ?_
        refine rl_l2i hG dX7_write_68 ?_
        obtain ⟨u3, iu3, eu3, h⟩ := asr_ok h
        refine rl_iast hG 9 0 (gX_9 a cI cT u) rfl iu3 (σ' := u3) ((sX_9 a cI cT u _).trans (congrArg _ eu3.symm)) dX7_write_69 ?_
        obtain ⟨x4, ex4, h⟩ := bd_ok h
        refine rl_iinc hG [(4, .int x4), (0, .ref (a 0)), (1, .long v1), (3, .int v3)] dX7_write_70 3 rfl (by rw [ex4]; rfl) (Nat.le_of_ble_eq_true rfl) rfl ?_
        refine rl_goto hG (tgt := 34) dX7_write_73 (by decide) ?_
        exact rl_lvs hG [1, 2, 3, 0] rfl (ih u3 v1 v3 x4 h)
  have h := h0
  rw [fX7_write] at h
  show G u 0 [(0, .ref (a 0)), (1, .long p1), (3, .int p3)] []
  refine rl_iload_n hG dX7_write_0 rfl 2 rfl ?_
  refine rl_iconst hG (v := 1) dX7_write_1 (by decide) ?_
  refine rl_bipush hG (v := 8) dX7_write_2 (by decide) ?_
  obtain ⟨x5, hx5q, zx5, h⟩ := oz_ok h
  refine rl_callZi hG (As := [.int p3, .int (1 : Int32), .int (8 : Int32)]) (kX7_isOff l D u p3 (1 : Int32) (8 : Int32) x5 hx5q) gX7_write_X7_isOff rfl 3 rfl (by decide +kernel) rfl rfl (by decide) (Nat.le_of_ble_eq_true rfl) rfl dX7_write_4 ?_
  refine rl_if_eq hG (tgt := 13) dX7_write_7 (by decide) (fun c6 => ?_) (fun c6 => ?_)
  · have h := it_t h c6
    refine rl_aload_n hG dX7_write_13 rfl 0 rfl ?_
    refine rl_get hG iX7_write_X7 0 (gX_0 a cI cT u) hcX7 0 (Nat.le_of_ble_eq_true rfl) nX7_write_0 rfl dX7_write_14 ?_
    refine rl_get hG iX7_write_X5 1 (gX_1 a cI cT u) hcX5 1 (Nat.le_of_ble_eq_true rfl) nX7_write_1 rfl dX7_write_17 ?_
    refine rl_iload_n hG dX7_write_20 rfl 2 rfl ?_
    refine rl_iadd hG dX7_write_21 ?_
    refine rl_sipush hG (v := 160) dX7_write_22 (by decide) ?_
    refine rl_icmp_le hG (tgt := 31) dX7_write_25 (by decide) (fun c7 => ?_) (fun c7 => ?_)
    · have h := it_t h c7
      refine rl_iconst hG (v := 0) dX7_write_31 (by decide) ?_
      refine rl_istore hG [(4, .int (0 : Int32)), (0, .ref (a 0)), (1, .long p1), (3, .int p3)] dX7_write_32 (Nat.le_of_ble_eq_true rfl) rfl rfl ?_
      exact rl_lvs hG [1, 2, 3, 0] rfl (H34 2000 u p1 p3 (0 : Int32) h)
    · have h := it_f h c7
      refine rl_bipush hG (v := -5) dX7_write_28 (by decide) ?_
      exact rl_ret2 hret h rfl dX7_write_30
  · have h := it_f h c6
    refine rl_bipush hG (v := -3) dX7_write_10 (by decide) ?_
    exact rl_ret2 hret h rfl dX7_write_12
def fX7_erase (u : St)   : Option (Int32 × St) := bd (u 1 1) (fun x1 => bd (st_wr u 1 1 (0 : Int32)) (fun u2 => some (x1, u2)))
theorem nX7_erase_0 : Cond.fieldLink RX7 12 "WhoseWork" "text" "LWhoseWork$Text;" ∈ wsX7_erase := by decide +kernel
theorem nX7_erase_1 : Cond.fieldLink RX7 70 "WhoseWork$Text" "size" "I" ∈ wsX7_erase := by decide +kernel
theorem iX7_erase_X5 : ∀ w ∈ wsX50, w ∈ wsX7_erase := by decide +kernel
theorem iX7_erase_X7 : ∀ w ∈ wsX70, w ∈ wsX7_erase := by decide +kernel
set_option maxRecDepth 100000 in
set_option maxHeartbeats 4000000 in
theorem kX7_erase (l : Launch) (D : va_G) (a : Nat → Nat) (cI cT : ClassId) (aS : Nat → Prop) (xx : Rx) (u : St)   (r : Int32) (τ : St)  (h0 : fX7_erase u = some (r, τ)) : rl_Mi l yX7_erase wsX7_erase ({ frames := 0, cells := 0, slots := 0, locals := 0 } : Room) D (tyX cI cT) (wX a cI cT) (roX xx) aS [.ref (a 0)] u r τ := by
  refine rl_meth_i (cc := cX7_erase) (maxL := 2) (own := RX7) (ty := .int) (by decide) rfl rfl (Nat.le_of_ble_eq_true rfl) ?_
  intro G hG hret
  have h := h0
  rw [fX7_erase] at h
  show G u 0 [(0, .ref (a 0))] []
  refine rl_aload_n hG dX7_erase_0 rfl 0 rfl ?_
  refine rl_get hG iX7_erase_X7 0 (gX_0 a cI cT u) hcX7 0 (Nat.le_of_ble_eq_true rfl) nX7_erase_0 rfl dX7_erase_1 ?_
  refine rl_get hG iX7_erase_X5 1 (gX_1 a cI cT u) hcX5 1 (Nat.le_of_ble_eq_true rfl) nX7_erase_1 rfl dX7_erase_4 ?_
  obtain ⟨x1, ex1, h⟩ := bd_ok h
  refine rl_istore_n hG [(1, .int x1), (0, .ref (a 0))] dX7_erase_7 rfl (Nat.le_of_ble_eq_true rfl) ex1 rfl ?_
  refine rl_aload_n hG dX7_erase_8 rfl 1 rfl ?_
  refine rl_get hG iX7_erase_X7 0 (gX_0 a cI cT u) hcX7 0 (Nat.le_of_ble_eq_true rfl) nX7_erase_0 rfl dX7_erase_9 ?_
  refine rl_iconst hG (v := 0) dX7_erase_12 (by decide) ?_
  obtain ⟨u2, eu2, h⟩ := bd_ok h
  refine rl_put hG iX7_erase_X5 tyX5 tyX5_ok nmX5 1 (gX_1 a cI cT u) hcX5 1 (Nat.le_of_ble_eq_true rfl) nX7_erase_1 rfl rfl (Nat.le_of_ble_eq_true rfl) (σ' := u2) ((sX_1_1 a cI cT u _).trans (congrArg _ eu2.symm)) dX7_erase_13 ?_
  refine rl_iload_n hG dX7_erase_16 rfl 0 rfl ?_
  exact rl_ret2 hret h rfl dX7_erase_17
def fX7_fault (u : St)   : Option (Int32 × St) := o2 (fX2_readText u) (fun x1 u2 => some (x1, u2))
theorem nX7_fault_0 : Cond.fieldLink RX7 21 "WhoseWork" "reader" "LWhoseWork$Reader;" ∈ wsX7_fault := by decide +kernel
theorem iX7_fault_X7 : ∀ w ∈ wsX70, w ∈ wsX7_fault := by decide +kernel
set_option maxRecDepth 100000 in
set_option maxHeartbeats 4000000 in
theorem kX7_fault (l : Launch) (D : va_G) (a : Nat → Nat) (cI cT : ClassId) (aS : Nat → Prop) (xx : Rx) (u : St)   (r : Int32) (τ : St)  (h0 : fX7_fault u = some (r, τ)) : rl_Mi l yX7_fault wsX7_fault ({ frames := 9, cells := 0, slots := 0, locals := 201 } : Room) D (tyX cI cT) (wX a cI cT) (roX xx) aS [.ref (a 0)] u r τ := by
  refine rl_meth_i (cc := cX7_fault) (maxL := 1) (own := RX7) (ty := .int) (by decide) rfl rfl (Nat.le_of_ble_eq_true rfl) ?_
  intro G hG hret
  have h := h0
  rw [fX7_fault] at h
  show G u 0 [(0, .ref (a 0))] []
  refine rl_aload_n hG dX7_fault_0 rfl 0 rfl ?_
  refine rl_get hG iX7_fault_X7 0 (gX_0 a cI cT u) hcX7 1 (Nat.le_of_ble_eq_true rfl) nX7_fault_0 rfl dX7_fault_1 ?_
  obtain ⟨x1, u2, hx1q, h⟩ := o2_ok h
  refine rl_callVi hG (roX_ok xx) (As := []) (kX2_readText l D a cI cT aS xx u  x1 u2  hx1q) gX7_fault_X2_readText rfl 2 (gX_2 a cI cT u) hcX2 0 rfl (by decide +kernel) rfl rfl (by decide) (Nat.le_of_ble_eq_true rfl) rfl dX7_fault_4 ?_
  exact rl_ret2 hret h rfl dX7_fault_7
def fX7_bounds (u : St)   : Option (Int32 × St) := o2 (fX2_readText u) (fun x1 u2 => (if x1 = (-1 : Int32) then (if ((u2 3 1) + (u2 2 5)) ≤ (20 : Int32) then o1 (fX0_enact u2 (u2 2 5)) (fun u5 => bd (st_wr u5 1 1 (0 : Int32)) (fun u6 => some ((u6 3 1), u6))) else some ((-5 : Int32), u2)) else some ((-4 : Int32), u2)))
theorem nX7_bounds_0 : Cond.fieldLink RX7 21 "WhoseWork" "reader" "LWhoseWork$Reader;" ∈ wsX7_bounds := by decide +kernel
theorem nX7_bounds_1 : Cond.fieldLink RX7 28 "WhoseWork" "law" "LWhoseWork$Law;" ∈ wsX7_bounds := by decide +kernel
theorem nX7_bounds_2 : Cond.fieldLink RX7 83 "WhoseWork$Law" "size" "I" ∈ wsX7_bounds := by decide +kernel
theorem nX7_bounds_3 : Cond.fieldLink RX7 84 "WhoseWork$Reader" "lines" "I" ∈ wsX7_bounds := by decide +kernel
theorem nX7_bounds_4 : Cond.fieldLink RX7 87 "WhoseWork$Reader" "cells" "[I" ∈ wsX7_bounds := by decide +kernel
theorem nX7_bounds_5 : Cond.fieldLink RX7 12 "WhoseWork" "text" "LWhoseWork$Text;" ∈ wsX7_bounds := by decide +kernel
theorem nX7_bounds_6 : Cond.fieldLink RX7 70 "WhoseWork$Text" "size" "I" ∈ wsX7_bounds := by decide +kernel
theorem iX7_bounds_X0 : ∀ w ∈ wsX00, w ∈ wsX7_bounds := by decide +kernel
theorem iX7_bounds_X2 : ∀ w ∈ wsX20, w ∈ wsX7_bounds := by decide +kernel
theorem iX7_bounds_X5 : ∀ w ∈ wsX50, w ∈ wsX7_bounds := by decide +kernel
theorem iX7_bounds_X7 : ∀ w ∈ wsX70, w ∈ wsX7_bounds := by decide +kernel
set_option maxRecDepth 100000 in
set_option maxHeartbeats 4000000 in
theorem kX7_bounds (l : Launch) (D : va_G) (a : Nat → Nat) (cI cT : ClassId) (aS : Nat → Prop) (xx : Rx) (u : St)   (r : Int32) (τ : St)  (h0 : fX7_bounds u = some (r, τ)) : rl_Mi l yX7_bounds wsX7_bounds ({ frames := 9, cells := 0, slots := 0, locals := 201 } : Room) D (tyX cI cT) (wX a cI cT) (roX xx) aS [.ref (a 0)] u r τ := by
  refine rl_meth_i (cc := cX7_bounds) (maxL := 1) (own := RX7) (ty := .int) (by decide) rfl rfl (Nat.le_of_ble_eq_true rfl) ?_
  intro G hG hret
  have h := h0
  rw [fX7_bounds] at h
  show G u 0 [(0, .ref (a 0))] []
  refine rl_aload_n hG dX7_bounds_0 rfl 0 rfl ?_
  refine rl_get hG iX7_bounds_X7 0 (gX_0 a cI cT u) hcX7 1 (Nat.le_of_ble_eq_true rfl) nX7_bounds_0 rfl dX7_bounds_1 ?_
  obtain ⟨x1, u2, hx1q, h⟩ := o2_ok h
  refine rl_callVi hG (roX_ok xx) (As := []) (kX2_readText l D a cI cT aS xx u  x1 u2  hx1q) gX7_bounds_X2_readText rfl 2 (gX_2 a cI cT u) hcX2 0 rfl (by decide +kernel) rfl rfl (by decide) (Nat.le_of_ble_eq_true rfl) rfl dX7_bounds_4 ?_
  refine rl_iconst hG (v := -1) dX7_bounds_7 (by decide) ?_
  refine rl_icmp_eq hG (tgt := 14) dX7_bounds_8 (by decide) (fun c3 => ?_) (fun c3 => ?_)
  · have h := it_t h c3
    refine rl_aload_n hG dX7_bounds_14 rfl 0 rfl ?_
    refine rl_get hG iX7_bounds_X7 0 (gX_0 a cI cT u2) hcX7 2 (Nat.le_of_ble_eq_true rfl) nX7_bounds_1 rfl dX7_bounds_15 ?_
    refine rl_get hG iX7_bounds_X0 3 (gX_3 a cI cT u2) hcX0 1 (Nat.le_of_ble_eq_true rfl) nX7_bounds_2 rfl dX7_bounds_18 ?_
    refine rl_aload_n hG dX7_bounds_21 rfl 0 rfl ?_
    refine rl_get hG iX7_bounds_X7 0 (gX_0 a cI cT u2) hcX7 1 (Nat.le_of_ble_eq_true rfl) nX7_bounds_0 rfl dX7_bounds_22 ?_
    refine rl_get hG iX7_bounds_X2 2 (gX_2 a cI cT u2) hcX2 5 (Nat.le_of_ble_eq_true rfl) nX7_bounds_3 rfl dX7_bounds_25 ?_
    refine rl_iadd hG dX7_bounds_28 ?_
    refine rl_bipush hG (v := 20) dX7_bounds_29 (by decide) ?_
    refine rl_icmp_le hG (tgt := 37) dX7_bounds_31 (by decide) (fun c4 => ?_) (fun c4 => ?_)
    · have h := it_t h c4
      refine rl_aload_n hG dX7_bounds_37 rfl 0 rfl ?_
      refine rl_get hG iX7_bounds_X7 0 (gX_0 a cI cT u2) hcX7 2 (Nat.le_of_ble_eq_true rfl) nX7_bounds_1 rfl dX7_bounds_38 ?_
      refine rl_aload_n hG dX7_bounds_41 rfl 0 rfl ?_
      refine rl_get hG iX7_bounds_X7 0 (gX_0 a cI cT u2) hcX7 1 (Nat.le_of_ble_eq_true rfl) nX7_bounds_0 rfl dX7_bounds_42 ?_
      refine rl_get hG iX7_bounds_X2 2 (gX_2 a cI cT u2) hcX2 4 (Nat.le_of_ble_eq_true rfl) nX7_bounds_4 rfl dX7_bounds_45 ?_
      refine rl_aload_n hG dX7_bounds_48 rfl 0 rfl ?_
      refine rl_get hG iX7_bounds_X7 0 (gX_0 a cI cT u2) hcX7 1 (Nat.le_of_ble_eq_true rfl) nX7_bounds_0 rfl dX7_bounds_49 ?_
      refine rl_get hG iX7_bounds_X2 2 (gX_2 a cI cT u2) hcX2 5 (Nat.le_of_ble_eq_true rfl) nX7_bounds_3 rfl dX7_bounds_52 ?_
      obtain ⟨u5, hu5q, h⟩ := o1_ok h
      refine rl_callVv hG (roX_ok xx) (As := [.ref (a 10), .int (u2 2 5)]) (kX0_enact l D a cI cT aS xx u2 (u2 2 5) u5  hu5q) gX7_bounds_X0_enact rfl 3 (gX_3 a cI cT u2) hcX0 2 rfl (by decide +kernel) rfl rfl (by decide) (Nat.le_of_ble_eq_true rfl) rfl dX7_bounds_55 ?_
      refine rl_aload_n hG dX7_bounds_58 rfl 0 rfl ?_
      refine rl_get hG iX7_bounds_X7 0 (gX_0 a cI cT u5) hcX7 0 (Nat.le_of_ble_eq_true rfl) nX7_bounds_5 rfl dX7_bounds_59 ?_
      refine rl_iconst hG (v := 0) dX7_bounds_62 (by decide) ?_
      obtain ⟨u6, eu6, h⟩ := bd_ok h
      refine rl_put hG iX7_bounds_X5 tyX5 tyX5_ok nmX5 1 (gX_1 a cI cT u5) hcX5 1 (Nat.le_of_ble_eq_true rfl) nX7_bounds_6 rfl rfl (Nat.le_of_ble_eq_true rfl) (σ' := u6) ((sX_1_1 a cI cT u5 _).trans (congrArg _ eu6.symm)) dX7_bounds_63 ?_
      refine rl_aload_n hG dX7_bounds_66 rfl 0 rfl ?_
      refine rl_get hG iX7_bounds_X7 0 (gX_0 a cI cT u6) hcX7 2 (Nat.le_of_ble_eq_true rfl) nX7_bounds_1 rfl dX7_bounds_67 ?_
      refine rl_get hG iX7_bounds_X0 3 (gX_3 a cI cT u6) hcX0 1 (Nat.le_of_ble_eq_true rfl) nX7_bounds_2 rfl dX7_bounds_70 ?_
      exact rl_ret2 hret h rfl dX7_bounds_73
    · have h := it_f h c4
      refine rl_bipush hG (v := -5) dX7_bounds_34 (by decide) ?_
      exact rl_ret2 hret h rfl dX7_bounds_36
  · have h := it_f h c3
    refine rl_bipush hG (v := -4) dX7_bounds_11 (by decide) ?_
    exact rl_ret2 hret h rfl dX7_bounds_13
def fX7_isNoBound (u : St)  (p1 : Int32) : Option (Int32) := oz (fX7_isOff p1 (0 : Int32) ((u 3 1) - (1 : Int32))) (fun x1 => rb x1 (fun y => some y))
theorem nX7_isNoBound_0 : Cond.fieldLink RX7 28 "WhoseWork" "law" "LWhoseWork$Law;" ∈ wsX7_isNoBound := by decide +kernel
theorem nX7_isNoBound_1 : Cond.fieldLink RX7 83 "WhoseWork$Law" "size" "I" ∈ wsX7_isNoBound := by decide +kernel
theorem iX7_isNoBound_X0 : ∀ w ∈ wsX00, w ∈ wsX7_isNoBound := by decide +kernel
theorem iX7_isNoBound_X7 : ∀ w ∈ wsX70, w ∈ wsX7_isNoBound := by decide +kernel
set_option maxRecDepth 100000 in
set_option maxHeartbeats 4000000 in
theorem kX7_isNoBound (l : Launch) (D : va_G) (a : Nat → Nat) (cI cT : ClassId) (aS : Nat → Prop) (xx : Rx) (u : St)  (p1 : Int32) (r : Int32)  (h0 : fX7_isNoBound u p1 = some r) : rl_Mi l yX7_isNoBound wsX7_isNoBound ({ frames := 1, cells := 0, slots := 0, locals := 22 } : Room) D (tyX cI cT) (wX a cI cT) (roX xx) aS [.ref (a 0), .int p1] u r u := by
  refine rl_meth_i (cc := cX7_isNoBound) (maxL := 2) (own := RX7) (ty := .boolean) (by decide) rfl rfl (Nat.le_of_ble_eq_true rfl) ?_
  intro G hG hret
  have h := h0
  rw [fX7_isNoBound] at h
  show G u 0 [(0, .ref (a 0)), (1, .int p1)] []
  refine rl_iload_n hG dX7_isNoBound_0 rfl 1 rfl ?_
  refine rl_iconst hG (v := 0) dX7_isNoBound_1 (by decide) ?_
  refine rl_aload_n hG dX7_isNoBound_2 rfl 0 rfl ?_
  refine rl_get hG iX7_isNoBound_X7 0 (gX_0 a cI cT u) hcX7 2 (Nat.le_of_ble_eq_true rfl) nX7_isNoBound_0 rfl dX7_isNoBound_3 ?_
  refine rl_get hG iX7_isNoBound_X0 3 (gX_3 a cI cT u) hcX0 1 (Nat.le_of_ble_eq_true rfl) nX7_isNoBound_1 rfl dX7_isNoBound_6 ?_
  refine rl_iconst hG (v := 1) dX7_isNoBound_9 (by decide) ?_
  refine rl_isub hG dX7_isNoBound_10 ?_
  obtain ⟨x1, hx1q, zx1, h⟩ := oz_ok h
  refine rl_callZi hG (As := [.int p1, .int (0 : Int32), .int ((u 3 1) - (1 : Int32))]) (kX7_isOff l D u p1 (0 : Int32) ((u 3 1) - (1 : Int32)) x1 hx1q) gX7_isNoBound_X7_isOff rfl 3 rfl (by decide +kernel) rfl rfl (by decide) (Nat.le_of_ble_eq_true rfl) rfl dX7_isNoBound_11 ?_
  obtain ⟨hz, h⟩ := rb_ok h
  exact rl_ret1 hret h (na_z hz) dX7_isNoBound_14
def fX7_strike (u : St)  (p1 : Int32) : Option (Int32 × St) := oz (fX7_isNoBound u p1) (fun x1 => (if x1 = (0 : Int32) then o1 (fX0_strikeOut u p1) (fun u3 => some ((u3 3 1), u3)) else some ((-2 : Int32), u)))
theorem nX7_strike_0 : Cond.fieldLink RX7 28 "WhoseWork" "law" "LWhoseWork$Law;" ∈ wsX7_strike := by decide +kernel
theorem nX7_strike_1 : Cond.fieldLink RX7 83 "WhoseWork$Law" "size" "I" ∈ wsX7_strike := by decide +kernel
theorem iX7_strike_X0 : ∀ w ∈ wsX00, w ∈ wsX7_strike := by decide +kernel
theorem iX7_strike_X7 : ∀ w ∈ wsX70, w ∈ wsX7_strike := by decide +kernel
set_option maxRecDepth 100000 in
set_option maxHeartbeats 4000000 in
theorem kX7_strike (l : Launch) (D : va_G) (a : Nat → Nat) (cI cT : ClassId) (aS : Nat → Prop) (xx : Rx) (u : St)  (p1 : Int32) (r : Int32) (τ : St)  (h0 : fX7_strike u p1 = some (r, τ)) : rl_Mi l yX7_strike wsX7_strike ({ frames := 2, cells := 0, slots := 0, locals := 51 } : Room) D (tyX cI cT) (wX a cI cT) (roX xx) aS [.ref (a 0), .int p1] u r τ := by
  refine rl_meth_i (cc := cX7_strike) (maxL := 2) (own := RX7) (ty := .int) (by decide) rfl rfl (Nat.le_of_ble_eq_true rfl) ?_
  intro G hG hret
  have h := h0
  rw [fX7_strike] at h
  show G u 0 [(0, .ref (a 0)), (1, .int p1)] []
  refine rl_aload_n hG dX7_strike_0 rfl 0 rfl ?_
  refine rl_iload_n hG dX7_strike_1 rfl 1 rfl ?_
  obtain ⟨x1, hx1q, zx1, h⟩ := oz_ok h
  refine rl_callVi hG (roX_ok xx) (As := [.int p1]) (kX7_isNoBound l D a cI cT aS xx u p1 x1  hx1q) gX7_strike_X7_isNoBound rfl 0 (gX_0 a cI cT u) hcX7 1 rfl (by decide +kernel) rfl rfl (by decide) (Nat.le_of_ble_eq_true rfl) rfl dX7_strike_2 ?_
  refine rl_if_eq hG (tgt := 11) dX7_strike_5 (by decide) (fun c2 => ?_) (fun c2 => ?_)
  · have h := it_t h c2
    refine rl_aload_n hG dX7_strike_11 rfl 0 rfl ?_
    refine rl_get hG iX7_strike_X7 0 (gX_0 a cI cT u) hcX7 2 (Nat.le_of_ble_eq_true rfl) nX7_strike_0 rfl dX7_strike_12 ?_
    refine rl_iload_n hG dX7_strike_15 rfl 1 rfl ?_
    obtain ⟨u3, hu3q, h⟩ := o1_ok h
    refine rl_callVv hG (roX_ok xx) (As := [.int p1]) (kX0_strikeOut l D a cI cT aS xx u p1 u3  hu3q) gX7_strike_X0_strikeOut rfl 3 (gX_3 a cI cT u) hcX0 1 rfl (by decide +kernel) rfl rfl (by decide) (Nat.le_of_ble_eq_true rfl) rfl dX7_strike_16 ?_
    refine rl_aload_n hG dX7_strike_19 rfl 0 rfl ?_
    refine rl_get hG iX7_strike_X7 0 (gX_0 a cI cT u3) hcX7 2 (Nat.le_of_ble_eq_true rfl) nX7_strike_0 rfl dX7_strike_20 ?_
    refine rl_get hG iX7_strike_X0 3 (gX_3 a cI cT u3) hcX0 1 (Nat.le_of_ble_eq_true rfl) nX7_strike_1 rfl dX7_strike_23 ?_
    exact rl_ret2 hret h rfl dX7_strike_26
  · have h := it_f h c2
    refine rl_bipush hG (v := -2) dX7_strike_8 (by decide) ?_
    exact rl_ret2 hret h rfl dX7_strike_10
def fX7_bound (u : St)  (p1 : Int32) (p2 : Int32) : Option (Int32) := oz (fX7_isNoBound u p1) (fun x1 => (if x1 = (0 : Int32) then oz (fX7_isOff p2 (0 : Int32) (6 : Int32)) (fun x3 => (if x3 = (0 : Int32) then o1 (fX0_cell u p1 p2) (fun x5 => some x5) else some (-3 : Int32))) else some (-2 : Int32)))
theorem nX7_bound_0 : Cond.fieldLink RX7 28 "WhoseWork" "law" "LWhoseWork$Law;" ∈ wsX7_bound := by decide +kernel
theorem iX7_bound_X7 : ∀ w ∈ wsX70, w ∈ wsX7_bound := by decide +kernel
set_option maxRecDepth 100000 in
set_option maxHeartbeats 4000000 in
theorem kX7_bound (l : Launch) (D : va_G) (a : Nat → Nat) (cI cT : ClassId) (aS : Nat → Prop) (xx : Rx) (u : St)  (p1 : Int32) (p2 : Int32) (r : Int32)  (h0 : fX7_bound u p1 p2 = some r) : rl_Mi l yX7_bound wsX7_bound ({ frames := 2, cells := 0, slots := 0, locals := 43 } : Room) D (tyX cI cT) (wX a cI cT) (roX xx) aS [.ref (a 0), .int p1, .int p2] u r u := by
  refine rl_meth_i (cc := cX7_bound) (maxL := 3) (own := RX7) (ty := .int) (by decide) rfl rfl (Nat.le_of_ble_eq_true rfl) ?_
  intro G hG hret
  have h := h0
  rw [fX7_bound] at h
  show G u 0 [(0, .ref (a 0)), (1, .int p1), (2, .int p2)] []
  refine rl_aload_n hG dX7_bound_0 rfl 0 rfl ?_
  refine rl_iload_n hG dX7_bound_1 rfl 1 rfl ?_
  obtain ⟨x1, hx1q, zx1, h⟩ := oz_ok h
  refine rl_callVi hG (roX_ok xx) (As := [.int p1]) (kX7_isNoBound l D a cI cT aS xx u p1 x1  hx1q) gX7_bound_X7_isNoBound rfl 0 (gX_0 a cI cT u) hcX7 1 rfl (by decide +kernel) rfl rfl (by decide) (Nat.le_of_ble_eq_true rfl) rfl dX7_bound_2 ?_
  refine rl_if_eq hG (tgt := 11) dX7_bound_5 (by decide) (fun c2 => ?_) (fun c2 => ?_)
  · have h := it_t h c2
    refine rl_iload_n hG dX7_bound_11 rfl 2 rfl ?_
    refine rl_iconst hG (v := 0) dX7_bound_12 (by decide) ?_
    refine rl_bipush hG (v := 6) dX7_bound_13 (by decide) ?_
    obtain ⟨x3, hx3q, zx3, h⟩ := oz_ok h
    refine rl_callZi hG (As := [.int p2, .int (0 : Int32), .int (6 : Int32)]) (kX7_isOff l D u p2 (0 : Int32) (6 : Int32) x3 hx3q) gX7_bound_X7_isOff rfl 3 rfl (by decide +kernel) rfl rfl (by decide) (Nat.le_of_ble_eq_true rfl) rfl dX7_bound_15 ?_
    refine rl_if_eq hG (tgt := 24) dX7_bound_18 (by decide) (fun c4 => ?_) (fun c4 => ?_)
    · have h := it_t h c4
      refine rl_aload_n hG dX7_bound_24 rfl 0 rfl ?_
      refine rl_get hG iX7_bound_X7 0 (gX_0 a cI cT u) hcX7 2 (Nat.le_of_ble_eq_true rfl) nX7_bound_0 rfl dX7_bound_25 ?_
      refine rl_iload_n hG dX7_bound_28 rfl 1 rfl ?_
      refine rl_iload_n hG dX7_bound_29 rfl 2 rfl ?_
      obtain ⟨x5, hx5q, h⟩ := o1_ok h
      refine rl_callVi hG (roX_ok xx) (As := [.int p1, .int p2]) (kX0_cell l D a cI cT aS xx u p1 p2 x5  hx5q) gX7_bound_X0_cell rfl 3 (gX_3 a cI cT u) hcX0 2 rfl (by decide +kernel) rfl rfl (by decide) (Nat.le_of_ble_eq_true rfl) rfl dX7_bound_30 ?_
      exact rl_ret1 hret h rfl dX7_bound_33
    · have h := it_f h c4
      refine rl_bipush hG (v := -3) dX7_bound_21 (by decide) ?_
      exact rl_ret1 hret h rfl dX7_bound_23
  · have h := it_f h c2
    refine rl_bipush hG (v := -2) dX7_bound_8 (by decide) ?_
    exact rl_ret1 hret h rfl dX7_bound_10
def fX7_may (u : St)  (p1 : Int32) (p2 : Int32) : Option (Int32) := oz (fX7_isNoGuild p1) (fun x1 => (if x1 = (0 : Int32) then oz (fX7_isNoWork p2) (fun x3 => (if x3 = (0 : Int32) then o1 (fX0_leave u p1 p2 (-1 : Int32)) (fun x5 => some x5) else some (-2 : Int32))) else some (-2 : Int32)))
theorem nX7_may_0 : Cond.fieldLink RX7 28 "WhoseWork" "law" "LWhoseWork$Law;" ∈ wsX7_may := by decide +kernel
theorem iX7_may_X7 : ∀ w ∈ wsX70, w ∈ wsX7_may := by decide +kernel
set_option maxRecDepth 100000 in
set_option maxHeartbeats 4000000 in
theorem kX7_may (l : Launch) (D : va_G) (a : Nat → Nat) (cI cT : ClassId) (aS : Nat → Prop) (xx : Rx) (u : St)  (p1 : Int32) (p2 : Int32) (r : Int32)  (h0 : fX7_may u p1 p2 = some r) : rl_Mi l yX7_may wsX7_may ({ frames := 3, cells := 0, slots := 0, locals := 72 } : Room) D (tyX cI cT) (wX a cI cT) (roX xx) aS [.ref (a 0), .int p1, .int p2] u r u := by
  refine rl_meth_i (cc := cX7_may) (maxL := 3) (own := RX7) (ty := .int) (by decide) rfl rfl (Nat.le_of_ble_eq_true rfl) ?_
  intro G hG hret
  have h := h0
  rw [fX7_may] at h
  show G u 0 [(0, .ref (a 0)), (1, .int p1), (2, .int p2)] []
  refine rl_iload_n hG dX7_may_0 rfl 1 rfl ?_
  obtain ⟨x1, hx1q, zx1, h⟩ := oz_ok h
  refine rl_callZi hG (As := [.int p1]) (kX7_isNoGuild l D u p1 x1 hx1q) gX7_may_X7_isNoGuild rfl 1 rfl (by decide +kernel) rfl rfl (by decide) (Nat.le_of_ble_eq_true rfl) rfl dX7_may_1 ?_
  refine rl_if_ne hG (tgt := 14) dX7_may_4 (by decide) (fun c2 => ?_) (fun c2 => ?_)
  · have h := it_f h c2
    refine rl_bipush hG (v := -2) dX7_may_14 (by decide) ?_
    exact rl_ret1 hret h rfl dX7_may_16
  · have h := it_t h c2
    refine rl_iload_n hG dX7_may_7 rfl 2 rfl ?_
    obtain ⟨x3, hx3q, zx3, h⟩ := oz_ok h
    refine rl_callZi hG (As := [.int p2]) (kX7_isNoWork l D u p2 x3 hx3q) gX7_may_X7_isNoWork rfl 1 rfl (by decide +kernel) rfl rfl (by decide) (Nat.le_of_ble_eq_true rfl) rfl dX7_may_8 ?_
    refine rl_if_eq hG (tgt := 17) dX7_may_11 (by decide) (fun c4 => ?_) (fun c4 => ?_)
    · have h := it_t h c4
      refine rl_aload_n hG dX7_may_17 rfl 0 rfl ?_
      refine rl_get hG iX7_may_X7 0 (gX_0 a cI cT u) hcX7 2 (Nat.le_of_ble_eq_true rfl) nX7_may_0 rfl dX7_may_18 ?_
      refine rl_iload_n hG dX7_may_21 rfl 1 rfl ?_
      refine rl_iload_n hG dX7_may_22 rfl 2 rfl ?_
      refine rl_iconst hG (v := -1) dX7_may_23 (by decide) ?_
      obtain ⟨x5, hx5q, h⟩ := o1_ok h
      refine rl_callVi hG (roX_ok xx) (As := [.int p1, .int p2, .int (-1 : Int32)]) (kX0_leave l D a cI cT aS xx u p1 p2 (-1 : Int32) x5  hx5q) gX7_may_X0_leave rfl 3 (gX_3 a cI cT u) hcX0 3 rfl (by decide +kernel) rfl rfl (by decide) (Nat.le_of_ble_eq_true rfl) rfl dX7_may_24 ?_
      exact rl_ret1 hret h rfl dX7_may_27
    · have h := it_f h c4
      refine rl_bipush hG (v := -2) dX7_may_14 (by decide) ?_
      exact rl_ret1 hret h rfl dX7_may_16
def fX7_why (u : St)  (p1 : Int32) (p2 : Int32) : Option (Int32) := oz (fX7_isNoGuild p1) (fun x1 => (if x1 = (0 : Int32) then oz (fX7_isNoWork p2) (fun x3 => (if x3 = (0 : Int32) then o1 (fX0_deciding u p1 p2 (-1 : Int32)) (fun x5 => some x5) else some (-2 : Int32))) else some (-2 : Int32)))
theorem nX7_why_0 : Cond.fieldLink RX7 28 "WhoseWork" "law" "LWhoseWork$Law;" ∈ wsX7_why := by decide +kernel
theorem iX7_why_X7 : ∀ w ∈ wsX70, w ∈ wsX7_why := by decide +kernel
set_option maxRecDepth 100000 in
set_option maxHeartbeats 4000000 in
theorem kX7_why (l : Launch) (D : va_G) (a : Nat → Nat) (cI cT : ClassId) (aS : Nat → Prop) (xx : Rx) (u : St)  (p1 : Int32) (p2 : Int32) (r : Int32)  (h0 : fX7_why u p1 p2 = some r) : rl_Mi l yX7_why wsX7_why ({ frames := 2, cells := 0, slots := 0, locals := 48 } : Room) D (tyX cI cT) (wX a cI cT) (roX xx) aS [.ref (a 0), .int p1, .int p2] u r u := by
  refine rl_meth_i (cc := cX7_why) (maxL := 3) (own := RX7) (ty := .int) (by decide) rfl rfl (Nat.le_of_ble_eq_true rfl) ?_
  intro G hG hret
  have h := h0
  rw [fX7_why] at h
  show G u 0 [(0, .ref (a 0)), (1, .int p1), (2, .int p2)] []
  refine rl_iload_n hG dX7_why_0 rfl 1 rfl ?_
  obtain ⟨x1, hx1q, zx1, h⟩ := oz_ok h
  refine rl_callZi hG (As := [.int p1]) (kX7_isNoGuild l D u p1 x1 hx1q) gX7_why_X7_isNoGuild rfl 1 rfl (by decide +kernel) rfl rfl (by decide) (Nat.le_of_ble_eq_true rfl) rfl dX7_why_1 ?_
  refine rl_if_ne hG (tgt := 14) dX7_why_4 (by decide) (fun c2 => ?_) (fun c2 => ?_)
  · have h := it_f h c2
    refine rl_bipush hG (v := -2) dX7_why_14 (by decide) ?_
    exact rl_ret1 hret h rfl dX7_why_16
  · have h := it_t h c2
    refine rl_iload_n hG dX7_why_7 rfl 2 rfl ?_
    obtain ⟨x3, hx3q, zx3, h⟩ := oz_ok h
    refine rl_callZi hG (As := [.int p2]) (kX7_isNoWork l D u p2 x3 hx3q) gX7_why_X7_isNoWork rfl 1 rfl (by decide +kernel) rfl rfl (by decide) (Nat.le_of_ble_eq_true rfl) rfl dX7_why_8 ?_
    refine rl_if_eq hG (tgt := 17) dX7_why_11 (by decide) (fun c4 => ?_) (fun c4 => ?_)
    · have h := it_t h c4
      refine rl_aload_n hG dX7_why_17 rfl 0 rfl ?_
      refine rl_get hG iX7_why_X7 0 (gX_0 a cI cT u) hcX7 2 (Nat.le_of_ble_eq_true rfl) nX7_why_0 rfl dX7_why_18 ?_
      refine rl_iload_n hG dX7_why_21 rfl 1 rfl ?_
      refine rl_iload_n hG dX7_why_22 rfl 2 rfl ?_
      refine rl_iconst hG (v := -1) dX7_why_23 (by decide) ?_
      obtain ⟨x5, hx5q, h⟩ := o1_ok h
      refine rl_callVi hG (roX_ok xx) (As := [.int p1, .int p2, .int (-1 : Int32)]) (kX0_deciding l D a cI cT aS xx u p1 p2 (-1 : Int32) x5  hx5q) gX7_why_X0_deciding rfl 3 (gX_3 a cI cT u) hcX0 3 rfl (by decide +kernel) rfl rfl (by decide) (Nat.le_of_ble_eq_true rfl) rfl dX7_why_24 ?_
      exact rl_ret1 hret h rfl dX7_why_27
    · have h := it_f h c4
      refine rl_bipush hG (v := -2) dX7_why_14 (by decide) ?_
      exact rl_ret1 hret h rfl dX7_why_16
def fX7_who (u : St)  (p1 : Int32) : Option (Int32) := oz (fX7_isNoWork p1) (fun x1 => (if x1 = (0 : Int32) then o1 (fX0_guildsThatMay u p1) (fun x3 => some x3) else some (-2 : Int32)))
theorem nX7_who_0 : Cond.fieldLink RX7 28 "WhoseWork" "law" "LWhoseWork$Law;" ∈ wsX7_who := by decide +kernel
theorem iX7_who_X7 : ∀ w ∈ wsX70, w ∈ wsX7_who := by decide +kernel
set_option maxRecDepth 100000 in
set_option maxHeartbeats 4000000 in
theorem kX7_who (l : Launch) (D : va_G) (a : Nat → Nat) (cI cT : ClassId) (aS : Nat → Prop) (xx : Rx) (u : St)  (p1 : Int32) (r : Int32)  (h0 : fX7_who u p1 = some r) : rl_Mi l yX7_who wsX7_who ({ frames := 4, cells := 0, slots := 0, locals := 95 } : Room) D (tyX cI cT) (wX a cI cT) (roX xx) aS [.ref (a 0), .int p1] u r u := by
  refine rl_meth_i (cc := cX7_who) (maxL := 2) (own := RX7) (ty := .int) (by decide) rfl rfl (Nat.le_of_ble_eq_true rfl) ?_
  intro G hG hret
  have h := h0
  rw [fX7_who] at h
  show G u 0 [(0, .ref (a 0)), (1, .int p1)] []
  refine rl_iload_n hG dX7_who_0 rfl 1 rfl ?_
  obtain ⟨x1, hx1q, zx1, h⟩ := oz_ok h
  refine rl_callZi hG (As := [.int p1]) (kX7_isNoWork l D u p1 x1 hx1q) gX7_who_X7_isNoWork rfl 1 rfl (by decide +kernel) rfl rfl (by decide) (Nat.le_of_ble_eq_true rfl) rfl dX7_who_1 ?_
  refine rl_if_eq hG (tgt := 10) dX7_who_4 (by decide) (fun c2 => ?_) (fun c2 => ?_)
  · have h := it_t h c2
    refine rl_aload_n hG dX7_who_10 rfl 0 rfl ?_
    refine rl_get hG iX7_who_X7 0 (gX_0 a cI cT u) hcX7 2 (Nat.le_of_ble_eq_true rfl) nX7_who_0 rfl dX7_who_11 ?_
    refine rl_iload_n hG dX7_who_14 rfl 1 rfl ?_
    obtain ⟨x3, hx3q, h⟩ := o1_ok h
    refine rl_callVi hG (roX_ok xx) (As := [.int p1]) (kX0_guildsThatMay l D a cI cT aS xx u p1 x3  hx3q) gX7_who_X0_guildsThatMay rfl 3 (gX_3 a cI cT u) hcX0 1 rfl (by decide +kernel) rfl rfl (by decide) (Nat.le_of_ble_eq_true rfl) rfl dX7_who_15 ?_
    exact rl_ret1 hret h rfl dX7_who_18
  · have h := it_f h c2
    refine rl_bipush hG (v := -2) dX7_who_7 (by decide) ?_
    exact rl_ret1 hret h rfl dX7_who_9
def fX7_works_L54 (u : St) (k22 : Int32 → Int32 → Int32 → Int32 → Option (Int32)) (v1 : Int32) (v2 : Int32) (v3 : Int32) (v4 : Int32) : Option (Int32) := bd (v4 + (1 : Int32)) (fun x1 => k22 v1 v2 v3 x1)
def fX7_works_L60 (u : St)  (v2 : Int32) (v3 : Int32) : Option (Int32) := (if v2 = (-1 : Int32) then some v3 else some (-1 : Int32))
def fX7_works_L22 (u : St)  : Nat → Int32 → Int32 → Int32 → Int32 → Option (Int32)
  | 0 => fun _ _ _ _ => none
  | n + 1 => fun v1 v2 v3 v4 => (if (240 : Int32) ≤ v4 then fX7_works_L60 u v2 v3 else oz (fX0_isOfKind u v4 v1) (fun x4 => (if x4 = (0 : Int32) then fX7_works_L54 u (fX7_works_L22 u n) v1 v2 v3 v4 else (if v3 = v2 then some v4 else bd (v3 + (1 : Int32)) (fun x7 => fX7_works_L54 u (fX7_works_L22 u n) v1 v2 x7 v4)))))
def fX7_works (u : St)  (p1 : Int32) (p2 : Int32) : Option (Int32) := oz (fX7_isOff p1 (0 : Int32) (2 : Int32)) (fun x8 => (if x8 = (0 : Int32) then (if (-1 : Int32) ≤ p2 then fX7_works_L22 u 2000 p1 p2 (0 : Int32) (0 : Int32) else some (-3 : Int32)) else some (-3 : Int32)))
theorem nX7_works_0 : Cond.fieldLink RX7 28 "WhoseWork" "law" "LWhoseWork$Law;" ∈ wsX7_works := by decide +kernel
theorem iX7_works_X7 : ∀ w ∈ wsX70, w ∈ wsX7_works := by decide +kernel
set_option maxRecDepth 100000 in
set_option maxHeartbeats 4000000 in
theorem kX7_works (l : Launch) (D : va_G) (a : Nat → Nat) (cI cT : ClassId) (aS : Nat → Prop) (xx : Rx) (u : St)  (p1 : Int32) (p2 : Int32) (r : Int32)  (h0 : fX7_works u p1 p2 = some r) : rl_Mi l yX7_works wsX7_works ({ frames := 5, cells := 0, slots := 0, locals := 117 } : Room) D (tyX cI cT) (wX a cI cT) (roX xx) aS [.ref (a 0), .int p1, .int p2] u r u := by
  refine rl_meth_i (cc := cX7_works) (maxL := 5) (own := RX7) (ty := .int) (by decide) rfl rfl (Nat.le_of_ble_eq_true rfl) ?_
  intro G hG hret
  have H54 : ∀ (k22 : Int32 → Int32 → Int32 → Int32 → Option (Int32)) (hk22 : ∀ (v1 : Int32) (v2 : Int32) (v3 : Int32) (v4 : Int32), k22 v1 v2 v3 v4 = some r → G u 22 [(0, .ref (a 0)), (1, .int v1), (2, .int v2), (3, .int v3), (4, .int v4)] []), ∀ (v1 : Int32) (v2 : Int32) (v3 : Int32) (v4 : Int32), fX7_works_L54 u k22 v1 v2 v3 v4 = some r → G u 54 [(0, .ref (a 0)), (1, .int v1), (2, .int v2), (3, .int v3), (4, .int v4)] [] := by
    intro k22 hk22 v1 v2 v3 v4 h
    rw [fX7_works_L54] at h
    obtain ⟨x1, ex1, h⟩ := bd_ok h
    refine rl_iinc hG [(4, .int x1), (0, .ref (a 0)), (1, .int v1), (2, .int v2), (3, .int v3)] dX7_works_54 4 rfl (by rw [ex1]; rfl) (Nat.le_of_ble_eq_true rfl) rfl ?_
    refine rl_goto hG (tgt := 22) dX7_works_57 (by decide) ?_
    exact rl_lvs hG [1, 2, 3, 4, 0] rfl (hk22 v1 v2 v3 x1 h)
  have H60 : ∀ (v2 : Int32) (v3 : Int32), fX7_works_L60 u v2 v3 = some r → G u 60 [(2, .int v2), (3, .int v3)] [] := by
    intro  v2 v3 h
    rw [fX7_works_L60] at h
    refine rl_iload_n hG dX7_works_60 rfl 0 rfl ?_
    refine rl_iconst hG (v := -1) dX7_works_61 (by decide) ?_
    refine rl_icmp_ne hG (tgt := 69) dX7_works_62 (by decide) (fun c2 => ?_) (fun c2 => ?_)
    · have h := it_f h c2
      refine rl_iconst hG (v := -1) dX7_works_69 (by decide) ?_
      exact rl_ret1 hret h rfl dX7_works_70
    · have h := it_t h c2
      refine rl_iload_n hG dX7_works_65 rfl 1 rfl ?_
      refine rl_goto hG (tgt := 70) dX7_works_66 (by decide) ?_
      exact rl_ret1 hret h rfl dX7_works_70
  have H22 : ∀ (n : Nat) (v1 : Int32) (v2 : Int32) (v3 : Int32) (v4 : Int32), fX7_works_L22 u n v1 v2 v3 v4 = some r → G u 22 [(0, .ref (a 0)), (1, .int v1), (2, .int v2), (3, .int v3), (4, .int v4)] [] := by
    intro n
    induction n with
    | zero =>
      intro v1 v2 v3 v4 h
      exact absurd h (by rw [fX7_works_L22]; exact fun q => by cases q)
    | succ n ih =>
      intro v1 v2 v3 v4 h
      rw [fX7_works_L22] at h
      refine rl_iload hG dX7_works_22 4 rfl ?_
      refine rl_sipush hG (v := 240) dX7_works_24 (by decide) ?_
      refine rl_icmp_ge hG (tgt := 60) dX7_works_27 (by decide) (fun c3 => ?_) (fun c3 => ?_)
      · have h := it_t h c3
        exact rl_lvs hG [2, 3] rfl (H60 v2 v3 h)
      · have h := it_f h c3
        refine rl_aload_n hG dX7_works_30 rfl 0 rfl ?_
        refine rl_get hG iX7_works_X7 0 (gX_0 a cI cT u) hcX7 2 (Nat.le_of_ble_eq_true rfl) nX7_works_0 rfl dX7_works_31 ?_
        refine rl_iload hG dX7_works_34 4 rfl ?_
        refine rl_iload_n hG dX7_works_36 rfl 1 rfl ?_
        obtain ⟨x4, hx4q, zx4, h⟩ := oz_ok h
        refine rl_callVi hG (roX_ok xx) (As := [.int v4, .int v1]) (kX0_isOfKind l D a cI cT aS xx u v4 v1 x4  hx4q) gX7_works_X0_isOfKind rfl 3 (gX_3 a cI cT u) hcX0 2 rfl (by decide +kernel) rfl rfl (by decide) (Nat.le_of_ble_eq_true rfl) rfl dX7_works_37 ?_
        refine rl_if_eq hG (tgt := 54) dX7_works_40 (by decide) (fun c5 => ?_) (fun c5 => ?_)
        · have h := it_t h c5
          exact rl_lvs hG [0, 1, 2, 3, 4] rfl (H54 (fX7_works_L22 u n) (ih) v1 v2 v3 v4 h)
        · have h := it_f h c5
          refine rl_iload_n hG dX7_works_43 rfl 3 rfl ?_
          refine rl_iload_n hG dX7_works_44 rfl 2 rfl ?_
          refine rl_icmp_ne hG (tgt := 51) dX7_works_45 (by decide) (fun c6 => ?_) (fun c6 => ?_)
          · have h := it_f h c6
            obtain ⟨x7, ex7, h⟩ := bd_ok h
            refine rl_iinc hG [(3, .int x7), (0, .ref (a 0)), (1, .int v1), (2, .int v2), (4, .int v4)] dX7_works_51 3 rfl (by rw [ex7]; rfl) (Nat.le_of_ble_eq_true rfl) rfl ?_
            exact rl_lvs hG [1, 2, 3, 0, 4] rfl (H54 (fX7_works_L22 u n) (ih) v1 v2 x7 v4 h)
          · have h := it_t h c6
            refine rl_iload hG dX7_works_48 4 rfl ?_
            exact rl_ret1 hret h rfl dX7_works_50
  have h := h0
  rw [fX7_works] at h
  show G u 0 [(0, .ref (a 0)), (1, .int p1), (2, .int p2)] []
  refine rl_iload_n hG dX7_works_0 rfl 1 rfl ?_
  refine rl_iconst hG (v := 0) dX7_works_1 (by decide) ?_
  refine rl_iconst hG (v := 2) dX7_works_2 (by decide) ?_
  obtain ⟨x8, hx8q, zx8, h⟩ := oz_ok h
  refine rl_callZi hG (As := [.int p1, .int (0 : Int32), .int (2 : Int32)]) (kX7_isOff l D u p1 (0 : Int32) (2 : Int32) x8 hx8q) gX7_works_X7_isOff rfl 3 rfl (by decide +kernel) rfl rfl (by decide) (Nat.le_of_ble_eq_true rfl) rfl dX7_works_3 ?_
  refine rl_if_ne hG (tgt := 14) dX7_works_6 (by decide) (fun c9 => ?_) (fun c9 => ?_)
  · have h := it_f h c9
    refine rl_bipush hG (v := -3) dX7_works_14 (by decide) ?_
    exact rl_ret1 hret h rfl dX7_works_16
  · have h := it_t h c9
    refine rl_iload_n hG dX7_works_9 rfl 2 rfl ?_
    refine rl_iconst hG (v := -1) dX7_works_10 (by decide) ?_
    refine rl_icmp_ge hG (tgt := 17) dX7_works_11 (by decide) (fun c10 => ?_) (fun c10 => ?_)
    · have h := it_t h c10
      refine rl_iconst hG (v := 0) dX7_works_17 (by decide) ?_
      refine rl_istore_n hG [(3, .int (0 : Int32)), (0, .ref (a 0)), (1, .int p1), (2, .int p2)] dX7_works_18 rfl (Nat.le_of_ble_eq_true rfl) rfl rfl ?_
      refine rl_iconst hG (v := 0) dX7_works_19 (by decide) ?_
      refine rl_istore hG [(4, .int (0 : Int32)), (3, .int (0 : Int32)), (0, .ref (a 0)), (1, .int p1), (2, .int p2)] dX7_works_20 (Nat.le_of_ble_eq_true rfl) rfl rfl ?_
      exact rl_lvs hG [2, 3, 4, 1, 0] rfl (H22 2000 p1 p2 (0 : Int32) (0 : Int32) h)
    · have h := it_f h c10
      refine rl_bipush hG (v := -3) dX7_works_14 (by decide) ?_
      exact rl_ret1 hret h rfl dX7_works_16
def fX7_step_L29   (u : St) (v1 : Int32) (v2 : Int32) (v3 : Int32) : Option (Int32 × St) := tld v1 (fun t1 => (if (u (23 + t1) 1) = (8 : Int32) then some ((-5 : Int32), u) else o1 (fX6_addStep u t1 v2 v3) (fun u3 => some ((u3 (23 + t1) 1), u3))))
def fX7_step (u : St)  (p1 : Int32) (p2 : Int32) (p3 : Int32) : Option (Int32 × St) := oz (fX7_isNoThing p1) (fun x4 => (if x4 = (0 : Int32) then oz (fX7_isNoWork p2) (fun x6 => (if x6 = (0 : Int32) then (if p3 = (-1 : Int32) then fX7_step_L29 u p1 p2 p3 else oz (fX7_isNoWork p3) (fun x9 => (if x9 = (0 : Int32) then fX7_step_L29 u p1 p2 p3 else some ((-2 : Int32), u)))) else some ((-2 : Int32), u))) else some ((-2 : Int32), u)))
theorem nX7_step_0 : Cond.fieldLink RX7 50 "WhoseWork" "things" "[LWhoseWork$Thing;" ∈ wsX7_step := by decide +kernel
theorem nX7_step_1 : Cond.fieldLink RX7 130 "WhoseWork$Thing" "size" "I" ∈ wsX7_step := by decide +kernel
theorem iX7_step_X6 : ∀ w ∈ wsX60, w ∈ wsX7_step := by decide +kernel
theorem iX7_step_X7 : ∀ w ∈ wsX70, w ∈ wsX7_step := by decide +kernel
set_option maxRecDepth 100000 in
set_option maxHeartbeats 4000000 in
theorem kX7_step (l : Launch) (D : va_G) (a : Nat → Nat) (cI cT : ClassId) (aS : Nat → Prop) (xx : Rx) (u : St)  (p1 : Int32) (p2 : Int32) (p3 : Int32) (r : Int32) (τ : St)  (h0 : fX7_step u p1 p2 p3 = some (r, τ)) : rl_Mi l yX7_step wsX7_step ({ frames := 2, cells := 0, slots := 0, locals := 42 } : Room) D (tyX cI cT) (wX a cI cT) (roX xx) aS [.ref (a 0), .int p1, .int p2, .int p3] u r τ := by
  refine rl_meth_i (cc := cX7_step) (maxL := 5) (own := RX7) (ty := .int) (by decide) rfl rfl (Nat.le_of_ble_eq_true rfl) ?_
  intro G hG hret
  have H29 : ∀ (u : St) (v1 : Int32) (v2 : Int32) (v3 : Int32), fX7_step_L29 u v1 v2 v3 = some (r, τ) → G u 29 [(0, .ref (a 0)), (1, .int v1), (2, .int v2), (3, .int v3)] [] := by
    intro  u v1 v2 v3 h
    rw [fX7_step_L29] at h
    refine rl_aload_n hG dX7_step_29 rfl 0 rfl ?_
    refine rl_get hG iX7_step_X7 0 (gX_0 a cI cT u) hcX7 5 (Nat.le_of_ble_eq_true rfl) nX7_step_0 rfl dX7_step_30 ?_
    refine rl_iload_n hG dX7_step_33 rfl 1 rfl ?_
    obtain ⟨t1, ht1, it1, et1, h⟩ := tld_ok h
    refine rl_aald hG 6 1 (gX_6 a cI cT u) rfl it1 (b := a (23 + t1)) (by rw [et1]) dX7_step_34 ?_
    refine rl_astore hG [(4, .ref (a (23 + t1))), (0, .ref (a 0)), (1, .int v1), (2, .int v2), (3, .int v3)] dX7_step_35 (Nat.le_of_ble_eq_true rfl) rfl rfl ?_
    refine rl_aload hG dX7_step_37 0 rfl ?_
    refine rl_get hG iX7_step_X6 (23 + t1) (gX_t a cI cT u ht1) hcX6 1 (Nat.le_of_ble_eq_true rfl) nX7_step_1 rfl dX7_step_39 ?_
    refine rl_bipush hG (v := 8) dX7_step_42 (by decide) ?_
    refine rl_icmp_ne hG (tgt := 50) dX7_step_44 (by decide) (fun c2 => ?_) (fun c2 => ?_)
    · have h := it_f h c2
      refine rl_aload hG dX7_step_50 0 rfl ?_
      refine rl_iload_n hG dX7_step_52 rfl 3 rfl ?_
      refine rl_iload_n hG dX7_step_53 rfl 4 rfl ?_
      obtain ⟨u3, hu3q, h⟩ := o1_ok h
      refine rl_callVv hG (roX_ok xx) (As := [.int v2, .int v3]) (kX6_addStep l D a cI cT aS xx u t1 v2 v3 u3 ht1 hu3q) gX7_step_X6_addStep rfl (23 + t1) (gX_t a cI cT u ht1) hcX6 2 rfl (by decide +kernel) rfl rfl (by decide) (Nat.le_of_ble_eq_true rfl) rfl dX7_step_54 ?_
      refine rl_aload hG dX7_step_57 0 rfl ?_
      refine rl_get hG iX7_step_X6 (23 + t1) (gX_t a cI cT u3 ht1) hcX6 1 (Nat.le_of_ble_eq_true rfl) nX7_step_1 rfl dX7_step_59 ?_
      exact rl_ret2 hret h rfl dX7_step_62
    · have h := it_t h c2
      refine rl_bipush hG (v := -5) dX7_step_47 (by decide) ?_
      exact rl_ret2 hret h rfl dX7_step_49
  have h := h0
  rw [fX7_step] at h
  show G u 0 [(0, .ref (a 0)), (1, .int p1), (2, .int p2), (3, .int p3)] []
  refine rl_iload_n hG dX7_step_0 rfl 1 rfl ?_
  obtain ⟨x4, hx4q, zx4, h⟩ := oz_ok h
  refine rl_callZi hG (As := [.int p1]) (kX7_isNoThing l D u p1 x4 hx4q) gX7_step_X7_isNoThing rfl 1 rfl (by decide +kernel) rfl rfl (by decide) (Nat.le_of_ble_eq_true rfl) rfl dX7_step_1 ?_
  refine rl_if_ne hG (tgt := 26) dX7_step_4 (by decide) (fun c5 => ?_) (fun c5 => ?_)
  · have h := it_f h c5
    refine rl_bipush hG (v := -2) dX7_step_26 (by decide) ?_
    exact rl_ret2 hret h rfl dX7_step_28
  · have h := it_t h c5
    refine rl_iload_n hG dX7_step_7 rfl 2 rfl ?_
    obtain ⟨x6, hx6q, zx6, h⟩ := oz_ok h
    refine rl_callZi hG (As := [.int p2]) (kX7_isNoWork l D u p2 x6 hx6q) gX7_step_X7_isNoWork rfl 1 rfl (by decide +kernel) rfl rfl (by decide) (Nat.le_of_ble_eq_true rfl) rfl dX7_step_8 ?_
    refine rl_if_ne hG (tgt := 26) dX7_step_11 (by decide) (fun c7 => ?_) (fun c7 => ?_)
    · have h := it_f h c7
      refine rl_bipush hG (v := -2) dX7_step_26 (by decide) ?_
      exact rl_ret2 hret h rfl dX7_step_28
    · have h := it_t h c7
      refine rl_iload_n hG dX7_step_14 rfl 3 rfl ?_
      refine rl_iconst hG (v := -1) dX7_step_15 (by decide) ?_
      refine rl_icmp_eq hG (tgt := 29) dX7_step_16 (by decide) (fun c8 => ?_) (fun c8 => ?_)
      · have h := it_t h c8
        exact rl_lvs hG [0, 1, 2, 3] rfl (H29 u p1 p2 p3 h)
      · have h := it_f h c8
        refine rl_iload_n hG dX7_step_19 rfl 3 rfl ?_
        obtain ⟨x9, hx9q, zx9, h⟩ := oz_ok h
        refine rl_callZi hG (As := [.int p3]) (kX7_isNoWork l D u p3 x9 hx9q) gX7_step_X7_isNoWork rfl 1 rfl (by decide +kernel) rfl rfl (by decide) (Nat.le_of_ble_eq_true rfl) rfl dX7_step_20 ?_
        refine rl_if_eq hG (tgt := 29) dX7_step_23 (by decide) (fun c10 => ?_) (fun c10 => ?_)
        · have h := it_t h c10
          exact rl_lvs hG [0, 1, 2, 3] rfl (H29 u p1 p2 p3 h)
        · have h := it_f h c10
          refine rl_bipush hG (v := -2) dX7_step_26 (by decide) ?_
          exact rl_ret2 hret h rfl dX7_step_28
def fX7_clear (u : St)  (p1 : Int32) : Option (Int32 × St) := oz (fX7_isNoThing p1) (fun x1 => (if x1 = (0 : Int32) then tld p1 (fun t3 => bd (u (23 + t3) 1) (fun x4 => tld p1 (fun t5 => bd (st_wr u (23 + t5) 1 (0 : Int32)) (fun u6 => some (x4, u6))))) else some ((-2 : Int32), u)))
theorem nX7_clear_0 : Cond.fieldLink RX7 50 "WhoseWork" "things" "[LWhoseWork$Thing;" ∈ wsX7_clear := by decide +kernel
theorem nX7_clear_1 : Cond.fieldLink RX7 130 "WhoseWork$Thing" "size" "I" ∈ wsX7_clear := by decide +kernel
theorem iX7_clear_X6 : ∀ w ∈ wsX60, w ∈ wsX7_clear := by decide +kernel
theorem iX7_clear_X7 : ∀ w ∈ wsX70, w ∈ wsX7_clear := by decide +kernel
set_option maxRecDepth 100000 in
set_option maxHeartbeats 4000000 in
theorem kX7_clear (l : Launch) (D : va_G) (a : Nat → Nat) (cI cT : ClassId) (aS : Nat → Prop) (xx : Rx) (u : St)  (p1 : Int32) (r : Int32) (τ : St)  (h0 : fX7_clear u p1 = some (r, τ)) : rl_Mi l yX7_clear wsX7_clear ({ frames := 2, cells := 0, slots := 0, locals := 42 } : Room) D (tyX cI cT) (wX a cI cT) (roX xx) aS [.ref (a 0), .int p1] u r τ := by
  refine rl_meth_i (cc := cX7_clear) (maxL := 3) (own := RX7) (ty := .int) (by decide) rfl rfl (Nat.le_of_ble_eq_true rfl) ?_
  intro G hG hret
  have h := h0
  rw [fX7_clear] at h
  show G u 0 [(0, .ref (a 0)), (1, .int p1)] []
  refine rl_iload_n hG dX7_clear_0 rfl 1 rfl ?_
  obtain ⟨x1, hx1q, zx1, h⟩ := oz_ok h
  refine rl_callZi hG (As := [.int p1]) (kX7_isNoThing l D u p1 x1 hx1q) gX7_clear_X7_isNoThing rfl 1 rfl (by decide +kernel) rfl rfl (by decide) (Nat.le_of_ble_eq_true rfl) rfl dX7_clear_1 ?_
  refine rl_if_eq hG (tgt := 10) dX7_clear_4 (by decide) (fun c2 => ?_) (fun c2 => ?_)
  · have h := it_t h c2
    refine rl_aload_n hG dX7_clear_10 rfl 0 rfl ?_
    refine rl_get hG iX7_clear_X7 0 (gX_0 a cI cT u) hcX7 5 (Nat.le_of_ble_eq_true rfl) nX7_clear_0 rfl dX7_clear_11 ?_
    refine rl_iload_n hG dX7_clear_14 rfl 1 rfl ?_
    obtain ⟨t3, ht3, it3, et3, h⟩ := tld_ok h
    refine rl_aald hG 6 1 (gX_6 a cI cT u) rfl it3 (b := a (23 + t3)) (by rw [et3]) dX7_clear_15 ?_
    refine rl_get hG iX7_clear_X6 (23 + t3) (gX_t a cI cT u ht3) hcX6 1 (Nat.le_of_ble_eq_true rfl) nX7_clear_1 rfl dX7_clear_16 ?_
    obtain ⟨x4, ex4, h⟩ := bd_ok h
    refine rl_istore_n hG [(2, .int x4), (0, .ref (a 0)), (1, .int p1)] dX7_clear_19 rfl (Nat.le_of_ble_eq_true rfl) ex4 rfl ?_
    refine rl_aload_n hG dX7_clear_20 rfl 1 rfl ?_
    refine rl_get hG iX7_clear_X7 0 (gX_0 a cI cT u) hcX7 5 (Nat.le_of_ble_eq_true rfl) nX7_clear_0 rfl dX7_clear_21 ?_
    refine rl_iload_n hG dX7_clear_24 rfl 2 rfl ?_
    obtain ⟨t5, ht5, it5, et5, h⟩ := tld_ok h
    refine rl_aald hG 6 1 (gX_6 a cI cT u) rfl it5 (b := a (23 + t5)) (by rw [et5]) dX7_clear_25 ?_
    refine rl_iconst hG (v := 0) dX7_clear_26 (by decide) ?_
    obtain ⟨u6, eu6, h⟩ := bd_ok h
    refine rl_put hG iX7_clear_X6 tyX6 tyX6_ok nmX6 (23 + t5) (gX_t a cI cT u ht5) hcX6 1 (Nat.le_of_ble_eq_true rfl) nX7_clear_1 rfl rfl (Nat.le_of_ble_eq_true rfl) (σ' := u6) ((sX_t a cI cT u ht5 _).trans (congrArg _ eu6.symm)) dX7_clear_27 ?_
    refine rl_iload_n hG dX7_clear_30 rfl 0 rfl ?_
    exact rl_ret2 hret h rfl dX7_clear_31
  · have h := it_f h c2
    refine rl_bipush hG (v := -2) dX7_clear_7 (by decide) ?_
    exact rl_ret2 hret h rfl dX7_clear_9
def fX7_price (u : St)  (p1 : Int32) (p2 : Int32) (p3 : Int32) : Option (Int32 × St) := oz (fX7_isNoGuild p1) (fun x1 => (if x1 = (0 : Int32) then oz (fX7_isOff p2 (0 : Int32) (5 : Int32)) (fun x3 => (if x3 = (0 : Int32) then oz (fX7_isOff p3 (0 : Int32) (99 : Int32)) (fun x5 => (if x5 = (0 : Int32) then ald u 17 36 ((p1 * (6 : Int32)) + p2) (fun x7 => asr u 17 36 ((p1 * (6 : Int32)) + p2) p3 (fun u8 => some (x7, u8))) else some ((-3 : Int32), u))) else some ((-3 : Int32), u))) else some ((-2 : Int32), u)))
theorem nX7_price_0 : Cond.fieldLink RX7 35 "WhoseWork" "tariff" "LWhoseWork$Tariff;" ∈ wsX7_price := by decide +kernel
theorem nX7_price_1 : Cond.fieldLink RX7 135 "WhoseWork$Tariff" "prices" "[I" ∈ wsX7_price := by decide +kernel
theorem iX7_price_X4 : ∀ w ∈ wsX40, w ∈ wsX7_price := by decide +kernel
theorem iX7_price_X7 : ∀ w ∈ wsX70, w ∈ wsX7_price := by decide +kernel
set_option maxRecDepth 100000 in
set_option maxHeartbeats 4000000 in
theorem kX7_price (l : Launch) (D : va_G) (a : Nat → Nat) (cI cT : ClassId) (aS : Nat → Prop) (xx : Rx) (u : St)  (p1 : Int32) (p2 : Int32) (p3 : Int32) (r : Int32) (τ : St)  (h0 : fX7_price u p1 p2 p3 = some (r, τ)) : rl_Mi l yX7_price wsX7_price ({ frames := 2, cells := 0, slots := 0, locals := 42 } : Room) D (tyX cI cT) (wX a cI cT) (roX xx) aS [.ref (a 0), .int p1, .int p2, .int p3] u r τ := by
  refine rl_meth_i (cc := cX7_price) (maxL := 5) (own := RX7) (ty := .int) (by decide) rfl rfl (Nat.le_of_ble_eq_true rfl) ?_
  intro G hG hret
  have h := h0
  rw [fX7_price] at h
  show G u 0 [(0, .ref (a 0)), (1, .int p1), (2, .int p2), (3, .int p3)] []
  refine rl_iload_n hG dX7_price_0 rfl 1 rfl ?_
  obtain ⟨x1, hx1q, zx1, h⟩ := oz_ok h
  refine rl_callZi hG (As := [.int p1]) (kX7_isNoGuild l D u p1 x1 hx1q) gX7_price_X7_isNoGuild rfl 1 rfl (by decide +kernel) rfl rfl (by decide) (Nat.le_of_ble_eq_true rfl) rfl dX7_price_1 ?_
  refine rl_if_eq hG (tgt := 10) dX7_price_4 (by decide) (fun c2 => ?_) (fun c2 => ?_)
  · have h := it_t h c2
    refine rl_iload_n hG dX7_price_10 rfl 2 rfl ?_
    refine rl_iconst hG (v := 0) dX7_price_11 (by decide) ?_
    refine rl_iconst hG (v := 5) dX7_price_12 (by decide) ?_
    obtain ⟨x3, hx3q, zx3, h⟩ := oz_ok h
    refine rl_callZi hG (As := [.int p2, .int (0 : Int32), .int (5 : Int32)]) (kX7_isOff l D u p2 (0 : Int32) (5 : Int32) x3 hx3q) gX7_price_X7_isOff rfl 3 rfl (by decide +kernel) rfl rfl (by decide) (Nat.le_of_ble_eq_true rfl) rfl dX7_price_13 ?_
    refine rl_if_ne hG (tgt := 29) dX7_price_16 (by decide) (fun c4 => ?_) (fun c4 => ?_)
    · have h := it_f h c4
      refine rl_bipush hG (v := -3) dX7_price_29 (by decide) ?_
      exact rl_ret2 hret h rfl dX7_price_31
    · have h := it_t h c4
      refine rl_iload_n hG dX7_price_19 rfl 3 rfl ?_
      refine rl_iconst hG (v := 0) dX7_price_20 (by decide) ?_
      refine rl_bipush hG (v := 99) dX7_price_21 (by decide) ?_
      obtain ⟨x5, hx5q, zx5, h⟩ := oz_ok h
      refine rl_callZi hG (As := [.int p3, .int (0 : Int32), .int (99 : Int32)]) (kX7_isOff l D u p3 (0 : Int32) (99 : Int32) x5 hx5q) gX7_price_X7_isOff rfl 3 rfl (by decide +kernel) rfl rfl (by decide) (Nat.le_of_ble_eq_true rfl) rfl dX7_price_23 ?_
      refine rl_if_eq hG (tgt := 32) dX7_price_26 (by decide) (fun c6 => ?_) (fun c6 => ?_)
      · have h := it_t h c6
        refine rl_aload_n hG dX7_price_32 rfl 0 rfl ?_
        refine rl_get hG iX7_price_X7 0 (gX_0 a cI cT u) hcX7 3 (Nat.le_of_ble_eq_true rfl) nX7_price_0 rfl dX7_price_33 ?_
        refine rl_get hG iX7_price_X4 4 (gX_4 a cI cT u) hcX4 0 (Nat.le_of_ble_eq_true rfl) nX7_price_1 rfl dX7_price_36 ?_
        refine rl_iload_n hG dX7_price_39 rfl 1 rfl ?_
        refine rl_bipush hG (v := 6) dX7_price_40 (by decide) ?_
        refine rl_imul hG dX7_price_42 ?_
        refine rl_iload_n hG dX7_price_43 rfl 2 rfl ?_
        refine rl_iadd hG dX7_price_44 ?_
        obtain ⟨x7, ix7, ex7, h⟩ := ald_ok h
        refine rl_iald hG 17 0 (gX_17 a cI cT u) rfl ix7 ex7 dX7_price_45 ?_
        refine rl_istore hG [(4, .int x7), (0, .ref (a 0)), (1, .int p1), (2, .int p2), (3, .int p3)] dX7_price_46 (Nat.le_of_ble_eq_true rfl) rfl rfl ?_
        refine rl_aload_n hG dX7_price_48 rfl 1 rfl ?_
        refine rl_get hG iX7_price_X7 0 (gX_0 a cI cT u) hcX7 3 (Nat.le_of_ble_eq_true rfl) nX7_price_0 rfl dX7_price_49 ?_
        refine rl_get hG iX7_price_X4 4 (gX_4 a cI cT u) hcX4 0 (Nat.le_of_ble_eq_true rfl) nX7_price_1 rfl dX7_price_52 ?_
        refine rl_iload_n hG dX7_price_55 rfl 2 rfl ?_
        refine rl_bipush hG (v := 6) dX7_price_56 (by decide) ?_
        refine rl_imul hG dX7_price_58 ?_
        refine rl_iload_n hG dX7_price_59 rfl 3 rfl ?_
        refine rl_iadd hG dX7_price_60 ?_
        refine rl_iload_n hG dX7_price_61 rfl 4 rfl ?_
        obtain ⟨u8, iu8, eu8, h⟩ := asr_ok h
        refine rl_iast hG 17 0 (gX_17 a cI cT u) rfl iu8 (σ' := u8) ((sX_17 a cI cT u _).trans (congrArg _ eu8.symm)) dX7_price_62 ?_
        refine rl_iload hG dX7_price_63 0 rfl ?_
        exact rl_ret2 hret h rfl dX7_price_65
      · have h := it_f h c6
        refine rl_bipush hG (v := -3) dX7_price_29 (by decide) ?_
        exact rl_ret2 hret h rfl dX7_price_31
  · have h := it_f h c2
    refine rl_bipush hG (v := -2) dX7_price_7 (by decide) ?_
    exact rl_ret2 hret h rfl dX7_price_9
def fX7_days (u : St)  (p1 : Int32) (p2 : Int32) : Option (Int32 × St) := oz (fX7_isNoGuild p1) (fun x1 => (if x1 = (0 : Int32) then oz (fX7_isOff p2 (1 : Int32) (9 : Int32)) (fun x3 => (if x3 = (0 : Int32) then ald u 18 6 p1 (fun x5 => asr u 18 6 p1 p2 (fun u6 => some (x5, u6))) else some ((-3 : Int32), u))) else some ((-2 : Int32), u)))
theorem nX7_days_0 : Cond.fieldLink RX7 35 "WhoseWork" "tariff" "LWhoseWork$Tariff;" ∈ wsX7_days := by decide +kernel
theorem nX7_days_1 : Cond.fieldLink RX7 138 "WhoseWork$Tariff" "daysOfGuilds" "[I" ∈ wsX7_days := by decide +kernel
theorem iX7_days_X4 : ∀ w ∈ wsX40, w ∈ wsX7_days := by decide +kernel
theorem iX7_days_X7 : ∀ w ∈ wsX70, w ∈ wsX7_days := by decide +kernel
set_option maxRecDepth 100000 in
set_option maxHeartbeats 4000000 in
theorem kX7_days (l : Launch) (D : va_G) (a : Nat → Nat) (cI cT : ClassId) (aS : Nat → Prop) (xx : Rx) (u : St)  (p1 : Int32) (p2 : Int32) (r : Int32) (τ : St)  (h0 : fX7_days u p1 p2 = some (r, τ)) : rl_Mi l yX7_days wsX7_days ({ frames := 2, cells := 0, slots := 0, locals := 42 } : Room) D (tyX cI cT) (wX a cI cT) (roX xx) aS [.ref (a 0), .int p1, .int p2] u r τ := by
  refine rl_meth_i (cc := cX7_days) (maxL := 4) (own := RX7) (ty := .int) (by decide) rfl rfl (Nat.le_of_ble_eq_true rfl) ?_
  intro G hG hret
  have h := h0
  rw [fX7_days] at h
  show G u 0 [(0, .ref (a 0)), (1, .int p1), (2, .int p2)] []
  refine rl_iload_n hG dX7_days_0 rfl 1 rfl ?_
  obtain ⟨x1, hx1q, zx1, h⟩ := oz_ok h
  refine rl_callZi hG (As := [.int p1]) (kX7_isNoGuild l D u p1 x1 hx1q) gX7_days_X7_isNoGuild rfl 1 rfl (by decide +kernel) rfl rfl (by decide) (Nat.le_of_ble_eq_true rfl) rfl dX7_days_1 ?_
  refine rl_if_eq hG (tgt := 10) dX7_days_4 (by decide) (fun c2 => ?_) (fun c2 => ?_)
  · have h := it_t h c2
    refine rl_iload_n hG dX7_days_10 rfl 2 rfl ?_
    refine rl_iconst hG (v := 1) dX7_days_11 (by decide) ?_
    refine rl_bipush hG (v := 9) dX7_days_12 (by decide) ?_
    obtain ⟨x3, hx3q, zx3, h⟩ := oz_ok h
    refine rl_callZi hG (As := [.int p2, .int (1 : Int32), .int (9 : Int32)]) (kX7_isOff l D u p2 (1 : Int32) (9 : Int32) x3 hx3q) gX7_days_X7_isOff rfl 3 rfl (by decide +kernel) rfl rfl (by decide) (Nat.le_of_ble_eq_true rfl) rfl dX7_days_14 ?_
    refine rl_if_eq hG (tgt := 23) dX7_days_17 (by decide) (fun c4 => ?_) (fun c4 => ?_)
    · have h := it_t h c4
      refine rl_aload_n hG dX7_days_23 rfl 0 rfl ?_
      refine rl_get hG iX7_days_X7 0 (gX_0 a cI cT u) hcX7 3 (Nat.le_of_ble_eq_true rfl) nX7_days_0 rfl dX7_days_24 ?_
      refine rl_get hG iX7_days_X4 4 (gX_4 a cI cT u) hcX4 1 (Nat.le_of_ble_eq_true rfl) nX7_days_1 rfl dX7_days_27 ?_
      refine rl_iload_n hG dX7_days_30 rfl 1 rfl ?_
      obtain ⟨x5, ix5, ex5, h⟩ := ald_ok h
      refine rl_iald hG 18 0 (gX_18 a cI cT u) rfl ix5 ex5 dX7_days_31 ?_
      refine rl_istore_n hG [(3, .int x5), (0, .ref (a 0)), (1, .int p1), (2, .int p2)] dX7_days_32 rfl (Nat.le_of_ble_eq_true rfl) rfl rfl ?_
      refine rl_aload_n hG dX7_days_33 rfl 1 rfl ?_
      refine rl_get hG iX7_days_X7 0 (gX_0 a cI cT u) hcX7 3 (Nat.le_of_ble_eq_true rfl) nX7_days_0 rfl dX7_days_34 ?_
      refine rl_get hG iX7_days_X4 4 (gX_4 a cI cT u) hcX4 1 (Nat.le_of_ble_eq_true rfl) nX7_days_1 rfl dX7_days_37 ?_
      refine rl_iload_n hG dX7_days_40 rfl 2 rfl ?_
      refine rl_iload_n hG dX7_days_41 rfl 3 rfl ?_
      obtain ⟨u6, iu6, eu6, h⟩ := asr_ok h
      refine rl_iast hG 18 0 (gX_18 a cI cT u) rfl iu6 (σ' := u6) ((sX_18 a cI cT u _).trans (congrArg _ eu6.symm)) dX7_days_42 ?_
      refine rl_iload_n hG dX7_days_43 rfl 0 rfl ?_
      exact rl_ret2 hret h rfl dX7_days_44
    · have h := it_f h c4
      refine rl_bipush hG (v := -3) dX7_days_20 (by decide) ?_
      exact rl_ret2 hret h rfl dX7_days_22
  · have h := it_f h c2
    refine rl_bipush hG (v := -2) dX7_days_7 (by decide) ?_
    exact rl_ret2 hret h rfl dX7_days_9
def fX7_carry (u : St)  (p1 : Int32) : Option (Int32 × St) := oz (fX7_isOff p1 (0 : Int32) (99 : Int32)) (fun x1 => (if x1 = (0 : Int32) then bd (u 4 2) (fun x3 => bd (st_wr u 4 2 p1) (fun u4 => some (x3, u4))) else some ((-3 : Int32), u)))
theorem nX7_carry_0 : Cond.fieldLink RX7 35 "WhoseWork" "tariff" "LWhoseWork$Tariff;" ∈ wsX7_carry := by decide +kernel
theorem nX7_carry_1 : Cond.fieldLink RX7 141 "WhoseWork$Tariff" "carryPrice" "I" ∈ wsX7_carry := by decide +kernel
theorem iX7_carry_X4 : ∀ w ∈ wsX40, w ∈ wsX7_carry := by decide +kernel
theorem iX7_carry_X7 : ∀ w ∈ wsX70, w ∈ wsX7_carry := by decide +kernel
set_option maxRecDepth 100000 in
set_option maxHeartbeats 4000000 in
theorem kX7_carry (l : Launch) (D : va_G) (a : Nat → Nat) (cI cT : ClassId) (aS : Nat → Prop) (xx : Rx) (u : St)  (p1 : Int32) (r : Int32) (τ : St)  (h0 : fX7_carry u p1 = some (r, τ)) : rl_Mi l yX7_carry wsX7_carry ({ frames := 1, cells := 0, slots := 0, locals := 22 } : Room) D (tyX cI cT) (wX a cI cT) (roX xx) aS [.ref (a 0), .int p1] u r τ := by
  refine rl_meth_i (cc := cX7_carry) (maxL := 3) (own := RX7) (ty := .int) (by decide) rfl rfl (Nat.le_of_ble_eq_true rfl) ?_
  intro G hG hret
  have h := h0
  rw [fX7_carry] at h
  show G u 0 [(0, .ref (a 0)), (1, .int p1)] []
  refine rl_iload_n hG dX7_carry_0 rfl 1 rfl ?_
  refine rl_iconst hG (v := 0) dX7_carry_1 (by decide) ?_
  refine rl_bipush hG (v := 99) dX7_carry_2 (by decide) ?_
  obtain ⟨x1, hx1q, zx1, h⟩ := oz_ok h
  refine rl_callZi hG (As := [.int p1, .int (0 : Int32), .int (99 : Int32)]) (kX7_isOff l D u p1 (0 : Int32) (99 : Int32) x1 hx1q) gX7_carry_X7_isOff rfl 3 rfl (by decide +kernel) rfl rfl (by decide) (Nat.le_of_ble_eq_true rfl) rfl dX7_carry_4 ?_
  refine rl_if_eq hG (tgt := 13) dX7_carry_7 (by decide) (fun c2 => ?_) (fun c2 => ?_)
  · have h := it_t h c2
    refine rl_aload_n hG dX7_carry_13 rfl 0 rfl ?_
    refine rl_get hG iX7_carry_X7 0 (gX_0 a cI cT u) hcX7 3 (Nat.le_of_ble_eq_true rfl) nX7_carry_0 rfl dX7_carry_14 ?_
    refine rl_get hG iX7_carry_X4 4 (gX_4 a cI cT u) hcX4 2 (Nat.le_of_ble_eq_true rfl) nX7_carry_1 rfl dX7_carry_17 ?_
    obtain ⟨x3, ex3, h⟩ := bd_ok h
    refine rl_istore_n hG [(2, .int x3), (0, .ref (a 0)), (1, .int p1)] dX7_carry_20 rfl (Nat.le_of_ble_eq_true rfl) ex3 rfl ?_
    refine rl_aload_n hG dX7_carry_21 rfl 1 rfl ?_
    refine rl_get hG iX7_carry_X7 0 (gX_0 a cI cT u) hcX7 3 (Nat.le_of_ble_eq_true rfl) nX7_carry_0 rfl dX7_carry_22 ?_
    refine rl_iload_n hG dX7_carry_25 rfl 2 rfl ?_
    obtain ⟨u4, eu4, h⟩ := bd_ok h
    refine rl_put hG iX7_carry_X4 tyX4 tyX4_ok nmX4 4 (gX_4 a cI cT u) hcX4 2 (Nat.le_of_ble_eq_true rfl) nX7_carry_1 rfl rfl (Nat.le_of_ble_eq_true rfl) (σ' := u4) ((sX_4_2 a cI cT u _).trans (congrArg _ eu4.symm)) dX7_carry_26 ?_
    refine rl_iload_n hG dX7_carry_29 rfl 0 rfl ?_
    exact rl_ret2 hret h rfl dX7_carry_30
  · have h := it_f h c2
    refine rl_bipush hG (v := -3) dX7_carry_10 (by decide) ?_
    exact rl_ret2 hret h rfl dX7_carry_12
def fX7_judge (u : St)  (p1 : Int32) (p2 : Int32) (p3 : Int32) : Option (Int32) := oz (fX7_isNoThing p1) (fun x1 => (if x1 = (0 : Int32) then tld p1 (fun t3 => o1 (fX1_firstWrongStep u t3 p2 p3) (fun x4 => some x4)) else some (-2 : Int32)))
theorem nX7_judge_0 : Cond.fieldLink RX7 44 "WhoseWork" "maker" "LWhoseWork$Maker;" ∈ wsX7_judge := by decide +kernel
theorem nX7_judge_1 : Cond.fieldLink RX7 50 "WhoseWork" "things" "[LWhoseWork$Thing;" ∈ wsX7_judge := by decide +kernel
theorem iX7_judge_X7 : ∀ w ∈ wsX70, w ∈ wsX7_judge := by decide +kernel
set_option maxRecDepth 100000 in
set_option maxHeartbeats 4000000 in
theorem kX7_judge (l : Launch) (D : va_G) (a : Nat → Nat) (cI cT : ClassId) (aS : Nat → Prop) (xx : Rx) (u : St)  (p1 : Int32) (p2 : Int32) (p3 : Int32) (r : Int32)  (h0 : fX7_judge u p1 p2 p3 = some r) : rl_Mi l yX7_judge wsX7_judge ({ frames := 5, cells := 0, slots := 0, locals := 121 } : Room) D (tyX cI cT) (wX a cI cT) (roX xx) aS [.ref (a 0), .int p1, .int p2, .int p3] u r u := by
  refine rl_meth_i (cc := cX7_judge) (maxL := 4) (own := RX7) (ty := .int) (by decide) rfl rfl (Nat.le_of_ble_eq_true rfl) ?_
  intro G hG hret
  have h := h0
  rw [fX7_judge] at h
  show G u 0 [(0, .ref (a 0)), (1, .int p1), (2, .int p2), (3, .int p3)] []
  refine rl_iload_n hG dX7_judge_0 rfl 1 rfl ?_
  obtain ⟨x1, hx1q, zx1, h⟩ := oz_ok h
  refine rl_callZi hG (As := [.int p1]) (kX7_isNoThing l D u p1 x1 hx1q) gX7_judge_X7_isNoThing rfl 1 rfl (by decide +kernel) rfl rfl (by decide) (Nat.le_of_ble_eq_true rfl) rfl dX7_judge_1 ?_
  refine rl_if_eq hG (tgt := 10) dX7_judge_4 (by decide) (fun c2 => ?_) (fun c2 => ?_)
  · have h := it_t h c2
    refine rl_aload_n hG dX7_judge_10 rfl 0 rfl ?_
    refine rl_get hG iX7_judge_X7 0 (gX_0 a cI cT u) hcX7 4 (Nat.le_of_ble_eq_true rfl) nX7_judge_0 rfl dX7_judge_11 ?_
    refine rl_aload_n hG dX7_judge_14 rfl 0 rfl ?_
    refine rl_get hG iX7_judge_X7 0 (gX_0 a cI cT u) hcX7 5 (Nat.le_of_ble_eq_true rfl) nX7_judge_1 rfl dX7_judge_15 ?_
    refine rl_iload_n hG dX7_judge_18 rfl 1 rfl ?_
    obtain ⟨t3, ht3, it3, et3, h⟩ := tld_ok h
    refine rl_aald hG 6 1 (gX_6 a cI cT u) rfl it3 (b := a (23 + t3)) (by rw [et3]) dX7_judge_19 ?_
    refine rl_iload_n hG dX7_judge_20 rfl 2 rfl ?_
    refine rl_iload_n hG dX7_judge_21 rfl 3 rfl ?_
    obtain ⟨x4, hx4q, h⟩ := o1_ok h
    refine rl_callVi hG (roX_ok xx) (As := [.ref (a (23 + t3)), .int p2, .int p3]) (kX1_firstWrongStep l D a cI cT aS xx u t3 p2 p3 x4 ht3 hx4q) gX7_judge_X1_firstWrongStep rfl 5 (gX_5 a cI cT u) hcX1 3 rfl (by decide +kernel) rfl rfl (by decide) (Nat.le_of_ble_eq_true rfl) rfl dX7_judge_22 ?_
    exact rl_ret1 hret h rfl dX7_judge_25
  · have h := it_f h c2
    refine rl_bipush hG (v := -2) dX7_judge_7 (by decide) ?_
    exact rl_ret1 hret h rfl dX7_judge_9
def fX7_told (u : St)  (p1 : Int32) (p2 : Int32) (p3 : Int32) (p4 : Int32) : Option (Int32) := oz (fX7_isNoThing p1) (fun x1 => (if x1 = (0 : Int32) then oz (fX7_isOff p4 (0 : Int32) (2 : Int32)) (fun x3 => (if x3 = (0 : Int32) then tld p1 (fun t5 => o1 (fX1_firstWrongStep u t5 p2 p3) (fun x6 => (if x6 = (-1 : Int32) then (if p4 = (2 : Int32) then tld p1 (fun t11 => o1 (fX1_handsOfWay u t11 p2 p3) (fun x12 => some x12)) else tld p1 (fun t9 => o1 (fX1_costOfWay u t9 p2 p3 p4) (fun x10 => some x10))) else some (-4 : Int32)))) else some (-3 : Int32))) else some (-2 : Int32)))
theorem nX7_told_0 : Cond.fieldLink RX7 44 "WhoseWork" "maker" "LWhoseWork$Maker;" ∈ wsX7_told := by decide +kernel
theorem nX7_told_1 : Cond.fieldLink RX7 50 "WhoseWork" "things" "[LWhoseWork$Thing;" ∈ wsX7_told := by decide +kernel
theorem iX7_told_X7 : ∀ w ∈ wsX70, w ∈ wsX7_told := by decide +kernel
set_option maxRecDepth 100000 in
set_option maxHeartbeats 4000000 in
theorem kX7_told (l : Launch) (D : va_G) (a : Nat → Nat) (cI cT : ClassId) (aS : Nat → Prop) (xx : Rx) (u : St)  (p1 : Int32) (p2 : Int32) (p3 : Int32) (p4 : Int32) (r : Int32)  (h0 : fX7_told u p1 p2 p3 p4 = some r) : rl_Mi l yX7_told wsX7_told ({ frames := 5, cells := 0, slots := 0, locals := 121 } : Room) D (tyX cI cT) (wX a cI cT) (roX xx) aS [.ref (a 0), .int p1, .int p2, .int p3, .int p4] u r u := by
  refine rl_meth_i (cc := cX7_told) (maxL := 5) (own := RX7) (ty := .int) (by decide) rfl rfl (Nat.le_of_ble_eq_true rfl) ?_
  intro G hG hret
  have h := h0
  rw [fX7_told] at h
  show G u 0 [(0, .ref (a 0)), (1, .int p1), (2, .int p2), (3, .int p3), (4, .int p4)] []
  refine rl_iload_n hG dX7_told_0 rfl 1 rfl ?_
  obtain ⟨x1, hx1q, zx1, h⟩ := oz_ok h
  refine rl_callZi hG (As := [.int p1]) (kX7_isNoThing l D u p1 x1 hx1q) gX7_told_X7_isNoThing rfl 1 rfl (by decide +kernel) rfl rfl (by decide) (Nat.le_of_ble_eq_true rfl) rfl dX7_told_1 ?_
  refine rl_if_eq hG (tgt := 10) dX7_told_4 (by decide) (fun c2 => ?_) (fun c2 => ?_)
  · have h := it_t h c2
    refine rl_iload hG dX7_told_10 4 rfl ?_
    refine rl_iconst hG (v := 0) dX7_told_12 (by decide) ?_
    refine rl_iconst hG (v := 2) dX7_told_13 (by decide) ?_
    obtain ⟨x3, hx3q, zx3, h⟩ := oz_ok h
    refine rl_callZi hG (As := [.int p4, .int (0 : Int32), .int (2 : Int32)]) (kX7_isOff l D u p4 (0 : Int32) (2 : Int32) x3 hx3q) gX7_told_X7_isOff rfl 3 rfl (by decide +kernel) rfl rfl (by decide) (Nat.le_of_ble_eq_true rfl) rfl dX7_told_14 ?_
    refine rl_if_eq hG (tgt := 23) dX7_told_17 (by decide) (fun c4 => ?_) (fun c4 => ?_)
    · have h := it_t h c4
      refine rl_aload_n hG dX7_told_23 rfl 0 rfl ?_
      refine rl_get hG iX7_told_X7 0 (gX_0 a cI cT u) hcX7 4 (Nat.le_of_ble_eq_true rfl) nX7_told_0 rfl dX7_told_24 ?_
      refine rl_aload_n hG dX7_told_27 rfl 0 rfl ?_
      refine rl_get hG iX7_told_X7 0 (gX_0 a cI cT u) hcX7 5 (Nat.le_of_ble_eq_true rfl) nX7_told_1 rfl dX7_told_28 ?_
      refine rl_iload_n hG dX7_told_31 rfl 1 rfl ?_
      obtain ⟨t5, ht5, it5, et5, h⟩ := tld_ok h
      refine rl_aald hG 6 1 (gX_6 a cI cT u) rfl it5 (b := a (23 + t5)) (by rw [et5]) dX7_told_32 ?_
      refine rl_iload_n hG dX7_told_33 rfl 2 rfl ?_
      refine rl_iload_n hG dX7_told_34 rfl 3 rfl ?_
      obtain ⟨x6, hx6q, h⟩ := o1_ok h
      refine rl_callVi hG (roX_ok xx) (As := [.ref (a (23 + t5)), .int p2, .int p3]) (kX1_firstWrongStep l D a cI cT aS xx u t5 p2 p3 x6 ht5 hx6q) gX7_told_X1_firstWrongStep rfl 5 (gX_5 a cI cT u) hcX1 3 rfl (by decide +kernel) rfl rfl (by decide) (Nat.le_of_ble_eq_true rfl) rfl dX7_told_35 ?_
      refine rl_iconst hG (v := -1) dX7_told_38 (by decide) ?_
      refine rl_icmp_eq hG (tgt := 45) dX7_told_39 (by decide) (fun c7 => ?_) (fun c7 => ?_)
      · have h := it_t h c7
        refine rl_iload hG dX7_told_45 4 rfl ?_
        refine rl_iconst hG (v := 2) dX7_told_47 (by decide) ?_
        refine rl_icmp_ne hG (tgt := 69) dX7_told_48 (by decide) (fun c8 => ?_) (fun c8 => ?_)
        · have h := it_f h c8
          refine rl_aload_n hG dX7_told_69 rfl 0 rfl ?_
          refine rl_get hG iX7_told_X7 0 (gX_0 a cI cT u) hcX7 4 (Nat.le_of_ble_eq_true rfl) nX7_told_0 rfl dX7_told_70 ?_
          refine rl_aload_n hG dX7_told_73 rfl 0 rfl ?_
          refine rl_get hG iX7_told_X7 0 (gX_0 a cI cT u) hcX7 5 (Nat.le_of_ble_eq_true rfl) nX7_told_1 rfl dX7_told_74 ?_
          refine rl_iload_n hG dX7_told_77 rfl 1 rfl ?_
          obtain ⟨t9, ht9, it9, et9, h⟩ := tld_ok h
          refine rl_aald hG 6 1 (gX_6 a cI cT u) rfl it9 (b := a (23 + t9)) (by rw [et9]) dX7_told_78 ?_
          refine rl_iload_n hG dX7_told_79 rfl 2 rfl ?_
          refine rl_iload_n hG dX7_told_80 rfl 3 rfl ?_
          refine rl_iload hG dX7_told_81 4 rfl ?_
          obtain ⟨x10, hx10q, h⟩ := o1_ok h
          refine rl_callVi hG (roX_ok xx) (As := [.ref (a (23 + t9)), .int p2, .int p3, .int p4]) (kX1_costOfWay l D a cI cT aS xx u t9 p2 p3 p4 x10 ht9 hx10q) gX7_told_X1_costOfWay rfl 5 (gX_5 a cI cT u) hcX1 4 rfl (by decide +kernel) rfl rfl (by decide) (Nat.le_of_ble_eq_true rfl) rfl dX7_told_83 ?_
          exact rl_ret1 hret h rfl dX7_told_86
        · have h := it_t h c8
          refine rl_aload_n hG dX7_told_51 rfl 0 rfl ?_
          refine rl_get hG iX7_told_X7 0 (gX_0 a cI cT u) hcX7 4 (Nat.le_of_ble_eq_true rfl) nX7_told_0 rfl dX7_told_52 ?_
          refine rl_aload_n hG dX7_told_55 rfl 0 rfl ?_
          refine rl_get hG iX7_told_X7 0 (gX_0 a cI cT u) hcX7 5 (Nat.le_of_ble_eq_true rfl) nX7_told_1 rfl dX7_told_56 ?_
          refine rl_iload_n hG dX7_told_59 rfl 1 rfl ?_
          obtain ⟨t11, ht11, it11, et11, h⟩ := tld_ok h
          refine rl_aald hG 6 1 (gX_6 a cI cT u) rfl it11 (b := a (23 + t11)) (by rw [et11]) dX7_told_60 ?_
          refine rl_iload_n hG dX7_told_61 rfl 2 rfl ?_
          refine rl_iload_n hG dX7_told_62 rfl 3 rfl ?_
          obtain ⟨x12, hx12q, h⟩ := o1_ok h
          refine rl_callVi hG (roX_ok xx) (As := [.ref (a (23 + t11)), .int p2, .int p3]) (kX1_handsOfWay l D a cI cT aS xx u t11 p2 p3 x12 ht11 hx12q) gX7_told_X1_handsOfWay rfl 5 (gX_5 a cI cT u) hcX1 3 rfl (by decide +kernel) rfl rfl (by decide) (Nat.le_of_ble_eq_true rfl) rfl dX7_told_63 ?_
          refine rl_goto hG (tgt := 86) dX7_told_66 (by decide) ?_
          exact rl_ret1 hret h rfl dX7_told_86
      · have h := it_f h c7
        refine rl_bipush hG (v := -4) dX7_told_42 (by decide) ?_
        exact rl_ret1 hret h rfl dX7_told_44
    · have h := it_f h c4
      refine rl_bipush hG (v := -3) dX7_told_20 (by decide) ?_
      exact rl_ret1 hret h rfl dX7_told_22
  · have h := it_f h c2
    refine rl_bipush hG (v := -2) dX7_told_7 (by decide) ?_
    exact rl_ret1 hret h rfl dX7_told_9
def fX7_can (u : St)  (p1 : Int32) (p2 : Int32) : Option (Int32) := oz (fX7_isNoThing p1) (fun x1 => (if x1 = (0 : Int32) then oz (fX7_isNoSet p2) (fun x3 => (if x3 = (0 : Int32) then tld p1 (fun t5 => oz (fX1_isMadeBy u t5 p2) (fun x6 => (if x6 = (0 : Int32) then some (0 : Int32) else some (1 : Int32)))) else some (-3 : Int32))) else some (-2 : Int32)))
theorem nX7_can_0 : Cond.fieldLink RX7 44 "WhoseWork" "maker" "LWhoseWork$Maker;" ∈ wsX7_can := by decide +kernel
theorem nX7_can_1 : Cond.fieldLink RX7 50 "WhoseWork" "things" "[LWhoseWork$Thing;" ∈ wsX7_can := by decide +kernel
theorem iX7_can_X7 : ∀ w ∈ wsX70, w ∈ wsX7_can := by decide +kernel
set_option maxRecDepth 100000 in
set_option maxHeartbeats 4000000 in
theorem kX7_can (l : Launch) (D : va_G) (a : Nat → Nat) (cI cT : ClassId) (aS : Nat → Prop) (xx : Rx) (u : St)  (p1 : Int32) (p2 : Int32) (r : Int32)  (h0 : fX7_can u p1 p2 = some r) : rl_Mi l yX7_can wsX7_can ({ frames := 7, cells := 0, slots := 0, locals := 169 } : Room) D (tyX cI cT) (wX a cI cT) (roX xx) aS [.ref (a 0), .int p1, .int p2] u r u := by
  refine rl_meth_i (cc := cX7_can) (maxL := 3) (own := RX7) (ty := .int) (by decide) rfl rfl (Nat.le_of_ble_eq_true rfl) ?_
  intro G hG hret
  have h := h0
  rw [fX7_can] at h
  show G u 0 [(0, .ref (a 0)), (1, .int p1), (2, .int p2)] []
  refine rl_iload_n hG dX7_can_0 rfl 1 rfl ?_
  obtain ⟨x1, hx1q, zx1, h⟩ := oz_ok h
  refine rl_callZi hG (As := [.int p1]) (kX7_isNoThing l D u p1 x1 hx1q) gX7_can_X7_isNoThing rfl 1 rfl (by decide +kernel) rfl rfl (by decide) (Nat.le_of_ble_eq_true rfl) rfl dX7_can_1 ?_
  refine rl_if_eq hG (tgt := 10) dX7_can_4 (by decide) (fun c2 => ?_) (fun c2 => ?_)
  · have h := it_t h c2
    refine rl_iload_n hG dX7_can_10 rfl 2 rfl ?_
    obtain ⟨x3, hx3q, zx3, h⟩ := oz_ok h
    refine rl_callZi hG (As := [.int p2]) (kX7_isNoSet l D u p2 x3 hx3q) gX7_can_X7_isNoSet rfl 1 rfl (by decide +kernel) rfl rfl (by decide) (Nat.le_of_ble_eq_true rfl) rfl dX7_can_11 ?_
    refine rl_if_eq hG (tgt := 20) dX7_can_14 (by decide) (fun c4 => ?_) (fun c4 => ?_)
    · have h := it_t h c4
      refine rl_aload_n hG dX7_can_20 rfl 0 rfl ?_
      refine rl_get hG iX7_can_X7 0 (gX_0 a cI cT u) hcX7 4 (Nat.le_of_ble_eq_true rfl) nX7_can_0 rfl dX7_can_21 ?_
      refine rl_aload_n hG dX7_can_24 rfl 0 rfl ?_
      refine rl_get hG iX7_can_X7 0 (gX_0 a cI cT u) hcX7 5 (Nat.le_of_ble_eq_true rfl) nX7_can_1 rfl dX7_can_25 ?_
      refine rl_iload_n hG dX7_can_28 rfl 1 rfl ?_
      obtain ⟨t5, ht5, it5, et5, h⟩ := tld_ok h
      refine rl_aald hG 6 1 (gX_6 a cI cT u) rfl it5 (b := a (23 + t5)) (by rw [et5]) dX7_can_29 ?_
      refine rl_iload_n hG dX7_can_30 rfl 2 rfl ?_
      obtain ⟨x6, hx6q, zx6, h⟩ := oz_ok h
      refine rl_callVi hG (roX_ok xx) (As := [.ref (a (23 + t5)), .int p2]) (kX1_isMadeBy l D a cI cT aS xx u t5 p2 x6 ht5 hx6q) gX7_can_X1_isMadeBy rfl 5 (gX_5 a cI cT u) hcX1 2 rfl (by decide +kernel) rfl rfl (by decide) (Nat.le_of_ble_eq_true rfl) rfl dX7_can_31 ?_
      refine rl_if_eq hG (tgt := 41) dX7_can_34 (by decide) (fun c7 => ?_) (fun c7 => ?_)
      · have h := it_t h c7
        refine rl_iconst hG (v := 0) dX7_can_41 (by decide) ?_
        exact rl_ret1 hret h rfl dX7_can_42
      · have h := it_f h c7
        refine rl_iconst hG (v := 1) dX7_can_37 (by decide) ?_
        refine rl_goto hG (tgt := 42) dX7_can_38 (by decide) ?_
        exact rl_ret1 hret h rfl dX7_can_42
    · have h := it_f h c4
      refine rl_bipush hG (v := -3) dX7_can_17 (by decide) ?_
      exact rl_ret1 hret h rfl dX7_can_19
  · have h := it_f h c2
    refine rl_bipush hG (v := -2) dX7_can_7 (by decide) ?_
    exact rl_ret1 hret h rfl dX7_can_9
def fX7_fewest (u : St)  (p1 : Int32) (p2 : Int32) : Option (Int32) := oz (fX7_isNoThing p1) (fun x1 => (if x1 = (0 : Int32) then oz (fX7_isOff p2 (0 : Int32) (1 : Int32)) (fun x3 => (if x3 = (0 : Int32) then tld p1 (fun t5 => o1 (fX1_makers u t5) (fun x6 => o1 (fX1_leastSet x6) (fun x7 => (if x7 = (-1 : Int32) then some x7 else (if p2 = (1 : Int32) then some x7 else o1 (fJ6_bitCount_0f7a4 x7) (fun x10 => some x10)))))) else some (-3 : Int32))) else some (-2 : Int32)))
theorem nX7_fewest_0 : Cond.fieldLink RX7 44 "WhoseWork" "maker" "LWhoseWork$Maker;" ∈ wsX7_fewest := by decide +kernel
theorem nX7_fewest_1 : Cond.fieldLink RX7 50 "WhoseWork" "things" "[LWhoseWork$Thing;" ∈ wsX7_fewest := by decide +kernel
theorem iX7_fewest_X7 : ∀ w ∈ wsX70, w ∈ wsX7_fewest := by decide +kernel
set_option maxRecDepth 100000 in
set_option maxHeartbeats 4000000 in
theorem kX7_fewest (l : Launch) (D : va_G) (a : Nat → Nat) (cI cT : ClassId) (aS : Nat → Prop) (xx : Rx) (u : St)  (p1 : Int32) (p2 : Int32) (r : Int32)  (h0 : fX7_fewest u p1 p2 = some r) : rl_Mi l yX7_fewest wsX7_fewest ({ frames := 6, cells := 0, slots := 0, locals := 147 } : Room) D (tyX cI cT) (wX a cI cT) (roX xx) aS [.ref (a 0), .int p1, .int p2] u r u := by
  refine rl_meth_i (cc := cX7_fewest) (maxL := 4) (own := RX7) (ty := .int) (by decide) rfl rfl (Nat.le_of_ble_eq_true rfl) ?_
  intro G hG hret
  have h := h0
  rw [fX7_fewest] at h
  show G u 0 [(0, .ref (a 0)), (1, .int p1), (2, .int p2)] []
  refine rl_iload_n hG dX7_fewest_0 rfl 1 rfl ?_
  obtain ⟨x1, hx1q, zx1, h⟩ := oz_ok h
  refine rl_callZi hG (As := [.int p1]) (kX7_isNoThing l D u p1 x1 hx1q) gX7_fewest_X7_isNoThing rfl 1 rfl (by decide +kernel) rfl rfl (by decide) (Nat.le_of_ble_eq_true rfl) rfl dX7_fewest_1 ?_
  refine rl_if_eq hG (tgt := 10) dX7_fewest_4 (by decide) (fun c2 => ?_) (fun c2 => ?_)
  · have h := it_t h c2
    refine rl_iload_n hG dX7_fewest_10 rfl 2 rfl ?_
    refine rl_iconst hG (v := 0) dX7_fewest_11 (by decide) ?_
    refine rl_iconst hG (v := 1) dX7_fewest_12 (by decide) ?_
    obtain ⟨x3, hx3q, zx3, h⟩ := oz_ok h
    refine rl_callZi hG (As := [.int p2, .int (0 : Int32), .int (1 : Int32)]) (kX7_isOff l D u p2 (0 : Int32) (1 : Int32) x3 hx3q) gX7_fewest_X7_isOff rfl 3 rfl (by decide +kernel) rfl rfl (by decide) (Nat.le_of_ble_eq_true rfl) rfl dX7_fewest_13 ?_
    refine rl_if_eq hG (tgt := 22) dX7_fewest_16 (by decide) (fun c4 => ?_) (fun c4 => ?_)
    · have h := it_t h c4
      refine rl_aload_n hG dX7_fewest_22 rfl 0 rfl ?_
      refine rl_get hG iX7_fewest_X7 0 (gX_0 a cI cT u) hcX7 4 (Nat.le_of_ble_eq_true rfl) nX7_fewest_0 rfl dX7_fewest_23 ?_
      refine rl_aload_n hG dX7_fewest_26 rfl 0 rfl ?_
      refine rl_get hG iX7_fewest_X7 0 (gX_0 a cI cT u) hcX7 5 (Nat.le_of_ble_eq_true rfl) nX7_fewest_1 rfl dX7_fewest_27 ?_
      refine rl_iload_n hG dX7_fewest_30 rfl 1 rfl ?_
      obtain ⟨t5, ht5, it5, et5, h⟩ := tld_ok h
      refine rl_aald hG 6 1 (gX_6 a cI cT u) rfl it5 (b := a (23 + t5)) (by rw [et5]) dX7_fewest_31 ?_
      obtain ⟨x6, hx6q, h⟩ := o1_ok h
      refine rl_callVl hG (roX_ok xx) (As := [.ref (a (23 + t5))]) (kX1_makers l D a cI cT aS xx u t5 x6 ht5 hx6q) gX7_fewest_X1_makers rfl 5 (gX_5 a cI cT u) hcX1 1 rfl (by decide +kernel) rfl rfl (by decide) (Nat.le_of_ble_eq_true rfl) rfl dX7_fewest_32 ?_
      obtain ⟨x7, hx7q, h⟩ := o1_ok h
      refine rl_callZi hG (As := [.long x6]) (kX1_leastSet l D u x6 x7 hx7q) gX7_fewest_X1_leastSet rfl 1 rfl (by decide +kernel) rfl rfl (by decide) (Nat.le_of_ble_eq_true rfl) rfl dX7_fewest_35 ?_
      refine rl_istore_n hG [(3, .int x7), (0, .ref (a 0)), (1, .int p1), (2, .int p2)] dX7_fewest_38 rfl (Nat.le_of_ble_eq_true rfl) rfl rfl ?_
      refine rl_iload_n hG dX7_fewest_39 rfl 0 rfl ?_
      refine rl_iconst hG (v := -1) dX7_fewest_40 (by decide) ?_
      refine rl_icmp_eq hG (tgt := 49) dX7_fewest_41 (by decide) (fun c8 => ?_) (fun c8 => ?_)
      · have h := it_t h c8
        refine rl_iload_n hG dX7_fewest_49 rfl 0 rfl ?_
        refine rl_goto hG (tgt := 57) dX7_fewest_50 (by decide) ?_
        exact rl_ret1 hret h rfl dX7_fewest_57
      · have h := it_f h c8
        refine rl_iload_n hG dX7_fewest_44 rfl 3 rfl ?_
        refine rl_iconst hG (v := 1) dX7_fewest_45 (by decide) ?_
        refine rl_icmp_ne hG (tgt := 53) dX7_fewest_46 (by decide) (fun c9 => ?_) (fun c9 => ?_)
        · have h := it_f h c9
          refine rl_iload_n hG dX7_fewest_53 rfl 0 rfl ?_
          obtain ⟨x10, hx10q, h⟩ := o1_ok h
          refine rl_callZi hG (As := [.int x7]) (kJ6_bitCount_0f7a4 l D u x7 x10 hx10q) gX7_fewest_J6_bitCount_0f7a4 rfl 1 rfl (by decide +kernel) rfl rfl (by decide) (Nat.le_of_ble_eq_true rfl) rfl dX7_fewest_54 ?_
          exact rl_ret1 hret h rfl dX7_fewest_57
        · have h := it_t h c9
          refine rl_iload_n hG dX7_fewest_49 rfl 0 rfl ?_
          refine rl_goto hG (tgt := 57) dX7_fewest_50 (by decide) ?_
          exact rl_ret1 hret h rfl dX7_fewest_57
    · have h := it_f h c4
      refine rl_bipush hG (v := -3) dX7_fewest_19 (by decide) ?_
      exact rl_ret1 hret h rfl dX7_fewest_21
  · have h := it_f h c2
    refine rl_bipush hG (v := -2) dX7_fewest_7 (by decide) ?_
    exact rl_ret1 hret h rfl dX7_fewest_9
def fX7_best (u : St)  (p1 : Int32) (p2 : Int32) (p3 : Int32) : Option (Int32 × St) := oz (fX7_isNoThing p1) (fun x1 => (if x1 = (0 : Int32) then oz (fX7_isNoSet p2) (fun x3 => (if x3 = (0 : Int32) then oz (fX7_isOff p3 (0 : Int32) (1 : Int32)) (fun x5 => (if x5 = (0 : Int32) then tld p1 (fun t7 => o2 (fX1_reckon u t7 p2 p3) (fun x8 u9 => (if x8 = (1000000 : Int32) then some ((-1 : Int32), u9) else some (x8, u9)))) else some ((-3 : Int32), u))) else some ((-3 : Int32), u))) else some ((-2 : Int32), u)))
theorem nX7_best_0 : Cond.fieldLink RX7 44 "WhoseWork" "maker" "LWhoseWork$Maker;" ∈ wsX7_best := by decide +kernel
theorem nX7_best_1 : Cond.fieldLink RX7 50 "WhoseWork" "things" "[LWhoseWork$Thing;" ∈ wsX7_best := by decide +kernel
theorem nX7_best_2 : Cond.constant RX7 178 (1000000) ∈ wsX7_best := by decide +kernel
theorem iX7_best_X7 : ∀ w ∈ wsX70, w ∈ wsX7_best := by decide +kernel
set_option maxRecDepth 100000 in
set_option maxHeartbeats 4000000 in
theorem kX7_best (l : Launch) (D : va_G) (a : Nat → Nat) (cI cT : ClassId) (aS : Nat → Prop) (xx : Rx) (u : St)  (p1 : Int32) (p2 : Int32) (p3 : Int32) (r : Int32) (τ : St)  (h0 : fX7_best u p1 p2 p3 = some (r, τ)) : rl_Mi l yX7_best wsX7_best ({ frames := 7, cells := 0, slots := 0, locals := 175 } : Room) D (tyX cI cT) (wX a cI cT) (roX xx) aS [.ref (a 0), .int p1, .int p2, .int p3] u r τ := by
  refine rl_meth_i (cc := cX7_best) (maxL := 5) (own := RX7) (ty := .int) (by decide) rfl rfl (Nat.le_of_ble_eq_true rfl) ?_
  intro G hG hret
  have h := h0
  rw [fX7_best] at h
  show G u 0 [(0, .ref (a 0)), (1, .int p1), (2, .int p2), (3, .int p3)] []
  refine rl_iload_n hG dX7_best_0 rfl 1 rfl ?_
  obtain ⟨x1, hx1q, zx1, h⟩ := oz_ok h
  refine rl_callZi hG (As := [.int p1]) (kX7_isNoThing l D u p1 x1 hx1q) gX7_best_X7_isNoThing rfl 1 rfl (by decide +kernel) rfl rfl (by decide) (Nat.le_of_ble_eq_true rfl) rfl dX7_best_1 ?_
  refine rl_if_eq hG (tgt := 10) dX7_best_4 (by decide) (fun c2 => ?_) (fun c2 => ?_)
  · have h := it_t h c2
    refine rl_iload_n hG dX7_best_10 rfl 2 rfl ?_
    obtain ⟨x3, hx3q, zx3, h⟩ := oz_ok h
    refine rl_callZi hG (As := [.int p2]) (kX7_isNoSet l D u p2 x3 hx3q) gX7_best_X7_isNoSet rfl 1 rfl (by decide +kernel) rfl rfl (by decide) (Nat.le_of_ble_eq_true rfl) rfl dX7_best_11 ?_
    refine rl_if_ne hG (tgt := 26) dX7_best_14 (by decide) (fun c4 => ?_) (fun c4 => ?_)
    · have h := it_f h c4
      refine rl_bipush hG (v := -3) dX7_best_26 (by decide) ?_
      exact rl_ret2 hret h rfl dX7_best_28
    · have h := it_t h c4
      refine rl_iload_n hG dX7_best_17 rfl 3 rfl ?_
      refine rl_iconst hG (v := 0) dX7_best_18 (by decide) ?_
      refine rl_iconst hG (v := 1) dX7_best_19 (by decide) ?_
      obtain ⟨x5, hx5q, zx5, h⟩ := oz_ok h
      refine rl_callZi hG (As := [.int p3, .int (0 : Int32), .int (1 : Int32)]) (kX7_isOff l D u p3 (0 : Int32) (1 : Int32) x5 hx5q) gX7_best_X7_isOff rfl 3 rfl (by decide +kernel) rfl rfl (by decide) (Nat.le_of_ble_eq_true rfl) rfl dX7_best_20 ?_
      refine rl_if_eq hG (tgt := 29) dX7_best_23 (by decide) (fun c6 => ?_) (fun c6 => ?_)
      · have h := it_t h c6
        refine rl_aload_n hG dX7_best_29 rfl 0 rfl ?_
        refine rl_get hG iX7_best_X7 0 (gX_0 a cI cT u) hcX7 4 (Nat.le_of_ble_eq_true rfl) nX7_best_0 rfl dX7_best_30 ?_
        refine rl_aload_n hG dX7_best_33 rfl 0 rfl ?_
        refine rl_get hG iX7_best_X7 0 (gX_0 a cI cT u) hcX7 5 (Nat.le_of_ble_eq_true rfl) nX7_best_1 rfl dX7_best_34 ?_
        refine rl_iload_n hG dX7_best_37 rfl 1 rfl ?_
        obtain ⟨t7, ht7, it7, et7, h⟩ := tld_ok h
        refine rl_aald hG 6 1 (gX_6 a cI cT u) rfl it7 (b := a (23 + t7)) (by rw [et7]) dX7_best_38 ?_
        refine rl_iload_n hG dX7_best_39 rfl 2 rfl ?_
        refine rl_iload_n hG dX7_best_40 rfl 3 rfl ?_
        obtain ⟨x8, u9, hx8q, h⟩ := o2_ok h
        refine rl_callVi hG (roX_ok xx) (As := [.ref (a (23 + t7)), .int p2, .int p3]) (kX1_reckon l D a cI cT aS xx u t7 p2 p3 x8 u9 ht7 hx8q) gX7_best_X1_reckon rfl 5 (gX_5 a cI cT u) hcX1 3 rfl (by decide +kernel) rfl rfl (by decide) (Nat.le_of_ble_eq_true rfl) rfl dX7_best_41 ?_
        refine rl_istore hG [(4, .int x8), (0, .ref (a 0)), (1, .int p1), (2, .int p2), (3, .int p3)] dX7_best_44 (Nat.le_of_ble_eq_true rfl) rfl rfl ?_
        refine rl_iload hG dX7_best_46 0 rfl ?_
        refine rl_ldc hG (v := 1000000) dX7_best_48 nX7_best_2 ?_
        refine rl_icmp_ne hG (tgt := 57) dX7_best_50 (by decide) (fun c10 => ?_) (fun c10 => ?_)
        · have h := it_f h c10
          refine rl_iload hG dX7_best_57 0 rfl ?_
          exact rl_ret2 hret h rfl dX7_best_59
        · have h := it_t h c10
          refine rl_iconst hG (v := -1) dX7_best_53 (by decide) ?_
          refine rl_goto hG (tgt := 59) dX7_best_54 (by decide) ?_
          exact rl_ret2 hret h rfl dX7_best_59
      · have h := it_f h c6
        refine rl_bipush hG (v := -3) dX7_best_26 (by decide) ?_
        exact rl_ret2 hret h rfl dX7_best_28
  · have h := it_f h c2
    refine rl_bipush hG (v := -2) dX7_best_7 (by decide) ?_
    exact rl_ret2 hret h rfl dX7_best_9
def fX7_way (u : St)  (p1 : Int32) (p2 : Int32) (p3 : Int32) (p4 : Int32) : Option (Int32 × St) := oz (fX7_isNoThing p1) (fun x1 => (if x1 = (0 : Int32) then oz (fX7_isNoSet p2) (fun x3 => (if x3 = (0 : Int32) then (if p3 < (0 : Int32) then some ((-3 : Int32), u) else oz (fX7_isOff p4 (0 : Int32) (1 : Int32)) (fun x6 => (if x6 = (0 : Int32) then tld p1 (fun t8 => o2 (fX1_reckon u t8 p2 (0 : Int32)) (fun x9 u10 => (if x9 = (1000000 : Int32) then some ((-1 : Int32), u10) else tld p1 (fun t12 => (if p3 < (u10 (23 + t12) 1) then tld p1 (fun t14 => o1 (fX1_cheapestGuild u10 t14 p2 p3 x9) (fun x15 => (if x15 = (-1 : Int32) then some (x15, u10) else (if p4 = (0 : Int32) then some (x15, u10) else tld p1 (fun t18 => o1 (fX1_cheapestChoice u10 t18 p2 p3 x15) (fun x19 => some (x19, u10))))))) else some ((-1 : Int32), u10)))))) else some ((-3 : Int32), u)))) else some ((-3 : Int32), u))) else some ((-2 : Int32), u)))
theorem nX7_way_0 : Cond.fieldLink RX7 44 "WhoseWork" "maker" "LWhoseWork$Maker;" ∈ wsX7_way := by decide +kernel
theorem nX7_way_1 : Cond.fieldLink RX7 50 "WhoseWork" "things" "[LWhoseWork$Thing;" ∈ wsX7_way := by decide +kernel
theorem nX7_way_2 : Cond.constant RX7 178 (1000000) ∈ wsX7_way := by decide +kernel
theorem nX7_way_3 : Cond.fieldLink RX7 130 "WhoseWork$Thing" "size" "I" ∈ wsX7_way := by decide +kernel
theorem iX7_way_X6 : ∀ w ∈ wsX60, w ∈ wsX7_way := by decide +kernel
theorem iX7_way_X7 : ∀ w ∈ wsX70, w ∈ wsX7_way := by decide +kernel
set_option maxRecDepth 100000 in
set_option maxHeartbeats 4000000 in
theorem kX7_way (l : Launch) (D : va_G) (a : Nat → Nat) (cI cT : ClassId) (aS : Nat → Prop) (xx : Rx) (u : St)  (p1 : Int32) (p2 : Int32) (p3 : Int32) (p4 : Int32) (r : Int32) (τ : St)  (h0 : fX7_way u p1 p2 p3 p4 = some (r, τ)) : rl_Mi l yX7_way wsX7_way ({ frames := 7, cells := 0, slots := 0, locals := 175 } : Room) D (tyX cI cT) (wX a cI cT) (roX xx) aS [.ref (a 0), .int p1, .int p2, .int p3, .int p4] u r τ := by
  refine rl_meth_i (cc := cX7_way) (maxL := 7) (own := RX7) (ty := .int) (by decide) rfl rfl (Nat.le_of_ble_eq_true rfl) ?_
  intro G hG hret
  have h := h0
  rw [fX7_way] at h
  show G u 0 [(0, .ref (a 0)), (1, .int p1), (2, .int p2), (3, .int p3), (4, .int p4)] []
  refine rl_iload_n hG dX7_way_0 rfl 1 rfl ?_
  obtain ⟨x1, hx1q, zx1, h⟩ := oz_ok h
  refine rl_callZi hG (As := [.int p1]) (kX7_isNoThing l D u p1 x1 hx1q) gX7_way_X7_isNoThing rfl 1 rfl (by decide +kernel) rfl rfl (by decide) (Nat.le_of_ble_eq_true rfl) rfl dX7_way_1 ?_
  refine rl_if_eq hG (tgt := 10) dX7_way_4 (by decide) (fun c2 => ?_) (fun c2 => ?_)
  · have h := it_t h c2
    refine rl_iload_n hG dX7_way_10 rfl 2 rfl ?_
    obtain ⟨x3, hx3q, zx3, h⟩ := oz_ok h
    refine rl_callZi hG (As := [.int p2]) (kX7_isNoSet l D u p2 x3 hx3q) gX7_way_X7_isNoSet rfl 1 rfl (by decide +kernel) rfl rfl (by decide) (Nat.le_of_ble_eq_true rfl) rfl dX7_way_11 ?_
    refine rl_if_ne hG (tgt := 31) dX7_way_14 (by decide) (fun c4 => ?_) (fun c4 => ?_)
    · have h := it_f h c4
      refine rl_bipush hG (v := -3) dX7_way_31 (by decide) ?_
      exact rl_ret2 hret h rfl dX7_way_33
    · have h := it_t h c4
      refine rl_iload_n hG dX7_way_17 rfl 3 rfl ?_
      refine rl_if_lt hG (tgt := 31) dX7_way_18 (by decide) (fun c5 => ?_) (fun c5 => ?_)
      · have h := it_t h c5
        refine rl_bipush hG (v := -3) dX7_way_31 (by decide) ?_
        exact rl_ret2 hret h rfl dX7_way_33
      · have h := it_f h c5
        refine rl_iload hG dX7_way_21 4 rfl ?_
        refine rl_iconst hG (v := 0) dX7_way_23 (by decide) ?_
        refine rl_iconst hG (v := 1) dX7_way_24 (by decide) ?_
        obtain ⟨x6, hx6q, zx6, h⟩ := oz_ok h
        refine rl_callZi hG (As := [.int p4, .int (0 : Int32), .int (1 : Int32)]) (kX7_isOff l D u p4 (0 : Int32) (1 : Int32) x6 hx6q) gX7_way_X7_isOff rfl 3 rfl (by decide +kernel) rfl rfl (by decide) (Nat.le_of_ble_eq_true rfl) rfl dX7_way_25 ?_
        refine rl_if_eq hG (tgt := 34) dX7_way_28 (by decide) (fun c7 => ?_) (fun c7 => ?_)
        · have h := it_t h c7
          refine rl_aload_n hG dX7_way_34 rfl 0 rfl ?_
          refine rl_get hG iX7_way_X7 0 (gX_0 a cI cT u) hcX7 4 (Nat.le_of_ble_eq_true rfl) nX7_way_0 rfl dX7_way_35 ?_
          refine rl_aload_n hG dX7_way_38 rfl 0 rfl ?_
          refine rl_get hG iX7_way_X7 0 (gX_0 a cI cT u) hcX7 5 (Nat.le_of_ble_eq_true rfl) nX7_way_1 rfl dX7_way_39 ?_
          refine rl_iload_n hG dX7_way_42 rfl 1 rfl ?_
          obtain ⟨t8, ht8, it8, et8, h⟩ := tld_ok h
          refine rl_aald hG 6 1 (gX_6 a cI cT u) rfl it8 (b := a (23 + t8)) (by rw [et8]) dX7_way_43 ?_
          refine rl_iload_n hG dX7_way_44 rfl 2 rfl ?_
          refine rl_iconst hG (v := 0) dX7_way_45 (by decide) ?_
          obtain ⟨x9, u10, hx9q, h⟩ := o2_ok h
          refine rl_callVi hG (roX_ok xx) (As := [.ref (a (23 + t8)), .int p2, .int (0 : Int32)]) (kX1_reckon l D a cI cT aS xx u t8 p2 (0 : Int32) x9 u10 ht8 hx9q) gX7_way_X1_reckon rfl 5 (gX_5 a cI cT u) hcX1 3 rfl (by decide +kernel) rfl rfl (by decide) (Nat.le_of_ble_eq_true rfl) rfl dX7_way_46 ?_
          refine rl_istore hG [(5, .int x9), (0, .ref (a 0)), (1, .int p1), (2, .int p2), (3, .int p3), (4, .int p4)] dX7_way_49 (Nat.le_of_ble_eq_true rfl) rfl rfl ?_
          refine rl_iload hG dX7_way_51 0 rfl ?_
          refine rl_ldc hG (v := 1000000) dX7_way_53 nX7_way_2 ?_
          refine rl_icmp_eq hG (tgt := 71) dX7_way_55 (by decide) (fun c11 => ?_) (fun c11 => ?_)
          · have h := it_t h c11
            refine rl_iconst hG (v := -1) dX7_way_71 (by decide) ?_
            exact rl_ret2 hret h rfl dX7_way_72
          · have h := it_f h c11
            refine rl_iload_n hG dX7_way_58 rfl 4 rfl ?_
            refine rl_aload_n hG dX7_way_59 rfl 1 rfl ?_
            refine rl_get hG iX7_way_X7 0 (gX_0 a cI cT u10) hcX7 5 (Nat.le_of_ble_eq_true rfl) nX7_way_1 rfl dX7_way_60 ?_
            refine rl_iload_n hG dX7_way_63 rfl 2 rfl ?_
            obtain ⟨t12, ht12, it12, et12, h⟩ := tld_ok h
            refine rl_aald hG 6 1 (gX_6 a cI cT u10) rfl it12 (b := a (23 + t12)) (by rw [et12]) dX7_way_64 ?_
            refine rl_get hG iX7_way_X6 (23 + t12) (gX_t a cI cT u10 ht12) hcX6 1 (Nat.le_of_ble_eq_true rfl) nX7_way_3 rfl dX7_way_65 ?_
            refine rl_icmp_lt hG (tgt := 73) dX7_way_68 (by decide) (fun c13 => ?_) (fun c13 => ?_)
            · have h := it_t h c13
              refine rl_aload_n hG dX7_way_73 rfl 1 rfl ?_
              refine rl_get hG iX7_way_X7 0 (gX_0 a cI cT u10) hcX7 4 (Nat.le_of_ble_eq_true rfl) nX7_way_0 rfl dX7_way_74 ?_
              refine rl_aload_n hG dX7_way_77 rfl 1 rfl ?_
              refine rl_get hG iX7_way_X7 0 (gX_0 a cI cT u10) hcX7 5 (Nat.le_of_ble_eq_true rfl) nX7_way_1 rfl dX7_way_78 ?_
              refine rl_iload_n hG dX7_way_81 rfl 2 rfl ?_
              obtain ⟨t14, ht14, it14, et14, h⟩ := tld_ok h
              refine rl_aald hG 6 1 (gX_6 a cI cT u10) rfl it14 (b := a (23 + t14)) (by rw [et14]) dX7_way_82 ?_
              refine rl_iload_n hG dX7_way_83 rfl 3 rfl ?_
              refine rl_iload_n hG dX7_way_84 rfl 4 rfl ?_
              refine rl_iload hG dX7_way_85 0 rfl ?_
              obtain ⟨x15, hx15q, h⟩ := o1_ok h
              refine rl_callVi hG (roX_ok xx) (As := [.ref (a (23 + t14)), .int p2, .int p3, .int x9]) (kX1_cheapestGuild l D a cI cT aS xx u10 t14 p2 p3 x9 x15 ht14 hx15q) gX7_way_X1_cheapestGuild rfl 5 (gX_5 a cI cT u10) hcX1 4 rfl (by decide +kernel) rfl rfl (by decide) (Nat.le_of_ble_eq_true rfl) rfl dX7_way_87 ?_
              refine rl_istore hG [(6, .int x15), (5, .int x9), (0, .ref (a 0)), (1, .int p1), (2, .int p2), (3, .int p3), (4, .int p4)] dX7_way_90 (Nat.le_of_ble_eq_true rfl) rfl rfl ?_
              refine rl_iload hG dX7_way_92 0 rfl ?_
              refine rl_iconst hG (v := -1) dX7_way_94 (by decide) ?_
              refine rl_icmp_eq hG (tgt := 103) dX7_way_95 (by decide) (fun c16 => ?_) (fun c16 => ?_)
              · have h := it_t h c16
                refine rl_iload hG dX7_way_103 0 rfl ?_
                exact rl_ret2 hret h rfl dX7_way_105
              · have h := it_f h c16
                refine rl_iload hG dX7_way_98 6 rfl ?_
                refine rl_if_ne hG (tgt := 106) dX7_way_100 (by decide) (fun c17 => ?_) (fun c17 => ?_)
                · have h := it_f h c17
                  refine rl_aload_n hG dX7_way_106 rfl 2 rfl ?_
                  refine rl_get hG iX7_way_X7 0 (gX_0 a cI cT u10) hcX7 4 (Nat.le_of_ble_eq_true rfl) nX7_way_0 rfl dX7_way_107 ?_
                  refine rl_aload_n hG dX7_way_110 rfl 2 rfl ?_
                  refine rl_get hG iX7_way_X7 0 (gX_0 a cI cT u10) hcX7 5 (Nat.le_of_ble_eq_true rfl) nX7_way_1 rfl dX7_way_111 ?_
                  refine rl_iload_n hG dX7_way_114 rfl 3 rfl ?_
                  obtain ⟨t18, ht18, it18, et18, h⟩ := tld_ok h
                  refine rl_aald hG 6 1 (gX_6 a cI cT u10) rfl it18 (b := a (23 + t18)) (by rw [et18]) dX7_way_115 ?_
                  refine rl_iload_n hG dX7_way_116 rfl 4 rfl ?_
                  refine rl_iload_n hG dX7_way_117 rfl 5 rfl ?_
                  refine rl_iload hG dX7_way_118 0 rfl ?_
                  obtain ⟨x19, hx19q, h⟩ := o1_ok h
                  refine rl_callVi hG (roX_ok xx) (As := [.ref (a (23 + t18)), .int p2, .int p3, .int x15]) (kX1_cheapestChoice l D a cI cT aS xx u10 t18 p2 p3 x15 x19 ht18 hx19q) gX7_way_X1_cheapestChoice rfl 5 (gX_5 a cI cT u10) hcX1 4 rfl (by decide +kernel) rfl rfl (by decide) (Nat.le_of_ble_eq_true rfl) rfl dX7_way_120 ?_
                  exact rl_ret2 hret h rfl dX7_way_123
                · have h := it_t h c17
                  refine rl_iload hG dX7_way_103 0 rfl ?_
                  exact rl_ret2 hret h rfl dX7_way_105
            · have h := it_f h c13
              refine rl_iconst hG (v := -1) dX7_way_71 (by decide) ?_
              exact rl_ret2 hret h rfl dX7_way_72
        · have h := it_f h c7
          refine rl_bipush hG (v := -3) dX7_way_31 (by decide) ?_
          exact rl_ret2 hret h rfl dX7_way_33
  · have h := it_f h c2
    refine rl_bipush hG (v := -2) dX7_way_7 (by decide) ?_
    exact rl_ret2 hret h rfl dX7_way_9
def fX7_alone_L57 (u : St) (k14 : Int32 → Int32 → Int32 → Option (Int32)) (v1 : Int32) (v2 : Int32) (v3 : Int32) : Option (Int32) := bd (v3 + (1 : Int32)) (fun x1 => k14 v1 v2 x1)
def fX7_alone_L14 (u : St)  : Nat → Int32 → Int32 → Int32 → Option (Int32)
  | 0 => fun _ _ _ => none
  | n + 1 => fun v1 v2 v3 => (if (6 : Int32) ≤ v3 then some v2 else tld v3 (fun t3 => (if (u (23 + t3) 1) ≤ (0 : Int32) then fX7_alone_L57 u (fX7_alone_L14 u n) v1 v2 v3 else tld v3 (fun t5 => oz (fX1_isMadeBy u t5 ((1 : Int32) <<< (v1 &&& 31))) (fun x6 => (if x6 = (0 : Int32) then fX7_alone_L57 u (fX7_alone_L14 u n) v1 v2 v3 else bd (v2 ||| ((1 : Int32) <<< (v3 &&& 31))) (fun x8 => fX7_alone_L57 u (fX7_alone_L14 u n) v1 x8 v3)))))))
def fX7_alone (u : St)  (p1 : Int32) : Option (Int32) := oz (fX7_isNoGuild p1) (fun x9 => (if x9 = (0 : Int32) then fX7_alone_L14 u 2000 p1 (0 : Int32) (0 : Int32) else some (-2 : Int32)))
theorem nX7_alone_0 : Cond.fieldLink RX7 50 "WhoseWork" "things" "[LWhoseWork$Thing;" ∈ wsX7_alone := by decide +kernel
theorem nX7_alone_1 : Cond.fieldLink RX7 130 "WhoseWork$Thing" "size" "I" ∈ wsX7_alone := by decide +kernel
theorem nX7_alone_2 : Cond.fieldLink RX7 44 "WhoseWork" "maker" "LWhoseWork$Maker;" ∈ wsX7_alone := by decide +kernel
theorem iX7_alone_X6 : ∀ w ∈ wsX60, w ∈ wsX7_alone := by decide +kernel
theorem iX7_alone_X7 : ∀ w ∈ wsX70, w ∈ wsX7_alone := by decide +kernel
set_option maxRecDepth 100000 in
set_option maxHeartbeats 4000000 in
theorem kX7_alone (l : Launch) (D : va_G) (a : Nat → Nat) (cI cT : ClassId) (aS : Nat → Prop) (xx : Rx) (u : St)  (p1 : Int32) (r : Int32)  (h0 : fX7_alone u p1 = some r) : rl_Mi l yX7_alone wsX7_alone ({ frames := 7, cells := 0, slots := 0, locals := 169 } : Room) D (tyX cI cT) (wX a cI cT) (roX xx) aS [.ref (a 0), .int p1] u r u := by
  refine rl_meth_i (cc := cX7_alone) (maxL := 4) (own := RX7) (ty := .int) (by decide) rfl rfl (Nat.le_of_ble_eq_true rfl) ?_
  intro G hG hret
  have H57 : ∀ (k14 : Int32 → Int32 → Int32 → Option (Int32)) (hk14 : ∀ (v1 : Int32) (v2 : Int32) (v3 : Int32), k14 v1 v2 v3 = some r → G u 14 [(0, .ref (a 0)), (1, .int v1), (2, .int v2), (3, .int v3)] []), ∀ (v1 : Int32) (v2 : Int32) (v3 : Int32), fX7_alone_L57 u k14 v1 v2 v3 = some r → G u 57 [(0, .ref (a 0)), (1, .int v1), (2, .int v2), (3, .int v3)] [] := by
    intro k14 hk14 v1 v2 v3 h
    rw [fX7_alone_L57] at h
    obtain ⟨x1, ex1, h⟩ := bd_ok h
    refine rl_iinc hG [(3, .int x1), (0, .ref (a 0)), (1, .int v1), (2, .int v2)] dX7_alone_57 3 rfl (by rw [ex1]; rfl) (Nat.le_of_ble_eq_true rfl) rfl ?_
    refine rl_goto hG (tgt := 14) dX7_alone_60 (by decide) ?_
    exact rl_lvs hG [1, 2, 3, 0] rfl (hk14 v1 v2 x1 h)
  have H14 : ∀ (n : Nat) (v1 : Int32) (v2 : Int32) (v3 : Int32), fX7_alone_L14 u n v1 v2 v3 = some r → G u 14 [(0, .ref (a 0)), (1, .int v1), (2, .int v2), (3, .int v3)] [] := by
    intro n
    induction n with
    | zero =>
      intro v1 v2 v3 h
      exact absurd h (by rw [fX7_alone_L14]; exact fun q => by cases q)
    | succ n ih =>
      intro v1 v2 v3 h
      rw [fX7_alone_L14] at h
      refine rl_iload_n hG dX7_alone_14 rfl 3 rfl ?_
      refine rl_bipush hG (v := 6) dX7_alone_15 (by decide) ?_
      refine rl_icmp_ge hG (tgt := 63) dX7_alone_17 (by decide) (fun c2 => ?_) (fun c2 => ?_)
      · have h := it_t h c2
        refine rl_iload_n hG dX7_alone_63 rfl 2 rfl ?_
        exact rl_ret1 hret h rfl dX7_alone_64
      · have h := it_f h c2
        refine rl_aload_n hG dX7_alone_20 rfl 0 rfl ?_
        refine rl_get hG iX7_alone_X7 0 (gX_0 a cI cT u) hcX7 5 (Nat.le_of_ble_eq_true rfl) nX7_alone_0 rfl dX7_alone_21 ?_
        refine rl_iload_n hG dX7_alone_24 rfl 3 rfl ?_
        obtain ⟨t3, ht3, it3, et3, h⟩ := tld_ok h
        refine rl_aald hG 6 1 (gX_6 a cI cT u) rfl it3 (b := a (23 + t3)) (by rw [et3]) dX7_alone_25 ?_
        refine rl_get hG iX7_alone_X6 (23 + t3) (gX_t a cI cT u ht3) hcX6 1 (Nat.le_of_ble_eq_true rfl) nX7_alone_1 rfl dX7_alone_26 ?_
        refine rl_if_le hG (tgt := 57) dX7_alone_29 (by decide) (fun c4 => ?_) (fun c4 => ?_)
        · have h := it_t h c4
          exact rl_lvs hG [0, 1, 2, 3] rfl (H57 (fX7_alone_L14 u n) (ih) v1 v2 v3 h)
        · have h := it_f h c4
          refine rl_aload_n hG dX7_alone_32 rfl 0 rfl ?_
          refine rl_get hG iX7_alone_X7 0 (gX_0 a cI cT u) hcX7 4 (Nat.le_of_ble_eq_true rfl) nX7_alone_2 rfl dX7_alone_33 ?_
          refine rl_aload_n hG dX7_alone_36 rfl 0 rfl ?_
          refine rl_get hG iX7_alone_X7 0 (gX_0 a cI cT u) hcX7 5 (Nat.le_of_ble_eq_true rfl) nX7_alone_0 rfl dX7_alone_37 ?_
          refine rl_iload_n hG dX7_alone_40 rfl 3 rfl ?_
          obtain ⟨t5, ht5, it5, et5, h⟩ := tld_ok h
          refine rl_aald hG 6 1 (gX_6 a cI cT u) rfl it5 (b := a (23 + t5)) (by rw [et5]) dX7_alone_41 ?_
          refine rl_iconst hG (v := 1) dX7_alone_42 (by decide) ?_
          refine rl_iload_n hG dX7_alone_43 rfl 1 rfl ?_
          refine rl_ishl hG dX7_alone_44 ?_
          obtain ⟨x6, hx6q, zx6, h⟩ := oz_ok h
          refine rl_callVi hG (roX_ok xx) (As := [.ref (a (23 + t5)), .int ((1 : Int32) <<< (v1 &&& 31))]) (kX1_isMadeBy l D a cI cT aS xx u t5 ((1 : Int32) <<< (v1 &&& 31)) x6 ht5 hx6q) gX7_alone_X1_isMadeBy rfl 5 (gX_5 a cI cT u) hcX1 2 rfl (by decide +kernel) rfl rfl (by decide) (Nat.le_of_ble_eq_true rfl) rfl dX7_alone_45 ?_
          refine rl_if_eq hG (tgt := 57) dX7_alone_48 (by decide) (fun c7 => ?_) (fun c7 => ?_)
          · have h := it_t h c7
            exact rl_lvs hG [0, 1, 2, 3] rfl (H57 (fX7_alone_L14 u n) (ih) v1 v2 v3 h)
          · have h := it_f h c7
            refine rl_iload_n hG dX7_alone_51 rfl 2 rfl ?_
            refine rl_iconst hG (v := 1) dX7_alone_52 (by decide) ?_
            refine rl_iload_n hG dX7_alone_53 rfl 3 rfl ?_
            refine rl_ishl hG dX7_alone_54 ?_
            refine rl_ior hG dX7_alone_55 ?_
            obtain ⟨x8, ex8, h⟩ := bd_ok h
            refine rl_istore_n hG [(2, .int x8), (0, .ref (a 0)), (1, .int v1), (3, .int v3)] dX7_alone_56 rfl (Nat.le_of_ble_eq_true rfl) ex8 rfl ?_
            exact rl_lvs hG [1, 2, 0, 3] rfl (H57 (fX7_alone_L14 u n) (ih) v1 x8 v3 h)
  have h := h0
  rw [fX7_alone] at h
  show G u 0 [(0, .ref (a 0)), (1, .int p1)] []
  refine rl_iload_n hG dX7_alone_0 rfl 1 rfl ?_
  obtain ⟨x9, hx9q, zx9, h⟩ := oz_ok h
  refine rl_callZi hG (As := [.int p1]) (kX7_isNoGuild l D u p1 x9 hx9q) gX7_alone_X7_isNoGuild rfl 1 rfl (by decide +kernel) rfl rfl (by decide) (Nat.le_of_ble_eq_true rfl) rfl dX7_alone_1 ?_
  refine rl_if_eq hG (tgt := 10) dX7_alone_4 (by decide) (fun c10 => ?_) (fun c10 => ?_)
  · have h := it_t h c10
    refine rl_iconst hG (v := 0) dX7_alone_10 (by decide) ?_
    refine rl_istore_n hG [(2, .int (0 : Int32)), (0, .ref (a 0)), (1, .int p1)] dX7_alone_11 rfl (Nat.le_of_ble_eq_true rfl) rfl rfl ?_
    refine rl_iconst hG (v := 0) dX7_alone_12 (by decide) ?_
    refine rl_istore_n hG [(3, .int (0 : Int32)), (2, .int (0 : Int32)), (0, .ref (a 0)), (1, .int p1)] dX7_alone_13 rfl (Nat.le_of_ble_eq_true rfl) rfl rfl ?_
    exact rl_lvs hG [2, 3, 1, 0] rfl (H14 2000 p1 (0 : Int32) (0 : Int32) h)
  · have h := it_f h c10
    refine rl_bipush hG (v := -2) dX7_alone_7 (by decide) ?_
    exact rl_ret1 hret h rfl dX7_alone_9
def fX7_sly (u : St)  (p1 : Int32) (p2 : Int32) (p3 : Int32) : Option (Int32) := oz (fX7_isNoThing p1) (fun x1 => (if x1 = (0 : Int32) then oz (fX7_isOff p2 (1 : Int32) (9 : Int32)) (fun x3 => (if x3 = (0 : Int32) then oz (fX7_isOff p3 (0 : Int32) (1 : Int32)) (fun x5 => (if x5 = (0 : Int32) then tld p1 (fun t7 => o1 (fX1_slyest u t7 p2) (fun x8 => (if x8 = (-1 : Int32) then some (-1 : Int32) else (if p3 = (0 : Int32) then some (x8 - x8 / (160 : Int32) * (160 : Int32)) else some (x8 / (160 : Int32)))))) else some (-3 : Int32))) else some (-3 : Int32))) else some (-2 : Int32)))
theorem nX7_sly_0 : Cond.fieldLink RX7 44 "WhoseWork" "maker" "LWhoseWork$Maker;" ∈ wsX7_sly := by decide +kernel
theorem nX7_sly_1 : Cond.fieldLink RX7 50 "WhoseWork" "things" "[LWhoseWork$Thing;" ∈ wsX7_sly := by decide +kernel
theorem iX7_sly_X7 : ∀ w ∈ wsX70, w ∈ wsX7_sly := by decide +kernel
set_option maxRecDepth 100000 in
set_option maxHeartbeats 4000000 in
theorem kX7_sly (l : Launch) (D : va_G) (a : Nat → Nat) (cI cT : ClassId) (aS : Nat → Prop) (xx : Rx) (u : St)  (p1 : Int32) (p2 : Int32) (p3 : Int32) (r : Int32)  (h0 : fX7_sly u p1 p2 p3 = some r) : rl_Mi l yX7_sly wsX7_sly ({ frames := 7, cells := 0, slots := 0, locals := 175 } : Room) D (tyX cI cT) (wX a cI cT) (roX xx) aS [.ref (a 0), .int p1, .int p2, .int p3] u r u := by
  refine rl_meth_i (cc := cX7_sly) (maxL := 5) (own := RX7) (ty := .int) (by decide) rfl rfl (Nat.le_of_ble_eq_true rfl) ?_
  intro G hG hret
  have h := h0
  rw [fX7_sly] at h
  show G u 0 [(0, .ref (a 0)), (1, .int p1), (2, .int p2), (3, .int p3)] []
  refine rl_iload_n hG dX7_sly_0 rfl 1 rfl ?_
  obtain ⟨x1, hx1q, zx1, h⟩ := oz_ok h
  refine rl_callZi hG (As := [.int p1]) (kX7_isNoThing l D u p1 x1 hx1q) gX7_sly_X7_isNoThing rfl 1 rfl (by decide +kernel) rfl rfl (by decide) (Nat.le_of_ble_eq_true rfl) rfl dX7_sly_1 ?_
  refine rl_if_eq hG (tgt := 10) dX7_sly_4 (by decide) (fun c2 => ?_) (fun c2 => ?_)
  · have h := it_t h c2
    refine rl_iload_n hG dX7_sly_10 rfl 2 rfl ?_
    refine rl_iconst hG (v := 1) dX7_sly_11 (by decide) ?_
    refine rl_bipush hG (v := 9) dX7_sly_12 (by decide) ?_
    obtain ⟨x3, hx3q, zx3, h⟩ := oz_ok h
    refine rl_callZi hG (As := [.int p2, .int (1 : Int32), .int (9 : Int32)]) (kX7_isOff l D u p2 (1 : Int32) (9 : Int32) x3 hx3q) gX7_sly_X7_isOff rfl 3 rfl (by decide +kernel) rfl rfl (by decide) (Nat.le_of_ble_eq_true rfl) rfl dX7_sly_14 ?_
    refine rl_if_ne hG (tgt := 29) dX7_sly_17 (by decide) (fun c4 => ?_) (fun c4 => ?_)
    · have h := it_f h c4
      refine rl_bipush hG (v := -3) dX7_sly_29 (by decide) ?_
      exact rl_ret1 hret h rfl dX7_sly_31
    · have h := it_t h c4
      refine rl_iload_n hG dX7_sly_20 rfl 3 rfl ?_
      refine rl_iconst hG (v := 0) dX7_sly_21 (by decide) ?_
      refine rl_iconst hG (v := 1) dX7_sly_22 (by decide) ?_
      obtain ⟨x5, hx5q, zx5, h⟩ := oz_ok h
      refine rl_callZi hG (As := [.int p3, .int (0 : Int32), .int (1 : Int32)]) (kX7_isOff l D u p3 (0 : Int32) (1 : Int32) x5 hx5q) gX7_sly_X7_isOff rfl 3 rfl (by decide +kernel) rfl rfl (by decide) (Nat.le_of_ble_eq_true rfl) rfl dX7_sly_23 ?_
      refine rl_if_eq hG (tgt := 32) dX7_sly_26 (by decide) (fun c6 => ?_) (fun c6 => ?_)
      · have h := it_t h c6
        refine rl_aload_n hG dX7_sly_32 rfl 0 rfl ?_
        refine rl_get hG iX7_sly_X7 0 (gX_0 a cI cT u) hcX7 4 (Nat.le_of_ble_eq_true rfl) nX7_sly_0 rfl dX7_sly_33 ?_
        refine rl_aload_n hG dX7_sly_36 rfl 0 rfl ?_
        refine rl_get hG iX7_sly_X7 0 (gX_0 a cI cT u) hcX7 5 (Nat.le_of_ble_eq_true rfl) nX7_sly_1 rfl dX7_sly_37 ?_
        refine rl_iload_n hG dX7_sly_40 rfl 1 rfl ?_
        obtain ⟨t7, ht7, it7, et7, h⟩ := tld_ok h
        refine rl_aald hG 6 1 (gX_6 a cI cT u) rfl it7 (b := a (23 + t7)) (by rw [et7]) dX7_sly_41 ?_
        refine rl_iload_n hG dX7_sly_42 rfl 2 rfl ?_
        obtain ⟨x8, hx8q, h⟩ := o1_ok h
        refine rl_callVi hG (roX_ok xx) (As := [.ref (a (23 + t7)), .int p2]) (kX1_slyest l D a cI cT aS xx u t7 p2 x8 ht7 hx8q) gX7_sly_X1_slyest rfl 5 (gX_5 a cI cT u) hcX1 2 rfl (by decide +kernel) rfl rfl (by decide) (Nat.le_of_ble_eq_true rfl) rfl dX7_sly_43 ?_
        refine rl_istore hG [(4, .int x8), (0, .ref (a 0)), (1, .int p1), (2, .int p2), (3, .int p3)] dX7_sly_46 (Nat.le_of_ble_eq_true rfl) rfl rfl ?_
        refine rl_iload hG dX7_sly_48 0 rfl ?_
        refine rl_iconst hG (v := -1) dX7_sly_50 (by decide) ?_
        refine rl_icmp_ne hG (tgt := 56) dX7_sly_51 (by decide) (fun c9 => ?_) (fun c9 => ?_)
        · have h := it_f h c9
          refine rl_iload_n hG dX7_sly_56 rfl 4 rfl ?_
          refine rl_if_ne hG (tgt := 69) dX7_sly_57 (by decide) (fun c10 => ?_) (fun c10 => ?_)
          · have h := it_f h c10
            refine rl_iload hG dX7_sly_69 0 rfl ?_
            refine rl_sipush hG (v := 160) dX7_sly_71 (by decide) ?_
            refine rl_idiv hG dX7_sly_74 (by decide) ?_
            exact rl_ret1 hret h rfl dX7_sly_75
          · have h := it_t h c10
            refine rl_iload hG dX7_sly_60 0 rfl ?_
            refine rl_sipush hG (v := 160) dX7_sly_62 (by decide) ?_
            refine rl_irem hG dX7_sly_65 (by decide) ?_
            refine rl_goto hG (tgt := 75) dX7_sly_66 (by decide) ?_
            exact rl_ret1 hret h rfl dX7_sly_75
        · have h := it_t h c9
          refine rl_iconst hG (v := -1) dX7_sly_54 (by decide) ?_
          exact rl_ret1 hret h rfl dX7_sly_55
      · have h := it_f h c6
        refine rl_bipush hG (v := -3) dX7_sly_29 (by decide) ?_
        exact rl_ret1 hret h rfl dX7_sly_31
  · have h := it_f h c2
    refine rl_bipush hG (v := -2) dX7_sly_7 (by decide) ?_
    exact rl_ret1 hret h rfl dX7_sly_9
def fX7_struck (u : St)  (p1 : Int32) (p2 : Int32) : Option (Int32) := oz (fX7_isNoThing p1) (fun x1 => (if x1 = (0 : Int32) then oz (fX7_isOff p2 (0 : Int32) (6 : Int32)) (fun x3 => (if x3 = (0 : Int32) then tld p1 (fun t5 => o1 (fX1_fewestStruck u t5 p2) (fun x6 => some x6)) else some (-3 : Int32))) else some (-2 : Int32)))
theorem nX7_struck_0 : Cond.fieldLink RX7 44 "WhoseWork" "maker" "LWhoseWork$Maker;" ∈ wsX7_struck := by decide +kernel
theorem nX7_struck_1 : Cond.fieldLink RX7 50 "WhoseWork" "things" "[LWhoseWork$Thing;" ∈ wsX7_struck := by decide +kernel
theorem iX7_struck_X7 : ∀ w ∈ wsX70, w ∈ wsX7_struck := by decide +kernel
set_option maxRecDepth 100000 in
set_option maxHeartbeats 4000000 in
theorem kX7_struck (l : Launch) (D : va_G) (a : Nat → Nat) (cI cT : ClassId) (aS : Nat → Prop) (xx : Rx) (u : St)  (p1 : Int32) (p2 : Int32) (r : Int32)  (h0 : fX7_struck u p1 p2 = some r) : rl_Mi l yX7_struck wsX7_struck ({ frames := 6, cells := 0, slots := 0, locals := 154 } : Room) D (tyX cI cT) (wX a cI cT) (roX xx) aS [.ref (a 0), .int p1, .int p2] u r u := by
  refine rl_meth_i (cc := cX7_struck) (maxL := 3) (own := RX7) (ty := .int) (by decide) rfl rfl (Nat.le_of_ble_eq_true rfl) ?_
  intro G hG hret
  have h := h0
  rw [fX7_struck] at h
  show G u 0 [(0, .ref (a 0)), (1, .int p1), (2, .int p2)] []
  refine rl_iload_n hG dX7_struck_0 rfl 1 rfl ?_
  obtain ⟨x1, hx1q, zx1, h⟩ := oz_ok h
  refine rl_callZi hG (As := [.int p1]) (kX7_isNoThing l D u p1 x1 hx1q) gX7_struck_X7_isNoThing rfl 1 rfl (by decide +kernel) rfl rfl (by decide) (Nat.le_of_ble_eq_true rfl) rfl dX7_struck_1 ?_
  refine rl_if_eq hG (tgt := 10) dX7_struck_4 (by decide) (fun c2 => ?_) (fun c2 => ?_)
  · have h := it_t h c2
    refine rl_iload_n hG dX7_struck_10 rfl 2 rfl ?_
    refine rl_iconst hG (v := 0) dX7_struck_11 (by decide) ?_
    refine rl_bipush hG (v := 6) dX7_struck_12 (by decide) ?_
    obtain ⟨x3, hx3q, zx3, h⟩ := oz_ok h
    refine rl_callZi hG (As := [.int p2, .int (0 : Int32), .int (6 : Int32)]) (kX7_isOff l D u p2 (0 : Int32) (6 : Int32) x3 hx3q) gX7_struck_X7_isOff rfl 3 rfl (by decide +kernel) rfl rfl (by decide) (Nat.le_of_ble_eq_true rfl) rfl dX7_struck_14 ?_
    refine rl_if_eq hG (tgt := 23) dX7_struck_17 (by decide) (fun c4 => ?_) (fun c4 => ?_)
    · have h := it_t h c4
      refine rl_aload_n hG dX7_struck_23 rfl 0 rfl ?_
      refine rl_get hG iX7_struck_X7 0 (gX_0 a cI cT u) hcX7 4 (Nat.le_of_ble_eq_true rfl) nX7_struck_0 rfl dX7_struck_24 ?_
      refine rl_aload_n hG dX7_struck_27 rfl 0 rfl ?_
      refine rl_get hG iX7_struck_X7 0 (gX_0 a cI cT u) hcX7 5 (Nat.le_of_ble_eq_true rfl) nX7_struck_1 rfl dX7_struck_28 ?_
      refine rl_iload_n hG dX7_struck_31 rfl 1 rfl ?_
      obtain ⟨t5, ht5, it5, et5, h⟩ := tld_ok h
      refine rl_aald hG 6 1 (gX_6 a cI cT u) rfl it5 (b := a (23 + t5)) (by rw [et5]) dX7_struck_32 ?_
      refine rl_iload_n hG dX7_struck_33 rfl 2 rfl ?_
      obtain ⟨x6, hx6q, h⟩ := o1_ok h
      refine rl_callVi hG (roX_ok xx) (As := [.ref (a (23 + t5)), .int p2]) (kX1_fewestStruck l D a cI cT aS xx u t5 p2 x6 ht5 hx6q) gX7_struck_X1_fewestStruck rfl 5 (gX_5 a cI cT u) hcX1 2 rfl (by decide +kernel) rfl rfl (by decide) (Nat.le_of_ble_eq_true rfl) rfl dX7_struck_34 ?_
      exact rl_ret1 hret h rfl dX7_struck_37
    · have h := it_f h c4
      refine rl_bipush hG (v := -3) dX7_struck_20 (by decide) ?_
      exact rl_ret1 hret h rfl dX7_struck_22
  · have h := it_f h c2
    refine rl_bipush hG (v := -2) dX7_struck_7 (by decide) ?_
    exact rl_ret1 hret h rfl dX7_struck_9
def fX7_takes (u : St)  (p1 : Int32) (p2 : Int32) (p3 : Int32) : Option (Int32) := oz (fX7_isNoBound u p1) (fun x1 => (if x1 = (0 : Int32) then oz (fX7_isNoGuild p2) (fun x3 => (if x3 = (0 : Int32) then oz (fX7_isOff p3 (0 : Int32) (1 : Int32)) (fun x5 => (if x5 = (0 : Int32) then bd (((1 : Int32) <<< (p1 &&& 31)) ^^^ (-1 : Int32)) (fun x7 => (if p3 = (0 : Int32) then o1 (fX0_countLost u p2 (-1 : Int32) x7) (fun x10 => some x10) else o1 (fX0_countLost u p2 x7 (-1 : Int32)) (fun x9 => some x9))) else some (-3 : Int32))) else some (-2 : Int32))) else some (-2 : Int32)))
theorem nX7_takes_0 : Cond.fieldLink RX7 28 "WhoseWork" "law" "LWhoseWork$Law;" ∈ wsX7_takes := by decide +kernel
theorem iX7_takes_X7 : ∀ w ∈ wsX70, w ∈ wsX7_takes := by decide +kernel
set_option maxRecDepth 100000 in
set_option maxHeartbeats 4000000 in
theorem kX7_takes (l : Launch) (D : va_G) (a : Nat → Nat) (cI cT : ClassId) (aS : Nat → Prop) (xx : Rx) (u : St)  (p1 : Int32) (p2 : Int32) (p3 : Int32) (r : Int32)  (h0 : fX7_takes u p1 p2 p3 = some r) : rl_Mi l yX7_takes wsX7_takes ({ frames := 4, cells := 0, slots := 0, locals := 97 } : Room) D (tyX cI cT) (wX a cI cT) (roX xx) aS [.ref (a 0), .int p1, .int p2, .int p3] u r u := by
  refine rl_meth_i (cc := cX7_takes) (maxL := 5) (own := RX7) (ty := .int) (by decide) rfl rfl (Nat.le_of_ble_eq_true rfl) ?_
  intro G hG hret
  have h := h0
  rw [fX7_takes] at h
  show G u 0 [(0, .ref (a 0)), (1, .int p1), (2, .int p2), (3, .int p3)] []
  refine rl_aload_n hG dX7_takes_0 rfl 0 rfl ?_
  refine rl_iload_n hG dX7_takes_1 rfl 1 rfl ?_
  obtain ⟨x1, hx1q, zx1, h⟩ := oz_ok h
  refine rl_callVi hG (roX_ok xx) (As := [.int p1]) (kX7_isNoBound l D a cI cT aS xx u p1 x1  hx1q) gX7_takes_X7_isNoBound rfl 0 (gX_0 a cI cT u) hcX7 1 rfl (by decide +kernel) rfl rfl (by decide) (Nat.le_of_ble_eq_true rfl) rfl dX7_takes_2 ?_
  refine rl_if_ne hG (tgt := 15) dX7_takes_5 (by decide) (fun c2 => ?_) (fun c2 => ?_)
  · have h := it_f h c2
    refine rl_bipush hG (v := -2) dX7_takes_15 (by decide) ?_
    exact rl_ret1 hret h rfl dX7_takes_17
  · have h := it_t h c2
    refine rl_iload_n hG dX7_takes_8 rfl 2 rfl ?_
    obtain ⟨x3, hx3q, zx3, h⟩ := oz_ok h
    refine rl_callZi hG (As := [.int p2]) (kX7_isNoGuild l D u p2 x3 hx3q) gX7_takes_X7_isNoGuild rfl 1 rfl (by decide +kernel) rfl rfl (by decide) (Nat.le_of_ble_eq_true rfl) rfl dX7_takes_9 ?_
    refine rl_if_eq hG (tgt := 18) dX7_takes_12 (by decide) (fun c4 => ?_) (fun c4 => ?_)
    · have h := it_t h c4
      refine rl_iload_n hG dX7_takes_18 rfl 3 rfl ?_
      refine rl_iconst hG (v := 0) dX7_takes_19 (by decide) ?_
      refine rl_iconst hG (v := 1) dX7_takes_20 (by decide) ?_
      obtain ⟨x5, hx5q, zx5, h⟩ := oz_ok h
      refine rl_callZi hG (As := [.int p3, .int (0 : Int32), .int (1 : Int32)]) (kX7_isOff l D u p3 (0 : Int32) (1 : Int32) x5 hx5q) gX7_takes_X7_isOff rfl 3 rfl (by decide +kernel) rfl rfl (by decide) (Nat.le_of_ble_eq_true rfl) rfl dX7_takes_21 ?_
      refine rl_if_eq hG (tgt := 30) dX7_takes_24 (by decide) (fun c6 => ?_) (fun c6 => ?_)
      · have h := it_t h c6
        refine rl_iconst hG (v := 1) dX7_takes_30 (by decide) ?_
        refine rl_iload_n hG dX7_takes_31 rfl 1 rfl ?_
        refine rl_ishl hG dX7_takes_32 ?_
        refine rl_iconst hG (v := -1) dX7_takes_33 (by decide) ?_
        refine rl_ixor hG dX7_takes_34 ?_
        obtain ⟨x7, ex7, h⟩ := bd_ok h
        refine rl_istore hG [(4, .int x7), (0, .ref (a 0)), (1, .int p1), (2, .int p2), (3, .int p3)] dX7_takes_35 (Nat.le_of_ble_eq_true rfl) ex7 rfl ?_
        refine rl_iload_n hG dX7_takes_37 rfl 4 rfl ?_
        refine rl_if_ne hG (tgt := 55) dX7_takes_38 (by decide) (fun c8 => ?_) (fun c8 => ?_)
        · have h := it_f h c8
          refine rl_aload_n hG dX7_takes_55 rfl 1 rfl ?_
          refine rl_get hG iX7_takes_X7 0 (gX_0 a cI cT u) hcX7 2 (Nat.le_of_ble_eq_true rfl) nX7_takes_0 rfl dX7_takes_56 ?_
          refine rl_iload_n hG dX7_takes_59 rfl 3 rfl ?_
          refine rl_iload hG dX7_takes_60 0 rfl ?_
          refine rl_iconst hG (v := -1) dX7_takes_62 (by decide) ?_
          obtain ⟨x9, hx9q, h⟩ := o1_ok h
          refine rl_callVi hG (roX_ok xx) (As := [.int p2, .int x7, .int (-1 : Int32)]) (kX0_countLost l D a cI cT aS xx u p2 x7 (-1 : Int32) x9  hx9q) gX7_takes_X0_countLost rfl 3 (gX_3 a cI cT u) hcX0 3 rfl (by decide +kernel) rfl rfl (by decide) (Nat.le_of_ble_eq_true rfl) rfl dX7_takes_63 ?_
          exact rl_ret1 hret h rfl dX7_takes_66
        · have h := it_t h c8
          refine rl_aload_n hG dX7_takes_41 rfl 1 rfl ?_
          refine rl_get hG iX7_takes_X7 0 (gX_0 a cI cT u) hcX7 2 (Nat.le_of_ble_eq_true rfl) nX7_takes_0 rfl dX7_takes_42 ?_
          refine rl_iload_n hG dX7_takes_45 rfl 3 rfl ?_
          refine rl_iconst hG (v := -1) dX7_takes_46 (by decide) ?_
          refine rl_iload hG dX7_takes_47 0 rfl ?_
          obtain ⟨x10, hx10q, h⟩ := o1_ok h
          refine rl_callVi hG (roX_ok xx) (As := [.int p2, .int (-1 : Int32), .int x7]) (kX0_countLost l D a cI cT aS xx u p2 (-1 : Int32) x7 x10  hx10q) gX7_takes_X0_countLost rfl 3 (gX_3 a cI cT u) hcX0 3 rfl (by decide +kernel) rfl rfl (by decide) (Nat.le_of_ble_eq_true rfl) rfl dX7_takes_49 ?_
          refine rl_goto hG (tgt := 66) dX7_takes_52 (by decide) ?_
          exact rl_ret1 hret h rfl dX7_takes_66
      · have h := it_f h c6
        refine rl_bipush hG (v := -3) dX7_takes_27 (by decide) ?_
        exact rl_ret1 hret h rfl dX7_takes_29
    · have h := it_f h c4
      refine rl_bipush hG (v := -2) dX7_takes_15 (by decide) ?_
      exact rl_ret1 hret h rfl dX7_takes_17
def fX7_idle_L32 (u : St) (k4 : Int32 → Int32 → Option (Int32)) (v1 : Int32) (v2 : Int32) : Option (Int32) := bd (v2 + (1 : Int32)) (fun x1 => k4 v1 x1)
def fX7_idle_L4 (u : St)  : Nat → Int32 → Int32 → Option (Int32)
  | 0 => fun _ _ => none
  | n + 1 => fun v1 v2 => (if (u 3 1) ≤ v2 then some v1 else oz (fX0_isIdle u v2) (fun x3 => (if x3 = (0 : Int32) then fX7_idle_L32 u (fX7_idle_L4 u n) v1 v2 else bd (v1 ||| ((1 : Int32) <<< (v2 &&& 31))) (fun x5 => fX7_idle_L32 u (fX7_idle_L4 u n) x5 v2))))
def fX7_idle (u : St)   : Option (Int32) := fX7_idle_L4 u 2000 (0 : Int32) (0 : Int32)
theorem nX7_idle_0 : Cond.fieldLink RX7 28 "WhoseWork" "law" "LWhoseWork$Law;" ∈ wsX7_idle := by decide +kernel
theorem nX7_idle_1 : Cond.fieldLink RX7 83 "WhoseWork$Law" "size" "I" ∈ wsX7_idle := by decide +kernel
theorem iX7_idle_X0 : ∀ w ∈ wsX00, w ∈ wsX7_idle := by decide +kernel
theorem iX7_idle_X7 : ∀ w ∈ wsX70, w ∈ wsX7_idle := by decide +kernel
set_option maxRecDepth 100000 in
set_option maxHeartbeats 4000000 in
theorem kX7_idle (l : Launch) (D : va_G) (a : Nat → Nat) (cI cT : ClassId) (aS : Nat → Prop) (xx : Rx) (u : St)   (r : Int32)  (h0 : fX7_idle u = some r) : rl_Mi l yX7_idle wsX7_idle ({ frames := 5, cells := 0, slots := 0, locals := 118 } : Room) D (tyX cI cT) (wX a cI cT) (roX xx) aS [.ref (a 0)] u r u := by
  refine rl_meth_i (cc := cX7_idle) (maxL := 3) (own := RX7) (ty := .int) (by decide) rfl rfl (Nat.le_of_ble_eq_true rfl) ?_
  intro G hG hret
  have H32 : ∀ (k4 : Int32 → Int32 → Option (Int32)) (hk4 : ∀ (v1 : Int32) (v2 : Int32), k4 v1 v2 = some r → G u 4 [(0, .ref (a 0)), (1, .int v1), (2, .int v2)] []), ∀ (v1 : Int32) (v2 : Int32), fX7_idle_L32 u k4 v1 v2 = some r → G u 32 [(0, .ref (a 0)), (1, .int v1), (2, .int v2)] [] := by
    intro k4 hk4 v1 v2 h
    rw [fX7_idle_L32] at h
    obtain ⟨x1, ex1, h⟩ := bd_ok h
    refine rl_iinc hG [(2, .int x1), (0, .ref (a 0)), (1, .int v1)] dX7_idle_32 2 rfl (by rw [ex1]; rfl) (Nat.le_of_ble_eq_true rfl) rfl ?_
    refine rl_goto hG (tgt := 4) dX7_idle_35 (by decide) ?_
    exact rl_lvs hG [1, 2, 0] rfl (hk4 v1 x1 h)
  have H4 : ∀ (n : Nat) (v1 : Int32) (v2 : Int32), fX7_idle_L4 u n v1 v2 = some r → G u 4 [(0, .ref (a 0)), (1, .int v1), (2, .int v2)] [] := by
    intro n
    induction n with
    | zero =>
      intro v1 v2 h
      exact absurd h (by rw [fX7_idle_L4]; exact fun q => by cases q)
    | succ n ih =>
      intro v1 v2 h
      rw [fX7_idle_L4] at h
      refine rl_iload_n hG dX7_idle_4 rfl 2 rfl ?_
      refine rl_aload_n hG dX7_idle_5 rfl 0 rfl ?_
      refine rl_get hG iX7_idle_X7 0 (gX_0 a cI cT u) hcX7 2 (Nat.le_of_ble_eq_true rfl) nX7_idle_0 rfl dX7_idle_6 ?_
      refine rl_get hG iX7_idle_X0 3 (gX_3 a cI cT u) hcX0 1 (Nat.le_of_ble_eq_true rfl) nX7_idle_1 rfl dX7_idle_9 ?_
      refine rl_icmp_ge hG (tgt := 38) dX7_idle_12 (by decide) (fun c2 => ?_) (fun c2 => ?_)
      · have h := it_t h c2
        refine rl_iload_n hG dX7_idle_38 rfl 1 rfl ?_
        exact rl_ret1 hret h rfl dX7_idle_39
      · have h := it_f h c2
        refine rl_aload_n hG dX7_idle_15 rfl 0 rfl ?_
        refine rl_get hG iX7_idle_X7 0 (gX_0 a cI cT u) hcX7 2 (Nat.le_of_ble_eq_true rfl) nX7_idle_0 rfl dX7_idle_16 ?_
        refine rl_iload_n hG dX7_idle_19 rfl 2 rfl ?_
        obtain ⟨x3, hx3q, zx3, h⟩ := oz_ok h
        refine rl_callVi hG (roX_ok xx) (As := [.int v2]) (kX0_isIdle l D a cI cT aS xx u v2 x3  hx3q) gX7_idle_X0_isIdle rfl 3 (gX_3 a cI cT u) hcX0 1 rfl (by decide +kernel) rfl rfl (by decide) (Nat.le_of_ble_eq_true rfl) rfl dX7_idle_20 ?_
        refine rl_if_eq hG (tgt := 32) dX7_idle_23 (by decide) (fun c4 => ?_) (fun c4 => ?_)
        · have h := it_t h c4
          exact rl_lvs hG [0, 1, 2] rfl (H32 (fX7_idle_L4 u n) (ih) v1 v2 h)
        · have h := it_f h c4
          refine rl_iload_n hG dX7_idle_26 rfl 1 rfl ?_
          refine rl_iconst hG (v := 1) dX7_idle_27 (by decide) ?_
          refine rl_iload_n hG dX7_idle_28 rfl 2 rfl ?_
          refine rl_ishl hG dX7_idle_29 ?_
          refine rl_ior hG dX7_idle_30 ?_
          obtain ⟨x5, ex5, h⟩ := bd_ok h
          refine rl_istore_n hG [(1, .int x5), (0, .ref (a 0)), (2, .int v2)] dX7_idle_31 rfl (Nat.le_of_ble_eq_true rfl) ex5 rfl ?_
          exact rl_lvs hG [1, 0, 2] rfl (H32 (fX7_idle_L4 u n) (ih) x5 v2 h)
  have h := h0
  rw [fX7_idle] at h
  show G u 0 [(0, .ref (a 0))] []
  refine rl_iconst hG (v := 0) dX7_idle_0 (by decide) ?_
  refine rl_istore_n hG [(1, .int (0 : Int32)), (0, .ref (a 0))] dX7_idle_1 rfl (Nat.le_of_ble_eq_true rfl) rfl rfl ?_
  refine rl_iconst hG (v := 0) dX7_idle_2 (by decide) ?_
  refine rl_istore_n hG [(2, .int (0 : Int32)), (1, .int (0 : Int32)), (0, .ref (a 0))] dX7_idle_3 rfl (Nat.le_of_ble_eq_true rfl) rfl rfl ?_
  exact rl_lvs hG [2, 1, 0] rfl (H4 2000 (0 : Int32) (0 : Int32) h)
def fX7_seize (u : St)  (p1 : Int32) (p2 : Int32) (p3 : Int32) : Option (Int32 × St) := oz (fX7_isNoGuild p1) (fun x1 => (if x1 = (0 : Int32) then oz (fX7_isNoWork p2) (fun x3 => (if x3 = (0 : Int32) then oz (fX7_isOff p3 (0 : Int32) (u 3 1)) (fun x5 => (if x5 = (0 : Int32) then (if (u 7 3) = (16 : Int32) then some ((-5 : Int32), u) else o1 (fX3_addSeizure u p1 p2 p3) (fun u8 => some ((u8 7 3), u8))) else some ((-3 : Int32), u))) else some ((-2 : Int32), u))) else some ((-2 : Int32), u)))
theorem nX7_seize_0 : Cond.fieldLink RX7 28 "WhoseWork" "law" "LWhoseWork$Law;" ∈ wsX7_seize := by decide +kernel
theorem nX7_seize_1 : Cond.fieldLink RX7 83 "WhoseWork$Law" "size" "I" ∈ wsX7_seize := by decide +kernel
theorem nX7_seize_2 : Cond.fieldLink RX7 58 "WhoseWork" "seizures" "LWhoseWork$Seizures;" ∈ wsX7_seize := by decide +kernel
theorem nX7_seize_3 : Cond.fieldLink RX7 198 "WhoseWork$Seizures" "size" "I" ∈ wsX7_seize := by decide +kernel
theorem iX7_seize_X0 : ∀ w ∈ wsX00, w ∈ wsX7_seize := by decide +kernel
theorem iX7_seize_X3 : ∀ w ∈ wsX30, w ∈ wsX7_seize := by decide +kernel
theorem iX7_seize_X7 : ∀ w ∈ wsX70, w ∈ wsX7_seize := by decide +kernel
set_option maxRecDepth 100000 in
set_option maxHeartbeats 4000000 in
theorem kX7_seize (l : Launch) (D : va_G) (a : Nat → Nat) (cI cT : ClassId) (aS : Nat → Prop) (xx : Rx) (u : St)  (p1 : Int32) (p2 : Int32) (p3 : Int32) (r : Int32) (τ : St)  (h0 : fX7_seize u p1 p2 p3 = some (r, τ)) : rl_Mi l yX7_seize wsX7_seize ({ frames := 2, cells := 0, slots := 0, locals := 42 } : Room) D (tyX cI cT) (wX a cI cT) (roX xx) aS [.ref (a 0), .int p1, .int p2, .int p3] u r τ := by
  refine rl_meth_i (cc := cX7_seize) (maxL := 4) (own := RX7) (ty := .int) (by decide) rfl rfl (Nat.le_of_ble_eq_true rfl) ?_
  intro G hG hret
  have h := h0
  rw [fX7_seize] at h
  show G u 0 [(0, .ref (a 0)), (1, .int p1), (2, .int p2), (3, .int p3)] []
  refine rl_iload_n hG dX7_seize_0 rfl 1 rfl ?_
  obtain ⟨x1, hx1q, zx1, h⟩ := oz_ok h
  refine rl_callZi hG (As := [.int p1]) (kX7_isNoGuild l D u p1 x1 hx1q) gX7_seize_X7_isNoGuild rfl 1 rfl (by decide +kernel) rfl rfl (by decide) (Nat.le_of_ble_eq_true rfl) rfl dX7_seize_1 ?_
  refine rl_if_ne hG (tgt := 14) dX7_seize_4 (by decide) (fun c2 => ?_) (fun c2 => ?_)
  · have h := it_f h c2
    refine rl_bipush hG (v := -2) dX7_seize_14 (by decide) ?_
    exact rl_ret2 hret h rfl dX7_seize_16
  · have h := it_t h c2
    refine rl_iload_n hG dX7_seize_7 rfl 2 rfl ?_
    obtain ⟨x3, hx3q, zx3, h⟩ := oz_ok h
    refine rl_callZi hG (As := [.int p2]) (kX7_isNoWork l D u p2 x3 hx3q) gX7_seize_X7_isNoWork rfl 1 rfl (by decide +kernel) rfl rfl (by decide) (Nat.le_of_ble_eq_true rfl) rfl dX7_seize_8 ?_
    refine rl_if_eq hG (tgt := 17) dX7_seize_11 (by decide) (fun c4 => ?_) (fun c4 => ?_)
    · have h := it_t h c4
      refine rl_iload_n hG dX7_seize_17 rfl 3 rfl ?_
      refine rl_iconst hG (v := 0) dX7_seize_18 (by decide) ?_
      refine rl_aload_n hG dX7_seize_19 rfl 0 rfl ?_
      refine rl_get hG iX7_seize_X7 0 (gX_0 a cI cT u) hcX7 2 (Nat.le_of_ble_eq_true rfl) nX7_seize_0 rfl dX7_seize_20 ?_
      refine rl_get hG iX7_seize_X0 3 (gX_3 a cI cT u) hcX0 1 (Nat.le_of_ble_eq_true rfl) nX7_seize_1 rfl dX7_seize_23 ?_
      obtain ⟨x5, hx5q, zx5, h⟩ := oz_ok h
      refine rl_callZi hG (As := [.int p3, .int (0 : Int32), .int (u 3 1)]) (kX7_isOff l D u p3 (0 : Int32) (u 3 1) x5 hx5q) gX7_seize_X7_isOff rfl 3 rfl (by decide +kernel) rfl rfl (by decide) (Nat.le_of_ble_eq_true rfl) rfl dX7_seize_26 ?_
      refine rl_if_eq hG (tgt := 35) dX7_seize_29 (by decide) (fun c6 => ?_) (fun c6 => ?_)
      · have h := it_t h c6
        refine rl_aload_n hG dX7_seize_35 rfl 0 rfl ?_
        refine rl_get hG iX7_seize_X7 0 (gX_0 a cI cT u) hcX7 6 (Nat.le_of_ble_eq_true rfl) nX7_seize_2 rfl dX7_seize_36 ?_
        refine rl_get hG iX7_seize_X3 7 (gX_7 a cI cT u) hcX3 3 (Nat.le_of_ble_eq_true rfl) nX7_seize_3 rfl dX7_seize_39 ?_
        refine rl_bipush hG (v := 16) dX7_seize_42 (by decide) ?_
        refine rl_icmp_ne hG (tgt := 50) dX7_seize_44 (by decide) (fun c7 => ?_) (fun c7 => ?_)
        · have h := it_f h c7
          refine rl_aload_n hG dX7_seize_50 rfl 0 rfl ?_
          refine rl_get hG iX7_seize_X7 0 (gX_0 a cI cT u) hcX7 6 (Nat.le_of_ble_eq_true rfl) nX7_seize_2 rfl dX7_seize_51 ?_
          refine rl_iload_n hG dX7_seize_54 rfl 1 rfl ?_
          refine rl_iload_n hG dX7_seize_55 rfl 2 rfl ?_
          refine rl_iload_n hG dX7_seize_56 rfl 3 rfl ?_
          obtain ⟨u8, hu8q, h⟩ := o1_ok h
          refine rl_callVv hG (roX_ok xx) (As := [.int p1, .int p2, .int p3]) (kX3_addSeizure l D a cI cT aS xx u p1 p2 p3 u8  hu8q) gX7_seize_X3_addSeizure rfl 7 (gX_7 a cI cT u) hcX3 3 rfl (by decide +kernel) rfl rfl (by decide) (Nat.le_of_ble_eq_true rfl) rfl dX7_seize_57 ?_
          refine rl_aload_n hG dX7_seize_60 rfl 0 rfl ?_
          refine rl_get hG iX7_seize_X7 0 (gX_0 a cI cT u8) hcX7 6 (Nat.le_of_ble_eq_true rfl) nX7_seize_2 rfl dX7_seize_61 ?_
          refine rl_get hG iX7_seize_X3 7 (gX_7 a cI cT u8) hcX3 3 (Nat.le_of_ble_eq_true rfl) nX7_seize_3 rfl dX7_seize_64 ?_
          exact rl_ret2 hret h rfl dX7_seize_67
        · have h := it_t h c7
          refine rl_bipush hG (v := -5) dX7_seize_47 (by decide) ?_
          exact rl_ret2 hret h rfl dX7_seize_49
      · have h := it_f h c6
        refine rl_bipush hG (v := -3) dX7_seize_32 (by decide) ?_
        exact rl_ret2 hret h rfl dX7_seize_34
    · have h := it_f h c4
      refine rl_bipush hG (v := -2) dX7_seize_14 (by decide) ?_
      exact rl_ret2 hret h rfl dX7_seize_16
def fX7_right (u : St)  (p1 : Int32) : Option (Int32) := oz (fX7_isOff p1 (-1 : Int32) ((u 7 3) - (1 : Int32))) (fun x1 => (if x1 = (0 : Int32) then (if p1 = (-1 : Int32) then o1 (fX3_firstWrong u) (fun x6 => some x6) else oz (fX3_isRight u p1) (fun x4 => (if x4 = (0 : Int32) then some (0 : Int32) else some (1 : Int32)))) else some (-2 : Int32)))
theorem nX7_right_0 : Cond.fieldLink RX7 58 "WhoseWork" "seizures" "LWhoseWork$Seizures;" ∈ wsX7_right := by decide +kernel
theorem nX7_right_1 : Cond.fieldLink RX7 198 "WhoseWork$Seizures" "size" "I" ∈ wsX7_right := by decide +kernel
theorem nX7_right_2 : Cond.fieldLink RX7 28 "WhoseWork" "law" "LWhoseWork$Law;" ∈ wsX7_right := by decide +kernel
theorem iX7_right_X3 : ∀ w ∈ wsX30, w ∈ wsX7_right := by decide +kernel
theorem iX7_right_X7 : ∀ w ∈ wsX70, w ∈ wsX7_right := by decide +kernel
set_option maxRecDepth 100000 in
set_option maxHeartbeats 4000000 in
theorem kX7_right (l : Launch) (D : va_G) (a : Nat → Nat) (cI cT : ClassId) (aS : Nat → Prop) (xx : Rx) (u : St)  (p1 : Int32) (r : Int32)  (h0 : fX7_right u p1 = some r) : rl_Mi l yX7_right wsX7_right ({ frames := 5, cells := 0, slots := 0, locals := 116 } : Room) D (tyX cI cT) (wX a cI cT) (roX xx) aS [.ref (a 0), .int p1] u r u := by
  refine rl_meth_i (cc := cX7_right) (maxL := 2) (own := RX7) (ty := .int) (by decide) rfl rfl (Nat.le_of_ble_eq_true rfl) ?_
  intro G hG hret
  have h := h0
  rw [fX7_right] at h
  show G u 0 [(0, .ref (a 0)), (1, .int p1)] []
  refine rl_iload_n hG dX7_right_0 rfl 1 rfl ?_
  refine rl_iconst hG (v := -1) dX7_right_1 (by decide) ?_
  refine rl_aload_n hG dX7_right_2 rfl 0 rfl ?_
  refine rl_get hG iX7_right_X7 0 (gX_0 a cI cT u) hcX7 6 (Nat.le_of_ble_eq_true rfl) nX7_right_0 rfl dX7_right_3 ?_
  refine rl_get hG iX7_right_X3 7 (gX_7 a cI cT u) hcX3 3 (Nat.le_of_ble_eq_true rfl) nX7_right_1 rfl dX7_right_6 ?_
  refine rl_iconst hG (v := 1) dX7_right_9 (by decide) ?_
  refine rl_isub hG dX7_right_10 ?_
  obtain ⟨x1, hx1q, zx1, h⟩ := oz_ok h
  refine rl_callZi hG (As := [.int p1, .int (-1 : Int32), .int ((u 7 3) - (1 : Int32))]) (kX7_isOff l D u p1 (-1 : Int32) ((u 7 3) - (1 : Int32)) x1 hx1q) gX7_right_X7_isOff rfl 3 rfl (by decide +kernel) rfl rfl (by decide) (Nat.le_of_ble_eq_true rfl) rfl dX7_right_11 ?_
  refine rl_if_eq hG (tgt := 20) dX7_right_14 (by decide) (fun c2 => ?_) (fun c2 => ?_)
  · have h := it_t h c2
    refine rl_iload_n hG dX7_right_20 rfl 1 rfl ?_
    refine rl_iconst hG (v := -1) dX7_right_21 (by decide) ?_
    refine rl_icmp_ne hG (tgt := 39) dX7_right_22 (by decide) (fun c3 => ?_) (fun c3 => ?_)
    · have h := it_f h c3
      refine rl_aload_n hG dX7_right_39 rfl 0 rfl ?_
      refine rl_get hG iX7_right_X7 0 (gX_0 a cI cT u) hcX7 6 (Nat.le_of_ble_eq_true rfl) nX7_right_0 rfl dX7_right_40 ?_
      refine rl_iload_n hG dX7_right_43 rfl 1 rfl ?_
      refine rl_aload_n hG dX7_right_44 rfl 0 rfl ?_
      refine rl_get hG iX7_right_X7 0 (gX_0 a cI cT u) hcX7 2 (Nat.le_of_ble_eq_true rfl) nX7_right_2 rfl dX7_right_45 ?_
      obtain ⟨x4, hx4q, zx4, h⟩ := oz_ok h
      refine rl_callVi hG (roX_ok xx) (As := [.int p1, .ref (a 3)]) (kX3_isRight l D a cI cT aS xx u p1 x4  hx4q) gX7_right_X3_isRight rfl 7 (gX_7 a cI cT u) hcX3 2 rfl (by decide +kernel) rfl rfl (by decide) (Nat.le_of_ble_eq_true rfl) rfl dX7_right_48 ?_
      refine rl_if_eq hG (tgt := 58) dX7_right_51 (by decide) (fun c5 => ?_) (fun c5 => ?_)
      · have h := it_t h c5
        refine rl_iconst hG (v := 0) dX7_right_58 (by decide) ?_
        exact rl_ret1 hret h rfl dX7_right_59
      · have h := it_f h c5
        refine rl_iconst hG (v := 1) dX7_right_54 (by decide) ?_
        refine rl_goto hG (tgt := 59) dX7_right_55 (by decide) ?_
        exact rl_ret1 hret h rfl dX7_right_59
    · have h := it_t h c3
      refine rl_aload_n hG dX7_right_25 rfl 0 rfl ?_
      refine rl_get hG iX7_right_X7 0 (gX_0 a cI cT u) hcX7 6 (Nat.le_of_ble_eq_true rfl) nX7_right_0 rfl dX7_right_26 ?_
      refine rl_aload_n hG dX7_right_29 rfl 0 rfl ?_
      refine rl_get hG iX7_right_X7 0 (gX_0 a cI cT u) hcX7 2 (Nat.le_of_ble_eq_true rfl) nX7_right_2 rfl dX7_right_30 ?_
      obtain ⟨x6, hx6q, h⟩ := o1_ok h
      refine rl_callVi hG (roX_ok xx) (As := [.ref (a 3)]) (kX3_firstWrong l D a cI cT aS xx u  x6  hx6q) gX7_right_X3_firstWrong rfl 7 (gX_7 a cI cT u) hcX3 1 rfl (by decide +kernel) rfl rfl (by decide) (Nat.le_of_ble_eq_true rfl) rfl dX7_right_33 ?_
      refine rl_goto hG (tgt := 59) dX7_right_36 (by decide) ?_
      exact rl_ret1 hret h rfl dX7_right_59
  · have h := it_f h c2
    refine rl_bipush hG (v := -2) dX7_right_17 (by decide) ?_
    exact rl_ret1 hret h rfl dX7_right_19
def fX7_year (u : St)  (p1 : Int32) : Option (Int32 × St) := oz (fX7_isNoWork p1) (fun x1 => (if x1 = (0 : Int32) then (if (u 0 8) = (24 : Int32) then some ((-5 : Int32), u) else asr u 8 24 (u 0 8) p1 (fun u4 => bd (st_wr u4 0 8 ((u4 0 8) + (1 : Int32))) (fun u5 => some ((u5 0 8), u5)))) else some ((-2 : Int32), u)))
theorem nX7_year_0 : Cond.fieldLink RX7 211 "WhoseWork" "yearSize" "I" ∈ wsX7_year := by decide +kernel
theorem nX7_year_1 : Cond.fieldLink RX7 62 "WhoseWork" "yearWorks" "[I" ∈ wsX7_year := by decide +kernel
theorem iX7_year_X7 : ∀ w ∈ wsX70, w ∈ wsX7_year := by decide +kernel
set_option maxRecDepth 100000 in
set_option maxHeartbeats 4000000 in
theorem kX7_year (l : Launch) (D : va_G) (a : Nat → Nat) (cI cT : ClassId) (aS : Nat → Prop) (xx : Rx) (u : St)  (p1 : Int32) (r : Int32) (τ : St)  (h0 : fX7_year u p1 = some (r, τ)) : rl_Mi l yX7_year wsX7_year ({ frames := 2, cells := 0, slots := 0, locals := 42 } : Room) D (tyX cI cT) (wX a cI cT) (roX xx) aS [.ref (a 0), .int p1] u r τ := by
  refine rl_meth_i (cc := cX7_year) (maxL := 2) (own := RX7) (ty := .int) (by decide) rfl rfl (Nat.le_of_ble_eq_true rfl) ?_
  intro G hG hret
  have h := h0
  rw [fX7_year] at h
  show G u 0 [(0, .ref (a 0)), (1, .int p1)] []
  refine rl_iload_n hG dX7_year_0 rfl 1 rfl ?_
  obtain ⟨x1, hx1q, zx1, h⟩ := oz_ok h
  refine rl_callZi hG (As := [.int p1]) (kX7_isNoWork l D u p1 x1 hx1q) gX7_year_X7_isNoWork rfl 1 rfl (by decide +kernel) rfl rfl (by decide) (Nat.le_of_ble_eq_true rfl) rfl dX7_year_1 ?_
  refine rl_if_eq hG (tgt := 10) dX7_year_4 (by decide) (fun c2 => ?_) (fun c2 => ?_)
  · have h := it_t h c2
    refine rl_aload_n hG dX7_year_10 rfl 0 rfl ?_
    refine rl_get hG iX7_year_X7 0 (gX_0 a cI cT u) hcX7 8 (Nat.le_of_ble_eq_true rfl) nX7_year_0 rfl dX7_year_11 ?_
    refine rl_bipush hG (v := 24) dX7_year_14 (by decide) ?_
    refine rl_icmp_ne hG (tgt := 22) dX7_year_16 (by decide) (fun c3 => ?_) (fun c3 => ?_)
    · have h := it_f h c3
      refine rl_aload_n hG dX7_year_22 rfl 0 rfl ?_
      refine rl_get hG iX7_year_X7 0 (gX_0 a cI cT u) hcX7 7 (Nat.le_of_ble_eq_true rfl) nX7_year_1 rfl dX7_year_23 ?_
      refine rl_aload_n hG dX7_year_26 rfl 0 rfl ?_
      refine rl_get hG iX7_year_X7 0 (gX_0 a cI cT u) hcX7 8 (Nat.le_of_ble_eq_true rfl) nX7_year_0 rfl dX7_year_27 ?_
      refine rl_iload_n hG dX7_year_30 rfl 1 rfl ?_
      obtain ⟨u4, iu4, eu4, h⟩ := asr_ok h
      refine rl_iast hG 8 0 (gX_8 a cI cT u) rfl iu4 (σ' := u4) ((sX_8 a cI cT u _).trans (congrArg _ eu4.symm)) dX7_year_31 ?_
      refine rl_aload_n hG dX7_year_32 rfl 0 rfl ?_
      refine rl_dup hG dX7_year_33 rfl ?_
      refine rl_get hG iX7_year_X7 0 (gX_0 a cI cT u4) hcX7 8 (Nat.le_of_ble_eq_true rfl) nX7_year_0 rfl dX7_year_34 ?_
      refine rl_iconst hG (v := 1) dX7_year_37 (by decide) ?_
      refine rl_iadd hG dX7_year_38 ?_
      obtain ⟨u5, eu5, h⟩ := bd_ok h
      refine rl_put hG iX7_year_X7 tyX7 tyX7_ok nmX7 0 (gX_0 a cI cT u4) hcX7 8 (Nat.le_of_ble_eq_true rfl) nX7_year_0 rfl rfl (Nat.le_of_ble_eq_true rfl) (σ' := u5) ((sX_0_8 a cI cT u4 _).trans (congrArg _ eu5.symm)) dX7_year_39 ?_
      refine rl_aload_n hG dX7_year_42 rfl 0 rfl ?_
      refine rl_get hG iX7_year_X7 0 (gX_0 a cI cT u5) hcX7 8 (Nat.le_of_ble_eq_true rfl) nX7_year_0 rfl dX7_year_43 ?_
      exact rl_ret2 hret h rfl dX7_year_46
    · have h := it_t h c3
      refine rl_bipush hG (v := -5) dX7_year_19 (by decide) ?_
      exact rl_ret2 hret h rfl dX7_year_21
  · have h := it_f h c2
    refine rl_bipush hG (v := -2) dX7_year_7 (by decide) ?_
    exact rl_ret2 hret h rfl dX7_year_9
def fX7_yearly_L43 (u : St) (k14 : Int32 → Int32 → Int32 → Option (Int32)) (v1 : Int32) (v2 : Int32) (v3 : Int32) : Option (Int32) := bd (v3 + (1 : Int32)) (fun x1 => k14 v1 v2 x1)
def fX7_yearly_L14 (u : St)  : Nat → Int32 → Int32 → Int32 → Option (Int32)
  | 0 => fun _ _ _ => none
  | n + 1 => fun v1 v2 v3 => (if (u 0 8) ≤ v3 then some v2 else ald u 8 24 v3 (fun x3 => o1 (fX0_leave u v1 x3 (-1 : Int32)) (fun x4 => (if x4 = (0 : Int32) then fX7_yearly_L43 u (fX7_yearly_L14 u n) v1 v2 v3 else bd (v2 + (1 : Int32)) (fun x6 => fX7_yearly_L43 u (fX7_yearly_L14 u n) v1 x6 v3)))))
def fX7_yearly (u : St)  (p1 : Int32) : Option (Int32) := oz (fX7_isNoGuild p1) (fun x7 => (if x7 = (0 : Int32) then fX7_yearly_L14 u 2000 p1 (0 : Int32) (0 : Int32) else some (-2 : Int32)))
theorem nX7_yearly_0 : Cond.fieldLink RX7 211 "WhoseWork" "yearSize" "I" ∈ wsX7_yearly := by decide +kernel
theorem nX7_yearly_1 : Cond.fieldLink RX7 28 "WhoseWork" "law" "LWhoseWork$Law;" ∈ wsX7_yearly := by decide +kernel
theorem nX7_yearly_2 : Cond.fieldLink RX7 62 "WhoseWork" "yearWorks" "[I" ∈ wsX7_yearly := by decide +kernel
theorem iX7_yearly_X7 : ∀ w ∈ wsX70, w ∈ wsX7_yearly := by decide +kernel
set_option maxRecDepth 100000 in
set_option maxHeartbeats 4000000 in
theorem kX7_yearly (l : Launch) (D : va_G) (a : Nat → Nat) (cI cT : ClassId) (aS : Nat → Prop) (xx : Rx) (u : St)  (p1 : Int32) (r : Int32)  (h0 : fX7_yearly u p1 = some r) : rl_Mi l yX7_yearly wsX7_yearly ({ frames := 3, cells := 0, slots := 0, locals := 72 } : Room) D (tyX cI cT) (wX a cI cT) (roX xx) aS [.ref (a 0), .int p1] u r u := by
  refine rl_meth_i (cc := cX7_yearly) (maxL := 4) (own := RX7) (ty := .int) (by decide) rfl rfl (Nat.le_of_ble_eq_true rfl) ?_
  intro G hG hret
  have H43 : ∀ (k14 : Int32 → Int32 → Int32 → Option (Int32)) (hk14 : ∀ (v1 : Int32) (v2 : Int32) (v3 : Int32), k14 v1 v2 v3 = some r → G u 14 [(0, .ref (a 0)), (1, .int v1), (2, .int v2), (3, .int v3)] []), ∀ (v1 : Int32) (v2 : Int32) (v3 : Int32), fX7_yearly_L43 u k14 v1 v2 v3 = some r → G u 43 [(0, .ref (a 0)), (1, .int v1), (2, .int v2), (3, .int v3)] [] := by
    intro k14 hk14 v1 v2 v3 h
    rw [fX7_yearly_L43] at h
    obtain ⟨x1, ex1, h⟩ := bd_ok h
    refine rl_iinc hG [(3, .int x1), (0, .ref (a 0)), (1, .int v1), (2, .int v2)] dX7_yearly_43 3 rfl (by rw [ex1]; rfl) (Nat.le_of_ble_eq_true rfl) rfl ?_
    refine rl_goto hG (tgt := 14) dX7_yearly_46 (by decide) ?_
    exact rl_lvs hG [1, 2, 3, 0] rfl (hk14 v1 v2 x1 h)
  have H14 : ∀ (n : Nat) (v1 : Int32) (v2 : Int32) (v3 : Int32), fX7_yearly_L14 u n v1 v2 v3 = some r → G u 14 [(0, .ref (a 0)), (1, .int v1), (2, .int v2), (3, .int v3)] [] := by
    intro n
    induction n with
    | zero =>
      intro v1 v2 v3 h
      exact absurd h (by rw [fX7_yearly_L14]; exact fun q => by cases q)
    | succ n ih =>
      intro v1 v2 v3 h
      rw [fX7_yearly_L14] at h
      refine rl_iload_n hG dX7_yearly_14 rfl 3 rfl ?_
      refine rl_aload_n hG dX7_yearly_15 rfl 0 rfl ?_
      refine rl_get hG iX7_yearly_X7 0 (gX_0 a cI cT u) hcX7 8 (Nat.le_of_ble_eq_true rfl) nX7_yearly_0 rfl dX7_yearly_16 ?_
      refine rl_icmp_ge hG (tgt := 49) dX7_yearly_19 (by decide) (fun c2 => ?_) (fun c2 => ?_)
      · have h := it_t h c2
        refine rl_iload_n hG dX7_yearly_49 rfl 2 rfl ?_
        exact rl_ret1 hret h rfl dX7_yearly_50
      · have h := it_f h c2
        refine rl_aload_n hG dX7_yearly_22 rfl 0 rfl ?_
        refine rl_get hG iX7_yearly_X7 0 (gX_0 a cI cT u) hcX7 2 (Nat.le_of_ble_eq_true rfl) nX7_yearly_1 rfl dX7_yearly_23 ?_
        refine rl_iload_n hG dX7_yearly_26 rfl 1 rfl ?_
        refine rl_aload_n hG dX7_yearly_27 rfl 0 rfl ?_
        refine rl_get hG iX7_yearly_X7 0 (gX_0 a cI cT u) hcX7 7 (Nat.le_of_ble_eq_true rfl) nX7_yearly_2 rfl dX7_yearly_28 ?_
        refine rl_iload_n hG dX7_yearly_31 rfl 3 rfl ?_
        obtain ⟨x3, ix3, ex3, h⟩ := ald_ok h
        refine rl_iald hG 8 0 (gX_8 a cI cT u) rfl ix3 ex3 dX7_yearly_32 ?_
        refine rl_iconst hG (v := -1) dX7_yearly_33 (by decide) ?_
        obtain ⟨x4, hx4q, h⟩ := o1_ok h
        refine rl_callVi hG (roX_ok xx) (As := [.int v1, .int x3, .int (-1 : Int32)]) (kX0_leave l D a cI cT aS xx u v1 x3 (-1 : Int32) x4  hx4q) gX7_yearly_X0_leave rfl 3 (gX_3 a cI cT u) hcX0 3 rfl (by decide +kernel) rfl rfl (by decide) (Nat.le_of_ble_eq_true rfl) rfl dX7_yearly_34 ?_
        refine rl_if_eq hG (tgt := 43) dX7_yearly_37 (by decide) (fun c5 => ?_) (fun c5 => ?_)
        · have h := it_t h c5
          exact rl_lvs hG [0, 1, 2, 3] rfl (H43 (fX7_yearly_L14 u n) (ih) v1 v2 v3 h)
        · have h := it_f h c5
          obtain ⟨x6, ex6, h⟩ := bd_ok h
          refine rl_iinc hG [(2, .int x6), (0, .ref (a 0)), (1, .int v1), (3, .int v3)] dX7_yearly_40 2 rfl (by rw [ex6]; rfl) (Nat.le_of_ble_eq_true rfl) rfl ?_
          exact rl_lvs hG [1, 2, 0, 3] rfl (H43 (fX7_yearly_L14 u n) (ih) v1 x6 v3 h)
  have h := h0
  rw [fX7_yearly] at h
  show G u 0 [(0, .ref (a 0)), (1, .int p1)] []
  refine rl_iload_n hG dX7_yearly_0 rfl 1 rfl ?_
  obtain ⟨x7, hx7q, zx7, h⟩ := oz_ok h
  refine rl_callZi hG (As := [.int p1]) (kX7_isNoGuild l D u p1 x7 hx7q) gX7_yearly_X7_isNoGuild rfl 1 rfl (by decide +kernel) rfl rfl (by decide) (Nat.le_of_ble_eq_true rfl) rfl dX7_yearly_1 ?_
  refine rl_if_eq hG (tgt := 10) dX7_yearly_4 (by decide) (fun c8 => ?_) (fun c8 => ?_)
  · have h := it_t h c8
    refine rl_iconst hG (v := 0) dX7_yearly_10 (by decide) ?_
    refine rl_istore_n hG [(2, .int (0 : Int32)), (0, .ref (a 0)), (1, .int p1)] dX7_yearly_11 rfl (Nat.le_of_ble_eq_true rfl) rfl rfl ?_
    refine rl_iconst hG (v := 0) dX7_yearly_12 (by decide) ?_
    refine rl_istore_n hG [(3, .int (0 : Int32)), (2, .int (0 : Int32)), (0, .ref (a 0)), (1, .int p1)] dX7_yearly_13 rfl (Nat.le_of_ble_eq_true rfl) rfl rfl ?_
    exact rl_lvs hG [2, 3, 1, 0] rfl (H14 2000 p1 (0 : Int32) (0 : Int32) h)
  · have h := it_f h c8
    refine rl_bipush hG (v := -2) dX7_yearly_7 (by decide) ?_
    exact rl_ret1 hret h rfl dX7_yearly_9
def fX7_count (u : St)  (p1 : Int32) : Option (Int32) := oz (fX7_isOff p1 (0 : Int32) (9 : Int32)) (fun x1 => (if x1 = (0 : Int32) then (if p1 = (0 : Int32) then some (u 3 1) else (if p1 = (1 : Int32) then some (u 1 1) else (if p1 = (2 : Int32) then some (u 7 3) else (if p1 = (3 : Int32) then some (u 0 8) else tld (p1 - (4 : Int32)) (fun t7 => some (u (23 + t7) 1)))))) else some (-3 : Int32)))
theorem nX7_count_0 : Cond.fieldLink RX7 28 "WhoseWork" "law" "LWhoseWork$Law;" ∈ wsX7_count := by decide +kernel
theorem nX7_count_1 : Cond.fieldLink RX7 83 "WhoseWork$Law" "size" "I" ∈ wsX7_count := by decide +kernel
theorem nX7_count_2 : Cond.fieldLink RX7 12 "WhoseWork" "text" "LWhoseWork$Text;" ∈ wsX7_count := by decide +kernel
theorem nX7_count_3 : Cond.fieldLink RX7 70 "WhoseWork$Text" "size" "I" ∈ wsX7_count := by decide +kernel
theorem nX7_count_4 : Cond.fieldLink RX7 58 "WhoseWork" "seizures" "LWhoseWork$Seizures;" ∈ wsX7_count := by decide +kernel
theorem nX7_count_5 : Cond.fieldLink RX7 198 "WhoseWork$Seizures" "size" "I" ∈ wsX7_count := by decide +kernel
theorem nX7_count_6 : Cond.fieldLink RX7 211 "WhoseWork" "yearSize" "I" ∈ wsX7_count := by decide +kernel
theorem nX7_count_7 : Cond.fieldLink RX7 50 "WhoseWork" "things" "[LWhoseWork$Thing;" ∈ wsX7_count := by decide +kernel
theorem nX7_count_8 : Cond.fieldLink RX7 130 "WhoseWork$Thing" "size" "I" ∈ wsX7_count := by decide +kernel
theorem iX7_count_X0 : ∀ w ∈ wsX00, w ∈ wsX7_count := by decide +kernel
theorem iX7_count_X3 : ∀ w ∈ wsX30, w ∈ wsX7_count := by decide +kernel
theorem iX7_count_X5 : ∀ w ∈ wsX50, w ∈ wsX7_count := by decide +kernel
theorem iX7_count_X6 : ∀ w ∈ wsX60, w ∈ wsX7_count := by decide +kernel
theorem iX7_count_X7 : ∀ w ∈ wsX70, w ∈ wsX7_count := by decide +kernel
set_option maxRecDepth 100000 in
set_option maxHeartbeats 4000000 in
theorem kX7_count (l : Launch) (D : va_G) (a : Nat → Nat) (cI cT : ClassId) (aS : Nat → Prop) (xx : Rx) (u : St)  (p1 : Int32) (r : Int32)  (h0 : fX7_count u p1 = some r) : rl_Mi l yX7_count wsX7_count ({ frames := 1, cells := 0, slots := 0, locals := 22 } : Room) D (tyX cI cT) (wX a cI cT) (roX xx) aS [.ref (a 0), .int p1] u r u := by
  refine rl_meth_i (cc := cX7_count) (maxL := 2) (own := RX7) (ty := .int) (by decide) rfl rfl (Nat.le_of_ble_eq_true rfl) ?_
  intro G hG hret
  have h := h0
  rw [fX7_count] at h
  show G u 0 [(0, .ref (a 0)), (1, .int p1)] []
  refine rl_iload_n hG dX7_count_0 rfl 1 rfl ?_
  refine rl_iconst hG (v := 0) dX7_count_1 (by decide) ?_
  refine rl_bipush hG (v := 9) dX7_count_2 (by decide) ?_
  obtain ⟨x1, hx1q, zx1, h⟩ := oz_ok h
  refine rl_callZi hG (As := [.int p1, .int (0 : Int32), .int (9 : Int32)]) (kX7_isOff l D u p1 (0 : Int32) (9 : Int32) x1 hx1q) gX7_count_X7_isOff rfl 3 rfl (by decide +kernel) rfl rfl (by decide) (Nat.le_of_ble_eq_true rfl) rfl dX7_count_4 ?_
  refine rl_if_eq hG (tgt := 13) dX7_count_7 (by decide) (fun c2 => ?_) (fun c2 => ?_)
  · have h := it_t h c2
    refine rl_iload_n hG dX7_count_13 rfl 1 rfl ?_
    by_cases c3 : p1 = (0 : Int32)
    · have h := it_t h c3
      refine rl_tableIn hG (tgt := 44) dX7_count_14 (by rw [c3]; decide) (by rw [c3]; decide) (off := 30) (by rw [c3]; first | done | rfl) (by decide) ?_
      refine rl_aload_n hG dX7_count_44 rfl 0 rfl ?_
      refine rl_get hG iX7_count_X7 0 (gX_0 a cI cT u) hcX7 2 (Nat.le_of_ble_eq_true rfl) nX7_count_0 rfl dX7_count_45 ?_
      refine rl_get hG iX7_count_X0 3 (gX_3 a cI cT u) hcX0 1 (Nat.le_of_ble_eq_true rfl) nX7_count_1 rfl dX7_count_48 ?_
      exact rl_ret1 hret h rfl dX7_count_51
    have h := it_f h c3
    by_cases c4 : p1 = (1 : Int32)
    · have h := it_t h c4
      refine rl_tableIn hG (tgt := 52) dX7_count_14 (by rw [c4]; decide) (by rw [c4]; decide) (off := 38) (by rw [c4]; first | done | rfl) (by decide) ?_
      refine rl_aload_n hG dX7_count_52 rfl 0 rfl ?_
      refine rl_get hG iX7_count_X7 0 (gX_0 a cI cT u) hcX7 0 (Nat.le_of_ble_eq_true rfl) nX7_count_2 rfl dX7_count_53 ?_
      refine rl_get hG iX7_count_X5 1 (gX_1 a cI cT u) hcX5 1 (Nat.le_of_ble_eq_true rfl) nX7_count_3 rfl dX7_count_56 ?_
      exact rl_ret1 hret h rfl dX7_count_59
    have h := it_f h c4
    by_cases c5 : p1 = (2 : Int32)
    · have h := it_t h c5
      refine rl_tableIn hG (tgt := 60) dX7_count_14 (by rw [c5]; decide) (by rw [c5]; decide) (off := 46) (by rw [c5]; first | done | rfl) (by decide) ?_
      refine rl_aload_n hG dX7_count_60 rfl 0 rfl ?_
      refine rl_get hG iX7_count_X7 0 (gX_0 a cI cT u) hcX7 6 (Nat.le_of_ble_eq_true rfl) nX7_count_4 rfl dX7_count_61 ?_
      refine rl_get hG iX7_count_X3 7 (gX_7 a cI cT u) hcX3 3 (Nat.le_of_ble_eq_true rfl) nX7_count_5 rfl dX7_count_64 ?_
      exact rl_ret1 hret h rfl dX7_count_67
    have h := it_f h c5
    by_cases c6 : p1 = (3 : Int32)
    · have h := it_t h c6
      refine rl_tableIn hG (tgt := 68) dX7_count_14 (by rw [c6]; decide) (by rw [c6]; decide) (off := 54) (by rw [c6]; first | done | rfl) (by decide) ?_
      refine rl_aload_n hG dX7_count_68 rfl 0 rfl ?_
      refine rl_get hG iX7_count_X7 0 (gX_0 a cI cT u) hcX7 8 (Nat.le_of_ble_eq_true rfl) nX7_count_6 rfl dX7_count_69 ?_
      exact rl_ret1 hret h rfl dX7_count_72
    have h := it_f h c6
    refine rl_tableOut hG (tgt := 73) dX7_count_14 (sw_out [(0 : Int32), (1 : Int32), (2 : Int32), (3 : Int32)] rfl rfl rfl (List.forall_mem_cons.mpr ⟨c3, List.forall_mem_cons.mpr ⟨c4, List.forall_mem_cons.mpr ⟨c5, List.forall_mem_cons.mpr ⟨c6, fun _ hm => absurd hm List.not_mem_nil⟩⟩⟩⟩)) (by decide) ?_
    refine rl_aload_n hG dX7_count_73 rfl 0 rfl ?_
    refine rl_get hG iX7_count_X7 0 (gX_0 a cI cT u) hcX7 5 (Nat.le_of_ble_eq_true rfl) nX7_count_7 rfl dX7_count_74 ?_
    refine rl_iload_n hG dX7_count_77 rfl 1 rfl ?_
    refine rl_iconst hG (v := 4) dX7_count_78 (by decide) ?_
    refine rl_isub hG dX7_count_79 ?_
    obtain ⟨t7, ht7, it7, et7, h⟩ := tld_ok h
    refine rl_aald hG 6 1 (gX_6 a cI cT u) rfl it7 (b := a (23 + t7)) (by rw [et7]) dX7_count_80 ?_
    refine rl_get hG iX7_count_X6 (23 + t7) (gX_t a cI cT u ht7) hcX6 1 (Nat.le_of_ble_eq_true rfl) nX7_count_8 rfl dX7_count_81 ?_
    exact rl_ret1 hret h rfl dX7_count_84
  · have h := it_f h c2
    refine rl_bipush hG (v := -3) dX7_count_10 (by decide) ?_
    exact rl_ret1 hret h rfl dX7_count_12
