def fX0_cell (u : St)  (p1 : Int32) (p2 : Int32) : Option (Int32) := ald u 11 140 ((p1 * (7 : Int32)) + p2) (fun x1 => some x1)
theorem nX0_cell_0 : Cond.fieldLink RX0 9 "WhoseWork$Law" "cells" "[I" ∈ wsX0_cell := by decide +kernel
theorem iX0_cell_X0 : ∀ w ∈ wsX00, w ∈ wsX0_cell := by decide +kernel
set_option maxRecDepth 100000 in
set_option maxHeartbeats 4000000 in
theorem kX0_cell (l : Launch) (D : va_G) (a : Nat → Nat) (cI cT : ClassId) (aS : Nat → Prop) (xx : Rx) (u : St)  (p1 : Int32) (p2 : Int32) (r : Int32)  (h0 : fX0_cell u p1 p2 = some r) : rl_Mi l yX0_cell wsX0_cell ({ frames := 0, cells := 0, slots := 0, locals := 0 } : Room) D (tyX cI cT) (wX a cI cT) (roX xx) aS [.ref (a 3), .int p1, .int p2] u r u := by
  refine rl_meth_i (cc := cX0_cell) (maxL := 3) (own := RX0) (ty := .int) (by decide) rfl rfl (Nat.le_of_ble_eq_true rfl) ?_
  intro G hG hret
  have h := h0
  rw [fX0_cell] at h
  show G u 0 [(0, .ref (a 3)), (1, .int p1), (2, .int p2)] []
  refine rl_aload_n hG dX0_cell_0 rfl 0 rfl ?_
  refine rl_get hG iX0_cell_X0 3 (gX_3 a cI cT u) hcX0 0 (Nat.le_of_ble_eq_true rfl) nX0_cell_0 rfl dX0_cell_1 ?_
  refine rl_iload_n hG dX0_cell_4 rfl 1 rfl ?_
  refine rl_bipush hG (v := 7) dX0_cell_5 (by decide) ?_
  refine rl_imul hG dX0_cell_7 ?_
  refine rl_iload_n hG dX0_cell_8 rfl 2 rfl ?_
  refine rl_iadd hG dX0_cell_9 ?_
  obtain ⟨x1, ix1, ex1, h⟩ := ald_ok h
  refine rl_iald hG 11 0 (gX_11 a cI cT u) rfl ix1 ex1 dX0_cell_10 ?_
  exact rl_ret1 hret h rfl dX0_cell_11
def fX0_reaches_L45 (u : St)  (v1 : Int32) (v2 : Int32) : Option (Int32) := o1 (fX0_cell u v1 (5 : Int32)) (fun x1 => o1 (fX0_cell u v1 (6 : Int32)) (fun x2 => oz (fX7_isOff (v2 - v2 / (10 : Int32) * (10 : Int32)) x1 x2) (fun x3 => (if x3 = (0 : Int32) then some (1 : Int32) else some (0 : Int32)))))
def fX0_reaches_L28 (u : St)  (v1 : Int32) (v2 : Int32) (v4 : Int32) : Option (Int32) := (if v4 = (-1 : Int32) then fX0_reaches_L45 u v1 v2 else bd (v2 / (10 : Int32)) (fun x6 => (if v4 = (x6 - x6 / (4 : Int32) * (4 : Int32)) then fX0_reaches_L45 u v1 v2 else some (0 : Int32))))
def fX0_reaches (u : St)  (p1 : Int32) (p2 : Int32) : Option (Int32) := o1 (fX0_cell u p1 (3 : Int32)) (fun x8 => o1 (fX0_cell u p1 (4 : Int32)) (fun x9 => (if x8 = (-1 : Int32) then fX0_reaches_L28 u p1 p2 x9 else (if x8 = (p2 / (40 : Int32)) then fX0_reaches_L28 u p1 p2 x9 else some (0 : Int32)))))
theorem nX0_reaches_0 : Cond.static yX7_isOff ∈ wsX0_reaches := by decide +kernel
theorem nX0_reaches_1 : Cond.initialized RX7 ∈ wsX0_reaches := by decide +kernel
set_option maxRecDepth 100000 in
set_option maxHeartbeats 4000000 in
theorem kX0_reaches (l : Launch) (D : va_G) (a : Nat → Nat) (cI cT : ClassId) (aS : Nat → Prop) (xx : Rx) (u : St)  (p1 : Int32) (p2 : Int32) (r : Int32)  (h0 : fX0_reaches u p1 p2 = some r) : rl_Mi l yX0_reaches wsX0_reaches ({ frames := 1, cells := 0, slots := 0, locals := 22 } : Room) D (tyX cI cT) (wX a cI cT) (roX xx) aS [.ref (a 3), .int p1, .int p2] u r u := by
  refine rl_meth_i (cc := cX0_reaches) (maxL := 5) (own := RX0) (ty := .boolean) (by decide) rfl rfl (Nat.le_of_ble_eq_true rfl) ?_
  intro G hG hret
  have H45 : ∀ (v1 : Int32) (v2 : Int32), fX0_reaches_L45 u v1 v2 = some r → G u 45 [(0, .ref (a 3)), (1, .int v1), (2, .int v2)] [] := by
    intro  v1 v2 h
    rw [fX0_reaches_L45] at h
    refine rl_iload_n hG dX0_reaches_45 rfl 2 rfl ?_
    refine rl_bipush hG (v := 10) dX0_reaches_46 (by decide) ?_
    refine rl_irem hG dX0_reaches_48 (by decide) ?_
    refine rl_aload_n hG dX0_reaches_49 rfl 0 rfl ?_
    refine rl_iload_n hG dX0_reaches_50 rfl 1 rfl ?_
    refine rl_iconst hG (v := 5) dX0_reaches_51 (by decide) ?_
    obtain ⟨x1, hx1q, h⟩ := o1_ok h
    refine rl_callVi hG (roX_ok xx) (As := [.int v1, .int (5 : Int32)]) (kX0_cell l D a cI cT aS xx u v1 (5 : Int32) x1  hx1q) gX0_reaches_X0_cell rfl 3 (gX_3 a cI cT u) hcX0 2 rfl (by decide +kernel) rfl rfl (by decide) (Nat.le_of_ble_eq_true rfl) rfl dX0_reaches_52 ?_
    refine rl_aload_n hG dX0_reaches_55 rfl 0 rfl ?_
    refine rl_iload_n hG dX0_reaches_56 rfl 1 rfl ?_
    refine rl_bipush hG (v := 6) dX0_reaches_57 (by decide) ?_
    obtain ⟨x2, hx2q, h⟩ := o1_ok h
    refine rl_callVi hG (roX_ok xx) (As := [.int v1, .int (6 : Int32)]) (kX0_cell l D a cI cT aS xx u v1 (6 : Int32) x2  hx2q) gX0_reaches_X0_cell rfl 3 (gX_3 a cI cT u) hcX0 2 rfl (by decide +kernel) rfl rfl (by decide) (Nat.le_of_ble_eq_true rfl) rfl dX0_reaches_59 ?_
    obtain ⟨x3, hx3q, zx3, h⟩ := oz_ok h
    refine rl_callNi hG (As := [.int (v2 - v2 / (10 : Int32) * (10 : Int32)), .int x1, .int x2]) (kX7_isOff l D u (v2 - v2 / (10 : Int32) * (10 : Int32)) x1 x2 x3 hx3q) (nestX_RX0_52 xx) gX0_reaches_X7_isOff_n52 rfl nX0_reaches_0 nX0_reaches_1 3 rfl (by decide +kernel) rfl rfl (by decide) (Nat.le_of_ble_eq_true rfl) rfl dX0_reaches_62 ?_
    refine rl_if_ne hG (tgt := 72) dX0_reaches_65 (by decide) (fun c4 => ?_) (fun c4 => ?_)
    · have h := it_f h c4
      refine rl_iconst hG (v := 0) dX0_reaches_72 (by decide) ?_
      exact rl_ret1 hret h rfl dX0_reaches_73
    · have h := it_t h c4
      refine rl_iconst hG (v := 1) dX0_reaches_68 (by decide) ?_
      refine rl_goto hG (tgt := 73) dX0_reaches_69 (by decide) ?_
      exact rl_ret1 hret h rfl dX0_reaches_73
  have H28 : ∀ (v1 : Int32) (v2 : Int32) (v4 : Int32), fX0_reaches_L28 u v1 v2 v4 = some r → G u 28 [(0, .ref (a 3)), (1, .int v1), (2, .int v2), (4, .int v4)] [] := by
    intro  v1 v2 v4 h
    rw [fX0_reaches_L28] at h
    refine rl_iload hG dX0_reaches_28 3 rfl ?_
    refine rl_iconst hG (v := -1) dX0_reaches_30 (by decide) ?_
    refine rl_icmp_eq hG (tgt := 45) dX0_reaches_31 (by decide) (fun c5 => ?_) (fun c5 => ?_)
    · have h := it_t h c5
      exact rl_lvs hG [0, 1, 2] rfl (H45 v1 v2 h)
    · have h := it_f h c5
      refine rl_iload hG dX0_reaches_34 3 rfl ?_
      refine rl_iload_n hG dX0_reaches_36 rfl 2 rfl ?_
      refine rl_bipush hG (v := 10) dX0_reaches_37 (by decide) ?_
      refine rl_idiv hG dX0_reaches_39 (by decide) ?_
      refine rl_iconst hG (v := 4) dX0_reaches_40 (by decide) ?_
      obtain ⟨x6, ex6, h⟩ := bd_ok h
      refine rl_irem2 hG ex6 dX0_reaches_41 (by decide) ?_
      refine rl_icmp_ne hG (tgt := 72) dX0_reaches_42 (by decide) (fun c7 => ?_) (fun c7 => ?_)
      · have h := it_f h c7
        refine rl_iconst hG (v := 0) dX0_reaches_72 (by decide) ?_
        exact rl_ret1 hret h rfl dX0_reaches_73
      · have h := it_t h c7
        exact rl_lvs hG [0, 1, 2] rfl (H45 v1 v2 h)
  have h := h0
  rw [fX0_reaches] at h
  show G u 0 [(0, .ref (a 3)), (1, .int p1), (2, .int p2)] []
  refine rl_aload_n hG dX0_reaches_0 rfl 0 rfl ?_
  refine rl_iload_n hG dX0_reaches_1 rfl 1 rfl ?_
  refine rl_iconst hG (v := 3) dX0_reaches_2 (by decide) ?_
  obtain ⟨x8, hx8q, h⟩ := o1_ok h
  refine rl_callVi hG (roX_ok xx) (As := [.int p1, .int (3 : Int32)]) (kX0_cell l D a cI cT aS xx u p1 (3 : Int32) x8  hx8q) gX0_reaches_X0_cell rfl 3 (gX_3 a cI cT u) hcX0 2 rfl (by decide +kernel) rfl rfl (by decide) (Nat.le_of_ble_eq_true rfl) rfl dX0_reaches_3 ?_
  refine rl_istore_n hG [(3, .int x8), (0, .ref (a 3)), (1, .int p1), (2, .int p2)] dX0_reaches_6 rfl (Nat.le_of_ble_eq_true rfl) rfl rfl ?_
  refine rl_aload_n hG dX0_reaches_7 rfl 1 rfl ?_
  refine rl_iload_n hG dX0_reaches_8 rfl 2 rfl ?_
  refine rl_iconst hG (v := 4) dX0_reaches_9 (by decide) ?_
  obtain ⟨x9, hx9q, h⟩ := o1_ok h
  refine rl_callVi hG (roX_ok xx) (As := [.int p1, .int (4 : Int32)]) (kX0_cell l D a cI cT aS xx u p1 (4 : Int32) x9  hx9q) gX0_reaches_X0_cell rfl 3 (gX_3 a cI cT u) hcX0 2 rfl (by decide +kernel) rfl rfl (by decide) (Nat.le_of_ble_eq_true rfl) rfl dX0_reaches_10 ?_
  refine rl_istore hG [(4, .int x9), (3, .int x8), (0, .ref (a 3)), (1, .int p1), (2, .int p2)] dX0_reaches_13 (Nat.le_of_ble_eq_true rfl) rfl rfl ?_
  refine rl_iload_n hG dX0_reaches_15 rfl 1 rfl ?_
  refine rl_iconst hG (v := -1) dX0_reaches_16 (by decide) ?_
  refine rl_icmp_eq hG (tgt := 28) dX0_reaches_17 (by decide) (fun c10 => ?_) (fun c10 => ?_)
  · have h := it_t h c10
    exact rl_lvs hG [2, 3, 4, 0] rfl (H28 p1 p2 x9 h)
  · have h := it_f h c10
    refine rl_iload_n hG dX0_reaches_20 rfl 1 rfl ?_
    refine rl_iload_n hG dX0_reaches_21 rfl 4 rfl ?_
    refine rl_bipush hG (v := 40) dX0_reaches_22 (by decide) ?_
    refine rl_idiv hG dX0_reaches_24 (by decide) ?_
    refine rl_icmp_ne hG (tgt := 72) dX0_reaches_25 (by decide) (fun c11 => ?_) (fun c11 => ?_)
    · have h := it_f h c11
      refine rl_iconst hG (v := 0) dX0_reaches_72 (by decide) ?_
      exact rl_ret1 hret h rfl dX0_reaches_73
    · have h := it_t h c11
      exact rl_lvs hG [2, 3, 4, 0] rfl (H28 p1 p2 x9 h)
def fX0_enter_L96  (k57 : St → Int32 → Int32 → Int32 → Int32 → Option (St)) (u : St) (v1 : Int32) (v2 : Int32) (v4 : Int32) (v5 : Int32) : Option (St) := bd (v5 + (1 : Int32)) (fun x1 => k57 u v1 v2 v4 x1)
def fX0_enter_L134  (k105 : St → Int32 → Int32 → Int32 → Option (St)) (u : St) (v1 : Int32) (v2 : Int32) (v5 : Int32) : Option (St) := bd (v5 + (1 : Int32)) (fun x2 => k105 u v1 v2 x2)
def fX0_enter_L105   : Nat → St → Int32 → Int32 → Int32 → Option (St)
  | 0 => fun _ _ _ _ => none
  | n + 1 => fun u v1 v2 v5 => (if (240 : Int32) ≤ v5 then some u else oz (fX0_reaches u v1 v5) (fun x4 => (if x4 = (0 : Int32) then fX0_enter_L134 (fX0_enter_L105 n) u v1 v2 v5 else ald u 12 240 v5 (fun x6 => asr u 12 240 v5 (x6 ||| v2) (fun u7 => fX0_enter_L134 (fX0_enter_L105 n) u7 v1 v2 v5)))))
def fX0_enter_L102   (u : St) (v1 : Int32) (v2 : Int32) : Option (St) := fX0_enter_L105 2000 u v1 v2 (0 : Int32)
def fX0_enter_L57   : Nat → St → Int32 → Int32 → Int32 → Int32 → Option (St)
  | 0 => fun _ _ _ _ _ => none
  | n + 1 => fun u v1 v2 v4 v5 => (if (6 : Int32) ≤ v5 then fX0_enter_L102 u v1 v2 else (if v5 = v4 then ald u 14 6 v5 (fun x12 => asr u 14 6 v5 (x12 ||| v2) (fun u13 => fX0_enter_L96 (fX0_enter_L57 n) u13 v1 v2 v4 v5)) else ald u 15 6 v5 (fun x10 => asr u 15 6 v5 (x10 ||| v2) (fun u11 => fX0_enter_L96 (fX0_enter_L57 n) u11 v1 v2 v4 v5))))
def fX0_enter_L49   (u : St) (v1 : Int32) (v2 : Int32) (v3 : Int32) (v4 : Int32) : Option (St) := (if v3 = (2 : Int32) then fX0_enter_L57 2000 u v1 v2 v4 (0 : Int32) else fX0_enter_L102 u v1 v2)
def fX0_enter (u : St)  (p1 : Int32) : Option (St) := bd ((1 : Int32) <<< (p1 &&& 31)) (fun x15 => o1 (fX0_cell u p1 (0 : Int32)) (fun x16 => o1 (fX0_cell u p1 (1 : Int32)) (fun x17 => (if x16 = (4 : Int32) then ald u 13 6 x17 (fun x21 => asr u 13 6 x17 (x21 ||| x15) (fun u22 => fX0_enter_L49 u22 p1 x15 x16 x17)) else ald u 16 6 x17 (fun x19 => asr u 16 6 x17 (x19 ||| x15) (fun u20 => fX0_enter_L49 u20 p1 x15 x16 x17))))))
theorem nX0_enter_0 : Cond.fieldLink RX0 15 "WhoseWork$Law" "within" "[I" ∈ wsX0_enter := by decide +kernel
theorem nX0_enter_1 : Cond.fieldLink RX0 24 "WhoseWork$Law" "foreignOnlys" "[I" ∈ wsX0_enter := by decide +kernel
theorem nX0_enter_2 : Cond.fieldLink RX0 21 "WhoseWork$Law" "onlys" "[I" ∈ wsX0_enter := by decide +kernel
theorem nX0_enter_3 : Cond.fieldLink RX0 27 "WhoseWork$Law" "plain" "[I" ∈ wsX0_enter := by decide +kernel
theorem nX0_enter_4 : Cond.fieldLink RX0 18 "WhoseWork$Law" "grants" "[I" ∈ wsX0_enter := by decide +kernel
theorem iX0_enter_X0 : ∀ w ∈ wsX00, w ∈ wsX0_enter := by decide +kernel
set_option maxRecDepth 100000 in
set_option maxHeartbeats 4000000 in
theorem kX0_enter (l : Launch) (D : va_G) (a : Nat → Nat) (cI cT : ClassId) (aS : Nat → Prop) (xx : Rx) (u : St)  (p1 : Int32) (τ : St)  (h0 : fX0_enter u p1 = some τ) : rl_Mv l yX0_enter wsX0_enter ({ frames := 2, cells := 0, slots := 0, locals := 46 } : Room) D (tyX cI cT) (wX a cI cT) (roX xx) aS [.ref (a 3), .int p1] u τ := by
  refine rl_meth_v (cc := cX0_enter) (maxL := 6) (own := RX0) (by decide) rfl rfl (Nat.le_of_ble_eq_true rfl) ?_
  intro G hG hret
  have H96 : ∀ (k57 : St → Int32 → Int32 → Int32 → Int32 → Option (St)) (hk57 : ∀ (u : St) (v1 : Int32) (v2 : Int32) (v4 : Int32) (v5 : Int32), k57 u v1 v2 v4 v5 = some τ → G u 57 [(0, .ref (a 3)), (1, .int v1), (2, .int v2), (4, .int v4), (5, .int v5)] []), ∀ (u : St) (v1 : Int32) (v2 : Int32) (v4 : Int32) (v5 : Int32), fX0_enter_L96 k57 u v1 v2 v4 v5 = some τ → G u 96 [(0, .ref (a 3)), (1, .int v1), (2, .int v2), (4, .int v4), (5, .int v5)] [] := by
    intro k57 hk57 u v1 v2 v4 v5 h
    rw [fX0_enter_L96] at h
    obtain ⟨x1, ex1, h⟩ := bd_ok h
    refine rl_iinc hG [(5, .int x1), (0, .ref (a 3)), (1, .int v1), (2, .int v2), (4, .int v4)] dX0_enter_96 4 rfl (by rw [ex1]; rfl) (Nat.le_of_ble_eq_true rfl) rfl ?_
    refine rl_goto hG (tgt := 57) dX0_enter_99 (by decide) ?_
    exact rl_lvs hG [1, 2, 3, 4, 0] rfl (hk57 u v1 v2 v4 x1 h)
  have H134 : ∀ (k105 : St → Int32 → Int32 → Int32 → Option (St)) (hk105 : ∀ (u : St) (v1 : Int32) (v2 : Int32) (v5 : Int32), k105 u v1 v2 v5 = some τ → G u 105 [(0, .ref (a 3)), (1, .int v1), (2, .int v2), (5, .int v5)] []), ∀ (u : St) (v1 : Int32) (v2 : Int32) (v5 : Int32), fX0_enter_L134 k105 u v1 v2 v5 = some τ → G u 134 [(0, .ref (a 3)), (1, .int v1), (2, .int v2), (5, .int v5)] [] := by
    intro k105 hk105 u v1 v2 v5 h
    rw [fX0_enter_L134] at h
    obtain ⟨x2, ex2, h⟩ := bd_ok h
    refine rl_iinc hG [(5, .int x2), (0, .ref (a 3)), (1, .int v1), (2, .int v2)] dX0_enter_134 3 rfl (by rw [ex2]; rfl) (Nat.le_of_ble_eq_true rfl) rfl ?_
    refine rl_goto hG (tgt := 105) dX0_enter_137 (by decide) ?_
    exact rl_lvs hG [1, 2, 3, 0] rfl (hk105 u v1 v2 x2 h)
  have H105 : ∀ (n : Nat) (u : St) (v1 : Int32) (v2 : Int32) (v5 : Int32), fX0_enter_L105 n u v1 v2 v5 = some τ → G u 105 [(0, .ref (a 3)), (1, .int v1), (2, .int v2), (5, .int v5)] [] := by
    intro n
    induction n with
    | zero =>
      intro u v1 v2 v5 h
      exact absurd h (by rw [fX0_enter_L105]; exact fun q => by cases q)
    | succ n ih =>
      intro u v1 v2 v5 h
      rw [fX0_enter_L105] at h
      refine rl_iload hG dX0_enter_105 3 rfl ?_
      refine rl_sipush hG (v := 240) dX0_enter_107 (by decide) ?_
      refine rl_icmp_ge hG (tgt := 140) dX0_enter_110 (by decide) (fun c3 => ?_) (fun c3 => ?_)
      · have h := it_t h c3
        exact rl_retv hret h dX0_enter_140
      · have h := it_f h c3
        refine rl_aload_n hG dX0_enter_113 rfl 0 rfl ?_
        refine rl_iload_n hG dX0_enter_114 rfl 1 rfl ?_
        refine rl_iload hG dX0_enter_115 3 rfl ?_
        obtain ⟨x4, hx4q, zx4, h⟩ := oz_ok h
        refine rl_callVi hG (roX_ok xx) (As := [.int v1, .int v5]) (kX0_reaches l D a cI cT aS xx u v1 v5 x4  hx4q) gX0_enter_X0_reaches rfl 3 (gX_3 a cI cT u) hcX0 2 rfl (by decide +kernel) rfl rfl (by decide) (Nat.le_of_ble_eq_true rfl) rfl dX0_enter_117 ?_
        refine rl_if_eq hG (tgt := 134) dX0_enter_120 (by decide) (fun c5 => ?_) (fun c5 => ?_)
        · have h := it_t h c5
          exact rl_lvs hG [0, 1, 2, 3] rfl (H134 (fX0_enter_L105 n) (ih) u v1 v2 v5 h)
        · have h := it_f h c5
          refine rl_aload_n hG dX0_enter_123 rfl 0 rfl ?_
          refine rl_get hG iX0_enter_X0 3 (gX_3 a cI cT u) hcX0 2 (Nat.le_of_ble_eq_true rfl) nX0_enter_0 rfl dX0_enter_124 ?_
          refine rl_iload hG dX0_enter_127 3 rfl ?_
          refine rl_dup2 hG dX0_enter_129 rfl rfl ?_
          obtain ⟨x6, ix6, ex6, h⟩ := ald_ok h
          refine rl_iald hG 12 0 (gX_12 a cI cT u) rfl ix6 ex6 dX0_enter_130 ?_
          refine rl_iload_n hG dX0_enter_131 rfl 2 rfl ?_
          refine rl_ior hG dX0_enter_132 ?_
          obtain ⟨u7, iu7, eu7, h⟩ := asr_ok h
          refine rl_iast hG 12 0 (gX_12 a cI cT u) rfl iu7 (σ' := u7) ((sX_12 a cI cT u _).trans (congrArg _ eu7.symm)) dX0_enter_133 ?_
          exact rl_lvs hG [0, 1, 2, 3] rfl (H134 (fX0_enter_L105 n) (ih) u7 v1 v2 v5 h)
  have H102 : ∀ (u : St) (v1 : Int32) (v2 : Int32), fX0_enter_L102 u v1 v2 = some τ → G u 102 [(0, .ref (a 3)), (1, .int v1), (2, .int v2)] [] := by
    intro  u v1 v2 h
    rw [fX0_enter_L102] at h
    refine rl_iconst hG (v := 0) dX0_enter_102 (by decide) ?_
    refine rl_istore hG [(5, .int (0 : Int32)), (0, .ref (a 3)), (1, .int v1), (2, .int v2)] dX0_enter_103 (Nat.le_of_ble_eq_true rfl) rfl rfl ?_
    exact rl_lvs hG [1, 2, 3, 0] rfl (H105 2000 u v1 v2 (0 : Int32) h)
  have H57 : ∀ (n : Nat) (u : St) (v1 : Int32) (v2 : Int32) (v4 : Int32) (v5 : Int32), fX0_enter_L57 n u v1 v2 v4 v5 = some τ → G u 57 [(0, .ref (a 3)), (1, .int v1), (2, .int v2), (4, .int v4), (5, .int v5)] [] := by
    intro n
    induction n with
    | zero =>
      intro u v1 v2 v4 v5 h
      exact absurd h (by rw [fX0_enter_L57]; exact fun q => by cases q)
    | succ n ih =>
      intro u v1 v2 v4 v5 h
      rw [fX0_enter_L57] at h
      refine rl_iload hG dX0_enter_57 4 rfl ?_
      refine rl_bipush hG (v := 6) dX0_enter_59 (by decide) ?_
      refine rl_icmp_ge hG (tgt := 102) dX0_enter_61 (by decide) (fun c8 => ?_) (fun c8 => ?_)
      · have h := it_t h c8
        exact rl_lvs hG [0, 1, 2] rfl (H102 u v1 v2 h)
      · have h := it_f h c8
        refine rl_iload hG dX0_enter_64 4 rfl ?_
        refine rl_iload hG dX0_enter_66 3 rfl ?_
        refine rl_icmp_ne hG (tgt := 85) dX0_enter_68 (by decide) (fun c9 => ?_) (fun c9 => ?_)
        · have h := it_f h c9
          refine rl_aload_n hG dX0_enter_85 rfl 0 rfl ?_
          refine rl_get hG iX0_enter_X0 3 (gX_3 a cI cT u) hcX0 5 (Nat.le_of_ble_eq_true rfl) nX0_enter_1 rfl dX0_enter_86 ?_
          refine rl_iload hG dX0_enter_89 4 rfl ?_
          refine rl_dup2 hG dX0_enter_91 rfl rfl ?_
          obtain ⟨x10, ix10, ex10, h⟩ := ald_ok h
          refine rl_iald hG 15 0 (gX_15 a cI cT u) rfl ix10 ex10 dX0_enter_92 ?_
          refine rl_iload_n hG dX0_enter_93 rfl 2 rfl ?_
          refine rl_ior hG dX0_enter_94 ?_
          obtain ⟨u11, iu11, eu11, h⟩ := asr_ok h
          refine rl_iast hG 15 0 (gX_15 a cI cT u) rfl iu11 (σ' := u11) ((sX_15 a cI cT u _).trans (congrArg _ eu11.symm)) dX0_enter_95 ?_
          exact rl_lvs hG [0, 1, 2, 3, 4] rfl (H96 (fX0_enter_L57 n) (ih) u11 v1 v2 v4 v5 h)
        · have h := it_t h c9
          refine rl_aload_n hG dX0_enter_71 rfl 0 rfl ?_
          refine rl_get hG iX0_enter_X0 3 (gX_3 a cI cT u) hcX0 4 (Nat.le_of_ble_eq_true rfl) nX0_enter_2 rfl dX0_enter_72 ?_
          refine rl_iload hG dX0_enter_75 4 rfl ?_
          refine rl_dup2 hG dX0_enter_77 rfl rfl ?_
          obtain ⟨x12, ix12, ex12, h⟩ := ald_ok h
          refine rl_iald hG 14 0 (gX_14 a cI cT u) rfl ix12 ex12 dX0_enter_78 ?_
          refine rl_iload_n hG dX0_enter_79 rfl 2 rfl ?_
          refine rl_ior hG dX0_enter_80 ?_
          obtain ⟨u13, iu13, eu13, h⟩ := asr_ok h
          refine rl_iast hG 14 0 (gX_14 a cI cT u) rfl iu13 (σ' := u13) ((sX_14 a cI cT u _).trans (congrArg _ eu13.symm)) dX0_enter_81 ?_
          refine rl_goto hG (tgt := 96) dX0_enter_82 (by decide) ?_
          exact rl_lvs hG [0, 1, 2, 3, 4] rfl (H96 (fX0_enter_L57 n) (ih) u13 v1 v2 v4 v5 h)
  have H49 : ∀ (u : St) (v1 : Int32) (v2 : Int32) (v3 : Int32) (v4 : Int32), fX0_enter_L49 u v1 v2 v3 v4 = some τ → G u 49 [(0, .ref (a 3)), (1, .int v1), (2, .int v2), (3, .int v3), (4, .int v4)] [] := by
    intro  u v1 v2 v3 v4 h
    rw [fX0_enter_L49] at h
    refine rl_iload_n hG dX0_enter_49 rfl 3 rfl ?_
    refine rl_iconst hG (v := 2) dX0_enter_50 (by decide) ?_
    refine rl_icmp_ne hG (tgt := 102) dX0_enter_51 (by decide) (fun c14 => ?_) (fun c14 => ?_)
    · have h := it_f h c14
      exact rl_lvs hG [0, 1, 2] rfl (H102 u v1 v2 h)
    · have h := it_t h c14
      refine rl_iconst hG (v := 0) dX0_enter_54 (by decide) ?_
      refine rl_istore hG [(5, .int (0 : Int32)), (0, .ref (a 3)), (1, .int v1), (2, .int v2), (3, .int v3), (4, .int v4)] dX0_enter_55 (Nat.le_of_ble_eq_true rfl) rfl rfl ?_
      exact rl_lvs hG [1, 2, 3, 5, 0] rfl (H57 2000 u v1 v2 v4 (0 : Int32) h)
  have h := h0
  rw [fX0_enter] at h
  show G u 0 [(0, .ref (a 3)), (1, .int p1)] []
  refine rl_iconst hG (v := 1) dX0_enter_0 (by decide) ?_
  refine rl_iload_n hG dX0_enter_1 rfl 1 rfl ?_
  refine rl_ishl hG dX0_enter_2 ?_
  obtain ⟨x15, ex15, h⟩ := bd_ok h
  refine rl_istore_n hG [(2, .int x15), (0, .ref (a 3)), (1, .int p1)] dX0_enter_3 rfl (Nat.le_of_ble_eq_true rfl) ex15 rfl ?_
  refine rl_aload_n hG dX0_enter_4 rfl 1 rfl ?_
  refine rl_iload_n hG dX0_enter_5 rfl 2 rfl ?_
  refine rl_iconst hG (v := 0) dX0_enter_6 (by decide) ?_
  obtain ⟨x16, hx16q, h⟩ := o1_ok h
  refine rl_callVi hG (roX_ok xx) (As := [.int p1, .int (0 : Int32)]) (kX0_cell l D a cI cT aS xx u p1 (0 : Int32) x16  hx16q) gX0_enter_X0_cell rfl 3 (gX_3 a cI cT u) hcX0 2 rfl (by decide +kernel) rfl rfl (by decide) (Nat.le_of_ble_eq_true rfl) rfl dX0_enter_7 ?_
  refine rl_istore_n hG [(3, .int x16), (2, .int x15), (0, .ref (a 3)), (1, .int p1)] dX0_enter_10 rfl (Nat.le_of_ble_eq_true rfl) rfl rfl ?_
  refine rl_aload_n hG dX0_enter_11 rfl 2 rfl ?_
  refine rl_iload_n hG dX0_enter_12 rfl 3 rfl ?_
  refine rl_iconst hG (v := 1) dX0_enter_13 (by decide) ?_
  obtain ⟨x17, hx17q, h⟩ := o1_ok h
  refine rl_callVi hG (roX_ok xx) (As := [.int p1, .int (1 : Int32)]) (kX0_cell l D a cI cT aS xx u p1 (1 : Int32) x17  hx17q) gX0_enter_X0_cell rfl 3 (gX_3 a cI cT u) hcX0 2 rfl (by decide +kernel) rfl rfl (by decide) (Nat.le_of_ble_eq_true rfl) rfl dX0_enter_14 ?_
  refine rl_istore hG [(4, .int x17), (3, .int x16), (2, .int x15), (0, .ref (a 3)), (1, .int p1)] dX0_enter_17 (Nat.le_of_ble_eq_true rfl) rfl rfl ?_
  refine rl_iload_n hG dX0_enter_19 rfl 1 rfl ?_
  refine rl_iconst hG (v := 4) dX0_enter_20 (by decide) ?_
  refine rl_icmp_ne hG (tgt := 38) dX0_enter_21 (by decide) (fun c18 => ?_) (fun c18 => ?_)
  · have h := it_f h c18
    refine rl_aload_n hG dX0_enter_38 rfl 3 rfl ?_
    refine rl_get hG iX0_enter_X0 3 (gX_3 a cI cT u) hcX0 6 (Nat.le_of_ble_eq_true rfl) nX0_enter_3 rfl dX0_enter_39 ?_
    refine rl_iload hG dX0_enter_42 0 rfl ?_
    refine rl_dup2 hG dX0_enter_44 rfl rfl ?_
    obtain ⟨x19, ix19, ex19, h⟩ := ald_ok h
    refine rl_iald hG 16 0 (gX_16 a cI cT u) rfl ix19 ex19 dX0_enter_45 ?_
    refine rl_iload_n hG dX0_enter_46 rfl 2 rfl ?_
    refine rl_ior hG dX0_enter_47 ?_
    obtain ⟨u20, iu20, eu20, h⟩ := asr_ok h
    refine rl_iast hG 16 0 (gX_16 a cI cT u) rfl iu20 (σ' := u20) ((sX_16 a cI cT u _).trans (congrArg _ eu20.symm)) dX0_enter_48 ?_
    exact rl_lvs hG [3, 4, 2, 1, 0] rfl (H49 u20 p1 x15 x16 x17 h)
  · have h := it_t h c18
    refine rl_aload_n hG dX0_enter_24 rfl 3 rfl ?_
    refine rl_get hG iX0_enter_X0 3 (gX_3 a cI cT u) hcX0 3 (Nat.le_of_ble_eq_true rfl) nX0_enter_4 rfl dX0_enter_25 ?_
    refine rl_iload hG dX0_enter_28 0 rfl ?_
    refine rl_dup2 hG dX0_enter_30 rfl rfl ?_
    obtain ⟨x21, ix21, ex21, h⟩ := ald_ok h
    refine rl_iald hG 13 0 (gX_13 a cI cT u) rfl ix21 ex21 dX0_enter_31 ?_
    refine rl_iload_n hG dX0_enter_32 rfl 2 rfl ?_
    refine rl_ior hG dX0_enter_33 ?_
    obtain ⟨u22, iu22, eu22, h⟩ := asr_ok h
    refine rl_iast hG 13 0 (gX_13 a cI cT u) rfl iu22 (σ' := u22) ((sX_13 a cI cT u _).trans (congrArg _ eu22.symm)) dX0_enter_34 ?_
    refine rl_goto hG (tgt := 49) dX0_enter_35 (by decide) ?_
    exact rl_lvs hG [3, 4, 2, 1, 0] rfl (H49 u22 p1 x15 x16 x17 h)
def fX0_enact_L22   : Nat → St → Int32 → Int32 → Option (St)
  | 0 => fun _ _ _ => none
  | n + 1 => fun u v2 v3 => (if v2 ≤ v3 then some u else o1 (fX0_enter u (u 3 1)) (fun u2 => bd (st_wr u2 3 1 ((u2 3 1) + (1 : Int32))) (fun u3 => bd (v3 + (1 : Int32)) (fun x4 => fX0_enact_L22 n u3 v2 x4))))
def fX0_enact (u : St)  (p2 : Int32) : Option (St) := acp u 10 56 (0 : Int32) 11 140 ((u 3 1) * (7 : Int32)) (p2 * (7 : Int32)) (fun u5 => fX0_enact_L22 2000 u5 p2 (0 : Int32))
theorem nX0_enact_0 : Cond.fieldLink RX0 30 "WhoseWork$Law" "size" "I" ∈ wsX0_enact := by decide +kernel
theorem nX0_enact_1 : Cond.fieldLink RX0 9 "WhoseWork$Law" "cells" "[I" ∈ wsX0_enact := by decide +kernel
theorem nX0_enact_2 : Cond.methodLink RX0 34 arraycopyName ∈ wsX0_enact := by decide +kernel
theorem nX0_enact_3 : Cond.native arraycopyName ∈ wsX0_enact := by decide +kernel
theorem nX0_enact_4 : Cond.static arraycopyName ∈ wsX0_enact := by decide +kernel
theorem nX0_enact_5 : Cond.initialized "java/lang/System" ∈ wsX0_enact := by decide +kernel
theorem iX0_enact_X0 : ∀ w ∈ wsX00, w ∈ wsX0_enact := by decide +kernel
set_option maxRecDepth 100000 in
set_option maxHeartbeats 4000000 in
theorem kX0_enact (l : Launch) (D : va_G) (a : Nat → Nat) (cI cT : ClassId) (aS : Nat → Prop) (xx : Rx) (u : St)  (p2 : Int32) (τ : St)  (h0 : fX0_enact u p2 = some τ) : rl_Mv l yX0_enact wsX0_enact ({ frames := 3, cells := 0, slots := 0, locals := 71 } : Room) D (tyX cI cT) (wX a cI cT) (roX xx) aS [.ref (a 3), .ref (a 10), .int p2] u τ := by
  refine rl_meth_v (cc := cX0_enact) (maxL := 4) (own := RX0) (by decide) rfl rfl (Nat.le_of_ble_eq_true rfl) ?_
  intro G hG hret
  have H22 : ∀ (n : Nat) (u : St) (v2 : Int32) (v3 : Int32), fX0_enact_L22 n u v2 v3 = some τ → G u 22 [(0, .ref (a 3)), (2, .int v2), (3, .int v3)] [] := by
    intro n
    induction n with
    | zero =>
      intro u v2 v3 h
      exact absurd h (by rw [fX0_enact_L22]; exact fun q => by cases q)
    | succ n ih =>
      intro u v2 v3 h
      rw [fX0_enact_L22] at h
      refine rl_iload_n hG dX0_enact_22 rfl 2 rfl ?_
      refine rl_iload_n hG dX0_enact_23 rfl 1 rfl ?_
      refine rl_icmp_ge hG (tgt := 51) dX0_enact_24 (by decide) (fun c1 => ?_) (fun c1 => ?_)
      · have h := it_t h c1
        exact rl_retv hret h dX0_enact_51
      · have h := it_f h c1
        refine rl_aload_n hG dX0_enact_27 rfl 0 rfl ?_
        refine rl_aload_n hG dX0_enact_28 rfl 0 rfl ?_
        refine rl_get hG iX0_enact_X0 3 (gX_3 a cI cT u) hcX0 1 (Nat.le_of_ble_eq_true rfl) nX0_enact_0 rfl dX0_enact_29 ?_
        obtain ⟨u2, hu2q, h⟩ := o1_ok h
        refine rl_callVv hG (roX_ok xx) (As := [.int (u 3 1)]) (kX0_enter l D a cI cT aS xx u (u 3 1) u2  hu2q) gX0_enact_X0_enter rfl 3 (gX_3 a cI cT u) hcX0 1 rfl (by decide +kernel) rfl rfl (by decide) (Nat.le_of_ble_eq_true rfl) rfl dX0_enact_32 ?_
        refine rl_aload_n hG dX0_enact_35 rfl 0 rfl ?_
        refine rl_dup hG dX0_enact_36 rfl ?_
        refine rl_get hG iX0_enact_X0 3 (gX_3 a cI cT u2) hcX0 1 (Nat.le_of_ble_eq_true rfl) nX0_enact_0 rfl dX0_enact_37 ?_
        refine rl_iconst hG (v := 1) dX0_enact_40 (by decide) ?_
        refine rl_iadd hG dX0_enact_41 ?_
        obtain ⟨u3, eu3, h⟩ := bd_ok h
        refine rl_put hG iX0_enact_X0 tyX0 tyX0_ok nmX0 3 (gX_3 a cI cT u2) hcX0 1 (Nat.le_of_ble_eq_true rfl) nX0_enact_0 rfl rfl (Nat.le_of_ble_eq_true rfl) (σ' := u3) ((sX_3_1 a cI cT u2 _).trans (congrArg _ eu3.symm)) dX0_enact_42 ?_
        obtain ⟨x4, ex4, h⟩ := bd_ok h
        refine rl_iinc hG [(3, .int x4), (0, .ref (a 3)), (2, .int v2)] dX0_enact_45 2 rfl (by rw [ex4]; rfl) (Nat.le_of_ble_eq_true rfl) rfl ?_
        refine rl_goto hG (tgt := 22) dX0_enact_48 (by decide) ?_
        exact rl_lvs hG [1, 2, 0] rfl (ih u3 v2 x4 h)
  have h := h0
  rw [fX0_enact] at h
  show G u 0 [(0, .ref (a 3)), (1, .ref (a 10)), (2, .int p2)] []
  refine rl_aload_n hG dX0_enact_0 rfl 1 rfl ?_
  refine rl_iconst hG (v := 0) dX0_enact_1 (by decide) ?_
  refine rl_aload_n hG dX0_enact_2 rfl 0 rfl ?_
  refine rl_get hG iX0_enact_X0 3 (gX_3 a cI cT u) hcX0 0 (Nat.le_of_ble_eq_true rfl) nX0_enact_1 rfl dX0_enact_3 ?_
  refine rl_aload_n hG dX0_enact_6 rfl 0 rfl ?_
  refine rl_get hG iX0_enact_X0 3 (gX_3 a cI cT u) hcX0 1 (Nat.le_of_ble_eq_true rfl) nX0_enact_0 rfl dX0_enact_7 ?_
  refine rl_bipush hG (v := 7) dX0_enact_10 (by decide) ?_
  refine rl_imul hG dX0_enact_12 ?_
  refine rl_iload_n hG dX0_enact_13 rfl 2 rfl ?_
  refine rl_bipush hG (v := 7) dX0_enact_14 (by decide) ?_
  refine rl_imul hG dX0_enact_16 ?_
  obtain ⟨u5, i1u5, i2u5, i3u5, i4u5, i5u5, eu5, h⟩ := acp_ok h
  refine rl_acopy hG nX0_enact_2 nX0_enact_3 nX0_enact_4 nX0_enact_5 10 11 0 0 (gX_10 a cI cT u) (gX_11 a cI cT u) rfl rfl i1u5 i2u5 i3u5 i4u5 i5u5 (by decide) (by decide) (σ' := u5) ((sX_11 a cI cT u _).trans (congrArg _ eu5.symm)) dX0_enact_17 ?_
  refine rl_iconst hG (v := 0) dX0_enact_20 (by decide) ?_
  refine rl_istore_n hG [(3, .int (0 : Int32)), (0, .ref (a 3)), (1, .ref (a 10)), (2, .int p2)] dX0_enact_21 rfl (Nat.le_of_ble_eq_true rfl) rfl rfl ?_
  exact rl_lvs hG [1, 3, 0] rfl (H22 2000 u5 p2 (0 : Int32) h)
def fX0_closeGap_L8 (aq : Nat) (an : Nat)  : Nat → St → Int32 → Int32 → Option (St)
  | 0 => fun _ _ _ => none
  | n + 1 => fun u v2 v3 => (if (Int32.ofNat an) ≤ v3 then some u else ald u aq an v3 (fun x2 => ald u aq an v3 (fun x3 => asr u aq an v3 ((x2 &&& v2) ||| ((ush x3 (1 : Int32)) &&& (v2 ^^^ (-1 : Int32)))) (fun u4 => bd (v3 + (1 : Int32)) (fun x5 => fX0_closeGap_L8 aq an n u4 v2 x5)))))
def fX0_closeGap (u : St) (aq : Nat) (an : Nat) (p1 : Int32) : Option (St) := bd (((1 : Int32) <<< (p1 &&& 31)) - (1 : Int32)) (fun x6 => fX0_closeGap_L8 aq an 2000 u x6 (0 : Int32))
set_option maxRecDepth 100000 in
set_option maxHeartbeats 4000000 in
theorem kX0_closeGap (l : Launch) (D : va_G) (a : Nat → Nat) (cI cT : ClassId) (aS : Nat → Prop) (xx : Rx) (u : St) (aq : Nat) (an : Nat) (p1 : Int32) (τ : St) (haq : ∀ v : St, (wX a cI cT v)[aq]? = some (a aq, .inl (cI, an, .inl (v aq)))) (haqs : ∀ (v : St) (f : Nat → Int32), (wX a cI cT v).set aq (a aq, .inl (cI, an, .inl f)) = wX a cI cT (st_up v aq f)) (han : an < 2 ^ 31)  (h0 : fX0_closeGap u aq an p1 = some τ) : rl_Mv l yX0_closeGap wsX0_closeGap ({ frames := 0, cells := 0, slots := 0, locals := 0 } : Room) D (tyX cI cT) (wX a cI cT) (roX xx) aS [.ref (a aq), .int p1] u τ := by
  refine rl_meth_v (cc := cX0_closeGap) (maxL := 4) (own := RX0) (by decide) rfl rfl (Nat.le_of_ble_eq_true rfl) ?_
  intro G hG hret
  have H8 : ∀ (n : Nat) (u : St) (v2 : Int32) (v3 : Int32), fX0_closeGap_L8 aq an n u v2 v3 = some τ → G u 8 [(0, .ref (a aq)), (2, .int v2), (3, .int v3)] [] := by
    intro n
    induction n with
    | zero =>
      intro u v2 v3 h
      exact absurd h (by rw [fX0_closeGap_L8]; exact fun q => by cases q)
    | succ n ih =>
      intro u v2 v3 h
      rw [fX0_closeGap_L8] at h
      refine rl_iload_n hG dX0_closeGap_8 rfl 2 rfl ?_
      refine rl_aload_n hG dX0_closeGap_9 rfl 0 rfl ?_
      refine rl_alen hG aq 0 (haq u) rfl rfl dX0_closeGap_10 ?_
      refine rl_icmp_ge hG (tgt := 38) dX0_closeGap_11 (by decide) (fun c1 => ?_) (fun c1 => ?_)
      · have h := it_t h c1
        exact rl_retv hret h dX0_closeGap_38
      · have h := it_f h c1
        refine rl_aload_n hG dX0_closeGap_14 rfl 0 rfl ?_
        refine rl_iload_n hG dX0_closeGap_15 rfl 2 rfl ?_
        refine rl_aload_n hG dX0_closeGap_16 rfl 0 rfl ?_
        refine rl_iload_n hG dX0_closeGap_17 rfl 2 rfl ?_
        obtain ⟨x2, ix2, ex2, h⟩ := ald_ok h
        refine rl_iald hG aq 0 (haq u) rfl ix2 ex2 dX0_closeGap_18 ?_
        refine rl_iload_n hG dX0_closeGap_19 rfl 1 rfl ?_
        refine rl_iand hG dX0_closeGap_20 ?_
        refine rl_aload_n hG dX0_closeGap_21 rfl 0 rfl ?_
        refine rl_iload_n hG dX0_closeGap_22 rfl 2 rfl ?_
        obtain ⟨x3, ix3, ex3, h⟩ := ald_ok h
        refine rl_iald hG aq 0 (haq u) rfl ix3 ex3 dX0_closeGap_23 ?_
        refine rl_iconst hG (v := 1) dX0_closeGap_24 (by decide) ?_
        refine rl_iushr hG dX0_closeGap_25 ?_
        refine rl_iload_n hG dX0_closeGap_26 rfl 1 rfl ?_
        refine rl_iconst hG (v := -1) dX0_closeGap_27 (by decide) ?_
        refine rl_ixor hG dX0_closeGap_28 ?_
        refine rl_iand hG dX0_closeGap_29 ?_
        refine rl_ior hG dX0_closeGap_30 ?_
        obtain ⟨u4, iu4, eu4, h⟩ := asr_ok h
        refine rl_iast hG aq 0 (haq u) rfl iu4 (σ' := u4) ((haqs u _).trans (congrArg _ eu4.symm)) dX0_closeGap_31 ?_
        obtain ⟨x5, ex5, h⟩ := bd_ok h
        refine rl_iinc hG [(3, .int x5), (0, .ref (a aq)), (2, .int v2)] dX0_closeGap_32 2 rfl (by rw [ex5]; rfl) (Nat.le_of_ble_eq_true rfl) rfl ?_
        refine rl_goto hG (tgt := 8) dX0_closeGap_35 (by decide) ?_
        exact rl_lvs hG [1, 2, 0] rfl (ih u4 v2 x5 h)
  have h := h0
  rw [fX0_closeGap] at h
  show G u 0 [(0, .ref (a aq)), (1, .int p1)] []
  refine rl_iconst hG (v := 1) dX0_closeGap_0 (by decide) ?_
  refine rl_iload_n hG dX0_closeGap_1 rfl 1 rfl ?_
  refine rl_ishl hG dX0_closeGap_2 ?_
  refine rl_iconst hG (v := 1) dX0_closeGap_3 (by decide) ?_
  refine rl_isub hG dX0_closeGap_4 ?_
  obtain ⟨x6, ex6, h⟩ := bd_ok h
  refine rl_istore_n hG [(2, .int x6), (0, .ref (a aq)), (1, .int p1)] dX0_closeGap_5 rfl (Nat.le_of_ble_eq_true rfl) ex6 rfl ?_
  refine rl_iconst hG (v := 0) dX0_closeGap_6 (by decide) ?_
  refine rl_istore_n hG [(3, .int (0 : Int32)), (2, .int x6), (0, .ref (a aq)), (1, .int p1)] dX0_closeGap_7 rfl (Nat.le_of_ble_eq_true rfl) rfl rfl ?_
  exact rl_lvs hG [2, 1, 0] rfl (H8 2000 u x6 (0 : Int32) h)
def fX0_strikeOut (u : St)  (p1 : Int32) : Option (St) := bd (st_wr u 3 1 ((u 3 1) - (1 : Int32))) (fun u1 => acp u1 11 140 ((p1 + (1 : Int32)) * (7 : Int32)) 11 140 (p1 * (7 : Int32)) (((u1 3 1) - p1) * (7 : Int32)) (fun u2 => o1 (fX0_closeGap u2 12 240 p1) (fun u3 => o1 (fX0_closeGap u3 13 6 p1) (fun u4 => o1 (fX0_closeGap u4 14 6 p1) (fun u5 => o1 (fX0_closeGap u5 15 6 p1) (fun u6 => o1 (fX0_closeGap u6 16 6 p1) (fun u7 => some u7)))))))
theorem nX0_strikeOut_0 : Cond.fieldLink RX0 30 "WhoseWork$Law" "size" "I" ∈ wsX0_strikeOut := by decide +kernel
theorem nX0_strikeOut_1 : Cond.fieldLink RX0 9 "WhoseWork$Law" "cells" "[I" ∈ wsX0_strikeOut := by decide +kernel
theorem nX0_strikeOut_2 : Cond.methodLink RX0 34 arraycopyName ∈ wsX0_strikeOut := by decide +kernel
theorem nX0_strikeOut_3 : Cond.native arraycopyName ∈ wsX0_strikeOut := by decide +kernel
theorem nX0_strikeOut_4 : Cond.static arraycopyName ∈ wsX0_strikeOut := by decide +kernel
theorem nX0_strikeOut_5 : Cond.initialized "java/lang/System" ∈ wsX0_strikeOut := by decide +kernel
theorem nX0_strikeOut_6 : Cond.fieldLink RX0 15 "WhoseWork$Law" "within" "[I" ∈ wsX0_strikeOut := by decide +kernel
theorem nX0_strikeOut_7 : Cond.fieldLink RX0 18 "WhoseWork$Law" "grants" "[I" ∈ wsX0_strikeOut := by decide +kernel
theorem nX0_strikeOut_8 : Cond.fieldLink RX0 21 "WhoseWork$Law" "onlys" "[I" ∈ wsX0_strikeOut := by decide +kernel
theorem nX0_strikeOut_9 : Cond.fieldLink RX0 24 "WhoseWork$Law" "foreignOnlys" "[I" ∈ wsX0_strikeOut := by decide +kernel
theorem nX0_strikeOut_10 : Cond.fieldLink RX0 27 "WhoseWork$Law" "plain" "[I" ∈ wsX0_strikeOut := by decide +kernel
theorem iX0_strikeOut_X0 : ∀ w ∈ wsX00, w ∈ wsX0_strikeOut := by decide +kernel
set_option maxRecDepth 100000 in
set_option maxHeartbeats 4000000 in
theorem kX0_strikeOut (l : Launch) (D : va_G) (a : Nat → Nat) (cI cT : ClassId) (aS : Nat → Prop) (xx : Rx) (u : St)  (p1 : Int32) (τ : St)  (h0 : fX0_strikeOut u p1 = some τ) : rl_Mv l yX0_strikeOut wsX0_strikeOut ({ frames := 1, cells := 0, slots := 0, locals := 30 } : Room) D (tyX cI cT) (wX a cI cT) (roX xx) aS [.ref (a 3), .int p1] u τ := by
  refine rl_meth_v (cc := cX0_strikeOut) (maxL := 2) (own := RX0) (by decide) rfl rfl (Nat.le_of_ble_eq_true rfl) ?_
  intro G hG hret
  have h := h0
  rw [fX0_strikeOut] at h
  show G u 0 [(0, .ref (a 3)), (1, .int p1)] []
  refine rl_aload_n hG dX0_strikeOut_0 rfl 0 rfl ?_
  refine rl_dup hG dX0_strikeOut_1 rfl ?_
  refine rl_get hG iX0_strikeOut_X0 3 (gX_3 a cI cT u) hcX0 1 (Nat.le_of_ble_eq_true rfl) nX0_strikeOut_0 rfl dX0_strikeOut_2 ?_
  refine rl_iconst hG (v := 1) dX0_strikeOut_5 (by decide) ?_
  refine rl_isub hG dX0_strikeOut_6 ?_
  obtain ⟨u1, eu1, h⟩ := bd_ok h
  refine rl_put hG iX0_strikeOut_X0 tyX0 tyX0_ok nmX0 3 (gX_3 a cI cT u) hcX0 1 (Nat.le_of_ble_eq_true rfl) nX0_strikeOut_0 rfl rfl (Nat.le_of_ble_eq_true rfl) (σ' := u1) ((sX_3_1 a cI cT u _).trans (congrArg _ eu1.symm)) dX0_strikeOut_7 ?_
  refine rl_aload_n hG dX0_strikeOut_10 rfl 0 rfl ?_
  refine rl_get hG iX0_strikeOut_X0 3 (gX_3 a cI cT u1) hcX0 0 (Nat.le_of_ble_eq_true rfl) nX0_strikeOut_1 rfl dX0_strikeOut_11 ?_
  refine rl_iload_n hG dX0_strikeOut_14 rfl 1 rfl ?_
  refine rl_iconst hG (v := 1) dX0_strikeOut_15 (by decide) ?_
  refine rl_iadd hG dX0_strikeOut_16 ?_
  refine rl_bipush hG (v := 7) dX0_strikeOut_17 (by decide) ?_
  refine rl_imul hG dX0_strikeOut_19 ?_
  refine rl_aload_n hG dX0_strikeOut_20 rfl 0 rfl ?_
  refine rl_get hG iX0_strikeOut_X0 3 (gX_3 a cI cT u1) hcX0 0 (Nat.le_of_ble_eq_true rfl) nX0_strikeOut_1 rfl dX0_strikeOut_21 ?_
  refine rl_iload_n hG dX0_strikeOut_24 rfl 1 rfl ?_
  refine rl_bipush hG (v := 7) dX0_strikeOut_25 (by decide) ?_
  refine rl_imul hG dX0_strikeOut_27 ?_
  refine rl_aload_n hG dX0_strikeOut_28 rfl 0 rfl ?_
  refine rl_get hG iX0_strikeOut_X0 3 (gX_3 a cI cT u1) hcX0 1 (Nat.le_of_ble_eq_true rfl) nX0_strikeOut_0 rfl dX0_strikeOut_29 ?_
  refine rl_iload_n hG dX0_strikeOut_32 rfl 1 rfl ?_
  refine rl_isub hG dX0_strikeOut_33 ?_
  refine rl_bipush hG (v := 7) dX0_strikeOut_34 (by decide) ?_
  refine rl_imul hG dX0_strikeOut_36 ?_
  obtain ⟨u2, i1u2, i2u2, i3u2, i4u2, i5u2, eu2, h⟩ := acp_ok h
  refine rl_acopy hG nX0_strikeOut_2 nX0_strikeOut_3 nX0_strikeOut_4 nX0_strikeOut_5 11 11 0 0 (gX_11 a cI cT u1) (gX_11 a cI cT u1) rfl rfl i1u2 i2u2 i3u2 i4u2 i5u2 (by decide) (by decide) (σ' := u2) ((sX_11 a cI cT u1 _).trans (congrArg _ eu2.symm)) dX0_strikeOut_37 ?_
  refine rl_aload_n hG dX0_strikeOut_40 rfl 0 rfl ?_
  refine rl_get hG iX0_strikeOut_X0 3 (gX_3 a cI cT u2) hcX0 2 (Nat.le_of_ble_eq_true rfl) nX0_strikeOut_6 rfl dX0_strikeOut_41 ?_
  refine rl_iload_n hG dX0_strikeOut_44 rfl 1 rfl ?_
  obtain ⟨u3, hu3q, h⟩ := o1_ok h
  refine rl_callSv hG (roX_ok xx) (As := [.ref (a 12), .int p1]) (kX0_closeGap l D a cI cT aS xx u2 12 240 p1 u3 (fun v => gX_12 a cI cT v) (fun v => sX_12 a cI cT v) (Nat.le_of_ble_eq_true rfl) hu3q) gX0_strikeOut_X0_closeGap rfl 2 rfl (by decide +kernel) rfl rfl (by decide) (Nat.le_of_ble_eq_true rfl) rfl dX0_strikeOut_45 ?_
  refine rl_aload_n hG dX0_strikeOut_48 rfl 0 rfl ?_
  refine rl_get hG iX0_strikeOut_X0 3 (gX_3 a cI cT u3) hcX0 3 (Nat.le_of_ble_eq_true rfl) nX0_strikeOut_7 rfl dX0_strikeOut_49 ?_
  refine rl_iload_n hG dX0_strikeOut_52 rfl 1 rfl ?_
  obtain ⟨u4, hu4q, h⟩ := o1_ok h
  refine rl_callSv hG (roX_ok xx) (As := [.ref (a 13), .int p1]) (kX0_closeGap l D a cI cT aS xx u3 13 6 p1 u4 (fun v => gX_13 a cI cT v) (fun v => sX_13 a cI cT v) (Nat.le_of_ble_eq_true rfl) hu4q) gX0_strikeOut_X0_closeGap rfl 2 rfl (by decide +kernel) rfl rfl (by decide) (Nat.le_of_ble_eq_true rfl) rfl dX0_strikeOut_53 ?_
  refine rl_aload_n hG dX0_strikeOut_56 rfl 0 rfl ?_
  refine rl_get hG iX0_strikeOut_X0 3 (gX_3 a cI cT u4) hcX0 4 (Nat.le_of_ble_eq_true rfl) nX0_strikeOut_8 rfl dX0_strikeOut_57 ?_
  refine rl_iload_n hG dX0_strikeOut_60 rfl 1 rfl ?_
  obtain ⟨u5, hu5q, h⟩ := o1_ok h
  refine rl_callSv hG (roX_ok xx) (As := [.ref (a 14), .int p1]) (kX0_closeGap l D a cI cT aS xx u4 14 6 p1 u5 (fun v => gX_14 a cI cT v) (fun v => sX_14 a cI cT v) (Nat.le_of_ble_eq_true rfl) hu5q) gX0_strikeOut_X0_closeGap rfl 2 rfl (by decide +kernel) rfl rfl (by decide) (Nat.le_of_ble_eq_true rfl) rfl dX0_strikeOut_61 ?_
  refine rl_aload_n hG dX0_strikeOut_64 rfl 0 rfl ?_
  refine rl_get hG iX0_strikeOut_X0 3 (gX_3 a cI cT u5) hcX0 5 (Nat.le_of_ble_eq_true rfl) nX0_strikeOut_9 rfl dX0_strikeOut_65 ?_
  refine rl_iload_n hG dX0_strikeOut_68 rfl 1 rfl ?_
  obtain ⟨u6, hu6q, h⟩ := o1_ok h
  refine rl_callSv hG (roX_ok xx) (As := [.ref (a 15), .int p1]) (kX0_closeGap l D a cI cT aS xx u5 15 6 p1 u6 (fun v => gX_15 a cI cT v) (fun v => sX_15 a cI cT v) (Nat.le_of_ble_eq_true rfl) hu6q) gX0_strikeOut_X0_closeGap rfl 2 rfl (by decide +kernel) rfl rfl (by decide) (Nat.le_of_ble_eq_true rfl) rfl dX0_strikeOut_69 ?_
  refine rl_aload_n hG dX0_strikeOut_72 rfl 0 rfl ?_
  refine rl_get hG iX0_strikeOut_X0 3 (gX_3 a cI cT u6) hcX0 6 (Nat.le_of_ble_eq_true rfl) nX0_strikeOut_10 rfl dX0_strikeOut_73 ?_
  refine rl_iload_n hG dX0_strikeOut_76 rfl 1 rfl ?_
  obtain ⟨u7, hu7q, h⟩ := o1_ok h
  refine rl_callSv hG (roX_ok xx) (As := [.ref (a 16), .int p1]) (kX0_closeGap l D a cI cT aS xx u6 16 6 p1 u7 (fun v => gX_16 a cI cT v) (fun v => sX_16 a cI cT v) (Nat.le_of_ble_eq_true rfl) hu7q) gX0_strikeOut_X0_closeGap rfl 2 rfl (by decide +kernel) rfl rfl (by decide) (Nat.le_of_ble_eq_true rfl) rfl dX0_strikeOut_77 ?_
  exact rl_retv hret h dX0_strikeOut_80
def fX0_boundsAroundWork (u : St)  (p1 : Int32) : Option (Int32) := ald u 12 240 p1 (fun x1 => some x1)
theorem nX0_boundsAroundWork_0 : Cond.fieldLink RX0 15 "WhoseWork$Law" "within" "[I" ∈ wsX0_boundsAroundWork := by decide +kernel
theorem iX0_boundsAroundWork_X0 : ∀ w ∈ wsX00, w ∈ wsX0_boundsAroundWork := by decide +kernel
set_option maxRecDepth 100000 in
set_option maxHeartbeats 4000000 in
theorem kX0_boundsAroundWork (l : Launch) (D : va_G) (a : Nat → Nat) (cI cT : ClassId) (aS : Nat → Prop) (xx : Rx) (u : St)  (p1 : Int32) (r : Int32)  (h0 : fX0_boundsAroundWork u p1 = some r) : rl_Mi l yX0_boundsAroundWork wsX0_boundsAroundWork ({ frames := 0, cells := 0, slots := 0, locals := 0 } : Room) D (tyX cI cT) (wX a cI cT) (roX xx) aS [.ref (a 3), .int p1] u r u := by
  refine rl_meth_i (cc := cX0_boundsAroundWork) (maxL := 2) (own := RX0) (ty := .int) (by decide) rfl rfl (Nat.le_of_ble_eq_true rfl) ?_
  intro G hG hret
  have h := h0
  rw [fX0_boundsAroundWork] at h
  show G u 0 [(0, .ref (a 3)), (1, .int p1)] []
  refine rl_aload_n hG dX0_boundsAroundWork_0 rfl 0 rfl ?_
  refine rl_get hG iX0_boundsAroundWork_X0 3 (gX_3 a cI cT u) hcX0 2 (Nat.le_of_ble_eq_true rfl) nX0_boundsAroundWork_0 rfl dX0_boundsAroundWork_1 ?_
  refine rl_iload_n hG dX0_boundsAroundWork_4 rfl 1 rfl ?_
  obtain ⟨x1, ix1, ex1, h⟩ := ald_ok h
  refine rl_iald hG 12 0 (gX_12 a cI cT u) rfl ix1 ex1 dX0_boundsAroundWork_5 ?_
  exact rl_ret1 hret h rfl dX0_boundsAroundWork_6
def fX0_deciding_L66 (u : St)  (v1 : Int32) (v4 : Int32) : Option (Int32) := ald u 16 6 v1 (fun x1 => bd (v4 &&& x1) (fun x2 => (if x2 = (0 : Int32) then some (-1 : Int32) else o1 (fJ6_numberOfLeadingZeros_0f7a4 x2) (fun x4 => some ((31 : Int32) - x4)))))
def fX0_deciding (u : St)  (p1 : Int32) (p2 : Int32) (p3 : Int32) : Option (Int32) := ald u 12 240 p2 (fun x5 => bd (x5 &&& p3) (fun x6 => ald u 13 6 p1 (fun x7 => bd (x6 &&& x7) (fun x8 => (if x8 = (0 : Int32) then ald u 15 6 p1 (fun x10 => bd (x6 &&& x10) (fun x11 => (if x11 = (0 : Int32) then fX0_deciding_L66 u p1 x6 else ald u 14 6 p1 (fun x13 => (if (x6 &&& x13) = (0 : Int32) then o1 (fJ6_numberOfTrailingZeros_0f7a4 x11) (fun x15 => some x15) else fX0_deciding_L66 u p1 x6))))) else o1 (fJ6_numberOfTrailingZeros_0f7a4 x8) (fun x16 => some x16))))))
theorem nX0_deciding_0 : Cond.fieldLink RX0 27 "WhoseWork$Law" "plain" "[I" ∈ wsX0_deciding := by decide +kernel
theorem nX0_deciding_1 : Cond.fieldLink RX0 15 "WhoseWork$Law" "within" "[I" ∈ wsX0_deciding := by decide +kernel
theorem nX0_deciding_2 : Cond.fieldLink RX0 18 "WhoseWork$Law" "grants" "[I" ∈ wsX0_deciding := by decide +kernel
theorem nX0_deciding_3 : Cond.fieldLink RX0 24 "WhoseWork$Law" "foreignOnlys" "[I" ∈ wsX0_deciding := by decide +kernel
theorem nX0_deciding_4 : Cond.fieldLink RX0 21 "WhoseWork$Law" "onlys" "[I" ∈ wsX0_deciding := by decide +kernel
theorem iX0_deciding_X0 : ∀ w ∈ wsX00, w ∈ wsX0_deciding := by decide +kernel
set_option maxRecDepth 100000 in
set_option maxHeartbeats 4000000 in
theorem kX0_deciding (l : Launch) (D : va_G) (a : Nat → Nat) (cI cT : ClassId) (aS : Nat → Prop) (xx : Rx) (u : St)  (p1 : Int32) (p2 : Int32) (p3 : Int32) (r : Int32)  (h0 : fX0_deciding u p1 p2 p3 = some r) : rl_Mi l yX0_deciding wsX0_deciding ({ frames := 1, cells := 0, slots := 0, locals := 21 } : Room) D (tyX cI cT) (wX a cI cT) (roX xx) aS [.ref (a 3), .int p1, .int p2, .int p3] u r u := by
  refine rl_meth_i (cc := cX0_deciding) (maxL := 8) (own := RX0) (ty := .int) (by decide) rfl rfl (Nat.le_of_ble_eq_true rfl) ?_
  intro G hG hret
  have H66 : ∀ (v1 : Int32) (v4 : Int32), fX0_deciding_L66 u v1 v4 = some r → G u 66 [(0, .ref (a 3)), (1, .int v1), (4, .int v4)] [] := by
    intro  v1 v4 h
    rw [fX0_deciding_L66] at h
    refine rl_iload hG dX0_deciding_66 2 rfl ?_
    refine rl_aload_n hG dX0_deciding_68 rfl 0 rfl ?_
    refine rl_get hG iX0_deciding_X0 3 (gX_3 a cI cT u) hcX0 6 (Nat.le_of_ble_eq_true rfl) nX0_deciding_0 rfl dX0_deciding_69 ?_
    refine rl_iload_n hG dX0_deciding_72 rfl 1 rfl ?_
    obtain ⟨x1, ix1, ex1, h⟩ := ald_ok h
    refine rl_iald hG 16 0 (gX_16 a cI cT u) rfl ix1 ex1 dX0_deciding_73 ?_
    refine rl_iand hG dX0_deciding_74 ?_
    obtain ⟨x2, ex2, h⟩ := bd_ok h
    refine rl_istore hG [(7, .int x2), (0, .ref (a 3)), (1, .int v1), (4, .int v4)] dX0_deciding_75 (Nat.le_of_ble_eq_true rfl) ex2 rfl ?_
    refine rl_iload hG dX0_deciding_77 0 rfl ?_
    refine rl_if_ne hG (tgt := 86) dX0_deciding_79 (by decide) (fun c3 => ?_) (fun c3 => ?_)
    · have h := it_f h c3
      refine rl_bipush hG (v := 31) dX0_deciding_86 (by decide) ?_
      refine rl_iload hG dX0_deciding_88 0 rfl ?_
      obtain ⟨x4, hx4q, h⟩ := o1_ok h
      refine rl_callZi hG (As := [.int x2]) (kJ6_numberOfLeadingZeros_0f7a4 l D u x2 x4 hx4q) gX0_deciding_J6_numberOfLeadingZeros_0f7a4 rfl 1 rfl (by decide +kernel) rfl rfl (by decide) (Nat.le_of_ble_eq_true rfl) rfl dX0_deciding_90 ?_
      refine rl_isub hG dX0_deciding_93 ?_
      exact rl_ret1 hret h rfl dX0_deciding_94
    · have h := it_t h c3
      refine rl_iconst hG (v := -1) dX0_deciding_82 (by decide) ?_
      refine rl_goto hG (tgt := 94) dX0_deciding_83 (by decide) ?_
      exact rl_ret1 hret h rfl dX0_deciding_94
  have h := h0
  rw [fX0_deciding] at h
  show G u 0 [(0, .ref (a 3)), (1, .int p1), (2, .int p2), (3, .int p3)] []
  refine rl_aload_n hG dX0_deciding_0 rfl 0 rfl ?_
  refine rl_get hG iX0_deciding_X0 3 (gX_3 a cI cT u) hcX0 2 (Nat.le_of_ble_eq_true rfl) nX0_deciding_1 rfl dX0_deciding_1 ?_
  refine rl_iload_n hG dX0_deciding_4 rfl 2 rfl ?_
  obtain ⟨x5, ix5, ex5, h⟩ := ald_ok h
  refine rl_iald hG 12 0 (gX_12 a cI cT u) rfl ix5 ex5 dX0_deciding_5 ?_
  refine rl_iload_n hG dX0_deciding_6 rfl 3 rfl ?_
  refine rl_iand hG dX0_deciding_7 ?_
  obtain ⟨x6, ex6, h⟩ := bd_ok h
  refine rl_istore hG [(4, .int x6), (0, .ref (a 3)), (1, .int p1), (2, .int p2), (3, .int p3)] dX0_deciding_8 (Nat.le_of_ble_eq_true rfl) ex6 rfl ?_
  refine rl_iload hG dX0_deciding_10 0 rfl ?_
  refine rl_aload_n hG dX0_deciding_12 rfl 1 rfl ?_
  refine rl_get hG iX0_deciding_X0 3 (gX_3 a cI cT u) hcX0 3 (Nat.le_of_ble_eq_true rfl) nX0_deciding_2 rfl dX0_deciding_13 ?_
  refine rl_iload_n hG dX0_deciding_16 rfl 2 rfl ?_
  obtain ⟨x7, ix7, ex7, h⟩ := ald_ok h
  refine rl_iald hG 13 0 (gX_13 a cI cT u) rfl ix7 ex7 dX0_deciding_17 ?_
  refine rl_iand hG dX0_deciding_18 ?_
  obtain ⟨x8, ex8, h⟩ := bd_ok h
  refine rl_istore hG [(5, .int x8), (4, .int x6), (0, .ref (a 3)), (1, .int p1), (2, .int p2), (3, .int p3)] dX0_deciding_19 (Nat.le_of_ble_eq_true rfl) ex8 rfl ?_
  refine rl_iload hG dX0_deciding_21 0 rfl ?_
  refine rl_if_eq hG (tgt := 32) dX0_deciding_23 (by decide) (fun c9 => ?_) (fun c9 => ?_)
  · have h := it_t h c9
    refine rl_iload hG dX0_deciding_32 1 rfl ?_
    refine rl_aload_n hG dX0_deciding_34 rfl 2 rfl ?_
    refine rl_get hG iX0_deciding_X0 3 (gX_3 a cI cT u) hcX0 5 (Nat.le_of_ble_eq_true rfl) nX0_deciding_3 rfl dX0_deciding_35 ?_
    refine rl_iload_n hG dX0_deciding_38 rfl 3 rfl ?_
    obtain ⟨x10, ix10, ex10, h⟩ := ald_ok h
    refine rl_iald hG 15 0 (gX_15 a cI cT u) rfl ix10 ex10 dX0_deciding_39 ?_
    refine rl_iand hG dX0_deciding_40 ?_
    obtain ⟨x11, ex11, h⟩ := bd_ok h
    refine rl_istore hG [(6, .int x11), (5, .int x8), (4, .int x6), (0, .ref (a 3)), (1, .int p1), (2, .int p2), (3, .int p3)] dX0_deciding_41 (Nat.le_of_ble_eq_true rfl) ex11 rfl ?_
    refine rl_iload hG dX0_deciding_43 0 rfl ?_
    refine rl_if_eq hG (tgt := 66) dX0_deciding_45 (by decide) (fun c12 => ?_) (fun c12 => ?_)
    · have h := it_t h c12
      exact rl_lvs hG [3, 4, 2] rfl (H66 p1 x6 h)
    · have h := it_f h c12
      refine rl_iload hG dX0_deciding_48 2 rfl ?_
      refine rl_aload_n hG dX0_deciding_50 rfl 3 rfl ?_
      refine rl_get hG iX0_deciding_X0 3 (gX_3 a cI cT u) hcX0 4 (Nat.le_of_ble_eq_true rfl) nX0_deciding_4 rfl dX0_deciding_51 ?_
      refine rl_iload_n hG dX0_deciding_54 rfl 4 rfl ?_
      obtain ⟨x13, ix13, ex13, h⟩ := ald_ok h
      refine rl_iald hG 14 0 (gX_14 a cI cT u) rfl ix13 ex13 dX0_deciding_55 ?_
      refine rl_iand hG dX0_deciding_56 ?_
      refine rl_if_ne hG (tgt := 66) dX0_deciding_57 (by decide) (fun c14 => ?_) (fun c14 => ?_)
      · have h := it_f h c14
        exact rl_lvs hG [3, 4, 2] rfl (H66 p1 x6 h)
      · have h := it_t h c14
        refine rl_iload hG dX0_deciding_60 0 rfl ?_
        obtain ⟨x15, hx15q, h⟩ := o1_ok h
        refine rl_callZi hG (As := [.int x11]) (kJ6_numberOfTrailingZeros_0f7a4 l D u x11 x15 hx15q) gX0_deciding_J6_numberOfTrailingZeros_0f7a4 rfl 1 rfl (by decide +kernel) rfl rfl (by decide) (Nat.le_of_ble_eq_true rfl) rfl dX0_deciding_62 ?_
        exact rl_ret1 hret h rfl dX0_deciding_65
  · have h := it_f h c9
    refine rl_iload hG dX0_deciding_26 0 rfl ?_
    obtain ⟨x16, hx16q, h⟩ := o1_ok h
    refine rl_callZi hG (As := [.int x8]) (kJ6_numberOfTrailingZeros_0f7a4 l D u x8 x16 hx16q) gX0_deciding_J6_numberOfTrailingZeros_0f7a4 rfl 1 rfl (by decide +kernel) rfl rfl (by decide) (Nat.le_of_ble_eq_true rfl) rfl dX0_deciding_28 ?_
    exact rl_ret1 hret h rfl dX0_deciding_31
def fX0_leave (u : St)  (p1 : Int32) (p2 : Int32) (p3 : Int32) : Option (Int32) := o1 (fX0_deciding u p1 p2 p3) (fun x1 => (if x1 = (-1 : Int32) then some (0 : Int32) else o1 (fX0_cell u x1 (1 : Int32)) (fun x3 => (if x3 = p1 then o1 (fX0_cell u x1 (0 : Int32)) (fun x5 => (if x5 = (1 : Int32) then some (0 : Int32) else (if x5 = (3 : Int32) then o1 (fX0_cell u x1 (2 : Int32)) (fun x8 => some ((2 : Int32) + x8)) else some (1 : Int32)))) else some (0 : Int32)))))
set_option maxRecDepth 100000 in
set_option maxHeartbeats 4000000 in
theorem kX0_leave (l : Launch) (D : va_G) (a : Nat → Nat) (cI cT : ClassId) (aS : Nat → Prop) (xx : Rx) (u : St)  (p1 : Int32) (p2 : Int32) (p3 : Int32) (r : Int32)  (h0 : fX0_leave u p1 p2 p3 = some r) : rl_Mi l yX0_leave wsX0_leave ({ frames := 2, cells := 0, slots := 0, locals := 48 } : Room) D (tyX cI cT) (wX a cI cT) (roX xx) aS [.ref (a 3), .int p1, .int p2, .int p3] u r u := by
  refine rl_meth_i (cc := cX0_leave) (maxL := 5) (own := RX0) (ty := .int) (by decide) rfl rfl (Nat.le_of_ble_eq_true rfl) ?_
  intro G hG hret
  have h := h0
  rw [fX0_leave] at h
  show G u 0 [(0, .ref (a 3)), (1, .int p1), (2, .int p2), (3, .int p3)] []
  refine rl_aload_n hG dX0_leave_0 rfl 0 rfl ?_
  refine rl_iload_n hG dX0_leave_1 rfl 1 rfl ?_
  refine rl_iload_n hG dX0_leave_2 rfl 2 rfl ?_
  refine rl_iload_n hG dX0_leave_3 rfl 3 rfl ?_
  obtain ⟨x1, hx1q, h⟩ := o1_ok h
  refine rl_callVi hG (roX_ok xx) (As := [.int p1, .int p2, .int p3]) (kX0_deciding l D a cI cT aS xx u p1 p2 p3 x1  hx1q) gX0_leave_X0_deciding rfl 3 (gX_3 a cI cT u) hcX0 3 rfl (by decide +kernel) rfl rfl (by decide) (Nat.le_of_ble_eq_true rfl) rfl dX0_leave_4 ?_
  refine rl_istore hG [(4, .int x1), (0, .ref (a 3)), (1, .int p1), (2, .int p2), (3, .int p3)] dX0_leave_7 (Nat.le_of_ble_eq_true rfl) rfl rfl ?_
  refine rl_iload hG dX0_leave_9 0 rfl ?_
  refine rl_iconst hG (v := -1) dX0_leave_11 (by decide) ?_
  refine rl_icmp_eq hG (tgt := 26) dX0_leave_12 (by decide) (fun c2 => ?_) (fun c2 => ?_)
  · have h := it_t h c2
    refine rl_iconst hG (v := 0) dX0_leave_26 (by decide) ?_
    exact rl_ret1 hret h rfl dX0_leave_27
  · have h := it_f h c2
    refine rl_aload_n hG dX0_leave_15 rfl 1 rfl ?_
    refine rl_iload hG dX0_leave_16 0 rfl ?_
    refine rl_iconst hG (v := 1) dX0_leave_18 (by decide) ?_
    obtain ⟨x3, hx3q, h⟩ := o1_ok h
    refine rl_callVi hG (roX_ok xx) (As := [.int x1, .int (1 : Int32)]) (kX0_cell l D a cI cT aS xx u x1 (1 : Int32) x3  hx3q) gX0_leave_X0_cell rfl 3 (gX_3 a cI cT u) hcX0 2 rfl (by decide +kernel) rfl rfl (by decide) (Nat.le_of_ble_eq_true rfl) rfl dX0_leave_19 ?_
    refine rl_iload_n hG dX0_leave_22 rfl 2 rfl ?_
    refine rl_icmp_eq hG (tgt := 28) dX0_leave_23 (by decide) (fun c4 => ?_) (fun c4 => ?_)
    · have h := it_t h c4
      refine rl_aload_n hG dX0_leave_28 rfl 1 rfl ?_
      refine rl_iload hG dX0_leave_29 0 rfl ?_
      refine rl_iconst hG (v := 0) dX0_leave_31 (by decide) ?_
      obtain ⟨x5, hx5q, h⟩ := o1_ok h
      refine rl_callVi hG (roX_ok xx) (As := [.int x1, .int (0 : Int32)]) (kX0_cell l D a cI cT aS xx u x1 (0 : Int32) x5  hx5q) gX0_leave_X0_cell rfl 3 (gX_3 a cI cT u) hcX0 2 rfl (by decide +kernel) rfl rfl (by decide) (Nat.le_of_ble_eq_true rfl) rfl dX0_leave_32 ?_
      by_cases c6 : x5 = (1 : Int32)
      · have h := it_t h c6
        refine rl_lookup hG (off := 25) (tgt := 60) dX0_leave_35 (by decide) (by rw [c6]; first | done | rfl) (by decide) ?_
        refine rl_iconst hG (v := 0) dX0_leave_60 (by decide) ?_
        exact rl_ret1 hret h rfl dX0_leave_61
      have h := it_f h c6
      by_cases c7 : x5 = (3 : Int32)
      · have h := it_t h c7
        refine rl_lookup hG (off := 27) (tgt := 62) dX0_leave_35 (by decide) (by rw [c7]; first | done | rfl) (by decide) ?_
        refine rl_iconst hG (v := 2) dX0_leave_62 (by decide) ?_
        refine rl_aload_n hG dX0_leave_63 rfl 1 rfl ?_
        refine rl_iload hG dX0_leave_64 0 rfl ?_
        refine rl_iconst hG (v := 2) dX0_leave_66 (by decide) ?_
        obtain ⟨x8, hx8q, h⟩ := o1_ok h
        refine rl_callVi hG (roX_ok xx) (As := [.int x1, .int (2 : Int32)]) (kX0_cell l D a cI cT aS xx u x1 (2 : Int32) x8  hx8q) gX0_leave_X0_cell rfl 3 (gX_3 a cI cT u) hcX0 2 rfl (by decide +kernel) rfl rfl (by decide) (Nat.le_of_ble_eq_true rfl) rfl dX0_leave_67 ?_
        refine rl_iadd hG dX0_leave_70 ?_
        exact rl_ret1 hret h rfl dX0_leave_71
      have h := it_f h c7
      refine rl_lookup hG (off := 37) (tgt := 72) dX0_leave_35 (by decide) (by show Op.lookupswitch.offset [(1, 25), (3, 27)] 37 x5.toInt = 37; refine (lv_osw c6 rfl).trans ?_; refine (lv_osw c7 rfl).trans ?_; rfl) (by decide) ?_
      refine rl_iconst hG (v := 1) dX0_leave_72 (by decide) ?_
      exact rl_ret1 hret h rfl dX0_leave_73
    · have h := it_f h c4
      refine rl_iconst hG (v := 0) dX0_leave_26 (by decide) ?_
      exact rl_ret1 hret h rfl dX0_leave_27
def fX0_handsFor (u : St)  (p1 : Int32) (p2 : Int32) : Option (Int32) := o1 (fX0_leave u p1 p2 (-1 : Int32)) (fun x1 => (if x1 = (0 : Int32) then some (0 : Int32) else (if x1 = (1 : Int32) then some ((1 : Int32) <<< (p1 &&& 31)) else some (((1 : Int32) <<< (p1 &&& 31)) ||| ((1 : Int32) <<< ((x1 - (2 : Int32)) &&& 31))))))
set_option maxRecDepth 100000 in
set_option maxHeartbeats 4000000 in
theorem kX0_handsFor (l : Launch) (D : va_G) (a : Nat → Nat) (cI cT : ClassId) (aS : Nat → Prop) (xx : Rx) (u : St)  (p1 : Int32) (p2 : Int32) (r : Int32)  (h0 : fX0_handsFor u p1 p2 = some r) : rl_Mi l yX0_handsFor wsX0_handsFor ({ frames := 3, cells := 0, slots := 0, locals := 72 } : Room) D (tyX cI cT) (wX a cI cT) (roX xx) aS [.ref (a 3), .int p1, .int p2] u r u := by
  refine rl_meth_i (cc := cX0_handsFor) (maxL := 4) (own := RX0) (ty := .int) (by decide) rfl rfl (Nat.le_of_ble_eq_true rfl) ?_
  intro G hG hret
  have h := h0
  rw [fX0_handsFor] at h
  show G u 0 [(0, .ref (a 3)), (1, .int p1), (2, .int p2)] []
  refine rl_aload_n hG dX0_handsFor_0 rfl 0 rfl ?_
  refine rl_iload_n hG dX0_handsFor_1 rfl 1 rfl ?_
  refine rl_iload_n hG dX0_handsFor_2 rfl 2 rfl ?_
  refine rl_iconst hG (v := -1) dX0_handsFor_3 (by decide) ?_
  obtain ⟨x1, hx1q, h⟩ := o1_ok h
  refine rl_callVi hG (roX_ok xx) (As := [.int p1, .int p2, .int (-1 : Int32)]) (kX0_leave l D a cI cT aS xx u p1 p2 (-1 : Int32) x1  hx1q) gX0_handsFor_X0_leave rfl 3 (gX_3 a cI cT u) hcX0 3 rfl (by decide +kernel) rfl rfl (by decide) (Nat.le_of_ble_eq_true rfl) rfl dX0_handsFor_4 ?_
  refine rl_istore_n hG [(3, .int x1), (0, .ref (a 3)), (1, .int p1), (2, .int p2)] dX0_handsFor_7 rfl (Nat.le_of_ble_eq_true rfl) rfl rfl ?_
  refine rl_iload_n hG dX0_handsFor_8 rfl 0 rfl ?_
  refine rl_if_ne hG (tgt := 14) dX0_handsFor_9 (by decide) (fun c2 => ?_) (fun c2 => ?_)
  · have h := it_f h c2
    refine rl_iload_n hG dX0_handsFor_14 rfl 0 rfl ?_
    refine rl_iconst hG (v := 1) dX0_handsFor_15 (by decide) ?_
    refine rl_icmp_ne hG (tgt := 25) dX0_handsFor_16 (by decide) (fun c3 => ?_) (fun c3 => ?_)
    · have h := it_f h c3
      refine rl_iconst hG (v := 1) dX0_handsFor_25 (by decide) ?_
      refine rl_iload_n hG dX0_handsFor_26 rfl 2 rfl ?_
      refine rl_ishl hG dX0_handsFor_27 ?_
      refine rl_iconst hG (v := 1) dX0_handsFor_28 (by decide) ?_
      refine rl_iload_n hG dX0_handsFor_29 rfl 0 rfl ?_
      refine rl_iconst hG (v := 2) dX0_handsFor_30 (by decide) ?_
      refine rl_isub hG dX0_handsFor_31 ?_
      refine rl_ishl hG dX0_handsFor_32 ?_
      refine rl_ior hG dX0_handsFor_33 ?_
      exact rl_ret1 hret h rfl dX0_handsFor_34
    · have h := it_t h c3
      refine rl_iconst hG (v := 1) dX0_handsFor_19 (by decide) ?_
      refine rl_iload_n hG dX0_handsFor_20 rfl 2 rfl ?_
      refine rl_ishl hG dX0_handsFor_21 ?_
      refine rl_goto hG (tgt := 34) dX0_handsFor_22 (by decide) ?_
      exact rl_ret1 hret h rfl dX0_handsFor_34
  · have h := it_t h c2
    refine rl_iconst hG (v := 0) dX0_handsFor_12 (by decide) ?_
    exact rl_ret1 hret h rfl dX0_handsFor_13
def fX0_guildsThatMay_L26 (u : St) (k4 : Int32 → Int32 → Int32 → Option (Int32)) (v1 : Int32) (v2 : Int32) (v3 : Int32) : Option (Int32) := bd (v3 + (1 : Int32)) (fun x1 => k4 v1 v2 x1)
def fX0_guildsThatMay_L4 (u : St)  : Nat → Int32 → Int32 → Int32 → Option (Int32)
  | 0 => fun _ _ _ => none
  | n + 1 => fun v1 v2 v3 => (if (6 : Int32) ≤ v3 then some v2 else o1 (fX0_leave u v3 v1 (-1 : Int32)) (fun x3 => (if x3 = (0 : Int32) then fX0_guildsThatMay_L26 u (fX0_guildsThatMay_L4 u n) v1 v2 v3 else bd (v2 ||| ((1 : Int32) <<< (v3 &&& 31))) (fun x5 => fX0_guildsThatMay_L26 u (fX0_guildsThatMay_L4 u n) v1 x5 v3))))
def fX0_guildsThatMay (u : St)  (p1 : Int32) : Option (Int32) := fX0_guildsThatMay_L4 u 2000 p1 (0 : Int32) (0 : Int32)
set_option maxRecDepth 100000 in
set_option maxHeartbeats 4000000 in
theorem kX0_guildsThatMay (l : Launch) (D : va_G) (a : Nat → Nat) (cI cT : ClassId) (aS : Nat → Prop) (xx : Rx) (u : St)  (p1 : Int32) (r : Int32)  (h0 : fX0_guildsThatMay u p1 = some r) : rl_Mi l yX0_guildsThatMay wsX0_guildsThatMay ({ frames := 3, cells := 0, slots := 0, locals := 72 } : Room) D (tyX cI cT) (wX a cI cT) (roX xx) aS [.ref (a 3), .int p1] u r u := by
  refine rl_meth_i (cc := cX0_guildsThatMay) (maxL := 4) (own := RX0) (ty := .int) (by decide) rfl rfl (Nat.le_of_ble_eq_true rfl) ?_
  intro G hG hret
  have H26 : ∀ (k4 : Int32 → Int32 → Int32 → Option (Int32)) (hk4 : ∀ (v1 : Int32) (v2 : Int32) (v3 : Int32), k4 v1 v2 v3 = some r → G u 4 [(0, .ref (a 3)), (1, .int v1), (2, .int v2), (3, .int v3)] []), ∀ (v1 : Int32) (v2 : Int32) (v3 : Int32), fX0_guildsThatMay_L26 u k4 v1 v2 v3 = some r → G u 26 [(0, .ref (a 3)), (1, .int v1), (2, .int v2), (3, .int v3)] [] := by
    intro k4 hk4 v1 v2 v3 h
    rw [fX0_guildsThatMay_L26] at h
    obtain ⟨x1, ex1, h⟩ := bd_ok h
    refine rl_iinc hG [(3, .int x1), (0, .ref (a 3)), (1, .int v1), (2, .int v2)] dX0_guildsThatMay_26 3 rfl (by rw [ex1]; rfl) (Nat.le_of_ble_eq_true rfl) rfl ?_
    refine rl_goto hG (tgt := 4) dX0_guildsThatMay_29 (by decide) ?_
    exact rl_lvs hG [1, 2, 3, 0] rfl (hk4 v1 v2 x1 h)
  have H4 : ∀ (n : Nat) (v1 : Int32) (v2 : Int32) (v3 : Int32), fX0_guildsThatMay_L4 u n v1 v2 v3 = some r → G u 4 [(0, .ref (a 3)), (1, .int v1), (2, .int v2), (3, .int v3)] [] := by
    intro n
    induction n with
    | zero =>
      intro v1 v2 v3 h
      exact absurd h (by rw [fX0_guildsThatMay_L4]; exact fun q => by cases q)
    | succ n ih =>
      intro v1 v2 v3 h
      rw [fX0_guildsThatMay_L4] at h
      refine rl_iload_n hG dX0_guildsThatMay_4 rfl 3 rfl ?_
      refine rl_bipush hG (v := 6) dX0_guildsThatMay_5 (by decide) ?_
      refine rl_icmp_ge hG (tgt := 32) dX0_guildsThatMay_7 (by decide) (fun c2 => ?_) (fun c2 => ?_)
      · have h := it_t h c2
        refine rl_iload_n hG dX0_guildsThatMay_32 rfl 2 rfl ?_
        exact rl_ret1 hret h rfl dX0_guildsThatMay_33
      · have h := it_f h c2
        refine rl_aload_n hG dX0_guildsThatMay_10 rfl 0 rfl ?_
        refine rl_iload_n hG dX0_guildsThatMay_11 rfl 3 rfl ?_
        refine rl_iload_n hG dX0_guildsThatMay_12 rfl 1 rfl ?_
        refine rl_iconst hG (v := -1) dX0_guildsThatMay_13 (by decide) ?_
        obtain ⟨x3, hx3q, h⟩ := o1_ok h
        refine rl_callVi hG (roX_ok xx) (As := [.int v3, .int v1, .int (-1 : Int32)]) (kX0_leave l D a cI cT aS xx u v3 v1 (-1 : Int32) x3  hx3q) gX0_guildsThatMay_X0_leave rfl 3 (gX_3 a cI cT u) hcX0 3 rfl (by decide +kernel) rfl rfl (by decide) (Nat.le_of_ble_eq_true rfl) rfl dX0_guildsThatMay_14 ?_
        refine rl_if_eq hG (tgt := 26) dX0_guildsThatMay_17 (by decide) (fun c4 => ?_) (fun c4 => ?_)
        · have h := it_t h c4
          exact rl_lvs hG [0, 1, 2, 3] rfl (H26 (fX0_guildsThatMay_L4 u n) (ih) v1 v2 v3 h)
        · have h := it_f h c4
          refine rl_iload_n hG dX0_guildsThatMay_20 rfl 2 rfl ?_
          refine rl_iconst hG (v := 1) dX0_guildsThatMay_21 (by decide) ?_
          refine rl_iload_n hG dX0_guildsThatMay_22 rfl 3 rfl ?_
          refine rl_ishl hG dX0_guildsThatMay_23 ?_
          refine rl_ior hG dX0_guildsThatMay_24 ?_
          obtain ⟨x5, ex5, h⟩ := bd_ok h
          refine rl_istore_n hG [(2, .int x5), (0, .ref (a 3)), (1, .int v1), (3, .int v3)] dX0_guildsThatMay_25 rfl (Nat.le_of_ble_eq_true rfl) ex5 rfl ?_
          exact rl_lvs hG [1, 2, 0, 3] rfl (H26 (fX0_guildsThatMay_L4 u n) (ih) v1 x5 v3 h)
  have h := h0
  rw [fX0_guildsThatMay] at h
  show G u 0 [(0, .ref (a 3)), (1, .int p1)] []
  refine rl_iconst hG (v := 0) dX0_guildsThatMay_0 (by decide) ?_
  refine rl_istore_n hG [(2, .int (0 : Int32)), (0, .ref (a 3)), (1, .int p1)] dX0_guildsThatMay_1 rfl (Nat.le_of_ble_eq_true rfl) rfl rfl ?_
  refine rl_iconst hG (v := 0) dX0_guildsThatMay_2 (by decide) ?_
  refine rl_istore_n hG [(3, .int (0 : Int32)), (2, .int (0 : Int32)), (0, .ref (a 3)), (1, .int p1)] dX0_guildsThatMay_3 rfl (Nat.le_of_ble_eq_true rfl) rfl rfl ?_
  exact rl_lvs hG [2, 3, 1, 0] rfl (H4 2000 p1 (0 : Int32) (0 : Int32) h)
def fX0_isClaimed_L29 (u : St) (k4 : Int32 → Int32 → Int32 → Option (Int32)) (v1 : Int32) (v2 : Int32) (v3 : Int32) : Option (Int32) := bd (v3 + (1 : Int32)) (fun x1 => k4 v1 v2 x1)
def fX0_isClaimed_L35 (u : St)  (v2 : Int32) : Option (Int32) := (if v2 < (2 : Int32) then some (0 : Int32) else some (1 : Int32))
def fX0_isClaimed_L4 (u : St)  : Nat → Int32 → Int32 → Int32 → Option (Int32)
  | 0 => fun _ _ _ => none
  | n + 1 => fun v1 v2 v3 => (if (6 : Int32) ≤ v3 then fX0_isClaimed_L35 u v2 else ald u 12 240 v1 (fun x4 => ald u 14 6 v3 (fun x5 => (if (x4 &&& x5) = (0 : Int32) then fX0_isClaimed_L29 u (fX0_isClaimed_L4 u n) v1 v2 v3 else bd (v2 + (1 : Int32)) (fun x7 => fX0_isClaimed_L29 u (fX0_isClaimed_L4 u n) v1 x7 v3)))))
def fX0_isClaimed (u : St)  (p1 : Int32) : Option (Int32) := fX0_isClaimed_L4 u 2000 p1 (0 : Int32) (0 : Int32)
theorem nX0_isClaimed_0 : Cond.fieldLink RX0 15 "WhoseWork$Law" "within" "[I" ∈ wsX0_isClaimed := by decide +kernel
theorem nX0_isClaimed_1 : Cond.fieldLink RX0 21 "WhoseWork$Law" "onlys" "[I" ∈ wsX0_isClaimed := by decide +kernel
theorem iX0_isClaimed_X0 : ∀ w ∈ wsX00, w ∈ wsX0_isClaimed := by decide +kernel
set_option maxRecDepth 100000 in
set_option maxHeartbeats 4000000 in
theorem kX0_isClaimed (l : Launch) (D : va_G) (a : Nat → Nat) (cI cT : ClassId) (aS : Nat → Prop) (xx : Rx) (u : St)  (p1 : Int32) (r : Int32)  (h0 : fX0_isClaimed u p1 = some r) : rl_Mi l yX0_isClaimed wsX0_isClaimed ({ frames := 0, cells := 0, slots := 0, locals := 0 } : Room) D (tyX cI cT) (wX a cI cT) (roX xx) aS [.ref (a 3), .int p1] u r u := by
  refine rl_meth_i (cc := cX0_isClaimed) (maxL := 4) (own := RX0) (ty := .boolean) (by decide) rfl rfl (Nat.le_of_ble_eq_true rfl) ?_
  intro G hG hret
  have H29 : ∀ (k4 : Int32 → Int32 → Int32 → Option (Int32)) (hk4 : ∀ (v1 : Int32) (v2 : Int32) (v3 : Int32), k4 v1 v2 v3 = some r → G u 4 [(0, .ref (a 3)), (1, .int v1), (2, .int v2), (3, .int v3)] []), ∀ (v1 : Int32) (v2 : Int32) (v3 : Int32), fX0_isClaimed_L29 u k4 v1 v2 v3 = some r → G u 29 [(0, .ref (a 3)), (1, .int v1), (2, .int v2), (3, .int v3)] [] := by
    intro k4 hk4 v1 v2 v3 h
    rw [fX0_isClaimed_L29] at h
    obtain ⟨x1, ex1, h⟩ := bd_ok h
    refine rl_iinc hG [(3, .int x1), (0, .ref (a 3)), (1, .int v1), (2, .int v2)] dX0_isClaimed_29 3 rfl (by rw [ex1]; rfl) (Nat.le_of_ble_eq_true rfl) rfl ?_
    refine rl_goto hG (tgt := 4) dX0_isClaimed_32 (by decide) ?_
    exact rl_lvs hG [1, 2, 3, 0] rfl (hk4 v1 v2 x1 h)
  have H35 : ∀ (v2 : Int32), fX0_isClaimed_L35 u v2 = some r → G u 35 [(2, .int v2)] [] := by
    intro  v2 h
    rw [fX0_isClaimed_L35] at h
    refine rl_iload_n hG dX0_isClaimed_35 rfl 0 rfl ?_
    refine rl_iconst hG (v := 2) dX0_isClaimed_36 (by decide) ?_
    refine rl_icmp_lt hG (tgt := 44) dX0_isClaimed_37 (by decide) (fun c2 => ?_) (fun c2 => ?_)
    · have h := it_t h c2
      refine rl_iconst hG (v := 0) dX0_isClaimed_44 (by decide) ?_
      exact rl_ret1 hret h rfl dX0_isClaimed_45
    · have h := it_f h c2
      refine rl_iconst hG (v := 1) dX0_isClaimed_40 (by decide) ?_
      refine rl_goto hG (tgt := 45) dX0_isClaimed_41 (by decide) ?_
      exact rl_ret1 hret h rfl dX0_isClaimed_45
  have H4 : ∀ (n : Nat) (v1 : Int32) (v2 : Int32) (v3 : Int32), fX0_isClaimed_L4 u n v1 v2 v3 = some r → G u 4 [(0, .ref (a 3)), (1, .int v1), (2, .int v2), (3, .int v3)] [] := by
    intro n
    induction n with
    | zero =>
      intro v1 v2 v3 h
      exact absurd h (by rw [fX0_isClaimed_L4]; exact fun q => by cases q)
    | succ n ih =>
      intro v1 v2 v3 h
      rw [fX0_isClaimed_L4] at h
      refine rl_iload_n hG dX0_isClaimed_4 rfl 3 rfl ?_
      refine rl_bipush hG (v := 6) dX0_isClaimed_5 (by decide) ?_
      refine rl_icmp_ge hG (tgt := 35) dX0_isClaimed_7 (by decide) (fun c3 => ?_) (fun c3 => ?_)
      · have h := it_t h c3
        exact rl_lvs hG [2] rfl (H35 v2 h)
      · have h := it_f h c3
        refine rl_aload_n hG dX0_isClaimed_10 rfl 0 rfl ?_
        refine rl_get hG iX0_isClaimed_X0 3 (gX_3 a cI cT u) hcX0 2 (Nat.le_of_ble_eq_true rfl) nX0_isClaimed_0 rfl dX0_isClaimed_11 ?_
        refine rl_iload_n hG dX0_isClaimed_14 rfl 1 rfl ?_
        obtain ⟨x4, ix4, ex4, h⟩ := ald_ok h
        refine rl_iald hG 12 0 (gX_12 a cI cT u) rfl ix4 ex4 dX0_isClaimed_15 ?_
        refine rl_aload_n hG dX0_isClaimed_16 rfl 0 rfl ?_
        refine rl_get hG iX0_isClaimed_X0 3 (gX_3 a cI cT u) hcX0 4 (Nat.le_of_ble_eq_true rfl) nX0_isClaimed_1 rfl dX0_isClaimed_17 ?_
        refine rl_iload_n hG dX0_isClaimed_20 rfl 3 rfl ?_
        obtain ⟨x5, ix5, ex5, h⟩ := ald_ok h
        refine rl_iald hG 14 0 (gX_14 a cI cT u) rfl ix5 ex5 dX0_isClaimed_21 ?_
        refine rl_iand hG dX0_isClaimed_22 ?_
        refine rl_if_eq hG (tgt := 29) dX0_isClaimed_23 (by decide) (fun c6 => ?_) (fun c6 => ?_)
        · have h := it_t h c6
          exact rl_lvs hG [0, 1, 2, 3] rfl (H29 (fX0_isClaimed_L4 u n) (ih) v1 v2 v3 h)
        · have h := it_f h c6
          obtain ⟨x7, ex7, h⟩ := bd_ok h
          refine rl_iinc hG [(2, .int x7), (0, .ref (a 3)), (1, .int v1), (3, .int v3)] dX0_isClaimed_26 2 rfl (by rw [ex7]; rfl) (Nat.le_of_ble_eq_true rfl) rfl ?_
          exact rl_lvs hG [1, 2, 0, 3] rfl (H29 (fX0_isClaimed_L4 u n) (ih) v1 x7 v3 h)
  have h := h0
  rw [fX0_isClaimed] at h
  show G u 0 [(0, .ref (a 3)), (1, .int p1)] []
  refine rl_iconst hG (v := 0) dX0_isClaimed_0 (by decide) ?_
  refine rl_istore_n hG [(2, .int (0 : Int32)), (0, .ref (a 3)), (1, .int p1)] dX0_isClaimed_1 rfl (Nat.le_of_ble_eq_true rfl) rfl rfl ?_
  refine rl_iconst hG (v := 0) dX0_isClaimed_2 (by decide) ?_
  refine rl_istore_n hG [(3, .int (0 : Int32)), (2, .int (0 : Int32)), (0, .ref (a 3)), (1, .int p1)] dX0_isClaimed_3 rfl (Nat.le_of_ble_eq_true rfl) rfl rfl ?_
  exact rl_lvs hG [2, 3, 1, 0] rfl (H4 2000 p1 (0 : Int32) (0 : Int32) h)
def fX0_isOfKind (u : St)  (p1 : Int32) (p2 : Int32) : Option (Int32) := (if p2 = (0 : Int32) then o1 (fX0_guildsThatMay u p1) (fun x2 => (if x2 = (0 : Int32) then some (1 : Int32) else some (0 : Int32))) else (if p2 = (1 : Int32) then o1 (fX0_guildsThatMay u p1) (fun x5 => o1 (fJ6_bitCount_0f7a4 x5) (fun x6 => (if x6 < (2 : Int32) then some (0 : Int32) else some (1 : Int32)))) else oz (fX0_isClaimed u p1) (fun x8 => rb x8 (fun y => some y))))
set_option maxRecDepth 100000 in
set_option maxHeartbeats 4000000 in
theorem kX0_isOfKind (l : Launch) (D : va_G) (a : Nat → Nat) (cI cT : ClassId) (aS : Nat → Prop) (xx : Rx) (u : St)  (p1 : Int32) (p2 : Int32) (r : Int32)  (h0 : fX0_isOfKind u p1 p2 = some r) : rl_Mi l yX0_isOfKind wsX0_isOfKind ({ frames := 4, cells := 0, slots := 0, locals := 95 } : Room) D (tyX cI cT) (wX a cI cT) (roX xx) aS [.ref (a 3), .int p1, .int p2] u r u := by
  refine rl_meth_i (cc := cX0_isOfKind) (maxL := 3) (own := RX0) (ty := .boolean) (by decide) rfl rfl (Nat.le_of_ble_eq_true rfl) ?_
  intro G hG hret
  have h := h0
  rw [fX0_isOfKind] at h
  show G u 0 [(0, .ref (a 3)), (1, .int p1), (2, .int p2)] []
  refine rl_iload_n hG dX0_isOfKind_0 rfl 2 rfl ?_
  by_cases c1 : p2 = (0 : Int32)
  · have h := it_t h c1
    refine rl_lookup hG (off := 27) (tgt := 28) dX0_isOfKind_1 (by decide) (by rw [c1]; first | done | rfl) (by decide) ?_
    refine rl_aload_n hG dX0_isOfKind_28 rfl 0 rfl ?_
    refine rl_iload_n hG dX0_isOfKind_29 rfl 1 rfl ?_
    obtain ⟨x2, hx2q, h⟩ := o1_ok h
    refine rl_callVi hG (roX_ok xx) (As := [.int p1]) (kX0_guildsThatMay l D a cI cT aS xx u p1 x2  hx2q) gX0_isOfKind_X0_guildsThatMay rfl 3 (gX_3 a cI cT u) hcX0 1 rfl (by decide +kernel) rfl rfl (by decide) (Nat.le_of_ble_eq_true rfl) rfl dX0_isOfKind_30 ?_
    refine rl_if_ne hG (tgt := 40) dX0_isOfKind_33 (by decide) (fun c3 => ?_) (fun c3 => ?_)
    · have h := it_f h c3
      refine rl_iconst hG (v := 0) dX0_isOfKind_40 (by decide) ?_
      exact rl_ret1 hret h rfl dX0_isOfKind_41
    · have h := it_t h c3
      refine rl_iconst hG (v := 1) dX0_isOfKind_36 (by decide) ?_
      refine rl_goto hG (tgt := 41) dX0_isOfKind_37 (by decide) ?_
      exact rl_ret1 hret h rfl dX0_isOfKind_41
  have h := it_f h c1
  by_cases c4 : p2 = (1 : Int32)
  · have h := it_t h c4
    refine rl_lookup hG (off := 41) (tgt := 42) dX0_isOfKind_1 (by decide) (by rw [c4]; first | done | rfl) (by decide) ?_
    refine rl_aload_n hG dX0_isOfKind_42 rfl 0 rfl ?_
    refine rl_iload_n hG dX0_isOfKind_43 rfl 1 rfl ?_
    obtain ⟨x5, hx5q, h⟩ := o1_ok h
    refine rl_callVi hG (roX_ok xx) (As := [.int p1]) (kX0_guildsThatMay l D a cI cT aS xx u p1 x5  hx5q) gX0_isOfKind_X0_guildsThatMay rfl 3 (gX_3 a cI cT u) hcX0 1 rfl (by decide +kernel) rfl rfl (by decide) (Nat.le_of_ble_eq_true rfl) rfl dX0_isOfKind_44 ?_
    obtain ⟨x6, hx6q, h⟩ := o1_ok h
    refine rl_callZi hG (As := [.int x5]) (kJ6_bitCount_0f7a4 l D u x5 x6 hx6q) gX0_isOfKind_J6_bitCount_0f7a4 rfl 1 rfl (by decide +kernel) rfl rfl (by decide) (Nat.le_of_ble_eq_true rfl) rfl dX0_isOfKind_47 ?_
    refine rl_iconst hG (v := 2) dX0_isOfKind_50 (by decide) ?_
    refine rl_icmp_lt hG (tgt := 58) dX0_isOfKind_51 (by decide) (fun c7 => ?_) (fun c7 => ?_)
    · have h := it_t h c7
      refine rl_iconst hG (v := 0) dX0_isOfKind_58 (by decide) ?_
      exact rl_ret1 hret h rfl dX0_isOfKind_59
    · have h := it_f h c7
      refine rl_iconst hG (v := 1) dX0_isOfKind_54 (by decide) ?_
      refine rl_goto hG (tgt := 59) dX0_isOfKind_55 (by decide) ?_
      exact rl_ret1 hret h rfl dX0_isOfKind_59
  have h := it_f h c4
  refine rl_lookup hG (off := 59) (tgt := 60) dX0_isOfKind_1 (by decide) (by show Op.lookupswitch.offset [(0, 27), (1, 41)] 59 p2.toInt = 59; refine (lv_osw c1 rfl).trans ?_; refine (lv_osw c4 rfl).trans ?_; rfl) (by decide) ?_
  refine rl_aload_n hG dX0_isOfKind_60 rfl 0 rfl ?_
  refine rl_iload_n hG dX0_isOfKind_61 rfl 1 rfl ?_
  obtain ⟨x8, hx8q, zx8, h⟩ := oz_ok h
  refine rl_callVi hG (roX_ok xx) (As := [.int p1]) (kX0_isClaimed l D a cI cT aS xx u p1 x8  hx8q) gX0_isOfKind_X0_isClaimed rfl 3 (gX_3 a cI cT u) hcX0 1 rfl (by decide +kernel) rfl rfl (by decide) (Nat.le_of_ble_eq_true rfl) rfl dX0_isOfKind_62 ?_
  obtain ⟨hz, h⟩ := rb_ok h
  exact rl_ret1 hret h (na_z hz) dX0_isOfKind_65
def fX0_countLost_L39 (u : St) (k6 : Int32 → Int32 → Int32 → Int32 → Int32 → Option (Int32)) (v1 : Int32) (v2 : Int32) (v3 : Int32) (v4 : Int32) (v5 : Int32) : Option (Int32) := bd (v5 + (1 : Int32)) (fun x1 => k6 v1 v2 v3 v4 x1)
def fX0_countLost_L6 (u : St)  : Nat → Int32 → Int32 → Int32 → Int32 → Int32 → Option (Int32)
  | 0 => fun _ _ _ _ _ => none
  | n + 1 => fun v1 v2 v3 v4 v5 => (if (240 : Int32) ≤ v5 then some v4 else o1 (fX0_leave u v1 v5 v2) (fun x3 => (if x3 = (0 : Int32) then fX0_countLost_L39 u (fX0_countLost_L6 u n) v1 v2 v3 v4 v5 else o1 (fX0_leave u v1 v5 v3) (fun x5 => (if x5 = (0 : Int32) then bd (v4 + (1 : Int32)) (fun x7 => fX0_countLost_L39 u (fX0_countLost_L6 u n) v1 v2 v3 x7 v5) else fX0_countLost_L39 u (fX0_countLost_L6 u n) v1 v2 v3 v4 v5)))))
def fX0_countLost (u : St)  (p1 : Int32) (p2 : Int32) (p3 : Int32) : Option (Int32) := fX0_countLost_L6 u 2000 p1 p2 p3 (0 : Int32) (0 : Int32)
set_option maxRecDepth 100000 in
set_option maxHeartbeats 4000000 in
theorem kX0_countLost (l : Launch) (D : va_G) (a : Nat → Nat) (cI cT : ClassId) (aS : Nat → Prop) (xx : Rx) (u : St)  (p1 : Int32) (p2 : Int32) (p3 : Int32) (r : Int32)  (h0 : fX0_countLost u p1 p2 p3 = some r) : rl_Mi l yX0_countLost wsX0_countLost ({ frames := 3, cells := 0, slots := 0, locals := 72 } : Room) D (tyX cI cT) (wX a cI cT) (roX xx) aS [.ref (a 3), .int p1, .int p2, .int p3] u r u := by
  refine rl_meth_i (cc := cX0_countLost) (maxL := 6) (own := RX0) (ty := .int) (by decide) rfl rfl (Nat.le_of_ble_eq_true rfl) ?_
  intro G hG hret
  have H39 : ∀ (k6 : Int32 → Int32 → Int32 → Int32 → Int32 → Option (Int32)) (hk6 : ∀ (v1 : Int32) (v2 : Int32) (v3 : Int32) (v4 : Int32) (v5 : Int32), k6 v1 v2 v3 v4 v5 = some r → G u 6 [(0, .ref (a 3)), (1, .int v1), (2, .int v2), (3, .int v3), (4, .int v4), (5, .int v5)] []), ∀ (v1 : Int32) (v2 : Int32) (v3 : Int32) (v4 : Int32) (v5 : Int32), fX0_countLost_L39 u k6 v1 v2 v3 v4 v5 = some r → G u 39 [(0, .ref (a 3)), (1, .int v1), (2, .int v2), (3, .int v3), (4, .int v4), (5, .int v5)] [] := by
    intro k6 hk6 v1 v2 v3 v4 v5 h
    rw [fX0_countLost_L39] at h
    obtain ⟨x1, ex1, h⟩ := bd_ok h
    refine rl_iinc hG [(5, .int x1), (0, .ref (a 3)), (1, .int v1), (2, .int v2), (3, .int v3), (4, .int v4)] dX0_countLost_39 5 rfl (by rw [ex1]; rfl) (Nat.le_of_ble_eq_true rfl) rfl ?_
    refine rl_goto hG (tgt := 6) dX0_countLost_42 (by decide) ?_
    exact rl_lvs hG [1, 2, 3, 4, 5, 0] rfl (hk6 v1 v2 v3 v4 x1 h)
  have H6 : ∀ (n : Nat) (v1 : Int32) (v2 : Int32) (v3 : Int32) (v4 : Int32) (v5 : Int32), fX0_countLost_L6 u n v1 v2 v3 v4 v5 = some r → G u 6 [(0, .ref (a 3)), (1, .int v1), (2, .int v2), (3, .int v3), (4, .int v4), (5, .int v5)] [] := by
    intro n
    induction n with
    | zero =>
      intro v1 v2 v3 v4 v5 h
      exact absurd h (by rw [fX0_countLost_L6]; exact fun q => by cases q)
    | succ n ih =>
      intro v1 v2 v3 v4 v5 h
      rw [fX0_countLost_L6] at h
      refine rl_iload hG dX0_countLost_6 5 rfl ?_
      refine rl_sipush hG (v := 240) dX0_countLost_8 (by decide) ?_
      refine rl_icmp_ge hG (tgt := 45) dX0_countLost_11 (by decide) (fun c2 => ?_) (fun c2 => ?_)
      · have h := it_t h c2
        refine rl_iload hG dX0_countLost_45 4 rfl ?_
        exact rl_ret1 hret h rfl dX0_countLost_47
      · have h := it_f h c2
        refine rl_aload_n hG dX0_countLost_14 rfl 0 rfl ?_
        refine rl_iload_n hG dX0_countLost_15 rfl 1 rfl ?_
        refine rl_iload hG dX0_countLost_16 5 rfl ?_
        refine rl_iload_n hG dX0_countLost_18 rfl 2 rfl ?_
        obtain ⟨x3, hx3q, h⟩ := o1_ok h
        refine rl_callVi hG (roX_ok xx) (As := [.int v1, .int v5, .int v2]) (kX0_leave l D a cI cT aS xx u v1 v5 v2 x3  hx3q) gX0_countLost_X0_leave rfl 3 (gX_3 a cI cT u) hcX0 3 rfl (by decide +kernel) rfl rfl (by decide) (Nat.le_of_ble_eq_true rfl) rfl dX0_countLost_19 ?_
        refine rl_if_eq hG (tgt := 39) dX0_countLost_22 (by decide) (fun c4 => ?_) (fun c4 => ?_)
        · have h := it_t h c4
          exact rl_lvs hG [0, 1, 2, 3, 4, 5] rfl (H39 (fX0_countLost_L6 u n) (ih) v1 v2 v3 v4 v5 h)
        · have h := it_f h c4
          refine rl_aload_n hG dX0_countLost_25 rfl 0 rfl ?_
          refine rl_iload_n hG dX0_countLost_26 rfl 1 rfl ?_
          refine rl_iload hG dX0_countLost_27 5 rfl ?_
          refine rl_iload_n hG dX0_countLost_29 rfl 3 rfl ?_
          obtain ⟨x5, hx5q, h⟩ := o1_ok h
          refine rl_callVi hG (roX_ok xx) (As := [.int v1, .int v5, .int v3]) (kX0_leave l D a cI cT aS xx u v1 v5 v3 x5  hx5q) gX0_countLost_X0_leave rfl 3 (gX_3 a cI cT u) hcX0 3 rfl (by decide +kernel) rfl rfl (by decide) (Nat.le_of_ble_eq_true rfl) rfl dX0_countLost_30 ?_
          refine rl_if_ne hG (tgt := 39) dX0_countLost_33 (by decide) (fun c6 => ?_) (fun c6 => ?_)
          · have h := it_f h c6
            exact rl_lvs hG [0, 1, 2, 3, 4, 5] rfl (H39 (fX0_countLost_L6 u n) (ih) v1 v2 v3 v4 v5 h)
          · have h := it_t h c6
            obtain ⟨x7, ex7, h⟩ := bd_ok h
            refine rl_iinc hG [(4, .int x7), (0, .ref (a 3)), (1, .int v1), (2, .int v2), (3, .int v3), (5, .int v5)] dX0_countLost_36 4 rfl (by rw [ex7]; rfl) (Nat.le_of_ble_eq_true rfl) rfl ?_
            exact rl_lvs hG [1, 2, 3, 4, 0, 5] rfl (H39 (fX0_countLost_L6 u n) (ih) v1 v2 v3 x7 v5 h)
  have h := h0
  rw [fX0_countLost] at h
  show G u 0 [(0, .ref (a 3)), (1, .int p1), (2, .int p2), (3, .int p3)] []
  refine rl_iconst hG (v := 0) dX0_countLost_0 (by decide) ?_
  refine rl_istore hG [(4, .int (0 : Int32)), (0, .ref (a 3)), (1, .int p1), (2, .int p2), (3, .int p3)] dX0_countLost_1 (Nat.le_of_ble_eq_true rfl) rfl rfl ?_
  refine rl_iconst hG (v := 0) dX0_countLost_3 (by decide) ?_
  refine rl_istore hG [(5, .int (0 : Int32)), (4, .int (0 : Int32)), (0, .ref (a 3)), (1, .int p1), (2, .int p2), (3, .int p3)] dX0_countLost_4 (Nat.le_of_ble_eq_true rfl) rfl rfl ?_
  exact rl_lvs hG [2, 3, 4, 5, 1, 0] rfl (H6 2000 p1 p2 p3 (0 : Int32) (0 : Int32) h)
def fX0_isChanged_L2 (u : St)  : Nat → Int32 → Int32 → Int32 → Option (Int32)
  | 0 => fun _ _ _ => none
  | n + 1 => fun v1 v2 v3 => (if (6 : Int32) ≤ v3 then some (0 : Int32) else o1 (fX0_leave u v3 v1 (-1 : Int32)) (fun x2 => o1 (fX0_leave u v3 v1 v2) (fun x3 => (if x2 = x3 then bd (v3 + (1 : Int32)) (fun x5 => fX0_isChanged_L2 u n v1 v2 x5) else some (1 : Int32)))))
def fX0_isChanged (u : St)  (p1 : Int32) (p2 : Int32) : Option (Int32) := fX0_isChanged_L2 u 2000 p1 p2 (0 : Int32)
set_option maxRecDepth 100000 in
set_option maxHeartbeats 4000000 in
theorem kX0_isChanged (l : Launch) (D : va_G) (a : Nat → Nat) (cI cT : ClassId) (aS : Nat → Prop) (xx : Rx) (u : St)  (p1 : Int32) (p2 : Int32) (r : Int32)  (h0 : fX0_isChanged u p1 p2 = some r) : rl_Mi l yX0_isChanged wsX0_isChanged ({ frames := 3, cells := 0, slots := 0, locals := 72 } : Room) D (tyX cI cT) (wX a cI cT) (roX xx) aS [.ref (a 3), .int p1, .int p2] u r u := by
  refine rl_meth_i (cc := cX0_isChanged) (maxL := 4) (own := RX0) (ty := .boolean) (by decide) rfl rfl (Nat.le_of_ble_eq_true rfl) ?_
  intro G hG hret
  have H2 : ∀ (n : Nat) (v1 : Int32) (v2 : Int32) (v3 : Int32), fX0_isChanged_L2 u n v1 v2 v3 = some r → G u 2 [(0, .ref (a 3)), (1, .int v1), (2, .int v2), (3, .int v3)] [] := by
    intro n
    induction n with
    | zero =>
      intro v1 v2 v3 h
      exact absurd h (by rw [fX0_isChanged_L2]; exact fun q => by cases q)
    | succ n ih =>
      intro v1 v2 v3 h
      rw [fX0_isChanged_L2] at h
      refine rl_iload_n hG dX0_isChanged_2 rfl 3 rfl ?_
      refine rl_bipush hG (v := 6) dX0_isChanged_3 (by decide) ?_
      refine rl_icmp_ge hG (tgt := 33) dX0_isChanged_5 (by decide) (fun c1 => ?_) (fun c1 => ?_)
      · have h := it_t h c1
        refine rl_iconst hG (v := 0) dX0_isChanged_33 (by decide) ?_
        exact rl_ret1 hret h rfl dX0_isChanged_34
      · have h := it_f h c1
        refine rl_aload_n hG dX0_isChanged_8 rfl 0 rfl ?_
        refine rl_iload_n hG dX0_isChanged_9 rfl 3 rfl ?_
        refine rl_iload_n hG dX0_isChanged_10 rfl 1 rfl ?_
        refine rl_iconst hG (v := -1) dX0_isChanged_11 (by decide) ?_
        obtain ⟨x2, hx2q, h⟩ := o1_ok h
        refine rl_callVi hG (roX_ok xx) (As := [.int v3, .int v1, .int (-1 : Int32)]) (kX0_leave l D a cI cT aS xx u v3 v1 (-1 : Int32) x2  hx2q) gX0_isChanged_X0_leave rfl 3 (gX_3 a cI cT u) hcX0 3 rfl (by decide +kernel) rfl rfl (by decide) (Nat.le_of_ble_eq_true rfl) rfl dX0_isChanged_12 ?_
        refine rl_aload_n hG dX0_isChanged_15 rfl 0 rfl ?_
        refine rl_iload_n hG dX0_isChanged_16 rfl 3 rfl ?_
        refine rl_iload_n hG dX0_isChanged_17 rfl 1 rfl ?_
        refine rl_iload_n hG dX0_isChanged_18 rfl 2 rfl ?_
        obtain ⟨x3, hx3q, h⟩ := o1_ok h
        refine rl_callVi hG (roX_ok xx) (As := [.int v3, .int v1, .int v2]) (kX0_leave l D a cI cT aS xx u v3 v1 v2 x3  hx3q) gX0_isChanged_X0_leave rfl 3 (gX_3 a cI cT u) hcX0 3 rfl (by decide +kernel) rfl rfl (by decide) (Nat.le_of_ble_eq_true rfl) rfl dX0_isChanged_19 ?_
        refine rl_icmp_eq hG (tgt := 27) dX0_isChanged_22 (by decide) (fun c4 => ?_) (fun c4 => ?_)
        · have h := it_t h c4
          obtain ⟨x5, ex5, h⟩ := bd_ok h
          refine rl_iinc hG [(3, .int x5), (0, .ref (a 3)), (1, .int v1), (2, .int v2)] dX0_isChanged_27 3 rfl (by rw [ex5]; rfl) (Nat.le_of_ble_eq_true rfl) rfl ?_
          refine rl_goto hG (tgt := 2) dX0_isChanged_30 (by decide) ?_
          exact rl_lvs hG [1, 2, 3, 0] rfl (ih v1 v2 x5 h)
        · have h := it_f h c4
          refine rl_iconst hG (v := 1) dX0_isChanged_25 (by decide) ?_
          exact rl_ret1 hret h rfl dX0_isChanged_26
  have h := h0
  rw [fX0_isChanged] at h
  show G u 0 [(0, .ref (a 3)), (1, .int p1), (2, .int p2)] []
  refine rl_iconst hG (v := 0) dX0_isChanged_0 (by decide) ?_
  refine rl_istore_n hG [(3, .int (0 : Int32)), (0, .ref (a 3)), (1, .int p1), (2, .int p2)] dX0_isChanged_1 rfl (Nat.le_of_ble_eq_true rfl) rfl rfl ?_
  exact rl_lvs hG [1, 2, 3, 0] rfl (H2 2000 p1 p2 (0 : Int32) h)
def fX0_isIdle_L39 (u : St) (k8 : Int32 → Int32 → Option (Int32)) (v2 : Int32) (v3 : Int32) : Option (Int32) := bd (v3 + (1 : Int32)) (fun x1 => k8 v2 x1)
def fX0_isIdle_L8 (u : St)  : Nat → Int32 → Int32 → Option (Int32)
  | 0 => fun _ _ => none
  | n + 1 => fun v2 v3 => (if (240 : Int32) ≤ v3 then some (1 : Int32) else ald u 12 240 v3 (fun x3 => (if (x3 &&& (v2 ^^^ (-1 : Int32))) = (0 : Int32) then fX0_isIdle_L39 u (fX0_isIdle_L8 u n) v2 v3 else oz (fX0_isChanged u v3 v2) (fun x5 => (if x5 = (0 : Int32) then fX0_isIdle_L39 u (fX0_isIdle_L8 u n) v2 v3 else some (0 : Int32))))))
def fX0_isIdle (u : St)  (p1 : Int32) : Option (Int32) := bd (((1 : Int32) <<< (p1 &&& 31)) ^^^ (-1 : Int32)) (fun x7 => fX0_isIdle_L8 u 2000 x7 (0 : Int32))
theorem nX0_isIdle_0 : Cond.fieldLink RX0 15 "WhoseWork$Law" "within" "[I" ∈ wsX0_isIdle := by decide +kernel
theorem iX0_isIdle_X0 : ∀ w ∈ wsX00, w ∈ wsX0_isIdle := by decide +kernel
set_option maxRecDepth 100000 in
set_option maxHeartbeats 4000000 in
theorem kX0_isIdle (l : Launch) (D : va_G) (a : Nat → Nat) (cI cT : ClassId) (aS : Nat → Prop) (xx : Rx) (u : St)  (p1 : Int32) (r : Int32)  (h0 : fX0_isIdle u p1 = some r) : rl_Mi l yX0_isIdle wsX0_isIdle ({ frames := 4, cells := 0, slots := 0, locals := 95 } : Room) D (tyX cI cT) (wX a cI cT) (roX xx) aS [.ref (a 3), .int p1] u r u := by
  refine rl_meth_i (cc := cX0_isIdle) (maxL := 4) (own := RX0) (ty := .boolean) (by decide) rfl rfl (Nat.le_of_ble_eq_true rfl) ?_
  intro G hG hret
  have H39 : ∀ (k8 : Int32 → Int32 → Option (Int32)) (hk8 : ∀ (v2 : Int32) (v3 : Int32), k8 v2 v3 = some r → G u 8 [(0, .ref (a 3)), (2, .int v2), (3, .int v3)] []), ∀ (v2 : Int32) (v3 : Int32), fX0_isIdle_L39 u k8 v2 v3 = some r → G u 39 [(0, .ref (a 3)), (2, .int v2), (3, .int v3)] [] := by
    intro k8 hk8 v2 v3 h
    rw [fX0_isIdle_L39] at h
    obtain ⟨x1, ex1, h⟩ := bd_ok h
    refine rl_iinc hG [(3, .int x1), (0, .ref (a 3)), (2, .int v2)] dX0_isIdle_39 2 rfl (by rw [ex1]; rfl) (Nat.le_of_ble_eq_true rfl) rfl ?_
    refine rl_goto hG (tgt := 8) dX0_isIdle_42 (by decide) ?_
    exact rl_lvs hG [1, 2, 0] rfl (hk8 v2 x1 h)
  have H8 : ∀ (n : Nat) (v2 : Int32) (v3 : Int32), fX0_isIdle_L8 u n v2 v3 = some r → G u 8 [(0, .ref (a 3)), (2, .int v2), (3, .int v3)] [] := by
    intro n
    induction n with
    | zero =>
      intro v2 v3 h
      exact absurd h (by rw [fX0_isIdle_L8]; exact fun q => by cases q)
    | succ n ih =>
      intro v2 v3 h
      rw [fX0_isIdle_L8] at h
      refine rl_iload_n hG dX0_isIdle_8 rfl 2 rfl ?_
      refine rl_sipush hG (v := 240) dX0_isIdle_9 (by decide) ?_
      refine rl_icmp_ge hG (tgt := 45) dX0_isIdle_12 (by decide) (fun c2 => ?_) (fun c2 => ?_)
      · have h := it_t h c2
        refine rl_iconst hG (v := 1) dX0_isIdle_45 (by decide) ?_
        exact rl_ret1 hret h rfl dX0_isIdle_46
      · have h := it_f h c2
        refine rl_aload_n hG dX0_isIdle_15 rfl 0 rfl ?_
        refine rl_get hG iX0_isIdle_X0 3 (gX_3 a cI cT u) hcX0 2 (Nat.le_of_ble_eq_true rfl) nX0_isIdle_0 rfl dX0_isIdle_16 ?_
        refine rl_iload_n hG dX0_isIdle_19 rfl 2 rfl ?_
        obtain ⟨x3, ix3, ex3, h⟩ := ald_ok h
        refine rl_iald hG 12 0 (gX_12 a cI cT u) rfl ix3 ex3 dX0_isIdle_20 ?_
        refine rl_iload_n hG dX0_isIdle_21 rfl 1 rfl ?_
        refine rl_iconst hG (v := -1) dX0_isIdle_22 (by decide) ?_
        refine rl_ixor hG dX0_isIdle_23 ?_
        refine rl_iand hG dX0_isIdle_24 ?_
        refine rl_if_eq hG (tgt := 39) dX0_isIdle_25 (by decide) (fun c4 => ?_) (fun c4 => ?_)
        · have h := it_t h c4
          exact rl_lvs hG [0, 1, 2] rfl (H39 (fX0_isIdle_L8 u n) (ih) v2 v3 h)
        · have h := it_f h c4
          refine rl_aload_n hG dX0_isIdle_28 rfl 0 rfl ?_
          refine rl_iload_n hG dX0_isIdle_29 rfl 2 rfl ?_
          refine rl_iload_n hG dX0_isIdle_30 rfl 1 rfl ?_
          obtain ⟨x5, hx5q, zx5, h⟩ := oz_ok h
          refine rl_callVi hG (roX_ok xx) (As := [.int v3, .int v2]) (kX0_isChanged l D a cI cT aS xx u v3 v2 x5  hx5q) gX0_isIdle_X0_isChanged rfl 3 (gX_3 a cI cT u) hcX0 2 rfl (by decide +kernel) rfl rfl (by decide) (Nat.le_of_ble_eq_true rfl) rfl dX0_isIdle_31 ?_
          refine rl_if_eq hG (tgt := 39) dX0_isIdle_34 (by decide) (fun c6 => ?_) (fun c6 => ?_)
          · have h := it_t h c6
            exact rl_lvs hG [0, 1, 2] rfl (H39 (fX0_isIdle_L8 u n) (ih) v2 v3 h)
          · have h := it_f h c6
            refine rl_iconst hG (v := 0) dX0_isIdle_37 (by decide) ?_
            exact rl_ret1 hret h rfl dX0_isIdle_38
  have h := h0
  rw [fX0_isIdle] at h
  show G u 0 [(0, .ref (a 3)), (1, .int p1)] []
  refine rl_iconst hG (v := 1) dX0_isIdle_0 (by decide) ?_
  refine rl_iload_n hG dX0_isIdle_1 rfl 1 rfl ?_
  refine rl_ishl hG dX0_isIdle_2 ?_
  refine rl_iconst hG (v := -1) dX0_isIdle_3 (by decide) ?_
  refine rl_ixor hG dX0_isIdle_4 ?_
  obtain ⟨x7, ex7, h⟩ := bd_ok h
  refine rl_istore_n hG [(2, .int x7), (0, .ref (a 3)), (1, .int p1)] dX0_isIdle_5 rfl (Nat.le_of_ble_eq_true rfl) ex7 rfl ?_
  refine rl_iconst hG (v := 0) dX0_isIdle_6 (by decide) ?_
  refine rl_istore_n hG [(3, .int (0 : Int32)), (2, .int x7), (0, .ref (a 3)), (1, .int p1)] dX0_isIdle_7 rfl (Nat.le_of_ble_eq_true rfl) rfl rfl ?_
  exact rl_lvs hG [2, 1, 0] rfl (H8 2000 x7 (0 : Int32) h)
def fX6_workAt (u : St) (t : Nat) (p1 : Int32) (p2 : Int32) : Option (Int32) := ald u (29 + t) 16 ((p1 * (2 : Int32)) + p2) (fun x1 => some x1)
theorem nX6_workAt_0 : Cond.fieldLink RX6 9 "WhoseWork$Thing" "works" "[I" ∈ wsX6_workAt := by decide +kernel
theorem iX6_workAt_X6 : ∀ w ∈ wsX60, w ∈ wsX6_workAt := by decide +kernel
set_option maxRecDepth 100000 in
set_option maxHeartbeats 4000000 in
theorem kX6_workAt (l : Launch) (D : va_G) (a : Nat → Nat) (cI cT : ClassId) (aS : Nat → Prop) (xx : Rx) (u : St) (t : Nat) (p1 : Int32) (p2 : Int32) (r : Int32) (ht : t < 6) (h0 : fX6_workAt u t p1 p2 = some r) : rl_Mi l yX6_workAt wsX6_workAt ({ frames := 0, cells := 0, slots := 0, locals := 0 } : Room) D (tyX cI cT) (wX a cI cT) (roX xx) aS [.ref (a (23 + t)), .int p1, .int p2] u r u := by
  refine rl_meth_i (cc := cX6_workAt) (maxL := 3) (own := RX6) (ty := .int) (by decide) rfl rfl (Nat.le_of_ble_eq_true rfl) ?_
  intro G hG hret
  have h := h0
  rw [fX6_workAt] at h
  show G u 0 [(0, .ref (a (23 + t))), (1, .int p1), (2, .int p2)] []
  refine rl_aload_n hG dX6_workAt_0 rfl 0 rfl ?_
  refine rl_get hG iX6_workAt_X6 (23 + t) (gX_t a cI cT u ht) hcX6 0 (Nat.le_of_ble_eq_true rfl) nX6_workAt_0 rfl dX6_workAt_1 ?_
  refine rl_iload_n hG dX6_workAt_4 rfl 1 rfl ?_
  refine rl_iconst hG (v := 2) dX6_workAt_5 (by decide) ?_
  refine rl_imul hG dX6_workAt_6 ?_
  refine rl_iload_n hG dX6_workAt_7 rfl 2 rfl ?_
  refine rl_iadd hG dX6_workAt_8 ?_
  obtain ⟨x1, ix1, ex1, h⟩ := ald_ok h
  refine rl_iald hG (29 + t) 0 (gX_u a cI cT u ht) rfl ix1 ex1 dX6_workAt_9 ?_
  exact rl_ret1 hret h rfl dX6_workAt_10
def fX1_workTold (u : St) (t : Nat) (p1 : Int32) (p2 : Int32) : Option (Int32) := o1 (fX6_workAt u t p2 ((p1 >>> (p2 &&& 31)) &&& (1 : Int32))) (fun x1 => some x1)
set_option maxRecDepth 100000 in
set_option maxHeartbeats 4000000 in
theorem kX1_workTold (l : Launch) (D : va_G) (a : Nat → Nat) (cI cT : ClassId) (aS : Nat → Prop) (xx : Rx) (u : St) (t : Nat) (p1 : Int32) (p2 : Int32) (r : Int32) (ht : t < 6) (h0 : fX1_workTold u t p1 p2 = some r) : rl_Mi l yX1_workTold wsX1_workTold ({ frames := 1, cells := 0, slots := 0, locals := 22 } : Room) D (tyX cI cT) (wX a cI cT) (roX xx) aS [.ref (a (23 + t)), .int p1, .int p2] u r u := by
  refine rl_meth_i (cc := cX1_workTold) (maxL := 3) (own := RX1) (ty := .int) (by decide) rfl rfl (Nat.le_of_ble_eq_true rfl) ?_
  intro G hG hret
  have h := h0
  rw [fX1_workTold] at h
  show G u 0 [(0, .ref (a (23 + t))), (1, .int p1), (2, .int p2)] []
  refine rl_aload_n hG dX1_workTold_0 rfl 0 rfl ?_
  refine rl_iload_n hG dX1_workTold_1 rfl 2 rfl ?_
  refine rl_iload_n hG dX1_workTold_2 rfl 1 rfl ?_
  refine rl_iload_n hG dX1_workTold_3 rfl 2 rfl ?_
  refine rl_ishr hG dX1_workTold_4 ?_
  refine rl_iconst hG (v := 1) dX1_workTold_5 (by decide) ?_
  refine rl_iand hG dX1_workTold_6 ?_
  obtain ⟨x1, hx1q, h⟩ := o1_ok h
  refine rl_callVi hG (roX_ok xx) (As := [.int p2, .int ((p1 >>> (p2 &&& 31)) &&& (1 : Int32))]) (kX6_workAt l D a cI cT aS xx u t p2 ((p1 >>> (p2 &&& 31)) &&& (1 : Int32)) x1 ht hx1q) gX1_workTold_X6_workAt rfl (23 + t) (gX_t a cI cT u ht) hcX6 2 rfl (by decide +kernel) rfl rfl (by decide) (Nat.le_of_ble_eq_true rfl) rfl dX1_workTold_7 ?_
  exact rl_ret1 hret h rfl dX1_workTold_10
def fX1_firstWrongStep_L3 (u : St) (t : Nat)  : Nat → Int32 → Int32 → Int32 → Option (Int32)
  | 0 => fun _ _ _ => none
  | n + 1 => fun v2 v3 v4 => (if (u (23 + t) 1) ≤ v4 then some (-1 : Int32) else o1 (fX1_guildTold v2 v4) (fun x2 => o1 (fX1_workTold u t v3 v4) (fun x3 => (if (6 : Int32) ≤ x2 then some v4 else (if x3 = (-1 : Int32) then some v4 else o1 (fX0_handsFor u x2 x3) (fun x6 => (if x6 = (0 : Int32) then some v4 else bd (v4 + (1 : Int32)) (fun x8 => fX1_firstWrongStep_L3 u t n v2 v3 x8))))))))
def fX1_firstWrongStep (u : St) (t : Nat) (p2 : Int32) (p3 : Int32) : Option (Int32) := fX1_firstWrongStep_L3 u t 2000 p2 p3 (0 : Int32)
theorem nX1_firstWrongStep_0 : Cond.fieldLink RX1 29 "WhoseWork$Thing" "size" "I" ∈ wsX1_firstWrongStep := by decide +kernel
theorem nX1_firstWrongStep_1 : Cond.fieldLink RX1 15 "WhoseWork$Maker" "law" "LWhoseWork$Law;" ∈ wsX1_firstWrongStep := by decide +kernel
theorem iX1_firstWrongStep_X1 : ∀ w ∈ wsX10, w ∈ wsX1_firstWrongStep := by decide +kernel
theorem iX1_firstWrongStep_X6 : ∀ w ∈ wsX60, w ∈ wsX1_firstWrongStep := by decide +kernel
set_option maxRecDepth 100000 in
set_option maxHeartbeats 4000000 in
theorem kX1_firstWrongStep (l : Launch) (D : va_G) (a : Nat → Nat) (cI cT : ClassId) (aS : Nat → Prop) (xx : Rx) (u : St) (t : Nat) (p2 : Int32) (p3 : Int32) (r : Int32) (ht : t < 6) (h0 : fX1_firstWrongStep u t p2 p3 = some r) : rl_Mi l yX1_firstWrongStep wsX1_firstWrongStep ({ frames := 4, cells := 0, slots := 0, locals := 95 } : Room) D (tyX cI cT) (wX a cI cT) (roX xx) aS [.ref (a 5), .ref (a (23 + t)), .int p2, .int p3] u r u := by
  refine rl_meth_i (cc := cX1_firstWrongStep) (maxL := 7) (own := RX1) (ty := .int) (by decide) rfl rfl (Nat.le_of_ble_eq_true rfl) ?_
  intro G hG hret
  have H3 : ∀ (n : Nat) (v2 : Int32) (v3 : Int32) (v4 : Int32), fX1_firstWrongStep_L3 u t n v2 v3 v4 = some r → G u 3 [(0, .ref (a 5)), (1, .ref (a (23 + t))), (2, .int v2), (3, .int v3), (4, .int v4)] [] := by
    intro n
    induction n with
    | zero =>
      intro v2 v3 v4 h
      exact absurd h (by rw [fX1_firstWrongStep_L3]; exact fun q => by cases q)
    | succ n ih =>
      intro v2 v3 v4 h
      rw [fX1_firstWrongStep_L3] at h
      refine rl_iload hG dX1_firstWrongStep_3 4 rfl ?_
      refine rl_aload_n hG dX1_firstWrongStep_5 rfl 1 rfl ?_
      refine rl_get hG iX1_firstWrongStep_X6 (23 + t) (gX_t a cI cT u ht) hcX6 1 (Nat.le_of_ble_eq_true rfl) nX1_firstWrongStep_0 rfl dX1_firstWrongStep_6 ?_
      refine rl_icmp_ge hG (tgt := 65) dX1_firstWrongStep_9 (by decide) (fun c1 => ?_) (fun c1 => ?_)
      · have h := it_t h c1
        refine rl_iconst hG (v := -1) dX1_firstWrongStep_65 (by decide) ?_
        exact rl_ret1 hret h rfl dX1_firstWrongStep_66
      · have h := it_f h c1
        refine rl_iload_n hG dX1_firstWrongStep_12 rfl 2 rfl ?_
        refine rl_iload hG dX1_firstWrongStep_13 4 rfl ?_
        obtain ⟨x2, hx2q, h⟩ := o1_ok h
        refine rl_callZi hG (As := [.int v2, .int v4]) (kX1_guildTold l D u v2 v4 x2 hx2q) gX1_firstWrongStep_X1_guildTold rfl 2 rfl (by decide +kernel) rfl rfl (by decide) (Nat.le_of_ble_eq_true rfl) rfl dX1_firstWrongStep_15 ?_
        refine rl_istore hG [(5, .int x2), (0, .ref (a 5)), (1, .ref (a (23 + t))), (2, .int v2), (3, .int v3), (4, .int v4)] dX1_firstWrongStep_18 (Nat.le_of_ble_eq_true rfl) rfl rfl ?_
        refine rl_aload_n hG dX1_firstWrongStep_20 rfl 2 rfl ?_
        refine rl_iload_n hG dX1_firstWrongStep_21 rfl 4 rfl ?_
        refine rl_iload hG dX1_firstWrongStep_22 5 rfl ?_
        obtain ⟨x3, hx3q, h⟩ := o1_ok h
        refine rl_callSi hG (roX_ok xx) (As := [.ref (a (23 + t)), .int v3, .int v4]) (kX1_workTold l D a cI cT aS xx u t v3 v4 x3 ht hx3q) gX1_firstWrongStep_X1_workTold rfl 3 rfl (by decide +kernel) rfl rfl (by decide) (Nat.le_of_ble_eq_true rfl) rfl dX1_firstWrongStep_24 ?_
        refine rl_istore hG [(6, .int x3), (5, .int x2), (0, .ref (a 5)), (1, .ref (a (23 + t))), (2, .int v2), (3, .int v3), (4, .int v4)] dX1_firstWrongStep_27 (Nat.le_of_ble_eq_true rfl) rfl rfl ?_
        refine rl_iload hG dX1_firstWrongStep_29 1 rfl ?_
        refine rl_bipush hG (v := 6) dX1_firstWrongStep_31 (by decide) ?_
        refine rl_icmp_ge hG (tgt := 56) dX1_firstWrongStep_33 (by decide) (fun c4 => ?_) (fun c4 => ?_)
        · have h := it_t h c4
          refine rl_iload hG dX1_firstWrongStep_56 6 rfl ?_
          exact rl_ret1 hret h rfl dX1_firstWrongStep_58
        · have h := it_f h c4
          refine rl_iload hG dX1_firstWrongStep_36 0 rfl ?_
          refine rl_iconst hG (v := -1) dX1_firstWrongStep_38 (by decide) ?_
          refine rl_icmp_eq hG (tgt := 56) dX1_firstWrongStep_39 (by decide) (fun c5 => ?_) (fun c5 => ?_)
          · have h := it_t h c5
            refine rl_iload hG dX1_firstWrongStep_56 6 rfl ?_
            exact rl_ret1 hret h rfl dX1_firstWrongStep_58
          · have h := it_f h c5
            refine rl_aload_n hG dX1_firstWrongStep_42 rfl 2 rfl ?_
            refine rl_get hG iX1_firstWrongStep_X1 5 (gX_5 a cI cT u) hcX1 0 (Nat.le_of_ble_eq_true rfl) nX1_firstWrongStep_1 rfl dX1_firstWrongStep_43 ?_
            refine rl_iload hG dX1_firstWrongStep_46 1 rfl ?_
            refine rl_iload hG dX1_firstWrongStep_48 0 rfl ?_
            obtain ⟨x6, hx6q, h⟩ := o1_ok h
            refine rl_callVi hG (roX_ok xx) (As := [.int x2, .int x3]) (kX0_handsFor l D a cI cT aS xx u x2 x3 x6  hx6q) gX1_firstWrongStep_X0_handsFor rfl 3 (gX_3 a cI cT u) hcX0 2 rfl (by decide +kernel) rfl rfl (by decide) (Nat.le_of_ble_eq_true rfl) rfl dX1_firstWrongStep_50 ?_
            refine rl_if_ne hG (tgt := 59) dX1_firstWrongStep_53 (by decide) (fun c7 => ?_) (fun c7 => ?_)
            · have h := it_f h c7
              obtain ⟨x8, ex8, h⟩ := bd_ok h
              refine rl_iinc hG [(4, .int x8), (6, .int x3), (5, .int x2), (0, .ref (a 5)), (1, .ref (a (23 + t))), (2, .int v2), (3, .int v3)] dX1_firstWrongStep_59 6 rfl (by rw [ex8]; rfl) (Nat.le_of_ble_eq_true rfl) rfl ?_
              refine rl_goto hG (tgt := 3) dX1_firstWrongStep_62 (by decide) ?_
              exact rl_lvs hG [3, 4, 5, 6, 0] rfl (ih v2 v3 x8 h)
            · have h := it_t h c7
              refine rl_iload hG dX1_firstWrongStep_56 6 rfl ?_
              exact rl_ret1 hret h rfl dX1_firstWrongStep_58
  have h := h0
  rw [fX1_firstWrongStep] at h
  show G u 0 [(0, .ref (a 5)), (1, .ref (a (23 + t))), (2, .int p2), (3, .int p3)] []
  refine rl_iconst hG (v := 0) dX1_firstWrongStep_0 (by decide) ?_
  refine rl_istore hG [(4, .int (0 : Int32)), (0, .ref (a 5)), (1, .ref (a (23 + t))), (2, .int p2), (3, .int p3)] dX1_firstWrongStep_1 (Nat.le_of_ble_eq_true rfl) rfl rfl ?_
  exact rl_lvs hG [1, 2, 3, 4, 0] rfl (H3 2000 p2 p3 (0 : Int32) h)
def fX4_ofWork (u : St)  (p1 : Int32) (p2 : Int32) (p3 : Int32) : Option (Int32) := (if p3 = (0 : Int32) then ald u 17 36 ((p1 * (6 : Int32)) + (p2 / (40 : Int32))) (fun x3 => some x3) else ald u 18 6 p1 (fun x2 => some x2))
theorem nX4_ofWork_0 : Cond.fieldLink RX4 15 "WhoseWork$Tariff" "daysOfGuilds" "[I" ∈ wsX4_ofWork := by decide +kernel
theorem nX4_ofWork_1 : Cond.fieldLink RX4 9 "WhoseWork$Tariff" "prices" "[I" ∈ wsX4_ofWork := by decide +kernel
theorem iX4_ofWork_X4 : ∀ w ∈ wsX40, w ∈ wsX4_ofWork := by decide +kernel
set_option maxRecDepth 100000 in
set_option maxHeartbeats 4000000 in
theorem kX4_ofWork (l : Launch) (D : va_G) (a : Nat → Nat) (cI cT : ClassId) (aS : Nat → Prop) (xx : Rx) (u : St)  (p1 : Int32) (p2 : Int32) (p3 : Int32) (r : Int32)  (h0 : fX4_ofWork u p1 p2 p3 = some r) : rl_Mi l yX4_ofWork wsX4_ofWork ({ frames := 0, cells := 0, slots := 0, locals := 0 } : Room) D (tyX cI cT) (wX a cI cT) (roX xx) aS [.ref (a 4), .int p1, .int p2, .int p3] u r u := by
  refine rl_meth_i (cc := cX4_ofWork) (maxL := 4) (own := RX4) (ty := .int) (by decide) rfl rfl (Nat.le_of_ble_eq_true rfl) ?_
  intro G hG hret
  have h := h0
  rw [fX4_ofWork] at h
  show G u 0 [(0, .ref (a 4)), (1, .int p1), (2, .int p2), (3, .int p3)] []
  refine rl_iload_n hG dX4_ofWork_0 rfl 3 rfl ?_
  refine rl_if_ne hG (tgt := 21) dX4_ofWork_1 (by decide) (fun c1 => ?_) (fun c1 => ?_)
  · have h := it_f h c1
    refine rl_aload_n hG dX4_ofWork_21 rfl 0 rfl ?_
    refine rl_get hG iX4_ofWork_X4 4 (gX_4 a cI cT u) hcX4 1 (Nat.le_of_ble_eq_true rfl) nX4_ofWork_0 rfl dX4_ofWork_22 ?_
    refine rl_iload_n hG dX4_ofWork_25 rfl 1 rfl ?_
    obtain ⟨x2, ix2, ex2, h⟩ := ald_ok h
    refine rl_iald hG 18 0 (gX_18 a cI cT u) rfl ix2 ex2 dX4_ofWork_26 ?_
    exact rl_ret1 hret h rfl dX4_ofWork_27
  · have h := it_t h c1
    refine rl_aload_n hG dX4_ofWork_4 rfl 0 rfl ?_
    refine rl_get hG iX4_ofWork_X4 4 (gX_4 a cI cT u) hcX4 0 (Nat.le_of_ble_eq_true rfl) nX4_ofWork_1 rfl dX4_ofWork_5 ?_
    refine rl_iload_n hG dX4_ofWork_8 rfl 1 rfl ?_
    refine rl_bipush hG (v := 6) dX4_ofWork_9 (by decide) ?_
    refine rl_imul hG dX4_ofWork_11 ?_
    refine rl_iload_n hG dX4_ofWork_12 rfl 2 rfl ?_
    refine rl_bipush hG (v := 40) dX4_ofWork_13 (by decide) ?_
    refine rl_idiv hG dX4_ofWork_15 (by decide) ?_
    refine rl_iadd hG dX4_ofWork_16 ?_
    obtain ⟨x3, ix3, ex3, h⟩ := ald_ok h
    refine rl_iald hG 17 0 (gX_17 a cI cT u) rfl ix3 ex3 dX4_ofWork_17 ?_
    refine rl_goto hG (tgt := 27) dX4_ofWork_18 (by decide) ?_
    exact rl_ret1 hret h rfl dX4_ofWork_27
def fX4_ofCarrying (u : St)  (p1 : Int32) : Option (Int32) := (if p1 = (0 : Int32) then some (u 4 2) else some (1 : Int32))
theorem nX4_ofCarrying_0 : Cond.fieldLink RX4 24 "WhoseWork$Tariff" "carryPrice" "I" ∈ wsX4_ofCarrying := by decide +kernel
theorem iX4_ofCarrying_X4 : ∀ w ∈ wsX40, w ∈ wsX4_ofCarrying := by decide +kernel
set_option maxRecDepth 100000 in
set_option maxHeartbeats 4000000 in
theorem kX4_ofCarrying (l : Launch) (D : va_G) (a : Nat → Nat) (cI cT : ClassId) (aS : Nat → Prop) (xx : Rx) (u : St)  (p1 : Int32) (r : Int32)  (h0 : fX4_ofCarrying u p1 = some r) : rl_Mi l yX4_ofCarrying wsX4_ofCarrying ({ frames := 0, cells := 0, slots := 0, locals := 0 } : Room) D (tyX cI cT) (wX a cI cT) (roX xx) aS [.ref (a 4), .int p1] u r u := by
  refine rl_meth_i (cc := cX4_ofCarrying) (maxL := 2) (own := RX4) (ty := .int) (by decide) rfl rfl (Nat.le_of_ble_eq_true rfl) ?_
  intro G hG hret
  have h := h0
  rw [fX4_ofCarrying] at h
  show G u 0 [(0, .ref (a 4)), (1, .int p1)] []
  refine rl_iload_n hG dX4_ofCarrying_0 rfl 1 rfl ?_
  refine rl_if_ne hG (tgt := 11) dX4_ofCarrying_1 (by decide) (fun c1 => ?_) (fun c1 => ?_)
  · have h := it_f h c1
    refine rl_iconst hG (v := 1) dX4_ofCarrying_11 (by decide) ?_
    exact rl_ret1 hret h rfl dX4_ofCarrying_12
  · have h := it_t h c1
    refine rl_aload_n hG dX4_ofCarrying_4 rfl 0 rfl ?_
    refine rl_get hG iX4_ofCarrying_X4 4 (gX_4 a cI cT u) hcX4 2 (Nat.le_of_ble_eq_true rfl) nX4_ofCarrying_0 rfl dX4_ofCarrying_5 ?_
    refine rl_goto hG (tgt := 12) dX4_ofCarrying_8 (by decide) ?_
    exact rl_ret1 hret h rfl dX4_ofCarrying_12
def fX1_costOfWay_L78 (u : St) (t : Nat) (k6 : Int32 → Int32 → Int32 → Int32 → Int32 → Option (Int32)) (v2 : Int32) (v3 : Int32) (v4 : Int32) (v5 : Int32) (v6 : Int32) : Option (Int32) := bd (v6 + (1 : Int32)) (fun x1 => k6 v2 v3 v4 v5 x1)
def fX1_costOfWay_L6 (u : St) (t : Nat)  : Nat → Int32 → Int32 → Int32 → Int32 → Int32 → Option (Int32)
  | 0 => fun _ _ _ _ _ => none
  | n + 1 => fun v2 v3 v4 v5 v6 => (if (u (23 + t) 1) ≤ v6 then some v5 else o1 (fX1_guildTold v2 v6) (fun x3 => o1 (fX1_workTold u t v3 v6) (fun x4 => o1 (fX4_ofWork u x3 x4 v4) (fun x5 => bd (v5 + x5) (fun x6 => (if v6 ≤ (0 : Int32) then fX1_costOfWay_L78 u t (fX1_costOfWay_L6 u t n) v2 v3 v4 x6 v6 else o1 (fX1_guildTold v2 (v6 - (1 : Int32))) (fun x8 => (if x3 = x8 then fX1_costOfWay_L78 u t (fX1_costOfWay_L6 u t n) v2 v3 v4 x6 v6 else o1 (fX4_ofCarrying u v4) (fun x10 => bd (x6 + x10) (fun x11 => fX1_costOfWay_L78 u t (fX1_costOfWay_L6 u t n) v2 v3 v4 x11 v6))))))))))
def fX1_costOfWay (u : St) (t : Nat) (p2 : Int32) (p3 : Int32) (p4 : Int32) : Option (Int32) := fX1_costOfWay_L6 u t 2000 p2 p3 p4 (0 : Int32) (0 : Int32)
theorem nX1_costOfWay_0 : Cond.fieldLink RX1 29 "WhoseWork$Thing" "size" "I" ∈ wsX1_costOfWay := by decide +kernel
theorem nX1_costOfWay_1 : Cond.fieldLink RX1 19 "WhoseWork$Maker" "tariff" "LWhoseWork$Tariff;" ∈ wsX1_costOfWay := by decide +kernel
theorem iX1_costOfWay_X1 : ∀ w ∈ wsX10, w ∈ wsX1_costOfWay := by decide +kernel
theorem iX1_costOfWay_X6 : ∀ w ∈ wsX60, w ∈ wsX1_costOfWay := by decide +kernel
set_option maxRecDepth 100000 in
set_option maxHeartbeats 4000000 in
theorem kX1_costOfWay (l : Launch) (D : va_G) (a : Nat → Nat) (cI cT : ClassId) (aS : Nat → Prop) (xx : Rx) (u : St) (t : Nat) (p2 : Int32) (p3 : Int32) (p4 : Int32) (r : Int32) (ht : t < 6) (h0 : fX1_costOfWay u t p2 p3 p4 = some r) : rl_Mi l yX1_costOfWay wsX1_costOfWay ({ frames := 2, cells := 0, slots := 0, locals := 44 } : Room) D (tyX cI cT) (wX a cI cT) (roX xx) aS [.ref (a 5), .ref (a (23 + t)), .int p2, .int p3, .int p4] u r u := by
  refine rl_meth_i (cc := cX1_costOfWay) (maxL := 8) (own := RX1) (ty := .int) (by decide) rfl rfl (Nat.le_of_ble_eq_true rfl) ?_
  intro G hG hret
  have H78 : ∀ (k6 : Int32 → Int32 → Int32 → Int32 → Int32 → Option (Int32)) (hk6 : ∀ (v2 : Int32) (v3 : Int32) (v4 : Int32) (v5 : Int32) (v6 : Int32), k6 v2 v3 v4 v5 v6 = some r → G u 6 [(0, .ref (a 5)), (1, .ref (a (23 + t))), (2, .int v2), (3, .int v3), (4, .int v4), (5, .int v5), (6, .int v6)] []), ∀ (v2 : Int32) (v3 : Int32) (v4 : Int32) (v5 : Int32) (v6 : Int32), fX1_costOfWay_L78 u t k6 v2 v3 v4 v5 v6 = some r → G u 78 [(0, .ref (a 5)), (1, .ref (a (23 + t))), (2, .int v2), (3, .int v3), (4, .int v4), (5, .int v5), (6, .int v6)] [] := by
    intro k6 hk6 v2 v3 v4 v5 v6 h
    rw [fX1_costOfWay_L78] at h
    obtain ⟨x1, ex1, h⟩ := bd_ok h
    refine rl_iinc hG [(6, .int x1), (0, .ref (a 5)), (1, .ref (a (23 + t))), (2, .int v2), (3, .int v3), (4, .int v4), (5, .int v5)] dX1_costOfWay_78 6 rfl (by rw [ex1]; rfl) (Nat.le_of_ble_eq_true rfl) rfl ?_
    refine rl_goto hG (tgt := 6) dX1_costOfWay_81 (by decide) ?_
    exact rl_lvs hG [1, 2, 3, 4, 5, 6, 0] rfl (hk6 v2 v3 v4 v5 x1 h)
  have H6 : ∀ (n : Nat) (v2 : Int32) (v3 : Int32) (v4 : Int32) (v5 : Int32) (v6 : Int32), fX1_costOfWay_L6 u t n v2 v3 v4 v5 v6 = some r → G u 6 [(0, .ref (a 5)), (1, .ref (a (23 + t))), (2, .int v2), (3, .int v3), (4, .int v4), (5, .int v5), (6, .int v6)] [] := by
    intro n
    induction n with
    | zero =>
      intro v2 v3 v4 v5 v6 h
      exact absurd h (by rw [fX1_costOfWay_L6]; exact fun q => by cases q)
    | succ n ih =>
      intro v2 v3 v4 v5 v6 h
      rw [fX1_costOfWay_L6] at h
      refine rl_iload hG dX1_costOfWay_6 6 rfl ?_
      refine rl_aload_n hG dX1_costOfWay_8 rfl 1 rfl ?_
      refine rl_get hG iX1_costOfWay_X6 (23 + t) (gX_t a cI cT u ht) hcX6 1 (Nat.le_of_ble_eq_true rfl) nX1_costOfWay_0 rfl dX1_costOfWay_9 ?_
      refine rl_icmp_ge hG (tgt := 84) dX1_costOfWay_12 (by decide) (fun c2 => ?_) (fun c2 => ?_)
      · have h := it_t h c2
        refine rl_iload hG dX1_costOfWay_84 5 rfl ?_
        exact rl_ret1 hret h rfl dX1_costOfWay_86
      · have h := it_f h c2
        refine rl_iload_n hG dX1_costOfWay_15 rfl 2 rfl ?_
        refine rl_iload hG dX1_costOfWay_16 6 rfl ?_
        obtain ⟨x3, hx3q, h⟩ := o1_ok h
        refine rl_callZi hG (As := [.int v2, .int v6]) (kX1_guildTold l D u v2 v6 x3 hx3q) gX1_costOfWay_X1_guildTold rfl 2 rfl (by decide +kernel) rfl rfl (by decide) (Nat.le_of_ble_eq_true rfl) rfl dX1_costOfWay_18 ?_
        refine rl_istore hG [(7, .int x3), (0, .ref (a 5)), (1, .ref (a (23 + t))), (2, .int v2), (3, .int v3), (4, .int v4), (5, .int v5), (6, .int v6)] dX1_costOfWay_21 (Nat.le_of_ble_eq_true rfl) rfl rfl ?_
        refine rl_iload hG dX1_costOfWay_23 6 rfl ?_
        refine rl_aload_n hG dX1_costOfWay_25 rfl 1 rfl ?_
        refine rl_get hG iX1_costOfWay_X1 5 (gX_5 a cI cT u) hcX1 1 (Nat.le_of_ble_eq_true rfl) nX1_costOfWay_1 rfl dX1_costOfWay_26 ?_
        refine rl_iload hG dX1_costOfWay_29 0 rfl ?_
        refine rl_aload_n hG dX1_costOfWay_31 rfl 2 rfl ?_
        refine rl_iload_n hG dX1_costOfWay_32 rfl 4 rfl ?_
        refine rl_iload hG dX1_costOfWay_33 7 rfl ?_
        obtain ⟨x4, hx4q, h⟩ := o1_ok h
        refine rl_callSi hG (roX_ok xx) (As := [.ref (a (23 + t)), .int v3, .int v6]) (kX1_workTold l D a cI cT aS xx u t v3 v6 x4 ht hx4q) gX1_costOfWay_X1_workTold rfl 3 rfl (by decide +kernel) rfl rfl (by decide) (Nat.le_of_ble_eq_true rfl) rfl dX1_costOfWay_35 ?_
        refine rl_iload hG dX1_costOfWay_38 5 rfl ?_
        obtain ⟨x5, hx5q, h⟩ := o1_ok h
        refine rl_callVi hG (roX_ok xx) (As := [.int x3, .int x4, .int v4]) (kX4_ofWork l D a cI cT aS xx u x3 x4 v4 x5  hx5q) gX1_costOfWay_X4_ofWork rfl 4 (gX_4 a cI cT u) hcX4 3 rfl (by decide +kernel) rfl rfl (by decide) (Nat.le_of_ble_eq_true rfl) rfl dX1_costOfWay_40 ?_
        refine rl_iadd hG dX1_costOfWay_43 ?_
        obtain ⟨x6, ex6, h⟩ := bd_ok h
        refine rl_istore hG [(5, .int x6), (7, .int x3), (0, .ref (a 5)), (1, .ref (a (23 + t))), (2, .int v2), (3, .int v3), (4, .int v4), (6, .int v6)] dX1_costOfWay_44 (Nat.le_of_ble_eq_true rfl) ex6 rfl ?_
        refine rl_iload hG dX1_costOfWay_46 7 rfl ?_
        refine rl_if_le hG (tgt := 78) dX1_costOfWay_48 (by decide) (fun c7 => ?_) (fun c7 => ?_)
        · have h := it_t h c7
          exact rl_lvs hG [2, 3, 4, 5, 6, 0, 7] rfl (H78 (fX1_costOfWay_L6 u t n) (ih) v2 v3 v4 x6 v6 h)
        · have h := it_f h c7
          refine rl_iload hG dX1_costOfWay_51 1 rfl ?_
          refine rl_iload_n hG dX1_costOfWay_53 rfl 4 rfl ?_
          refine rl_iload hG dX1_costOfWay_54 7 rfl ?_
          refine rl_iconst hG (v := 1) dX1_costOfWay_56 (by decide) ?_
          refine rl_isub hG dX1_costOfWay_57 ?_
          obtain ⟨x8, hx8q, h⟩ := o1_ok h
          refine rl_callZi hG (As := [.int v2, .int (v6 - (1 : Int32))]) (kX1_guildTold l D u v2 (v6 - (1 : Int32)) x8 hx8q) gX1_costOfWay_X1_guildTold rfl 2 rfl (by decide +kernel) rfl rfl (by decide) (Nat.le_of_ble_eq_true rfl) rfl dX1_costOfWay_58 ?_
          refine rl_icmp_eq hG (tgt := 78) dX1_costOfWay_61 (by decide) (fun c9 => ?_) (fun c9 => ?_)
          · have h := it_t h c9
            exact rl_lvs hG [2, 3, 4, 5, 6, 0, 7] rfl (H78 (fX1_costOfWay_L6 u t n) (ih) v2 v3 v4 x6 v6 h)
          · have h := it_f h c9
            refine rl_iload hG dX1_costOfWay_64 0 rfl ?_
            refine rl_aload_n hG dX1_costOfWay_66 rfl 2 rfl ?_
            refine rl_get hG iX1_costOfWay_X1 5 (gX_5 a cI cT u) hcX1 1 (Nat.le_of_ble_eq_true rfl) nX1_costOfWay_1 rfl dX1_costOfWay_67 ?_
            refine rl_iload hG dX1_costOfWay_70 6 rfl ?_
            obtain ⟨x10, hx10q, h⟩ := o1_ok h
            refine rl_callVi hG (roX_ok xx) (As := [.int v4]) (kX4_ofCarrying l D a cI cT aS xx u v4 x10  hx10q) gX1_costOfWay_X4_ofCarrying rfl 4 (gX_4 a cI cT u) hcX4 1 rfl (by decide +kernel) rfl rfl (by decide) (Nat.le_of_ble_eq_true rfl) rfl dX1_costOfWay_72 ?_
            refine rl_iadd hG dX1_costOfWay_75 ?_
            obtain ⟨x11, ex11, h⟩ := bd_ok h
            refine rl_istore hG [(5, .int x11), (7, .int x3), (0, .ref (a 5)), (1, .ref (a (23 + t))), (2, .int v2), (3, .int v3), (4, .int v4), (6, .int v6)] dX1_costOfWay_76 (Nat.le_of_ble_eq_true rfl) ex11 rfl ?_
            exact rl_lvs hG [2, 3, 4, 5, 6, 0, 7] rfl (H78 (fX1_costOfWay_L6 u t n) (ih) v2 v3 v4 x11 v6 h)
  have h := h0
  rw [fX1_costOfWay] at h
  show G u 0 [(0, .ref (a 5)), (1, .ref (a (23 + t))), (2, .int p2), (3, .int p3), (4, .int p4)] []
  refine rl_iconst hG (v := 0) dX1_costOfWay_0 (by decide) ?_
  refine rl_istore hG [(5, .int (0 : Int32)), (0, .ref (a 5)), (1, .ref (a (23 + t))), (2, .int p2), (3, .int p3), (4, .int p4)] dX1_costOfWay_1 (Nat.le_of_ble_eq_true rfl) rfl rfl ?_
  refine rl_iconst hG (v := 0) dX1_costOfWay_3 (by decide) ?_
  refine rl_istore hG [(6, .int (0 : Int32)), (5, .int (0 : Int32)), (0, .ref (a 5)), (1, .ref (a (23 + t))), (2, .int p2), (3, .int p3), (4, .int p4)] dX1_costOfWay_4 (Nat.le_of_ble_eq_true rfl) rfl rfl ?_
  exact rl_lvs hG [2, 3, 4, 5, 6, 1, 0] rfl (H6 2000 p2 p3 p4 (0 : Int32) (0 : Int32) h)
def fX1_handsOfWay_L6 (u : St) (t : Nat)  : Nat → Int32 → Int32 → Int32 → Int32 → Option (Int32)
  | 0 => fun _ _ _ _ => none
  | n + 1 => fun v2 v3 v4 v5 => (if (u (23 + t) 1) ≤ v5 then some v4 else o1 (fX1_guildTold v2 v5) (fun x2 => o1 (fX1_workTold u t v3 v5) (fun x3 => o1 (fX0_handsFor u x2 x3) (fun x4 => bd (v4 ||| x4) (fun x5 => bd (v5 + (1 : Int32)) (fun x6 => fX1_handsOfWay_L6 u t n v2 v3 x5 x6))))))
def fX1_handsOfWay (u : St) (t : Nat) (p2 : Int32) (p3 : Int32) : Option (Int32) := fX1_handsOfWay_L6 u t 2000 p2 p3 (0 : Int32) (0 : Int32)
theorem nX1_handsOfWay_0 : Cond.fieldLink RX1 29 "WhoseWork$Thing" "size" "I" ∈ wsX1_handsOfWay := by decide +kernel
theorem nX1_handsOfWay_1 : Cond.fieldLink RX1 15 "WhoseWork$Maker" "law" "LWhoseWork$Law;" ∈ wsX1_handsOfWay := by decide +kernel
theorem iX1_handsOfWay_X1 : ∀ w ∈ wsX10, w ∈ wsX1_handsOfWay := by decide +kernel
theorem iX1_handsOfWay_X6 : ∀ w ∈ wsX60, w ∈ wsX1_handsOfWay := by decide +kernel
set_option maxRecDepth 100000 in
set_option maxHeartbeats 4000000 in
theorem kX1_handsOfWay (l : Launch) (D : va_G) (a : Nat → Nat) (cI cT : ClassId) (aS : Nat → Prop) (xx : Rx) (u : St) (t : Nat) (p2 : Int32) (p3 : Int32) (r : Int32) (ht : t < 6) (h0 : fX1_handsOfWay u t p2 p3 = some r) : rl_Mi l yX1_handsOfWay wsX1_handsOfWay ({ frames := 4, cells := 0, slots := 0, locals := 95 } : Room) D (tyX cI cT) (wX a cI cT) (roX xx) aS [.ref (a 5), .ref (a (23 + t)), .int p2, .int p3] u r u := by
  refine rl_meth_i (cc := cX1_handsOfWay) (maxL := 6) (own := RX1) (ty := .int) (by decide) rfl rfl (Nat.le_of_ble_eq_true rfl) ?_
  intro G hG hret
  have H6 : ∀ (n : Nat) (v2 : Int32) (v3 : Int32) (v4 : Int32) (v5 : Int32), fX1_handsOfWay_L6 u t n v2 v3 v4 v5 = some r → G u 6 [(0, .ref (a 5)), (1, .ref (a (23 + t))), (2, .int v2), (3, .int v3), (4, .int v4), (5, .int v5)] [] := by
    intro n
    induction n with
    | zero =>
      intro v2 v3 v4 v5 h
      exact absurd h (by rw [fX1_handsOfWay_L6]; exact fun q => by cases q)
    | succ n ih =>
      intro v2 v3 v4 v5 h
      rw [fX1_handsOfWay_L6] at h
      refine rl_iload hG dX1_handsOfWay_6 5 rfl ?_
      refine rl_aload_n hG dX1_handsOfWay_8 rfl 1 rfl ?_
      refine rl_get hG iX1_handsOfWay_X6 (23 + t) (gX_t a cI cT u ht) hcX6 1 (Nat.le_of_ble_eq_true rfl) nX1_handsOfWay_0 rfl dX1_handsOfWay_9 ?_
      refine rl_icmp_ge hG (tgt := 46) dX1_handsOfWay_12 (by decide) (fun c1 => ?_) (fun c1 => ?_)
      · have h := it_t h c1
        refine rl_iload hG dX1_handsOfWay_46 4 rfl ?_
        exact rl_ret1 hret h rfl dX1_handsOfWay_48
      · have h := it_f h c1
        refine rl_iload hG dX1_handsOfWay_15 4 rfl ?_
        refine rl_aload_n hG dX1_handsOfWay_17 rfl 0 rfl ?_
        refine rl_get hG iX1_handsOfWay_X1 5 (gX_5 a cI cT u) hcX1 0 (Nat.le_of_ble_eq_true rfl) nX1_handsOfWay_1 rfl dX1_handsOfWay_18 ?_
        refine rl_iload_n hG dX1_handsOfWay_21 rfl 2 rfl ?_
        refine rl_iload hG dX1_handsOfWay_22 5 rfl ?_
        obtain ⟨x2, hx2q, h⟩ := o1_ok h
        refine rl_callZi hG (As := [.int v2, .int v5]) (kX1_guildTold l D u v2 v5 x2 hx2q) gX1_handsOfWay_X1_guildTold rfl 2 rfl (by decide +kernel) rfl rfl (by decide) (Nat.le_of_ble_eq_true rfl) rfl dX1_handsOfWay_24 ?_
        refine rl_aload_n hG dX1_handsOfWay_27 rfl 1 rfl ?_
        refine rl_iload_n hG dX1_handsOfWay_28 rfl 3 rfl ?_
        refine rl_iload hG dX1_handsOfWay_29 5 rfl ?_
        obtain ⟨x3, hx3q, h⟩ := o1_ok h
        refine rl_callSi hG (roX_ok xx) (As := [.ref (a (23 + t)), .int v3, .int v5]) (kX1_workTold l D a cI cT aS xx u t v3 v5 x3 ht hx3q) gX1_handsOfWay_X1_workTold rfl 3 rfl (by decide +kernel) rfl rfl (by decide) (Nat.le_of_ble_eq_true rfl) rfl dX1_handsOfWay_31 ?_
        obtain ⟨x4, hx4q, h⟩ := o1_ok h
        refine rl_callVi hG (roX_ok xx) (As := [.int x2, .int x3]) (kX0_handsFor l D a cI cT aS xx u x2 x3 x4  hx4q) gX1_handsOfWay_X0_handsFor rfl 3 (gX_3 a cI cT u) hcX0 2 rfl (by decide +kernel) rfl rfl (by decide) (Nat.le_of_ble_eq_true rfl) rfl dX1_handsOfWay_34 ?_
        refine rl_ior hG dX1_handsOfWay_37 ?_
        obtain ⟨x5, ex5, h⟩ := bd_ok h
        refine rl_istore hG [(4, .int x5), (0, .ref (a 5)), (1, .ref (a (23 + t))), (2, .int v2), (3, .int v3), (5, .int v5)] dX1_handsOfWay_38 (Nat.le_of_ble_eq_true rfl) ex5 rfl ?_
        obtain ⟨x6, ex6, h⟩ := bd_ok h
        refine rl_iinc hG [(5, .int x6), (4, .int x5), (0, .ref (a 5)), (1, .ref (a (23 + t))), (2, .int v2), (3, .int v3)] dX1_handsOfWay_40 5 rfl (by rw [ex6]; rfl) (Nat.le_of_ble_eq_true rfl) rfl ?_
        refine rl_goto hG (tgt := 6) dX1_handsOfWay_43 (by decide) ?_
        exact rl_lvs hG [2, 3, 4, 5, 1, 0] rfl (ih v2 v3 x5 x6 h)
  have h := h0
  rw [fX1_handsOfWay] at h
  show G u 0 [(0, .ref (a 5)), (1, .ref (a (23 + t))), (2, .int p2), (3, .int p3)] []
  refine rl_iconst hG (v := 0) dX1_handsOfWay_0 (by decide) ?_
  refine rl_istore hG [(4, .int (0 : Int32)), (0, .ref (a 5)), (1, .ref (a (23 + t))), (2, .int p2), (3, .int p3)] dX1_handsOfWay_1 (Nat.le_of_ble_eq_true rfl) rfl rfl ?_
  refine rl_iconst hG (v := 0) dX1_handsOfWay_3 (by decide) ?_
  refine rl_istore hG [(5, .int (0 : Int32)), (4, .int (0 : Int32)), (0, .ref (a 5)), (1, .ref (a (23 + t))), (2, .int p2), (3, .int p3)] dX1_handsOfWay_4 (Nat.le_of_ble_eq_true rfl) rfl rfl ?_
  exact rl_lvs hG [2, 3, 4, 5, 1, 0] rfl (H6 2000 p2 p3 (0 : Int32) (0 : Int32) h)
def fX1_setsForWork_L73 (u : St) (k12 : Int32 → Int32 → Int64 → Int32 → Option (Int64)) (v1 : Int32) (v2 : Int32) (v3 : Int64) (v5 : Int32) : Option (Int64) := bd (v5 + (1 : Int32)) (fun x1 => k12 v1 v2 v3 x1)
def fX1_setsForWork_L12 (u : St)  : Nat → Int32 → Int32 → Int64 → Int32 → Option (Int64)
  | 0 => fun _ _ _ _ => none
  | n + 1 => fun v1 v2 v3 v5 => (if (6 : Int32) ≤ v5 then some v3 else o1 (fX0_leave u v5 v1 v2) (fun x3 => (if x3 = (1 : Int32) then hld v5 (fun x9 => bd (v3 ||| x9) (fun x10 => fX1_setsForWork_L73 u (fX1_setsForWork_L12 u n) v1 v2 x10 v5)) else (if x3 = (0 : Int32) then fX1_setsForWork_L73 u (fX1_setsForWork_L12 u n) v1 v2 v3 v5 else hld v5 (fun x6 => hld (x3 - (2 : Int32)) (fun x7 => bd (v3 ||| (x6 &&& x7)) (fun x8 => fX1_setsForWork_L73 u (fX1_setsForWork_L12 u n) v1 v2 x8 v5)))))))
def fX1_setsForWork (u : St)  (p1 : Int32) (p2 : Int32) : Option (Int64) := (if p1 = (-1 : Int32) then some (0 : Int64) else fX1_setsForWork_L12 u 2000 p1 p2 (0 : Int64) (0 : Int32))
theorem nX1_setsForWork_0 : Cond.fieldLink RX1 15 "WhoseWork$Maker" "law" "LWhoseWork$Law;" ∈ wsX1_setsForWork := by decide +kernel
theorem iX1_setsForWork_X1 : ∀ w ∈ wsX10, w ∈ wsX1_setsForWork := by decide +kernel
set_option maxRecDepth 100000 in
set_option maxHeartbeats 4000000 in
theorem kX1_setsForWork (l : Launch) (D : va_G) (a : Nat → Nat) (cI cT : ClassId) (aS : Nat → Prop) (xx : Rx) (u : St)  (p1 : Int32) (p2 : Int32) (r : Int64)  (h0 : fX1_setsForWork u p1 p2 = some r) : rl_Ml l yX1_setsForWork wsX1_setsForWork ({ frames := 3, cells := 0, slots := 0, locals := 72 } : Room) D (tyX cI cT) (wX a cI cT) (roX xx) aS [.ref (a 5), .int p1, .int p2] u r u := by
  refine rl_meth_l (cc := cX1_setsForWork) (maxL := 7) (own := RX1) (by decide) rfl rfl (Nat.le_of_ble_eq_true rfl) ?_
  intro G hG hret
  have H73 : ∀ (k12 : Int32 → Int32 → Int64 → Int32 → Option (Int64)) (hk12 : ∀ (v1 : Int32) (v2 : Int32) (v3 : Int64) (v5 : Int32), k12 v1 v2 v3 v5 = some r → G u 12 [(0, .ref (a 5)), (1, .int v1), (2, .int v2), (3, .long v3), (5, .int v5)] []), ∀ (v1 : Int32) (v2 : Int32) (v3 : Int64) (v5 : Int32), fX1_setsForWork_L73 u k12 v1 v2 v3 v5 = some r → G u 73 [(0, .ref (a 5)), (1, .int v1), (2, .int v2), (3, .long v3), (5, .int v5)] [] := by
    intro k12 hk12 v1 v2 v3 v5 h
    rw [fX1_setsForWork_L73] at h
    obtain ⟨x1, ex1, h⟩ := bd_ok h
    refine rl_iinc hG [(5, .int x1), (0, .ref (a 5)), (1, .int v1), (2, .int v2), (3, .long v3)] dX1_setsForWork_73 4 rfl (by rw [ex1]; rfl) (Nat.le_of_ble_eq_true rfl) rfl ?_
    refine rl_goto hG (tgt := 12) dX1_setsForWork_76 (by decide) ?_
    exact rl_lvs hG [1, 2, 3, 4, 0] rfl (hk12 v1 v2 v3 x1 h)
  have H12 : ∀ (n : Nat) (v1 : Int32) (v2 : Int32) (v3 : Int64) (v5 : Int32), fX1_setsForWork_L12 u n v1 v2 v3 v5 = some r → G u 12 [(0, .ref (a 5)), (1, .int v1), (2, .int v2), (3, .long v3), (5, .int v5)] [] := by
    intro n
    induction n with
    | zero =>
      intro v1 v2 v3 v5 h
      exact absurd h (by rw [fX1_setsForWork_L12]; exact fun q => by cases q)
    | succ n ih =>
      intro v1 v2 v3 v5 h
      rw [fX1_setsForWork_L12] at h
      refine rl_iload hG dX1_setsForWork_12 4 rfl ?_
      refine rl_bipush hG (v := 6) dX1_setsForWork_14 (by decide) ?_
      refine rl_icmp_ge hG (tgt := 79) dX1_setsForWork_16 (by decide) (fun c2 => ?_) (fun c2 => ?_)
      · have h := it_t h c2
        refine rl_lload_n hG dX1_setsForWork_79 rfl 3 rfl ?_
        exact rl_retl1 hret h dX1_setsForWork_80
      · have h := it_f h c2
        refine rl_aload_n hG dX1_setsForWork_19 rfl 0 rfl ?_
        refine rl_get hG iX1_setsForWork_X1 5 (gX_5 a cI cT u) hcX1 0 (Nat.le_of_ble_eq_true rfl) nX1_setsForWork_0 rfl dX1_setsForWork_20 ?_
        refine rl_iload hG dX1_setsForWork_23 4 rfl ?_
        refine rl_iload_n hG dX1_setsForWork_25 rfl 1 rfl ?_
        refine rl_iload_n hG dX1_setsForWork_26 rfl 2 rfl ?_
        obtain ⟨x3, hx3q, h⟩ := o1_ok h
        refine rl_callVi hG (roX_ok xx) (As := [.int v5, .int v1, .int v2]) (kX0_leave l D a cI cT aS xx u v5 v1 v2 x3  hx3q) gX1_setsForWork_X0_leave rfl 3 (gX_3 a cI cT u) hcX0 3 rfl (by decide +kernel) rfl rfl (by decide) (Nat.le_of_ble_eq_true rfl) rfl dX1_setsForWork_27 ?_
        refine rl_istore hG [(6, .int x3), (0, .ref (a 5)), (1, .int v1), (2, .int v2), (3, .long v3), (5, .int v5)] dX1_setsForWork_30 (Nat.le_of_ble_eq_true rfl) rfl rfl ?_
        refine rl_iload hG dX1_setsForWork_32 0 rfl ?_
        refine rl_iconst hG (v := 1) dX1_setsForWork_34 (by decide) ?_
        refine rl_icmp_ne hG (tgt := 50) dX1_setsForWork_35 (by decide) (fun c4 => ?_) (fun c4 => ?_)
        · have h := it_f h c4
          refine rl_iload hG dX1_setsForWork_50 0 rfl ?_
          refine rl_if_eq hG (tgt := 73) dX1_setsForWork_52 (by decide) (fun c5 => ?_) (fun c5 => ?_)
          · have h := it_t h c5
            exact rl_lvs hG [1, 2, 3, 4, 5] rfl (H73 (fX1_setsForWork_L12 u n) (ih) v1 v2 v3 v5 h)
          · have h := it_f h c5
            refine rl_lload_n hG dX1_setsForWork_55 rfl 4 rfl ?_
            refine rl_getsN hG (v := .ref xx.2.2.1) (fun A U H h => h.2.2.2.2.1) (nestX_RX1_58 xx) dX1_setsForWork_56 ?_
            refine rl_iload hG dX1_setsForWork_59 5 rfl ?_
            obtain ⟨x6, ix6, ex6, h⟩ := hld_ok h
            refine rl_tl hG (fun A U H h => h.2.2.2.2.2.1) ix6 (v := .long x6) (by rw [ex6]) dX1_setsForWork_61 ?_
            refine rl_getsN hG (v := .ref xx.2.2.1) (fun A U H h => h.2.2.2.2.1) (nestX_RX1_58 xx) dX1_setsForWork_62 ?_
            refine rl_iload hG dX1_setsForWork_65 0 rfl ?_
            refine rl_iconst hG (v := 2) dX1_setsForWork_67 (by decide) ?_
            refine rl_isub hG dX1_setsForWork_68 ?_
            obtain ⟨x7, ix7, ex7, h⟩ := hld_ok h
            refine rl_tl hG (fun A U H h => h.2.2.2.2.2.1) ix7 (v := .long x7) (by rw [ex7]) dX1_setsForWork_69 ?_
            refine rl_land hG dX1_setsForWork_70 ?_
            refine rl_lor hG dX1_setsForWork_71 ?_
            obtain ⟨x8, ex8, h⟩ := bd_ok h
            refine rl_lstore_n hG [(3, .long x8), (6, .int x3), (0, .ref (a 5)), (1, .int v1), (2, .int v2), (5, .int v5)] dX1_setsForWork_72 rfl (Nat.le_of_ble_eq_true rfl) ex8 rfl ?_
            exact rl_lvs hG [2, 3, 4, 0, 5] rfl (H73 (fX1_setsForWork_L12 u n) (ih) v1 v2 x8 v5 h)
        · have h := it_t h c4
          refine rl_lload_n hG dX1_setsForWork_38 rfl 4 rfl ?_
          refine rl_getsN hG (v := .ref xx.2.2.1) (fun A U H h => h.2.2.2.2.1) (nestX_RX1_58 xx) dX1_setsForWork_39 ?_
          refine rl_iload hG dX1_setsForWork_42 5 rfl ?_
          obtain ⟨x9, ix9, ex9, h⟩ := hld_ok h
          refine rl_tl hG (fun A U H h => h.2.2.2.2.2.1) ix9 (v := .long x9) (by rw [ex9]) dX1_setsForWork_44 ?_
          refine rl_lor hG dX1_setsForWork_45 ?_
          obtain ⟨x10, ex10, h⟩ := bd_ok h
          refine rl_lstore_n hG [(3, .long x10), (6, .int x3), (0, .ref (a 5)), (1, .int v1), (2, .int v2), (5, .int v5)] dX1_setsForWork_46 rfl (Nat.le_of_ble_eq_true rfl) ex10 rfl ?_
          refine rl_goto hG (tgt := 73) dX1_setsForWork_47 (by decide) ?_
          exact rl_lvs hG [2, 3, 4, 0, 5] rfl (H73 (fX1_setsForWork_L12 u n) (ih) v1 v2 x10 v5 h)
  have h := h0
  rw [fX1_setsForWork] at h
  show G u 0 [(0, .ref (a 5)), (1, .int p1), (2, .int p2)] []
  refine rl_lconst hG (v := 0) dX1_setsForWork_0 (by decide) ?_
  refine rl_lstore_n hG [(3, .long (0 : Int64)), (0, .ref (a 5)), (1, .int p1), (2, .int p2)] dX1_setsForWork_1 rfl (Nat.le_of_ble_eq_true rfl) rfl rfl ?_
  refine rl_iload_n hG dX1_setsForWork_2 rfl 2 rfl ?_
  refine rl_iconst hG (v := -1) dX1_setsForWork_3 (by decide) ?_
  refine rl_icmp_ne hG (tgt := 9) dX1_setsForWork_4 (by decide) (fun c11 => ?_) (fun c11 => ?_)
  · have h := it_f h c11
    refine rl_iconst hG (v := 0) dX1_setsForWork_9 (by decide) ?_
    refine rl_istore hG [(5, .int (0 : Int32)), (3, .long (0 : Int64)), (0, .ref (a 5)), (1, .int p1), (2, .int p2)] dX1_setsForWork_10 (Nat.le_of_ble_eq_true rfl) rfl rfl ?_
    exact rl_lvs hG [2, 3, 4, 1, 0] rfl (H12 2000 p1 p2 (0 : Int64) (0 : Int32) h)
  · have h := it_t h c11
    refine rl_lload_n hG dX1_setsForWork_7 rfl 0 rfl ?_
    exact rl_retl1 hret h dX1_setsForWork_8
def fX1_setsForThing_L59 (u : St) (t : Nat) (k7 : Int32 → Int32 → Int64 → Int32 → Option (Int64)) (v2 : Int32) (v3 : Int32) (v6 : Int64) (v8 : Int32) : Option (Int64) := bd (v8 + (1 : Int32)) (fun x1 => k7 v2 v3 v6 x1)
def fX1_setsForThing_L7 (u : St) (t : Nat)  : Nat → Int32 → Int32 → Int64 → Int32 → Option (Int64)
  | 0 => fun _ _ _ _ => none
  | n + 1 => fun v2 v3 v6 v8 => (if (u (23 + t) 1) ≤ v8 then some v6 else (if (lg_cmp v6 (0 : Int64)) = (0 : Int32) then some v6 else (if v8 = v2 then fX1_setsForThing_L59 u t (fX1_setsForThing_L7 u t n) v2 v3 v6 v8 else o1 (fX6_workAt u t v8 (0 : Int32)) (fun x5 => o1 (fX1_setsForWork u x5 v3) (fun x6 => o1 (fX6_workAt u t v8 (1 : Int32)) (fun x7 => o1 (fX1_setsForWork u x7 v3) (fun x8 => bd (v6 &&& (x6 ||| x8)) (fun x9 => fX1_setsForThing_L59 u t (fX1_setsForThing_L7 u t n) v2 v3 x9 v8))))))))
def fX1_setsForThing (u : St) (t : Nat) (p2 : Int32) (p3 : Int32) (p4 : Int64) : Option (Int64) := fX1_setsForThing_L7 u t 2000 p2 p3 p4 (0 : Int32)
theorem nX1_setsForThing_0 : Cond.fieldLink RX1 29 "WhoseWork$Thing" "size" "I" ∈ wsX1_setsForThing := by decide +kernel
theorem iX1_setsForThing_X6 : ∀ w ∈ wsX60, w ∈ wsX1_setsForThing := by decide +kernel
set_option maxRecDepth 100000 in
set_option maxHeartbeats 4000000 in
theorem kX1_setsForThing (l : Launch) (D : va_G) (a : Nat → Nat) (cI cT : ClassId) (aS : Nat → Prop) (xx : Rx) (u : St) (t : Nat) (p2 : Int32) (p3 : Int32) (p4 : Int64) (r : Int64) (ht : t < 6) (h0 : fX1_setsForThing u t p2 p3 p4 = some r) : rl_Ml l yX1_setsForThing wsX1_setsForThing ({ frames := 4, cells := 0, slots := 0, locals := 98 } : Room) D (tyX cI cT) (wX a cI cT) (roX xx) aS [.ref (a 5), .ref (a (23 + t)), .int p2, .int p3, .long p4] u r u := by
  refine rl_meth_l (cc := cX1_setsForThing) (maxL := 9) (own := RX1) (by decide) rfl rfl (Nat.le_of_ble_eq_true rfl) ?_
  intro G hG hret
  have H59 : ∀ (k7 : Int32 → Int32 → Int64 → Int32 → Option (Int64)) (hk7 : ∀ (v2 : Int32) (v3 : Int32) (v6 : Int64) (v8 : Int32), k7 v2 v3 v6 v8 = some r → G u 7 [(0, .ref (a 5)), (1, .ref (a (23 + t))), (2, .int v2), (3, .int v3), (6, .long v6), (8, .int v8)] []), ∀ (v2 : Int32) (v3 : Int32) (v6 : Int64) (v8 : Int32), fX1_setsForThing_L59 u t k7 v2 v3 v6 v8 = some r → G u 59 [(0, .ref (a 5)), (1, .ref (a (23 + t))), (2, .int v2), (3, .int v3), (6, .long v6), (8, .int v8)] [] := by
    intro k7 hk7 v2 v3 v6 v8 h
    rw [fX1_setsForThing_L59] at h
    obtain ⟨x1, ex1, h⟩ := bd_ok h
    refine rl_iinc hG [(8, .int x1), (0, .ref (a 5)), (1, .ref (a (23 + t))), (2, .int v2), (3, .int v3), (6, .long v6)] dX1_setsForThing_59 5 rfl (by rw [ex1]; rfl) (Nat.le_of_ble_eq_true rfl) rfl ?_
    refine rl_goto hG (tgt := 7) dX1_setsForThing_62 (by decide) ?_
    exact rl_lvs hG [1, 2, 3, 4, 5, 0] rfl (hk7 v2 v3 v6 x1 h)
  have H7 : ∀ (n : Nat) (v2 : Int32) (v3 : Int32) (v6 : Int64) (v8 : Int32), fX1_setsForThing_L7 u t n v2 v3 v6 v8 = some r → G u 7 [(0, .ref (a 5)), (1, .ref (a (23 + t))), (2, .int v2), (3, .int v3), (6, .long v6), (8, .int v8)] [] := by
    intro n
    induction n with
    | zero =>
      intro v2 v3 v6 v8 h
      exact absurd h (by rw [fX1_setsForThing_L7]; exact fun q => by cases q)
    | succ n ih =>
      intro v2 v3 v6 v8 h
      rw [fX1_setsForThing_L7] at h
      refine rl_iload hG dX1_setsForThing_7 5 rfl ?_
      refine rl_aload_n hG dX1_setsForThing_9 rfl 1 rfl ?_
      refine rl_get hG iX1_setsForThing_X6 (23 + t) (gX_t a cI cT u ht) hcX6 1 (Nat.le_of_ble_eq_true rfl) nX1_setsForThing_0 rfl dX1_setsForThing_10 ?_
      refine rl_icmp_ge hG (tgt := 65) dX1_setsForThing_13 (by decide) (fun c2 => ?_) (fun c2 => ?_)
      · have h := it_t h c2
        refine rl_lload hG dX1_setsForThing_65 4 rfl ?_
        exact rl_retl1 hret h dX1_setsForThing_67
      · have h := it_f h c2
        refine rl_lload hG dX1_setsForThing_16 4 rfl ?_
        refine rl_lconst hG (v := 0) dX1_setsForThing_18 (by decide) ?_
        refine rl_lcmp hG dX1_setsForThing_19 ?_
        refine rl_if_eq hG (tgt := 65) dX1_setsForThing_20 (by decide) (fun c3 => ?_) (fun c3 => ?_)
        · have h := it_t h c3
          refine rl_lload hG dX1_setsForThing_65 4 rfl ?_
          exact rl_retl1 hret h dX1_setsForThing_67
        · have h := it_f h c3
          refine rl_iload hG dX1_setsForThing_23 5 rfl ?_
          refine rl_iload_n hG dX1_setsForThing_25 rfl 2 rfl ?_
          refine rl_icmp_eq hG (tgt := 59) dX1_setsForThing_26 (by decide) (fun c4 => ?_) (fun c4 => ?_)
          · have h := it_t h c4
            exact rl_lvs hG [0, 1, 2, 3, 4, 5] rfl (H59 (fX1_setsForThing_L7 u t n) (ih) v2 v3 v6 v8 h)
          · have h := it_f h c4
            refine rl_lload hG dX1_setsForThing_29 4 rfl ?_
            refine rl_aload_n hG dX1_setsForThing_31 rfl 0 rfl ?_
            refine rl_aload_n hG dX1_setsForThing_32 rfl 1 rfl ?_
            refine rl_iload hG dX1_setsForThing_33 5 rfl ?_
            refine rl_iconst hG (v := 0) dX1_setsForThing_35 (by decide) ?_
            obtain ⟨x5, hx5q, h⟩ := o1_ok h
            refine rl_callVi hG (roX_ok xx) (As := [.int v8, .int (0 : Int32)]) (kX6_workAt l D a cI cT aS xx u t v8 (0 : Int32) x5 ht hx5q) gX1_setsForThing_X6_workAt rfl (23 + t) (gX_t a cI cT u ht) hcX6 2 rfl (by decide +kernel) rfl rfl (by decide) (Nat.le_of_ble_eq_true rfl) rfl dX1_setsForThing_36 ?_
            refine rl_iload_n hG dX1_setsForThing_39 rfl 3 rfl ?_
            obtain ⟨x6, hx6q, h⟩ := o1_ok h
            refine rl_callVl hG (roX_ok xx) (As := [.int x5, .int v3]) (kX1_setsForWork l D a cI cT aS xx u x5 v3 x6  hx6q) gX1_setsForThing_X1_setsForWork rfl 5 (gX_5 a cI cT u) hcX1 2 rfl (by decide +kernel) rfl rfl (by decide) (Nat.le_of_ble_eq_true rfl) rfl dX1_setsForThing_40 ?_
            refine rl_aload_n hG dX1_setsForThing_43 rfl 0 rfl ?_
            refine rl_aload_n hG dX1_setsForThing_44 rfl 1 rfl ?_
            refine rl_iload hG dX1_setsForThing_45 5 rfl ?_
            refine rl_iconst hG (v := 1) dX1_setsForThing_47 (by decide) ?_
            obtain ⟨x7, hx7q, h⟩ := o1_ok h
            refine rl_callVi hG (roX_ok xx) (As := [.int v8, .int (1 : Int32)]) (kX6_workAt l D a cI cT aS xx u t v8 (1 : Int32) x7 ht hx7q) gX1_setsForThing_X6_workAt rfl (23 + t) (gX_t a cI cT u ht) hcX6 2 rfl (by decide +kernel) rfl rfl (by decide) (Nat.le_of_ble_eq_true rfl) rfl dX1_setsForThing_48 ?_
            refine rl_iload_n hG dX1_setsForThing_51 rfl 3 rfl ?_
            obtain ⟨x8, hx8q, h⟩ := o1_ok h
            refine rl_callVl hG (roX_ok xx) (As := [.int x7, .int v3]) (kX1_setsForWork l D a cI cT aS xx u x7 v3 x8  hx8q) gX1_setsForThing_X1_setsForWork rfl 5 (gX_5 a cI cT u) hcX1 2 rfl (by decide +kernel) rfl rfl (by decide) (Nat.le_of_ble_eq_true rfl) rfl dX1_setsForThing_52 ?_
            refine rl_lor hG dX1_setsForThing_55 ?_
            refine rl_land hG dX1_setsForThing_56 ?_
            obtain ⟨x9, ex9, h⟩ := bd_ok h
            refine rl_lstore hG [(6, .long x9), (0, .ref (a 5)), (1, .ref (a (23 + t))), (2, .int v2), (3, .int v3), (8, .int v8)] dX1_setsForThing_57 (Nat.le_of_ble_eq_true rfl) ex9 rfl ?_
            exact rl_lvs hG [1, 2, 3, 4, 0, 5] rfl (H59 (fX1_setsForThing_L7 u t n) (ih) v2 v3 x9 v8 h)
  have h := h0
  rw [fX1_setsForThing] at h
  show G u 0 [(0, .ref (a 5)), (1, .ref (a (23 + t))), (2, .int p2), (3, .int p3), (4, .long p4)] []
  refine rl_lload hG dX1_setsForThing_0 4 rfl ?_
  refine rl_lstore hG [(6, .long p4), (0, .ref (a 5)), (1, .ref (a (23 + t))), (2, .int p2), (3, .int p3), (4, .long p4)] dX1_setsForThing_2 (Nat.le_of_ble_eq_true rfl) rfl rfl ?_
  refine rl_iconst hG (v := 0) dX1_setsForThing_4 (by decide) ?_
  refine rl_istore hG [(8, .int (0 : Int32)), (6, .long p4), (0, .ref (a 5)), (1, .ref (a (23 + t))), (2, .int p2), (3, .int p3), (4, .long p4)] dX1_setsForThing_5 (Nat.le_of_ble_eq_true rfl) rfl rfl ?_
  exact rl_lvs hG [2, 3, 4, 5, 1, 0] rfl (H7 2000 p2 p3 p4 (0 : Int32) h)
def fX1_makers (u : St) (t : Nat)  : Option (Int64) := o1 (fX1_setsForThing u t (-1 : Int32) (-1 : Int32) (-1 : Int64)) (fun x1 => some x1)
theorem nX1_makers_0 : Cond.constantLong RX1 66 (-1) ∈ wsX1_makers := by decide +kernel
set_option maxRecDepth 100000 in
set_option maxHeartbeats 4000000 in
theorem kX1_makers (l : Launch) (D : va_G) (a : Nat → Nat) (cI cT : ClassId) (aS : Nat → Prop) (xx : Rx) (u : St) (t : Nat)  (r : Int64) (ht : t < 6) (h0 : fX1_makers u t = some r) : rl_Ml l yX1_makers wsX1_makers ({ frames := 5, cells := 0, slots := 0, locals := 126 } : Room) D (tyX cI cT) (wX a cI cT) (roX xx) aS [.ref (a 5), .ref (a (23 + t))] u r u := by
  refine rl_meth_l (cc := cX1_makers) (maxL := 2) (own := RX1) (by decide) rfl rfl (Nat.le_of_ble_eq_true rfl) ?_
  intro G hG hret
  have h := h0
  rw [fX1_makers] at h
  show G u 0 [(0, .ref (a 5)), (1, .ref (a (23 + t)))] []
  refine rl_aload_n hG dX1_makers_0 rfl 0 rfl ?_
  refine rl_aload_n hG dX1_makers_1 rfl 1 rfl ?_
  refine rl_iconst hG (v := -1) dX1_makers_2 (by decide) ?_
  refine rl_iconst hG (v := -1) dX1_makers_3 (by decide) ?_
  refine rl_ldc2 hG (v := -1) dX1_makers_4 nX1_makers_0 ?_
  obtain ⟨x1, hx1q, h⟩ := o1_ok h
  refine rl_callVl hG (roX_ok xx) (As := [.ref (a (23 + t)), .int (-1 : Int32), .int (-1 : Int32), .long (-1 : Int64)]) (kX1_setsForThing l D a cI cT aS xx u t (-1 : Int32) (-1 : Int32) (-1 : Int64) x1 ht hx1q) gX1_makers_X1_setsForThing rfl 5 (gX_5 a cI cT u) hcX1 4 rfl (by decide +kernel) rfl rfl (by decide) (Nat.le_of_ble_eq_true rfl) rfl dX1_makers_7 ?_
  exact rl_retl1 hret h dX1_makers_10
def fX1_isMadeBy (u : St) (t : Nat) (p2 : Int32) : Option (Int32) := o1 (fX1_makers u t) (fun x1 => (if (lg_cmp ((lush x1 p2) &&& (1 : Int64)) (0 : Int64)) = (0 : Int32) then some (0 : Int32) else some (1 : Int32)))
set_option maxRecDepth 100000 in
set_option maxHeartbeats 4000000 in
theorem kX1_isMadeBy (l : Launch) (D : va_G) (a : Nat → Nat) (cI cT : ClassId) (aS : Nat → Prop) (xx : Rx) (u : St) (t : Nat) (p2 : Int32) (r : Int32) (ht : t < 6) (h0 : fX1_isMadeBy u t p2 = some r) : rl_Mi l yX1_isMadeBy wsX1_isMadeBy ({ frames := 6, cells := 0, slots := 0, locals := 147 } : Room) D (tyX cI cT) (wX a cI cT) (roX xx) aS [.ref (a 5), .ref (a (23 + t)), .int p2] u r u := by
  refine rl_meth_i (cc := cX1_isMadeBy) (maxL := 3) (own := RX1) (ty := .boolean) (by decide) rfl rfl (Nat.le_of_ble_eq_true rfl) ?_
  intro G hG hret
  have h := h0
  rw [fX1_isMadeBy] at h
  show G u 0 [(0, .ref (a 5)), (1, .ref (a (23 + t))), (2, .int p2)] []
  refine rl_aload_n hG dX1_isMadeBy_0 rfl 0 rfl ?_
  refine rl_aload_n hG dX1_isMadeBy_1 rfl 1 rfl ?_
  obtain ⟨x1, hx1q, h⟩ := o1_ok h
  refine rl_callVl hG (roX_ok xx) (As := [.ref (a (23 + t))]) (kX1_makers l D a cI cT aS xx u t x1 ht hx1q) gX1_isMadeBy_X1_makers rfl 5 (gX_5 a cI cT u) hcX1 1 rfl (by decide +kernel) rfl rfl (by decide) (Nat.le_of_ble_eq_true rfl) rfl dX1_isMadeBy_2 ?_
  refine rl_iload_n hG dX1_isMadeBy_5 rfl 2 rfl ?_
  refine rl_lushr hG dX1_isMadeBy_6 ?_
  refine rl_lconst hG (v := 1) dX1_isMadeBy_7 (by decide) ?_
  refine rl_land hG dX1_isMadeBy_8 ?_
  refine rl_lconst hG (v := 0) dX1_isMadeBy_9 (by decide) ?_
  refine rl_lcmp hG dX1_isMadeBy_10 ?_
  refine rl_if_eq hG (tgt := 18) dX1_isMadeBy_11 (by decide) (fun c2 => ?_) (fun c2 => ?_)
  · have h := it_t h c2
    refine rl_iconst hG (v := 0) dX1_isMadeBy_18 (by decide) ?_
    exact rl_ret1 hret h rfl dX1_isMadeBy_19
  · have h := it_f h c2
    refine rl_iconst hG (v := 1) dX1_isMadeBy_14 (by decide) ?_
    refine rl_goto hG (tgt := 19) dX1_isMadeBy_15 (by decide) ?_
    exact rl_ret1 hret h rfl dX1_isMadeBy_19
def fX1_costOfWork_L18 (u : St)  (v1 : Int32) (v2 : Int32) (v3 : Int32) (v4 : Int32) (w0 : Int32) : Option (Int32) := (if w0 = (0 : Int32) then some (1000000 : Int32) else (if (w0 &&& (v3 ^^^ (-1 : Int32))) = (0 : Int32) then o1 (fX4_ofWork u v2 v1 v4) (fun x3 => some x3) else some (1000000 : Int32)))
def fX1_costOfWork (u : St)  (p1 : Int32) (p2 : Int32) (p3 : Int32) (p4 : Int32) : Option (Int32) := (if p1 = (-1 : Int32) then fX1_costOfWork_L18 u p1 p2 p3 p4 (0 : Int32) else o1 (fX0_handsFor u p2 p1) (fun x5 => fX1_costOfWork_L18 u p1 p2 p3 p4 x5))
theorem nX1_costOfWork_0 : Cond.constant RX1 91 (1000000) ∈ wsX1_costOfWork := by decide +kernel
theorem nX1_costOfWork_1 : Cond.fieldLink RX1 19 "WhoseWork$Maker" "tariff" "LWhoseWork$Tariff;" ∈ wsX1_costOfWork := by decide +kernel
theorem nX1_costOfWork_2 : Cond.fieldLink RX1 15 "WhoseWork$Maker" "law" "LWhoseWork$Law;" ∈ wsX1_costOfWork := by decide +kernel
theorem iX1_costOfWork_X1 : ∀ w ∈ wsX10, w ∈ wsX1_costOfWork := by decide +kernel
set_option maxRecDepth 100000 in
set_option maxHeartbeats 4000000 in
theorem kX1_costOfWork (l : Launch) (D : va_G) (a : Nat → Nat) (cI cT : ClassId) (aS : Nat → Prop) (xx : Rx) (u : St)  (p1 : Int32) (p2 : Int32) (p3 : Int32) (p4 : Int32) (r : Int32)  (h0 : fX1_costOfWork u p1 p2 p3 p4 = some r) : rl_Mi l yX1_costOfWork wsX1_costOfWork ({ frames := 4, cells := 0, slots := 0, locals := 95 } : Room) D (tyX cI cT) (wX a cI cT) (roX xx) aS [.ref (a 5), .int p1, .int p2, .int p3, .int p4] u r u := by
  refine rl_meth_i (cc := cX1_costOfWork) (maxL := 6) (own := RX1) (ty := .int) (by decide) rfl rfl (Nat.le_of_ble_eq_true rfl) ?_
  intro G hG hret
  have H18 : ∀ (v1 : Int32) (v2 : Int32) (v3 : Int32) (v4 : Int32) (w0 : Int32), fX1_costOfWork_L18 u v1 v2 v3 v4 w0 = some r → G u 18 [(0, .ref (a 5)), (1, .int v1), (2, .int v2), (3, .int v3), (4, .int v4)] [.int w0] := by
    intro  v1 v2 v3 v4 w0 h
    rw [fX1_costOfWork_L18] at h
    refine rl_istore hG [(5, .int w0), (0, .ref (a 5)), (1, .int v1), (2, .int v2), (3, .int v3), (4, .int v4)] dX1_costOfWork_18 (Nat.le_of_ble_eq_true rfl) rfl rfl ?_
    refine rl_iload hG dX1_costOfWork_20 0 rfl ?_
    refine rl_if_eq hG (tgt := 34) dX1_costOfWork_22 (by decide) (fun c1 => ?_) (fun c1 => ?_)
    · have h := it_t h c1
      refine rl_ldc hG (v := 1000000) dX1_costOfWork_34 nX1_costOfWork_0 ?_
      refine rl_goto hG (tgt := 50) dX1_costOfWork_36 (by decide) ?_
      exact rl_ret1 hret h rfl dX1_costOfWork_50
    · have h := it_f h c1
      refine rl_iload hG dX1_costOfWork_25 0 rfl ?_
      refine rl_iload_n hG dX1_costOfWork_27 rfl 4 rfl ?_
      refine rl_iconst hG (v := -1) dX1_costOfWork_28 (by decide) ?_
      refine rl_ixor hG dX1_costOfWork_29 ?_
      refine rl_iand hG dX1_costOfWork_30 ?_
      refine rl_if_eq hG (tgt := 39) dX1_costOfWork_31 (by decide) (fun c2 => ?_) (fun c2 => ?_)
      · have h := it_t h c2
        refine rl_aload_n hG dX1_costOfWork_39 rfl 1 rfl ?_
        refine rl_get hG iX1_costOfWork_X1 5 (gX_5 a cI cT u) hcX1 1 (Nat.le_of_ble_eq_true rfl) nX1_costOfWork_1 rfl dX1_costOfWork_40 ?_
        refine rl_iload_n hG dX1_costOfWork_43 rfl 3 rfl ?_
        refine rl_iload_n hG dX1_costOfWork_44 rfl 2 rfl ?_
        refine rl_iload hG dX1_costOfWork_45 5 rfl ?_
        obtain ⟨x3, hx3q, h⟩ := o1_ok h
        refine rl_callVi hG (roX_ok xx) (As := [.int v2, .int v1, .int v4]) (kX4_ofWork l D a cI cT aS xx u v2 v1 v4 x3  hx3q) gX1_costOfWork_X4_ofWork rfl 4 (gX_4 a cI cT u) hcX4 3 rfl (by decide +kernel) rfl rfl (by decide) (Nat.le_of_ble_eq_true rfl) rfl dX1_costOfWork_47 ?_
        exact rl_ret1 hret h rfl dX1_costOfWork_50
      · have h := it_f h c2
        refine rl_ldc hG (v := 1000000) dX1_costOfWork_34 nX1_costOfWork_0 ?_
        refine rl_goto hG (tgt := 50) dX1_costOfWork_36 (by decide) ?_
        exact rl_ret1 hret h rfl dX1_costOfWork_50
  have h := h0
  rw [fX1_costOfWork] at h
  show G u 0 [(0, .ref (a 5)), (1, .int p1), (2, .int p2), (3, .int p3), (4, .int p4)] []
  refine rl_iload_n hG dX1_costOfWork_0 rfl 1 rfl ?_
  refine rl_iconst hG (v := -1) dX1_costOfWork_1 (by decide) ?_
  refine rl_icmp_ne hG (tgt := 9) dX1_costOfWork_2 (by decide) (fun c4 => ?_) (fun c4 => ?_)
  · have h := it_f h c4
    refine rl_aload_n hG dX1_costOfWork_9 rfl 0 rfl ?_
    refine rl_get hG iX1_costOfWork_X1 5 (gX_5 a cI cT u) hcX1 0 (Nat.le_of_ble_eq_true rfl) nX1_costOfWork_2 rfl dX1_costOfWork_10 ?_
    refine rl_iload_n hG dX1_costOfWork_13 rfl 2 rfl ?_
    refine rl_iload_n hG dX1_costOfWork_14 rfl 1 rfl ?_
    obtain ⟨x5, hx5q, h⟩ := o1_ok h
    refine rl_callVi hG (roX_ok xx) (As := [.int p2, .int p1]) (kX0_handsFor l D a cI cT aS xx u p2 p1 x5  hx5q) gX1_costOfWork_X0_handsFor rfl 3 (gX_3 a cI cT u) hcX0 2 rfl (by decide +kernel) rfl rfl (by decide) (Nat.le_of_ble_eq_true rfl) rfl dX1_costOfWork_15 ?_
    exact rl_lvs hG [0, 1, 2, 3, 4] rfl (H18 p1 p2 p3 p4 x5 h)
  · have h := it_t h c4
    refine rl_iconst hG (v := 0) dX1_costOfWork_5 (by decide) ?_
    refine rl_goto hG (tgt := 18) dX1_costOfWork_6 (by decide) ?_
    exact rl_lvs hG [0, 1, 2, 3, 4] rfl (H18 p1 p2 p3 p4 (0 : Int32) h)
def fX1_costOfStep (u : St) (t : Nat) (p2 : Int32) (p3 : Int32) (p4 : Int32) (p5 : Int32) : Option (Int32) := o1 (fX6_workAt u t p2 (0 : Int32)) (fun x1 => o1 (fX1_costOfWork u x1 p3 p4 p5) (fun x2 => o1 (fX6_workAt u t p2 (1 : Int32)) (fun x3 => o1 (fX1_costOfWork u x3 p3 p4 p5) (fun x4 => some (mi x2 x4)))))
theorem nX1_costOfStep_0 : Cond.methodLink RX1 92 Lib.Math.min.name ∈ wsX1_costOfStep := by decide +kernel
theorem nX1_costOfStep_1 : Cond.static Lib.Math.min.name ∈ wsX1_costOfStep := by decide +kernel
theorem nX1_costOfStep_2 : Cond.initialized "java/lang/Math" ∈ wsX1_costOfStep := by decide +kernel
theorem nX1_costOfStep_3 : Cond.code Lib.Math.min.name Lib.Math.min.code 2 (some .int) ∈ wsX1_costOfStep := by decide +kernel
set_option maxRecDepth 100000 in
set_option maxHeartbeats 4000000 in
theorem kX1_costOfStep (l : Launch) (D : va_G) (a : Nat → Nat) (cI cT : ClassId) (aS : Nat → Prop) (xx : Rx) (u : St) (t : Nat) (p2 : Int32) (p3 : Int32) (p4 : Int32) (p5 : Int32) (r : Int32) (ht : t < 6) (h0 : fX1_costOfStep u t p2 p3 p4 p5 = some r) : rl_Mi l yX1_costOfStep wsX1_costOfStep ({ frames := 5, cells := 0, slots := 0, locals := 120 } : Room) D (tyX cI cT) (wX a cI cT) (roX xx) aS [.ref (a 5), .ref (a (23 + t)), .int p2, .int p3, .int p4, .int p5] u r u := by
  refine rl_meth_i (cc := cX1_costOfStep) (maxL := 6) (own := RX1) (ty := .int) (by decide) rfl rfl (Nat.le_of_ble_eq_true rfl) ?_
  intro G hG hret
  have h := h0
  rw [fX1_costOfStep] at h
  show G u 0 [(0, .ref (a 5)), (1, .ref (a (23 + t))), (2, .int p2), (3, .int p3), (4, .int p4), (5, .int p5)] []
  refine rl_aload_n hG dX1_costOfStep_0 rfl 0 rfl ?_
  refine rl_aload_n hG dX1_costOfStep_1 rfl 1 rfl ?_
  refine rl_iload_n hG dX1_costOfStep_2 rfl 2 rfl ?_
  refine rl_iconst hG (v := 0) dX1_costOfStep_3 (by decide) ?_
  obtain ⟨x1, hx1q, h⟩ := o1_ok h
  refine rl_callVi hG (roX_ok xx) (As := [.int p2, .int (0 : Int32)]) (kX6_workAt l D a cI cT aS xx u t p2 (0 : Int32) x1 ht hx1q) gX1_costOfStep_X6_workAt rfl (23 + t) (gX_t a cI cT u ht) hcX6 2 rfl (by decide +kernel) rfl rfl (by decide) (Nat.le_of_ble_eq_true rfl) rfl dX1_costOfStep_4 ?_
  refine rl_iload_n hG dX1_costOfStep_7 rfl 3 rfl ?_
  refine rl_iload hG dX1_costOfStep_8 4 rfl ?_
  refine rl_iload hG dX1_costOfStep_10 5 rfl ?_
  obtain ⟨x2, hx2q, h⟩ := o1_ok h
  refine rl_callVi hG (roX_ok xx) (As := [.int x1, .int p3, .int p4, .int p5]) (kX1_costOfWork l D a cI cT aS xx u x1 p3 p4 p5 x2  hx2q) gX1_costOfStep_X1_costOfWork rfl 5 (gX_5 a cI cT u) hcX1 4 rfl (by decide +kernel) rfl rfl (by decide) (Nat.le_of_ble_eq_true rfl) rfl dX1_costOfStep_12 ?_
  refine rl_aload_n hG dX1_costOfStep_15 rfl 0 rfl ?_
  refine rl_aload_n hG dX1_costOfStep_16 rfl 1 rfl ?_
  refine rl_iload_n hG dX1_costOfStep_17 rfl 2 rfl ?_
  refine rl_iconst hG (v := 1) dX1_costOfStep_18 (by decide) ?_
  obtain ⟨x3, hx3q, h⟩ := o1_ok h
  refine rl_callVi hG (roX_ok xx) (As := [.int p2, .int (1 : Int32)]) (kX6_workAt l D a cI cT aS xx u t p2 (1 : Int32) x3 ht hx3q) gX1_costOfStep_X6_workAt rfl (23 + t) (gX_t a cI cT u ht) hcX6 2 rfl (by decide +kernel) rfl rfl (by decide) (Nat.le_of_ble_eq_true rfl) rfl dX1_costOfStep_19 ?_
  refine rl_iload_n hG dX1_costOfStep_22 rfl 3 rfl ?_
  refine rl_iload hG dX1_costOfStep_23 4 rfl ?_
  refine rl_iload hG dX1_costOfStep_25 5 rfl ?_
  obtain ⟨x4, hx4q, h⟩ := o1_ok h
  refine rl_callVi hG (roX_ok xx) (As := [.int x3, .int p3, .int p4, .int p5]) (kX1_costOfWork l D a cI cT aS xx u x3 p3 p4 p5 x4  hx4q) gX1_costOfStep_X1_costOfWork rfl 5 (gX_5 a cI cT u) hcX1 4 rfl (by decide +kernel) rfl rfl (by decide) (Nat.le_of_ble_eq_true rfl) rfl dX1_costOfStep_27 ?_
  refine rl_mmin hG nX1_costOfStep_0 nX1_costOfStep_1 nX1_costOfStep_2 nX1_costOfStep_3 (Nat.le_of_ble_eq_true rfl) (Nat.le_of_ble_eq_true rfl) dX1_costOfStep_30 ?_
  exact rl_ret1 hret h rfl dX1_costOfStep_33
def fX1_reckon_L124 (t : Nat) (k29 : St → Int32 → Int32 → Int32 → Int32 → Int32 → Option (Int32 × St)) (u : St) (v2 : Int32) (v3 : Int32) (v4 : Int32) (v6 : Int32) (v7 : Int32) : Option (Int32 × St) := bd (v6 + (-1 : Int32)) (fun x1 => k29 u v2 v3 v4 v7 x1)
def fX1_reckon_L41 (t : Nat) (k29 : St → Int32 → Int32 → Int32 → Int32 → Int32 → Option (Int32 × St)) : Nat → St → Int32 → Int32 → Int32 → Int32 → Int32 → Int32 → Int32 → Option (Int32 × St)
  | 0 => fun _ _ _ _ _ _ _ _ => none
  | n + 1 => fun u v2 v3 v4 v5 v6 v7 v8 => (if (6 : Int32) ≤ v8 then fX1_reckon_L124 t k29 u v2 v3 v4 v6 v7 else bd ((v6 * (6 : Int32)) + v8) (fun x3 => ald u 19 54 (x3 + (6 : Int32)) (fun x4 => bd (mi x4 (v5 + v4)) (fun x5 => o1 (fX1_costOfStep u t v6 v8 v2 v3) (fun x6 => asr u 19 54 x3 (mi (1000000 : Int32) (x6 + x5)) (fun u7 => ald u7 19 54 x3 (fun x8 => bd (mi v7 x8) (fun x9 => bd (v8 + (1 : Int32)) (fun x10 => fX1_reckon_L41 t k29 n u7 v2 v3 v4 v5 v6 x9 x10)))))))))
def fX1_reckon_L29 (t : Nat)  : Nat → St → Int32 → Int32 → Int32 → Int32 → Int32 → Option (Int32 × St)
  | 0 => fun _ _ _ _ _ _ => none
  | n + 1 => fun u v2 v3 v4 v5 v6 => (if v6 < (0 : Int32) then some (v5, u) else fX1_reckon_L41 t (fX1_reckon_L29 t n) 2000 u v2 v3 v4 v5 v6 (1000000 : Int32) (0 : Int32))
def fX1_reckon (u : St) (t : Nat) (p2 : Int32) (p3 : Int32) : Option (Int32 × St) := o1 (fX4_ofCarrying u p3) (fun x12 => bd (st_up u 19 (fl u 19 54 (0 : Int32))) (fun u13 => bd ((u13 (23 + t) 1) - (1 : Int32)) (fun x14 => fX1_reckon_L29 t 2000 u13 p2 p3 x12 (0 : Int32) x14)))
theorem nX1_reckon_0 : Cond.fieldLink RX1 9 "WhoseWork$Maker" "onward" "[I" ∈ wsX1_reckon := by decide +kernel
theorem nX1_reckon_1 : Cond.methodLink RX1 92 Lib.Math.min.name ∈ wsX1_reckon := by decide +kernel
theorem nX1_reckon_2 : Cond.static Lib.Math.min.name ∈ wsX1_reckon := by decide +kernel
theorem nX1_reckon_3 : Cond.initialized "java/lang/Math" ∈ wsX1_reckon := by decide +kernel
theorem nX1_reckon_4 : Cond.code Lib.Math.min.name Lib.Math.min.code 2 (some .int) ∈ wsX1_reckon := by decide +kernel
theorem nX1_reckon_5 : Cond.constant RX1 91 (1000000) ∈ wsX1_reckon := by decide +kernel
theorem nX1_reckon_6 : Cond.fieldLink RX1 19 "WhoseWork$Maker" "tariff" "LWhoseWork$Tariff;" ∈ wsX1_reckon := by decide +kernel
theorem nX1_reckon_7 : Cond.fieldLink RX1 29 "WhoseWork$Thing" "size" "I" ∈ wsX1_reckon := by decide +kernel
theorem iX1_reckon_X1 : ∀ w ∈ wsX10, w ∈ wsX1_reckon := by decide +kernel
theorem iX1_reckon_X6 : ∀ w ∈ wsX60, w ∈ wsX1_reckon := by decide +kernel
set_option maxRecDepth 100000 in
set_option maxHeartbeats 4000000 in
theorem kX1_reckon (l : Launch) (D : va_G) (a : Nat → Nat) (cI cT : ClassId) (aS : Nat → Prop) (xx : Rx) (u : St) (t : Nat) (p2 : Int32) (p3 : Int32) (r : Int32) (τ : St) (ht : t < 6) (h0 : fX1_reckon u t p2 p3 = some (r, τ)) : rl_Mi l yX1_reckon wsX1_reckon ({ frames := 6, cells := 0, slots := 0, locals := 145 } : Room) D (tyX cI cT) (wX a cI cT) (roX xx) aS [.ref (a 5), .ref (a (23 + t)), .int p2, .int p3] u r τ := by
  refine rl_meth_i (cc := cX1_reckon) (maxL := 11) (own := RX1) (ty := .int) (by decide) rfl rfl (Nat.le_of_ble_eq_true rfl) ?_
  intro G hG hret
  have H124 : ∀ (k29 : St → Int32 → Int32 → Int32 → Int32 → Int32 → Option (Int32 × St)) (hk29 : ∀ (u : St) (v2 : Int32) (v3 : Int32) (v4 : Int32) (v5 : Int32) (v6 : Int32), k29 u v2 v3 v4 v5 v6 = some (r, τ) → G u 29 [(0, .ref (a 5)), (1, .ref (a (23 + t))), (2, .int v2), (3, .int v3), (4, .int v4), (5, .int v5), (6, .int v6)] []), ∀ (u : St) (v2 : Int32) (v3 : Int32) (v4 : Int32) (v6 : Int32) (v7 : Int32), fX1_reckon_L124 t k29 u v2 v3 v4 v6 v7 = some (r, τ) → G u 124 [(0, .ref (a 5)), (1, .ref (a (23 + t))), (2, .int v2), (3, .int v3), (4, .int v4), (6, .int v6), (7, .int v7)] [] := by
    intro k29 hk29 u v2 v3 v4 v6 v7 h
    rw [fX1_reckon_L124] at h
    refine rl_iload hG dX1_reckon_124 6 rfl ?_
    refine rl_istore hG [(5, .int v7), (0, .ref (a 5)), (1, .ref (a (23 + t))), (2, .int v2), (3, .int v3), (4, .int v4), (6, .int v6), (7, .int v7)] dX1_reckon_126 (Nat.le_of_ble_eq_true rfl) rfl rfl ?_
    obtain ⟨x1, ex1, h⟩ := bd_ok h
    refine rl_iinc hG [(6, .int x1), (5, .int v7), (0, .ref (a 5)), (1, .ref (a (23 + t))), (2, .int v2), (3, .int v3), (4, .int v4), (7, .int v7)] dX1_reckon_128 6 rfl (by rw [ex1]; rfl) (Nat.le_of_ble_eq_true rfl) rfl ?_
    refine rl_goto hG (tgt := 29) dX1_reckon_131 (by decide) ?_
    exact rl_lvs hG [2, 3, 4, 5, 6, 1, 0] rfl (hk29 u v2 v3 v4 v7 x1 h)
  have H41 : ∀ (k29 : St → Int32 → Int32 → Int32 → Int32 → Int32 → Option (Int32 × St)) (hk29 : ∀ (u : St) (v2 : Int32) (v3 : Int32) (v4 : Int32) (v5 : Int32) (v6 : Int32), k29 u v2 v3 v4 v5 v6 = some (r, τ) → G u 29 [(0, .ref (a 5)), (1, .ref (a (23 + t))), (2, .int v2), (3, .int v3), (4, .int v4), (5, .int v5), (6, .int v6)] []), ∀ (n : Nat) (u : St) (v2 : Int32) (v3 : Int32) (v4 : Int32) (v5 : Int32) (v6 : Int32) (v7 : Int32) (v8 : Int32), fX1_reckon_L41 t k29 n u v2 v3 v4 v5 v6 v7 v8 = some (r, τ) → G u 41 [(0, .ref (a 5)), (1, .ref (a (23 + t))), (2, .int v2), (3, .int v3), (4, .int v4), (5, .int v5), (6, .int v6), (7, .int v7), (8, .int v8)] [] := by
    intro k29 hk29
    intro n
    induction n with
    | zero =>
      intro u v2 v3 v4 v5 v6 v7 v8 h
      exact absurd h (by rw [fX1_reckon_L41]; exact fun q => by cases q)
    | succ n ih =>
      intro u v2 v3 v4 v5 v6 v7 v8 h
      rw [fX1_reckon_L41] at h
      refine rl_iload hG dX1_reckon_41 8 rfl ?_
      refine rl_bipush hG (v := 6) dX1_reckon_43 (by decide) ?_
      refine rl_icmp_ge hG (tgt := 124) dX1_reckon_45 (by decide) (fun c2 => ?_) (fun c2 => ?_)
      · have h := it_t h c2
        exact rl_lvs hG [0, 1, 2, 3, 4, 6, 7] rfl (H124 (k29) (hk29) u v2 v3 v4 v6 v7 h)
      · have h := it_f h c2
        refine rl_iload hG dX1_reckon_48 6 rfl ?_
        refine rl_bipush hG (v := 6) dX1_reckon_50 (by decide) ?_
        refine rl_imul hG dX1_reckon_52 ?_
        refine rl_iload hG dX1_reckon_53 8 rfl ?_
        refine rl_iadd hG dX1_reckon_55 ?_
        obtain ⟨x3, ex3, h⟩ := bd_ok h
        refine rl_istore hG [(9, .int x3), (0, .ref (a 5)), (1, .ref (a (23 + t))), (2, .int v2), (3, .int v3), (4, .int v4), (5, .int v5), (6, .int v6), (7, .int v7), (8, .int v8)] dX1_reckon_56 (Nat.le_of_ble_eq_true rfl) ex3 rfl ?_
        refine rl_aload_n hG dX1_reckon_58 rfl 1 rfl ?_
        refine rl_get hG iX1_reckon_X1 5 (gX_5 a cI cT u) hcX1 2 (Nat.le_of_ble_eq_true rfl) nX1_reckon_0 rfl dX1_reckon_59 ?_
        refine rl_iload hG dX1_reckon_62 0 rfl ?_
        refine rl_bipush hG (v := 6) dX1_reckon_64 (by decide) ?_
        refine rl_iadd hG dX1_reckon_66 ?_
        obtain ⟨x4, ix4, ex4, h⟩ := ald_ok h
        refine rl_iald hG 19 0 (gX_19 a cI cT u) rfl ix4 ex4 dX1_reckon_67 ?_
        refine rl_iload hG dX1_reckon_68 6 rfl ?_
        refine rl_iload hG dX1_reckon_70 5 rfl ?_
        refine rl_iadd hG dX1_reckon_72 ?_
        refine rl_mmin hG nX1_reckon_1 nX1_reckon_2 nX1_reckon_3 nX1_reckon_4 (Nat.le_of_ble_eq_true rfl) (Nat.le_of_ble_eq_true rfl) dX1_reckon_73 ?_
        obtain ⟨x5, ex5, h⟩ := bd_ok h
        refine rl_istore hG [(10, .int x5), (9, .int x3), (0, .ref (a 5)), (1, .ref (a (23 + t))), (2, .int v2), (3, .int v3), (4, .int v4), (5, .int v5), (6, .int v6), (7, .int v7), (8, .int v8)] dX1_reckon_76 (Nat.le_of_ble_eq_true rfl) ex5 rfl ?_
        refine rl_aload_n hG dX1_reckon_78 rfl 2 rfl ?_
        refine rl_get hG iX1_reckon_X1 5 (gX_5 a cI cT u) hcX1 2 (Nat.le_of_ble_eq_true rfl) nX1_reckon_0 rfl dX1_reckon_79 ?_
        refine rl_iload hG dX1_reckon_82 1 rfl ?_
        refine rl_ldc hG (v := 1000000) dX1_reckon_84 nX1_reckon_5 ?_
        refine rl_aload_n hG dX1_reckon_86 rfl 2 rfl ?_
        refine rl_aload_n hG dX1_reckon_87 rfl 3 rfl ?_
        refine rl_iload hG dX1_reckon_88 8 rfl ?_
        refine rl_iload hG dX1_reckon_90 10 rfl ?_
        refine rl_iload_n hG dX1_reckon_92 rfl 4 rfl ?_
        refine rl_iload_n hG dX1_reckon_93 rfl 5 rfl ?_
        obtain ⟨x6, hx6q, h⟩ := o1_ok h
        refine rl_callVi hG (roX_ok xx) (As := [.ref (a (23 + t)), .int v6, .int v8, .int v2, .int v3]) (kX1_costOfStep l D a cI cT aS xx u t v6 v8 v2 v3 x6 ht hx6q) gX1_reckon_X1_costOfStep rfl 5 (gX_5 a cI cT u) hcX1 5 rfl (by decide +kernel) rfl rfl (by decide) (Nat.le_of_ble_eq_true rfl) rfl dX1_reckon_94 ?_
        refine rl_iload hG dX1_reckon_97 0 rfl ?_
        refine rl_iadd hG dX1_reckon_99 ?_
        refine rl_mmin hG nX1_reckon_1 nX1_reckon_2 nX1_reckon_3 nX1_reckon_4 (Nat.le_of_ble_eq_true rfl) (Nat.le_of_ble_eq_true rfl) dX1_reckon_100 ?_
        obtain ⟨u7, iu7, eu7, h⟩ := asr_ok h
        refine rl_iast hG 19 0 (gX_19 a cI cT u) rfl iu7 (σ' := u7) ((sX_19 a cI cT u _).trans (congrArg _ eu7.symm)) dX1_reckon_103 ?_
        refine rl_iload hG dX1_reckon_104 9 rfl ?_
        refine rl_aload_n hG dX1_reckon_106 rfl 2 rfl ?_
        refine rl_get hG iX1_reckon_X1 5 (gX_5 a cI cT u7) hcX1 2 (Nat.le_of_ble_eq_true rfl) nX1_reckon_0 rfl dX1_reckon_107 ?_
        refine rl_iload hG dX1_reckon_110 1 rfl ?_
        obtain ⟨x8, ix8, ex8, h⟩ := ald_ok h
        refine rl_iald hG 19 0 (gX_19 a cI cT u7) rfl ix8 ex8 dX1_reckon_112 ?_
        refine rl_mmin hG nX1_reckon_1 nX1_reckon_2 nX1_reckon_3 nX1_reckon_4 (Nat.le_of_ble_eq_true rfl) (Nat.le_of_ble_eq_true rfl) dX1_reckon_113 ?_
        obtain ⟨x9, ex9, h⟩ := bd_ok h
        refine rl_istore hG [(7, .int x9), (10, .int x5), (9, .int x3), (0, .ref (a 5)), (1, .ref (a (23 + t))), (2, .int v2), (3, .int v3), (4, .int v4), (5, .int v5), (6, .int v6), (8, .int v8)] dX1_reckon_116 (Nat.le_of_ble_eq_true rfl) ex9 rfl ?_
        obtain ⟨x10, ex10, h⟩ := bd_ok h
        refine rl_iinc hG [(8, .int x10), (7, .int x9), (10, .int x5), (9, .int x3), (0, .ref (a 5)), (1, .ref (a (23 + t))), (2, .int v2), (3, .int v3), (4, .int v4), (5, .int v5), (6, .int v6)] dX1_reckon_118 10 rfl (by rw [ex10]; rfl) (Nat.le_of_ble_eq_true rfl) rfl ?_
        refine rl_goto hG (tgt := 41) dX1_reckon_121 (by decide) ?_
        exact rl_lvs hG [4, 5, 6, 7, 8, 9, 10, 1, 0] rfl (ih u7 v2 v3 v4 v5 v6 x9 x10 h)
  have H29 : ∀ (n : Nat) (u : St) (v2 : Int32) (v3 : Int32) (v4 : Int32) (v5 : Int32) (v6 : Int32), fX1_reckon_L29 t n u v2 v3 v4 v5 v6 = some (r, τ) → G u 29 [(0, .ref (a 5)), (1, .ref (a (23 + t))), (2, .int v2), (3, .int v3), (4, .int v4), (5, .int v5), (6, .int v6)] [] := by
    intro n
    induction n with
    | zero =>
      intro u v2 v3 v4 v5 v6 h
      exact absurd h (by rw [fX1_reckon_L29]; exact fun q => by cases q)
    | succ n ih =>
      intro u v2 v3 v4 v5 v6 h
      rw [fX1_reckon_L29] at h
      refine rl_iload hG dX1_reckon_29 6 rfl ?_
      refine rl_if_lt hG (tgt := 134) dX1_reckon_31 (by decide) (fun c11 => ?_) (fun c11 => ?_)
      · have h := it_t h c11
        refine rl_iload hG dX1_reckon_134 5 rfl ?_
        exact rl_ret2 hret h rfl dX1_reckon_136
      · have h := it_f h c11
        refine rl_ldc hG (v := 1000000) dX1_reckon_34 nX1_reckon_5 ?_
        refine rl_istore hG [(7, .int (1000000 : Int32)), (0, .ref (a 5)), (1, .ref (a (23 + t))), (2, .int v2), (3, .int v3), (4, .int v4), (5, .int v5), (6, .int v6)] dX1_reckon_36 (Nat.le_of_ble_eq_true rfl) rfl rfl ?_
        refine rl_iconst hG (v := 0) dX1_reckon_38 (by decide) ?_
        refine rl_istore hG [(8, .int (0 : Int32)), (7, .int (1000000 : Int32)), (0, .ref (a 5)), (1, .ref (a (23 + t))), (2, .int v2), (3, .int v3), (4, .int v4), (5, .int v5), (6, .int v6)] dX1_reckon_39 (Nat.le_of_ble_eq_true rfl) rfl rfl ?_
        exact rl_lvs hG [2, 3, 4, 5, 6, 7, 8, 1, 0] rfl (H41 (fX1_reckon_L29 t n) (ih) 2000 u v2 v3 v4 v5 v6 (1000000 : Int32) (0 : Int32) h)
  have h := h0
  rw [fX1_reckon] at h
  show G u 0 [(0, .ref (a 5)), (1, .ref (a (23 + t))), (2, .int p2), (3, .int p3)] []
  refine rl_aload_n hG dX1_reckon_0 rfl 0 rfl ?_
  refine rl_get hG iX1_reckon_X1 5 (gX_5 a cI cT u) hcX1 1 (Nat.le_of_ble_eq_true rfl) nX1_reckon_6 rfl dX1_reckon_1 ?_
  refine rl_iload_n hG dX1_reckon_4 rfl 3 rfl ?_
  obtain ⟨x12, hx12q, h⟩ := o1_ok h
  refine rl_callVi hG (roX_ok xx) (As := [.int p3]) (kX4_ofCarrying l D a cI cT aS xx u p3 x12  hx12q) gX1_reckon_X4_ofCarrying rfl 4 (gX_4 a cI cT u) hcX4 1 rfl (by decide +kernel) rfl rfl (by decide) (Nat.le_of_ble_eq_true rfl) rfl dX1_reckon_5 ?_
  refine rl_istore hG [(4, .int x12), (0, .ref (a 5)), (1, .ref (a (23 + t))), (2, .int p2), (3, .int p3)] dX1_reckon_8 (Nat.le_of_ble_eq_true rfl) rfl rfl ?_
  refine rl_aload_n hG dX1_reckon_10 rfl 1 rfl ?_
  refine rl_get hG iX1_reckon_X1 5 (gX_5 a cI cT u) hcX1 2 (Nat.le_of_ble_eq_true rfl) nX1_reckon_0 rfl dX1_reckon_11 ?_
  refine rl_iconst hG (v := 0) dX1_reckon_14 (by decide) ?_
  obtain ⟨u13, eu13, h⟩ := bd_ok h
  refine rl_callSv hG (roX_ok xx) (As := [.ref (a 19), .int (0 : Int32)]) (kJ7_fill_53178 l D (tyX cI cT) (wX a cI cT) (roX xx) aS cI (a 19) u 19 54 (0 : Int32) u13 rfl (fun v => gX_19 a cI cT v) (fun v => sX_19 a cI cT v) (by decide) eu13) gX1_reckon_J7_fill_53178 rfl 2 rfl (by decide +kernel) rfl rfl (by decide) (Nat.le_of_ble_eq_true rfl) rfl dX1_reckon_15 ?_
  refine rl_iconst hG (v := 0) dX1_reckon_18 (by decide) ?_
  refine rl_istore hG [(5, .int (0 : Int32)), (4, .int x12), (0, .ref (a 5)), (1, .ref (a (23 + t))), (2, .int p2), (3, .int p3)] dX1_reckon_19 (Nat.le_of_ble_eq_true rfl) rfl rfl ?_
  refine rl_aload_n hG dX1_reckon_21 rfl 3 rfl ?_
  refine rl_get hG iX1_reckon_X6 (23 + t) (gX_t a cI cT u13 ht) hcX6 1 (Nat.le_of_ble_eq_true rfl) nX1_reckon_7 rfl dX1_reckon_22 ?_
  refine rl_iconst hG (v := 1) dX1_reckon_25 (by decide) ?_
  refine rl_isub hG dX1_reckon_26 ?_
  obtain ⟨x14, ex14, h⟩ := bd_ok h
  refine rl_istore hG [(6, .int x14), (5, .int (0 : Int32)), (4, .int x12), (0, .ref (a 5)), (1, .ref (a (23 + t))), (2, .int p2), (3, .int p3)] dX1_reckon_27 (Nat.le_of_ble_eq_true rfl) ex14 rfl ?_
  exact rl_lvs hG [3, 4, 5, 6, 2, 1, 0] rfl (H29 2000 u13 p2 p3 x12 (0 : Int32) x14 h)
def fX1_firstGuildAt_L32 (u : St) (k3 : Int32 → Int32 → Int32 → Int32 → Option (Int32)) (v1 : Int32) (v2 : Int32) (v3 : Int32) (v4 : Int32) (w0 : Int32) : Option (Int32) := ald u 19 54 ((v1 * (6 : Int32)) + v4) (fun x1 => (if (x1 + w0) = v3 then some v4 else bd (v4 + (1 : Int32)) (fun x3 => k3 v1 v2 v3 x3)))
def fX1_firstGuildAt_L21 (u : St) (k3 : Int32 → Int32 → Int32 → Int32 → Option (Int32)) (v1 : Int32) (v2 : Int32) (v3 : Int32) (v4 : Int32) : Option (Int32) := fX1_firstGuildAt_L32 u k3 v1 v2 v3 v4 (0 : Int32)
def fX1_firstGuildAt_L3 (u : St)  : Nat → Int32 → Int32 → Int32 → Int32 → Option (Int32)
  | 0 => fun _ _ _ _ => none
  | n + 1 => fun v1 v2 v3 v4 => (if (6 : Int32) ≤ v4 then some (-1 : Int32) else (if v2 = (-1 : Int32) then fX1_firstGuildAt_L21 u (fX1_firstGuildAt_L3 u n) v1 v2 v3 v4 else (if v2 = v4 then fX1_firstGuildAt_L21 u (fX1_firstGuildAt_L3 u n) v1 v2 v3 v4 else fX1_firstGuildAt_L32 u (fX1_firstGuildAt_L3 u n) v1 v2 v3 v4 (u 4 2))))
def fX1_firstGuildAt (u : St)  (p1 : Int32) (p2 : Int32) (p3 : Int32) : Option (Int32) := fX1_firstGuildAt_L3 u 2000 p1 p2 p3 (0 : Int32)
theorem nX1_firstGuildAt_0 : Cond.fieldLink RX1 9 "WhoseWork$Maker" "onward" "[I" ∈ wsX1_firstGuildAt := by decide +kernel
theorem nX1_firstGuildAt_1 : Cond.fieldLink RX1 19 "WhoseWork$Maker" "tariff" "LWhoseWork$Tariff;" ∈ wsX1_firstGuildAt := by decide +kernel
theorem nX1_firstGuildAt_2 : Cond.fieldLink RX1 108 "WhoseWork$Tariff" "carryPrice" "I" ∈ wsX1_firstGuildAt := by decide +kernel
theorem iX1_firstGuildAt_X1 : ∀ w ∈ wsX10, w ∈ wsX1_firstGuildAt := by decide +kernel
theorem iX1_firstGuildAt_X4 : ∀ w ∈ wsX40, w ∈ wsX1_firstGuildAt := by decide +kernel
set_option maxRecDepth 100000 in
set_option maxHeartbeats 4000000 in
theorem kX1_firstGuildAt (l : Launch) (D : va_G) (a : Nat → Nat) (cI cT : ClassId) (aS : Nat → Prop) (xx : Rx) (u : St)  (p1 : Int32) (p2 : Int32) (p3 : Int32) (r : Int32)  (h0 : fX1_firstGuildAt u p1 p2 p3 = some r) : rl_Mi l yX1_firstGuildAt wsX1_firstGuildAt ({ frames := 0, cells := 0, slots := 0, locals := 0 } : Room) D (tyX cI cT) (wX a cI cT) (roX xx) aS [.ref (a 5), .int p1, .int p2, .int p3] u r u := by
  refine rl_meth_i (cc := cX1_firstGuildAt) (maxL := 6) (own := RX1) (ty := .int) (by decide) rfl rfl (Nat.le_of_ble_eq_true rfl) ?_
  intro G hG hret
  have H32 : ∀ (k3 : Int32 → Int32 → Int32 → Int32 → Option (Int32)) (hk3 : ∀ (v1 : Int32) (v2 : Int32) (v3 : Int32) (v4 : Int32), k3 v1 v2 v3 v4 = some r → G u 3 [(0, .ref (a 5)), (1, .int v1), (2, .int v2), (3, .int v3), (4, .int v4)] []), ∀ (v1 : Int32) (v2 : Int32) (v3 : Int32) (v4 : Int32) (w0 : Int32), fX1_firstGuildAt_L32 u k3 v1 v2 v3 v4 w0 = some r → G u 32 [(0, .ref (a 5)), (1, .int v1), (2, .int v2), (3, .int v3), (4, .int v4)] [.int w0] := by
    intro k3 hk3 v1 v2 v3 v4 w0 h
    rw [fX1_firstGuildAt_L32] at h
    refine rl_istore hG [(5, .int w0), (0, .ref (a 5)), (1, .int v1), (2, .int v2), (3, .int v3), (4, .int v4)] dX1_firstGuildAt_32 (Nat.le_of_ble_eq_true rfl) rfl rfl ?_
    refine rl_aload_n hG dX1_firstGuildAt_34 rfl 1 rfl ?_
    refine rl_get hG iX1_firstGuildAt_X1 5 (gX_5 a cI cT u) hcX1 2 (Nat.le_of_ble_eq_true rfl) nX1_firstGuildAt_0 rfl dX1_firstGuildAt_35 ?_
    refine rl_iload_n hG dX1_firstGuildAt_38 rfl 2 rfl ?_
    refine rl_bipush hG (v := 6) dX1_firstGuildAt_39 (by decide) ?_
    refine rl_imul hG dX1_firstGuildAt_41 ?_
    refine rl_iload hG dX1_firstGuildAt_42 5 rfl ?_
    refine rl_iadd hG dX1_firstGuildAt_44 ?_
    obtain ⟨x1, ix1, ex1, h⟩ := ald_ok h
    refine rl_iald hG 19 0 (gX_19 a cI cT u) rfl ix1 ex1 dX1_firstGuildAt_45 ?_
    refine rl_iload hG dX1_firstGuildAt_46 0 rfl ?_
    refine rl_iadd hG dX1_firstGuildAt_48 ?_
    refine rl_iload_n hG dX1_firstGuildAt_49 rfl 4 rfl ?_
    refine rl_icmp_ne hG (tgt := 56) dX1_firstGuildAt_50 (by decide) (fun c2 => ?_) (fun c2 => ?_)
    · have h := it_f h c2
      obtain ⟨x3, ex3, h⟩ := bd_ok h
      refine rl_iinc hG [(4, .int x3), (5, .int w0), (0, .ref (a 5)), (1, .int v1), (2, .int v2), (3, .int v3)] dX1_firstGuildAt_56 5 rfl (by rw [ex3]; rfl) (Nat.le_of_ble_eq_true rfl) rfl ?_
      refine rl_goto hG (tgt := 3) dX1_firstGuildAt_59 (by decide) ?_
      exact rl_lvs hG [2, 3, 4, 5, 0] rfl (hk3 v1 v2 v3 x3 h)
    · have h := it_t h c2
      refine rl_iload hG dX1_firstGuildAt_53 5 rfl ?_
      exact rl_ret1 hret h rfl dX1_firstGuildAt_55
  have H21 : ∀ (k3 : Int32 → Int32 → Int32 → Int32 → Option (Int32)) (hk3 : ∀ (v1 : Int32) (v2 : Int32) (v3 : Int32) (v4 : Int32), k3 v1 v2 v3 v4 = some r → G u 3 [(0, .ref (a 5)), (1, .int v1), (2, .int v2), (3, .int v3), (4, .int v4)] []), ∀ (v1 : Int32) (v2 : Int32) (v3 : Int32) (v4 : Int32), fX1_firstGuildAt_L21 u k3 v1 v2 v3 v4 = some r → G u 21 [(0, .ref (a 5)), (1, .int v1), (2, .int v2), (3, .int v3), (4, .int v4)] [] := by
    intro k3 hk3 v1 v2 v3 v4 h
    rw [fX1_firstGuildAt_L21] at h
    refine rl_iconst hG (v := 0) dX1_firstGuildAt_21 (by decide) ?_
    refine rl_goto hG (tgt := 32) dX1_firstGuildAt_22 (by decide) ?_
    exact rl_lvs hG [0, 1, 2, 3, 4] rfl (H32 (k3) (hk3) v1 v2 v3 v4 (0 : Int32) h)
  have H3 : ∀ (n : Nat) (v1 : Int32) (v2 : Int32) (v3 : Int32) (v4 : Int32), fX1_firstGuildAt_L3 u n v1 v2 v3 v4 = some r → G u 3 [(0, .ref (a 5)), (1, .int v1), (2, .int v2), (3, .int v3), (4, .int v4)] [] := by
    intro n
    induction n with
    | zero =>
      intro v1 v2 v3 v4 h
      exact absurd h (by rw [fX1_firstGuildAt_L3]; exact fun q => by cases q)
    | succ n ih =>
      intro v1 v2 v3 v4 h
      rw [fX1_firstGuildAt_L3] at h
      refine rl_iload hG dX1_firstGuildAt_3 4 rfl ?_
      refine rl_bipush hG (v := 6) dX1_firstGuildAt_5 (by decide) ?_
      refine rl_icmp_ge hG (tgt := 62) dX1_firstGuildAt_7 (by decide) (fun c4 => ?_) (fun c4 => ?_)
      · have h := it_t h c4
        refine rl_iconst hG (v := -1) dX1_firstGuildAt_62 (by decide) ?_
        exact rl_ret1 hret h rfl dX1_firstGuildAt_63
      · have h := it_f h c4
        refine rl_iload_n hG dX1_firstGuildAt_10 rfl 2 rfl ?_
        refine rl_iconst hG (v := -1) dX1_firstGuildAt_11 (by decide) ?_
        refine rl_icmp_eq hG (tgt := 21) dX1_firstGuildAt_12 (by decide) (fun c5 => ?_) (fun c5 => ?_)
        · have h := it_t h c5
          exact rl_lvs hG [0, 1, 2, 3, 4] rfl (H21 (fX1_firstGuildAt_L3 u n) (ih) v1 v2 v3 v4 h)
        · have h := it_f h c5
          refine rl_iload_n hG dX1_firstGuildAt_15 rfl 2 rfl ?_
          refine rl_iload hG dX1_firstGuildAt_16 4 rfl ?_
          refine rl_icmp_ne hG (tgt := 25) dX1_firstGuildAt_18 (by decide) (fun c6 => ?_) (fun c6 => ?_)
          · have h := it_f h c6
            refine rl_aload_n hG dX1_firstGuildAt_25 rfl 0 rfl ?_
            refine rl_get hG iX1_firstGuildAt_X1 5 (gX_5 a cI cT u) hcX1 1 (Nat.le_of_ble_eq_true rfl) nX1_firstGuildAt_1 rfl dX1_firstGuildAt_26 ?_
            refine rl_get hG iX1_firstGuildAt_X4 4 (gX_4 a cI cT u) hcX4 2 (Nat.le_of_ble_eq_true rfl) nX1_firstGuildAt_2 rfl dX1_firstGuildAt_29 ?_
            exact rl_lvs hG [0, 1, 2, 3, 4] rfl (H32 (fX1_firstGuildAt_L3 u n) (ih) v1 v2 v3 v4 (u 4 2) h)
          · have h := it_t h c6
            exact rl_lvs hG [0, 1, 2, 3, 4] rfl (H21 (fX1_firstGuildAt_L3 u n) (ih) v1 v2 v3 v4 h)
  have h := h0
  rw [fX1_firstGuildAt] at h
  show G u 0 [(0, .ref (a 5)), (1, .int p1), (2, .int p2), (3, .int p3)] []
  refine rl_iconst hG (v := 0) dX1_firstGuildAt_0 (by decide) ?_
  refine rl_istore hG [(4, .int (0 : Int32)), (0, .ref (a 5)), (1, .int p1), (2, .int p2), (3, .int p3)] dX1_firstGuildAt_1 (Nat.le_of_ble_eq_true rfl) rfl rfl ?_
  exact rl_lvs hG [1, 2, 3, 4, 0] rfl (H3 2000 p1 p2 p3 (0 : Int32) h)
def fX1_cheapestGuild_L10 (u : St) (t : Nat)  : Nat → Int32 → Int32 → Int32 → Int32 → Int32 → Option (Int32)
  | 0 => fun _ _ _ _ _ => none
  | n + 1 => fun v2 v3 v5 v6 v7 => (if v3 < v7 then some v6 else o1 (fX1_firstGuildAt u v7 v6 v5) (fun x2 => (if x2 = (-1 : Int32) then some (-1 : Int32) else ald u 19 54 ((v7 * (6 : Int32)) + x2) (fun x4 => o1 (fX1_costOfStep u t v7 x2 v2 (0 : Int32)) (fun x5 => bd (x4 - x5) (fun x6 => bd (v7 + (1 : Int32)) (fun x7 => fX1_cheapestGuild_L10 u t n v2 v3 x6 x2 x7)))))))
def fX1_cheapestGuild (u : St) (t : Nat) (p2 : Int32) (p3 : Int32) (p4 : Int32) : Option (Int32) := fX1_cheapestGuild_L10 u t 2000 p2 p3 p4 (-1 : Int32) (0 : Int32)
theorem nX1_cheapestGuild_0 : Cond.fieldLink RX1 9 "WhoseWork$Maker" "onward" "[I" ∈ wsX1_cheapestGuild := by decide +kernel
theorem iX1_cheapestGuild_X1 : ∀ w ∈ wsX10, w ∈ wsX1_cheapestGuild := by decide +kernel
set_option maxRecDepth 100000 in
set_option maxHeartbeats 4000000 in
theorem kX1_cheapestGuild (l : Launch) (D : va_G) (a : Nat → Nat) (cI cT : ClassId) (aS : Nat → Prop) (xx : Rx) (u : St) (t : Nat) (p2 : Int32) (p3 : Int32) (p4 : Int32) (r : Int32) (ht : t < 6) (h0 : fX1_cheapestGuild u t p2 p3 p4 = some r) : rl_Mi l yX1_cheapestGuild wsX1_cheapestGuild ({ frames := 6, cells := 0, slots := 0, locals := 145 } : Room) D (tyX cI cT) (wX a cI cT) (roX xx) aS [.ref (a 5), .ref (a (23 + t)), .int p2, .int p3, .int p4] u r u := by
  refine rl_meth_i (cc := cX1_cheapestGuild) (maxL := 8) (own := RX1) (ty := .int) (by decide) rfl rfl (Nat.le_of_ble_eq_true rfl) ?_
  intro G hG hret
  have H10 : ∀ (n : Nat) (v2 : Int32) (v3 : Int32) (v5 : Int32) (v6 : Int32) (v7 : Int32), fX1_cheapestGuild_L10 u t n v2 v3 v5 v6 v7 = some r → G u 10 [(0, .ref (a 5)), (1, .ref (a (23 + t))), (2, .int v2), (3, .int v3), (5, .int v5), (6, .int v6), (7, .int v7)] [] := by
    intro n
    induction n with
    | zero =>
      intro v2 v3 v5 v6 v7 h
      exact absurd h (by rw [fX1_cheapestGuild_L10]; exact fun q => by cases q)
    | succ n ih =>
      intro v2 v3 v5 v6 v7 h
      rw [fX1_cheapestGuild_L10] at h
      refine rl_iload hG dX1_cheapestGuild_10 6 rfl ?_
      refine rl_iload_n hG dX1_cheapestGuild_12 rfl 3 rfl ?_
      refine rl_icmp_gt hG (tgt := 69) dX1_cheapestGuild_13 (by decide) (fun c1 => ?_) (fun c1 => ?_)
      · have h := it_t h c1
        refine rl_iload hG dX1_cheapestGuild_69 5 rfl ?_
        exact rl_ret1 hret h rfl dX1_cheapestGuild_71
      · have h := it_f h c1
        refine rl_aload_n hG dX1_cheapestGuild_16 rfl 0 rfl ?_
        refine rl_iload hG dX1_cheapestGuild_17 6 rfl ?_
        refine rl_iload hG dX1_cheapestGuild_19 5 rfl ?_
        refine rl_iload hG dX1_cheapestGuild_21 4 rfl ?_
        obtain ⟨x2, hx2q, h⟩ := o1_ok h
        refine rl_callVi hG (roX_ok xx) (As := [.int v7, .int v6, .int v5]) (kX1_firstGuildAt l D a cI cT aS xx u v7 v6 v5 x2  hx2q) gX1_cheapestGuild_X1_firstGuildAt rfl 5 (gX_5 a cI cT u) hcX1 3 rfl (by decide +kernel) rfl rfl (by decide) (Nat.le_of_ble_eq_true rfl) rfl dX1_cheapestGuild_23 ?_
        refine rl_istore hG [(6, .int x2), (0, .ref (a 5)), (1, .ref (a (23 + t))), (2, .int v2), (3, .int v3), (5, .int v5), (7, .int v7)] dX1_cheapestGuild_26 (Nat.le_of_ble_eq_true rfl) rfl rfl ?_
        refine rl_iload hG dX1_cheapestGuild_28 0 rfl ?_
        refine rl_iconst hG (v := -1) dX1_cheapestGuild_30 (by decide) ?_
        refine rl_icmp_ne hG (tgt := 36) dX1_cheapestGuild_31 (by decide) (fun c3 => ?_) (fun c3 => ?_)
        · have h := it_f h c3
          refine rl_aload_n hG dX1_cheapestGuild_36 rfl 1 rfl ?_
          refine rl_get hG iX1_cheapestGuild_X1 5 (gX_5 a cI cT u) hcX1 2 (Nat.le_of_ble_eq_true rfl) nX1_cheapestGuild_0 rfl dX1_cheapestGuild_37 ?_
          refine rl_iload hG dX1_cheapestGuild_40 6 rfl ?_
          refine rl_bipush hG (v := 6) dX1_cheapestGuild_42 (by decide) ?_
          refine rl_imul hG dX1_cheapestGuild_44 ?_
          refine rl_iload hG dX1_cheapestGuild_45 0 rfl ?_
          refine rl_iadd hG dX1_cheapestGuild_47 ?_
          obtain ⟨x4, ix4, ex4, h⟩ := ald_ok h
          refine rl_iald hG 19 0 (gX_19 a cI cT u) rfl ix4 ex4 dX1_cheapestGuild_48 ?_
          refine rl_aload_n hG dX1_cheapestGuild_49 rfl 1 rfl ?_
          refine rl_aload_n hG dX1_cheapestGuild_50 rfl 2 rfl ?_
          refine rl_iload hG dX1_cheapestGuild_51 6 rfl ?_
          refine rl_iload hG dX1_cheapestGuild_53 0 rfl ?_
          refine rl_iload_n hG dX1_cheapestGuild_55 rfl 3 rfl ?_
          refine rl_iconst hG (v := 0) dX1_cheapestGuild_56 (by decide) ?_
          obtain ⟨x5, hx5q, h⟩ := o1_ok h
          refine rl_callVi hG (roX_ok xx) (As := [.ref (a (23 + t)), .int v7, .int x2, .int v2, .int (0 : Int32)]) (kX1_costOfStep l D a cI cT aS xx u t v7 x2 v2 (0 : Int32) x5 ht hx5q) gX1_cheapestGuild_X1_costOfStep rfl 5 (gX_5 a cI cT u) hcX1 5 rfl (by decide +kernel) rfl rfl (by decide) (Nat.le_of_ble_eq_true rfl) rfl dX1_cheapestGuild_57 ?_
          refine rl_isub hG dX1_cheapestGuild_60 ?_
          obtain ⟨x6, ex6, h⟩ := bd_ok h
          refine rl_istore hG [(5, .int x6), (6, .int x2), (0, .ref (a 5)), (1, .ref (a (23 + t))), (2, .int v2), (3, .int v3), (7, .int v7)] dX1_cheapestGuild_61 (Nat.le_of_ble_eq_true rfl) ex6 rfl ?_
          obtain ⟨x7, ex7, h⟩ := bd_ok h
          refine rl_iinc hG [(7, .int x7), (5, .int x6), (6, .int x2), (0, .ref (a 5)), (1, .ref (a (23 + t))), (2, .int v2), (3, .int v3)] dX1_cheapestGuild_63 6 rfl (by rw [ex7]; rfl) (Nat.le_of_ble_eq_true rfl) rfl ?_
          refine rl_goto hG (tgt := 10) dX1_cheapestGuild_66 (by decide) ?_
          exact rl_lvs hG [3, 4, 5, 6, 1, 2, 0] rfl (ih v2 v3 x6 x2 x7 h)
        · have h := it_t h c3
          refine rl_iconst hG (v := -1) dX1_cheapestGuild_34 (by decide) ?_
          exact rl_ret1 hret h rfl dX1_cheapestGuild_35
  have h := h0
  rw [fX1_cheapestGuild] at h
  show G u 0 [(0, .ref (a 5)), (1, .ref (a (23 + t))), (2, .int p2), (3, .int p3), (4, .int p4)] []
  refine rl_iload hG dX1_cheapestGuild_0 4 rfl ?_
  refine rl_istore hG [(5, .int p4), (0, .ref (a 5)), (1, .ref (a (23 + t))), (2, .int p2), (3, .int p3), (4, .int p4)] dX1_cheapestGuild_2 (Nat.le_of_ble_eq_true rfl) rfl rfl ?_
  refine rl_iconst hG (v := -1) dX1_cheapestGuild_4 (by decide) ?_
  refine rl_istore hG [(6, .int (-1 : Int32)), (5, .int p4), (0, .ref (a 5)), (1, .ref (a (23 + t))), (2, .int p2), (3, .int p3), (4, .int p4)] dX1_cheapestGuild_5 (Nat.le_of_ble_eq_true rfl) rfl rfl ?_
  refine rl_iconst hG (v := 0) dX1_cheapestGuild_7 (by decide) ?_
  refine rl_istore hG [(7, .int (0 : Int32)), (6, .int (-1 : Int32)), (5, .int p4), (0, .ref (a 5)), (1, .ref (a (23 + t))), (2, .int p2), (3, .int p3), (4, .int p4)] dX1_cheapestGuild_8 (Nat.le_of_ble_eq_true rfl) rfl rfl ?_
  exact rl_lvs hG [3, 4, 5, 6, 2, 1, 0] rfl (H10 2000 p2 p3 p4 (-1 : Int32) (0 : Int32) h)
def fX1_cheapestChoice (u : St) (t : Nat) (p2 : Int32) (p3 : Int32) (p4 : Int32) : Option (Int32) := o1 (fX6_workAt u t p3 (0 : Int32)) (fun x1 => o1 (fX1_costOfWork u x1 p4 p2 (0 : Int32)) (fun x2 => o1 (fX6_workAt u t p3 (1 : Int32)) (fun x3 => o1 (fX1_costOfWork u x3 p4 p2 (0 : Int32)) (fun x4 => (if x2 ≤ x4 then some (0 : Int32) else some (1 : Int32))))))
set_option maxRecDepth 100000 in
set_option maxHeartbeats 4000000 in
theorem kX1_cheapestChoice (l : Launch) (D : va_G) (a : Nat → Nat) (cI cT : ClassId) (aS : Nat → Prop) (xx : Rx) (u : St) (t : Nat) (p2 : Int32) (p3 : Int32) (p4 : Int32) (r : Int32) (ht : t < 6) (h0 : fX1_cheapestChoice u t p2 p3 p4 = some r) : rl_Mi l yX1_cheapestChoice wsX1_cheapestChoice ({ frames := 5, cells := 0, slots := 0, locals := 120 } : Room) D (tyX cI cT) (wX a cI cT) (roX xx) aS [.ref (a 5), .ref (a (23 + t)), .int p2, .int p3, .int p4] u r u := by
  refine rl_meth_i (cc := cX1_cheapestChoice) (maxL := 7) (own := RX1) (ty := .int) (by decide) rfl rfl (Nat.le_of_ble_eq_true rfl) ?_
  intro G hG hret
  have h := h0
  rw [fX1_cheapestChoice] at h
  show G u 0 [(0, .ref (a 5)), (1, .ref (a (23 + t))), (2, .int p2), (3, .int p3), (4, .int p4)] []
  refine rl_aload_n hG dX1_cheapestChoice_0 rfl 0 rfl ?_
  refine rl_aload_n hG dX1_cheapestChoice_1 rfl 1 rfl ?_
  refine rl_iload_n hG dX1_cheapestChoice_2 rfl 3 rfl ?_
  refine rl_iconst hG (v := 0) dX1_cheapestChoice_3 (by decide) ?_
  obtain ⟨x1, hx1q, h⟩ := o1_ok h
  refine rl_callVi hG (roX_ok xx) (As := [.int p3, .int (0 : Int32)]) (kX6_workAt l D a cI cT aS xx u t p3 (0 : Int32) x1 ht hx1q) gX1_cheapestChoice_X6_workAt rfl (23 + t) (gX_t a cI cT u ht) hcX6 2 rfl (by decide +kernel) rfl rfl (by decide) (Nat.le_of_ble_eq_true rfl) rfl dX1_cheapestChoice_4 ?_
  refine rl_iload hG dX1_cheapestChoice_7 4 rfl ?_
  refine rl_iload_n hG dX1_cheapestChoice_9 rfl 2 rfl ?_
  refine rl_iconst hG (v := 0) dX1_cheapestChoice_10 (by decide) ?_
  obtain ⟨x2, hx2q, h⟩ := o1_ok h
  refine rl_callVi hG (roX_ok xx) (As := [.int x1, .int p4, .int p2, .int (0 : Int32)]) (kX1_costOfWork l D a cI cT aS xx u x1 p4 p2 (0 : Int32) x2  hx2q) gX1_cheapestChoice_X1_costOfWork rfl 5 (gX_5 a cI cT u) hcX1 4 rfl (by decide +kernel) rfl rfl (by decide) (Nat.le_of_ble_eq_true rfl) rfl dX1_cheapestChoice_11 ?_
  refine rl_istore hG [(5, .int x2), (0, .ref (a 5)), (1, .ref (a (23 + t))), (2, .int p2), (3, .int p3), (4, .int p4)] dX1_cheapestChoice_14 (Nat.le_of_ble_eq_true rfl) rfl rfl ?_
  refine rl_aload_n hG dX1_cheapestChoice_16 rfl 1 rfl ?_
  refine rl_aload_n hG dX1_cheapestChoice_17 rfl 2 rfl ?_
  refine rl_iload_n hG dX1_cheapestChoice_18 rfl 4 rfl ?_
  refine rl_iconst hG (v := 1) dX1_cheapestChoice_19 (by decide) ?_
  obtain ⟨x3, hx3q, h⟩ := o1_ok h
  refine rl_callVi hG (roX_ok xx) (As := [.int p3, .int (1 : Int32)]) (kX6_workAt l D a cI cT aS xx u t p3 (1 : Int32) x3 ht hx3q) gX1_cheapestChoice_X6_workAt rfl (23 + t) (gX_t a cI cT u ht) hcX6 2 rfl (by decide +kernel) rfl rfl (by decide) (Nat.le_of_ble_eq_true rfl) rfl dX1_cheapestChoice_20 ?_
  refine rl_iload hG dX1_cheapestChoice_23 5 rfl ?_
  refine rl_iload_n hG dX1_cheapestChoice_25 rfl 3 rfl ?_
  refine rl_iconst hG (v := 0) dX1_cheapestChoice_26 (by decide) ?_
  obtain ⟨x4, hx4q, h⟩ := o1_ok h
  refine rl_callVi hG (roX_ok xx) (As := [.int x3, .int p4, .int p2, .int (0 : Int32)]) (kX1_costOfWork l D a cI cT aS xx u x3 p4 p2 (0 : Int32) x4  hx4q) gX1_cheapestChoice_X1_costOfWork rfl 5 (gX_5 a cI cT u) hcX1 4 rfl (by decide +kernel) rfl rfl (by decide) (Nat.le_of_ble_eq_true rfl) rfl dX1_cheapestChoice_27 ?_
  refine rl_istore hG [(6, .int x4), (5, .int x2), (0, .ref (a 5)), (1, .ref (a (23 + t))), (2, .int p2), (3, .int p3), (4, .int p4)] dX1_cheapestChoice_30 (Nat.le_of_ble_eq_true rfl) rfl rfl ?_
  refine rl_iload hG dX1_cheapestChoice_32 0 rfl ?_
  refine rl_iload hG dX1_cheapestChoice_34 1 rfl ?_
  refine rl_icmp_ge hG (tgt := 43) dX1_cheapestChoice_36 (by decide) (fun c5 => ?_) (fun c5 => ?_)
  · have h := it_t h c5
    refine rl_iconst hG (v := 0) dX1_cheapestChoice_43 (by decide) ?_
    exact rl_ret1 hret h rfl dX1_cheapestChoice_44
  · have h := it_f h c5
    refine rl_iconst hG (v := 1) dX1_cheapestChoice_39 (by decide) ?_
    refine rl_goto hG (tgt := 44) dX1_cheapestChoice_40 (by decide) ?_
    exact rl_ret1 hret h rfl dX1_cheapestChoice_44
def fX1_slyestDepth_L132 (u : St) (t : Nat) (k49 : Int32 → Int64 → Int32 → Int32 → Int64 → Int32 → Int32 → Option (Int32)) (v4 : Int32) (v5 : Int64) (v7 : Int32) (v8 : Int32) (v9 : Int64) (v11 : Int32) (v12 : Int32) : Option (Int32) := bd (v12 + (1 : Int32)) (fun x1 => k49 v4 v5 v7 v8 v9 v11 x1)
def fX1_slyestDepth_L49 (u : St) (t : Nat)  : Nat → Int32 → Int64 → Int32 → Int32 → Int64 → Int32 → Int32 → Option (Int32)
  | 0 => fun _ _ _ _ _ _ _ => none
  | n + 1 => fun v4 v5 v7 v8 v9 v11 v12 => (if (10 : Int32) ≤ v12 then some v7 else bd (ab (v12 - (v8 - v8 / (10 : Int32) * (10 : Int32)))) (fun x3 => (if x3 < (1 : Int32) then fX1_slyestDepth_L132 u t (fX1_slyestDepth_L49 u t n) v4 v5 v7 v8 v9 v11 v12 else (if v4 < x3 then fX1_slyestDepth_L132 u t (fX1_slyestDepth_L49 u t n) v4 v5 v7 v8 v9 v11 v12 else o1 (fX1_setsForWork u ((v8 - (v8 - v8 / (10 : Int32) * (10 : Int32))) + v12) (-1 : Int32)) (fun x6 => o1 (fX1_leastCount (v5 &&& (v9 ||| x6))) (fun x7 => bd (mi v7 (((x7 * (160 : Int32)) + v11) + v12)) (fun x8 => fX1_slyestDepth_L132 u t (fX1_slyestDepth_L49 u t n) v4 v5 x8 v8 v9 v11 v12)))))))
def fX1_slyestDepth (u : St) (t : Nat) (p2 : Int32) (p3 : Int32) (p4 : Int32) (p5 : Int64) : Option (Int32) := o1 (fX6_workAt u t p2 p3) (fun x9 => (if x9 = (-1 : Int32) then some (1000000 : Int32) else o1 (fX6_workAt u t p2 ((1 : Int32) - p3)) (fun x11 => o1 (fX1_setsForWork u x11 (-1 : Int32)) (fun x12 => bd (((p2 * (2 : Int32)) + p3) * (10 : Int32)) (fun x13 => fX1_slyestDepth_L49 u t 2000 p4 p5 (1000000 : Int32) x9 x12 x13 (0 : Int32))))))
theorem nX1_slyestDepth_0 : Cond.methodLink RX1 118 Lib.Math.abs.name ∈ wsX1_slyestDepth := by decide +kernel
theorem nX1_slyestDepth_1 : Cond.static Lib.Math.abs.name ∈ wsX1_slyestDepth := by decide +kernel
theorem nX1_slyestDepth_2 : Cond.initialized "java/lang/Math" ∈ wsX1_slyestDepth := by decide +kernel
theorem nX1_slyestDepth_3 : Cond.code Lib.Math.abs.name Lib.Math.abs.code 1 (some .int) ∈ wsX1_slyestDepth := by decide +kernel
theorem nX1_slyestDepth_4 : Cond.methodLink RX1 92 Lib.Math.min.name ∈ wsX1_slyestDepth := by decide +kernel
theorem nX1_slyestDepth_5 : Cond.static Lib.Math.min.name ∈ wsX1_slyestDepth := by decide +kernel
theorem nX1_slyestDepth_6 : Cond.code Lib.Math.min.name Lib.Math.min.code 2 (some .int) ∈ wsX1_slyestDepth := by decide +kernel
theorem nX1_slyestDepth_7 : Cond.constant RX1 91 (1000000) ∈ wsX1_slyestDepth := by decide +kernel
set_option maxRecDepth 100000 in
set_option maxHeartbeats 4000000 in
theorem kX1_slyestDepth (l : Launch) (D : va_G) (a : Nat → Nat) (cI cT : ClassId) (aS : Nat → Prop) (xx : Rx) (u : St) (t : Nat) (p2 : Int32) (p3 : Int32) (p4 : Int32) (p5 : Int64) (r : Int32) (ht : t < 6) (h0 : fX1_slyestDepth u t p2 p3 p4 p5 = some r) : rl_Mi l yX1_slyestDepth wsX1_slyestDepth ({ frames := 4, cells := 0, slots := 0, locals := 98 } : Room) D (tyX cI cT) (wX a cI cT) (roX xx) aS [.ref (a 5), .ref (a (23 + t)), .int p2, .int p3, .int p4, .long p5] u r u := by
  refine rl_meth_i (cc := cX1_slyestDepth) (maxL := 17) (own := RX1) (ty := .int) (by decide) rfl rfl (Nat.le_of_ble_eq_true rfl) ?_
  intro G hG hret
  have H132 : ∀ (k49 : Int32 → Int64 → Int32 → Int32 → Int64 → Int32 → Int32 → Option (Int32)) (hk49 : ∀ (v4 : Int32) (v5 : Int64) (v7 : Int32) (v8 : Int32) (v9 : Int64) (v11 : Int32) (v12 : Int32), k49 v4 v5 v7 v8 v9 v11 v12 = some r → G u 49 [(0, .ref (a 5)), (4, .int v4), (5, .long v5), (7, .int v7), (8, .int v8), (9, .long v9), (11, .int v11), (12, .int v12)] []), ∀ (v4 : Int32) (v5 : Int64) (v7 : Int32) (v8 : Int32) (v9 : Int64) (v11 : Int32) (v12 : Int32), fX1_slyestDepth_L132 u t k49 v4 v5 v7 v8 v9 v11 v12 = some r → G u 132 [(0, .ref (a 5)), (4, .int v4), (5, .long v5), (7, .int v7), (8, .int v8), (9, .long v9), (11, .int v11), (12, .int v12)] [] := by
    intro k49 hk49 v4 v5 v7 v8 v9 v11 v12 h
    rw [fX1_slyestDepth_L132] at h
    obtain ⟨x1, ex1, h⟩ := bd_ok h
    refine rl_iinc hG [(12, .int x1), (0, .ref (a 5)), (4, .int v4), (5, .long v5), (7, .int v7), (8, .int v8), (9, .long v9), (11, .int v11)] dX1_slyestDepth_132 7 rfl (by rw [ex1]; rfl) (Nat.le_of_ble_eq_true rfl) rfl ?_
    refine rl_goto hG (tgt := 49) dX1_slyestDepth_135 (by decide) ?_
    exact rl_lvs hG [1, 2, 3, 4, 5, 6, 7, 0] rfl (hk49 v4 v5 v7 v8 v9 v11 x1 h)
  have H49 : ∀ (n : Nat) (v4 : Int32) (v5 : Int64) (v7 : Int32) (v8 : Int32) (v9 : Int64) (v11 : Int32) (v12 : Int32), fX1_slyestDepth_L49 u t n v4 v5 v7 v8 v9 v11 v12 = some r → G u 49 [(0, .ref (a 5)), (4, .int v4), (5, .long v5), (7, .int v7), (8, .int v8), (9, .long v9), (11, .int v11), (12, .int v12)] [] := by
    intro n
    induction n with
    | zero =>
      intro v4 v5 v7 v8 v9 v11 v12 h
      exact absurd h (by rw [fX1_slyestDepth_L49]; exact fun q => by cases q)
    | succ n ih =>
      intro v4 v5 v7 v8 v9 v11 v12 h
      rw [fX1_slyestDepth_L49] at h
      refine rl_iload hG dX1_slyestDepth_49 7 rfl ?_
      refine rl_bipush hG (v := 10) dX1_slyestDepth_51 (by decide) ?_
      refine rl_icmp_ge hG (tgt := 138) dX1_slyestDepth_53 (by decide) (fun c2 => ?_) (fun c2 => ?_)
      · have h := it_t h c2
        refine rl_iload hG dX1_slyestDepth_138 3 rfl ?_
        exact rl_ret1 hret h rfl dX1_slyestDepth_140
      · have h := it_f h c2
        refine rl_iload hG dX1_slyestDepth_56 7 rfl ?_
        refine rl_iload hG dX1_slyestDepth_58 4 rfl ?_
        refine rl_bipush hG (v := 10) dX1_slyestDepth_60 (by decide) ?_
        refine rl_irem hG dX1_slyestDepth_62 (by decide) ?_
        refine rl_isub hG dX1_slyestDepth_63 ?_
        refine rl_mabs hG nX1_slyestDepth_0 nX1_slyestDepth_1 nX1_slyestDepth_2 nX1_slyestDepth_3 (Nat.le_of_ble_eq_true rfl) (Nat.le_of_ble_eq_true rfl) dX1_slyestDepth_64 ?_
        obtain ⟨x3, ex3, h⟩ := bd_ok h
        refine rl_istore hG [(13, .int x3), (0, .ref (a 5)), (4, .int v4), (5, .long v5), (7, .int v7), (8, .int v8), (9, .long v9), (11, .int v11), (12, .int v12)] dX1_slyestDepth_67 (Nat.le_of_ble_eq_true rfl) ex3 rfl ?_
        refine rl_iload hG dX1_slyestDepth_69 0 rfl ?_
        refine rl_iconst hG (v := 1) dX1_slyestDepth_71 (by decide) ?_
        refine rl_icmp_lt hG (tgt := 132) dX1_slyestDepth_72 (by decide) (fun c4 => ?_) (fun c4 => ?_)
        · have h := it_t h c4
          exact rl_lvs hG [1, 2, 3, 4, 5, 6, 7, 8] rfl (H132 (fX1_slyestDepth_L49 u t n) (ih) v4 v5 v7 v8 v9 v11 v12 h)
        · have h := it_f h c4
          refine rl_iload hG dX1_slyestDepth_75 0 rfl ?_
          refine rl_iload hG dX1_slyestDepth_77 2 rfl ?_
          refine rl_icmp_gt hG (tgt := 132) dX1_slyestDepth_79 (by decide) (fun c5 => ?_) (fun c5 => ?_)
          · have h := it_t h c5
            exact rl_lvs hG [1, 2, 3, 4, 5, 6, 7, 8] rfl (H132 (fX1_slyestDepth_L49 u t n) (ih) v4 v5 v7 v8 v9 v11 v12 h)
          · have h := it_f h c5
            refine rl_aload_n hG dX1_slyestDepth_82 rfl 1 rfl ?_
            refine rl_iload hG dX1_slyestDepth_83 5 rfl ?_
            refine rl_iload hG dX1_slyestDepth_85 5 rfl ?_
            refine rl_bipush hG (v := 10) dX1_slyestDepth_87 (by decide) ?_
            refine rl_irem hG dX1_slyestDepth_89 (by decide) ?_
            refine rl_isub hG dX1_slyestDepth_90 ?_
            refine rl_iload hG dX1_slyestDepth_91 8 rfl ?_
            refine rl_iadd hG dX1_slyestDepth_93 ?_
            refine rl_iconst hG (v := -1) dX1_slyestDepth_94 (by decide) ?_
            obtain ⟨x6, hx6q, h⟩ := o1_ok h
            refine rl_callVl hG (roX_ok xx) (As := [.int ((v8 - (v8 - v8 / (10 : Int32) * (10 : Int32))) + v12), .int (-1 : Int32)]) (kX1_setsForWork l D a cI cT aS xx u ((v8 - (v8 - v8 / (10 : Int32) * (10 : Int32))) + v12) (-1 : Int32) x6  hx6q) gX1_slyestDepth_X1_setsForWork rfl 5 (gX_5 a cI cT u) hcX1 2 rfl (by decide +kernel) rfl rfl (by decide) (Nat.le_of_ble_eq_true rfl) rfl dX1_slyestDepth_95 ?_
            refine rl_lstore hG [(14, .long x6), (13, .int x3), (0, .ref (a 5)), (4, .int v4), (5, .long v5), (7, .int v7), (8, .int v8), (9, .long v9), (11, .int v11), (12, .int v12)] dX1_slyestDepth_98 (Nat.le_of_ble_eq_true rfl) rfl rfl ?_
            refine rl_lload hG dX1_slyestDepth_100 4 rfl ?_
            refine rl_lload hG dX1_slyestDepth_102 7 rfl ?_
            refine rl_lload hG dX1_slyestDepth_104 0 rfl ?_
            refine rl_lor hG dX1_slyestDepth_106 ?_
            refine rl_land hG dX1_slyestDepth_107 ?_
            obtain ⟨x7, hx7q, h⟩ := o1_ok h
            refine rl_callZi hG (As := [.long (v5 &&& (v9 ||| x6))]) (kX1_leastCount l D u (v5 &&& (v9 ||| x6)) x7 hx7q) gX1_slyestDepth_X1_leastCount rfl 1 rfl (by decide +kernel) rfl rfl (by decide) (Nat.le_of_ble_eq_true rfl) rfl dX1_slyestDepth_108 ?_
            refine rl_istore hG [(16, .int x7), (14, .long x6), (13, .int x3), (0, .ref (a 5)), (4, .int v4), (5, .long v5), (7, .int v7), (8, .int v8), (9, .long v9), (11, .int v11), (12, .int v12)] dX1_slyestDepth_111 (Nat.le_of_ble_eq_true rfl) rfl rfl ?_
            refine rl_iload hG dX1_slyestDepth_113 6 rfl ?_
            refine rl_iload hG dX1_slyestDepth_115 0 rfl ?_
            refine rl_sipush hG (v := 160) dX1_slyestDepth_117 (by decide) ?_
            refine rl_imul hG dX1_slyestDepth_120 ?_
            refine rl_iload hG dX1_slyestDepth_121 9 rfl ?_
            refine rl_iadd hG dX1_slyestDepth_123 ?_
            refine rl_iload hG dX1_slyestDepth_124 10 rfl ?_
            refine rl_iadd hG dX1_slyestDepth_126 ?_
            refine rl_mmin hG nX1_slyestDepth_4 nX1_slyestDepth_5 nX1_slyestDepth_2 nX1_slyestDepth_6 (Nat.le_of_ble_eq_true rfl) (Nat.le_of_ble_eq_true rfl) dX1_slyestDepth_127 ?_
            obtain ⟨x8, ex8, h⟩ := bd_ok h
            refine rl_istore hG [(7, .int x8), (16, .int x7), (14, .long x6), (13, .int x3), (0, .ref (a 5)), (4, .int v4), (5, .long v5), (8, .int v8), (9, .long v9), (11, .int v11), (12, .int v12)] dX1_slyestDepth_130 (Nat.le_of_ble_eq_true rfl) ex8 rfl ?_
            exact rl_lvs hG [4, 5, 6, 0, 7, 8, 9, 10] rfl (H132 (fX1_slyestDepth_L49 u t n) (ih) v4 v5 x8 v8 v9 v11 v12 h)
  have h := h0
  rw [fX1_slyestDepth] at h
  show G u 0 [(0, .ref (a 5)), (1, .ref (a (23 + t))), (2, .int p2), (3, .int p3), (4, .int p4), (5, .long p5)] []
  refine rl_ldc hG (v := 1000000) dX1_slyestDepth_0 nX1_slyestDepth_7 ?_
  refine rl_istore hG [(7, .int (1000000 : Int32)), (0, .ref (a 5)), (1, .ref (a (23 + t))), (2, .int p2), (3, .int p3), (4, .int p4), (5, .long p5)] dX1_slyestDepth_2 (Nat.le_of_ble_eq_true rfl) rfl rfl ?_
  refine rl_aload_n hG dX1_slyestDepth_4 rfl 2 rfl ?_
  refine rl_iload_n hG dX1_slyestDepth_5 rfl 3 rfl ?_
  refine rl_iload_n hG dX1_slyestDepth_6 rfl 4 rfl ?_
  obtain ⟨x9, hx9q, h⟩ := o1_ok h
  refine rl_callVi hG (roX_ok xx) (As := [.int p2, .int p3]) (kX6_workAt l D a cI cT aS xx u t p2 p3 x9 ht hx9q) gX1_slyestDepth_X6_workAt rfl (23 + t) (gX_t a cI cT u ht) hcX6 2 rfl (by decide +kernel) rfl rfl (by decide) (Nat.le_of_ble_eq_true rfl) rfl dX1_slyestDepth_7 ?_
  refine rl_istore hG [(8, .int x9), (7, .int (1000000 : Int32)), (0, .ref (a 5)), (1, .ref (a (23 + t))), (2, .int p2), (3, .int p3), (4, .int p4), (5, .long p5)] dX1_slyestDepth_10 (Nat.le_of_ble_eq_true rfl) rfl rfl ?_
  refine rl_iload hG dX1_slyestDepth_12 0 rfl ?_
  refine rl_iconst hG (v := -1) dX1_slyestDepth_14 (by decide) ?_
  refine rl_icmp_ne hG (tgt := 21) dX1_slyestDepth_15 (by decide) (fun c10 => ?_) (fun c10 => ?_)
  · have h := it_f h c10
    refine rl_aload_n hG dX1_slyestDepth_21 rfl 2 rfl ?_
    refine rl_aload_n hG dX1_slyestDepth_22 rfl 3 rfl ?_
    refine rl_iload_n hG dX1_slyestDepth_23 rfl 4 rfl ?_
    refine rl_iconst hG (v := 1) dX1_slyestDepth_24 (by decide) ?_
    refine rl_iload_n hG dX1_slyestDepth_25 rfl 5 rfl ?_
    refine rl_isub hG dX1_slyestDepth_26 ?_
    obtain ⟨x11, hx11q, h⟩ := o1_ok h
    refine rl_callVi hG (roX_ok xx) (As := [.int p2, .int ((1 : Int32) - p3)]) (kX6_workAt l D a cI cT aS xx u t p2 ((1 : Int32) - p3) x11 ht hx11q) gX1_slyestDepth_X6_workAt rfl (23 + t) (gX_t a cI cT u ht) hcX6 2 rfl (by decide +kernel) rfl rfl (by decide) (Nat.le_of_ble_eq_true rfl) rfl dX1_slyestDepth_27 ?_
    refine rl_iconst hG (v := -1) dX1_slyestDepth_30 (by decide) ?_
    obtain ⟨x12, hx12q, h⟩ := o1_ok h
    refine rl_callVl hG (roX_ok xx) (As := [.int x11, .int (-1 : Int32)]) (kX1_setsForWork l D a cI cT aS xx u x11 (-1 : Int32) x12  hx12q) gX1_slyestDepth_X1_setsForWork rfl 5 (gX_5 a cI cT u) hcX1 2 rfl (by decide +kernel) rfl rfl (by decide) (Nat.le_of_ble_eq_true rfl) rfl dX1_slyestDepth_31 ?_
    refine rl_lstore hG [(9, .long x12), (8, .int x9), (7, .int (1000000 : Int32)), (0, .ref (a 5)), (1, .ref (a (23 + t))), (2, .int p2), (3, .int p3), (4, .int p4), (5, .long p5)] dX1_slyestDepth_34 (Nat.le_of_ble_eq_true rfl) rfl rfl ?_
    refine rl_iload_n hG dX1_slyestDepth_36 rfl 5 rfl ?_
    refine rl_iconst hG (v := 2) dX1_slyestDepth_37 (by decide) ?_
    refine rl_imul hG dX1_slyestDepth_38 ?_
    refine rl_iload_n hG dX1_slyestDepth_39 rfl 6 rfl ?_
    refine rl_iadd hG dX1_slyestDepth_40 ?_
    refine rl_bipush hG (v := 10) dX1_slyestDepth_41 (by decide) ?_
    refine rl_imul hG dX1_slyestDepth_43 ?_
    obtain ⟨x13, ex13, h⟩ := bd_ok h
    refine rl_istore hG [(11, .int x13), (9, .long x12), (8, .int x9), (7, .int (1000000 : Int32)), (0, .ref (a 5)), (1, .ref (a (23 + t))), (2, .int p2), (3, .int p3), (4, .int p4), (5, .long p5)] dX1_slyestDepth_44 (Nat.le_of_ble_eq_true rfl) ex13 rfl ?_
    refine rl_iconst hG (v := 0) dX1_slyestDepth_46 (by decide) ?_
    refine rl_istore hG [(12, .int (0 : Int32)), (11, .int x13), (9, .long x12), (8, .int x9), (7, .int (1000000 : Int32)), (0, .ref (a 5)), (1, .ref (a (23 + t))), (2, .int p2), (3, .int p3), (4, .int p4), (5, .long p5)] dX1_slyestDepth_47 (Nat.le_of_ble_eq_true rfl) rfl rfl ?_
    exact rl_lvs hG [5, 9, 10, 4, 3, 2, 1, 0] rfl (H49 2000 p4 p5 (1000000 : Int32) x9 x12 x13 (0 : Int32) h)
  · have h := it_t h c10
    refine rl_iload hG dX1_slyestDepth_18 1 rfl ?_
    exact rl_ret1 hret h rfl dX1_slyestDepth_20
def fX1_slyest_L75 (u : St) (t : Nat) (k19 : Int32 → Int32 → Int32 → Int32 → Option (Int32)) (v2 : Int32) (v3 : Int32) (v4 : Int32) (v5 : Int32) : Option (Int32) := bd (v5 + (1 : Int32)) (fun x1 => k19 v2 v3 v4 x1)
def fX1_slyest_L44 (u : St) (t : Nat) (k19 : Int32 → Int32 → Int32 → Int32 → Option (Int32)) : Nat → Int32 → Int32 → Int32 → Int32 → Int64 → Int32 → Option (Int32)
  | 0 => fun _ _ _ _ _ _ => none
  | n + 1 => fun v2 v3 v4 v5 v6 v8 => (if (2 : Int32) ≤ v8 then fX1_slyest_L75 u t k19 v2 v3 v4 v5 else o1 (fX1_slyestDepth u t v5 v8 v2 v6) (fun x3 => bd (mi v4 x3) (fun x4 => bd (v8 + (1 : Int32)) (fun x5 => fX1_slyest_L44 u t k19 n v2 v3 x4 v5 v6 x5))))
def fX1_slyest_L81 (u : St) (t : Nat)  (v3 : Int32) (v4 : Int32) : Option (Int32) := (if v4 = v3 then some (-1 : Int32) else some v4)
def fX1_slyest_L19 (u : St) (t : Nat)  : Nat → Int32 → Int32 → Int32 → Int32 → Option (Int32)
  | 0 => fun _ _ _ _ => none
  | n + 1 => fun v2 v3 v4 v5 => (if (u (23 + t) 1) ≤ v5 then fX1_slyest_L81 u t v3 v4 else o1 (fX1_setsForThing u t v5 (-1 : Int32) (-1 : Int64)) (fun x8 => fX1_slyest_L44 u t (fX1_slyest_L19 u t n) 2000 v2 v3 v4 v5 x8 (0 : Int32)))
def fX1_slyest (u : St) (t : Nat) (p2 : Int32) : Option (Int32) := o1 (fX1_makers u t) (fun x9 => o1 (fX1_leastCount x9) (fun x10 => bd (x10 * (160 : Int32)) (fun x11 => fX1_slyest_L19 u t 2000 p2 x11 x11 (0 : Int32))))
theorem nX1_slyest_0 : Cond.methodLink RX1 92 Lib.Math.min.name ∈ wsX1_slyest := by decide +kernel
theorem nX1_slyest_1 : Cond.static Lib.Math.min.name ∈ wsX1_slyest := by decide +kernel
theorem nX1_slyest_2 : Cond.initialized "java/lang/Math" ∈ wsX1_slyest := by decide +kernel
theorem nX1_slyest_3 : Cond.code Lib.Math.min.name Lib.Math.min.code 2 (some .int) ∈ wsX1_slyest := by decide +kernel
theorem nX1_slyest_4 : Cond.fieldLink RX1 29 "WhoseWork$Thing" "size" "I" ∈ wsX1_slyest := by decide +kernel
theorem nX1_slyest_5 : Cond.constantLong RX1 66 (-1) ∈ wsX1_slyest := by decide +kernel
theorem iX1_slyest_X6 : ∀ w ∈ wsX60, w ∈ wsX1_slyest := by decide +kernel
set_option maxRecDepth 100000 in
set_option maxHeartbeats 4000000 in
theorem kX1_slyest (l : Launch) (D : va_G) (a : Nat → Nat) (cI cT : ClassId) (aS : Nat → Prop) (xx : Rx) (u : St) (t : Nat) (p2 : Int32) (r : Int32) (ht : t < 6) (h0 : fX1_slyest u t p2 = some r) : rl_Mi l yX1_slyest wsX1_slyest ({ frames := 6, cells := 0, slots := 0, locals := 147 } : Room) D (tyX cI cT) (wX a cI cT) (roX xx) aS [.ref (a 5), .ref (a (23 + t)), .int p2] u r u := by
  refine rl_meth_i (cc := cX1_slyest) (maxL := 9) (own := RX1) (ty := .int) (by decide) rfl rfl (Nat.le_of_ble_eq_true rfl) ?_
  intro G hG hret
  have H75 : ∀ (k19 : Int32 → Int32 → Int32 → Int32 → Option (Int32)) (hk19 : ∀ (v2 : Int32) (v3 : Int32) (v4 : Int32) (v5 : Int32), k19 v2 v3 v4 v5 = some r → G u 19 [(0, .ref (a 5)), (1, .ref (a (23 + t))), (2, .int v2), (3, .int v3), (4, .int v4), (5, .int v5)] []), ∀ (v2 : Int32) (v3 : Int32) (v4 : Int32) (v5 : Int32), fX1_slyest_L75 u t k19 v2 v3 v4 v5 = some r → G u 75 [(0, .ref (a 5)), (1, .ref (a (23 + t))), (2, .int v2), (3, .int v3), (4, .int v4), (5, .int v5)] [] := by
    intro k19 hk19 v2 v3 v4 v5 h
    rw [fX1_slyest_L75] at h
    obtain ⟨x1, ex1, h⟩ := bd_ok h
    refine rl_iinc hG [(5, .int x1), (0, .ref (a 5)), (1, .ref (a (23 + t))), (2, .int v2), (3, .int v3), (4, .int v4)] dX1_slyest_75 5 rfl (by rw [ex1]; rfl) (Nat.le_of_ble_eq_true rfl) rfl ?_
    refine rl_goto hG (tgt := 19) dX1_slyest_78 (by decide) ?_
    exact rl_lvs hG [1, 2, 3, 4, 5, 0] rfl (hk19 v2 v3 v4 x1 h)
  have H44 : ∀ (k19 : Int32 → Int32 → Int32 → Int32 → Option (Int32)) (hk19 : ∀ (v2 : Int32) (v3 : Int32) (v4 : Int32) (v5 : Int32), k19 v2 v3 v4 v5 = some r → G u 19 [(0, .ref (a 5)), (1, .ref (a (23 + t))), (2, .int v2), (3, .int v3), (4, .int v4), (5, .int v5)] []), ∀ (n : Nat) (v2 : Int32) (v3 : Int32) (v4 : Int32) (v5 : Int32) (v6 : Int64) (v8 : Int32), fX1_slyest_L44 u t k19 n v2 v3 v4 v5 v6 v8 = some r → G u 44 [(0, .ref (a 5)), (1, .ref (a (23 + t))), (2, .int v2), (3, .int v3), (4, .int v4), (5, .int v5), (6, .long v6), (8, .int v8)] [] := by
    intro k19 hk19
    intro n
    induction n with
    | zero =>
      intro v2 v3 v4 v5 v6 v8 h
      exact absurd h (by rw [fX1_slyest_L44]; exact fun q => by cases q)
    | succ n ih =>
      intro v2 v3 v4 v5 v6 v8 h
      rw [fX1_slyest_L44] at h
      refine rl_iload hG dX1_slyest_44 7 rfl ?_
      refine rl_iconst hG (v := 2) dX1_slyest_46 (by decide) ?_
      refine rl_icmp_ge hG (tgt := 75) dX1_slyest_47 (by decide) (fun c2 => ?_) (fun c2 => ?_)
      · have h := it_t h c2
        exact rl_lvs hG [0, 1, 2, 3, 4, 5] rfl (H75 (k19) (hk19) v2 v3 v4 v5 h)
      · have h := it_f h c2
        refine rl_iload hG dX1_slyest_50 4 rfl ?_
        refine rl_aload_n hG dX1_slyest_52 rfl 0 rfl ?_
        refine rl_aload_n hG dX1_slyest_53 rfl 1 rfl ?_
        refine rl_iload hG dX1_slyest_54 5 rfl ?_
        refine rl_iload hG dX1_slyest_56 7 rfl ?_
        refine rl_iload_n hG dX1_slyest_58 rfl 2 rfl ?_
        refine rl_lload hG dX1_slyest_59 6 rfl ?_
        obtain ⟨x3, hx3q, h⟩ := o1_ok h
        refine rl_callVi hG (roX_ok xx) (As := [.ref (a (23 + t)), .int v5, .int v8, .int v2, .long v6]) (kX1_slyestDepth l D a cI cT aS xx u t v5 v8 v2 v6 x3 ht hx3q) gX1_slyest_X1_slyestDepth rfl 5 (gX_5 a cI cT u) hcX1 5 rfl (by decide +kernel) rfl rfl (by decide) (Nat.le_of_ble_eq_true rfl) rfl dX1_slyest_61 ?_
        refine rl_mmin hG nX1_slyest_0 nX1_slyest_1 nX1_slyest_2 nX1_slyest_3 (Nat.le_of_ble_eq_true rfl) (Nat.le_of_ble_eq_true rfl) dX1_slyest_64 ?_
        obtain ⟨x4, ex4, h⟩ := bd_ok h
        refine rl_istore hG [(4, .int x4), (0, .ref (a 5)), (1, .ref (a (23 + t))), (2, .int v2), (3, .int v3), (5, .int v5), (6, .long v6), (8, .int v8)] dX1_slyest_67 (Nat.le_of_ble_eq_true rfl) ex4 rfl ?_
        obtain ⟨x5, ex5, h⟩ := bd_ok h
        refine rl_iinc hG [(8, .int x5), (4, .int x4), (0, .ref (a 5)), (1, .ref (a (23 + t))), (2, .int v2), (3, .int v3), (5, .int v5), (6, .long v6)] dX1_slyest_69 7 rfl (by rw [ex5]; rfl) (Nat.le_of_ble_eq_true rfl) rfl ?_
        refine rl_goto hG (tgt := 44) dX1_slyest_72 (by decide) ?_
        exact rl_lvs hG [2, 3, 4, 5, 1, 6, 7, 0] rfl (ih v2 v3 x4 v5 v6 x5 h)
  have H81 : ∀ (v3 : Int32) (v4 : Int32), fX1_slyest_L81 u t v3 v4 = some r → G u 81 [(3, .int v3), (4, .int v4)] [] := by
    intro  v3 v4 h
    rw [fX1_slyest_L81] at h
    refine rl_iload hG dX1_slyest_81 1 rfl ?_
    refine rl_iload_n hG dX1_slyest_83 rfl 0 rfl ?_
    refine rl_icmp_ne hG (tgt := 91) dX1_slyest_84 (by decide) (fun c6 => ?_) (fun c6 => ?_)
    · have h := it_f h c6
      refine rl_iload hG dX1_slyest_91 1 rfl ?_
      exact rl_ret1 hret h rfl dX1_slyest_93
    · have h := it_t h c6
      refine rl_iconst hG (v := -1) dX1_slyest_87 (by decide) ?_
      refine rl_goto hG (tgt := 93) dX1_slyest_88 (by decide) ?_
      exact rl_ret1 hret h rfl dX1_slyest_93
  have H19 : ∀ (n : Nat) (v2 : Int32) (v3 : Int32) (v4 : Int32) (v5 : Int32), fX1_slyest_L19 u t n v2 v3 v4 v5 = some r → G u 19 [(0, .ref (a 5)), (1, .ref (a (23 + t))), (2, .int v2), (3, .int v3), (4, .int v4), (5, .int v5)] [] := by
    intro n
    induction n with
    | zero =>
      intro v2 v3 v4 v5 h
      exact absurd h (by rw [fX1_slyest_L19]; exact fun q => by cases q)
    | succ n ih =>
      intro v2 v3 v4 v5 h
      rw [fX1_slyest_L19] at h
      refine rl_iload hG dX1_slyest_19 5 rfl ?_
      refine rl_aload_n hG dX1_slyest_21 rfl 1 rfl ?_
      refine rl_get hG iX1_slyest_X6 (23 + t) (gX_t a cI cT u ht) hcX6 1 (Nat.le_of_ble_eq_true rfl) nX1_slyest_4 rfl dX1_slyest_22 ?_
      refine rl_icmp_ge hG (tgt := 81) dX1_slyest_25 (by decide) (fun c7 => ?_) (fun c7 => ?_)
      · have h := it_t h c7
        exact rl_lvs hG [3, 4] rfl (H81 v3 v4 h)
      · have h := it_f h c7
        refine rl_aload_n hG dX1_slyest_28 rfl 0 rfl ?_
        refine rl_aload_n hG dX1_slyest_29 rfl 1 rfl ?_
        refine rl_iload hG dX1_slyest_30 5 rfl ?_
        refine rl_iconst hG (v := -1) dX1_slyest_32 (by decide) ?_
        refine rl_ldc2 hG (v := -1) dX1_slyest_33 nX1_slyest_5 ?_
        obtain ⟨x8, hx8q, h⟩ := o1_ok h
        refine rl_callVl hG (roX_ok xx) (As := [.ref (a (23 + t)), .int v5, .int (-1 : Int32), .long (-1 : Int64)]) (kX1_setsForThing l D a cI cT aS xx u t v5 (-1 : Int32) (-1 : Int64) x8 ht hx8q) gX1_slyest_X1_setsForThing rfl 5 (gX_5 a cI cT u) hcX1 4 rfl (by decide +kernel) rfl rfl (by decide) (Nat.le_of_ble_eq_true rfl) rfl dX1_slyest_36 ?_
        refine rl_lstore hG [(6, .long x8), (0, .ref (a 5)), (1, .ref (a (23 + t))), (2, .int v2), (3, .int v3), (4, .int v4), (5, .int v5)] dX1_slyest_39 (Nat.le_of_ble_eq_true rfl) rfl rfl ?_
        refine rl_iconst hG (v := 0) dX1_slyest_41 (by decide) ?_
        refine rl_istore hG [(8, .int (0 : Int32)), (6, .long x8), (0, .ref (a 5)), (1, .ref (a (23 + t))), (2, .int v2), (3, .int v3), (4, .int v4), (5, .int v5)] dX1_slyest_42 (Nat.le_of_ble_eq_true rfl) rfl rfl ?_
        exact rl_lvs hG [2, 3, 4, 5, 6, 7, 1, 0] rfl (H44 (fX1_slyest_L19 u t n) (ih) 2000 v2 v3 v4 v5 x8 (0 : Int32) h)
  have h := h0
  rw [fX1_slyest] at h
  show G u 0 [(0, .ref (a 5)), (1, .ref (a (23 + t))), (2, .int p2)] []
  refine rl_aload_n hG dX1_slyest_0 rfl 0 rfl ?_
  refine rl_aload_n hG dX1_slyest_1 rfl 1 rfl ?_
  obtain ⟨x9, hx9q, h⟩ := o1_ok h
  refine rl_callVl hG (roX_ok xx) (As := [.ref (a (23 + t))]) (kX1_makers l D a cI cT aS xx u t x9 ht hx9q) gX1_slyest_X1_makers rfl 5 (gX_5 a cI cT u) hcX1 1 rfl (by decide +kernel) rfl rfl (by decide) (Nat.le_of_ble_eq_true rfl) rfl dX1_slyest_2 ?_
  obtain ⟨x10, hx10q, h⟩ := o1_ok h
  refine rl_callZi hG (As := [.long x9]) (kX1_leastCount l D u x9 x10 hx10q) gX1_slyest_X1_leastCount rfl 1 rfl (by decide +kernel) rfl rfl (by decide) (Nat.le_of_ble_eq_true rfl) rfl dX1_slyest_5 ?_
  refine rl_sipush hG (v := 160) dX1_slyest_8 (by decide) ?_
  refine rl_imul hG dX1_slyest_11 ?_
  obtain ⟨x11, ex11, h⟩ := bd_ok h
  refine rl_istore_n hG [(3, .int x11), (0, .ref (a 5)), (1, .ref (a (23 + t))), (2, .int p2)] dX1_slyest_12 rfl (Nat.le_of_ble_eq_true rfl) ex11 rfl ?_
  refine rl_iload_n hG dX1_slyest_13 rfl 0 rfl ?_
  refine rl_istore hG [(4, .int x11), (3, .int x11), (0, .ref (a 5)), (1, .ref (a (23 + t))), (2, .int p2)] dX1_slyest_14 (Nat.le_of_ble_eq_true rfl) rfl rfl ?_
  refine rl_iconst hG (v := 0) dX1_slyest_16 (by decide) ?_
  refine rl_istore hG [(5, .int (0 : Int32)), (4, .int x11), (3, .int x11), (0, .ref (a 5)), (1, .ref (a (23 + t))), (2, .int p2)] dX1_slyest_17 (Nat.le_of_ble_eq_true rfl) rfl rfl ?_
  exact rl_lvs hG [3, 4, 5, 2, 1, 0] rfl (H19 2000 p2 x11 x11 (0 : Int32) h)
def fX1_boundsAround_L56 (u : St) (t : Nat) (k4 : Int32 → Int32 → Option (Int32)) (v3 : Int32) (w0 : Int32) (w1 : Int32) : Option (Int32) := bd (w1 ||| w0) (fun x1 => bd (v3 + (1 : Int32)) (fun x2 => k4 x1 x2))
def fX1_boundsAround_L4 (u : St) (t : Nat)  : Nat → Int32 → Int32 → Option (Int32)
  | 0 => fun _ _ => none
  | n + 1 => fun v2 v3 => (if (u (23 + t) 1) ≤ v3 then some v2 else o1 (fX6_workAt u t v3 (1 : Int32)) (fun x4 => o1 (fX6_workAt u t v3 (0 : Int32)) (fun x5 => o1 (fX0_boundsAroundWork u x5) (fun x6 => bd (v2 ||| x6) (fun x7 => (if x4 = (-1 : Int32) then fX1_boundsAround_L56 u t (fX1_boundsAround_L4 u t n) v3 (0 : Int32) x7 else o1 (fX0_boundsAroundWork u x4) (fun x9 => fX1_boundsAround_L56 u t (fX1_boundsAround_L4 u t n) v3 x9 x7)))))))
def fX1_boundsAround (u : St) (t : Nat)  : Option (Int32) := fX1_boundsAround_L4 u t 2000 (0 : Int32) (0 : Int32)
theorem nX1_boundsAround_0 : Cond.fieldLink RX1 29 "WhoseWork$Thing" "size" "I" ∈ wsX1_boundsAround := by decide +kernel
theorem nX1_boundsAround_1 : Cond.fieldLink RX1 15 "WhoseWork$Maker" "law" "LWhoseWork$Law;" ∈ wsX1_boundsAround := by decide +kernel
theorem iX1_boundsAround_X1 : ∀ w ∈ wsX10, w ∈ wsX1_boundsAround := by decide +kernel
theorem iX1_boundsAround_X6 : ∀ w ∈ wsX60, w ∈ wsX1_boundsAround := by decide +kernel
set_option maxRecDepth 100000 in
set_option maxHeartbeats 4000000 in
theorem kX1_boundsAround (l : Launch) (D : va_G) (a : Nat → Nat) (cI cT : ClassId) (aS : Nat → Prop) (xx : Rx) (u : St) (t : Nat)  (r : Int32) (ht : t < 6) (h0 : fX1_boundsAround u t = some r) : rl_Mi l yX1_boundsAround wsX1_boundsAround ({ frames := 1, cells := 0, slots := 0, locals := 22 } : Room) D (tyX cI cT) (wX a cI cT) (roX xx) aS [.ref (a 5), .ref (a (23 + t))] u r u := by
  refine rl_meth_i (cc := cX1_boundsAround) (maxL := 5) (own := RX1) (ty := .int) (by decide) rfl rfl (Nat.le_of_ble_eq_true rfl) ?_
  intro G hG hret
  have H56 : ∀ (k4 : Int32 → Int32 → Option (Int32)) (hk4 : ∀ (v2 : Int32) (v3 : Int32), k4 v2 v3 = some r → G u 4 [(0, .ref (a 5)), (1, .ref (a (23 + t))), (2, .int v2), (3, .int v3)] []), ∀ (v3 : Int32) (w0 : Int32) (w1 : Int32), fX1_boundsAround_L56 u t k4 v3 w0 w1 = some r → G u 56 [(0, .ref (a 5)), (1, .ref (a (23 + t))), (3, .int v3)] [.int w0, .int w1] := by
    intro k4 hk4 v3 w0 w1 h
    rw [fX1_boundsAround_L56] at h
    refine rl_ior hG dX1_boundsAround_56 ?_
    obtain ⟨x1, ex1, h⟩ := bd_ok h
    refine rl_istore_n hG [(2, .int x1), (0, .ref (a 5)), (1, .ref (a (23 + t))), (3, .int v3)] dX1_boundsAround_57 rfl (Nat.le_of_ble_eq_true rfl) ex1 rfl ?_
    obtain ⟨x2, ex2, h⟩ := bd_ok h
    refine rl_iinc hG [(3, .int x2), (2, .int x1), (0, .ref (a 5)), (1, .ref (a (23 + t)))] dX1_boundsAround_58 3 rfl (by rw [ex2]; rfl) (Nat.le_of_ble_eq_true rfl) rfl ?_
    refine rl_goto hG (tgt := 4) dX1_boundsAround_61 (by decide) ?_
    exact rl_lvs hG [2, 3, 1, 0] rfl (hk4 x1 x2 h)
  have H4 : ∀ (n : Nat) (v2 : Int32) (v3 : Int32), fX1_boundsAround_L4 u t n v2 v3 = some r → G u 4 [(0, .ref (a 5)), (1, .ref (a (23 + t))), (2, .int v2), (3, .int v3)] [] := by
    intro n
    induction n with
    | zero =>
      intro v2 v3 h
      exact absurd h (by rw [fX1_boundsAround_L4]; exact fun q => by cases q)
    | succ n ih =>
      intro v2 v3 h
      rw [fX1_boundsAround_L4] at h
      refine rl_iload_n hG dX1_boundsAround_4 rfl 3 rfl ?_
      refine rl_aload_n hG dX1_boundsAround_5 rfl 1 rfl ?_
      refine rl_get hG iX1_boundsAround_X6 (23 + t) (gX_t a cI cT u ht) hcX6 1 (Nat.le_of_ble_eq_true rfl) nX1_boundsAround_0 rfl dX1_boundsAround_6 ?_
      refine rl_icmp_ge hG (tgt := 64) dX1_boundsAround_9 (by decide) (fun c3 => ?_) (fun c3 => ?_)
      · have h := it_t h c3
        refine rl_iload_n hG dX1_boundsAround_64 rfl 2 rfl ?_
        exact rl_ret1 hret h rfl dX1_boundsAround_65
      · have h := it_f h c3
        refine rl_aload_n hG dX1_boundsAround_12 rfl 1 rfl ?_
        refine rl_iload_n hG dX1_boundsAround_13 rfl 3 rfl ?_
        refine rl_iconst hG (v := 1) dX1_boundsAround_14 (by decide) ?_
        obtain ⟨x4, hx4q, h⟩ := o1_ok h
        refine rl_callVi hG (roX_ok xx) (As := [.int v3, .int (1 : Int32)]) (kX6_workAt l D a cI cT aS xx u t v3 (1 : Int32) x4 ht hx4q) gX1_boundsAround_X6_workAt rfl (23 + t) (gX_t a cI cT u ht) hcX6 2 rfl (by decide +kernel) rfl rfl (by decide) (Nat.le_of_ble_eq_true rfl) rfl dX1_boundsAround_15 ?_
        refine rl_istore hG [(4, .int x4), (0, .ref (a 5)), (1, .ref (a (23 + t))), (2, .int v2), (3, .int v3)] dX1_boundsAround_18 (Nat.le_of_ble_eq_true rfl) rfl rfl ?_
        refine rl_iload_n hG dX1_boundsAround_20 rfl 3 rfl ?_
        refine rl_aload_n hG dX1_boundsAround_21 rfl 1 rfl ?_
        refine rl_get hG iX1_boundsAround_X1 5 (gX_5 a cI cT u) hcX1 0 (Nat.le_of_ble_eq_true rfl) nX1_boundsAround_1 rfl dX1_boundsAround_22 ?_
        refine rl_aload_n hG dX1_boundsAround_25 rfl 2 rfl ?_
        refine rl_iload_n hG dX1_boundsAround_26 rfl 4 rfl ?_
        refine rl_iconst hG (v := 0) dX1_boundsAround_27 (by decide) ?_
        obtain ⟨x5, hx5q, h⟩ := o1_ok h
        refine rl_callVi hG (roX_ok xx) (As := [.int v3, .int (0 : Int32)]) (kX6_workAt l D a cI cT aS xx u t v3 (0 : Int32) x5 ht hx5q) gX1_boundsAround_X6_workAt rfl (23 + t) (gX_t a cI cT u ht) hcX6 2 rfl (by decide +kernel) rfl rfl (by decide) (Nat.le_of_ble_eq_true rfl) rfl dX1_boundsAround_28 ?_
        obtain ⟨x6, hx6q, h⟩ := o1_ok h
        refine rl_callVi hG (roX_ok xx) (As := [.int x5]) (kX0_boundsAroundWork l D a cI cT aS xx u x5 x6  hx6q) gX1_boundsAround_X0_boundsAroundWork rfl 3 (gX_3 a cI cT u) hcX0 1 rfl (by decide +kernel) rfl rfl (by decide) (Nat.le_of_ble_eq_true rfl) rfl dX1_boundsAround_31 ?_
        refine rl_ior hG dX1_boundsAround_34 ?_
        obtain ⟨x7, ex7, h⟩ := bd_ok h
        refine rl_istore_n hG [(2, .int x7), (4, .int x4), (0, .ref (a 5)), (1, .ref (a (23 + t))), (3, .int v3)] dX1_boundsAround_35 rfl (Nat.le_of_ble_eq_true rfl) ex7 rfl ?_
        refine rl_iload_n hG dX1_boundsAround_36 rfl 0 rfl ?_
        refine rl_iload hG dX1_boundsAround_37 1 rfl ?_
        refine rl_iconst hG (v := -1) dX1_boundsAround_39 (by decide) ?_
        refine rl_icmp_ne hG (tgt := 47) dX1_boundsAround_40 (by decide) (fun c8 => ?_) (fun c8 => ?_)
        · have h := it_f h c8
          refine rl_aload_n hG dX1_boundsAround_47 rfl 2 rfl ?_
          refine rl_get hG iX1_boundsAround_X1 5 (gX_5 a cI cT u) hcX1 0 (Nat.le_of_ble_eq_true rfl) nX1_boundsAround_1 rfl dX1_boundsAround_48 ?_
          refine rl_iload hG dX1_boundsAround_51 1 rfl ?_
          obtain ⟨x9, hx9q, h⟩ := o1_ok h
          refine rl_callVi hG (roX_ok xx) (As := [.int x4]) (kX0_boundsAroundWork l D a cI cT aS xx u x4 x9  hx9q) gX1_boundsAround_X0_boundsAroundWork rfl 3 (gX_3 a cI cT u) hcX0 1 rfl (by decide +kernel) rfl rfl (by decide) (Nat.le_of_ble_eq_true rfl) rfl dX1_boundsAround_53 ?_
          exact rl_lvs hG [2, 3, 4] rfl (H56 (fX1_boundsAround_L4 u t n) (ih) v3 x9 x7 h)
        · have h := it_t h c8
          refine rl_iconst hG (v := 0) dX1_boundsAround_43 (by decide) ?_
          refine rl_goto hG (tgt := 56) dX1_boundsAround_44 (by decide) ?_
          exact rl_lvs hG [2, 3, 4] rfl (H56 (fX1_boundsAround_L4 u t n) (ih) v3 (0 : Int32) x7 h)
  have h := h0
  rw [fX1_boundsAround] at h
  show G u 0 [(0, .ref (a 5)), (1, .ref (a (23 + t)))] []
  refine rl_iconst hG (v := 0) dX1_boundsAround_0 (by decide) ?_
  refine rl_istore_n hG [(2, .int (0 : Int32)), (0, .ref (a 5)), (1, .ref (a (23 + t)))] dX1_boundsAround_1 rfl (Nat.le_of_ble_eq_true rfl) rfl rfl ?_
  refine rl_iconst hG (v := 0) dX1_boundsAround_2 (by decide) ?_
  refine rl_istore_n hG [(3, .int (0 : Int32)), (2, .int (0 : Int32)), (0, .ref (a 5)), (1, .ref (a (23 + t)))] dX1_boundsAround_3 rfl (Nat.le_of_ble_eq_true rfl) rfl rfl ?_
  exact rl_lvs hG [2, 3, 1, 0] rfl (H4 2000 (0 : Int32) (0 : Int32) h)
def fX1_fewestStruck_L86 (u : St) (t : Nat) (k31 : Int32 → Int32 → Int64 → Int32 → Option (Int32)) (k40 : Int32 → Int32 → Int64 → Int32 → Int32 → Option (Int32)) (v3 : Int32) (v4 : Int32) (v5 : Int64) (v7 : Int32) (v8 : Int32) : Option (Int32) := bd (v8 + (1 : Int32)) (fun x1 => k40 v3 v4 v5 v7 x1)
def fX1_fewestStruck_L92 (u : St) (t : Nat) (k31 : Int32 → Int32 → Int64 → Int32 → Option (Int32)) (v3 : Int32) (v4 : Int32) (v5 : Int64) (v7 : Int32) : Option (Int32) := bd (v7 + (1 : Int32)) (fun x2 => k31 v3 v4 v5 x2)
def fX1_fewestStruck_L40 (u : St) (t : Nat) (k31 : Int32 → Int32 → Int64 → Int32 → Option (Int32)) : Nat → Int32 → Int32 → Int64 → Int32 → Int32 → Option (Int32)
  | 0 => fun _ _ _ _ _ => none
  | n + 1 => fun v3 v4 v5 v7 v8 => (if ((1 : Int32) <<< (v3 &&& 31)) ≤ v8 then fX1_fewestStruck_L92 u t k31 v3 v4 v5 v7 else o1 (fJ6_bitCount_0f7a4 v8) (fun x4 => (if x4 = v7 then (if (v8 &&& v4) = (0 : Int32) then o1 (fX1_setsForThing u t (-1 : Int32) (v8 ^^^ (-1 : Int32)) v5) (fun x7 => (if (lg_cmp x7 (0 : Int64)) = (0 : Int32) then fX1_fewestStruck_L86 u t k31 (fX1_fewestStruck_L40 u t k31 n) v3 v4 v5 v7 v8 else some v8)) else fX1_fewestStruck_L86 u t k31 (fX1_fewestStruck_L40 u t k31 n) v3 v4 v5 v7 v8) else fX1_fewestStruck_L86 u t k31 (fX1_fewestStruck_L40 u t k31 n) v3 v4 v5 v7 v8)))
def fX1_fewestStruck_L31 (u : St) (t : Nat)  : Nat → Int32 → Int32 → Int64 → Int32 → Option (Int32)
  | 0 => fun _ _ _ _ => none
  | n + 1 => fun v3 v4 v5 v7 => (if v3 < v7 then some (-1 : Int32) else fX1_fewestStruck_L40 u t (fX1_fewestStruck_L31 u t n) 2000 v3 v4 v5 v7 (0 : Int32))
def fX1_fewestStruck (u : St) (t : Nat) (p2 : Int32) : Option (Int32) := bd (mi (u 3 1) (10 : Int32)) (fun x10 => o1 (fX1_boundsAround u t) (fun x11 => bd (x11 ^^^ (-1 : Int32)) (fun x12 => o1 (fX1_setsUpTo p2) (fun x13 => fX1_fewestStruck_L31 u t 2000 x10 x12 x13 (0 : Int32)))))
theorem nX1_fewestStruck_0 : Cond.fieldLink RX1 15 "WhoseWork$Maker" "law" "LWhoseWork$Law;" ∈ wsX1_fewestStruck := by decide +kernel
theorem nX1_fewestStruck_1 : Cond.fieldLink RX1 121 "WhoseWork$Law" "size" "I" ∈ wsX1_fewestStruck := by decide +kernel
theorem nX1_fewestStruck_2 : Cond.methodLink RX1 92 Lib.Math.min.name ∈ wsX1_fewestStruck := by decide +kernel
theorem nX1_fewestStruck_3 : Cond.static Lib.Math.min.name ∈ wsX1_fewestStruck := by decide +kernel
theorem nX1_fewestStruck_4 : Cond.initialized "java/lang/Math" ∈ wsX1_fewestStruck := by decide +kernel
theorem nX1_fewestStruck_5 : Cond.code Lib.Math.min.name Lib.Math.min.code 2 (some .int) ∈ wsX1_fewestStruck := by decide +kernel
theorem iX1_fewestStruck_X0 : ∀ w ∈ wsX00, w ∈ wsX1_fewestStruck := by decide +kernel
theorem iX1_fewestStruck_X1 : ∀ w ∈ wsX10, w ∈ wsX1_fewestStruck := by decide +kernel
set_option maxRecDepth 100000 in
set_option maxHeartbeats 4000000 in
theorem kX1_fewestStruck (l : Launch) (D : va_G) (a : Nat → Nat) (cI cT : ClassId) (aS : Nat → Prop) (xx : Rx) (u : St) (t : Nat) (p2 : Int32) (r : Int32) (ht : t < 6) (h0 : fX1_fewestStruck u t p2 = some r) : rl_Mi l yX1_fewestStruck wsX1_fewestStruck ({ frames := 5, cells := 0, slots := 0, locals := 126 } : Room) D (tyX cI cT) (wX a cI cT) (roX xx) aS [.ref (a 5), .ref (a (23 + t)), .int p2] u r u := by
  refine rl_meth_i (cc := cX1_fewestStruck) (maxL := 9) (own := RX1) (ty := .int) (by decide) rfl rfl (Nat.le_of_ble_eq_true rfl) ?_
  intro G hG hret
  have H86 : ∀ (k31 : Int32 → Int32 → Int64 → Int32 → Option (Int32)) (hk31 : ∀ (v3 : Int32) (v4 : Int32) (v5 : Int64) (v7 : Int32), k31 v3 v4 v5 v7 = some r → G u 31 [(0, .ref (a 5)), (1, .ref (a (23 + t))), (3, .int v3), (4, .int v4), (5, .long v5), (7, .int v7)] []) (k40 : Int32 → Int32 → Int64 → Int32 → Int32 → Option (Int32)) (hk40 : ∀ (v3 : Int32) (v4 : Int32) (v5 : Int64) (v7 : Int32) (v8 : Int32), k40 v3 v4 v5 v7 v8 = some r → G u 40 [(0, .ref (a 5)), (1, .ref (a (23 + t))), (3, .int v3), (4, .int v4), (5, .long v5), (7, .int v7), (8, .int v8)] []), ∀ (v3 : Int32) (v4 : Int32) (v5 : Int64) (v7 : Int32) (v8 : Int32), fX1_fewestStruck_L86 u t k31 k40 v3 v4 v5 v7 v8 = some r → G u 86 [(0, .ref (a 5)), (1, .ref (a (23 + t))), (3, .int v3), (4, .int v4), (5, .long v5), (7, .int v7), (8, .int v8)] [] := by
    intro k31 hk31 k40 hk40 v3 v4 v5 v7 v8 h
    rw [fX1_fewestStruck_L86] at h
    obtain ⟨x1, ex1, h⟩ := bd_ok h
    refine rl_iinc hG [(8, .int x1), (0, .ref (a 5)), (1, .ref (a (23 + t))), (3, .int v3), (4, .int v4), (5, .long v5), (7, .int v7)] dX1_fewestStruck_86 6 rfl (by rw [ex1]; rfl) (Nat.le_of_ble_eq_true rfl) rfl ?_
    refine rl_goto hG (tgt := 40) dX1_fewestStruck_89 (by decide) ?_
    exact rl_lvs hG [1, 2, 3, 4, 5, 6, 0] rfl (hk40 v3 v4 v5 v7 x1 h)
  have H92 : ∀ (k31 : Int32 → Int32 → Int64 → Int32 → Option (Int32)) (hk31 : ∀ (v3 : Int32) (v4 : Int32) (v5 : Int64) (v7 : Int32), k31 v3 v4 v5 v7 = some r → G u 31 [(0, .ref (a 5)), (1, .ref (a (23 + t))), (3, .int v3), (4, .int v4), (5, .long v5), (7, .int v7)] []), ∀ (v3 : Int32) (v4 : Int32) (v5 : Int64) (v7 : Int32), fX1_fewestStruck_L92 u t k31 v3 v4 v5 v7 = some r → G u 92 [(0, .ref (a 5)), (1, .ref (a (23 + t))), (3, .int v3), (4, .int v4), (5, .long v5), (7, .int v7)] [] := by
    intro k31 hk31 v3 v4 v5 v7 h
    rw [fX1_fewestStruck_L92] at h
    obtain ⟨x2, ex2, h⟩ := bd_ok h
    refine rl_iinc hG [(7, .int x2), (0, .ref (a 5)), (1, .ref (a (23 + t))), (3, .int v3), (4, .int v4), (5, .long v5)] dX1_fewestStruck_92 5 rfl (by rw [ex2]; rfl) (Nat.le_of_ble_eq_true rfl) rfl ?_
    refine rl_goto hG (tgt := 31) dX1_fewestStruck_95 (by decide) ?_
    exact rl_lvs hG [1, 2, 3, 4, 5, 0] rfl (hk31 v3 v4 v5 x2 h)
  have H40 : ∀ (k31 : Int32 → Int32 → Int64 → Int32 → Option (Int32)) (hk31 : ∀ (v3 : Int32) (v4 : Int32) (v5 : Int64) (v7 : Int32), k31 v3 v4 v5 v7 = some r → G u 31 [(0, .ref (a 5)), (1, .ref (a (23 + t))), (3, .int v3), (4, .int v4), (5, .long v5), (7, .int v7)] []), ∀ (n : Nat) (v3 : Int32) (v4 : Int32) (v5 : Int64) (v7 : Int32) (v8 : Int32), fX1_fewestStruck_L40 u t k31 n v3 v4 v5 v7 v8 = some r → G u 40 [(0, .ref (a 5)), (1, .ref (a (23 + t))), (3, .int v3), (4, .int v4), (5, .long v5), (7, .int v7), (8, .int v8)] [] := by
    intro k31 hk31
    intro n
    induction n with
    | zero =>
      intro v3 v4 v5 v7 v8 h
      exact absurd h (by rw [fX1_fewestStruck_L40]; exact fun q => by cases q)
    | succ n ih =>
      intro v3 v4 v5 v7 v8 h
      rw [fX1_fewestStruck_L40] at h
      refine rl_iload hG dX1_fewestStruck_40 6 rfl ?_
      refine rl_iconst hG (v := 1) dX1_fewestStruck_42 (by decide) ?_
      refine rl_iload_n hG dX1_fewestStruck_43 rfl 2 rfl ?_
      refine rl_ishl hG dX1_fewestStruck_44 ?_
      refine rl_icmp_ge hG (tgt := 92) dX1_fewestStruck_45 (by decide) (fun c3 => ?_) (fun c3 => ?_)
      · have h := it_t h c3
        exact rl_lvs hG [0, 1, 2, 3, 4, 5] rfl (H92 (k31) (hk31) v3 v4 v5 v7 h)
      · have h := it_f h c3
        refine rl_iload hG dX1_fewestStruck_48 6 rfl ?_
        obtain ⟨x4, hx4q, h⟩ := o1_ok h
        refine rl_callZi hG (As := [.int v8]) (kJ6_bitCount_0f7a4 l D u v8 x4 hx4q) gX1_fewestStruck_J6_bitCount_0f7a4 rfl 1 rfl (by decide +kernel) rfl rfl (by decide) (Nat.le_of_ble_eq_true rfl) rfl dX1_fewestStruck_50 ?_
        refine rl_iload hG dX1_fewestStruck_53 5 rfl ?_
        refine rl_icmp_ne hG (tgt := 86) dX1_fewestStruck_55 (by decide) (fun c5 => ?_) (fun c5 => ?_)
        · have h := it_f h c5
          exact rl_lvs hG [0, 1, 2, 3, 4, 5, 6] rfl (H86 (k31) (hk31) (fX1_fewestStruck_L40 u t k31 n) (ih) v3 v4 v5 v7 v8 h)
        · have h := it_t h c5
          refine rl_iload hG dX1_fewestStruck_58 6 rfl ?_
          refine rl_iload hG dX1_fewestStruck_60 3 rfl ?_
          refine rl_iand hG dX1_fewestStruck_62 ?_
          refine rl_if_ne hG (tgt := 86) dX1_fewestStruck_63 (by decide) (fun c6 => ?_) (fun c6 => ?_)
          · have h := it_f h c6
            exact rl_lvs hG [0, 1, 2, 3, 4, 5, 6] rfl (H86 (k31) (hk31) (fX1_fewestStruck_L40 u t k31 n) (ih) v3 v4 v5 v7 v8 h)
          · have h := it_t h c6
            refine rl_aload_n hG dX1_fewestStruck_66 rfl 0 rfl ?_
            refine rl_aload_n hG dX1_fewestStruck_67 rfl 1 rfl ?_
            refine rl_iconst hG (v := -1) dX1_fewestStruck_68 (by decide) ?_
            refine rl_iload hG dX1_fewestStruck_69 6 rfl ?_
            refine rl_iconst hG (v := -1) dX1_fewestStruck_71 (by decide) ?_
            refine rl_ixor hG dX1_fewestStruck_72 ?_
            refine rl_lload hG dX1_fewestStruck_73 4 rfl ?_
            obtain ⟨x7, hx7q, h⟩ := o1_ok h
            refine rl_callVl hG (roX_ok xx) (As := [.ref (a (23 + t)), .int (-1 : Int32), .int (v8 ^^^ (-1 : Int32)), .long v5]) (kX1_setsForThing l D a cI cT aS xx u t (-1 : Int32) (v8 ^^^ (-1 : Int32)) v5 x7 ht hx7q) gX1_fewestStruck_X1_setsForThing rfl 5 (gX_5 a cI cT u) hcX1 4 rfl (by decide +kernel) rfl rfl (by decide) (Nat.le_of_ble_eq_true rfl) rfl dX1_fewestStruck_75 ?_
            refine rl_lconst hG (v := 0) dX1_fewestStruck_78 (by decide) ?_
            refine rl_lcmp hG dX1_fewestStruck_79 ?_
            refine rl_if_eq hG (tgt := 86) dX1_fewestStruck_80 (by decide) (fun c8 => ?_) (fun c8 => ?_)
            · have h := it_t h c8
              exact rl_lvs hG [0, 1, 2, 3, 4, 5, 6] rfl (H86 (k31) (hk31) (fX1_fewestStruck_L40 u t k31 n) (ih) v3 v4 v5 v7 v8 h)
            · have h := it_f h c8
              refine rl_iload hG dX1_fewestStruck_83 6 rfl ?_
              exact rl_ret1 hret h rfl dX1_fewestStruck_85
  have H31 : ∀ (n : Nat) (v3 : Int32) (v4 : Int32) (v5 : Int64) (v7 : Int32), fX1_fewestStruck_L31 u t n v3 v4 v5 v7 = some r → G u 31 [(0, .ref (a 5)), (1, .ref (a (23 + t))), (3, .int v3), (4, .int v4), (5, .long v5), (7, .int v7)] [] := by
    intro n
    induction n with
    | zero =>
      intro v3 v4 v5 v7 h
      exact absurd h (by rw [fX1_fewestStruck_L31]; exact fun q => by cases q)
    | succ n ih =>
      intro v3 v4 v5 v7 h
      rw [fX1_fewestStruck_L31] at h
      refine rl_iload hG dX1_fewestStruck_31 5 rfl ?_
      refine rl_iload_n hG dX1_fewestStruck_33 rfl 2 rfl ?_
      refine rl_icmp_gt hG (tgt := 98) dX1_fewestStruck_34 (by decide) (fun c9 => ?_) (fun c9 => ?_)
      · have h := it_t h c9
        refine rl_iconst hG (v := -1) dX1_fewestStruck_98 (by decide) ?_
        exact rl_ret1 hret h rfl dX1_fewestStruck_99
      · have h := it_f h c9
        refine rl_iconst hG (v := 0) dX1_fewestStruck_37 (by decide) ?_
        refine rl_istore hG [(8, .int (0 : Int32)), (0, .ref (a 5)), (1, .ref (a (23 + t))), (3, .int v3), (4, .int v4), (5, .long v5), (7, .int v7)] dX1_fewestStruck_38 (Nat.le_of_ble_eq_true rfl) rfl rfl ?_
        exact rl_lvs hG [1, 2, 3, 4, 5, 6, 0] rfl (H40 (fX1_fewestStruck_L31 u t n) (ih) 2000 v3 v4 v5 v7 (0 : Int32) h)
  have h := h0
  rw [fX1_fewestStruck] at h
  show G u 0 [(0, .ref (a 5)), (1, .ref (a (23 + t))), (2, .int p2)] []
  refine rl_aload_n hG dX1_fewestStruck_0 rfl 0 rfl ?_
  refine rl_get hG iX1_fewestStruck_X1 5 (gX_5 a cI cT u) hcX1 0 (Nat.le_of_ble_eq_true rfl) nX1_fewestStruck_0 rfl dX1_fewestStruck_1 ?_
  refine rl_get hG iX1_fewestStruck_X0 3 (gX_3 a cI cT u) hcX0 1 (Nat.le_of_ble_eq_true rfl) nX1_fewestStruck_1 rfl dX1_fewestStruck_4 ?_
  refine rl_bipush hG (v := 10) dX1_fewestStruck_7 (by decide) ?_
  refine rl_mmin hG nX1_fewestStruck_2 nX1_fewestStruck_3 nX1_fewestStruck_4 nX1_fewestStruck_5 (Nat.le_of_ble_eq_true rfl) (Nat.le_of_ble_eq_true rfl) dX1_fewestStruck_9 ?_
  obtain ⟨x10, ex10, h⟩ := bd_ok h
  refine rl_istore_n hG [(3, .int x10), (0, .ref (a 5)), (1, .ref (a (23 + t))), (2, .int p2)] dX1_fewestStruck_12 rfl (Nat.le_of_ble_eq_true rfl) ex10 rfl ?_
  refine rl_aload_n hG dX1_fewestStruck_13 rfl 1 rfl ?_
  refine rl_aload_n hG dX1_fewestStruck_14 rfl 2 rfl ?_
  obtain ⟨x11, hx11q, h⟩ := o1_ok h
  refine rl_callVi hG (roX_ok xx) (As := [.ref (a (23 + t))]) (kX1_boundsAround l D a cI cT aS xx u t x11 ht hx11q) gX1_fewestStruck_X1_boundsAround rfl 5 (gX_5 a cI cT u) hcX1 1 rfl (by decide +kernel) rfl rfl (by decide) (Nat.le_of_ble_eq_true rfl) rfl dX1_fewestStruck_15 ?_
  refine rl_iconst hG (v := -1) dX1_fewestStruck_18 (by decide) ?_
  refine rl_ixor hG dX1_fewestStruck_19 ?_
  obtain ⟨x12, ex12, h⟩ := bd_ok h
  refine rl_istore hG [(4, .int x12), (3, .int x10), (0, .ref (a 5)), (1, .ref (a (23 + t))), (2, .int p2)] dX1_fewestStruck_20 (Nat.le_of_ble_eq_true rfl) ex12 rfl ?_
  refine rl_iload_n hG dX1_fewestStruck_22 rfl 4 rfl ?_
  obtain ⟨x13, hx13q, h⟩ := o1_ok h
  refine rl_callZl hG (As := [.int p2]) (kX1_setsUpTo l D u p2 x13 hx13q) gX1_fewestStruck_X1_setsUpTo rfl 1 rfl (by decide +kernel) rfl rfl (by decide) (Nat.le_of_ble_eq_true rfl) rfl dX1_fewestStruck_23 ?_
  refine rl_lstore hG [(5, .long x13), (4, .int x12), (3, .int x10), (0, .ref (a 5)), (1, .ref (a (23 + t))), (2, .int p2)] dX1_fewestStruck_26 (Nat.le_of_ble_eq_true rfl) rfl rfl ?_
  refine rl_iconst hG (v := 0) dX1_fewestStruck_28 (by decide) ?_
  refine rl_istore hG [(7, .int (0 : Int32)), (5, .long x13), (4, .int x12), (3, .int x10), (0, .ref (a 5)), (1, .ref (a (23 + t))), (2, .int p2)] dX1_fewestStruck_29 (Nat.le_of_ble_eq_true rfl) rfl rfl ?_
  exact rl_lvs hG [4, 5, 3, 2, 1, 0] rfl (H31 2000 x10 x12 x13 (0 : Int32) h)
def fX2_kindAt_L37 (u : St)  (v2 : Int32) : Option (Int32) := (if v2 < (48 : Int32) then some (3 : Int32) else (if (57 : Int32) < v2 then some (3 : Int32) else some (2 : Int32)))
def fX2_kindAt (u : St)  (p1 : Int32) : Option (Int32) := (if p1 < (u 1 1) then ald u 9 160 p1 (fun x4 => (if x4 < (97 : Int32) then fX2_kindAt_L37 u x4 else (if (122 : Int32) < x4 then fX2_kindAt_L37 u x4 else some (1 : Int32)))) else some (0 : Int32))
theorem nX2_kindAt_0 : Cond.fieldLink RX2 15 "WhoseWork$Reader" "text" "LWhoseWork$Text;" ∈ wsX2_kindAt := by decide +kernel
theorem nX2_kindAt_1 : Cond.fieldLink RX2 102 "WhoseWork$Text" "size" "I" ∈ wsX2_kindAt := by decide +kernel
theorem nX2_kindAt_2 : Cond.fieldLink RX2 89 "WhoseWork$Text" "bytes" "[I" ∈ wsX2_kindAt := by decide +kernel
theorem iX2_kindAt_X2 : ∀ w ∈ wsX20, w ∈ wsX2_kindAt := by decide +kernel
theorem iX2_kindAt_X5 : ∀ w ∈ wsX50, w ∈ wsX2_kindAt := by decide +kernel
set_option maxRecDepth 100000 in
set_option maxHeartbeats 4000000 in
theorem kX2_kindAt (l : Launch) (D : va_G) (a : Nat → Nat) (cI cT : ClassId) (aS : Nat → Prop) (xx : Rx) (u : St)  (p1 : Int32) (r : Int32)  (h0 : fX2_kindAt u p1 = some r) : rl_Mi l yX2_kindAt wsX2_kindAt ({ frames := 0, cells := 0, slots := 0, locals := 0 } : Room) D (tyX cI cT) (wX a cI cT) (roX xx) aS [.ref (a 2), .int p1] u r u := by
  refine rl_meth_i (cc := cX2_kindAt) (maxL := 3) (own := RX2) (ty := .int) (by decide) rfl rfl (Nat.le_of_ble_eq_true rfl) ?_
  intro G hG hret
  have H37 : ∀ (v2 : Int32), fX2_kindAt_L37 u v2 = some r → G u 37 [(2, .int v2)] [] := by
    intro  v2 h
    rw [fX2_kindAt_L37] at h
    refine rl_iload_n hG dX2_kindAt_37 rfl 0 rfl ?_
    refine rl_bipush hG (v := 48) dX2_kindAt_38 (by decide) ?_
    refine rl_icmp_lt hG (tgt := 53) dX2_kindAt_40 (by decide) (fun c1 => ?_) (fun c1 => ?_)
    · have h := it_t h c1
      refine rl_iconst hG (v := 3) dX2_kindAt_53 (by decide) ?_
      exact rl_ret1 hret h rfl dX2_kindAt_54
    · have h := it_f h c1
      refine rl_iload_n hG dX2_kindAt_43 rfl 0 rfl ?_
      refine rl_bipush hG (v := 57) dX2_kindAt_44 (by decide) ?_
      refine rl_icmp_gt hG (tgt := 53) dX2_kindAt_46 (by decide) (fun c2 => ?_) (fun c2 => ?_)
      · have h := it_t h c2
        refine rl_iconst hG (v := 3) dX2_kindAt_53 (by decide) ?_
        exact rl_ret1 hret h rfl dX2_kindAt_54
      · have h := it_f h c2
        refine rl_iconst hG (v := 2) dX2_kindAt_49 (by decide) ?_
        refine rl_goto hG (tgt := 54) dX2_kindAt_50 (by decide) ?_
        exact rl_ret1 hret h rfl dX2_kindAt_54
  have h := h0
  rw [fX2_kindAt] at h
  show G u 0 [(0, .ref (a 2)), (1, .int p1)] []
  refine rl_iload_n hG dX2_kindAt_0 rfl 1 rfl ?_
  refine rl_aload_n hG dX2_kindAt_1 rfl 0 rfl ?_
  refine rl_get hG iX2_kindAt_X2 2 (gX_2 a cI cT u) hcX2 0 (Nat.le_of_ble_eq_true rfl) nX2_kindAt_0 rfl dX2_kindAt_2 ?_
  refine rl_get hG iX2_kindAt_X5 1 (gX_1 a cI cT u) hcX5 1 (Nat.le_of_ble_eq_true rfl) nX2_kindAt_1 rfl dX2_kindAt_5 ?_
  refine rl_icmp_lt hG (tgt := 13) dX2_kindAt_8 (by decide) (fun c3 => ?_) (fun c3 => ?_)
  · have h := it_t h c3
    refine rl_aload_n hG dX2_kindAt_13 rfl 0 rfl ?_
    refine rl_get hG iX2_kindAt_X2 2 (gX_2 a cI cT u) hcX2 0 (Nat.le_of_ble_eq_true rfl) nX2_kindAt_0 rfl dX2_kindAt_14 ?_
    refine rl_get hG iX2_kindAt_X5 1 (gX_1 a cI cT u) hcX5 0 (Nat.le_of_ble_eq_true rfl) nX2_kindAt_2 rfl dX2_kindAt_17 ?_
    refine rl_iload_n hG dX2_kindAt_20 rfl 1 rfl ?_
    obtain ⟨x4, ix4, ex4, h⟩ := ald_ok h
    refine rl_iald hG 9 0 (gX_9 a cI cT u) rfl ix4 ex4 dX2_kindAt_21 ?_
    refine rl_istore_n hG [(2, .int x4), (0, .ref (a 2)), (1, .int p1)] dX2_kindAt_22 rfl (Nat.le_of_ble_eq_true rfl) rfl rfl ?_
    refine rl_iload_n hG dX2_kindAt_23 rfl 0 rfl ?_
    refine rl_bipush hG (v := 97) dX2_kindAt_24 (by decide) ?_
    refine rl_icmp_lt hG (tgt := 37) dX2_kindAt_26 (by decide) (fun c5 => ?_) (fun c5 => ?_)
    · have h := it_t h c5
      exact rl_lvs hG [0] rfl (H37 x4 h)
    · have h := it_f h c5
      refine rl_iload_n hG dX2_kindAt_29 rfl 0 rfl ?_
      refine rl_bipush hG (v := 122) dX2_kindAt_30 (by decide) ?_
      refine rl_icmp_gt hG (tgt := 37) dX2_kindAt_32 (by decide) (fun c6 => ?_) (fun c6 => ?_)
      · have h := it_t h c6
        exact rl_lvs hG [0] rfl (H37 x4 h)
      · have h := it_f h c6
        refine rl_iconst hG (v := 1) dX2_kindAt_35 (by decide) ?_
        exact rl_ret1 hret h rfl dX2_kindAt_36
  · have h := it_f h c3
    refine rl_iconst hG (v := 0) dX2_kindAt_11 (by decide) ?_
    exact rl_ret1 hret h rfl dX2_kindAt_12
def fX2_nextToken_L104   : Nat → St → Option (St)
  | 0 => fun _ => none
  | n + 1 => fun u => (if (u 1 1) ≤ (u 2 3) then some u else o1 (fX2_kindAt u (u 2 3)) (fun x2 => (if x2 = (u 2 1) then bd (st_wr u 2 3 ((u 2 3) + (1 : Int32))) (fun u4 => fX2_nextToken_L104 n u4) else some u)))
def fX2_nextToken_L85   (u : St) (w0 : Int32) : Option (St) := bd (st_wr u 2 3 w0) (fun u5 => (if (u5 2 1) = (1 : Int32) then fX2_nextToken_L104 2000 u5 else (if (u5 2 1) = (2 : Int32) then fX2_nextToken_L104 2000 u5 else some u5)))
def fX2_nextToken_L52   (u : St) : Option (St) := o1 (fX2_kindAt u (u 2 2)) (fun x8 => bd (st_wr u 2 1 x8) (fun u9 => (if (u9 2 1) = (0 : Int32) then fX2_nextToken_L85 u9 (u9 2 2) else fX2_nextToken_L85 u9 ((u9 2 2) + (1 : Int32)))))
def fX2_nextToken_L8   : Nat → St → Option (St)
  | 0 => fun _ => none
  | n + 1 => fun u => (if (u 1 1) ≤ (u 2 2) then fX2_nextToken_L52 u else ald u 9 160 (u 2 2) (fun x12 => (if x12 = (32 : Int32) then bd (st_wr u 2 2 ((u 2 2) + (1 : Int32))) (fun u14 => fX2_nextToken_L8 n u14) else fX2_nextToken_L52 u)))
def fX2_nextToken (u : St)   : Option (St) := bd (st_wr u 2 2 (u 2 3)) (fun u15 => fX2_nextToken_L8 2000 u15)
theorem nX2_nextToken_0 : Cond.fieldLink RX2 23 "WhoseWork$Reader" "end" "I" ∈ wsX2_nextToken := by decide +kernel
theorem nX2_nextToken_1 : Cond.fieldLink RX2 15 "WhoseWork$Reader" "text" "LWhoseWork$Text;" ∈ wsX2_nextToken := by decide +kernel
theorem nX2_nextToken_2 : Cond.fieldLink RX2 102 "WhoseWork$Text" "size" "I" ∈ wsX2_nextToken := by decide +kernel
theorem nX2_nextToken_3 : Cond.fieldLink RX2 40 "WhoseWork$Reader" "kind" "I" ∈ wsX2_nextToken := by decide +kernel
theorem nX2_nextToken_4 : Cond.fieldLink RX2 33 "WhoseWork$Reader" "start" "I" ∈ wsX2_nextToken := by decide +kernel
theorem nX2_nextToken_5 : Cond.fieldLink RX2 89 "WhoseWork$Text" "bytes" "[I" ∈ wsX2_nextToken := by decide +kernel
theorem iX2_nextToken_X2 : ∀ w ∈ wsX20, w ∈ wsX2_nextToken := by decide +kernel
theorem iX2_nextToken_X5 : ∀ w ∈ wsX50, w ∈ wsX2_nextToken := by decide +kernel
set_option maxRecDepth 100000 in
set_option maxHeartbeats 4000000 in
theorem kX2_nextToken (l : Launch) (D : va_G) (a : Nat → Nat) (cI cT : ClassId) (aS : Nat → Prop) (xx : Rx) (u : St)   (τ : St)  (h0 : fX2_nextToken u = some τ) : rl_Mv l yX2_nextToken wsX2_nextToken ({ frames := 1, cells := 0, slots := 0, locals := 22 } : Room) D (tyX cI cT) (wX a cI cT) (roX xx) aS [.ref (a 2)] u τ := by
  refine rl_meth_v (cc := cX2_nextToken) (maxL := 1) (own := RX2) (by decide) rfl rfl (Nat.le_of_ble_eq_true rfl) ?_
  intro G hG hret
  have H104 : ∀ (n : Nat) (u : St), fX2_nextToken_L104 n u = some τ → G u 104 [(0, .ref (a 2))] [] := by
    intro n
    induction n with
    | zero =>
      intro u h
      exact absurd h (by rw [fX2_nextToken_L104]; exact fun q => by cases q)
    | succ n ih =>
      intro u h
      rw [fX2_nextToken_L104] at h
      refine rl_aload_n hG dX2_nextToken_104 rfl 0 rfl ?_
      refine rl_get hG iX2_nextToken_X2 2 (gX_2 a cI cT u) hcX2 3 (Nat.le_of_ble_eq_true rfl) nX2_nextToken_0 rfl dX2_nextToken_105 ?_
      refine rl_aload_n hG dX2_nextToken_108 rfl 0 rfl ?_
      refine rl_get hG iX2_nextToken_X2 2 (gX_2 a cI cT u) hcX2 0 (Nat.le_of_ble_eq_true rfl) nX2_nextToken_1 rfl dX2_nextToken_109 ?_
      refine rl_get hG iX2_nextToken_X5 1 (gX_1 a cI cT u) hcX5 1 (Nat.le_of_ble_eq_true rfl) nX2_nextToken_2 rfl dX2_nextToken_112 ?_
      refine rl_icmp_ge hG (tgt := 146) dX2_nextToken_115 (by decide) (fun c1 => ?_) (fun c1 => ?_)
      · have h := it_t h c1
        exact rl_retv hret h dX2_nextToken_146
      · have h := it_f h c1
        refine rl_aload_n hG dX2_nextToken_118 rfl 0 rfl ?_
        refine rl_aload_n hG dX2_nextToken_119 rfl 0 rfl ?_
        refine rl_get hG iX2_nextToken_X2 2 (gX_2 a cI cT u) hcX2 3 (Nat.le_of_ble_eq_true rfl) nX2_nextToken_0 rfl dX2_nextToken_120 ?_
        obtain ⟨x2, hx2q, h⟩ := o1_ok h
        refine rl_callVi hG (roX_ok xx) (As := [.int (u 2 3)]) (kX2_kindAt l D a cI cT aS xx u (u 2 3) x2  hx2q) gX2_nextToken_X2_kindAt rfl 2 (gX_2 a cI cT u) hcX2 1 rfl (by decide +kernel) rfl rfl (by decide) (Nat.le_of_ble_eq_true rfl) rfl dX2_nextToken_123 ?_
        refine rl_aload_n hG dX2_nextToken_126 rfl 0 rfl ?_
        refine rl_get hG iX2_nextToken_X2 2 (gX_2 a cI cT u) hcX2 1 (Nat.le_of_ble_eq_true rfl) nX2_nextToken_3 rfl dX2_nextToken_127 ?_
        refine rl_icmp_ne hG (tgt := 146) dX2_nextToken_130 (by decide) (fun c3 => ?_) (fun c3 => ?_)
        · have h := it_f h c3
          exact rl_retv hret h dX2_nextToken_146
        · have h := it_t h c3
          refine rl_aload_n hG dX2_nextToken_133 rfl 0 rfl ?_
          refine rl_dup hG dX2_nextToken_134 rfl ?_
          refine rl_get hG iX2_nextToken_X2 2 (gX_2 a cI cT u) hcX2 3 (Nat.le_of_ble_eq_true rfl) nX2_nextToken_0 rfl dX2_nextToken_135 ?_
          refine rl_iconst hG (v := 1) dX2_nextToken_138 (by decide) ?_
          refine rl_iadd hG dX2_nextToken_139 ?_
          obtain ⟨u4, eu4, h⟩ := bd_ok h
          refine rl_put hG iX2_nextToken_X2 tyX2 tyX2_ok nmX2 2 (gX_2 a cI cT u) hcX2 3 (Nat.le_of_ble_eq_true rfl) nX2_nextToken_0 rfl rfl (Nat.le_of_ble_eq_true rfl) (σ' := u4) ((sX_2_3 a cI cT u _).trans (congrArg _ eu4.symm)) dX2_nextToken_140 ?_
          refine rl_goto hG (tgt := 104) dX2_nextToken_143 (by decide) ?_
          exact rl_lvs hG [0] rfl (ih u4 h)
  have H85 : ∀ (u : St) (w0 : Int32), fX2_nextToken_L85 u w0 = some τ → G u 85 [(0, .ref (a 2))] [.int w0, .ref (a 2)] := by
    intro  u w0 h
    rw [fX2_nextToken_L85] at h
    obtain ⟨u5, eu5, h⟩ := bd_ok h
    refine rl_put hG iX2_nextToken_X2 tyX2 tyX2_ok nmX2 2 (gX_2 a cI cT u) hcX2 3 (Nat.le_of_ble_eq_true rfl) nX2_nextToken_0 rfl rfl (Nat.le_of_ble_eq_true rfl) (σ' := u5) ((sX_2_3 a cI cT u _).trans (congrArg _ eu5.symm)) dX2_nextToken_85 ?_
    refine rl_aload_n hG dX2_nextToken_88 rfl 0 rfl ?_
    refine rl_get hG iX2_nextToken_X2 2 (gX_2 a cI cT u5) hcX2 1 (Nat.le_of_ble_eq_true rfl) nX2_nextToken_3 rfl dX2_nextToken_89 ?_
    refine rl_iconst hG (v := 1) dX2_nextToken_92 (by decide) ?_
    refine rl_icmp_eq hG (tgt := 104) dX2_nextToken_93 (by decide) (fun c6 => ?_) (fun c6 => ?_)
    · have h := it_t h c6
      exact rl_lvs hG [0] rfl (H104 2000 u5 h)
    · have h := it_f h c6
      refine rl_aload_n hG dX2_nextToken_96 rfl 0 rfl ?_
      refine rl_get hG iX2_nextToken_X2 2 (gX_2 a cI cT u5) hcX2 1 (Nat.le_of_ble_eq_true rfl) nX2_nextToken_3 rfl dX2_nextToken_97 ?_
      refine rl_iconst hG (v := 2) dX2_nextToken_100 (by decide) ?_
      refine rl_icmp_ne hG (tgt := 146) dX2_nextToken_101 (by decide) (fun c7 => ?_) (fun c7 => ?_)
      · have h := it_f h c7
        exact rl_retv hret h dX2_nextToken_146
      · have h := it_t h c7
        exact rl_lvs hG [0] rfl (H104 2000 u5 h)
  have H52 : ∀ (u : St), fX2_nextToken_L52 u = some τ → G u 52 [(0, .ref (a 2))] [] := by
    intro  u h
    rw [fX2_nextToken_L52] at h
    refine rl_aload_n hG dX2_nextToken_52 rfl 0 rfl ?_
    refine rl_aload_n hG dX2_nextToken_53 rfl 0 rfl ?_
    refine rl_aload_n hG dX2_nextToken_54 rfl 0 rfl ?_
    refine rl_get hG iX2_nextToken_X2 2 (gX_2 a cI cT u) hcX2 2 (Nat.le_of_ble_eq_true rfl) nX2_nextToken_4 rfl dX2_nextToken_55 ?_
    obtain ⟨x8, hx8q, h⟩ := o1_ok h
    refine rl_callVi hG (roX_ok xx) (As := [.int (u 2 2)]) (kX2_kindAt l D a cI cT aS xx u (u 2 2) x8  hx8q) gX2_nextToken_X2_kindAt rfl 2 (gX_2 a cI cT u) hcX2 1 rfl (by decide +kernel) rfl rfl (by decide) (Nat.le_of_ble_eq_true rfl) rfl dX2_nextToken_58 ?_
    obtain ⟨u9, eu9, h⟩ := bd_ok h
    refine rl_put hG iX2_nextToken_X2 tyX2 tyX2_ok nmX2 2 (gX_2 a cI cT u) hcX2 1 (Nat.le_of_ble_eq_true rfl) nX2_nextToken_3 rfl rfl (Nat.le_of_ble_eq_true rfl) (σ' := u9) ((sX_2_1 a cI cT u _).trans (congrArg _ eu9.symm)) dX2_nextToken_61 ?_
    refine rl_aload_n hG dX2_nextToken_64 rfl 0 rfl ?_
    refine rl_aload_n hG dX2_nextToken_65 rfl 0 rfl ?_
    refine rl_get hG iX2_nextToken_X2 2 (gX_2 a cI cT u9) hcX2 1 (Nat.le_of_ble_eq_true rfl) nX2_nextToken_3 rfl dX2_nextToken_66 ?_
    refine rl_if_ne hG (tgt := 79) dX2_nextToken_69 (by decide) (fun c10 => ?_) (fun c10 => ?_)
    · have h := it_f h c10
      refine rl_aload_n hG dX2_nextToken_79 rfl 0 rfl ?_
      refine rl_get hG iX2_nextToken_X2 2 (gX_2 a cI cT u9) hcX2 2 (Nat.le_of_ble_eq_true rfl) nX2_nextToken_4 rfl dX2_nextToken_80 ?_
      refine rl_iconst hG (v := 1) dX2_nextToken_83 (by decide) ?_
      refine rl_iadd hG dX2_nextToken_84 ?_
      exact rl_lvs hG [0] rfl (H85 u9 ((u9 2 2) + (1 : Int32)) h)
    · have h := it_t h c10
      refine rl_aload_n hG dX2_nextToken_72 rfl 0 rfl ?_
      refine rl_get hG iX2_nextToken_X2 2 (gX_2 a cI cT u9) hcX2 2 (Nat.le_of_ble_eq_true rfl) nX2_nextToken_4 rfl dX2_nextToken_73 ?_
      refine rl_goto hG (tgt := 85) dX2_nextToken_76 (by decide) ?_
      exact rl_lvs hG [0] rfl (H85 u9 (u9 2 2) h)
  have H8 : ∀ (n : Nat) (u : St), fX2_nextToken_L8 n u = some τ → G u 8 [(0, .ref (a 2))] [] := by
    intro n
    induction n with
    | zero =>
      intro u h
      exact absurd h (by rw [fX2_nextToken_L8]; exact fun q => by cases q)
    | succ n ih =>
      intro u h
      rw [fX2_nextToken_L8] at h
      refine rl_aload_n hG dX2_nextToken_8 rfl 0 rfl ?_
      refine rl_get hG iX2_nextToken_X2 2 (gX_2 a cI cT u) hcX2 2 (Nat.le_of_ble_eq_true rfl) nX2_nextToken_4 rfl dX2_nextToken_9 ?_
      refine rl_aload_n hG dX2_nextToken_12 rfl 0 rfl ?_
      refine rl_get hG iX2_nextToken_X2 2 (gX_2 a cI cT u) hcX2 0 (Nat.le_of_ble_eq_true rfl) nX2_nextToken_1 rfl dX2_nextToken_13 ?_
      refine rl_get hG iX2_nextToken_X5 1 (gX_1 a cI cT u) hcX5 1 (Nat.le_of_ble_eq_true rfl) nX2_nextToken_2 rfl dX2_nextToken_16 ?_
      refine rl_icmp_ge hG (tgt := 52) dX2_nextToken_19 (by decide) (fun c11 => ?_) (fun c11 => ?_)
      · have h := it_t h c11
        exact rl_lvs hG [0] rfl (H52 u h)
      · have h := it_f h c11
        refine rl_aload_n hG dX2_nextToken_22 rfl 0 rfl ?_
        refine rl_get hG iX2_nextToken_X2 2 (gX_2 a cI cT u) hcX2 0 (Nat.le_of_ble_eq_true rfl) nX2_nextToken_1 rfl dX2_nextToken_23 ?_
        refine rl_get hG iX2_nextToken_X5 1 (gX_1 a cI cT u) hcX5 0 (Nat.le_of_ble_eq_true rfl) nX2_nextToken_5 rfl dX2_nextToken_26 ?_
        refine rl_aload_n hG dX2_nextToken_29 rfl 0 rfl ?_
        refine rl_get hG iX2_nextToken_X2 2 (gX_2 a cI cT u) hcX2 2 (Nat.le_of_ble_eq_true rfl) nX2_nextToken_4 rfl dX2_nextToken_30 ?_
        obtain ⟨x12, ix12, ex12, h⟩ := ald_ok h
        refine rl_iald hG 9 0 (gX_9 a cI cT u) rfl ix12 ex12 dX2_nextToken_33 ?_
        refine rl_bipush hG (v := 32) dX2_nextToken_34 (by decide) ?_
        refine rl_icmp_ne hG (tgt := 52) dX2_nextToken_36 (by decide) (fun c13 => ?_) (fun c13 => ?_)
        · have h := it_f h c13
          exact rl_lvs hG [0] rfl (H52 u h)
        · have h := it_t h c13
          refine rl_aload_n hG dX2_nextToken_39 rfl 0 rfl ?_
          refine rl_dup hG dX2_nextToken_40 rfl ?_
          refine rl_get hG iX2_nextToken_X2 2 (gX_2 a cI cT u) hcX2 2 (Nat.le_of_ble_eq_true rfl) nX2_nextToken_4 rfl dX2_nextToken_41 ?_
          refine rl_iconst hG (v := 1) dX2_nextToken_44 (by decide) ?_
          refine rl_iadd hG dX2_nextToken_45 ?_
          obtain ⟨u14, eu14, h⟩ := bd_ok h
          refine rl_put hG iX2_nextToken_X2 tyX2 tyX2_ok nmX2 2 (gX_2 a cI cT u) hcX2 2 (Nat.le_of_ble_eq_true rfl) nX2_nextToken_4 rfl rfl (Nat.le_of_ble_eq_true rfl) (σ' := u14) ((sX_2_2 a cI cT u _).trans (congrArg _ eu14.symm)) dX2_nextToken_46 ?_
          refine rl_goto hG (tgt := 8) dX2_nextToken_49 (by decide) ?_
          exact rl_lvs hG [0] rfl (ih u14 h)
  have h := h0
  rw [fX2_nextToken] at h
  show G u 0 [(0, .ref (a 2))] []
  refine rl_aload_n hG dX2_nextToken_0 rfl 0 rfl ?_
  refine rl_aload_n hG dX2_nextToken_1 rfl 0 rfl ?_
  refine rl_get hG iX2_nextToken_X2 2 (gX_2 a cI cT u) hcX2 3 (Nat.le_of_ble_eq_true rfl) nX2_nextToken_0 rfl dX2_nextToken_2 ?_
  obtain ⟨u15, eu15, h⟩ := bd_ok h
  refine rl_put hG iX2_nextToken_X2 tyX2 tyX2_ok nmX2 2 (gX_2 a cI cT u) hcX2 2 (Nat.le_of_ble_eq_true rfl) nX2_nextToken_4 rfl rfl (Nat.le_of_ble_eq_true rfl) (σ' := u15) ((sX_2_2 a cI cT u _).trans (congrArg _ eu15.symm)) dX2_nextToken_5 ?_
  exact rl_lvs hG [0] rfl (H8 2000 u15 h)
def fX2_takeWord_L66 (sx : Nat)  (u : St) : Option (Int32 × St) := o1 (fX2_nextToken u) (fun u1 => some ((1 : Int32), u1))
def fX2_takeWord_L28 (sx : Nat)  : Nat → St → Int32 → Option (Int32 × St)
  | 0 => fun _ _ => none
  | n + 1 => fun u v2 => slen sx (fun x2 => (if x2 ≤ v2 then fX2_takeWord_L66 sx u else ald u 9 160 ((u 2 2) + v2) (fun x4 => sch sx v2 (fun x5 => (if x4 = x5 then bd (v2 + (1 : Int32)) (fun x7 => fX2_takeWord_L28 sx n u x7) else some ((0 : Int32), u))))))
def fX2_takeWord (u : St) (sx : Nat)  : Option (Int32 × St) := (if (u 2 1) = (1 : Int32) then slen sx (fun x9 => (if ((u 2 3) - (u 2 2)) = x9 then fX2_takeWord_L28 sx 2000 u (0 : Int32) else some ((0 : Int32), u))) else some ((0 : Int32), u))
theorem nX2_takeWord_0 : Cond.fieldLink RX2 15 "WhoseWork$Reader" "text" "LWhoseWork$Text;" ∈ wsX2_takeWord := by decide +kernel
theorem nX2_takeWord_1 : Cond.fieldLink RX2 89 "WhoseWork$Text" "bytes" "[I" ∈ wsX2_takeWord := by decide +kernel
theorem nX2_takeWord_2 : Cond.fieldLink RX2 33 "WhoseWork$Reader" "start" "I" ∈ wsX2_takeWord := by decide +kernel
theorem nX2_takeWord_3 : Cond.fieldLink RX2 40 "WhoseWork$Reader" "kind" "I" ∈ wsX2_takeWord := by decide +kernel
theorem nX2_takeWord_4 : Cond.fieldLink RX2 23 "WhoseWork$Reader" "end" "I" ∈ wsX2_takeWord := by decide +kernel
theorem iX2_takeWord_X2 : ∀ w ∈ wsX20, w ∈ wsX2_takeWord := by decide +kernel
theorem iX2_takeWord_X5 : ∀ w ∈ wsX50, w ∈ wsX2_takeWord := by decide +kernel
set_option maxRecDepth 100000 in
set_option maxHeartbeats 4000000 in
theorem kX2_takeWord (l : Launch) (D : va_G) (a : Nat → Nat) (cI cT : ClassId) (aS : Nat → Prop) (xx : Rx) (u : St) (sx : Nat)  (r : Int32) (τ : St) (hsx : sx < 11) (h0 : fX2_takeWord u sx = some (r, τ)) : rl_Mi l yX2_takeWord wsX2_takeWord ({ frames := 4, cells := 0, slots := 0, locals := 85 } : Room) D (tyX cI cT) (wX a cI cT) (roX xx) aS [.ref (a 2), .ref (xx.1 sx)] u r τ := by
  refine rl_meth_i (cc := cX2_takeWord) (maxL := 3) (own := RX2) (ty := .boolean) (by decide) rfl rfl (Nat.le_of_ble_eq_true rfl) ?_
  intro G hG hret
  have H66 : ∀ (u : St), fX2_takeWord_L66 sx u = some (r, τ) → G u 66 [(0, .ref (a 2))] [] := by
    intro  u h
    rw [fX2_takeWord_L66] at h
    refine rl_aload_n hG dX2_takeWord_66 rfl 0 rfl ?_
    obtain ⟨u1, hu1q, h⟩ := o1_ok h
    refine rl_callVv hG (roX_ok xx) (As := []) (kX2_nextToken l D a cI cT aS xx u  u1  hu1q) gX2_takeWord_X2_nextToken rfl 2 (gX_2 a cI cT u) hcX2 0 rfl (by decide +kernel) rfl rfl (by decide) (Nat.le_of_ble_eq_true rfl) rfl dX2_takeWord_67 ?_
    refine rl_iconst hG (v := 1) dX2_takeWord_70 (by decide) ?_
    exact rl_ret2 hret h rfl dX2_takeWord_71
  have H28 : ∀ (n : Nat) (u : St) (v2 : Int32), fX2_takeWord_L28 sx n u v2 = some (r, τ) → G u 28 [(0, .ref (a 2)), (1, .ref (xx.1 sx)), (2, .int v2)] [] := by
    intro n
    induction n with
    | zero =>
      intro u v2 h
      exact absurd h (by rw [fX2_takeWord_L28]; exact fun q => by cases q)
    | succ n ih =>
      intro u v2 h
      rw [fX2_takeWord_L28] at h
      refine rl_iload_n hG dX2_takeWord_28 rfl 2 rfl ?_
      refine rl_aload_n hG dX2_takeWord_29 rfl 1 rfl ?_
      obtain ⟨x2, ex2, h⟩ := slen_ok h
      refine rl_callOi hG (roX_ok xx) (As := []) (kJ0_length_8abf5 l D a cI cT aS xx u sx x2 hsx ex2) gX2_takeWord_J0_length_8abf5 rfl (recvX xx hsx) 0 rfl (by decide +kernel) rfl rfl (by decide) (Nat.le_of_ble_eq_true rfl) rfl dX2_takeWord_30 ?_
      refine rl_icmp_ge hG (tgt := 66) dX2_takeWord_33 (by decide) (fun c3 => ?_) (fun c3 => ?_)
      · have h := it_t h c3
        exact rl_lvs hG [0] rfl (H66 u h)
      · have h := it_f h c3
        refine rl_aload_n hG dX2_takeWord_36 rfl 0 rfl ?_
        refine rl_get hG iX2_takeWord_X2 2 (gX_2 a cI cT u) hcX2 0 (Nat.le_of_ble_eq_true rfl) nX2_takeWord_0 rfl dX2_takeWord_37 ?_
        refine rl_get hG iX2_takeWord_X5 1 (gX_1 a cI cT u) hcX5 0 (Nat.le_of_ble_eq_true rfl) nX2_takeWord_1 rfl dX2_takeWord_40 ?_
        refine rl_aload_n hG dX2_takeWord_43 rfl 0 rfl ?_
        refine rl_get hG iX2_takeWord_X2 2 (gX_2 a cI cT u) hcX2 2 (Nat.le_of_ble_eq_true rfl) nX2_takeWord_2 rfl dX2_takeWord_44 ?_
        refine rl_iload_n hG dX2_takeWord_47 rfl 2 rfl ?_
        refine rl_iadd hG dX2_takeWord_48 ?_
        obtain ⟨x4, ix4, ex4, h⟩ := ald_ok h
        refine rl_iald hG 9 0 (gX_9 a cI cT u) rfl ix4 ex4 dX2_takeWord_49 ?_
        refine rl_aload_n hG dX2_takeWord_50 rfl 1 rfl ?_
        refine rl_iload_n hG dX2_takeWord_51 rfl 2 rfl ?_
        obtain ⟨x5, ix5, ex5, h⟩ := sch_ok h
        refine rl_callOi hG (roX_ok xx) (As := [.int v2]) (kJ0_charAt_5068e l D a cI cT aS xx u sx v2 x5 hsx ix5 ex5) gX2_takeWord_J0_charAt_5068e rfl (recvX xx hsx) 1 rfl (by decide +kernel) rfl rfl (by decide) (Nat.le_of_ble_eq_true rfl) rfl dX2_takeWord_52 ?_
        refine rl_icmp_eq hG (tgt := 60) dX2_takeWord_55 (by decide) (fun c6 => ?_) (fun c6 => ?_)
        · have h := it_t h c6
          obtain ⟨x7, ex7, h⟩ := bd_ok h
          refine rl_iinc hG [(2, .int x7), (0, .ref (a 2)), (1, .ref (xx.1 sx))] dX2_takeWord_60 2 rfl (by rw [ex7]; rfl) (Nat.le_of_ble_eq_true rfl) rfl ?_
          refine rl_goto hG (tgt := 28) dX2_takeWord_63 (by decide) ?_
          exact rl_lvs hG [1, 2, 0] rfl (ih u x7 h)
        · have h := it_f h c6
          refine rl_iconst hG (v := 0) dX2_takeWord_58 (by decide) ?_
          exact rl_ret2 hret h rfl dX2_takeWord_59
  have h := h0
  rw [fX2_takeWord] at h
  show G u 0 [(0, .ref (a 2)), (1, .ref (xx.1 sx))] []
  refine rl_aload_n hG dX2_takeWord_0 rfl 0 rfl ?_
  refine rl_get hG iX2_takeWord_X2 2 (gX_2 a cI cT u) hcX2 1 (Nat.le_of_ble_eq_true rfl) nX2_takeWord_3 rfl dX2_takeWord_1 ?_
  refine rl_iconst hG (v := 1) dX2_takeWord_4 (by decide) ?_
  refine rl_icmp_ne hG (tgt := 24) dX2_takeWord_5 (by decide) (fun c8 => ?_) (fun c8 => ?_)
  · have h := it_f h c8
    refine rl_iconst hG (v := 0) dX2_takeWord_24 (by decide) ?_
    exact rl_ret2 hret h rfl dX2_takeWord_25
  · have h := it_t h c8
    refine rl_aload_n hG dX2_takeWord_8 rfl 0 rfl ?_
    refine rl_get hG iX2_takeWord_X2 2 (gX_2 a cI cT u) hcX2 3 (Nat.le_of_ble_eq_true rfl) nX2_takeWord_4 rfl dX2_takeWord_9 ?_
    refine rl_aload_n hG dX2_takeWord_12 rfl 0 rfl ?_
    refine rl_get hG iX2_takeWord_X2 2 (gX_2 a cI cT u) hcX2 2 (Nat.le_of_ble_eq_true rfl) nX2_takeWord_2 rfl dX2_takeWord_13 ?_
    refine rl_isub hG dX2_takeWord_16 ?_
    refine rl_aload_n hG dX2_takeWord_17 rfl 1 rfl ?_
    obtain ⟨x9, ex9, h⟩ := slen_ok h
    refine rl_callOi hG (roX_ok xx) (As := []) (kJ0_length_8abf5 l D a cI cT aS xx u sx x9 hsx ex9) gX2_takeWord_J0_length_8abf5 rfl (recvX xx hsx) 0 rfl (by decide +kernel) rfl rfl (by decide) (Nat.le_of_ble_eq_true rfl) rfl dX2_takeWord_18 ?_
    refine rl_icmp_eq hG (tgt := 26) dX2_takeWord_21 (by decide) (fun c10 => ?_) (fun c10 => ?_)
    · have h := it_t h c10
      refine rl_iconst hG (v := 0) dX2_takeWord_26 (by decide) ?_
      refine rl_istore_n hG [(2, .int (0 : Int32)), (0, .ref (a 2)), (1, .ref (xx.1 sx))] dX2_takeWord_27 rfl (Nat.le_of_ble_eq_true rfl) rfl rfl ?_
      exact rl_lvs hG [1, 2, 0] rfl (H28 2000 u (0 : Int32) h)
    · have h := it_f h c10
      refine rl_iconst hG (v := 0) dX2_takeWord_24 (by decide) ?_
      exact rl_ret2 hret h rfl dX2_takeWord_25
def fX2_takeNumber (u : St)  (p1 : Int32) (p2 : Int32) (p3 : Int32) : Option (Int32 × St) := (if (u 2 1) = (2 : Int32) then (if ((u 2 3) - (u 2 2)) = (1 : Int32) then ald u 9 160 (u 2 2) (fun x3 => bd (x3 - (48 : Int32)) (fun x4 => oz (fX7_isOff x4 p1 p2) (fun x5 => (if x5 = (0 : Int32) then (if x4 = p3 then some ((-1 : Int32), u) else o1 (fX2_nextToken u) (fun u8 => some (x4, u8))) else some ((-1 : Int32), u))))) else some ((-1 : Int32), u)) else some ((-1 : Int32), u))
theorem nX2_takeNumber_0 : Cond.fieldLink RX2 40 "WhoseWork$Reader" "kind" "I" ∈ wsX2_takeNumber := by decide +kernel
theorem nX2_takeNumber_1 : Cond.fieldLink RX2 23 "WhoseWork$Reader" "end" "I" ∈ wsX2_takeNumber := by decide +kernel
theorem nX2_takeNumber_2 : Cond.fieldLink RX2 33 "WhoseWork$Reader" "start" "I" ∈ wsX2_takeNumber := by decide +kernel
theorem nX2_takeNumber_3 : Cond.fieldLink RX2 15 "WhoseWork$Reader" "text" "LWhoseWork$Text;" ∈ wsX2_takeNumber := by decide +kernel
theorem nX2_takeNumber_4 : Cond.fieldLink RX2 89 "WhoseWork$Text" "bytes" "[I" ∈ wsX2_takeNumber := by decide +kernel
theorem nX2_takeNumber_5 : Cond.static yX7_isOff ∈ wsX2_takeNumber := by decide +kernel
theorem nX2_takeNumber_6 : Cond.initialized RX7 ∈ wsX2_takeNumber := by decide +kernel
theorem iX2_takeNumber_X2 : ∀ w ∈ wsX20, w ∈ wsX2_takeNumber := by decide +kernel
theorem iX2_takeNumber_X5 : ∀ w ∈ wsX50, w ∈ wsX2_takeNumber := by decide +kernel
set_option maxRecDepth 100000 in
set_option maxHeartbeats 4000000 in
theorem kX2_takeNumber (l : Launch) (D : va_G) (a : Nat → Nat) (cI cT : ClassId) (aS : Nat → Prop) (xx : Rx) (u : St)  (p1 : Int32) (p2 : Int32) (p3 : Int32) (r : Int32) (τ : St)  (h0 : fX2_takeNumber u p1 p2 p3 = some (r, τ)) : rl_Mi l yX2_takeNumber wsX2_takeNumber ({ frames := 2, cells := 0, slots := 0, locals := 42 } : Room) D (tyX cI cT) (wX a cI cT) (roX xx) aS [.ref (a 2), .int p1, .int p2, .int p3] u r τ := by
  refine rl_meth_i (cc := cX2_takeNumber) (maxL := 5) (own := RX2) (ty := .int) (by decide) rfl rfl (Nat.le_of_ble_eq_true rfl) ?_
  intro G hG hret
  have h := h0
  rw [fX2_takeNumber] at h
  show G u 0 [(0, .ref (a 2)), (1, .int p1), (2, .int p2), (3, .int p3)] []
  refine rl_aload_n hG dX2_takeNumber_0 rfl 0 rfl ?_
  refine rl_get hG iX2_takeNumber_X2 2 (gX_2 a cI cT u) hcX2 1 (Nat.le_of_ble_eq_true rfl) nX2_takeNumber_0 rfl dX2_takeNumber_1 ?_
  refine rl_iconst hG (v := 2) dX2_takeNumber_4 (by decide) ?_
  refine rl_icmp_ne hG (tgt := 21) dX2_takeNumber_5 (by decide) (fun c1 => ?_) (fun c1 => ?_)
  · have h := it_f h c1
    refine rl_iconst hG (v := -1) dX2_takeNumber_21 (by decide) ?_
    exact rl_ret2 hret h rfl dX2_takeNumber_22
  · have h := it_t h c1
    refine rl_aload_n hG dX2_takeNumber_8 rfl 0 rfl ?_
    refine rl_get hG iX2_takeNumber_X2 2 (gX_2 a cI cT u) hcX2 3 (Nat.le_of_ble_eq_true rfl) nX2_takeNumber_1 rfl dX2_takeNumber_9 ?_
    refine rl_aload_n hG dX2_takeNumber_12 rfl 0 rfl ?_
    refine rl_get hG iX2_takeNumber_X2 2 (gX_2 a cI cT u) hcX2 2 (Nat.le_of_ble_eq_true rfl) nX2_takeNumber_2 rfl dX2_takeNumber_13 ?_
    refine rl_isub hG dX2_takeNumber_16 ?_
    refine rl_iconst hG (v := 1) dX2_takeNumber_17 (by decide) ?_
    refine rl_icmp_eq hG (tgt := 23) dX2_takeNumber_18 (by decide) (fun c2 => ?_) (fun c2 => ?_)
    · have h := it_t h c2
      refine rl_aload_n hG dX2_takeNumber_23 rfl 0 rfl ?_
      refine rl_get hG iX2_takeNumber_X2 2 (gX_2 a cI cT u) hcX2 0 (Nat.le_of_ble_eq_true rfl) nX2_takeNumber_3 rfl dX2_takeNumber_24 ?_
      refine rl_get hG iX2_takeNumber_X5 1 (gX_1 a cI cT u) hcX5 0 (Nat.le_of_ble_eq_true rfl) nX2_takeNumber_4 rfl dX2_takeNumber_27 ?_
      refine rl_aload_n hG dX2_takeNumber_30 rfl 0 rfl ?_
      refine rl_get hG iX2_takeNumber_X2 2 (gX_2 a cI cT u) hcX2 2 (Nat.le_of_ble_eq_true rfl) nX2_takeNumber_2 rfl dX2_takeNumber_31 ?_
      obtain ⟨x3, ix3, ex3, h⟩ := ald_ok h
      refine rl_iald hG 9 0 (gX_9 a cI cT u) rfl ix3 ex3 dX2_takeNumber_34 ?_
      refine rl_bipush hG (v := 48) dX2_takeNumber_35 (by decide) ?_
      refine rl_isub hG dX2_takeNumber_37 ?_
      obtain ⟨x4, ex4, h⟩ := bd_ok h
      refine rl_istore hG [(4, .int x4), (0, .ref (a 2)), (1, .int p1), (2, .int p2), (3, .int p3)] dX2_takeNumber_38 (Nat.le_of_ble_eq_true rfl) ex4 rfl ?_
      refine rl_iload hG dX2_takeNumber_40 0 rfl ?_
      refine rl_iload_n hG dX2_takeNumber_42 rfl 2 rfl ?_
      refine rl_iload_n hG dX2_takeNumber_43 rfl 3 rfl ?_
      obtain ⟨x5, hx5q, zx5, h⟩ := oz_ok h
      refine rl_callNi hG (As := [.int x4, .int p1, .int p2]) (kX7_isOff l D u x4 p1 p2 x5 hx5q) (nestX_RX2_98 xx) gX2_takeNumber_X7_isOff_n98 rfl nX2_takeNumber_5 nX2_takeNumber_6 3 rfl (by decide +kernel) rfl rfl (by decide) (Nat.le_of_ble_eq_true rfl) rfl dX2_takeNumber_44 ?_
      refine rl_if_ne hG (tgt := 56) dX2_takeNumber_47 (by decide) (fun c6 => ?_) (fun c6 => ?_)
      · have h := it_f h c6
        refine rl_iconst hG (v := -1) dX2_takeNumber_56 (by decide) ?_
        exact rl_ret2 hret h rfl dX2_takeNumber_57
      · have h := it_t h c6
        refine rl_iload hG dX2_takeNumber_50 0 rfl ?_
        refine rl_iload_n hG dX2_takeNumber_52 rfl 4 rfl ?_
        refine rl_icmp_ne hG (tgt := 58) dX2_takeNumber_53 (by decide) (fun c7 => ?_) (fun c7 => ?_)
        · have h := it_f h c7
          refine rl_aload_n hG dX2_takeNumber_58 rfl 1 rfl ?_
          obtain ⟨u8, hu8q, h⟩ := o1_ok h
          refine rl_callVv hG (roX_ok xx) (As := []) (kX2_nextToken l D a cI cT aS xx u  u8  hu8q) gX2_takeNumber_X2_nextToken rfl 2 (gX_2 a cI cT u) hcX2 0 rfl (by decide +kernel) rfl rfl (by decide) (Nat.le_of_ble_eq_true rfl) rfl dX2_takeNumber_59 ?_
          refine rl_iload hG dX2_takeNumber_62 0 rfl ?_
          exact rl_ret2 hret h rfl dX2_takeNumber_64
        · have h := it_t h c7
          refine rl_iconst hG (v := -1) dX2_takeNumber_56 (by decide) ?_
          exact rl_ret2 hret h rfl dX2_takeNumber_57
    · have h := it_f h c2
      refine rl_iconst hG (v := -1) dX2_takeNumber_21 (by decide) ?_
      exact rl_ret2 hret h rfl dX2_takeNumber_22
