def fX7_isOff   (p0 : Int32) (p1 : Int32) (p2 : Int32) : Option (Int32) := (if p0 < p1 then some (1 : Int32) else (if p0 ≤ p2 then some (0 : Int32) else some (1 : Int32)))
set_option maxRecDepth 100000 in
set_option maxHeartbeats 4000000 in
theorem kX7_isOff (l : Launch) (D : va_G) (u : St)  (p0 : Int32) (p1 : Int32) (p2 : Int32) (r : Int32)  (h0 : fX7_isOff p0 p1 p2 = some r) : rl_Mi l yX7_isOff wsX7_isOff ({ frames := 0, cells := 0, slots := 0, locals := 0 } : Room) D [] (fun _ : St => ([] : va_W)) (fun _ _ _ => True) (fun _ => False) [.int p0, .int p1, .int p2] u r u := by
  refine rl_meth_i (cc := cX7_isOff) (maxL := 3) (own := RX7) (ty := .boolean) (by decide) rfl rfl (Nat.le_of_ble_eq_true rfl) ?_
  intro G hG hret
  have h := h0
  rw [fX7_isOff] at h
  show G u 0 [(0, .int p0), (1, .int p1), (2, .int p2)] []
  refine rl_iload_n hG dX7_isOff_0 rfl 0 rfl ?_
  refine rl_iload_n hG dX7_isOff_1 rfl 1 rfl ?_
  refine rl_icmp_lt hG (tgt := 10) dX7_isOff_2 (by decide) (fun c1 => ?_) (fun c1 => ?_)
  · have h := it_t h c1
    refine rl_iconst hG (v := 1) dX7_isOff_10 (by decide) ?_
    refine rl_goto hG (tgt := 15) dX7_isOff_11 (by decide) ?_
    exact rl_ret1 hret h rfl dX7_isOff_15
  · have h := it_f h c1
    refine rl_iload_n hG dX7_isOff_5 rfl 0 rfl ?_
    refine rl_iload_n hG dX7_isOff_6 rfl 2 rfl ?_
    refine rl_icmp_le hG (tgt := 14) dX7_isOff_7 (by decide) (fun c2 => ?_) (fun c2 => ?_)
    · have h := it_t h c2
      refine rl_iconst hG (v := 0) dX7_isOff_14 (by decide) ?_
      exact rl_ret1 hret h rfl dX7_isOff_15
    · have h := it_f h c2
      refine rl_iconst hG (v := 1) dX7_isOff_10 (by decide) ?_
      refine rl_goto hG (tgt := 15) dX7_isOff_11 (by decide) ?_
      exact rl_ret1 hret h rfl dX7_isOff_15
def fJ6_numberOfTrailingZeros_0f7a4_L74   (v0 : Int32) (v1 : Int32) : Option (Int32) := some (v1 + (ush v0 (1 : Int32)))
def fJ6_numberOfTrailingZeros_0f7a4_L62   (v0 : Int32) (v1 : Int32) : Option (Int32) := (if v0 ≤ (4 : Int32) then fJ6_numberOfTrailingZeros_0f7a4_L74 v0 v1 else bd (v1 + (2 : Int32)) (fun x2 => bd (ush v0 (2 : Int32)) (fun x3 => fJ6_numberOfTrailingZeros_0f7a4_L74 x3 x2)))
def fJ6_numberOfTrailingZeros_0f7a4_L49   (v0 : Int32) (v1 : Int32) : Option (Int32) := (if v0 ≤ (16 : Int32) then fJ6_numberOfTrailingZeros_0f7a4_L62 v0 v1 else bd (v1 + (4 : Int32)) (fun x5 => bd (ush v0 (4 : Int32)) (fun x6 => fJ6_numberOfTrailingZeros_0f7a4_L62 x6 x5)))
def fJ6_numberOfTrailingZeros_0f7a4_L34   (v0 : Int32) (v1 : Int32) : Option (Int32) := (if v0 ≤ (256 : Int32) then fJ6_numberOfTrailingZeros_0f7a4_L49 v0 v1 else bd (v1 + (8 : Int32)) (fun x8 => bd (ush v0 (8 : Int32)) (fun x9 => fJ6_numberOfTrailingZeros_0f7a4_L49 x9 x8)))
def fJ6_numberOfTrailingZeros_0f7a4   (p0 : Int32) : Option (Int32) := bd ((p0 ^^^ (-1 : Int32)) &&& (p0 - (1 : Int32))) (fun x10 => (if (0 : Int32) < x10 then (if x10 ≤ (65536 : Int32) then fJ6_numberOfTrailingZeros_0f7a4_L34 x10 (1 : Int32) else bd ((1 : Int32) + (16 : Int32)) (fun x13 => bd (ush x10 (16 : Int32)) (fun x14 => fJ6_numberOfTrailingZeros_0f7a4_L34 x14 x13))) else some (x10 &&& (32 : Int32))))
theorem nJ6_numberOfTrailingZeros_0f7a4_0 : Cond.constant RJ6 264 (65536) ∈ wsJ6_numberOfTrailingZeros_0f7a4 := by decide +kernel
set_option maxRecDepth 100000 in
set_option maxHeartbeats 4000000 in
theorem kJ6_numberOfTrailingZeros_0f7a4 (l : Launch) (D : va_G) (u : St)  (p0 : Int32) (r : Int32)  (h0 : fJ6_numberOfTrailingZeros_0f7a4 p0 = some r) : rl_Mi l yJ6_numberOfTrailingZeros_0f7a4 wsJ6_numberOfTrailingZeros_0f7a4 ({ frames := 0, cells := 0, slots := 0, locals := 0 } : Room) D [] (fun _ : St => ([] : va_W)) (fun _ _ _ => True) (fun _ => False) [.int p0] u r u := by
  refine rl_meth_i (cc := cJ6_numberOfTrailingZeros_0f7a4) (maxL := 2) (own := RJ6) (ty := .int) (by decide) rfl rfl (Nat.le_of_ble_eq_true rfl) ?_
  intro G hG hret
  have H74 : ∀ (v0 : Int32) (v1 : Int32), fJ6_numberOfTrailingZeros_0f7a4_L74 v0 v1 = some r → G u 74 [(0, .int v0), (1, .int v1)] [] := by
    intro  v0 v1 h
    rw [fJ6_numberOfTrailingZeros_0f7a4_L74] at h
    refine rl_iload_n hG dJ6_numberOfTrailingZeros_0f7a4_74 rfl 1 rfl ?_
    refine rl_iload_n hG dJ6_numberOfTrailingZeros_0f7a4_75 rfl 0 rfl ?_
    refine rl_iconst hG (v := 1) dJ6_numberOfTrailingZeros_0f7a4_76 (by decide) ?_
    refine rl_iushr hG dJ6_numberOfTrailingZeros_0f7a4_77 ?_
    refine rl_iadd hG dJ6_numberOfTrailingZeros_0f7a4_78 ?_
    exact rl_ret1 hret h rfl dJ6_numberOfTrailingZeros_0f7a4_79
  have H62 : ∀ (v0 : Int32) (v1 : Int32), fJ6_numberOfTrailingZeros_0f7a4_L62 v0 v1 = some r → G u 62 [(0, .int v0), (1, .int v1)] [] := by
    intro  v0 v1 h
    rw [fJ6_numberOfTrailingZeros_0f7a4_L62] at h
    refine rl_iload_n hG dJ6_numberOfTrailingZeros_0f7a4_62 rfl 0 rfl ?_
    refine rl_iconst hG (v := 4) dJ6_numberOfTrailingZeros_0f7a4_63 (by decide) ?_
    refine rl_icmp_le hG (tgt := 74) dJ6_numberOfTrailingZeros_0f7a4_64 (by decide) (fun c1 => ?_) (fun c1 => ?_)
    · have h := it_t h c1
      exact rl_lvs hG [0, 1] rfl (H74 v0 v1 h)
    · have h := it_f h c1
      obtain ⟨x2, ex2, h⟩ := bd_ok h
      refine rl_iinc hG [(1, .int x2), (0, .int v0)] dJ6_numberOfTrailingZeros_0f7a4_67 1 rfl (by rw [ex2]; rfl) (Nat.le_of_ble_eq_true rfl) rfl ?_
      refine rl_iload_n hG dJ6_numberOfTrailingZeros_0f7a4_70 rfl 1 rfl ?_
      refine rl_iconst hG (v := 2) dJ6_numberOfTrailingZeros_0f7a4_71 (by decide) ?_
      refine rl_iushr hG dJ6_numberOfTrailingZeros_0f7a4_72 ?_
      obtain ⟨x3, ex3, h⟩ := bd_ok h
      refine rl_istore_n hG [(0, .int x3), (1, .int x2)] dJ6_numberOfTrailingZeros_0f7a4_73 rfl (Nat.le_of_ble_eq_true rfl) ex3 rfl ?_
      exact rl_lvs hG [0, 1] rfl (H74 x3 x2 h)
  have H49 : ∀ (v0 : Int32) (v1 : Int32), fJ6_numberOfTrailingZeros_0f7a4_L49 v0 v1 = some r → G u 49 [(0, .int v0), (1, .int v1)] [] := by
    intro  v0 v1 h
    rw [fJ6_numberOfTrailingZeros_0f7a4_L49] at h
    refine rl_iload_n hG dJ6_numberOfTrailingZeros_0f7a4_49 rfl 0 rfl ?_
    refine rl_bipush hG (v := 16) dJ6_numberOfTrailingZeros_0f7a4_50 (by decide) ?_
    refine rl_icmp_le hG (tgt := 62) dJ6_numberOfTrailingZeros_0f7a4_52 (by decide) (fun c4 => ?_) (fun c4 => ?_)
    · have h := it_t h c4
      exact rl_lvs hG [0, 1] rfl (H62 v0 v1 h)
    · have h := it_f h c4
      obtain ⟨x5, ex5, h⟩ := bd_ok h
      refine rl_iinc hG [(1, .int x5), (0, .int v0)] dJ6_numberOfTrailingZeros_0f7a4_55 1 rfl (by rw [ex5]; rfl) (Nat.le_of_ble_eq_true rfl) rfl ?_
      refine rl_iload_n hG dJ6_numberOfTrailingZeros_0f7a4_58 rfl 1 rfl ?_
      refine rl_iconst hG (v := 4) dJ6_numberOfTrailingZeros_0f7a4_59 (by decide) ?_
      refine rl_iushr hG dJ6_numberOfTrailingZeros_0f7a4_60 ?_
      obtain ⟨x6, ex6, h⟩ := bd_ok h
      refine rl_istore_n hG [(0, .int x6), (1, .int x5)] dJ6_numberOfTrailingZeros_0f7a4_61 rfl (Nat.le_of_ble_eq_true rfl) ex6 rfl ?_
      exact rl_lvs hG [0, 1] rfl (H62 x6 x5 h)
  have H34 : ∀ (v0 : Int32) (v1 : Int32), fJ6_numberOfTrailingZeros_0f7a4_L34 v0 v1 = some r → G u 34 [(0, .int v0), (1, .int v1)] [] := by
    intro  v0 v1 h
    rw [fJ6_numberOfTrailingZeros_0f7a4_L34] at h
    refine rl_iload_n hG dJ6_numberOfTrailingZeros_0f7a4_34 rfl 0 rfl ?_
    refine rl_sipush hG (v := 256) dJ6_numberOfTrailingZeros_0f7a4_35 (by decide) ?_
    refine rl_icmp_le hG (tgt := 49) dJ6_numberOfTrailingZeros_0f7a4_38 (by decide) (fun c7 => ?_) (fun c7 => ?_)
    · have h := it_t h c7
      exact rl_lvs hG [0, 1] rfl (H49 v0 v1 h)
    · have h := it_f h c7
      obtain ⟨x8, ex8, h⟩ := bd_ok h
      refine rl_iinc hG [(1, .int x8), (0, .int v0)] dJ6_numberOfTrailingZeros_0f7a4_41 1 rfl (by rw [ex8]; rfl) (Nat.le_of_ble_eq_true rfl) rfl ?_
      refine rl_iload_n hG dJ6_numberOfTrailingZeros_0f7a4_44 rfl 1 rfl ?_
      refine rl_bipush hG (v := 8) dJ6_numberOfTrailingZeros_0f7a4_45 (by decide) ?_
      refine rl_iushr hG dJ6_numberOfTrailingZeros_0f7a4_47 ?_
      obtain ⟨x9, ex9, h⟩ := bd_ok h
      refine rl_istore_n hG [(0, .int x9), (1, .int x8)] dJ6_numberOfTrailingZeros_0f7a4_48 rfl (Nat.le_of_ble_eq_true rfl) ex9 rfl ?_
      exact rl_lvs hG [0, 1] rfl (H49 x9 x8 h)
  have h := h0
  rw [fJ6_numberOfTrailingZeros_0f7a4] at h
  show G u 0 [(0, .int p0)] []
  refine rl_iload_n hG dJ6_numberOfTrailingZeros_0f7a4_0 rfl 0 rfl ?_
  refine rl_iconst hG (v := -1) dJ6_numberOfTrailingZeros_0f7a4_1 (by decide) ?_
  refine rl_ixor hG dJ6_numberOfTrailingZeros_0f7a4_2 ?_
  refine rl_iload_n hG dJ6_numberOfTrailingZeros_0f7a4_3 rfl 0 rfl ?_
  refine rl_iconst hG (v := 1) dJ6_numberOfTrailingZeros_0f7a4_4 (by decide) ?_
  refine rl_isub hG dJ6_numberOfTrailingZeros_0f7a4_5 ?_
  refine rl_iand hG dJ6_numberOfTrailingZeros_0f7a4_6 ?_
  obtain ⟨x10, ex10, h⟩ := bd_ok h
  refine rl_istore_n hG [(0, .int x10)] dJ6_numberOfTrailingZeros_0f7a4_7 rfl (Nat.le_of_ble_eq_true rfl) ex10 rfl ?_
  refine rl_iload_n hG dJ6_numberOfTrailingZeros_0f7a4_8 rfl 0 rfl ?_
  refine rl_if_gt hG (tgt := 17) dJ6_numberOfTrailingZeros_0f7a4_9 (by decide) (fun c11 => ?_) (fun c11 => ?_)
  · have h := it_t h c11
    refine rl_iconst hG (v := 1) dJ6_numberOfTrailingZeros_0f7a4_17 (by decide) ?_
    refine rl_istore_n hG [(1, .int (1 : Int32)), (0, .int x10)] dJ6_numberOfTrailingZeros_0f7a4_18 rfl (Nat.le_of_ble_eq_true rfl) rfl rfl ?_
    refine rl_iload_n hG dJ6_numberOfTrailingZeros_0f7a4_19 rfl 1 rfl ?_
    refine rl_ldcw hG (v := 65536) dJ6_numberOfTrailingZeros_0f7a4_20 nJ6_numberOfTrailingZeros_0f7a4_0 ?_
    refine rl_icmp_le hG (tgt := 34) dJ6_numberOfTrailingZeros_0f7a4_23 (by decide) (fun c12 => ?_) (fun c12 => ?_)
    · have h := it_t h c12
      exact rl_lvs hG [1, 0] rfl (H34 x10 (1 : Int32) h)
    · have h := it_f h c12
      obtain ⟨x13, ex13, h⟩ := bd_ok h
      refine rl_iinc hG [(1, .int x13), (0, .int x10)] dJ6_numberOfTrailingZeros_0f7a4_26 0 rfl (by rw [ex13]; rfl) (Nat.le_of_ble_eq_true rfl) rfl ?_
      refine rl_iload_n hG dJ6_numberOfTrailingZeros_0f7a4_29 rfl 1 rfl ?_
      refine rl_bipush hG (v := 16) dJ6_numberOfTrailingZeros_0f7a4_30 (by decide) ?_
      refine rl_iushr hG dJ6_numberOfTrailingZeros_0f7a4_32 ?_
      obtain ⟨x14, ex14, h⟩ := bd_ok h
      refine rl_istore_n hG [(0, .int x14), (1, .int x13)] dJ6_numberOfTrailingZeros_0f7a4_33 rfl (Nat.le_of_ble_eq_true rfl) ex14 rfl ?_
      exact rl_lvs hG [0, 1] rfl (H34 x14 x13 h)
  · have h := it_f h c11
    refine rl_iload_n hG dJ6_numberOfTrailingZeros_0f7a4_12 rfl 0 rfl ?_
    refine rl_bipush hG (v := 32) dJ6_numberOfTrailingZeros_0f7a4_13 (by decide) ?_
    refine rl_iand hG dJ6_numberOfTrailingZeros_0f7a4_15 ?_
    exact rl_ret1 hret h rfl dJ6_numberOfTrailingZeros_0f7a4_16
def fJ6_numberOfLeadingZeros_0f7a4_L73   (v0 : Int32) (v1 : Int32) : Option (Int32) := some (v1 - (ush v0 (1 : Int32)))
def fJ6_numberOfLeadingZeros_0f7a4_L61   (v0 : Int32) (v1 : Int32) : Option (Int32) := (if v0 < (4 : Int32) then fJ6_numberOfLeadingZeros_0f7a4_L73 v0 v1 else bd (v1 + (-2 : Int32)) (fun x2 => bd (ush v0 (2 : Int32)) (fun x3 => fJ6_numberOfLeadingZeros_0f7a4_L73 x3 x2)))
def fJ6_numberOfLeadingZeros_0f7a4_L48   (v0 : Int32) (v1 : Int32) : Option (Int32) := (if v0 < (16 : Int32) then fJ6_numberOfLeadingZeros_0f7a4_L61 v0 v1 else bd (v1 + (-4 : Int32)) (fun x5 => bd (ush v0 (4 : Int32)) (fun x6 => fJ6_numberOfLeadingZeros_0f7a4_L61 x6 x5)))
def fJ6_numberOfLeadingZeros_0f7a4_L33   (v0 : Int32) (v1 : Int32) : Option (Int32) := (if v0 < (256 : Int32) then fJ6_numberOfLeadingZeros_0f7a4_L48 v0 v1 else bd (v1 + (-8 : Int32)) (fun x8 => bd (ush v0 (8 : Int32)) (fun x9 => fJ6_numberOfLeadingZeros_0f7a4_L48 x9 x8)))
def fJ6_numberOfLeadingZeros_0f7a4   (p0 : Int32) : Option (Int32) := (if (0 : Int32) < p0 then (if p0 < (65536 : Int32) then fJ6_numberOfLeadingZeros_0f7a4_L33 p0 (31 : Int32) else bd ((31 : Int32) + (-16 : Int32)) (fun x12 => bd (ush p0 (16 : Int32)) (fun x13 => fJ6_numberOfLeadingZeros_0f7a4_L33 x13 x12))) else (if p0 = (0 : Int32) then some (32 : Int32) else some (0 : Int32)))
theorem nJ6_numberOfLeadingZeros_0f7a4_0 : Cond.constant RJ6 264 (65536) ∈ wsJ6_numberOfLeadingZeros_0f7a4 := by decide +kernel
set_option maxRecDepth 100000 in
set_option maxHeartbeats 4000000 in
theorem kJ6_numberOfLeadingZeros_0f7a4 (l : Launch) (D : va_G) (u : St)  (p0 : Int32) (r : Int32)  (h0 : fJ6_numberOfLeadingZeros_0f7a4 p0 = some r) : rl_Mi l yJ6_numberOfLeadingZeros_0f7a4 wsJ6_numberOfLeadingZeros_0f7a4 ({ frames := 0, cells := 0, slots := 0, locals := 0 } : Room) D [] (fun _ : St => ([] : va_W)) (fun _ _ _ => True) (fun _ => False) [.int p0] u r u := by
  refine rl_meth_i (cc := cJ6_numberOfLeadingZeros_0f7a4) (maxL := 2) (own := RJ6) (ty := .int) (by decide) rfl rfl (Nat.le_of_ble_eq_true rfl) ?_
  intro G hG hret
  have H73 : ∀ (v0 : Int32) (v1 : Int32), fJ6_numberOfLeadingZeros_0f7a4_L73 v0 v1 = some r → G u 73 [(0, .int v0), (1, .int v1)] [] := by
    intro  v0 v1 h
    rw [fJ6_numberOfLeadingZeros_0f7a4_L73] at h
    refine rl_iload_n hG dJ6_numberOfLeadingZeros_0f7a4_73 rfl 1 rfl ?_
    refine rl_iload_n hG dJ6_numberOfLeadingZeros_0f7a4_74 rfl 0 rfl ?_
    refine rl_iconst hG (v := 1) dJ6_numberOfLeadingZeros_0f7a4_75 (by decide) ?_
    refine rl_iushr hG dJ6_numberOfLeadingZeros_0f7a4_76 ?_
    refine rl_isub hG dJ6_numberOfLeadingZeros_0f7a4_77 ?_
    exact rl_ret1 hret h rfl dJ6_numberOfLeadingZeros_0f7a4_78
  have H61 : ∀ (v0 : Int32) (v1 : Int32), fJ6_numberOfLeadingZeros_0f7a4_L61 v0 v1 = some r → G u 61 [(0, .int v0), (1, .int v1)] [] := by
    intro  v0 v1 h
    rw [fJ6_numberOfLeadingZeros_0f7a4_L61] at h
    refine rl_iload_n hG dJ6_numberOfLeadingZeros_0f7a4_61 rfl 0 rfl ?_
    refine rl_iconst hG (v := 4) dJ6_numberOfLeadingZeros_0f7a4_62 (by decide) ?_
    refine rl_icmp_lt hG (tgt := 73) dJ6_numberOfLeadingZeros_0f7a4_63 (by decide) (fun c1 => ?_) (fun c1 => ?_)
    · have h := it_t h c1
      exact rl_lvs hG [0, 1] rfl (H73 v0 v1 h)
    · have h := it_f h c1
      obtain ⟨x2, ex2, h⟩ := bd_ok h
      refine rl_iinc hG [(1, .int x2), (0, .int v0)] dJ6_numberOfLeadingZeros_0f7a4_66 1 rfl (by rw [ex2]; rfl) (Nat.le_of_ble_eq_true rfl) rfl ?_
      refine rl_iload_n hG dJ6_numberOfLeadingZeros_0f7a4_69 rfl 1 rfl ?_
      refine rl_iconst hG (v := 2) dJ6_numberOfLeadingZeros_0f7a4_70 (by decide) ?_
      refine rl_iushr hG dJ6_numberOfLeadingZeros_0f7a4_71 ?_
      obtain ⟨x3, ex3, h⟩ := bd_ok h
      refine rl_istore_n hG [(0, .int x3), (1, .int x2)] dJ6_numberOfLeadingZeros_0f7a4_72 rfl (Nat.le_of_ble_eq_true rfl) ex3 rfl ?_
      exact rl_lvs hG [0, 1] rfl (H73 x3 x2 h)
  have H48 : ∀ (v0 : Int32) (v1 : Int32), fJ6_numberOfLeadingZeros_0f7a4_L48 v0 v1 = some r → G u 48 [(0, .int v0), (1, .int v1)] [] := by
    intro  v0 v1 h
    rw [fJ6_numberOfLeadingZeros_0f7a4_L48] at h
    refine rl_iload_n hG dJ6_numberOfLeadingZeros_0f7a4_48 rfl 0 rfl ?_
    refine rl_bipush hG (v := 16) dJ6_numberOfLeadingZeros_0f7a4_49 (by decide) ?_
    refine rl_icmp_lt hG (tgt := 61) dJ6_numberOfLeadingZeros_0f7a4_51 (by decide) (fun c4 => ?_) (fun c4 => ?_)
    · have h := it_t h c4
      exact rl_lvs hG [0, 1] rfl (H61 v0 v1 h)
    · have h := it_f h c4
      obtain ⟨x5, ex5, h⟩ := bd_ok h
      refine rl_iinc hG [(1, .int x5), (0, .int v0)] dJ6_numberOfLeadingZeros_0f7a4_54 1 rfl (by rw [ex5]; rfl) (Nat.le_of_ble_eq_true rfl) rfl ?_
      refine rl_iload_n hG dJ6_numberOfLeadingZeros_0f7a4_57 rfl 1 rfl ?_
      refine rl_iconst hG (v := 4) dJ6_numberOfLeadingZeros_0f7a4_58 (by decide) ?_
      refine rl_iushr hG dJ6_numberOfLeadingZeros_0f7a4_59 ?_
      obtain ⟨x6, ex6, h⟩ := bd_ok h
      refine rl_istore_n hG [(0, .int x6), (1, .int x5)] dJ6_numberOfLeadingZeros_0f7a4_60 rfl (Nat.le_of_ble_eq_true rfl) ex6 rfl ?_
      exact rl_lvs hG [0, 1] rfl (H61 x6 x5 h)
  have H33 : ∀ (v0 : Int32) (v1 : Int32), fJ6_numberOfLeadingZeros_0f7a4_L33 v0 v1 = some r → G u 33 [(0, .int v0), (1, .int v1)] [] := by
    intro  v0 v1 h
    rw [fJ6_numberOfLeadingZeros_0f7a4_L33] at h
    refine rl_iload_n hG dJ6_numberOfLeadingZeros_0f7a4_33 rfl 0 rfl ?_
    refine rl_sipush hG (v := 256) dJ6_numberOfLeadingZeros_0f7a4_34 (by decide) ?_
    refine rl_icmp_lt hG (tgt := 48) dJ6_numberOfLeadingZeros_0f7a4_37 (by decide) (fun c7 => ?_) (fun c7 => ?_)
    · have h := it_t h c7
      exact rl_lvs hG [0, 1] rfl (H48 v0 v1 h)
    · have h := it_f h c7
      obtain ⟨x8, ex8, h⟩ := bd_ok h
      refine rl_iinc hG [(1, .int x8), (0, .int v0)] dJ6_numberOfLeadingZeros_0f7a4_40 1 rfl (by rw [ex8]; rfl) (Nat.le_of_ble_eq_true rfl) rfl ?_
      refine rl_iload_n hG dJ6_numberOfLeadingZeros_0f7a4_43 rfl 1 rfl ?_
      refine rl_bipush hG (v := 8) dJ6_numberOfLeadingZeros_0f7a4_44 (by decide) ?_
      refine rl_iushr hG dJ6_numberOfLeadingZeros_0f7a4_46 ?_
      obtain ⟨x9, ex9, h⟩ := bd_ok h
      refine rl_istore_n hG [(0, .int x9), (1, .int x8)] dJ6_numberOfLeadingZeros_0f7a4_47 rfl (Nat.le_of_ble_eq_true rfl) ex9 rfl ?_
      exact rl_lvs hG [0, 1] rfl (H48 x9 x8 h)
  have h := h0
  rw [fJ6_numberOfLeadingZeros_0f7a4] at h
  show G u 0 [(0, .int p0)] []
  refine rl_iload_n hG dJ6_numberOfLeadingZeros_0f7a4_0 rfl 0 rfl ?_
  refine rl_if_gt hG (tgt := 15) dJ6_numberOfLeadingZeros_0f7a4_1 (by decide) (fun c10 => ?_) (fun c10 => ?_)
  · have h := it_t h c10
    refine rl_bipush hG (v := 31) dJ6_numberOfLeadingZeros_0f7a4_15 (by decide) ?_
    refine rl_istore_n hG [(1, .int (31 : Int32)), (0, .int p0)] dJ6_numberOfLeadingZeros_0f7a4_17 rfl (Nat.le_of_ble_eq_true rfl) rfl rfl ?_
    refine rl_iload_n hG dJ6_numberOfLeadingZeros_0f7a4_18 rfl 1 rfl ?_
    refine rl_ldcw hG (v := 65536) dJ6_numberOfLeadingZeros_0f7a4_19 nJ6_numberOfLeadingZeros_0f7a4_0 ?_
    refine rl_icmp_lt hG (tgt := 33) dJ6_numberOfLeadingZeros_0f7a4_22 (by decide) (fun c11 => ?_) (fun c11 => ?_)
    · have h := it_t h c11
      exact rl_lvs hG [1, 0] rfl (H33 p0 (31 : Int32) h)
    · have h := it_f h c11
      obtain ⟨x12, ex12, h⟩ := bd_ok h
      refine rl_iinc hG [(1, .int x12), (0, .int p0)] dJ6_numberOfLeadingZeros_0f7a4_25 0 rfl (by rw [ex12]; rfl) (Nat.le_of_ble_eq_true rfl) rfl ?_
      refine rl_iload_n hG dJ6_numberOfLeadingZeros_0f7a4_28 rfl 1 rfl ?_
      refine rl_bipush hG (v := 16) dJ6_numberOfLeadingZeros_0f7a4_29 (by decide) ?_
      refine rl_iushr hG dJ6_numberOfLeadingZeros_0f7a4_31 ?_
      obtain ⟨x13, ex13, h⟩ := bd_ok h
      refine rl_istore_n hG [(0, .int x13), (1, .int x12)] dJ6_numberOfLeadingZeros_0f7a4_32 rfl (Nat.le_of_ble_eq_true rfl) ex13 rfl ?_
      exact rl_lvs hG [0, 1] rfl (H33 x13 x12 h)
  · have h := it_f h c10
    refine rl_iload_n hG dJ6_numberOfLeadingZeros_0f7a4_4 rfl 0 rfl ?_
    refine rl_if_ne hG (tgt := 13) dJ6_numberOfLeadingZeros_0f7a4_5 (by decide) (fun c14 => ?_) (fun c14 => ?_)
    · have h := it_f h c14
      refine rl_iconst hG (v := 0) dJ6_numberOfLeadingZeros_0f7a4_13 (by decide) ?_
      exact rl_ret1 hret h rfl dJ6_numberOfLeadingZeros_0f7a4_14
    · have h := it_t h c14
      refine rl_bipush hG (v := 32) dJ6_numberOfLeadingZeros_0f7a4_8 (by decide) ?_
      refine rl_goto hG (tgt := 14) dJ6_numberOfLeadingZeros_0f7a4_10 (by decide) ?_
      exact rl_ret1 hret h rfl dJ6_numberOfLeadingZeros_0f7a4_14
def fJ6_bitCount_0f7a4   (p0 : Int32) : Option (Int32) := bd (p0 - ((ush p0 (1 : Int32)) &&& (1431655765 : Int32))) (fun x1 => bd ((x1 &&& (858993459 : Int32)) + ((ush x1 (2 : Int32)) &&& (858993459 : Int32))) (fun x2 => bd ((x2 + (ush x2 (4 : Int32))) &&& (252645135 : Int32)) (fun x3 => bd (x3 + (ush x3 (8 : Int32))) (fun x4 => bd (x4 + (ush x4 (16 : Int32))) (fun x5 => some (x5 &&& (63 : Int32)))))))
theorem nJ6_bitCount_0f7a4_0 : Cond.constant RJ6 265 (1431655765) ∈ wsJ6_bitCount_0f7a4 := by decide +kernel
theorem nJ6_bitCount_0f7a4_1 : Cond.constant RJ6 266 (858993459) ∈ wsJ6_bitCount_0f7a4 := by decide +kernel
theorem nJ6_bitCount_0f7a4_2 : Cond.constant RJ6 267 (252645135) ∈ wsJ6_bitCount_0f7a4 := by decide +kernel
set_option maxRecDepth 100000 in
set_option maxHeartbeats 4000000 in
theorem kJ6_bitCount_0f7a4 (l : Launch) (D : va_G) (u : St)  (p0 : Int32) (r : Int32)  (h0 : fJ6_bitCount_0f7a4 p0 = some r) : rl_Mi l yJ6_bitCount_0f7a4 wsJ6_bitCount_0f7a4 ({ frames := 0, cells := 0, slots := 0, locals := 0 } : Room) D [] (fun _ : St => ([] : va_W)) (fun _ _ _ => True) (fun _ => False) [.int p0] u r u := by
  refine rl_meth_i (cc := cJ6_bitCount_0f7a4) (maxL := 1) (own := RJ6) (ty := .int) (by decide) rfl rfl (Nat.le_of_ble_eq_true rfl) ?_
  intro G hG hret
  have h := h0
  rw [fJ6_bitCount_0f7a4] at h
  show G u 0 [(0, .int p0)] []
  refine rl_iload_n hG dJ6_bitCount_0f7a4_0 rfl 0 rfl ?_
  refine rl_iload_n hG dJ6_bitCount_0f7a4_1 rfl 0 rfl ?_
  refine rl_iconst hG (v := 1) dJ6_bitCount_0f7a4_2 (by decide) ?_
  refine rl_iushr hG dJ6_bitCount_0f7a4_3 ?_
  refine rl_ldcw hG (v := 1431655765) dJ6_bitCount_0f7a4_4 nJ6_bitCount_0f7a4_0 ?_
  refine rl_iand hG dJ6_bitCount_0f7a4_7 ?_
  refine rl_isub hG dJ6_bitCount_0f7a4_8 ?_
  obtain ⟨x1, ex1, h⟩ := bd_ok h
  refine rl_istore_n hG [(0, .int x1)] dJ6_bitCount_0f7a4_9 rfl (Nat.le_of_ble_eq_true rfl) ex1 rfl ?_
  refine rl_iload_n hG dJ6_bitCount_0f7a4_10 rfl 0 rfl ?_
  refine rl_ldcw hG (v := 858993459) dJ6_bitCount_0f7a4_11 nJ6_bitCount_0f7a4_1 ?_
  refine rl_iand hG dJ6_bitCount_0f7a4_14 ?_
  refine rl_iload_n hG dJ6_bitCount_0f7a4_15 rfl 0 rfl ?_
  refine rl_iconst hG (v := 2) dJ6_bitCount_0f7a4_16 (by decide) ?_
  refine rl_iushr hG dJ6_bitCount_0f7a4_17 ?_
  refine rl_ldcw hG (v := 858993459) dJ6_bitCount_0f7a4_18 nJ6_bitCount_0f7a4_1 ?_
  refine rl_iand hG dJ6_bitCount_0f7a4_21 ?_
  refine rl_iadd hG dJ6_bitCount_0f7a4_22 ?_
  obtain ⟨x2, ex2, h⟩ := bd_ok h
  refine rl_istore_n hG [(0, .int x2)] dJ6_bitCount_0f7a4_23 rfl (Nat.le_of_ble_eq_true rfl) ex2 rfl ?_
  refine rl_iload_n hG dJ6_bitCount_0f7a4_24 rfl 0 rfl ?_
  refine rl_iload_n hG dJ6_bitCount_0f7a4_25 rfl 0 rfl ?_
  refine rl_iconst hG (v := 4) dJ6_bitCount_0f7a4_26 (by decide) ?_
  refine rl_iushr hG dJ6_bitCount_0f7a4_27 ?_
  refine rl_iadd hG dJ6_bitCount_0f7a4_28 ?_
  refine rl_ldcw hG (v := 252645135) dJ6_bitCount_0f7a4_29 nJ6_bitCount_0f7a4_2 ?_
  refine rl_iand hG dJ6_bitCount_0f7a4_32 ?_
  obtain ⟨x3, ex3, h⟩ := bd_ok h
  refine rl_istore_n hG [(0, .int x3)] dJ6_bitCount_0f7a4_33 rfl (Nat.le_of_ble_eq_true rfl) ex3 rfl ?_
  refine rl_iload_n hG dJ6_bitCount_0f7a4_34 rfl 0 rfl ?_
  refine rl_iload_n hG dJ6_bitCount_0f7a4_35 rfl 0 rfl ?_
  refine rl_bipush hG (v := 8) dJ6_bitCount_0f7a4_36 (by decide) ?_
  refine rl_iushr hG dJ6_bitCount_0f7a4_38 ?_
  refine rl_iadd hG dJ6_bitCount_0f7a4_39 ?_
  obtain ⟨x4, ex4, h⟩ := bd_ok h
  refine rl_istore_n hG [(0, .int x4)] dJ6_bitCount_0f7a4_40 rfl (Nat.le_of_ble_eq_true rfl) ex4 rfl ?_
  refine rl_iload_n hG dJ6_bitCount_0f7a4_41 rfl 0 rfl ?_
  refine rl_iload_n hG dJ6_bitCount_0f7a4_42 rfl 0 rfl ?_
  refine rl_bipush hG (v := 16) dJ6_bitCount_0f7a4_43 (by decide) ?_
  refine rl_iushr hG dJ6_bitCount_0f7a4_45 ?_
  refine rl_iadd hG dJ6_bitCount_0f7a4_46 ?_
  obtain ⟨x5, ex5, h⟩ := bd_ok h
  refine rl_istore_n hG [(0, .int x5)] dJ6_bitCount_0f7a4_47 rfl (Nat.le_of_ble_eq_true rfl) ex5 rfl ?_
  refine rl_iload_n hG dJ6_bitCount_0f7a4_48 rfl 0 rfl ?_
  refine rl_bipush hG (v := 63) dJ6_bitCount_0f7a4_49 (by decide) ?_
  refine rl_iand hG dJ6_bitCount_0f7a4_51 ?_
  exact rl_ret1 hret h rfl dJ6_bitCount_0f7a4_52
def fX1_guildTold   (p0 : Int32) (p1 : Int32) : Option (Int32) := some ((p0 >>> (((3 : Int32) * p1) &&& 31)) &&& (7 : Int32))
set_option maxRecDepth 100000 in
set_option maxHeartbeats 4000000 in
theorem kX1_guildTold (l : Launch) (D : va_G) (u : St)  (p0 : Int32) (p1 : Int32) (r : Int32)  (h0 : fX1_guildTold p0 p1 = some r) : rl_Mi l yX1_guildTold wsX1_guildTold ({ frames := 0, cells := 0, slots := 0, locals := 0 } : Room) D [] (fun _ : St => ([] : va_W)) (fun _ _ _ => True) (fun _ => False) [.int p0, .int p1] u r u := by
  refine rl_meth_i (cc := cX1_guildTold) (maxL := 2) (own := RX1) (ty := .int) (by decide) rfl rfl (Nat.le_of_ble_eq_true rfl) ?_
  intro G hG hret
  have h := h0
  rw [fX1_guildTold] at h
  show G u 0 [(0, .int p0), (1, .int p1)] []
  refine rl_iload_n hG dX1_guildTold_0 rfl 0 rfl ?_
  refine rl_iconst hG (v := 3) dX1_guildTold_1 (by decide) ?_
  refine rl_iload_n hG dX1_guildTold_2 rfl 1 rfl ?_
  refine rl_imul hG dX1_guildTold_3 ?_
  refine rl_ishr hG dX1_guildTold_4 ?_
  refine rl_bipush hG (v := 7) dX1_guildTold_5 (by decide) ?_
  refine rl_iand hG dX1_guildTold_7 ?_
  exact rl_ret1 hret h rfl dX1_guildTold_8
def fX1_leastSet_L50  (k4 : Int64 → Int32 → Int32 → Option (Int32)) (v0 : Int64) (v2 : Int32) (v3 : Int32) : Option (Int32) := bd (v3 + (1 : Int32)) (fun x1 => k4 v0 v2 x1)
def fX1_leastSet_L31  (k4 : Int64 → Int32 → Int32 → Option (Int32)) (v0 : Int64) (v2 : Int32) (v3 : Int32) (w0 : Int32) : Option (Int32) := (if w0 = (0 : Int32) then fX1_leastSet_L50 k4 v0 v2 v3 else (if (lg_cmp ((lush v0 v3) &&& (1 : Int64)) (0 : Int64)) = (0 : Int32) then fX1_leastSet_L50 k4 v0 v2 v3 else fX1_leastSet_L50 k4 v0 v3 v3))
def fX1_leastSet_L26  (k4 : Int64 → Int32 → Int32 → Option (Int32)) (v0 : Int64) (v2 : Int32) (v3 : Int32) : Option (Int32) := fX1_leastSet_L31 k4 v0 v2 v3 (1 : Int32)
def fX1_leastSet_L4   : Nat → Int64 → Int32 → Int32 → Option (Int32)
  | 0 => fun _ _ _ => none
  | n + 1 => fun v0 v2 v3 => (if (64 : Int32) ≤ v3 then some v2 else (if v2 = (-1 : Int32) then fX1_leastSet_L26 (fX1_leastSet_L4 n) v0 v2 v3 else o1 (fJ6_bitCount_0f7a4 v3) (fun x6 => o1 (fJ6_bitCount_0f7a4 v2) (fun x7 => (if x7 ≤ x6 then fX1_leastSet_L31 (fX1_leastSet_L4 n) v0 v2 v3 (0 : Int32) else fX1_leastSet_L26 (fX1_leastSet_L4 n) v0 v2 v3)))))
def fX1_leastSet   (p0 : Int64) : Option (Int32) := fX1_leastSet_L4 2000 p0 (-1 : Int32) (0 : Int32)
set_option maxRecDepth 100000 in
set_option maxHeartbeats 4000000 in
theorem kX1_leastSet (l : Launch) (D : va_G) (u : St)  (p0 : Int64) (r : Int32)  (h0 : fX1_leastSet p0 = some r) : rl_Mi l yX1_leastSet wsX1_leastSet ({ frames := 1, cells := 0, slots := 0, locals := 20 } : Room) D [] (fun _ : St => ([] : va_W)) (fun _ _ _ => True) (fun _ => False) [.long p0] u r u := by
  refine rl_meth_i (cc := cX1_leastSet) (maxL := 5) (own := RX1) (ty := .int) (by decide) rfl rfl (Nat.le_of_ble_eq_true rfl) ?_
  intro G hG hret
  have H50 : ∀ (k4 : Int64 → Int32 → Int32 → Option (Int32)) (hk4 : ∀ (v0 : Int64) (v2 : Int32) (v3 : Int32), k4 v0 v2 v3 = some r → G u 4 [(0, .long v0), (2, .int v2), (3, .int v3)] []), ∀ (v0 : Int64) (v2 : Int32) (v3 : Int32), fX1_leastSet_L50 k4 v0 v2 v3 = some r → G u 50 [(0, .long v0), (2, .int v2), (3, .int v3)] [] := by
    intro k4 hk4 v0 v2 v3 h
    rw [fX1_leastSet_L50] at h
    obtain ⟨x1, ex1, h⟩ := bd_ok h
    refine rl_iinc hG [(3, .int x1), (0, .long v0), (2, .int v2)] dX1_leastSet_50 2 rfl (by rw [ex1]; rfl) (Nat.le_of_ble_eq_true rfl) rfl ?_
    refine rl_goto hG (tgt := 4) dX1_leastSet_53 (by decide) ?_
    exact rl_lvs hG [1, 2, 0] rfl (hk4 v0 v2 x1 h)
  have H31 : ∀ (k4 : Int64 → Int32 → Int32 → Option (Int32)) (hk4 : ∀ (v0 : Int64) (v2 : Int32) (v3 : Int32), k4 v0 v2 v3 = some r → G u 4 [(0, .long v0), (2, .int v2), (3, .int v3)] []), ∀ (v0 : Int64) (v2 : Int32) (v3 : Int32) (w0 : Int32), fX1_leastSet_L31 k4 v0 v2 v3 w0 = some r → G u 31 [(0, .long v0), (2, .int v2), (3, .int v3)] [.int w0] := by
    intro k4 hk4 v0 v2 v3 w0 h
    rw [fX1_leastSet_L31] at h
    refine rl_istore hG [(4, .int w0), (0, .long v0), (2, .int v2), (3, .int v3)] dX1_leastSet_31 (Nat.le_of_ble_eq_true rfl) rfl rfl ?_
    refine rl_iload hG dX1_leastSet_33 0 rfl ?_
    refine rl_if_eq hG (tgt := 50) dX1_leastSet_35 (by decide) (fun c2 => ?_) (fun c2 => ?_)
    · have h := it_t h c2
      exact rl_lvs hG [1, 2, 3] rfl (H50 (k4) (hk4) v0 v2 v3 h)
    · have h := it_f h c2
      refine rl_lload_n hG dX1_leastSet_38 rfl 1 rfl ?_
      refine rl_iload_n hG dX1_leastSet_39 rfl 3 rfl ?_
      refine rl_lushr hG dX1_leastSet_40 ?_
      refine rl_lconst hG (v := 1) dX1_leastSet_41 (by decide) ?_
      refine rl_land hG dX1_leastSet_42 ?_
      refine rl_lconst hG (v := 0) dX1_leastSet_43 (by decide) ?_
      refine rl_lcmp hG dX1_leastSet_44 ?_
      refine rl_if_eq hG (tgt := 50) dX1_leastSet_45 (by decide) (fun c3 => ?_) (fun c3 => ?_)
      · have h := it_t h c3
        exact rl_lvs hG [1, 2, 3] rfl (H50 (k4) (hk4) v0 v2 v3 h)
      · have h := it_f h c3
        refine rl_iload_n hG dX1_leastSet_48 rfl 3 rfl ?_
        refine rl_istore_n hG [(2, .int v3), (4, .int w0), (0, .long v0), (3, .int v3)] dX1_leastSet_49 rfl (Nat.le_of_ble_eq_true rfl) rfl rfl ?_
        exact rl_lvs hG [2, 0, 3] rfl (H50 (k4) (hk4) v0 v3 v3 h)
  have H26 : ∀ (k4 : Int64 → Int32 → Int32 → Option (Int32)) (hk4 : ∀ (v0 : Int64) (v2 : Int32) (v3 : Int32), k4 v0 v2 v3 = some r → G u 4 [(0, .long v0), (2, .int v2), (3, .int v3)] []), ∀ (v0 : Int64) (v2 : Int32) (v3 : Int32), fX1_leastSet_L26 k4 v0 v2 v3 = some r → G u 26 [(0, .long v0), (2, .int v2), (3, .int v3)] [] := by
    intro k4 hk4 v0 v2 v3 h
    rw [fX1_leastSet_L26] at h
    refine rl_iconst hG (v := 1) dX1_leastSet_26 (by decide) ?_
    refine rl_goto hG (tgt := 31) dX1_leastSet_27 (by decide) ?_
    exact rl_lvs hG [0, 1, 2] rfl (H31 (k4) (hk4) v0 v2 v3 (1 : Int32) h)
  have H4 : ∀ (n : Nat) (v0 : Int64) (v2 : Int32) (v3 : Int32), fX1_leastSet_L4 n v0 v2 v3 = some r → G u 4 [(0, .long v0), (2, .int v2), (3, .int v3)] [] := by
    intro n
    induction n with
    | zero =>
      intro v0 v2 v3 h
      exact absurd h (by rw [fX1_leastSet_L4]; exact fun q => by cases q)
    | succ n ih =>
      intro v0 v2 v3 h
      rw [fX1_leastSet_L4] at h
      refine rl_iload_n hG dX1_leastSet_4 rfl 2 rfl ?_
      refine rl_bipush hG (v := 64) dX1_leastSet_5 (by decide) ?_
      refine rl_icmp_ge hG (tgt := 56) dX1_leastSet_7 (by decide) (fun c4 => ?_) (fun c4 => ?_)
      · have h := it_t h c4
        refine rl_iload_n hG dX1_leastSet_56 rfl 1 rfl ?_
        exact rl_ret1 hret h rfl dX1_leastSet_57
      · have h := it_f h c4
        refine rl_iload_n hG dX1_leastSet_10 rfl 1 rfl ?_
        refine rl_iconst hG (v := -1) dX1_leastSet_11 (by decide) ?_
        refine rl_icmp_eq hG (tgt := 26) dX1_leastSet_12 (by decide) (fun c5 => ?_) (fun c5 => ?_)
        · have h := it_t h c5
          exact rl_lvs hG [0, 1, 2] rfl (H26 (fX1_leastSet_L4 n) (ih) v0 v2 v3 h)
        · have h := it_f h c5
          refine rl_iload_n hG dX1_leastSet_15 rfl 2 rfl ?_
          obtain ⟨x6, hx6q, h⟩ := o1_ok h
          refine rl_callZi hG (As := [.int v3]) (kJ6_bitCount_0f7a4 l D u v3 x6 hx6q) gX1_leastSet_J6_bitCount_0f7a4 rfl 1 rfl (by decide +kernel) rfl rfl (by decide) (Nat.le_of_ble_eq_true rfl) rfl dX1_leastSet_16 ?_
          refine rl_iload_n hG dX1_leastSet_19 rfl 1 rfl ?_
          obtain ⟨x7, hx7q, h⟩ := o1_ok h
          refine rl_callZi hG (As := [.int v2]) (kJ6_bitCount_0f7a4 l D u v2 x7 hx7q) gX1_leastSet_J6_bitCount_0f7a4 rfl 1 rfl (by decide +kernel) rfl rfl (by decide) (Nat.le_of_ble_eq_true rfl) rfl dX1_leastSet_20 ?_
          refine rl_icmp_ge hG (tgt := 30) dX1_leastSet_23 (by decide) (fun c8 => ?_) (fun c8 => ?_)
          · have h := it_t h c8
            refine rl_iconst hG (v := 0) dX1_leastSet_30 (by decide) ?_
            exact rl_lvs hG [0, 1, 2] rfl (H31 (fX1_leastSet_L4 n) (ih) v0 v2 v3 (0 : Int32) h)
          · have h := it_f h c8
            exact rl_lvs hG [0, 1, 2] rfl (H26 (fX1_leastSet_L4 n) (ih) v0 v2 v3 h)
  have h := h0
  rw [fX1_leastSet] at h
  show G u 0 [(0, .long p0)] []
  refine rl_iconst hG (v := -1) dX1_leastSet_0 (by decide) ?_
  refine rl_istore_n hG [(2, .int (-1 : Int32)), (0, .long p0)] dX1_leastSet_1 rfl (Nat.le_of_ble_eq_true rfl) rfl rfl ?_
  refine rl_iconst hG (v := 0) dX1_leastSet_2 (by decide) ?_
  refine rl_istore_n hG [(3, .int (0 : Int32)), (2, .int (-1 : Int32)), (0, .long p0)] dX1_leastSet_3 rfl (Nat.le_of_ble_eq_true rfl) rfl rfl ?_
  exact rl_lvs hG [2, 1, 0] rfl (H4 2000 p0 (-1 : Int32) (0 : Int32) h)
def fX1_leastCount   (p0 : Int64) : Option (Int32) := o1 (fX1_leastSet p0) (fun x1 => (if x1 = (-1 : Int32) then some (7 : Int32) else o1 (fJ6_bitCount_0f7a4 x1) (fun x3 => some x3)))
set_option maxRecDepth 100000 in
set_option maxHeartbeats 4000000 in
theorem kX1_leastCount (l : Launch) (D : va_G) (u : St)  (p0 : Int64) (r : Int32)  (h0 : fX1_leastCount p0 = some r) : rl_Mi l yX1_leastCount wsX1_leastCount ({ frames := 2, cells := 0, slots := 0, locals := 44 } : Room) D [] (fun _ : St => ([] : va_W)) (fun _ _ _ => True) (fun _ => False) [.long p0] u r u := by
  refine rl_meth_i (cc := cX1_leastCount) (maxL := 3) (own := RX1) (ty := .int) (by decide) rfl rfl (Nat.le_of_ble_eq_true rfl) ?_
  intro G hG hret
  have h := h0
  rw [fX1_leastCount] at h
  show G u 0 [(0, .long p0)] []
  refine rl_lload_n hG dX1_leastCount_0 rfl 0 rfl ?_
  obtain ⟨x1, hx1q, h⟩ := o1_ok h
  refine rl_callZi hG (As := [.long p0]) (kX1_leastSet l D u p0 x1 hx1q) gX1_leastCount_X1_leastSet rfl 1 rfl (by decide +kernel) rfl rfl (by decide) (Nat.le_of_ble_eq_true rfl) rfl dX1_leastCount_1 ?_
  refine rl_istore_n hG [(2, .int x1), (0, .long p0)] dX1_leastCount_4 rfl (Nat.le_of_ble_eq_true rfl) rfl rfl ?_
  refine rl_iload_n hG dX1_leastCount_5 rfl 0 rfl ?_
  refine rl_iconst hG (v := -1) dX1_leastCount_6 (by decide) ?_
  refine rl_icmp_ne hG (tgt := 15) dX1_leastCount_7 (by decide) (fun c2 => ?_) (fun c2 => ?_)
  · have h := it_f h c2
    refine rl_iload_n hG dX1_leastCount_15 rfl 0 rfl ?_
    obtain ⟨x3, hx3q, h⟩ := o1_ok h
    refine rl_callZi hG (As := [.int x1]) (kJ6_bitCount_0f7a4 l D u x1 x3 hx3q) gX1_leastCount_J6_bitCount_0f7a4 rfl 1 rfl (by decide +kernel) rfl rfl (by decide) (Nat.le_of_ble_eq_true rfl) rfl dX1_leastCount_16 ?_
    exact rl_ret1 hret h rfl dX1_leastCount_19
  · have h := it_t h c2
    refine rl_bipush hG (v := 7) dX1_leastCount_10 (by decide) ?_
    refine rl_goto hG (tgt := 19) dX1_leastCount_12 (by decide) ?_
    exact rl_ret1 hret h rfl dX1_leastCount_19
def fX1_setsUpTo_L24  (k4 : Int32 → Int64 → Int32 → Option (Int64)) (v0 : Int32) (v1 : Int64) (v3 : Int32) : Option (Int64) := bd (v3 + (1 : Int32)) (fun x1 => k4 v0 v1 x1)
def fX1_setsUpTo_L4   : Nat → Int32 → Int64 → Int32 → Option (Int64)
  | 0 => fun _ _ _ => none
  | n + 1 => fun v0 v1 v3 => (if (64 : Int32) ≤ v3 then some v1 else o1 (fJ6_bitCount_0f7a4 v3) (fun x3 => (if v0 < x3 then fX1_setsUpTo_L24 (fX1_setsUpTo_L4 n) v0 v1 v3 else bd (v1 ||| ((1 : Int64) <<< (v3.toInt64 &&& 63))) (fun x5 => fX1_setsUpTo_L24 (fX1_setsUpTo_L4 n) v0 x5 v3))))
def fX1_setsUpTo   (p0 : Int32) : Option (Int64) := fX1_setsUpTo_L4 2000 p0 (0 : Int64) (0 : Int32)
set_option maxRecDepth 100000 in
set_option maxHeartbeats 4000000 in
theorem kX1_setsUpTo (l : Launch) (D : va_G) (u : St)  (p0 : Int32) (r : Int64)  (h0 : fX1_setsUpTo p0 = some r) : rl_Ml l yX1_setsUpTo wsX1_setsUpTo ({ frames := 1, cells := 0, slots := 0, locals := 20 } : Room) D [] (fun _ : St => ([] : va_W)) (fun _ _ _ => True) (fun _ => False) [.int p0] u r u := by
  refine rl_meth_l (cc := cX1_setsUpTo) (maxL := 4) (own := RX1) (by decide) rfl rfl (Nat.le_of_ble_eq_true rfl) ?_
  intro G hG hret
  have H24 : ∀ (k4 : Int32 → Int64 → Int32 → Option (Int64)) (hk4 : ∀ (v0 : Int32) (v1 : Int64) (v3 : Int32), k4 v0 v1 v3 = some r → G u 4 [(0, .int v0), (1, .long v1), (3, .int v3)] []), ∀ (v0 : Int32) (v1 : Int64) (v3 : Int32), fX1_setsUpTo_L24 k4 v0 v1 v3 = some r → G u 24 [(0, .int v0), (1, .long v1), (3, .int v3)] [] := by
    intro k4 hk4 v0 v1 v3 h
    rw [fX1_setsUpTo_L24] at h
    obtain ⟨x1, ex1, h⟩ := bd_ok h
    refine rl_iinc hG [(3, .int x1), (0, .int v0), (1, .long v1)] dX1_setsUpTo_24 2 rfl (by rw [ex1]; rfl) (Nat.le_of_ble_eq_true rfl) rfl ?_
    refine rl_goto hG (tgt := 4) dX1_setsUpTo_27 (by decide) ?_
    exact rl_lvs hG [1, 2, 0] rfl (hk4 v0 v1 x1 h)
  have H4 : ∀ (n : Nat) (v0 : Int32) (v1 : Int64) (v3 : Int32), fX1_setsUpTo_L4 n v0 v1 v3 = some r → G u 4 [(0, .int v0), (1, .long v1), (3, .int v3)] [] := by
    intro n
    induction n with
    | zero =>
      intro v0 v1 v3 h
      exact absurd h (by rw [fX1_setsUpTo_L4]; exact fun q => by cases q)
    | succ n ih =>
      intro v0 v1 v3 h
      rw [fX1_setsUpTo_L4] at h
      refine rl_iload_n hG dX1_setsUpTo_4 rfl 2 rfl ?_
      refine rl_bipush hG (v := 64) dX1_setsUpTo_5 (by decide) ?_
      refine rl_icmp_ge hG (tgt := 30) dX1_setsUpTo_7 (by decide) (fun c2 => ?_) (fun c2 => ?_)
      · have h := it_t h c2
        refine rl_lload_n hG dX1_setsUpTo_30 rfl 1 rfl ?_
        exact rl_retl1 hret h dX1_setsUpTo_31
      · have h := it_f h c2
        refine rl_iload_n hG dX1_setsUpTo_10 rfl 2 rfl ?_
        obtain ⟨x3, hx3q, h⟩ := o1_ok h
        refine rl_callZi hG (As := [.int v3]) (kJ6_bitCount_0f7a4 l D u v3 x3 hx3q) gX1_setsUpTo_J6_bitCount_0f7a4 rfl 1 rfl (by decide +kernel) rfl rfl (by decide) (Nat.le_of_ble_eq_true rfl) rfl dX1_setsUpTo_11 ?_
        refine rl_iload_n hG dX1_setsUpTo_14 rfl 0 rfl ?_
        refine rl_icmp_gt hG (tgt := 24) dX1_setsUpTo_15 (by decide) (fun c4 => ?_) (fun c4 => ?_)
        · have h := it_t h c4
          exact rl_lvs hG [0, 1, 2] rfl (H24 (fX1_setsUpTo_L4 n) (ih) v0 v1 v3 h)
        · have h := it_f h c4
          refine rl_lload_n hG dX1_setsUpTo_18 rfl 1 rfl ?_
          refine rl_lconst hG (v := 1) dX1_setsUpTo_19 (by decide) ?_
          refine rl_iload_n hG dX1_setsUpTo_20 rfl 2 rfl ?_
          refine rl_lshl hG dX1_setsUpTo_21 ?_
          refine rl_lor hG dX1_setsUpTo_22 ?_
          obtain ⟨x5, ex5, h⟩ := bd_ok h
          refine rl_lstore_n hG [(1, .long x5), (0, .int v0), (3, .int v3)] dX1_setsUpTo_23 rfl (Nat.le_of_ble_eq_true rfl) ex5 rfl ?_
          exact rl_lvs hG [1, 0, 2] rfl (H24 (fX1_setsUpTo_L4 n) (ih) v0 x5 v3 h)
  have h := h0
  rw [fX1_setsUpTo] at h
  show G u 0 [(0, .int p0)] []
  refine rl_lconst hG (v := 0) dX1_setsUpTo_0 (by decide) ?_
  refine rl_lstore_n hG [(1, .long (0 : Int64)), (0, .int p0)] dX1_setsUpTo_1 rfl (Nat.le_of_ble_eq_true rfl) rfl rfl ?_
  refine rl_iconst hG (v := 0) dX1_setsUpTo_2 (by decide) ?_
  refine rl_istore_n hG [(3, .int (0 : Int32)), (1, .long (0 : Int64)), (0, .int p0)] dX1_setsUpTo_3 rfl (Nat.le_of_ble_eq_true rfl) rfl rfl ?_
  exact rl_lvs hG [2, 1, 0] rfl (H4 2000 p0 (0 : Int64) (0 : Int32) h)
def fX7_isNoGuild   (p0 : Int32) : Option (Int32) := oz (fX7_isOff p0 (0 : Int32) (5 : Int32)) (fun x1 => rb x1 (fun y => some y))
set_option maxRecDepth 100000 in
set_option maxHeartbeats 4000000 in
theorem kX7_isNoGuild (l : Launch) (D : va_G) (u : St)  (p0 : Int32) (r : Int32)  (h0 : fX7_isNoGuild p0 = some r) : rl_Mi l yX7_isNoGuild wsX7_isNoGuild ({ frames := 1, cells := 0, slots := 0, locals := 22 } : Room) D [] (fun _ : St => ([] : va_W)) (fun _ _ _ => True) (fun _ => False) [.int p0] u r u := by
  refine rl_meth_i (cc := cX7_isNoGuild) (maxL := 1) (own := RX7) (ty := .boolean) (by decide) rfl rfl (Nat.le_of_ble_eq_true rfl) ?_
  intro G hG hret
  have h := h0
  rw [fX7_isNoGuild] at h
  show G u 0 [(0, .int p0)] []
  refine rl_iload_n hG dX7_isNoGuild_0 rfl 0 rfl ?_
  refine rl_iconst hG (v := 0) dX7_isNoGuild_1 (by decide) ?_
  refine rl_iconst hG (v := 5) dX7_isNoGuild_2 (by decide) ?_
  obtain ⟨x1, hx1q, zx1, h⟩ := oz_ok h
  refine rl_callZi hG (As := [.int p0, .int (0 : Int32), .int (5 : Int32)]) (kX7_isOff l D u p0 (0 : Int32) (5 : Int32) x1 hx1q) gX7_isNoGuild_X7_isOff rfl 3 rfl (by decide +kernel) rfl rfl (by decide) (Nat.le_of_ble_eq_true rfl) rfl dX7_isNoGuild_3 ?_
  obtain ⟨hz, h⟩ := rb_ok h
  exact rl_ret1 hret h (na_z hz) dX7_isNoGuild_6
def fX7_isNoWork   (p0 : Int32) : Option (Int32) := oz (fX7_isOff p0 (0 : Int32) (239 : Int32)) (fun x1 => rb x1 (fun y => some y))
set_option maxRecDepth 100000 in
set_option maxHeartbeats 4000000 in
theorem kX7_isNoWork (l : Launch) (D : va_G) (u : St)  (p0 : Int32) (r : Int32)  (h0 : fX7_isNoWork p0 = some r) : rl_Mi l yX7_isNoWork wsX7_isNoWork ({ frames := 1, cells := 0, slots := 0, locals := 22 } : Room) D [] (fun _ : St => ([] : va_W)) (fun _ _ _ => True) (fun _ => False) [.int p0] u r u := by
  refine rl_meth_i (cc := cX7_isNoWork) (maxL := 1) (own := RX7) (ty := .boolean) (by decide) rfl rfl (Nat.le_of_ble_eq_true rfl) ?_
  intro G hG hret
  have h := h0
  rw [fX7_isNoWork] at h
  show G u 0 [(0, .int p0)] []
  refine rl_iload_n hG dX7_isNoWork_0 rfl 0 rfl ?_
  refine rl_iconst hG (v := 0) dX7_isNoWork_1 (by decide) ?_
  refine rl_sipush hG (v := 239) dX7_isNoWork_2 (by decide) ?_
  obtain ⟨x1, hx1q, zx1, h⟩ := oz_ok h
  refine rl_callZi hG (As := [.int p0, .int (0 : Int32), .int (239 : Int32)]) (kX7_isOff l D u p0 (0 : Int32) (239 : Int32) x1 hx1q) gX7_isNoWork_X7_isOff rfl 3 rfl (by decide +kernel) rfl rfl (by decide) (Nat.le_of_ble_eq_true rfl) rfl dX7_isNoWork_5 ?_
  obtain ⟨hz, h⟩ := rb_ok h
  exact rl_ret1 hret h (na_z hz) dX7_isNoWork_8
def fX7_isNoThing   (p0 : Int32) : Option (Int32) := oz (fX7_isOff p0 (0 : Int32) (5 : Int32)) (fun x1 => rb x1 (fun y => some y))
set_option maxRecDepth 100000 in
set_option maxHeartbeats 4000000 in
theorem kX7_isNoThing (l : Launch) (D : va_G) (u : St)  (p0 : Int32) (r : Int32)  (h0 : fX7_isNoThing p0 = some r) : rl_Mi l yX7_isNoThing wsX7_isNoThing ({ frames := 1, cells := 0, slots := 0, locals := 22 } : Room) D [] (fun _ : St => ([] : va_W)) (fun _ _ _ => True) (fun _ => False) [.int p0] u r u := by
  refine rl_meth_i (cc := cX7_isNoThing) (maxL := 1) (own := RX7) (ty := .boolean) (by decide) rfl rfl (Nat.le_of_ble_eq_true rfl) ?_
  intro G hG hret
  have h := h0
  rw [fX7_isNoThing] at h
  show G u 0 [(0, .int p0)] []
  refine rl_iload_n hG dX7_isNoThing_0 rfl 0 rfl ?_
  refine rl_iconst hG (v := 0) dX7_isNoThing_1 (by decide) ?_
  refine rl_iconst hG (v := 5) dX7_isNoThing_2 (by decide) ?_
  obtain ⟨x1, hx1q, zx1, h⟩ := oz_ok h
  refine rl_callZi hG (As := [.int p0, .int (0 : Int32), .int (5 : Int32)]) (kX7_isOff l D u p0 (0 : Int32) (5 : Int32) x1 hx1q) gX7_isNoThing_X7_isOff rfl 3 rfl (by decide +kernel) rfl rfl (by decide) (Nat.le_of_ble_eq_true rfl) rfl dX7_isNoThing_3 ?_
  obtain ⟨hz, h⟩ := rb_ok h
  exact rl_ret1 hret h (na_z hz) dX7_isNoThing_6
def fX7_isNoSet   (p0 : Int32) : Option (Int32) := oz (fX7_isOff p0 (0 : Int32) (63 : Int32)) (fun x1 => rb x1 (fun y => some y))
set_option maxRecDepth 100000 in
set_option maxHeartbeats 4000000 in
theorem kX7_isNoSet (l : Launch) (D : va_G) (u : St)  (p0 : Int32) (r : Int32)  (h0 : fX7_isNoSet p0 = some r) : rl_Mi l yX7_isNoSet wsX7_isNoSet ({ frames := 1, cells := 0, slots := 0, locals := 22 } : Room) D [] (fun _ : St => ([] : va_W)) (fun _ _ _ => True) (fun _ => False) [.int p0] u r u := by
  refine rl_meth_i (cc := cX7_isNoSet) (maxL := 1) (own := RX7) (ty := .boolean) (by decide) rfl rfl (Nat.le_of_ble_eq_true rfl) ?_
  intro G hG hret
  have h := h0
  rw [fX7_isNoSet] at h
  show G u 0 [(0, .int p0)] []
  refine rl_iload_n hG dX7_isNoSet_0 rfl 0 rfl ?_
  refine rl_iconst hG (v := 0) dX7_isNoSet_1 (by decide) ?_
  refine rl_bipush hG (v := 63) dX7_isNoSet_2 (by decide) ?_
  obtain ⟨x1, hx1q, zx1, h⟩ := oz_ok h
  refine rl_callZi hG (As := [.int p0, .int (0 : Int32), .int (63 : Int32)]) (kX7_isOff l D u p0 (0 : Int32) (63 : Int32) x1 hx1q) gX7_isNoSet_X7_isOff rfl 3 rfl (by decide +kernel) rfl rfl (by decide) (Nat.le_of_ble_eq_true rfl) rfl dX7_isNoSet_4 ?_
  obtain ⟨hz, h⟩ := rb_ok h
  exact rl_ret1 hret h (na_z hz) dX7_isNoSet_7
def fX8_in   (p0 : Int64) (p2 : Int64) (p4 : Int64) : Option (Int32) := (if (lg_cmp p0 p2) < (0 : Int32) then some (0 : Int32) else (if (0 : Int32) < (lg_cmp p0 p4) then some (0 : Int32) else some (1 : Int32)))
set_option maxRecDepth 100000 in
set_option maxHeartbeats 4000000 in
theorem kX8_in (l : Launch) (D : va_G) (u : St)  (p0 : Int64) (p2 : Int64) (p4 : Int64) (r : Int32)  (h0 : fX8_in p0 p2 p4 = some r) : rl_Mi l yX8_in wsX8_in ({ frames := 0, cells := 0, slots := 0, locals := 0 } : Room) D [] (fun _ : St => ([] : va_W)) (fun _ _ _ => True) (fun _ => False) [.long p0, .long p2, .long p4] u r u := by
  refine rl_meth_i (cc := cX8_in) (maxL := 6) (own := RX8) (ty := .boolean) (by decide) rfl rfl (Nat.le_of_ble_eq_true rfl) ?_
  intro G hG hret
  have h := h0
  rw [fX8_in] at h
  show G u 0 [(0, .long p0), (2, .long p2), (4, .long p4)] []
  refine rl_lload_n hG dX8_in_0 rfl 0 rfl ?_
  refine rl_lload_n hG dX8_in_1 rfl 1 rfl ?_
  refine rl_lcmp hG dX8_in_2 ?_
  refine rl_if_lt hG (tgt := 17) dX8_in_3 (by decide) (fun c1 => ?_) (fun c1 => ?_)
  · have h := it_t h c1
    refine rl_iconst hG (v := 0) dX8_in_17 (by decide) ?_
    exact rl_ret1 hret h rfl dX8_in_18
  · have h := it_f h c1
    refine rl_lload_n hG dX8_in_6 rfl 0 rfl ?_
    refine rl_lload hG dX8_in_7 2 rfl ?_
    refine rl_lcmp hG dX8_in_9 ?_
    refine rl_if_gt hG (tgt := 17) dX8_in_10 (by decide) (fun c2 => ?_) (fun c2 => ?_)
    · have h := it_t h c2
      refine rl_iconst hG (v := 0) dX8_in_17 (by decide) ?_
      exact rl_ret1 hret h rfl dX8_in_18
    · have h := it_f h c2
      refine rl_iconst hG (v := 1) dX8_in_13 (by decide) ?_
      refine rl_goto hG (tgt := 18) dX8_in_14 (by decide) ?_
      exact rl_ret1 hret h rfl dX8_in_18
def fX8_isGuild   (p0 : Int32) : Option (Int32) := oz (fX8_in p0.toInt64 (0 : Int64) (5 : Int64)) (fun x1 => rb x1 (fun y => some y))
theorem nX8_isGuild_0 : Cond.constantLong RX8 55 (5) ∈ wsX8_isGuild := by decide +kernel
set_option maxRecDepth 100000 in
set_option maxHeartbeats 4000000 in
theorem kX8_isGuild (l : Launch) (D : va_G) (u : St)  (p0 : Int32) (r : Int32)  (h0 : fX8_isGuild p0 = some r) : rl_Mi l yX8_isGuild wsX8_isGuild ({ frames := 1, cells := 0, slots := 0, locals := 25 } : Room) D [] (fun _ : St => ([] : va_W)) (fun _ _ _ => True) (fun _ => False) [.int p0] u r u := by
  refine rl_meth_i (cc := cX8_isGuild) (maxL := 1) (own := RX8) (ty := .boolean) (by decide) rfl rfl (Nat.le_of_ble_eq_true rfl) ?_
  intro G hG hret
  have h := h0
  rw [fX8_isGuild] at h
  show G u 0 [(0, .int p0)] []
  refine rl_iload_n hG dX8_isGuild_0 rfl 0 rfl ?_
  refine rl_i2l hG dX8_isGuild_1 ?_
  refine rl_lconst hG (v := 0) dX8_isGuild_2 (by decide) ?_
  refine rl_ldc2 hG (v := 5) dX8_isGuild_3 nX8_isGuild_0 ?_
  obtain ⟨x1, hx1q, zx1, h⟩ := oz_ok h
  refine rl_callZi hG (As := [.long p0.toInt64, .long (0 : Int64), .long (5 : Int64)]) (kX8_in l D u p0.toInt64 (0 : Int64) (5 : Int64) x1 hx1q) gX8_isGuild_X8_in rfl 3 rfl (by decide +kernel) rfl rfl (by decide) (Nat.le_of_ble_eq_true rfl) rfl dX8_isGuild_6 ?_
  obtain ⟨hz, h⟩ := rb_ok h
  exact rl_ret1 hret h (na_z hz) dX8_isGuild_9
def fX8_isWork   (p0 : Int32) : Option (Int32) := oz (fX8_in p0.toInt64 (0 : Int64) (239 : Int64)) (fun x1 => rb x1 (fun y => some y))
theorem nX8_isWork_0 : Cond.constantLong RX8 61 (239) ∈ wsX8_isWork := by decide +kernel
set_option maxRecDepth 100000 in
set_option maxHeartbeats 4000000 in
theorem kX8_isWork (l : Launch) (D : va_G) (u : St)  (p0 : Int32) (r : Int32)  (h0 : fX8_isWork p0 = some r) : rl_Mi l yX8_isWork wsX8_isWork ({ frames := 1, cells := 0, slots := 0, locals := 25 } : Room) D [] (fun _ : St => ([] : va_W)) (fun _ _ _ => True) (fun _ => False) [.int p0] u r u := by
  refine rl_meth_i (cc := cX8_isWork) (maxL := 1) (own := RX8) (ty := .boolean) (by decide) rfl rfl (Nat.le_of_ble_eq_true rfl) ?_
  intro G hG hret
  have h := h0
  rw [fX8_isWork] at h
  show G u 0 [(0, .int p0)] []
  refine rl_iload_n hG dX8_isWork_0 rfl 0 rfl ?_
  refine rl_i2l hG dX8_isWork_1 ?_
  refine rl_lconst hG (v := 0) dX8_isWork_2 (by decide) ?_
  refine rl_ldc2 hG (v := 239) dX8_isWork_3 nX8_isWork_0 ?_
  obtain ⟨x1, hx1q, zx1, h⟩ := oz_ok h
  refine rl_callZi hG (As := [.long p0.toInt64, .long (0 : Int64), .long (239 : Int64)]) (kX8_in l D u p0.toInt64 (0 : Int64) (239 : Int64) x1 hx1q) gX8_isWork_X8_in rfl 3 rfl (by decide +kernel) rfl rfl (by decide) (Nat.le_of_ble_eq_true rfl) rfl dX8_isWork_6 ?_
  obtain ⟨hz, h⟩ := rb_ok h
  exact rl_ret1 hret h (na_z hz) dX8_isWork_9
def fX8_isThing   (p0 : Int32) : Option (Int32) := oz (fX8_in p0.toInt64 (0 : Int64) (5 : Int64)) (fun x1 => rb x1 (fun y => some y))
theorem nX8_isThing_0 : Cond.constantLong RX8 55 (5) ∈ wsX8_isThing := by decide +kernel
set_option maxRecDepth 100000 in
set_option maxHeartbeats 4000000 in
theorem kX8_isThing (l : Launch) (D : va_G) (u : St)  (p0 : Int32) (r : Int32)  (h0 : fX8_isThing p0 = some r) : rl_Mi l yX8_isThing wsX8_isThing ({ frames := 1, cells := 0, slots := 0, locals := 25 } : Room) D [] (fun _ : St => ([] : va_W)) (fun _ _ _ => True) (fun _ => False) [.int p0] u r u := by
  refine rl_meth_i (cc := cX8_isThing) (maxL := 1) (own := RX8) (ty := .boolean) (by decide) rfl rfl (Nat.le_of_ble_eq_true rfl) ?_
  intro G hG hret
  have h := h0
  rw [fX8_isThing] at h
  show G u 0 [(0, .int p0)] []
  refine rl_iload_n hG dX8_isThing_0 rfl 0 rfl ?_
  refine rl_i2l hG dX8_isThing_1 ?_
  refine rl_lconst hG (v := 0) dX8_isThing_2 (by decide) ?_
  refine rl_ldc2 hG (v := 5) dX8_isThing_3 nX8_isThing_0 ?_
  obtain ⟨x1, hx1q, zx1, h⟩ := oz_ok h
  refine rl_callZi hG (As := [.long p0.toInt64, .long (0 : Int64), .long (5 : Int64)]) (kX8_in l D u p0.toInt64 (0 : Int64) (5 : Int64) x1 hx1q) gX8_isThing_X8_in rfl 3 rfl (by decide +kernel) rfl rfl (by decide) (Nat.le_of_ble_eq_true rfl) rfl dX8_isThing_6 ?_
  obtain ⟨hz, h⟩ := rb_ok h
  exact rl_ret1 hret h (na_z hz) dX8_isThing_9
def fX8_sort_L16   (v0 : Int32) : Option (Int32) := (if v0 < (48 : Int32) then some (0 : Int32) else (if (57 : Int32) < v0 then some (0 : Int32) else some (2 : Int32)))
def fX8_sort   (p0 : Int32) : Option (Int32) := (if p0 < (97 : Int32) then fX8_sort_L16 p0 else (if (122 : Int32) < p0 then fX8_sort_L16 p0 else some (1 : Int32)))
set_option maxRecDepth 100000 in
set_option maxHeartbeats 4000000 in
theorem kX8_sort (l : Launch) (D : va_G) (u : St)  (p0 : Int32) (r : Int32)  (h0 : fX8_sort p0 = some r) : rl_Mi l yX8_sort wsX8_sort ({ frames := 0, cells := 0, slots := 0, locals := 0 } : Room) D [] (fun _ : St => ([] : va_W)) (fun _ _ _ => True) (fun _ => False) [.int p0] u r u := by
  refine rl_meth_i (cc := cX8_sort) (maxL := 1) (own := RX8) (ty := .int) (by decide) rfl rfl (Nat.le_of_ble_eq_true rfl) ?_
  intro G hG hret
  have H16 : ∀ (v0 : Int32), fX8_sort_L16 v0 = some r → G u 16 [(0, .int v0)] [] := by
    intro  v0 h
    rw [fX8_sort_L16] at h
    refine rl_iload_n hG dX8_sort_16 rfl 0 rfl ?_
    refine rl_bipush hG (v := 48) dX8_sort_17 (by decide) ?_
    refine rl_icmp_lt hG (tgt := 32) dX8_sort_19 (by decide) (fun c1 => ?_) (fun c1 => ?_)
    · have h := it_t h c1
      refine rl_iconst hG (v := 0) dX8_sort_32 (by decide) ?_
      exact rl_ret1 hret h rfl dX8_sort_33
    · have h := it_f h c1
      refine rl_iload_n hG dX8_sort_22 rfl 0 rfl ?_
      refine rl_bipush hG (v := 57) dX8_sort_23 (by decide) ?_
      refine rl_icmp_gt hG (tgt := 32) dX8_sort_25 (by decide) (fun c2 => ?_) (fun c2 => ?_)
      · have h := it_t h c2
        refine rl_iconst hG (v := 0) dX8_sort_32 (by decide) ?_
        exact rl_ret1 hret h rfl dX8_sort_33
      · have h := it_f h c2
        refine rl_iconst hG (v := 2) dX8_sort_28 (by decide) ?_
        refine rl_goto hG (tgt := 33) dX8_sort_29 (by decide) ?_
        exact rl_ret1 hret h rfl dX8_sort_33
  have h := h0
  rw [fX8_sort] at h
  show G u 0 [(0, .int p0)] []
  refine rl_iload_n hG dX8_sort_0 rfl 0 rfl ?_
  refine rl_bipush hG (v := 97) dX8_sort_1 (by decide) ?_
  refine rl_icmp_lt hG (tgt := 16) dX8_sort_3 (by decide) (fun c3 => ?_) (fun c3 => ?_)
  · have h := it_t h c3
    exact rl_lvs hG [0] rfl (H16 p0 h)
  · have h := it_f h c3
    refine rl_iload_n hG dX8_sort_6 rfl 0 rfl ?_
    refine rl_bipush hG (v := 122) dX8_sort_7 (by decide) ?_
    refine rl_icmp_gt hG (tgt := 16) dX8_sort_9 (by decide) (fun c4 => ?_) (fun c4 => ?_)
    · have h := it_t h c4
      exact rl_lvs hG [0] rfl (H16 p0 h)
    · have h := it_f h c4
      refine rl_iconst hG (v := 1) dX8_sort_12 (by decide) ?_
      refine rl_goto hG (tgt := 33) dX8_sort_13 (by decide) ?_
      exact rl_ret1 hret h rfl dX8_sort_33
def fX8_many_L4   : Nat → Int32 → Int32 → Int32 → Option (Int32)
  | 0 => fun _ _ _ => none
  | n + 1 => fun v0 v1 v2 => (if (20 : Int32) ≤ v2 then some v1 else bd (v1 + ((v0 >>> (v2 &&& 31)) &&& (1 : Int32))) (fun x2 => bd (v2 + (1 : Int32)) (fun x3 => fX8_many_L4 n v0 x2 x3)))
def fX8_many   (p0 : Int32) : Option (Int32) := fX8_many_L4 2000 p0 (0 : Int32) (0 : Int32)
set_option maxRecDepth 100000 in
set_option maxHeartbeats 4000000 in
theorem kX8_many (l : Launch) (D : va_G) (u : St)  (p0 : Int32) (r : Int32)  (h0 : fX8_many p0 = some r) : rl_Mi l yX8_many wsX8_many ({ frames := 0, cells := 0, slots := 0, locals := 0 } : Room) D [] (fun _ : St => ([] : va_W)) (fun _ _ _ => True) (fun _ => False) [.int p0] u r u := by
  refine rl_meth_i (cc := cX8_many) (maxL := 3) (own := RX8) (ty := .int) (by decide) rfl rfl (Nat.le_of_ble_eq_true rfl) ?_
  intro G hG hret
  have H4 : ∀ (n : Nat) (v0 : Int32) (v1 : Int32) (v2 : Int32), fX8_many_L4 n v0 v1 v2 = some r → G u 4 [(0, .int v0), (1, .int v1), (2, .int v2)] [] := by
    intro n
    induction n with
    | zero =>
      intro v0 v1 v2 h
      exact absurd h (by rw [fX8_many_L4]; exact fun q => by cases q)
    | succ n ih =>
      intro v0 v1 v2 h
      rw [fX8_many_L4] at h
      refine rl_iload_n hG dX8_many_4 rfl 2 rfl ?_
      refine rl_bipush hG (v := 20) dX8_many_5 (by decide) ?_
      refine rl_icmp_ge hG (tgt := 24) dX8_many_7 (by decide) (fun c1 => ?_) (fun c1 => ?_)
      · have h := it_t h c1
        refine rl_iload_n hG dX8_many_24 rfl 1 rfl ?_
        exact rl_ret1 hret h rfl dX8_many_25
      · have h := it_f h c1
        refine rl_iload_n hG dX8_many_10 rfl 1 rfl ?_
        refine rl_iload_n hG dX8_many_11 rfl 0 rfl ?_
        refine rl_iload_n hG dX8_many_12 rfl 2 rfl ?_
        refine rl_ishr hG dX8_many_13 ?_
        refine rl_iconst hG (v := 1) dX8_many_14 (by decide) ?_
        refine rl_iand hG dX8_many_15 ?_
        refine rl_iadd hG dX8_many_16 ?_
        obtain ⟨x2, ex2, h⟩ := bd_ok h
        refine rl_istore_n hG [(1, .int x2), (0, .int v0), (2, .int v2)] dX8_many_17 rfl (Nat.le_of_ble_eq_true rfl) ex2 rfl ?_
        obtain ⟨x3, ex3, h⟩ := bd_ok h
        refine rl_iinc hG [(2, .int x3), (1, .int x2), (0, .int v0)] dX8_many_18 2 rfl (by rw [ex3]; rfl) (Nat.le_of_ble_eq_true rfl) rfl ?_
        refine rl_goto hG (tgt := 4) dX8_many_21 (by decide) ?_
        exact rl_lvs hG [2, 1, 0] rfl (ih v0 x2 x3 h)
  have h := h0
  rw [fX8_many] at h
  show G u 0 [(0, .int p0)] []
  refine rl_iconst hG (v := 0) dX8_many_0 (by decide) ?_
  refine rl_istore_n hG [(1, .int (0 : Int32)), (0, .int p0)] dX8_many_1 rfl (Nat.le_of_ble_eq_true rfl) rfl rfl ?_
  refine rl_iconst hG (v := 0) dX8_many_2 (by decide) ?_
  refine rl_istore_n hG [(2, .int (0 : Int32)), (1, .int (0 : Int32)), (0, .int p0)] dX8_many_3 rfl (Nat.le_of_ble_eq_true rfl) rfl rfl ?_
  exact rl_lvs hG [2, 1, 0] rfl (H4 2000 p0 (0 : Int32) (0 : Int32) h)
def fX8_isGuilds   (p0 : Int32) : Option (Int32) := oz (fX8_in p0.toInt64 (0 : Int64) (63 : Int64)) (fun x1 => rb x1 (fun y => some y))
theorem nX8_isGuilds_0 : Cond.constantLong RX8 209 (63) ∈ wsX8_isGuilds := by decide +kernel
set_option maxRecDepth 100000 in
set_option maxHeartbeats 4000000 in
theorem kX8_isGuilds (l : Launch) (D : va_G) (u : St)  (p0 : Int32) (r : Int32)  (h0 : fX8_isGuilds p0 = some r) : rl_Mi l yX8_isGuilds wsX8_isGuilds ({ frames := 1, cells := 0, slots := 0, locals := 25 } : Room) D [] (fun _ : St => ([] : va_W)) (fun _ _ _ => True) (fun _ => False) [.int p0] u r u := by
  refine rl_meth_i (cc := cX8_isGuilds) (maxL := 1) (own := RX8) (ty := .boolean) (by decide) rfl rfl (Nat.le_of_ble_eq_true rfl) ?_
  intro G hG hret
  have h := h0
  rw [fX8_isGuilds] at h
  show G u 0 [(0, .int p0)] []
  refine rl_iload_n hG dX8_isGuilds_0 rfl 0 rfl ?_
  refine rl_i2l hG dX8_isGuilds_1 ?_
  refine rl_lconst hG (v := 0) dX8_isGuilds_2 (by decide) ?_
  refine rl_ldc2 hG (v := 63) dX8_isGuilds_3 nX8_isGuilds_0 ?_
  obtain ⟨x1, hx1q, zx1, h⟩ := oz_ok h
  refine rl_callZi hG (As := [.long p0.toInt64, .long (0 : Int64), .long (63 : Int64)]) (kX8_in l D u p0.toInt64 (0 : Int64) (63 : Int64) x1 hx1q) gX8_isGuilds_X8_in rfl 3 rfl (by decide +kernel) rfl rfl (by decide) (Nat.le_of_ble_eq_true rfl) rfl dX8_isGuilds_6 ?_
  obtain ⟨hz, h⟩ := rb_ok h
  exact rl_ret1 hret h (na_z hz) dX8_isGuilds_9
