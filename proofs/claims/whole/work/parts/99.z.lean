def fX7_isOff   (p0 : Int32) (p1 : Int32) (p2 : Int32) : Option (Int32) := (if p0 < p1 then some (1 : Int32) else (if p0 ≤ p2 then some (0 : Int32) else some (1 : Int32)))
set_option maxRecDepth 100000 in
set_option maxHeartbeats 4000000 in
theorem kX7_isOff (l : Launch) (D : va_G) (u : St)  (p0 : Int32) (p1 : Int32) (p2 : Int32) (r : Int32)  (h0 : fX7_isOff p0 p1 p2 = some r) : rl_Mi l yX7_isOff wsX7_isOff ({ frames := 0, cells := 0, slots := 0, locals := 0 } : Room) D [] (fun _ => ([] : va_W)) (fun _ _ _ => True) (fun _ => False) [.int p0, .int p1, .int p2] u r u := by
  refine rl_meth_i (cc := cX7_isOff) (maxL := 3) (own := RX7) (ty := .boolean) (by decide) rfl rfl (Nat.le_of_ble_eq_true rfl) ?_
  intro G hG hret
  have h := h0
  rw [fX7_isOff] at h
  show G u 0 [(0, .int p0), (1, .int p1), (2, .int p2)] []
  refine rl_iload_n hG dX7_isOff_0 rfl 0 rfl ?_
  refine rl_iload_n hG dX7_isOff_1 rfl 1 rfl ?_
  refine rl_icmp_lt hG (tgt := 10) dX7_isOff_2 (by decide) (fun c1 => ?_) (fun c1 => ?_)
  · have h := it_t h c1
    refine rl_iconst hG (v := 1) dX7_isOff_10 (by decide) ?_
    refine rl_goto hG (tgt := 15) dX7_isOff_11 (by decide) ?_
    exact rl_ret1 hret h rfl dX7_isOff_15
  · have h := it_f h c1
    refine rl_iload_n hG dX7_isOff_5 rfl 0 rfl ?_
    refine rl_iload_n hG dX7_isOff_6 rfl 2 rfl ?_
    refine rl_icmp_le hG (tgt := 14) dX7_isOff_7 (by decide) (fun c2 => ?_) (fun c2 => ?_)
    · have h := it_t h c2
      refine rl_iconst hG (v := 0) dX7_isOff_14 (by decide) ?_
      exact rl_ret1 hret h rfl dX7_isOff_15
    · have h := it_f h c2
      refine rl_iconst hG (v := 1) dX7_isOff_10 (by decide) ?_
      refine rl_goto hG (tgt := 15) dX7_isOff_11 (by decide) ?_
      exact rl_ret1 hret h rfl dX7_isOff_15
def fX8_in   (p0 : Int64) (p2 : Int64) (p4 : Int64) : Option (Int32) := (if (lg_cmp p0 p2) < (0 : Int32) then some (0 : Int32) else (if (0 : Int32) < (lg_cmp p0 p4) then some (0 : Int32) else some (1 : Int32)))
set_option maxRecDepth 100000 in
set_option maxHeartbeats 4000000 in
theorem kX8_in (l : Launch) (D : va_G) (u : St)  (p0 : Int64) (p2 : Int64) (p4 : Int64) (r : Int32)  (h0 : fX8_in p0 p2 p4 = some r) : rl_Mi l yX8_in wsX8_in ({ frames := 0, cells := 0, slots := 0, locals := 0 } : Room) D [] (fun _ => ([] : va_W)) (fun _ _ _ => True) (fun _ => False) [.long p0, .long p2, .long p4] u r u := by
  refine rl_meth_i (cc := cX8_in) (maxL := 6) (own := RX8) (ty := .boolean) (by decide) rfl rfl (Nat.le_of_ble_eq_true rfl) ?_
  intro G hG hret
  have h := h0
  rw [fX8_in] at h
  show G u 0 [(0, .long p0), (2, .long p2), (4, .long p4)] []
  refine rl_lload_n hG dX8_in_0 rfl 0 rfl ?_
  refine rl_lload_n hG dX8_in_1 rfl 1 rfl ?_
  refine rl_lcmp hG dX8_in_2 ?_
  refine rl_if_lt hG (tgt := 17) dX8_in_3 (by decide) (fun c1 => ?_) (fun c1 => ?_)
  · have h := it_t h c1
    refine rl_iconst hG (v := 0) dX8_in_17 (by decide) ?_
    exact rl_ret1 hret h rfl dX8_in_18
  · have h := it_f h c1
    refine rl_lload_n hG dX8_in_6 rfl 0 rfl ?_
    refine rl_lload hG dX8_in_7 2 rfl ?_
    refine rl_lcmp hG dX8_in_9 ?_
    refine rl_if_gt hG (tgt := 17) dX8_in_10 (by decide) (fun c2 => ?_) (fun c2 => ?_)
    · have h := it_t h c2
      refine rl_iconst hG (v := 0) dX8_in_17 (by decide) ?_
      exact rl_ret1 hret h rfl dX8_in_18
    · have h := it_f h c2
      refine rl_iconst hG (v := 1) dX8_in_13 (by decide) ?_
      refine rl_goto hG (tgt := 18) dX8_in_14 (by decide) ?_
      exact rl_ret1 hret h rfl dX8_in_18
def fX8_isGuild   (p0 : Int32) : Option (Int32) := oz (fX8_in p0.toInt64 (0 : Int64) (5 : Int64)) (fun x1 => rb x1 (fun y => some y))
theorem nX8_isGuild_0 : Cond.constantLong RX8 55 (5) ∈ wsX8_isGuild := by decide +kernel
set_option maxRecDepth 100000 in
set_option maxHeartbeats 4000000 in
theorem kX8_isGuild (l : Launch) (D : va_G) (u : St)  (p0 : Int32) (r : Int32)  (h0 : fX8_isGuild p0 = some r) : rl_Mi l yX8_isGuild wsX8_isGuild ({ frames := 1, cells := 0, slots := 0, locals := 25 } : Room) D [] (fun _ => ([] : va_W)) (fun _ _ _ => True) (fun _ => False) [.int p0] u r u := by
  refine rl_meth_i (cc := cX8_isGuild) (maxL := 1) (own := RX8) (ty := .boolean) (by decide) rfl rfl (Nat.le_of_ble_eq_true rfl) ?_
  intro G hG hret
  have h := h0
  rw [fX8_isGuild] at h
  show G u 0 [(0, .int p0)] []
  refine rl_iload_n hG dX8_isGuild_0 rfl 0 rfl ?_
  refine rl_i2l hG dX8_isGuild_1 ?_
  refine rl_lconst hG (v := 0) dX8_isGuild_2 (by decide) ?_
  refine rl_ldc2 hG (v := 5) dX8_isGuild_3 nX8_isGuild_0 ?_
  obtain ⟨x1, hx1q, zx1, h⟩ := oz_ok h
  refine rl_callZi hG (As := [.long p0.toInt64, .long (0 : Int64), .long (5 : Int64)]) (kX8_in l D u p0.toInt64 (0 : Int64) (5 : Int64) x1 hx1q) gX8_isGuild_X8_in rfl (by decide +kernel) rfl rfl (by decide) (by decide) rfl dX8_isGuild_6 ?_
  obtain ⟨hz, h⟩ := rb_ok h
  exact rl_ret1 hret h (na_z hz) dX8_isGuild_9
def fX8_many_L4   : Nat → Int32 → Int32 → Int32 → Option (Int32)
  | 0 => fun _ _ _ => none
  | n + 1 => fun v0 v1 v2 => (if (20 : Int32) ≤ v2 then some v1 else bd (v1 + ((v0 >>> (v2 &&& 31)) &&& (1 : Int32))) (fun x2 => bd (v2 + (1 : Int32)) (fun x3 => fX8_many_L4 n v0 x2 x3)))
def fX8_many   (p0 : Int32) : Option (Int32) := fX8_many_L4 2000 p0 (0 : Int32) (0 : Int32)
set_option maxRecDepth 100000 in
set_option maxHeartbeats 4000000 in
theorem kX8_many (l : Launch) (D : va_G) (u : St)  (p0 : Int32) (r : Int32)  (h0 : fX8_many p0 = some r) : rl_Mi l yX8_many wsX8_many ({ frames := 0, cells := 0, slots := 0, locals := 0 } : Room) D [] (fun _ => ([] : va_W)) (fun _ _ _ => True) (fun _ => False) [.int p0] u r u := by
  refine rl_meth_i (cc := cX8_many) (maxL := 3) (own := RX8) (ty := .int) (by decide) rfl rfl (Nat.le_of_ble_eq_true rfl) ?_
  intro G hG hret
  have H4 : ∀ (n : Nat) (v0 : Int32) (v1 : Int32) (v2 : Int32), fX8_many_L4 n v0 v1 v2 = some r → G u 4 [(0, .int v0), (1, .int v1), (2, .int v2)] [] := by
    intro n
    induction n with
    | zero =>
      intro v0 v1 v2 h
      exact absurd h (by rw [fX8_many_L4]; exact fun q => by cases q)
    | succ n ih =>
      intro v0 v1 v2 h
      rw [fX8_many_L4] at h
      refine rl_iload_n hG dX8_many_4 rfl 2 rfl ?_
      refine rl_bipush hG (v := 20) dX8_many_5 (by decide) ?_
      refine rl_icmp_ge hG (tgt := 24) dX8_many_7 (by decide) (fun c1 => ?_) (fun c1 => ?_)
      · have h := it_t h c1
        refine rl_iload_n hG dX8_many_24 rfl 1 rfl ?_
        exact rl_ret1 hret h rfl dX8_many_25
      · have h := it_f h c1
        refine rl_iload_n hG dX8_many_10 rfl 1 rfl ?_
        refine rl_iload_n hG dX8_many_11 rfl 0 rfl ?_
        refine rl_iload_n hG dX8_many_12 rfl 2 rfl ?_
        refine rl_ishr hG dX8_many_13 ?_
        refine rl_iconst hG (v := 1) dX8_many_14 (by decide) ?_
        refine rl_iand hG dX8_many_15 ?_
        refine rl_iadd hG dX8_many_16 ?_
        obtain ⟨x2, ex2, h⟩ := bd_ok h
        refine rl_istore_n hG [(1, .int x2), (0, .int v0), (2, .int v2)] dX8_many_17 rfl (Nat.le_of_ble_eq_true rfl) ex2 rfl ?_
        obtain ⟨x3, ex3, h⟩ := bd_ok h
        refine rl_iinc hG [(2, .int x3), (1, .int x2), (0, .int v0)] dX8_many_18 2 rfl (by rw [ex3]; rfl) (Nat.le_of_ble_eq_true rfl) rfl ?_
        refine rl_goto hG (tgt := 4) dX8_many_21 (by decide) ?_
        exact rl_lvs hG [2, 1, 0] rfl (ih v0 x2 x3 h)
  have h := h0
  rw [fX8_many] at h
  show G u 0 [(0, .int p0)] []
  refine rl_iconst hG (v := 0) dX8_many_0 (by decide) ?_
  refine rl_istore_n hG [(1, .int (0 : Int32)), (0, .int p0)] dX8_many_1 rfl (Nat.le_of_ble_eq_true rfl) rfl rfl ?_
  refine rl_iconst hG (v := 0) dX8_many_2 (by decide) ?_
  refine rl_istore_n hG [(2, .int (0 : Int32)), (1, .int (0 : Int32)), (0, .int p0)] dX8_many_3 rfl (Nat.le_of_ble_eq_true rfl) rfl rfl ?_
  exact rl_lvs hG [2, 1, 0] rfl (H4 2000 p0 (0 : Int32) (0 : Int32) h)
def fX8_sort_L16   (v0 : Int32) : Option (Int32) := (if v0 < (48 : Int32) then some (0 : Int32) else (if (57 : Int32) < v0 then some (0 : Int32) else some (2 : Int32)))
def fX8_sort   (p0 : Int32) : Option (Int32) := (if p0 < (97 : Int32) then fX8_sort_L16 p0 else (if (122 : Int32) < p0 then fX8_sort_L16 p0 else some (1 : Int32)))
set_option maxRecDepth 100000 in
set_option maxHeartbeats 4000000 in
theorem kX8_sort (l : Launch) (D : va_G) (u : St)  (p0 : Int32) (r : Int32)  (h0 : fX8_sort p0 = some r) : rl_Mi l yX8_sort wsX8_sort ({ frames := 0, cells := 0, slots := 0, locals := 0 } : Room) D [] (fun _ => ([] : va_W)) (fun _ _ _ => True) (fun _ => False) [.int p0] u r u := by
  refine rl_meth_i (cc := cX8_sort) (maxL := 1) (own := RX8) (ty := .int) (by decide) rfl rfl (Nat.le_of_ble_eq_true rfl) ?_
  intro G hG hret
  have H16 : ∀ (v0 : Int32), fX8_sort_L16 v0 = some r → G u 16 [(0, .int v0)] [] := by
    intro  v0 h
    rw [fX8_sort_L16] at h
    refine rl_iload_n hG dX8_sort_16 rfl 0 rfl ?_
    refine rl_bipush hG (v := 48) dX8_sort_17 (by decide) ?_
    refine rl_icmp_lt hG (tgt := 32) dX8_sort_19 (by decide) (fun c1 => ?_) (fun c1 => ?_)
    · have h := it_t h c1
      refine rl_iconst hG (v := 0) dX8_sort_32 (by decide) ?_
      exact rl_ret1 hret h rfl dX8_sort_33
    · have h := it_f h c1
      refine rl_iload_n hG dX8_sort_22 rfl 0 rfl ?_
      refine rl_bipush hG (v := 57) dX8_sort_23 (by decide) ?_
      refine rl_icmp_gt hG (tgt := 32) dX8_sort_25 (by decide) (fun c2 => ?_) (fun c2 => ?_)
      · have h := it_t h c2
        refine rl_iconst hG (v := 0) dX8_sort_32 (by decide) ?_
        exact rl_ret1 hret h rfl dX8_sort_33
      · have h := it_f h c2
        refine rl_iconst hG (v := 2) dX8_sort_28 (by decide) ?_
        refine rl_goto hG (tgt := 33) dX8_sort_29 (by decide) ?_
        exact rl_ret1 hret h rfl dX8_sort_33
  have h := h0
  rw [fX8_sort] at h
  show G u 0 [(0, .int p0)] []
  refine rl_iload_n hG dX8_sort_0 rfl 0 rfl ?_
  refine rl_bipush hG (v := 97) dX8_sort_1 (by decide) ?_
  refine rl_icmp_lt hG (tgt := 16) dX8_sort_3 (by decide) (fun c3 => ?_) (fun c3 => ?_)
  · have h := it_t h c3
    exact rl_lvs hG [0] rfl (H16 p0 h)
  · have h := it_f h c3
    refine rl_iload_n hG dX8_sort_6 rfl 0 rfl ?_
    refine rl_bipush hG (v := 122) dX8_sort_7 (by decide) ?_
    refine rl_icmp_gt hG (tgt := 16) dX8_sort_9 (by decide) (fun c4 => ?_) (fun c4 => ?_)
    · have h := it_t h c4
      exact rl_lvs hG [0] rfl (H16 p0 h)
    · have h := it_f h c4
      refine rl_iconst hG (v := 1) dX8_sort_12 (by decide) ?_
      refine rl_goto hG (tgt := 33) dX8_sort_13 (by decide) ?_
      exact rl_ret1 hret h rfl dX8_sort_33
def fX8_price (u : St)  (p1 : Int32) (p2 : Int32) (p3 : Int32) : Option (Int32 × St) := oz (fX8_isGuild p1) (fun x1 => (if x1 = (0 : Int32) then some ((-2 : Int32), u) else oz (fX8_in p2.toInt64 (0 : Int64) (5 : Int64)) (fun x3 => (if x3 = (0 : Int32) then some ((-3 : Int32), u) else oz (fX8_in p3.toInt64 (0 : Int64) (99 : Int64)) (fun x5 => (if x5 = (0 : Int32) then some ((-3 : Int32), u) else ald u 7 36 (((6 : Int32) * p1) + p2) (fun x7 => asr u 7 36 (((6 : Int32) * p1) + p2) p3 (fun u8 => some (x7, u8)))))))))
theorem nX8_price_0 : Cond.constantLong RX8 55 (5) ∈ wsX8_price := by decide +kernel
theorem nX8_price_1 : Cond.constantLong RX8 168 (99) ∈ wsX8_price := by decide +kernel
theorem nX8_price_2 : Cond.fieldLink RX8 28 "WhoseWorkModel" "prices" "[I" ∈ wsX8_price := by decide +kernel
theorem iX8_price_X8 : ∀ w ∈ wsX80, w ∈ wsX8_price := by decide +kernel
set_option maxRecDepth 100000 in
set_option maxHeartbeats 4000000 in
theorem kX8_price (l : Launch) (D : va_G) (a : Nat → Nat) (cI : ClassId) (aS : Nat → Prop) (u : St)  (p1 : Int32) (p2 : Int32) (p3 : Int32) (r : Int32) (τ : St)  (h0 : fX8_price u p1 p2 p3 = some (r, τ)) : rl_Mi l yX8_price wsX8_price ({ frames := 2, cells := 0, slots := 0, locals := 45 } : Room) D (tyM cI) (wM a cI) ro_0 aS [.ref (a 0), .int p1, .int p2, .int p3] u r τ := by
  refine rl_meth_i (cc := cX8_price) (maxL := 5) (own := RX8) (ty := .int) (by decide) rfl rfl (Nat.le_of_ble_eq_true rfl) ?_
  intro G hG hret
  have h := h0
  rw [fX8_price] at h
  show G u 0 [(0, .ref (a 0)), (1, .int p1), (2, .int p2), (3, .int p3)] []
  refine rl_iload_n hG dX8_price_0 rfl 1 rfl ?_
  obtain ⟨x1, hx1q, zx1, h⟩ := oz_ok h
  refine rl_callZi hG (As := [.int p1]) (kX8_isGuild l D u p1 x1 hx1q) gX8_price_X8_isGuild rfl (by decide +kernel) rfl rfl (by decide) (by decide) rfl dX8_price_1 ?_
  refine rl_if_ne hG (tgt := 10) dX8_price_4 (by decide) (fun c2 => ?_) (fun c2 => ?_)
  · have h := it_f h c2
    refine rl_iload_n hG dX8_price_10 rfl 2 rfl ?_
    refine rl_i2l hG dX8_price_11 ?_
    refine rl_lconst hG (v := 0) dX8_price_12 (by decide) ?_
    refine rl_ldc2 hG (v := 5) dX8_price_13 nX8_price_0 ?_
    obtain ⟨x3, hx3q, zx3, h⟩ := oz_ok h
    refine rl_callZi hG (As := [.long p2.toInt64, .long (0 : Int64), .long (5 : Int64)]) (kX8_in l D u p2.toInt64 (0 : Int64) (5 : Int64) x3 hx3q) gX8_price_X8_in rfl (by decide +kernel) rfl rfl (by decide) (by decide) rfl dX8_price_16 ?_
    refine rl_if_eq hG (tgt := 34) dX8_price_19 (by decide) (fun c4 => ?_) (fun c4 => ?_)
    · have h := it_t h c4
      refine rl_bipush hG (v := -3) dX8_price_34 (by decide) ?_
      exact rl_ret2 hret h rfl dX8_price_36
    · have h := it_f h c4
      refine rl_iload_n hG dX8_price_22 rfl 3 rfl ?_
      refine rl_i2l hG dX8_price_23 ?_
      refine rl_lconst hG (v := 0) dX8_price_24 (by decide) ?_
      refine rl_ldc2 hG (v := 99) dX8_price_25 nX8_price_1 ?_
      obtain ⟨x5, hx5q, zx5, h⟩ := oz_ok h
      refine rl_callZi hG (As := [.long p3.toInt64, .long (0 : Int64), .long (99 : Int64)]) (kX8_in l D u p3.toInt64 (0 : Int64) (99 : Int64) x5 hx5q) gX8_price_X8_in rfl (by decide +kernel) rfl rfl (by decide) (by decide) rfl dX8_price_28 ?_
      refine rl_if_ne hG (tgt := 37) dX8_price_31 (by decide) (fun c6 => ?_) (fun c6 => ?_)
      · have h := it_f h c6
        refine rl_aload_n hG dX8_price_37 rfl 0 rfl ?_
        refine rl_get hG iX8_price_X8 0 (gM_0 a cI u) hcX8 9 (Nat.le_of_ble_eq_true rfl) nX8_price_2 rfl dX8_price_38 ?_
        refine rl_bipush hG (v := 6) dX8_price_41 (by decide) ?_
        refine rl_iload_n hG dX8_price_43 rfl 1 rfl ?_
        refine rl_imul hG dX8_price_44 ?_
        refine rl_iload_n hG dX8_price_45 rfl 2 rfl ?_
        refine rl_iadd hG dX8_price_46 ?_
        obtain ⟨x7, ix7, ex7, h⟩ := ald_ok h
        refine rl_iald hG 7 0 (gM_7 a cI u) rfl ix7 ex7 dX8_price_47 ?_
        refine rl_istore hG [(4, .int x7), (0, .ref (a 0)), (1, .int p1), (2, .int p2), (3, .int p3)] dX8_price_48 (Nat.le_of_ble_eq_true rfl) rfl rfl ?_
        refine rl_aload_n hG dX8_price_50 rfl 1 rfl ?_
        refine rl_get hG iX8_price_X8 0 (gM_0 a cI u) hcX8 9 (Nat.le_of_ble_eq_true rfl) nX8_price_2 rfl dX8_price_51 ?_
        refine rl_bipush hG (v := 6) dX8_price_54 (by decide) ?_
        refine rl_iload_n hG dX8_price_56 rfl 2 rfl ?_
        refine rl_imul hG dX8_price_57 ?_
        refine rl_iload_n hG dX8_price_58 rfl 3 rfl ?_
        refine rl_iadd hG dX8_price_59 ?_
        refine rl_iload_n hG dX8_price_60 rfl 4 rfl ?_
        obtain ⟨u8, iu8, eu8, h⟩ := asr_ok h
        refine rl_iast hG 7 0 (gM_7 a cI u) rfl iu8 (σ' := u8) ((sM_7 a cI u _).trans (congrArg _ eu8.symm)) dX8_price_61 ?_
        refine rl_iload hG dX8_price_62 0 rfl ?_
        exact rl_ret2 hret h rfl dX8_price_64
      · have h := it_t h c6
        refine rl_bipush hG (v := -3) dX8_price_34 (by decide) ?_
        exact rl_ret2 hret h rfl dX8_price_36
  · have h := it_t h c2
    refine rl_bipush hG (v := -2) dX8_price_7 (by decide) ?_
    exact rl_ret2 hret h rfl dX8_price_9
