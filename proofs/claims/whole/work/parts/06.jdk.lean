/-! ===== the JDK's own methods that the class reaches over its constants ===== -/
theorem byt_ok : ∀ i, i < 11 → ∀ k, k < lenS.getD i 0 → (((bytS.getD i []).getD k 0 &&& 255).toUInt32 % 65536).toInt32 = (bytS.getD i []).getD k 0 := by decide +kernel
theorem byt_na : ∀ i, i < 11 → ∀ k, k < lenS.getD i 0 → narrow .char (.int ((bytS.getD i []).getD k 0)) = .int ((bytS.getD i []).getD k 0) := by decide +kernel
theorem len_lt : ∀ i, i < 11 → lenS.getD i 0 < 100 := by decide +kernel
theorem recvX (xx : Rx) {sx : Nat} (hsx : sx < 11) : ∀ (A : Nat → Prop) (U : State) (H : Heap) (locs : List Loc), roX xx A U U.heap → va_S A U.heap H locs → ∃ cell : Cell, H[xx.1 sx]? = some cell ∧ cell.vm.isStatics = false ∧ U.vm.findClass "java/lang/String" = some cell.cls := fun _ _ _ _ h hS => vk_recv h.1 hsx hS
theorem nJ0c_0 : Cond.fieldLink RJ0 38 "java/lang/String" "COMPACT_STRINGS" "Z" ∈ wsJ0_coder_7d493 := by decide +kernel
theorem nJ0c_1 : Cond.fieldLink RJ0 15 "java/lang/String" "coder" "B" ∈ wsJ0_coder_7d493 := by decide +kernel
theorem kJ0_coder (l : Launch) (D : va_G) (a : Nat → Nat) (cI cT : ClassId) (aS : Nat → Prop) (xx : Rx) (u : St) (sx : Nat) (hsx : sx < 11) : rl_Mi l yJ0_coder_7d493 wsJ0_coder_7d493 ({ frames := 0, cells := 0, slots := 0, locals := 0 } : Room) D (tyX cI cT) (wX a cI cT) (roX xx) aS [.ref (xx.1 sx)] u 0 u := by
  refine rl_meth_i (cc := cJ0_coder_7d493) (maxL := 1) (own := RJ0) (ty := .byte) (by decide) rfl rfl (Nat.le_of_ble_eq_true rfl) ?_
  intro G hG hret
  show G u 0 [(0, .ref (xx.1 sx))] []
  refine rl_gets hG (fun A U H h => h.2.2.1) nJ0c_0 dJ0_coder_7d493_0 ?_
  refine rl_if_eq hG (tgt := 13) dJ0_coder_7d493_3 (by decide) (fun c => absurd c (by decide)) (fun c => ?_)
  refine rl_aload_n hG dJ0_coder_7d493_6 rfl 0 rfl ?_
  refine rl_ofget hG (fun A U H h => (h.1.1 sx hsx).2.1) nJ0c_1 dJ0_coder_7d493_7 ?_
  refine rl_goto hG (tgt := 14) dJ0_coder_7d493_10 (by decide) ?_
  exact hret _ _ rfl dJ0_coder_7d493_14
theorem nJ0l_0 : Cond.fieldLink RJ0 38 "java/lang/String" "COMPACT_STRINGS" "Z" ∈ wsJ0_isLatin1_aae02 := by decide +kernel
theorem nJ0l_1 : Cond.fieldLink RJ0 15 "java/lang/String" "coder" "B" ∈ wsJ0_isLatin1_aae02 := by decide +kernel
theorem kJ0_isLatin1 (l : Launch) (D : va_G) (a : Nat → Nat) (cI cT : ClassId) (aS : Nat → Prop) (xx : Rx) (u : St) (sx : Nat) (hsx : sx < 11) : rl_Mi l yJ0_isLatin1_aae02 wsJ0_isLatin1_aae02 ({ frames := 0, cells := 0, slots := 0, locals := 0 } : Room) D (tyX cI cT) (wX a cI cT) (roX xx) aS [.ref (xx.1 sx)] u 1 u := by
  refine rl_meth_i (cc := cJ0_isLatin1_aae02) (maxL := 1) (own := RJ0) (ty := .boolean) (by decide) rfl rfl (Nat.le_of_ble_eq_true rfl) ?_
  intro G hG hret
  show G u 0 [(0, .ref (xx.1 sx))] []
  refine rl_gets hG (fun A U H h => h.2.2.1) nJ0l_0 dJ0_isLatin1_aae02_0 ?_
  refine rl_if_eq hG (tgt := 17) dJ0_isLatin1_aae02_3 (by decide) (fun c => absurd c (by decide)) (fun c => ?_)
  refine rl_aload_n hG dJ0_isLatin1_aae02_6 rfl 0 rfl ?_
  refine rl_ofget hG (fun A U H h => (h.1.1 sx hsx).2.1) nJ0l_1 dJ0_isLatin1_aae02_7 ?_
  refine rl_if_ne hG (tgt := 17) dJ0_isLatin1_aae02_10 (by decide) (fun c => absurd rfl c) (fun c => ?_)
  refine rl_iconst hG (v := 1) dJ0_isLatin1_aae02_13 (by decide) ?_
  refine rl_goto hG (tgt := 18) dJ0_isLatin1_aae02_14 (by decide) ?_
  exact hret _ _ rfl dJ0_isLatin1_aae02_18
theorem nJ0n_0 : Cond.fieldLink RJ0 9 "java/lang/String" "value" "[B" ∈ wsJ0_length_8abf5 := by decide +kernel
theorem kJ0_length_8abf5 (l : Launch) (D : va_G) (a : Nat → Nat) (cI cT : ClassId) (aS : Nat → Prop) (xx : Rx) (u : St) (sx : Nat) (r : Int32) (hsx : sx < 11) (hr : r = nI (lenS.getD sx 0)) : rl_Mi l yJ0_length_8abf5 wsJ0_length_8abf5 ({ frames := 1, cells := 0, slots := 0, locals := 20 } : Room) D (tyX cI cT) (wX a cI cT) (roX xx) aS [.ref (xx.1 sx)] u r u := by
  refine rl_meth_i (cc := cJ0_length_8abf5) (maxL := 1) (own := RJ0) (ty := .int) (by decide) rfl rfl (Nat.le_of_ble_eq_true rfl) ?_
  intro G hG hret
  show G u 0 [(0, .ref (xx.1 sx))] []
  refine rl_aload_n hG dJ0_length_8abf5_0 rfl 0 rfl ?_
  refine rl_ofget hG (fun A U H h => (h.1.1 sx hsx).2.2.1) nJ0n_0 dJ0_length_8abf5_1 ?_
  refine rl_tlen hG (fun A U H h => (h.1.1 sx hsx).2.2.2) (v := r) hr.symm dJ0_length_8abf5_4 ?_
  refine rl_aload_n hG dJ0_length_8abf5_5 rfl 0 rfl ?_
  refine rl_callOi hG (roX_ok xx) (As := []) (kJ0_coder l D a cI cT aS xx u sx hsx) gJ0_length_8abf5_J0_coder_7d493 rfl (recvX xx hsx) 0 rfl (by decide +kernel) rfl rfl (by decide) (Nat.le_of_ble_eq_true rfl) rfl dJ0_length_8abf5_6 ?_
  refine rl_ishr hG dJ0_length_8abf5_9 ?_
  rw [sb_shr0]
  exact hret _ _ rfl dJ0_length_8abf5_10
theorem kJ3_checkIndex (l : Launch) (D : va_G) (a : Nat → Nat) (cI cT : ClassId) (aS : Nat → Prop) (xx : Rx) (u : St) (i n : Int32) (h1 : ¬ i < 0) (h2 : i < n) : rl_Mi l yJ3_checkIndex_8e157 wsJ3_checkIndex_8e157 ({ frames := 0, cells := 0, slots := 0, locals := 0 } : Room) D (tyX cI cT) (wX a cI cT) (roX xx) aS [.int i, .int n, va_rf xx.2.2.2] u i u := by
  have key : ∀ v : Value, v.category = 1 → lv_args 0 [.int i, .int n, v] = [(0, .int i), (1, .int n), (2, v)] := fun v hv => by simp [lv_args, Value.category]
  have hlg : ∀ v : Value, v.category = 1 → (lg_sl [.int i, .int n, v]).length ≤ 3 := fun v hv => by
    cases v <;> first | (cases hv; done) | exact Nat.le_of_ble_eq_true rfl
  have hv : (va_rf xx.2.2.2).category = 1 := by cases xx.2.2.2 <;> rfl
  refine rl_meth_i (cc := cJ3_checkIndex_8e157) (maxL := 3) (own := RJ3) (ty := .int) (by decide) rfl rfl (hlg _ hv) ?_
  intro G hG hret
  rw [key _ hv]
  refine rl_iload_n hG dJ3_checkIndex_8e157_0 rfl 0 rfl ?_
  refine rl_if_lt hG (tgt := 9) dJ3_checkIndex_8e157_1 (by decide) (fun c => absurd c h1) (fun c => ?_)
  refine rl_iload_n hG dJ3_checkIndex_8e157_4 rfl 0 rfl ?_
  refine rl_iload_n hG dJ3_checkIndex_8e157_5 rfl 1 rfl ?_
  refine rl_icmp_lt hG (tgt := 16) dJ3_checkIndex_8e157_6 (by decide) (fun c => ?_) (fun c => absurd h2 c)
  refine rl_iload_n hG dJ3_checkIndex_8e157_16 rfl 0 rfl ?_
  exact hret _ _ rfl dJ3_checkIndex_8e157_17
theorem nJ0k_0 : Cond.fieldLink RJ0 1053 "jdk/internal/util/Preconditions" "SIOOBE_FORMATTER" "Ljava/util/function/BiFunction;" ∈ wsJ0_checkIndex_df160 := by decide +kernel
theorem kJ0_checkIndex (l : Launch) (D : va_G) (a : Nat → Nat) (cI cT : ClassId) (aS : Nat → Prop) (xx : Rx) (u : St) (i n : Int32) (h1 : ¬ i < 0) (h2 : i < n) : rl_Mv l yJ0_checkIndex_df160 wsJ0_checkIndex_df160 ({ frames := 1, cells := 0, slots := 0, locals := 22 } : Room) D (tyX cI cT) (wX a cI cT) (roX xx) aS [.int i, .int n] u u := by
  refine rl_meth_v (cc := cJ0_checkIndex_df160) (maxL := 2) (own := RJ0) (by decide) rfl rfl (Nat.le_of_ble_eq_true rfl) ?_
  intro G hG hret
  show G u 0 [(0, .int i), (1, .int n)] []
  refine rl_iload_n hG dJ0_checkIndex_df160_0 rfl 0 rfl ?_
  refine rl_iload_n hG dJ0_checkIndex_df160_1 rfl 1 rfl ?_
  refine rl_gets hG (fun A U H h => h.2.2.2.1) nJ0k_0 dJ0_checkIndex_df160_2 ?_
  refine rl_callSi hG (roX_ok xx) (As := [.int i, .int n, va_rf xx.2.2.2]) (kJ3_checkIndex l D a cI cT aS xx u i n h1 h2) gJ0_checkIndex_df160_J3_checkIndex_8e157 rfl 3 rfl (by decide +kernel) rfl rfl (by decide) (Nat.le_of_ble_eq_true rfl) rfl dJ0_checkIndex_df160_5 ?_
  refine rl_pop hG dJ0_checkIndex_df160_8 rfl ?_
  exact hret _ _ dJ0_checkIndex_df160_9
theorem kJ1_charAt (l : Launch) (D : va_G) (a : Nat → Nat) (cI cT : ClassId) (aS : Nat → Prop) (xx : Rx) (u : St) (sx : Nat) (j r : Int32) (hsx : sx < 11) (hj : vp_in j (lenS.getD sx 0)) (hr : r = (bytS.getD sx []).getD j.toNatClampNeg 0) : rl_Mi l yJ1_charAt_3b067 wsJ1_charAt_3b067 ({ frames := 2, cells := 0, slots := 0, locals := 43 } : Room) D (tyX cI cT) (wX a cI cT) (roX xx) aS [.ref (xx.2.1 sx), .int j] u r u := by
  have hlt : j.toNatClampNeg < lenS.getD sx 0 := Nat.not_le.mp fun q => hj (Or.inr q)
  have h1 : ¬ j < 0 := fun q => hj (Or.inl q)
  have hL := len_lt sx hsx
  have h2 : j < nI (lenS.getD sx 0) := by
    obtain ⟨k, hk, rfl⟩ := nI_of h1
    rw [nI_clamp hk] at hlt
    exact nI_lt hlt (by omega)
  refine rl_meth_i (cc := cJ1_charAt_3b067) (maxL := 2) (own := RJ1) (ty := .char) (by decide) rfl rfl (Nat.le_of_ble_eq_true rfl) ?_
  intro G hG hret
  show G u 0 [(0, .ref (xx.2.1 sx)), (1, .int j)] []
  refine rl_iload_n hG dJ1_charAt_3b067_0 rfl 1 rfl ?_
  refine rl_aload_n hG dJ1_charAt_3b067_1 rfl 0 rfl ?_
  refine rl_tlen hG (fun A U H h => (h.1.1 sx hsx).2.2.2) (v := nI (lenS.getD sx 0)) rfl dJ1_charAt_3b067_2 ?_
  refine rl_callSv hG (roX_ok xx) (As := [.int j, .int (nI (lenS.getD sx 0))]) (kJ0_checkIndex l D a cI cT aS xx u j _ h1 h2) gJ1_charAt_3b067_J0_checkIndex_df160 rfl 2 rfl (by decide +kernel) rfl rfl (by decide) (Nat.le_of_ble_eq_true rfl) rfl dJ1_charAt_3b067_3 ?_
  refine rl_aload_n hG dJ1_charAt_3b067_6 rfl 0 rfl ?_
  refine rl_iload_n hG dJ1_charAt_3b067_7 rfl 1 rfl ?_
  refine rl_tb hG (fun A U H h => (h.1.1 sx hsx).2.2.2) hj (v := .int ((bytS.getD sx []).getD j.toNatClampNeg 0)) rfl dJ1_charAt_3b067_8 ?_
  refine rl_sipush hG (v := 255) dJ1_charAt_3b067_9 (by decide) ?_
  refine rl_iand hG dJ1_charAt_3b067_12 ?_
  refine rl_i2c hG dJ1_charAt_3b067_13 ?_
  rw [byt_ok sx hsx _ hlt, ← hr]
  exact hret _ _ (by rw [hr]; exact byt_na sx hsx _ hlt) dJ1_charAt_3b067_14
theorem nJ0a_0 : Cond.fieldLink RJ0 9 "java/lang/String" "value" "[B" ∈ wsJ0_charAt_5068e := by decide +kernel
theorem kJ0_charAt_5068e (l : Launch) (D : va_G) (a : Nat → Nat) (cI cT : ClassId) (aS : Nat → Prop) (xx : Rx) (u : St) (sx : Nat) (j r : Int32) (hsx : sx < 11) (hj : vp_in j (lenS.getD sx 0)) (hr : r = (bytS.getD sx []).getD j.toNatClampNeg 0) : rl_Mi l yJ0_charAt_5068e wsJ0_charAt_5068e ({ frames := 3, cells := 0, slots := 0, locals := 64 } : Room) D (tyX cI cT) (wX a cI cT) (roX xx) aS [.ref (xx.1 sx), .int j] u r u := by
  have hlt : j.toNatClampNeg < lenS.getD sx 0 := Nat.not_le.mp fun q => hj (Or.inr q)
  refine rl_meth_i (cc := cJ0_charAt_5068e) (maxL := 2) (own := RJ0) (ty := .char) (by decide) rfl rfl (Nat.le_of_ble_eq_true rfl) ?_
  intro G hG hret
  show G u 0 [(0, .ref (xx.1 sx)), (1, .int j)] []
  refine rl_aload_n hG dJ0_charAt_5068e_0 rfl 0 rfl ?_
  refine rl_callOi hG (roX_ok xx) (As := []) (kJ0_isLatin1 l D a cI cT aS xx u sx hsx) gJ0_charAt_5068e_J0_isLatin1_aae02 rfl (recvX xx hsx) 0 rfl (by decide +kernel) rfl rfl (by decide) (Nat.le_of_ble_eq_true rfl) rfl dJ0_charAt_5068e_1 ?_
  refine rl_if_eq hG (tgt := 16) dJ0_charAt_5068e_4 (by decide) (fun c => absurd c (by decide)) (fun c => ?_)
  refine rl_aload_n hG dJ0_charAt_5068e_7 rfl 0 rfl ?_
  refine rl_ofget hG (fun A U H h => (h.1.1 sx hsx).2.2.1) nJ0a_0 dJ0_charAt_5068e_8 ?_
  refine rl_iload_n hG dJ0_charAt_5068e_11 rfl 1 rfl ?_
  refine rl_callSi hG (roX_ok xx) (As := [.ref (xx.2.1 sx), .int j]) (kJ1_charAt l D a cI cT aS xx u sx j r hsx hj hr) gJ0_charAt_5068e_J1_charAt_3b067 rfl 2 rfl (by decide +kernel) rfl rfl (by decide) (Nat.le_of_ble_eq_true rfl) rfl dJ0_charAt_5068e_12 ?_
  exact hret _ _ (by rw [hr]; exact byt_na sx hsx _ hlt) dJ0_charAt_5068e_15
/-- Arrays.fill over an array of the world -/
def fl (u : St) (q n : Nat) (v : Int32) : Nat → Int32 := fun j => if j < n then v else u q j
theorem kJ7_fill_53178 (l : Launch) (D : va_G) (tys : List (ClassId × FieldType)) (wl : St → va_W) (ro : rl_O) (aS : Nat → Prop) (cI : ClassId) (b : Nat) (u : St) (q nn : Nat) (v : Int32) (τ : St) (ht : tys[0]? = some (cI, .int)) (hq : ∀ w : St, (wl w)[q]? = some (b, .inl (cI, nn, .inl (w q)))) (hqs : ∀ (w : St) (f : Nat → Int32), (wl w).set q (b, .inl (cI, nn, .inl f)) = wl (st_up w q f)) (hn : nn < 2 ^ 31) (hτ : τ = st_up u q (fl u q nn v)) : rl_Mv l yJ7_fill_53178 wsJ7_fill_53178 ({ frames := 0, cells := 0, slots := 0, locals := 0 } : Room) D tys wl ro aS [.ref b, .int v] u τ := by
  refine rl_meth_v (cc := cJ7_fill_53178) (maxL := 4) (own := RJ7) (by decide) rfl rfl (Nat.le_of_ble_eq_true rfl) ?_
  intro G hG hret
  have hloop : ∀ (n i : Nat) (w : St), i ≤ nn → nn + 1 ≤ i + n → w = st_up u q (fl u q i v) → G w 5 [(0, .ref b), (1, .int v), (2, .int (nI i)), (3, .int (nI nn))] [] := by
    intro n
    induction n with
    | zero => intro i w h1 h2; omega
    | succ n ih =>
      intro i w h1 h2 hw
      refine rl_iload_n hG dJ7_fill_53178_5 rfl 2 rfl ?_
      refine rl_iload_n hG dJ7_fill_53178_6 rfl 3 rfl ?_
      refine rl_icmp_ge hG (tgt := 20) dJ7_fill_53178_7 (by decide) (fun c => ?_) (fun c => ?_)
      · have hi : i = nn := by
          rcases Nat.lt_or_ge i nn with h | h
          · exact absurd c (nI_ge h hn)
          · omega
        subst hi
        have e : w = τ := by rw [hw, hτ]
        rw [e]
        exact hret _ _ dJ7_fill_53178_20
      · have hi : i < nn := by
          rcases Nat.lt_or_ge i nn with h | h
          · exact h
          · exact absurd (nI_le h (by omega)) c
        refine rl_aload_n hG dJ7_fill_53178_10 rfl 0 rfl ?_
        refine rl_iload_n hG dJ7_fill_53178_11 rfl 2 rfl ?_
        refine rl_iload_n hG dJ7_fill_53178_12 rfl 1 rfl ?_
        refine rl_iast hG q 0 (hq w) ht (vp_in_nI hi hn) (σ' := st_up w q (upd (w q) (nI i).toNatClampNeg v)) (hqs w _) dJ7_fill_53178_13 ?_
        refine rl_iinc hG [(2, .int (nI (i + 1))), (0, .ref b), (1, .int v), (3, .int (nI nn))] dJ7_fill_53178_14 2 rfl (nI_1 i) (Nat.le_of_ble_eq_true rfl) rfl ?_
        refine rl_goto hG (tgt := 5) dJ7_fill_53178_17 (by decide) ?_
        refine rl_lvs hG [1, 2, 0, 3] rfl (ih (i + 1) _ hi (by omega) ?_)
        rw [nI_clamp (by omega), hw]
        funext p
        unfold st_up
        by_cases hp : p = q
        · subst hp
          rw [if_pos rfl, if_pos rfl, if_pos rfl]
          funext j
          show (if j = i then v else fl u p i v j) = fl u p (i + 1) v j
          unfold fl
          by_cases hj : j = i
          · subst hj
            rw [if_pos rfl, if_pos (by omega)]
          · rw [if_neg hj]
            by_cases hj2 : j < i
            · rw [if_pos hj2, if_pos (by omega)]
            · rw [if_neg hj2, if_neg (by omega)]
        · rw [if_neg hp, if_neg hp, if_neg hp]
  show G u 0 [(0, .ref b), (1, .int v)] []
  refine rl_iconst hG (v := 0) dJ7_fill_53178_0 (by decide) ?_
  refine rl_istore_n hG [(2, .int (0 : Int32)), (0, .ref b), (1, .int v)] dJ7_fill_53178_1 rfl (Nat.le_of_ble_eq_true rfl) rfl rfl ?_
  refine rl_aload_n hG dJ7_fill_53178_2 rfl 1 rfl ?_
  refine rl_alen hG q 0 (hq u) ht (v := nI nn) rfl dJ7_fill_53178_3 ?_
  refine rl_istore_n hG [(3, .int (nI nn)), (2, .int (0 : Int32)), (0, .ref b), (1, .int v)] dJ7_fill_53178_4 rfl (Nat.le_of_ble_eq_true rfl) rfl rfl ?_
  refine rl_lvs hG [2, 3, 1, 0] rfl ?_
  have h0 := hloop (nn + 1) 0 u (Nat.zero_le _) (by omega) (by
    funext p
    unfold st_up
    by_cases hp : p = q
    · subst hp
      rw [if_pos rfl]
      funext j
      unfold fl
      rw [if_neg (Nat.not_lt_zero j)]
    · rw [if_neg hp])
  rw [nI_0] at h0
  exact h0
