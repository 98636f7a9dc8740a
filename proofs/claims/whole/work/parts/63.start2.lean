/-! ===== the law begins: both objects are made ===== -/
theorem dfX7 : ∀ i, i < 9 → defaultValue (tyX7 i) = vp_V [.null, .null, .null, .null, .null, .null, .null, .null, .int 0] i := by
  intro i hi
  rcases (show i = 0 ∨ i = 1 ∨ i = 2 ∨ i = 3 ∨ i = 4 ∨ i = 5 ∨ i = 6 ∨ i = 7 ∨ i = 8 by omega) with rfl | rfl | rfl | rfl | rfl | rfl | rfl | rfl | rfl <;> rfl
theorem dfX8 : ∀ i, i < 27 → defaultValue (tyX8 i) = vp_V [.null, .int 0, .null, .int 0, .null, .int 0, .null, .null, .null, .null, .null, .int 0, .null, .null, .null, .int 0, .null, .int 0, .int 0, .int 0, .int 0, .int 0, .int 0, .null, .null, .int 0, .null] i := by
  intro i hi
  rcases (show i = 0 ∨ i = 1 ∨ i = 2 ∨ i = 3 ∨ i = 4 ∨ i = 5 ∨ i = 6 ∨ i = 7 ∨ i = 8 ∨ i = 9 ∨ i = 10 ∨ i = 11 ∨ i = 12 ∨ i = 13 ∨ i = 14 ∨ i = 15 ∨ i = 16 ∨ i = 17 ∨ i = 18 ∨ i = 19 ∨ i = 20 ∨ i = 21 ∨ i = 22 ∨ i = 23 ∨ i = 24 ∨ i = 25 ∨ i = 26 by omega) with rfl | rfl | rfl | rfl | rfl | rfl | rfl | rfl | rfl | rfl | rfl | rfl | rfl | rfl | rfl | rfl | rfl | rfl | rfl | rfl | rfl | rfl | rfl | rfl | rfl | rfl | rfl <;> rfl
theorem int_arr {s : State} {args : Array Value} (h : (Cond.arrayClass .int).before args s = true) : ∃ cI : ClassId, ArrOfT s cI .int ∧ va_RA s cI .int := by
  obtain ⟨c, k, comp, h1, h2, h3⟩ := Cond.arrayClass_spec h
  exact ⟨c, fun n z => ⟨fun k h => (by cases h), k, h2, comp, h3⟩, h1⟩
set_option maxRecDepth 100000 in
set_option maxHeartbeats 4000000 in
theorem law_known {s : State} {args : Array Value} (hts : ∀ w ∈ wsL_law, w.before args s = true) : ∃ D : va_G, ∀ (k : Nat) (q : vw_C), vwCl[k]? = some q → u_Kn s q.1 q.2.1 q.2.2 (D.1 k) (D.2 k) := by
  obtain ⟨c0, i0, h0⟩ := u_known (C := RX0) (T := TX0) (N := 7) (n := 7) hts (by decide +kernel) (hts (.instantiable RX0 7) (by decide +kernel))
  obtain ⟨c1, i1, h1⟩ := u_known (C := RX1) (T := TX1) (N := 3) (n := 3) hts (by decide +kernel) (hts (.instantiable RX1 3) (by decide +kernel))
  obtain ⟨c2, i2, h2⟩ := u_known (C := RX2) (T := TX2) (N := 6) (n := 6) hts (by decide +kernel) (hts (.instantiable RX2 6) (by decide +kernel))
  obtain ⟨c3, i3, h3⟩ := u_known (C := RX3) (T := TX3) (N := 4) (n := 4) hts (by decide +kernel) (hts (.instantiable RX3 4) (by decide +kernel))
  obtain ⟨c4, i4, h4⟩ := u_known (C := RX4) (T := TX4) (N := 3) (n := 3) hts (by decide +kernel) (hts (.instantiable RX4 3) (by decide +kernel))
  obtain ⟨c5, i5, h5⟩ := u_known (C := RX5) (T := TX5) (N := 2) (n := 2) hts (by decide +kernel) (hts (.instantiable RX5 2) (by decide +kernel))
  obtain ⟨c6, i6, h6⟩ := u_known (C := RX6) (T := TX6) (N := 2) (n := 2) hts (by decide +kernel) (hts (.instantiable RX6 2) (by decide +kernel))
  obtain ⟨c7, i7, h7⟩ := u_known (C := RX7) (T := TX7) (N := 9) (n := 9) hts (by decide +kernel) (hts (.instantiable RX7 9) (by decide +kernel))
  obtain ⟨c8, i8, h8⟩ := u_known (C := RX8) (T := TX8) (N := 27) (n := 27) hts (by decide +kernel) (hts (.instantiable RX8 27) (by decide +kernel))
  refine ⟨(fun k => [c0, c1, c2, c3, c4, c5, c6, c7, c8].getD k 0, fun k => [i0, i1, i2, i3, i4, i5, i6, i7, i8].getD k (fun _ => 0)), ?_⟩
  intro k q hq
  have hk : k < 9 := (List.getElem?_eq_some_iff.mp hq).1
  rcases (show k = 0 ∨ k = 1 ∨ k = 2 ∨ k = 3 ∨ k = 4 ∨ k = 5 ∨ k = 6 ∨ k = 7 ∨ k = 8 by omega) with rfl | rfl | rfl | rfl | rfl | rfl | rfl | rfl | rfl
  · cases hq; exact h0
  · cases hq; exact h1
  · cases hq; exact h2
  · cases hq; exact h3
  · cases hq; exact h4
  · cases hq; exact h5
  · cases hq; exact h6
  · cases hq; exact h7
  · cases hq; exact h8
set_option maxRecDepth 100000 in
set_option maxHeartbeats 4000000 in
theorem whole_start {p : Program} {e : Env} {s : State} {m : MethodId} {below : List Frame} {meth : Method} {c : Code} (l : Launch) {b L : Nat} {xs : Nat → Int32} (hL : L ≤ 2560) (C0 : lw_At p s m meth c b L xs) : W p l e room_1 s m #[Value.ref b] below meth c s.heap [] 0 0 (lw_Z below #[Value.ref b] s) (entryFrame m ([Value.ref b] : List Value).toArray 4) := by
  obtain ⟨hx, hb, hr, hml, hown, htb, hX, hbl, hlocks, hgv⟩ := id C0
  have hb : c.code = cL_law := hb
  have hown : s.vm.findClass RL = some m.cls := hown
  have hts : ∀ w ∈ wsL_law, w.before #[Value.ref b] s = true := fun w h => htb w (wsL_law_in w h)
  have hA : ∀ q : Nat, s.heap.size ≤ q → (fun q : Nat => s.heap.size ≤ q) q := fun _ h => h
  obtain ⟨D, hKc⟩ := law_known hts
  obtain ⟨cI, hI1, hI2⟩ := int_arr (hts (.arrayClass .int) (by decide +kernel))
  obtain ⟨xx, hro⟩ := roX_start htb hgv
  have hS : va_S (fun q : Nat => s.heap.size ≤ q) s.heap s.heap [] := va_S.rf
  have hK : va_K D vwCl [(cI, .int)] s := ⟨hKc, fun k q h => by
    have hk : k < 1 := (List.getElem?_eq_some_iff.mp h).1
    obtain rfl : k = 0 := by omega
    cases h
    exact ⟨hI1, hI2⟩⟩
  have hP : va_P D vwCl [] s.heap := fun k q h => by simp at h
  have hD : va_D (fun q : Nat => s.heap.size ≤ q) [] := ⟨fun i j p q h => by simp at h, fun k q h => by simp at h⟩
  have hAO : va_AO RX6 s := va_AO.of (htb _ (by decide +kernel))
  have n11 : va_Nw (.methodLinkNest RX7 11 yX5_init "WhoseWork") s := va_Nw.of rfl (htb _ (by decide +kernel))
  have n27 : va_Nw (.methodLinkNest RX7 27 yX0_init "WhoseWork") s := va_Nw.of rfl (htb _ (by decide +kernel))
  have n54 : va_Nw (.methodLinkNest RX7 54 yX6_init "WhoseWork") s := va_Nw.of rfl (htb _ (by decide +kernel))
  have n57 : va_Nw (.methodLinkNest RX7 57 yX3_init "WhoseWork") s := va_Nw.of rfl (htb _ (by decide +kernel))
  have hl := lv_entry ([.ref b]) (n := 4) (Nat.le_of_ble_eq_true rfl)
  rw [lg_entry_eq]
  generalize (lg_sl ([.ref b]) ++ List.replicate (4 - (lg_sl ([.ref b])).length) Slot.unset).toArray = ls at hl ⊢
  have hl : lv_has ls 4 [(0, .ref b)] := hl
  refine va_new (ci := 7) (fs := [.null, .null, .null, .null, .null, .null, .null, .null, .int 0]) (C := RX7) (T := TX7) (N := 9) hx hb hts (by decide +kernel) tyX7 tyX7_ok hown (hts (.classLink RL 7 RX7) (by decide +kernel)) (hts (.instantiable RX7 9) (by decide +kernel)) (hts (.initialized RX7) (by decide +kernel)) hK hP hD hS hA rfl dfX7 (Nat.le_of_ble_eq_true rfl) (Nat.le_of_ble_eq_true rfl) dL_law_0 (fun o1 H hP hD hS => ?_)
  have hP : va_P D vwCl [(o1, .inr (7, [.null, .null, .null, .null, .null, .null, .null, .null, .int 0]))] H := hP
  have hD : va_D (fun q : Nat => s.heap.size ≤ q) [(o1, .inr (7, [.null, .null, .null, .null, .null, .null, .null, .null, .int 0]))] := hD
  refine W.widen (k := 1) (n := 9) (by omega) (by omega) ?_
  refine lv_dup hx hb dL_law_3 rfl ?_
  have hFc := va_free (wc := [(o1, .inr (7, [.null, .null, .null, .null, .null, .null, .null, .null, .int 0]))]) hD hS hA [0] rfl
  refine va_callv (va_runI (As := []) (rest := [.ref o1]) ⟨hx, hb, hml, hown, hts⟩ (c7_init l D cI o1 H.size) (cwI 0 hts gL_law_X7_init rfl rfl rfl (hts (.initialized RX7) (by decide +kernel)) (hts (.methodLink RL 9 yX7_init) (by decide +kernel)) (hts (.instanceMethod yX7_init) (by decide +kernel)) rfl (by decide +kernel) ⟨Nat.le_of_ble_eq_true rfl, Nat.le_of_ble_eq_true rfl⟩) ⟨fun a U g mk q => by obtain ⟨q0, q1, qP, qK, qD, qO, m1, m2, m3, m4⟩ := q; exact ⟨q0, q1, qP, va_K.moved (u := U) (U := U.calling g mk a) (Vm.Alike.refl U.vm) qK, qD, va_AO.moved (u := U) (U := U.calling g mk a) (Vm.Alike.refl U.vm) qO, m1.same (U := U.calling g mk a) rfl rfl, m2.same (U := U.calling g mk a) rfl rfl, m3.same (U := U.calling g mk a) rfl rfl, m4.same (U := U.calling g mk a) rfl rfl⟩, fun U hU hW => ⟨rfl, by rw [hU], by rw [hU]; exact hP, va_K.moved hW.alike hK, hD.weaken (fun _ _ _ _ => trivial), va_AO.moved hW.alike hAO, va_Nw.warmM hW n11, va_Nw.warmM hW n27, va_Nw.warmM hW n54, va_Nw.warmM hW n57⟩⟩ rfl rfl hl.1 rfl (lv_room (Nat.le_of_ble_eq_true rfl)) dL_law_4 ⟨Nat.le_of_ble_eq_true rfl, Nat.le_of_ble_eq_true rfl⟩) hS (fun q _ h => hFc q h) hFc (fun u t H1 locs ht hvm hw hB hz1 hk1 hS => ?_)
  obtain ⟨a, cT⟩ := u
  obtain ⟨hP1, hK1, hD1⟩ := hB
  rw [ht] at hP1
  have hK := va_K.moved hvm.symm hK1
  obtain ⟨hP, hD⟩ := va_join (wr := []) (w1 := wX a cI cT stX0) hP hD [0] [] rfl rfl (by decide) (by decide) hk1 hFc hP1 hD1
  generalize H1 = H at hP hS ⊢
  have hP : va_P D vwCl (wX a cI cT stX0) H := hP
  have hD : va_D (fun q : Nat => s.heap.size ≤ q) (wX a cI cT stX0) := hD
  have hK : va_K D vwCl (tyX cI cT) s := hK
  have hw : a 0 = o1 := hw
  refine W.widen (k := 35) (n := 936) (by omega) (by omega) ?_
  refine lv_astore_n (lv' := [(1, .ref o1), (0, .ref b)]) hx hb dL_law_7 rfl hl (by decide) rfl (fun ls hl => ?_)
  rw [← hw] at hl
  refine va_new (ci := 8) (fs := [.null, .int 0, .null, .int 0, .null, .int 0, .null, .null, .null, .null, .null, .int 0, .null, .null, .null, .int 0, .null, .int 0, .int 0, .int 0, .int 0, .int 0, .int 0, .null, .null, .int 0, .null]) (C := RX8) (T := TX8) (N := 27) hx hb hts (by decide +kernel) tyX8 tyX8_ok hown (hts (.classLink RL 10 RX8) (by decide +kernel)) (hts (.instantiable RX8 27) (by decide +kernel)) (hts (.initialized RX8) (by decide +kernel)) hK hP hD hS hA rfl dfX8 (Nat.le_of_ble_eq_true rfl) (Nat.le_of_ble_eq_true rfl) dL_law_8 (fun o2 H hP hD hS => ?_)
  refine W.widen (k := 36) (n := 963) (by omega) (by omega) ?_
  refine lv_dup hx hb dL_law_11 rfl ?_
  have hPc : va_P D vwCl [(o2, .inr (8, [.null, .int 0, .null, .int 0, .null, .int 0, .null, .null, .null, .null, .null, .int 0, .null, .null, .null, .int 0, .null, .int 0, .int 0, .int 0, .int 0, .int 0, .int 0, .null, .null, .int 0, .null]))] H := P_r hP
  have hDc := D_r hD
  have hKm : va_K D vwCl [(cI, .int)] s := hK.sub [0] rfl
  have hFc := va_free (wc := [(o2, .inr (8, [.null, .int 0, .null, .int 0, .null, .int 0, .null, .null, .null, .null, .null, .int 0, .null, .null, .null, .int 0, .null, .int 0, .int 0, .int 0, .int 0, .int 0, .int 0, .null, .null, .int 0, .null]))]) hD hS hA [35] rfl
  refine va_callv (va_runI (As := []) (rest := [.ref o2]) ⟨hx, hb, hml, hown, hts⟩ (c8_init l D cI o2 H.size) (cwI 0 hts gL_law_X8_init rfl rfl rfl (hts (.initialized RX8) (by decide +kernel)) (hts (.methodLink RL 12 yX8_init) (by decide +kernel)) (hts (.instanceMethod yX8_init) (by decide +kernel)) rfl (by decide +kernel) ⟨Nat.le_of_ble_eq_true rfl, Nat.le_of_ble_eq_true rfl⟩) ⟨fun a U g mk q => by obtain ⟨q0, q1, qP, qK, qD⟩ := q; exact ⟨q0, q1, qP, va_K.moved (u := U) (U := U.calling g mk a) (Vm.Alike.refl U.vm) qK, qD⟩, fun U hU hW => ⟨rfl, by rw [hU], by rw [hU]; exact hPc, va_K.moved hW.alike hKm, hDc.weaken (fun _ _ _ _ => trivial)⟩⟩ rfl rfl hl.1 rfl (lv_room (Nat.le_of_ble_eq_true rfl)) dL_law_12 ⟨Nat.le_of_ble_eq_true rfl, Nat.le_of_ble_eq_true rfl⟩) hS (fun q _ h => hFc q h) hFc (fun u t H1 locs ht hvm hw hB hz1 hk1 hS => ?_)
  obtain ⟨a', f⟩ := u
  obtain ⟨hP1, hD1⟩ := hB
  rw [ht] at hP1
  obtain ⟨hP, hD⟩ := va_join (wr := wX a cI cT stX0) (w1 := wM a' cI (stM0 f)) hP hD [35] [0, 1, 2, 3, 4, 5, 6, 7, 8, 9, 10, 11, 12, 13, 14, 15, 16, 17, 18, 19, 20, 21, 22, 23, 24, 25, 26, 27, 28, 29, 30, 31, 32, 33, 34] rfl rfl (by decide) (by decide) hk1 hFc hP1 hD1
  generalize H1 = H at hP hS ⊢
  obtain ⟨hw1, hw2⟩ := hw
  have hw1 : a' 0 = o2 := hw1
  refine W.widen (k := 51) (n := 1710) (by omega) (by omega) ?_
  refine lv_astore_n (lv' := [(2, .ref o2), (1, .ref (a 0)), (0, .ref b)]) hx hb dL_law_15 rfl hl (by decide) rfl (fun ls hl => ?_)
  rw [← hw1] at hl
  refine lv_iconst (v := 0) hx hb dL_law_16 (by decide) ?_
  refine lv_istore_n (lv' := [(3, .int 0), (2, .ref (a' 0)), (1, .ref (a 0)), (0, .ref b)]) hx hb dL_law_17 rfl hl (by decide) rfl (fun ls hl => ?_)
  have E : LawE p s m meth c b L xs D cI cT xx := ⟨hx, hb, hml, hown, hts, hK, hX, hbl, hro, hr, hlocks, hL⟩
  exact law_loop (l := l) (e := e) (below := below) (a := a) (a' := a') E (L + 1) 0 stX0 (stM0 f) (by omega) (Nat.zero_le L) (Inv_0 hw2) H _ ls hP hD hS hl
