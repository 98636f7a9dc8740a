/-! ===== the constructors with calls and loops ===== -/
def w1 (cI : ClassId) (q N : Nat) (w : St) : va_W := [(q, .inl (cI, N, .inl (w 0)))]
theorem w1_s (cI : ClassId) (q N : Nat) (w : St) (f : Nat → Int32) : (w1 cI q N w).set 0 (q, .inl (cI, N, .inl f)) = w1 cI q N (st_up w 0 f) := by
  unfold w1; rw [up_at]; rfl
def fl0 (n : Nat) : Nat → Int32 := fun j => if j < n then 1 else 0
def st0 : St := fun _ _ => 0
theorem fl0_e (n : Nat) : st_up st0 0 (fl st0 0 n 1) 0 = fl0 n := by rw [up_at]; rfl
theorem D_1 (q : Nat) (e : va_E) : va_D (fun x => x = q) [(q, e)] := by
  refine ⟨fun i j a b h1 h2 _ => ?_, fun k a h => ?_⟩
  · have hi : i < 1 := (List.getElem?_eq_some_iff.mp h1).1
    have hj : j < 1 := (List.getElem?_eq_some_iff.mp h2).1
    omega
  · have hk : k < 1 := (List.getElem?_eq_some_iff.mp h).1
    obtain rfl : k = 0 := by omega
    cases h; rfl
theorem A_1 {q sz x : Nat} {e : va_E} (h : rl_A (fun x => x = q) sz x) : va_A [(q, e)] sz x := h.imp (fun h => ⟨0, e, by rw [h]; rfl⟩) id
theorem arrV_cg (cI : ClassId) {N : Nat} {f g : Nat → Value} (h : ∀ j, j < N → f j = g j) : arrV cI N f = arrV cI N g := by
  unfold arrV
  congr 2
  funext j
  exact h j.val j.isLt
theorem P_setq {D : va_G} {cl : List vw_C} {ws : va_W} {H : Heap} {i a n : Nat} {cA : ClassId} {f g : Nat → Option Nat} (h : va_P D cl ws H) (he : ws[i]? = some (a, .inl (cA, n, .inr (.inr (.inr (.inr f)))))) (hfg : ∀ j, j < n → f j = g j) : va_P D cl (ws.set i (a, .inl (cA, n, .inr (.inr (.inr (.inr g)))))) H := by
  intro k q hq
  by_cases c : i = k
  · subst c
    rw [List.getElem?_set_self (List.getElem?_eq_some_iff.mp he).1] at hq
    cases hq
    have h1 : H[a]? = some (vp_cell cA (n, .inr (.inr (.inr (.inr f))))) := h i _ he
    show H[a]? = some (vp_cell cA (n, .inr (.inr (.inr (.inr g)))))
    rw [h1, vp_cell_q, vp_cell_q, arrV_cg cA (fun j hj => by rw [hfg j hj])]
  · rw [List.getElem?_set_ne c] at hq
    exact h k q hq
theorem vpd {i : Int32} {n : Nat} (h : ¬ (i < 0 ∨ n ≤ i.toNatClampNeg)) : vp_in i n := h
def r4 (cI : ClassId) (h0 : Nat) (u : Nat → Nat) : va_W := [(h0, .inr (4, [.ref (u 0), .ref (u 1), .int 0])), (u 0, .inl (cI, 36, .inl (fl0 36))), (u 1, .inl (cI, 6, .inl (fl0 6)))]
set_option maxHeartbeats 4000000 in
set_option maxRecDepth 100000 in
theorem c4_init (l : Launch) (D : va_G) (cI : ClassId) (h0 sz : Nat) : Met l yX4_init wsX4_init ({ frames := 1, cells := 2, slots := 42, locals := 23 } : Room) (va_Pc [.ref h0] (fun U => U.heap.size = sz ∧ va_P D vwCl [(h0, .inr (4, [.null, .null, .int 0]))] U.heap ∧ va_K D vwCl [(cI, .int)] U ∧ va_D (fun _ => True) [(h0, .inr (4, [.null, .null, .int 0]))])) (va_Qv (fun _ : Nat → Nat => True) (fun u t => va_P D vwCl (r4 cI h0 u) t.heap ∧ va_D (va_A [(h0, .inr (4, [.null, .null, .int 0]))] sz) (r4 cI h0 u)) (va_A [(h0, .inr (4, [.null, .null, .int 0]))] sz)) 2 42 (va_A [(h0, .inr (4, [.null, .null, .int 0]))] sz) := by
  refine Met.ofW (cc := cX4_init) (maxL := 1) (ret := none) (by decide) rfl ?_
  intro p e s m args below meth c s₁ B hml hv
  obtain ⟨rfl, hsz, hP, hK, hD0⟩ := hv
  have hx := B.exec
  have hb := B.bytes
  have hr := B.returns
  have hts := atoms_spec (ws := wsX4_init) B.pre
  have hown : s.vm.findClass RX4 = some m.cls := findClass_of_methodNamed B.named
  have hlocks := B.notSynchronized
  have hin : meth.name = "<init>" := (name_of_methodNamed B.named B.method).1
  subst hsz
  have hD := hD0.self (sz := s.heap.size)
  generalize hAe : va_A [(h0, .inr (4, [.null, .null, .int 0]))] s.heap.size = A at hD ⊢
  have hA : ∀ q : Nat, s.heap.size ≤ q → A q := fun q h => by rw [← hAe]; exact Or.inr h
  have hS : va_S A s.heap s.heap [] := va_S.rf
  have hP : va_P D vwCl [(h0, .inr (4, [.null, .null, .int 0]))] s.heap := hP
  have hl := lv_entry ([.ref h0]) (n := 1) (Nat.le_of_ble_eq_true rfl)
  rw [lg_entry_eq]
  generalize (lg_sl ([.ref h0]) ++ List.replicate (1 - (lg_sl ([.ref h0])).length) Slot.unset).toArray = ls at hl ⊢
  have hl : lv_has ls 1 [(0, .ref h0)] := hl
  have oi : Cond.code objectInit ⟨#[0xb1]⟩ 1 none ∈ wsX4_init := List.mem_of_getElem? (i := 3) rfl
  refine lv_aload_n hx hb dX4_init_0 rfl (lv_at hl 0 rfl) ?_
  refine W.objInit hx hb hown (hts (.methodLink RX4 3 objectInit) (by decide +kernel)) (hts (.instanceMethod objectInit) (by decide +kernel)) (hts _ oi) rfl (by rw [hml]; exact hl.1) rfl dX4_init_1 (Nat.le_of_ble_eq_true rfl) (Nat.le_of_ble_eq_true rfl) ?_
  refine W.eq (g2 := F0 m 4 ls []) rfl ?_
  refine lv_aload_n hx hb dX4_init_4 rfl (lv_at hl 0 rfl) ?_
  refine lv_bipush (v := 36) hx hb dX4_init_5 (by decide) ?_
  refine nw_int (N' := 36) 0 rfl hx hb (hts (.arrayClass .int) (by decide +kernel)) hK hP hD hS hA (by decide) (by decide) (by decide) (Nat.le_of_ble_eq_true rfl) (Nat.le_of_ble_eq_true rfl) dX4_init_7 (fun q1 H hP hD hS => ?_)
  have hP : va_P D vwCl [(h0, .inr (4, [.null, .null, .int 0])), (q1, .inl (cI, 36, .inl (fun _ => 0)))] H := hP
  have hD : va_D A [(h0, .inr (4, [.null, .null, .int 0])), (q1, .inl (cI, 36, .inl (fun _ => 0)))] := hD
  refine W.widen (k := 1) (n := 36) (by omega) (by omega) ?_
  refine va_putF (D := D) (ci := 4) (v := .ref q1) (C := RX4) (T := TX4) (N := 3) hx hb hts (by decide +kernel) tyX4 tyX4_ok nmX4 hown hK hP hD hS 0 rfl rfl 0 (by decide) (hts (.fieldLink RX4 9 "WhoseWork$Tariff" "prices" "[I") (by decide +kernel)) (fun _ h9 => h9) rfl hin rfl (tyX4_ok 0 (by decide)) rfl rfl (Nat.le_of_ble_eq_true rfl) dX4_init_9 (fun H locs hP hD hS => ?_)
  have hP : va_P D vwCl [(h0, .inr (4, [.ref q1, .null, .int 0])), (q1, .inl (cI, 36, .inl (fun _ => 0)))] H := hP
  have hD : va_D A [(h0, .inr (4, [.ref q1, .null, .int 0])), (q1, .inl (cI, 36, .inl (fun _ => 0)))] := hD
  refine lv_aload_n hx hb dX4_init_12 rfl (lv_at hl 0 rfl) ?_
  refine lv_bipush (v := 6) hx hb dX4_init_13 (by decide) ?_
  refine nw_int (N' := 6) 0 rfl hx hb (hts (.arrayClass .int) (by decide +kernel)) hK hP hD hS hA (by decide) (by decide) (by decide) (Nat.le_of_ble_eq_true rfl) (Nat.le_of_ble_eq_true rfl) dX4_init_15 (fun q2 H hP hD hS => ?_)
  have hP : va_P D vwCl [(h0, .inr (4, [.ref q1, .null, .int 0])), (q1, .inl (cI, 36, .inl (fun _ => 0))), (q2, .inl (cI, 6, .inl (fun _ => 0)))] H := hP
  have hD : va_D A [(h0, .inr (4, [.ref q1, .null, .int 0])), (q1, .inl (cI, 36, .inl (fun _ => 0))), (q2, .inl (cI, 6, .inl (fun _ => 0)))] := hD
  refine W.widen (k := 2) (n := 42) (by omega) (by omega) ?_
  refine va_putF (D := D) (ci := 4) (v := .ref q2) (C := RX4) (T := TX4) (N := 3) hx hb hts (by decide +kernel) tyX4 tyX4_ok nmX4 hown hK hP hD hS 0 rfl rfl 1 (by decide) (hts (.fieldLink RX4 15 "WhoseWork$Tariff" "daysOfGuilds" "[I") (by decide +kernel)) (fun _ h9 => h9) rfl hin rfl (tyX4_ok 1 (by decide)) rfl rfl (Nat.le_of_ble_eq_true rfl) dX4_init_17 (fun H locs hP hD hS => ?_)
  have hP : va_P D vwCl [(h0, .inr (4, [.ref q1, .ref q2, .int 0])), (q1, .inl (cI, 36, .inl (fun _ => 0))), (q2, .inl (cI, 6, .inl (fun _ => 0)))] H := hP
  have hD : va_D A [(h0, .inr (4, [.ref q1, .ref q2, .int 0])), (q1, .inl (cI, 36, .inl (fun _ => 0))), (q2, .inl (cI, 6, .inl (fun _ => 0)))] := hD
  refine lv_aload_n hx hb dX4_init_20 rfl (lv_at hl 0 rfl) ?_
  refine va_get (D := D) (ci := 4) (v := .ref q1) (C := RX4) (T := TX4) (N := 3) hx hb hts (by decide +kernel) hown hK hP 0 rfl rfl 0 (by decide) (hts (.fieldLink RX4 9 "WhoseWork$Tariff" "prices" "[I") (by decide +kernel)) (fun _ h9 => h9) rfl dX4_init_21 ?_
  refine lv_iconst (v := 1) hx hb dX4_init_24 (by decide) ?_
  have hPc := hP.sub (ws' := w1 cI q1 36 st0) [1] rfl
  have hFc := va_free (wc := w1 cI q1 36 st0) hD hS hA [1] rfl
  refine va_callv (va_runS (As := [.ref q1, .int 1]) (rest := []) ⟨hx, hb, hml, hown, hts⟩ (kJ7_fill_53178 l D [(cI, .int)] (w1 cI q1 36) ro_0 (fun x => x = q1) cI q1 st0 0 36 1 _ rfl (fun _ => rfl) (w1_s cI q1 36) (by decide) rfl H.size) (va_cwS 2 hts gX4_init_J7_fill_53178 rfl rfl rfl (by decide +kernel) ⟨Nat.le_of_ble_eq_true rfl, Nat.le_of_ble_eq_true rfl⟩) ⟨rl_blind rl_Ro_true, fun U hU hW => ⟨rfl, by rw [hU], by rw [hU]; exact hPc, va_K.moved hW.alike hK, D_1 _ _, trivial⟩⟩ rfl rfl hl.1 rfl (lv_room (Nat.le_of_ble_eq_true rfl)) dX4_init_25 ⟨Nat.le_of_ble_eq_true rfl, Nat.le_of_ble_eq_true rfl⟩) hS (fun q _ h => hFc q (A_1 h)) (fun q h => hFc q (A_1 h)) (fun u t H1 locs ht hvm hw hB hz1 hk1 hS => ?_)
  obtain ⟨hP1, hD1⟩ := hB
  rw [ht, hw] at hP1
  rw [hw] at hD1
  have hP1 : va_P D vwCl [(q1, .inl (cI, 36, .inl (fl0 36)))] H1 := by rw [← fl0_e]; exact hP1
  have hD1 : va_D (va_A (w1 cI q1 36 st0) H.size) [(q1, .inl (cI, 36, .inl (fl0 36)))] := by rw [← fl0_e]; exact hD1.weaken (fun _ _ _ h => A_1 (Or.inl h))
  obtain ⟨hP, hD⟩ := va_join (wr := [(h0, .inr (4, [.ref q1, .ref q2, .int 0])), (q2, .inl (cI, 6, .inl (fun _ => 0)))]) (w1 := [(q1, .inl (cI, 36, .inl (fl0 36)))]) hP hD [1] [0, 2] rfl rfl (by decide) (by decide) (fun q h1 h2 => hk1 q h1 (fun h => h2 (A_1 h))) hFc hP1 hD1
  generalize H1 = H at hP hS ⊢
  have hP : va_P D vwCl [(h0, .inr (4, [.ref q1, .ref q2, .int 0])), (q2, .inl (cI, 6, .inl (fun _ => 0))), (q1, .inl (cI, 36, .inl (fl0 36)))] H := hP
  have hD : va_D A [(h0, .inr (4, [.ref q1, .ref q2, .int 0])), (q2, .inl (cI, 6, .inl (fun _ => 0))), (q1, .inl (cI, 36, .inl (fl0 36)))] := hD
  refine lv_aload_n hx hb dX4_init_28 rfl (lv_at hl 0 rfl) ?_
  refine va_get (D := D) (ci := 4) (v := .ref q2) (C := RX4) (T := TX4) (N := 3) hx hb hts (by decide +kernel) hown hK hP 0 rfl rfl 1 (by decide) (hts (.fieldLink RX4 15 "WhoseWork$Tariff" "daysOfGuilds" "[I") (by decide +kernel)) (fun _ h9 => h9) rfl dX4_init_29 ?_
  refine lv_iconst (v := 1) hx hb dX4_init_32 (by decide) ?_
  have hPc := hP.sub (ws' := w1 cI q2 6 st0) [1] rfl
  have hFc := va_free (wc := w1 cI q2 6 st0) hD hS hA [1] rfl
  refine va_callv (va_runS (As := [.ref q2, .int 1]) (rest := []) ⟨hx, hb, hml, hown, hts⟩ (kJ7_fill_53178 l D [(cI, .int)] (w1 cI q2 6) ro_0 (fun x => x = q2) cI q2 st0 0 6 1 _ rfl (fun _ => rfl) (w1_s cI q2 6) (by decide) rfl H.size) (va_cwS 2 hts gX4_init_J7_fill_53178 rfl rfl rfl (by decide +kernel) ⟨Nat.le_of_ble_eq_true rfl, Nat.le_of_ble_eq_true rfl⟩) ⟨rl_blind rl_Ro_true, fun U hU hW => ⟨rfl, by rw [hU], by rw [hU]; exact hPc, va_K.moved hW.alike hK, D_1 _ _, trivial⟩⟩ rfl rfl hl.1 rfl (lv_room (Nat.le_of_ble_eq_true rfl)) dX4_init_33 ⟨Nat.le_of_ble_eq_true rfl, Nat.le_of_ble_eq_true rfl⟩) hS (fun q _ h => hFc q (A_1 h)) (fun q h => hFc q (A_1 h)) (fun u t H1 locs ht hvm hw hB hz1 hk1 hS => ?_)
  obtain ⟨hP1, hD1⟩ := hB
  rw [ht, hw] at hP1
  rw [hw] at hD1
  have hP1 : va_P D vwCl [(q2, .inl (cI, 6, .inl (fl0 6)))] H1 := by rw [← fl0_e]; exact hP1
  have hD1 : va_D (va_A (w1 cI q2 6 st0) H.size) [(q2, .inl (cI, 6, .inl (fl0 6)))] := by rw [← fl0_e]; exact hD1.weaken (fun _ _ _ h => A_1 (Or.inl h))
  obtain ⟨hP, hD⟩ := va_join (wr := [(h0, .inr (4, [.ref q1, .ref q2, .int 0])), (q1, .inl (cI, 36, .inl (fl0 36)))]) (w1 := [(q2, .inl (cI, 6, .inl (fl0 6)))]) hP hD [1] [0, 2] rfl rfl (by decide) (by decide) (fun q h1 h2 => hk1 q h1 (fun h => h2 (A_1 h))) hFc hP1 hD1
  generalize H1 = H at hP hS ⊢
  have hP : va_P D vwCl [(h0, .inr (4, [.ref q1, .ref q2, .int 0])), (q1, .inl (cI, 36, .inl (fl0 36))), (q2, .inl (cI, 6, .inl (fl0 6)))] H := hP
  have hD : va_D A [(h0, .inr (4, [.ref q1, .ref q2, .int 0])), (q1, .inl (cI, 36, .inl (fl0 36))), (q2, .inl (cI, 6, .inl (fl0 6)))] := hD
  have hP9 := hP.sub (ws' := r4 cI h0 (fun k => [q1, q2].getD k 0)) [0, 1, 2] rfl
  have hD9 := hD.sub (ws' := r4 cI h0 (fun k => [q1, q2].getD k 0)) [0, 1, 2] (by decide) rfl
  exact W.vret hx hb hr (fun t ht hW => ⟨⟨(fun k => [q1, q2].getD k 0), rfl, trivial, by rw [ht]; exact hP9, hD9⟩, hS.F ht⟩) hS.2.2 dX4_init_36
