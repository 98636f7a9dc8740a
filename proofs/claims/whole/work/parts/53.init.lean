/-! ===== the constructors ===== -/
section NWI
variable {p : Program} {l : Launch} {e : Env} {R : Room} {s : State} {m : MethodId} {args : Array Value} {below : List Frame} {meth : Method} {c : Code} {H0 H : Heap} {locs : List Loc} {cells slots : Nat} {Q : State → Prop}
variable {cc : ByteArray} {pc : Nat} {ls : Array Slot} {rest : List Value} {D : va_G} {cl : List vw_C} {tys : List (ClassId × FieldType)} {ws : va_W} {A : Nat → Prop}
theorem ra_eq {U : State} {c1 c2 : ClassId} (h1 : va_RA U c1 .int) (h2 : va_RA U c2 .int) : c1 = c2 := Option.some.inj (h1.symm.trans h2)
/-- a new row of ints, of the class that the rows of ints have -/
theorem nw_int {N' : Nat} {cI : ClassId} (t0 : Nat) (ht : tys[t0]? = some (cI, .int)) (hexec : p.tables.exec = Jvm.exec) (hb : c.code = cc) (harr : (Cond.arrayClass .int).before args s = true) (hK : va_K D cl tys s) (hP : va_P D cl ws H) (hD : va_D A ws) (hS : va_S A H0 H locs) (hA : ∀ q, H0.size ≤ q → A q) {n : Int32} (hn : ¬ n < 0) (hN : n.toNatClampNeg = N') (hbytes : N' * 4 ≤ 536870912) (hcells : cells + 1 ≤ R.cells) (hslots : slots + N' ≤ R.slots) (hdg : decode cc pc = .ok (.newarray .int, 2))
    (kk : ∀ (q : Nat) (H1 : Heap), va_P D cl (ws ++ [(q, .inl (cI, N', .inl (fun _ => 0)))]) H1 → va_D A (ws ++ [(q, .inl (cI, N', .inl (fun _ => 0)))]) → va_S A H0 H1 locs → W p l e R s m args below meth c H1 locs (cells + 1) (slots + N') Q (F0 m (pc + 2) ls (.ref q :: rest))) : W p l e R s m args below meth c H locs cells slots Q (F0 m pc ls (.int n :: rest)) := by
  refine va_newa (atype := .int) (ty := .int) (a0 := (N', .inl (fun _ => 0))) hexec hb harr rfl hK hP hD hS hA (fun _ => rfl) hn hN hbytes hcells hslots hdg (fun q cA H1 hK1 hP1 hD1 hS1 => ?_)
  have h1 := (hK1.2 tys.length (cA, .int) (by rw [List.getElem?_append_right (Nat.le_refl _), Nat.sub_self]; rfl)).2
  have h2 := (hK.2 t0 (cI, .int) ht).2
  obtain rfl := ra_eq h1 h2
  exact kk q H1 hP1 hD1 hS1
end NWI
def r5 (cI : ClassId) (h0 : Nat) (u : Nat → Nat) : va_W := [(h0, .inr (5, [.ref (u 0), .int 0])), (u 0, .inl (cI, 160, .inl (fun _ => 0)))]
set_option maxHeartbeats 4000000 in
set_option maxRecDepth 100000 in
theorem c5_init (l : Launch) (D : va_G) (cI : ClassId) (h0 sz : Nat) : Met l yX5_init wsX5_init ({ frames := 1, cells := 1, slots := 160, locals := 12 } : Room) (va_Pc [.ref h0] (fun U => U.heap.size = sz ∧ va_P D vwCl [(h0, .inr (5, [.null, .int 0]))] U.heap ∧ va_K D vwCl [(cI, .int)] U ∧ va_D (fun _ => True) [(h0, .inr (5, [.null, .int 0]))])) (va_Qv (fun _ : Nat → Nat => True) (fun u t => va_P D vwCl (r5 cI h0 u) t.heap ∧ va_D (va_A [(h0, .inr (5, [.null, .int 0]))] sz) (r5 cI h0 u)) (va_A [(h0, .inr (5, [.null, .int 0]))] sz)) 1 160 (va_A [(h0, .inr (5, [.null, .int 0]))] sz) := by
  refine Met.ofW (cc := cX5_init) (maxL := 1) (ret := none) (by decide) rfl ?_
  intro p e s m args below meth c s₁ B hml hv
  obtain ⟨rfl, hsz, hP, hK, hD0⟩ := hv
  have hx := B.exec
  have hb := B.bytes
  have hr := B.returns
  have hts := atoms_spec (ws := wsX5_init) B.pre
  have hown : s.vm.findClass RX5 = some m.cls := findClass_of_methodNamed B.named
  have hlocks := B.notSynchronized
  have hin : meth.name = "<init>" := (name_of_methodNamed B.named B.method).1
  subst hsz
  have hD := hD0.self (sz := s.heap.size)
  generalize hAe : va_A [(h0, .inr (5, [.null, .int 0]))] s.heap.size = A at hD ⊢
  have hA : ∀ q : Nat, s.heap.size ≤ q → A q := fun q h => by rw [← hAe]; exact Or.inr h
  have hS : va_S A s.heap s.heap [] := va_S.rf
  have hP : va_P D vwCl [(h0, .inr (5, [.null, .int 0]))] s.heap := hP
  have hl := lv_entry ([.ref h0]) (n := 1) (Nat.le_of_ble_eq_true rfl)
  rw [lg_entry_eq]
  generalize (lg_sl ([.ref h0]) ++ List.replicate (1 - (lg_sl ([.ref h0])).length) Slot.unset).toArray = ls at hl ⊢
  have hl : lv_has ls 1 [(0, .ref h0)] := hl
  have oi : Cond.code objectInit ⟨#[0xb1]⟩ 1 none ∈ wsX5_init := List.mem_of_getElem? (i := 3) rfl
  refine lv_aload_n hx hb dX5_init_0 rfl (lv_at hl 0 rfl) ?_
  refine W.objInit hx hb hown (hts (.methodLink RX5 3 objectInit) (by decide +kernel)) (hts (.instanceMethod objectInit) (by decide +kernel)) (hts _ oi) rfl (by rw [hml]; exact hl.1) rfl dX5_init_1 (Nat.le_of_ble_eq_true rfl) (Nat.le_of_ble_eq_true rfl) ?_
  refine W.eq (g2 := F0 m 4 ls []) rfl ?_
  refine lv_aload_n hx hb dX5_init_4 rfl (lv_at hl 0 rfl) ?_
  refine lv_sipush (v := 160) hx hb dX5_init_5 (by decide) ?_
  refine nw_int (N' := 160) 0 rfl hx hb (hts (.arrayClass .int) (by decide +kernel)) hK hP hD hS hA (by decide) (by decide) (by decide) (Nat.le_of_ble_eq_true rfl) (Nat.le_of_ble_eq_true rfl) dX5_init_8 (fun q1 H hP hD hS => ?_)
  have hP : va_P D vwCl [(h0, .inr (5, [.null, .int 0])), (q1, .inl (cI, 160, .inl (fun _ => 0)))] H := hP
  have hD : va_D A [(h0, .inr (5, [.null, .int 0])), (q1, .inl (cI, 160, .inl (fun _ => 0)))] := hD
  refine W.widen (k := 1) (n := 160) (by omega) (by omega) ?_
  refine va_putF (D := D) (ci := 5) (v := .ref q1) (C := RX5) (T := TX5) (N := 2) hx hb hts (by decide +kernel) tyX5 tyX5_ok nmX5 hown hK hP hD hS 0 rfl rfl 0 (by decide) (hts (.fieldLink RX5 9 "WhoseWork$Text" "bytes" "[I") (by decide +kernel)) (fun _ h9 => h9) rfl hin rfl (tyX5_ok 0 (by decide)) rfl rfl (Nat.le_of_ble_eq_true rfl) dX5_init_10 (fun H locs hP hD hS => ?_)
  have hP : va_P D vwCl [(h0, .inr (5, [.ref q1, .int 0])), (q1, .inl (cI, 160, .inl (fun _ => 0)))] H := hP
  have hD : va_D A [(h0, .inr (5, [.ref q1, .int 0])), (q1, .inl (cI, 160, .inl (fun _ => 0)))] := hD
  have hP9 := hP.sub (ws' := r5 cI h0 (fun k => [q1].getD k 0)) [0, 1] rfl
  have hD9 := hD.sub (ws' := r5 cI h0 (fun k => [q1].getD k 0)) [0, 1] (by decide) rfl
  exact W.vret hx hb hr (fun t ht hW => ⟨⟨(fun k => [q1].getD k 0), rfl, trivial, by rw [ht]; exact hP9, hD9⟩, hS.F ht⟩) hS.2.2 dX5_init_13
def r2 (cI : ClassId) (h0 a1 : Nat) (u : Nat → Nat) : va_W := [(h0, .inr (2, [.ref a1, .int 0, .int 0, .int 0, .ref (u 0), .int 0])), (u 0, .inl (cI, 56, .inl (fun _ => 0)))]
set_option maxHeartbeats 4000000 in
set_option maxRecDepth 100000 in
theorem c2_init (l : Launch) (D : va_G) (cI : ClassId) (h0 a1 sz : Nat) : Met l yX2_init wsX2_init ({ frames := 1, cells := 1, slots := 56, locals := 12 } : Room) (va_Pc [.ref h0, .ref a1] (fun U => U.heap.size = sz ∧ va_P D vwCl [(h0, .inr (2, [.null, .int 0, .int 0, .int 0, .null, .int 0]))] U.heap ∧ va_K D vwCl [(cI, .int)] U ∧ va_D (fun _ => True) [(h0, .inr (2, [.null, .int 0, .int 0, .int 0, .null, .int 0]))])) (va_Qv (fun _ : Nat → Nat => True) (fun u t => va_P D vwCl (r2 cI h0 a1 u) t.heap ∧ va_D (va_A [(h0, .inr (2, [.null, .int 0, .int 0, .int 0, .null, .int 0]))] sz) (r2 cI h0 a1 u)) (va_A [(h0, .inr (2, [.null, .int 0, .int 0, .int 0, .null, .int 0]))] sz)) 1 56 (va_A [(h0, .inr (2, [.null, .int 0, .int 0, .int 0, .null, .int 0]))] sz) := by
  refine Met.ofW (cc := cX2_init) (maxL := 2) (ret := none) (by decide) rfl ?_
  intro p e s m args below meth c s₁ B hml hv
  obtain ⟨rfl, hsz, hP, hK, hD0⟩ := hv
  have hx := B.exec
  have hb := B.bytes
  have hr := B.returns
  have hts := atoms_spec (ws := wsX2_init) B.pre
  have hown : s.vm.findClass RX2 = some m.cls := findClass_of_methodNamed B.named
  have hlocks := B.notSynchronized
  have hin : meth.name = "<init>" := (name_of_methodNamed B.named B.method).1
  subst hsz
  have hD := hD0.self (sz := s.heap.size)
  generalize hAe : va_A [(h0, .inr (2, [.null, .int 0, .int 0, .int 0, .null, .int 0]))] s.heap.size = A at hD ⊢
  have hA : ∀ q : Nat, s.heap.size ≤ q → A q := fun q h => by rw [← hAe]; exact Or.inr h
  have hS : va_S A s.heap s.heap [] := va_S.rf
  have hP : va_P D vwCl [(h0, .inr (2, [.null, .int 0, .int 0, .int 0, .null, .int 0]))] s.heap := hP
  have hl := lv_entry ([.ref h0, .ref a1]) (n := 2) (Nat.le_of_ble_eq_true rfl)
  rw [lg_entry_eq]
  generalize (lg_sl ([.ref h0, .ref a1]) ++ List.replicate (2 - (lg_sl ([.ref h0, .ref a1])).length) Slot.unset).toArray = ls at hl ⊢
  have hl : lv_has ls 2 [(0, .ref h0), (1, .ref a1)] := hl
  have oi : Cond.code objectInit ⟨#[0xb1]⟩ 1 none ∈ wsX2_init := List.mem_of_getElem? (i := 3) rfl
  refine lv_aload_n hx hb dX2_init_0 rfl (lv_at hl 0 rfl) ?_
  refine W.objInit hx hb hown (hts (.methodLink RX2 3 objectInit) (by decide +kernel)) (hts (.instanceMethod objectInit) (by decide +kernel)) (hts _ oi) rfl (by rw [hml]; exact hl.1) rfl dX2_init_1 (Nat.le_of_ble_eq_true rfl) (Nat.le_of_ble_eq_true rfl) ?_
  refine W.eq (g2 := F0 m 4 ls []) rfl ?_
  refine lv_aload_n hx hb dX2_init_4 rfl (lv_at hl 0 rfl) ?_
  refine lv_bipush (v := 56) hx hb dX2_init_5 (by decide) ?_
  refine nw_int (N' := 56) 0 rfl hx hb (hts (.arrayClass .int) (by decide +kernel)) hK hP hD hS hA (by decide) (by decide) (by decide) (Nat.le_of_ble_eq_true rfl) (Nat.le_of_ble_eq_true rfl) dX2_init_7 (fun q1 H hP hD hS => ?_)
  have hP : va_P D vwCl [(h0, .inr (2, [.null, .int 0, .int 0, .int 0, .null, .int 0])), (q1, .inl (cI, 56, .inl (fun _ => 0)))] H := hP
  have hD : va_D A [(h0, .inr (2, [.null, .int 0, .int 0, .int 0, .null, .int 0])), (q1, .inl (cI, 56, .inl (fun _ => 0)))] := hD
  refine W.widen (k := 1) (n := 56) (by omega) (by omega) ?_
  refine va_putF (D := D) (ci := 2) (v := .ref q1) (C := RX2) (T := TX2) (N := 6) hx hb hts (by decide +kernel) tyX2 tyX2_ok nmX2 hown hK hP hD hS 0 rfl rfl 4 (by decide) (hts (.fieldLink RX2 9 "WhoseWork$Reader" "cells" "[I") (by decide +kernel)) (fun _ h9 => h9) rfl hin rfl (tyX2_ok 4 (by decide)) rfl rfl (Nat.le_of_ble_eq_true rfl) dX2_init_9 (fun H locs hP hD hS => ?_)
  have hP : va_P D vwCl [(h0, .inr (2, [.null, .int 0, .int 0, .int 0, .ref q1, .int 0])), (q1, .inl (cI, 56, .inl (fun _ => 0)))] H := hP
  have hD : va_D A [(h0, .inr (2, [.null, .int 0, .int 0, .int 0, .ref q1, .int 0])), (q1, .inl (cI, 56, .inl (fun _ => 0)))] := hD
  refine lv_aload_n hx hb dX2_init_12 rfl (lv_at hl 0 rfl) ?_
  refine lv_aload_n hx hb dX2_init_13 rfl (lv_at hl 1 rfl) ?_
  refine va_putF (D := D) (ci := 2) (v := .ref a1) (C := RX2) (T := TX2) (N := 6) hx hb hts (by decide +kernel) tyX2 tyX2_ok nmX2 hown hK hP hD hS 0 rfl rfl 0 (by decide) (hts (.fieldLink RX2 15 "WhoseWork$Reader" "text" "LWhoseWork$Text;") (by decide +kernel)) (fun _ h9 => h9) rfl hin rfl (tyX2_ok 0 (by decide)) rfl rfl (Nat.le_of_ble_eq_true rfl) dX2_init_14 (fun H locs hP hD hS => ?_)
  have hP : va_P D vwCl [(h0, .inr (2, [.ref a1, .int 0, .int 0, .int 0, .ref q1, .int 0])), (q1, .inl (cI, 56, .inl (fun _ => 0)))] H := hP
  have hD : va_D A [(h0, .inr (2, [.ref a1, .int 0, .int 0, .int 0, .ref q1, .int 0])), (q1, .inl (cI, 56, .inl (fun _ => 0)))] := hD
  have hP9 := hP.sub (ws' := r2 cI h0 a1 (fun k => [q1].getD k 0)) [0, 1] rfl
  have hD9 := hD.sub (ws' := r2 cI h0 a1 (fun k => [q1].getD k 0)) [0, 1] (by decide) rfl
  exact W.vret hx hb hr (fun t ht hW => ⟨⟨(fun k => [q1].getD k 0), rfl, trivial, by rw [ht]; exact hP9, hD9⟩, hS.F ht⟩) hS.2.2 dX2_init_17
def r0 (cI : ClassId) (h0 : Nat) (u : Nat → Nat) : va_W := [(h0, .inr (0, [.ref (u 0), .int 0, .ref (u 1), .ref (u 2), .ref (u 3), .ref (u 4), .ref (u 5)])), (u 0, .inl (cI, 140, .inl (fun _ => 0))), (u 1, .inl (cI, 240, .inl (fun _ => 0))), (u 2, .inl (cI, 6, .inl (fun _ => 0))), (u 3, .inl (cI, 6, .inl (fun _ => 0))), (u 4, .inl (cI, 6, .inl (fun _ => 0))), (u 5, .inl (cI, 6, .inl (fun _ => 0)))]
set_option maxHeartbeats 4000000 in
set_option maxRecDepth 100000 in
theorem c0_init (l : Launch) (D : va_G) (cI : ClassId) (h0 sz : Nat) : Met l yX0_init wsX0_init ({ frames := 1, cells := 6, slots := 404, locals := 12 } : Room) (va_Pc [.ref h0] (fun U => U.heap.size = sz ∧ va_P D vwCl [(h0, .inr (0, [.null, .int 0, .null, .null, .null, .null, .null]))] U.heap ∧ va_K D vwCl [(cI, .int)] U ∧ va_D (fun _ => True) [(h0, .inr (0, [.null, .int 0, .null, .null, .null, .null, .null]))])) (va_Qv (fun _ : Nat → Nat => True) (fun u t => va_P D vwCl (r0 cI h0 u) t.heap ∧ va_D (va_A [(h0, .inr (0, [.null, .int 0, .null, .null, .null, .null, .null]))] sz) (r0 cI h0 u)) (va_A [(h0, .inr (0, [.null, .int 0, .null, .null, .null, .null, .null]))] sz)) 6 404 (va_A [(h0, .inr (0, [.null, .int 0, .null, .null, .null, .null, .null]))] sz) := by
  refine Met.ofW (cc := cX0_init) (maxL := 1) (ret := none) (by decide) rfl ?_
  intro p e s m args below meth c s₁ B hml hv
  obtain ⟨rfl, hsz, hP, hK, hD0⟩ := hv
  have hx := B.exec
  have hb := B.bytes
  have hr := B.returns
  have hts := atoms_spec (ws := wsX0_init) B.pre
  have hown : s.vm.findClass RX0 = some m.cls := findClass_of_methodNamed B.named
  have hlocks := B.notSynchronized
  have hin : meth.name = "<init>" := (name_of_methodNamed B.named B.method).1
  subst hsz
  have hD := hD0.self (sz := s.heap.size)
  generalize hAe : va_A [(h0, .inr (0, [.null, .int 0, .null, .null, .null, .null, .null]))] s.heap.size = A at hD ⊢
  have hA : ∀ q : Nat, s.heap.size ≤ q → A q := fun q h => by rw [← hAe]; exact Or.inr h
  have hS : va_S A s.heap s.heap [] := va_S.rf
  have hP : va_P D vwCl [(h0, .inr (0, [.null, .int 0, .null, .null, .null, .null, .null]))] s.heap := hP
  have hl := lv_entry ([.ref h0]) (n := 1) (Nat.le_of_ble_eq_true rfl)
  rw [lg_entry_eq]
  generalize (lg_sl ([.ref h0]) ++ List.replicate (1 - (lg_sl ([.ref h0])).length) Slot.unset).toArray = ls at hl ⊢
  have hl : lv_has ls 1 [(0, .ref h0)] := hl
  have oi : Cond.code objectInit ⟨#[0xb1]⟩ 1 none ∈ wsX0_init := List.mem_of_getElem? (i := 3) rfl
  refine lv_aload_n hx hb dX0_init_0 rfl (lv_at hl 0 rfl) ?_
  refine W.objInit hx hb hown (hts (.methodLink RX0 3 objectInit) (by decide +kernel)) (hts (.instanceMethod objectInit) (by decide +kernel)) (hts _ oi) rfl (by rw [hml]; exact hl.1) rfl dX0_init_1 (Nat.le_of_ble_eq_true rfl) (Nat.le_of_ble_eq_true rfl) ?_
  refine W.eq (g2 := F0 m 4 ls []) rfl ?_
  refine lv_aload_n hx hb dX0_init_4 rfl (lv_at hl 0 rfl) ?_
  refine lv_sipush (v := 140) hx hb dX0_init_5 (by decide) ?_
  refine nw_int (N' := 140) 0 rfl hx hb (hts (.arrayClass .int) (by decide +kernel)) hK hP hD hS hA (by decide) (by decide) (by decide) (Nat.le_of_ble_eq_true rfl) (Nat.le_of_ble_eq_true rfl) dX0_init_8 (fun q1 H hP hD hS => ?_)
  have hP : va_P D vwCl [(h0, .inr (0, [.null, .int 0, .null, .null, .null, .null, .null])), (q1, .inl (cI, 140, .inl (fun _ => 0)))] H := hP
  have hD : va_D A [(h0, .inr (0, [.null, .int 0, .null, .null, .null, .null, .null])), (q1, .inl (cI, 140, .inl (fun _ => 0)))] := hD
  refine W.widen (k := 1) (n := 140) (by omega) (by omega) ?_
  refine va_putF (D := D) (ci := 0) (v := .ref q1) (C := RX0) (T := TX0) (N := 7) hx hb hts (by decide +kernel) tyX0 tyX0_ok nmX0 hown hK hP hD hS 0 rfl rfl 0 (by decide) (hts (.fieldLink RX0 9 "WhoseWork$Law" "cells" "[I") (by decide +kernel)) (fun _ h9 => h9) rfl hin rfl (tyX0_ok 0 (by decide)) rfl rfl (Nat.le_of_ble_eq_true rfl) dX0_init_10 (fun H locs hP hD hS => ?_)
  have hP : va_P D vwCl [(h0, .inr (0, [.ref q1, .int 0, .null, .null, .null, .null, .null])), (q1, .inl (cI, 140, .inl (fun _ => 0)))] H := hP
  have hD : va_D A [(h0, .inr (0, [.ref q1, .int 0, .null, .null, .null, .null, .null])), (q1, .inl (cI, 140, .inl (fun _ => 0)))] := hD
  refine lv_aload_n hx hb dX0_init_13 rfl (lv_at hl 0 rfl) ?_
  refine lv_sipush (v := 240) hx hb dX0_init_14 (by decide) ?_
  refine nw_int (N' := 240) 0 rfl hx hb (hts (.arrayClass .int) (by decide +kernel)) hK hP hD hS hA (by decide) (by decide) (by decide) (Nat.le_of_ble_eq_true rfl) (Nat.le_of_ble_eq_true rfl) dX0_init_17 (fun q2 H hP hD hS => ?_)
  have hP : va_P D vwCl [(h0, .inr (0, [.ref q1, .int 0, .null, .null, .null, .null, .null])), (q1, .inl (cI, 140, .inl (fun _ => 0))), (q2, .inl (cI, 240, .inl (fun _ => 0)))] H := hP
  have hD : va_D A [(h0, .inr (0, [.ref q1, .int 0, .null, .null, .null, .null, .null])), (q1, .inl (cI, 140, .inl (fun _ => 0))), (q2, .inl (cI, 240, .inl (fun _ => 0)))] := hD
  refine W.widen (k := 2) (n := 380) (by omega) (by omega) ?_
  refine va_putF (D := D) (ci := 0) (v := .ref q2) (C := RX0) (T := TX0) (N := 7) hx hb hts (by decide +kernel) tyX0 tyX0_ok nmX0 hown hK hP hD hS 0 rfl rfl 2 (by decide) (hts (.fieldLink RX0 15 "WhoseWork$Law" "within" "[I") (by decide +kernel)) (fun _ h9 => h9) rfl hin rfl (tyX0_ok 2 (by decide)) rfl rfl (Nat.le_of_ble_eq_true rfl) dX0_init_19 (fun H locs hP hD hS => ?_)
  have hP : va_P D vwCl [(h0, .inr (0, [.ref q1, .int 0, .ref q2, .null, .null, .null, .null])), (q1, .inl (cI, 140, .inl (fun _ => 0))), (q2, .inl (cI, 240, .inl (fun _ => 0)))] H := hP
  have hD : va_D A [(h0, .inr (0, [.ref q1, .int 0, .ref q2, .null, .null, .null, .null])), (q1, .inl (cI, 140, .inl (fun _ => 0))), (q2, .inl (cI, 240, .inl (fun _ => 0)))] := hD
  refine lv_aload_n hx hb dX0_init_22 rfl (lv_at hl 0 rfl) ?_
  refine lv_bipush (v := 6) hx hb dX0_init_23 (by decide) ?_
  refine nw_int (N' := 6) 0 rfl hx hb (hts (.arrayClass .int) (by decide +kernel)) hK hP hD hS hA (by decide) (by decide) (by decide) (Nat.le_of_ble_eq_true rfl) (Nat.le_of_ble_eq_true rfl) dX0_init_25 (fun q3 H hP hD hS => ?_)
  have hP : va_P D vwCl [(h0, .inr (0, [.ref q1, .int 0, .ref q2, .null, .null, .null, .null])), (q1, .inl (cI, 140, .inl (fun _ => 0))), (q2, .inl (cI, 240, .inl (fun _ => 0))), (q3, .inl (cI, 6, .inl (fun _ => 0)))] H := hP
  have hD : va_D A [(h0, .inr (0, [.ref q1, .int 0, .ref q2, .null, .null, .null, .null])), (q1, .inl (cI, 140, .inl (fun _ => 0))), (q2, .inl (cI, 240, .inl (fun _ => 0))), (q3, .inl (cI, 6, .inl (fun _ => 0)))] := hD
  refine W.widen (k := 3) (n := 386) (by omega) (by omega) ?_
  refine va_putF (D := D) (ci := 0) (v := .ref q3) (C := RX0) (T := TX0) (N := 7) hx hb hts (by decide +kernel) tyX0 tyX0_ok nmX0 hown hK hP hD hS 0 rfl rfl 3 (by decide) (hts (.fieldLink RX0 18 "WhoseWork$Law" "grants" "[I") (by decide +kernel)) (fun _ h9 => h9) rfl hin rfl (tyX0_ok 3 (by decide)) rfl rfl (Nat.le_of_ble_eq_true rfl) dX0_init_27 (fun H locs hP hD hS => ?_)
  have hP : va_P D vwCl [(h0, .inr (0, [.ref q1, .int 0, .ref q2, .ref q3, .null, .null, .null])), (q1, .inl (cI, 140, .inl (fun _ => 0))), (q2, .inl (cI, 240, .inl (fun _ => 0))), (q3, .inl (cI, 6, .inl (fun _ => 0)))] H := hP
  have hD : va_D A [(h0, .inr (0, [.ref q1, .int 0, .ref q2, .ref q3, .null, .null, .null])), (q1, .inl (cI, 140, .inl (fun _ => 0))), (q2, .inl (cI, 240, .inl (fun _ => 0))), (q3, .inl (cI, 6, .inl (fun _ => 0)))] := hD
  refine lv_aload_n hx hb dX0_init_30 rfl (lv_at hl 0 rfl) ?_
  refine lv_bipush (v := 6) hx hb dX0_init_31 (by decide) ?_
  refine nw_int (N' := 6) 0 rfl hx hb (hts (.arrayClass .int) (by decide +kernel)) hK hP hD hS hA (by decide) (by decide) (by decide) (Nat.le_of_ble_eq_true rfl) (Nat.le_of_ble_eq_true rfl) dX0_init_33 (fun q4 H hP hD hS => ?_)
  have hP : va_P D vwCl [(h0, .inr (0, [.ref q1, .int 0, .ref q2, .ref q3, .null, .null, .null])), (q1, .inl (cI, 140, .inl (fun _ => 0))), (q2, .inl (cI, 240, .inl (fun _ => 0))), (q3, .inl (cI, 6, .inl (fun _ => 0))), (q4, .inl (cI, 6, .inl (fun _ => 0)))] H := hP
  have hD : va_D A [(h0, .inr (0, [.ref q1, .int 0, .ref q2, .ref q3, .null, .null, .null])), (q1, .inl (cI, 140, .inl (fun _ => 0))), (q2, .inl (cI, 240, .inl (fun _ => 0))), (q3, .inl (cI, 6, .inl (fun _ => 0))), (q4, .inl (cI, 6, .inl (fun _ => 0)))] := hD
  refine W.widen (k := 4) (n := 392) (by omega) (by omega) ?_
  refine va_putF (D := D) (ci := 0) (v := .ref q4) (C := RX0) (T := TX0) (N := 7) hx hb hts (by decide +kernel) tyX0 tyX0_ok nmX0 hown hK hP hD hS 0 rfl rfl 4 (by decide) (hts (.fieldLink RX0 21 "WhoseWork$Law" "onlys" "[I") (by decide +kernel)) (fun _ h9 => h9) rfl hin rfl (tyX0_ok 4 (by decide)) rfl rfl (Nat.le_of_ble_eq_true rfl) dX0_init_35 (fun H locs hP hD hS => ?_)
  have hP : va_P D vwCl [(h0, .inr (0, [.ref q1, .int 0, .ref q2, .ref q3, .ref q4, .null, .null])), (q1, .inl (cI, 140, .inl (fun _ => 0))), (q2, .inl (cI, 240, .inl (fun _ => 0))), (q3, .inl (cI, 6, .inl (fun _ => 0))), (q4, .inl (cI, 6, .inl (fun _ => 0)))] H := hP
  have hD : va_D A [(h0, .inr (0, [.ref q1, .int 0, .ref q2, .ref q3, .ref q4, .null, .null])), (q1, .inl (cI, 140, .inl (fun _ => 0))), (q2, .inl (cI, 240, .inl (fun _ => 0))), (q3, .inl (cI, 6, .inl (fun _ => 0))), (q4, .inl (cI, 6, .inl (fun _ => 0)))] := hD
  refine lv_aload_n hx hb dX0_init_38 rfl (lv_at hl 0 rfl) ?_
  refine lv_bipush (v := 6) hx hb dX0_init_39 (by decide) ?_
  refine nw_int (N' := 6) 0 rfl hx hb (hts (.arrayClass .int) (by decide +kernel)) hK hP hD hS hA (by decide) (by decide) (by decide) (Nat.le_of_ble_eq_true rfl) (Nat.le_of_ble_eq_true rfl) dX0_init_41 (fun q5 H hP hD hS => ?_)
  have hP : va_P D vwCl [(h0, .inr (0, [.ref q1, .int 0, .ref q2, .ref q3, .ref q4, .null, .null])), (q1, .inl (cI, 140, .inl (fun _ => 0))), (q2, .inl (cI, 240, .inl (fun _ => 0))), (q3, .inl (cI, 6, .inl (fun _ => 0))), (q4, .inl (cI, 6, .inl (fun _ => 0))), (q5, .inl (cI, 6, .inl (fun _ => 0)))] H := hP
  have hD : va_D A [(h0, .inr (0, [.ref q1, .int 0, .ref q2, .ref q3, .ref q4, .null, .null])), (q1, .inl (cI, 140, .inl (fun _ => 0))), (q2, .inl (cI, 240, .inl (fun _ => 0))), (q3, .inl (cI, 6, .inl (fun _ => 0))), (q4, .inl (cI, 6, .inl (fun _ => 0))), (q5, .inl (cI, 6, .inl (fun _ => 0)))] := hD
  refine W.widen (k := 5) (n := 398) (by omega) (by omega) ?_
  refine va_putF (D := D) (ci := 0) (v := .ref q5) (C := RX0) (T := TX0) (N := 7) hx hb hts (by decide +kernel) tyX0 tyX0_ok nmX0 hown hK hP hD hS 0 rfl rfl 5 (by decide) (hts (.fieldLink RX0 24 "WhoseWork$Law" "foreignOnlys" "[I") (by decide +kernel)) (fun _ h9 => h9) rfl hin rfl (tyX0_ok 5 (by decide)) rfl rfl (Nat.le_of_ble_eq_true rfl) dX0_init_43 (fun H locs hP hD hS => ?_)
  have hP : va_P D vwCl [(h0, .inr (0, [.ref q1, .int 0, .ref q2, .ref q3, .ref q4, .ref q5, .null])), (q1, .inl (cI, 140, .inl (fun _ => 0))), (q2, .inl (cI, 240, .inl (fun _ => 0))), (q3, .inl (cI, 6, .inl (fun _ => 0))), (q4, .inl (cI, 6, .inl (fun _ => 0))), (q5, .inl (cI, 6, .inl (fun _ => 0)))] H := hP
  have hD : va_D A [(h0, .inr (0, [.ref q1, .int 0, .ref q2, .ref q3, .ref q4, .ref q5, .null])), (q1, .inl (cI, 140, .inl (fun _ => 0))), (q2, .inl (cI, 240, .inl (fun _ => 0))), (q3, .inl (cI, 6, .inl (fun _ => 0))), (q4, .inl (cI, 6, .inl (fun _ => 0))), (q5, .inl (cI, 6, .inl (fun _ => 0)))] := hD
  refine lv_aload_n hx hb dX0_init_46 rfl (lv_at hl 0 rfl) ?_
  refine lv_bipush (v := 6) hx hb dX0_init_47 (by decide) ?_
  refine nw_int (N' := 6) 0 rfl hx hb (hts (.arrayClass .int) (by decide +kernel)) hK hP hD hS hA (by decide) (by decide) (by decide) (Nat.le_of_ble_eq_true rfl) (Nat.le_of_ble_eq_true rfl) dX0_init_49 (fun q6 H hP hD hS => ?_)
  have hP : va_P D vwCl [(h0, .inr (0, [.ref q1, .int 0, .ref q2, .ref q3, .ref q4, .ref q5, .null])), (q1, .inl (cI, 140, .inl (fun _ => 0))), (q2, .inl (cI, 240, .inl (fun _ => 0))), (q3, .inl (cI, 6, .inl (fun _ => 0))), (q4, .inl (cI, 6, .inl (fun _ => 0))), (q5, .inl (cI, 6, .inl (fun _ => 0))), (q6, .inl (cI, 6, .inl (fun _ => 0)))] H := hP
  have hD : va_D A [(h0, .inr (0, [.ref q1, .int 0, .ref q2, .ref q3, .ref q4, .ref q5, .null])), (q1, .inl (cI, 140, .inl (fun _ => 0))), (q2, .inl (cI, 240, .inl (fun _ => 0))), (q3, .inl (cI, 6, .inl (fun _ => 0))), (q4, .inl (cI, 6, .inl (fun _ => 0))), (q5, .inl (cI, 6, .inl (fun _ => 0))), (q6, .inl (cI, 6, .inl (fun _ => 0)))] := hD
  refine W.widen (k := 6) (n := 404) (by omega) (by omega) ?_
  refine va_putF (D := D) (ci := 0) (v := .ref q6) (C := RX0) (T := TX0) (N := 7) hx hb hts (by decide +kernel) tyX0 tyX0_ok nmX0 hown hK hP hD hS 0 rfl rfl 6 (by decide) (hts (.fieldLink RX0 27 "WhoseWork$Law" "plain" "[I") (by decide +kernel)) (fun _ h9 => h9) rfl hin rfl (tyX0_ok 6 (by decide)) rfl rfl (Nat.le_of_ble_eq_true rfl) dX0_init_51 (fun H locs hP hD hS => ?_)
  have hP : va_P D vwCl [(h0, .inr (0, [.ref q1, .int 0, .ref q2, .ref q3, .ref q4, .ref q5, .ref q6])), (q1, .inl (cI, 140, .inl (fun _ => 0))), (q2, .inl (cI, 240, .inl (fun _ => 0))), (q3, .inl (cI, 6, .inl (fun _ => 0))), (q4, .inl (cI, 6, .inl (fun _ => 0))), (q5, .inl (cI, 6, .inl (fun _ => 0))), (q6, .inl (cI, 6, .inl (fun _ => 0)))] H := hP
  have hD : va_D A [(h0, .inr (0, [.ref q1, .int 0, .ref q2, .ref q3, .ref q4, .ref q5, .ref q6])), (q1, .inl (cI, 140, .inl (fun _ => 0))), (q2, .inl (cI, 240, .inl (fun _ => 0))), (q3, .inl (cI, 6, .inl (fun _ => 0))), (q4, .inl (cI, 6, .inl (fun _ => 0))), (q5, .inl (cI, 6, .inl (fun _ => 0))), (q6, .inl (cI, 6, .inl (fun _ => 0)))] := hD
  have hP9 := hP.sub (ws' := r0 cI h0 (fun k => [q1, q2, q3, q4, q5, q6].getD k 0)) [0, 1, 2, 3, 4, 5, 6] rfl
  have hD9 := hD.sub (ws' := r0 cI h0 (fun k => [q1, q2, q3, q4, q5, q6].getD k 0)) [0, 1, 2, 3, 4, 5, 6] (by decide) rfl
  exact W.vret hx hb hr (fun t ht hW => ⟨⟨(fun k => [q1, q2, q3, q4, q5, q6].getD k 0), rfl, trivial, by rw [ht]; exact hP9, hD9⟩, hS.F ht⟩) hS.2.2 dX0_init_54
def r1 (cI : ClassId) (h0 a1 a2 : Nat) (u : Nat → Nat) : va_W := [(h0, .inr (1, [.ref a1, .ref a2, .ref (u 0)])), (u 0, .inl (cI, 54, .inl (fun _ => 0)))]
set_option maxHeartbeats 4000000 in
set_option maxRecDepth 100000 in
theorem c1_init (l : Launch) (D : va_G) (cI : ClassId) (h0 a1 a2 sz : Nat) : Met l yX1_init wsX1_init ({ frames := 1, cells := 1, slots := 54, locals := 12 } : Room) (va_Pc [.ref h0, .ref a1, .ref a2] (fun U => U.heap.size = sz ∧ va_P D vwCl [(h0, .inr (1, [.null, .null, .null]))] U.heap ∧ va_K D vwCl [(cI, .int)] U ∧ va_D (fun _ => True) [(h0, .inr (1, [.null, .null, .null]))])) (va_Qv (fun _ : Nat → Nat => True) (fun u t => va_P D vwCl (r1 cI h0 a1 a2 u) t.heap ∧ va_D (va_A [(h0, .inr (1, [.null, .null, .null]))] sz) (r1 cI h0 a1 a2 u)) (va_A [(h0, .inr (1, [.null, .null, .null]))] sz)) 1 54 (va_A [(h0, .inr (1, [.null, .null, .null]))] sz) := by
  refine Met.ofW (cc := cX1_init) (maxL := 3) (ret := none) (by decide) rfl ?_
  intro p e s m args below meth c s₁ B hml hv
  obtain ⟨rfl, hsz, hP, hK, hD0⟩ := hv
  have hx := B.exec
  have hb := B.bytes
  have hr := B.returns
  have hts := atoms_spec (ws := wsX1_init) B.pre
  have hown : s.vm.findClass RX1 = some m.cls := findClass_of_methodNamed B.named
  have hlocks := B.notSynchronized
  have hin : meth.name = "<init>" := (name_of_methodNamed B.named B.method).1
  subst hsz
  have hD := hD0.self (sz := s.heap.size)
  generalize hAe : va_A [(h0, .inr (1, [.null, .null, .null]))] s.heap.size = A at hD ⊢
  have hA : ∀ q : Nat, s.heap.size ≤ q → A q := fun q h => by rw [← hAe]; exact Or.inr h
  have hS : va_S A s.heap s.heap [] := va_S.rf
  have hP : va_P D vwCl [(h0, .inr (1, [.null, .null, .null]))] s.heap := hP
  have hl := lv_entry ([.ref h0, .ref a1, .ref a2]) (n := 3) (Nat.le_of_ble_eq_true rfl)
  rw [lg_entry_eq]
  generalize (lg_sl ([.ref h0, .ref a1, .ref a2]) ++ List.replicate (3 - (lg_sl ([.ref h0, .ref a1, .ref a2])).length) Slot.unset).toArray = ls at hl ⊢
  have hl : lv_has ls 3 [(0, .ref h0), (1, .ref a1), (2, .ref a2)] := hl
  have oi : Cond.code objectInit ⟨#[0xb1]⟩ 1 none ∈ wsX1_init := List.mem_of_getElem? (i := 3) rfl
  refine lv_aload_n hx hb dX1_init_0 rfl (lv_at hl 0 rfl) ?_
  refine W.objInit hx hb hown (hts (.methodLink RX1 3 objectInit) (by decide +kernel)) (hts (.instanceMethod objectInit) (by decide +kernel)) (hts _ oi) rfl (by rw [hml]; exact hl.1) rfl dX1_init_1 (Nat.le_of_ble_eq_true rfl) (Nat.le_of_ble_eq_true rfl) ?_
  refine W.eq (g2 := F0 m 4 ls []) rfl ?_
  refine lv_aload_n hx hb dX1_init_4 rfl (lv_at hl 0 rfl) ?_
  refine lv_bipush (v := 54) hx hb dX1_init_5 (by decide) ?_
  refine nw_int (N' := 54) 0 rfl hx hb (hts (.arrayClass .int) (by decide +kernel)) hK hP hD hS hA (by decide) (by decide) (by decide) (Nat.le_of_ble_eq_true rfl) (Nat.le_of_ble_eq_true rfl) dX1_init_7 (fun q1 H hP hD hS => ?_)
  have hP : va_P D vwCl [(h0, .inr (1, [.null, .null, .null])), (q1, .inl (cI, 54, .inl (fun _ => 0)))] H := hP
  have hD : va_D A [(h0, .inr (1, [.null, .null, .null])), (q1, .inl (cI, 54, .inl (fun _ => 0)))] := hD
  refine W.widen (k := 1) (n := 54) (by omega) (by omega) ?_
  refine va_putF (D := D) (ci := 1) (v := .ref q1) (C := RX1) (T := TX1) (N := 3) hx hb hts (by decide +kernel) tyX1 tyX1_ok nmX1 hown hK hP hD hS 0 rfl rfl 2 (by decide) (hts (.fieldLink RX1 9 "WhoseWork$Maker" "onward" "[I") (by decide +kernel)) (fun _ h9 => h9) rfl hin rfl (tyX1_ok 2 (by decide)) rfl rfl (Nat.le_of_ble_eq_true rfl) dX1_init_9 (fun H locs hP hD hS => ?_)
  have hP : va_P D vwCl [(h0, .inr (1, [.null, .null, .ref q1])), (q1, .inl (cI, 54, .inl (fun _ => 0)))] H := hP
  have hD : va_D A [(h0, .inr (1, [.null, .null, .ref q1])), (q1, .inl (cI, 54, .inl (fun _ => 0)))] := hD
  refine lv_aload_n hx hb dX1_init_12 rfl (lv_at hl 0 rfl) ?_
  refine lv_aload_n hx hb dX1_init_13 rfl (lv_at hl 1 rfl) ?_
  refine va_putF (D := D) (ci := 1) (v := .ref a1) (C := RX1) (T := TX1) (N := 3) hx hb hts (by decide +kernel) tyX1 tyX1_ok nmX1 hown hK hP hD hS 0 rfl rfl 0 (by decide) (hts (.fieldLink RX1 15 "WhoseWork$Maker" "law" "LWhoseWork$Law;") (by decide +kernel)) (fun _ h9 => h9) rfl hin rfl (tyX1_ok 0 (by decide)) rfl rfl (Nat.le_of_ble_eq_true rfl) dX1_init_14 (fun H locs hP hD hS => ?_)
  have hP : va_P D vwCl [(h0, .inr (1, [.ref a1, .null, .ref q1])), (q1, .inl (cI, 54, .inl (fun _ => 0)))] H := hP
  have hD : va_D A [(h0, .inr (1, [.ref a1, .null, .ref q1])), (q1, .inl (cI, 54, .inl (fun _ => 0)))] := hD
  refine lv_aload_n hx hb dX1_init_17 rfl (lv_at hl 0 rfl) ?_
  refine lv_aload_n hx hb dX1_init_18 rfl (lv_at hl 2 rfl) ?_
  refine va_putF (D := D) (ci := 1) (v := .ref a2) (C := RX1) (T := TX1) (N := 3) hx hb hts (by decide +kernel) tyX1 tyX1_ok nmX1 hown hK hP hD hS 0 rfl rfl 1 (by decide) (hts (.fieldLink RX1 19 "WhoseWork$Maker" "tariff" "LWhoseWork$Tariff;") (by decide +kernel)) (fun _ h9 => h9) rfl hin rfl (tyX1_ok 1 (by decide)) rfl rfl (Nat.le_of_ble_eq_true rfl) dX1_init_19 (fun H locs hP hD hS => ?_)
  have hP : va_P D vwCl [(h0, .inr (1, [.ref a1, .ref a2, .ref q1])), (q1, .inl (cI, 54, .inl (fun _ => 0)))] H := hP
  have hD : va_D A [(h0, .inr (1, [.ref a1, .ref a2, .ref q1])), (q1, .inl (cI, 54, .inl (fun _ => 0)))] := hD
  have hP9 := hP.sub (ws' := r1 cI h0 a1 a2 (fun k => [q1].getD k 0)) [0, 1] rfl
  have hD9 := hD.sub (ws' := r1 cI h0 a1 a2 (fun k => [q1].getD k 0)) [0, 1] (by decide) rfl
  exact W.vret hx hb hr (fun t ht hW => ⟨⟨(fun k => [q1].getD k 0), rfl, trivial, by rw [ht]; exact hP9, hD9⟩, hS.F ht⟩) hS.2.2 dX1_init_22
def r6 (cI : ClassId) (h0 : Nat) (u : Nat → Nat) : va_W := [(h0, .inr (6, [.ref (u 0), .int 0])), (u 0, .inl (cI, 16, .inl (fun _ => 0)))]
set_option maxHeartbeats 4000000 in
set_option maxRecDepth 100000 in
theorem c6_init (l : Launch) (D : va_G) (cI : ClassId) (h0 sz : Nat) : Met l yX6_init wsX6_init ({ frames := 1, cells := 1, slots := 16, locals := 12 } : Room) (va_Pc [.ref h0] (fun U => U.heap.size = sz ∧ va_P D vwCl [(h0, .inr (6, [.null, .int 0]))] U.heap ∧ va_K D vwCl [(cI, .int)] U ∧ va_D (fun _ => True) [(h0, .inr (6, [.null, .int 0]))])) (va_Qv (fun _ : Nat → Nat => True) (fun u t => va_P D vwCl (r6 cI h0 u) t.heap ∧ va_D (va_A [(h0, .inr (6, [.null, .int 0]))] sz) (r6 cI h0 u)) (va_A [(h0, .inr (6, [.null, .int 0]))] sz)) 1 16 (va_A [(h0, .inr (6, [.null, .int 0]))] sz) := by
  refine Met.ofW (cc := cX6_init) (maxL := 1) (ret := none) (by decide) rfl ?_
  intro p e s m args below meth c s₁ B hml hv
  obtain ⟨rfl, hsz, hP, hK, hD0⟩ := hv
  have hx := B.exec
  have hb := B.bytes
  have hr := B.returns
  have hts := atoms_spec (ws := wsX6_init) B.pre
  have hown : s.vm.findClass RX6 = some m.cls := findClass_of_methodNamed B.named
  have hlocks := B.notSynchronized
  have hin : meth.name = "<init>" := (name_of_methodNamed B.named B.method).1
  subst hsz
  have hD := hD0.self (sz := s.heap.size)
  generalize hAe : va_A [(h0, .inr (6, [.null, .int 0]))] s.heap.size = A at hD ⊢
  have hA : ∀ q : Nat, s.heap.size ≤ q → A q := fun q h => by rw [← hAe]; exact Or.inr h
  have hS : va_S A s.heap s.heap [] := va_S.rf
  have hP : va_P D vwCl [(h0, .inr (6, [.null, .int 0]))] s.heap := hP
  have hl := lv_entry ([.ref h0]) (n := 1) (Nat.le_of_ble_eq_true rfl)
  rw [lg_entry_eq]
  generalize (lg_sl ([.ref h0]) ++ List.replicate (1 - (lg_sl ([.ref h0])).length) Slot.unset).toArray = ls at hl ⊢
  have hl : lv_has ls 1 [(0, .ref h0)] := hl
  have oi : Cond.code objectInit ⟨#[0xb1]⟩ 1 none ∈ wsX6_init := List.mem_of_getElem? (i := 3) rfl
  refine lv_aload_n hx hb dX6_init_0 rfl (lv_at hl 0 rfl) ?_
  refine W.objInit hx hb hown (hts (.methodLink RX6 3 objectInit) (by decide +kernel)) (hts (.instanceMethod objectInit) (by decide +kernel)) (hts _ oi) rfl (by rw [hml]; exact hl.1) rfl dX6_init_1 (Nat.le_of_ble_eq_true rfl) (Nat.le_of_ble_eq_true rfl) ?_
  refine W.eq (g2 := F0 m 4 ls []) rfl ?_
  refine lv_aload_n hx hb dX6_init_4 rfl (lv_at hl 0 rfl) ?_
  refine lv_bipush (v := 16) hx hb dX6_init_5 (by decide) ?_
  refine nw_int (N' := 16) 0 rfl hx hb (hts (.arrayClass .int) (by decide +kernel)) hK hP hD hS hA (by decide) (by decide) (by decide) (Nat.le_of_ble_eq_true rfl) (Nat.le_of_ble_eq_true rfl) dX6_init_7 (fun q1 H hP hD hS => ?_)
  have hP : va_P D vwCl [(h0, .inr (6, [.null, .int 0])), (q1, .inl (cI, 16, .inl (fun _ => 0)))] H := hP
  have hD : va_D A [(h0, .inr (6, [.null, .int 0])), (q1, .inl (cI, 16, .inl (fun _ => 0)))] := hD
  refine W.widen (k := 1) (n := 16) (by omega) (by omega) ?_
  refine va_putF (D := D) (ci := 6) (v := .ref q1) (C := RX6) (T := TX6) (N := 2) hx hb hts (by decide +kernel) tyX6 tyX6_ok nmX6 hown hK hP hD hS 0 rfl rfl 0 (by decide) (hts (.fieldLink RX6 9 "WhoseWork$Thing" "works" "[I") (by decide +kernel)) (fun _ h9 => h9) rfl hin rfl (tyX6_ok 0 (by decide)) rfl rfl (Nat.le_of_ble_eq_true rfl) dX6_init_9 (fun H locs hP hD hS => ?_)
  have hP : va_P D vwCl [(h0, .inr (6, [.ref q1, .int 0])), (q1, .inl (cI, 16, .inl (fun _ => 0)))] H := hP
  have hD : va_D A [(h0, .inr (6, [.ref q1, .int 0])), (q1, .inl (cI, 16, .inl (fun _ => 0)))] := hD
  have hP9 := hP.sub (ws' := r6 cI h0 (fun k => [q1].getD k 0)) [0, 1] rfl
  have hD9 := hD.sub (ws' := r6 cI h0 (fun k => [q1].getD k 0)) [0, 1] (by decide) rfl
  exact W.vret hx hb hr (fun t ht hW => ⟨⟨(fun k => [q1].getD k 0), rfl, trivial, by rw [ht]; exact hP9, hD9⟩, hS.F ht⟩) hS.2.2 dX6_init_12
def r3 (cI : ClassId) (h0 : Nat) (u : Nat → Nat) : va_W := [(h0, .inr (3, [.ref (u 0), .ref (u 1), .ref (u 2), .int 0])), (u 0, .inl (cI, 16, .inl (fun _ => 0))), (u 1, .inl (cI, 16, .inl (fun _ => 0))), (u 2, .inl (cI, 16, .inl (fun _ => 0)))]
set_option maxHeartbeats 4000000 in
set_option maxRecDepth 100000 in
theorem c3_init (l : Launch) (D : va_G) (cI : ClassId) (h0 sz : Nat) : Met l yX3_init wsX3_init ({ frames := 1, cells := 3, slots := 48, locals := 12 } : Room) (va_Pc [.ref h0] (fun U => U.heap.size = sz ∧ va_P D vwCl [(h0, .inr (3, [.null, .null, .null, .int 0]))] U.heap ∧ va_K D vwCl [(cI, .int)] U ∧ va_D (fun _ => True) [(h0, .inr (3, [.null, .null, .null, .int 0]))])) (va_Qv (fun _ : Nat → Nat => True) (fun u t => va_P D vwCl (r3 cI h0 u) t.heap ∧ va_D (va_A [(h0, .inr (3, [.null, .null, .null, .int 0]))] sz) (r3 cI h0 u)) (va_A [(h0, .inr (3, [.null, .null, .null, .int 0]))] sz)) 3 48 (va_A [(h0, .inr (3, [.null, .null, .null, .int 0]))] sz) := by
  refine Met.ofW (cc := cX3_init) (maxL := 1) (ret := none) (by decide) rfl ?_
  intro p e s m args below meth c s₁ B hml hv
  obtain ⟨rfl, hsz, hP, hK, hD0⟩ := hv
  have hx := B.exec
  have hb := B.bytes
  have hr := B.returns
  have hts := atoms_spec (ws := wsX3_init) B.pre
  have hown : s.vm.findClass RX3 = some m.cls := findClass_of_methodNamed B.named
  have hlocks := B.notSynchronized
  have hin : meth.name = "<init>" := (name_of_methodNamed B.named B.method).1
  subst hsz
  have hD := hD0.self (sz := s.heap.size)
  generalize hAe : va_A [(h0, .inr (3, [.null, .null, .null, .int 0]))] s.heap.size = A at hD ⊢
  have hA : ∀ q : Nat, s.heap.size ≤ q → A q := fun q h => by rw [← hAe]; exact Or.inr h
  have hS : va_S A s.heap s.heap [] := va_S.rf
  have hP : va_P D vwCl [(h0, .inr (3, [.null, .null, .null, .int 0]))] s.heap := hP
  have hl := lv_entry ([.ref h0]) (n := 1) (Nat.le_of_ble_eq_true rfl)
  rw [lg_entry_eq]
  generalize (lg_sl ([.ref h0]) ++ List.replicate (1 - (lg_sl ([.ref h0])).length) Slot.unset).toArray = ls at hl ⊢
  have hl : lv_has ls 1 [(0, .ref h0)] := hl
  have oi : Cond.code objectInit ⟨#[0xb1]⟩ 1 none ∈ wsX3_init := List.mem_of_getElem? (i := 3) rfl
  refine lv_aload_n hx hb dX3_init_0 rfl (lv_at hl 0 rfl) ?_
  refine W.objInit hx hb hown (hts (.methodLink RX3 3 objectInit) (by decide +kernel)) (hts (.instanceMethod objectInit) (by decide +kernel)) (hts _ oi) rfl (by rw [hml]; exact hl.1) rfl dX3_init_1 (Nat.le_of_ble_eq_true rfl) (Nat.le_of_ble_eq_true rfl) ?_
  refine W.eq (g2 := F0 m 4 ls []) rfl ?_
  refine lv_aload_n hx hb dX3_init_4 rfl (lv_at hl 0 rfl) ?_
  refine lv_bipush (v := 16) hx hb dX3_init_5 (by decide) ?_
  refine nw_int (N' := 16) 0 rfl hx hb (hts (.arrayClass .int) (by decide +kernel)) hK hP hD hS hA (by decide) (by decide) (by decide) (Nat.le_of_ble_eq_true rfl) (Nat.le_of_ble_eq_true rfl) dX3_init_7 (fun q1 H hP hD hS => ?_)
  have hP : va_P D vwCl [(h0, .inr (3, [.null, .null, .null, .int 0])), (q1, .inl (cI, 16, .inl (fun _ => 0)))] H := hP
  have hD : va_D A [(h0, .inr (3, [.null, .null, .null, .int 0])), (q1, .inl (cI, 16, .inl (fun _ => 0)))] := hD
  refine W.widen (k := 1) (n := 16) (by omega) (by omega) ?_
  refine va_putF (D := D) (ci := 3) (v := .ref q1) (C := RX3) (T := TX3) (N := 4) hx hb hts (by decide +kernel) tyX3 tyX3_ok nmX3 hown hK hP hD hS 0 rfl rfl 0 (by decide) (hts (.fieldLink RX3 9 "WhoseWork$Seizures" "guilds" "[I") (by decide +kernel)) (fun _ h9 => h9) rfl hin rfl (tyX3_ok 0 (by decide)) rfl rfl (Nat.le_of_ble_eq_true rfl) dX3_init_9 (fun H locs hP hD hS => ?_)
  have hP : va_P D vwCl [(h0, .inr (3, [.ref q1, .null, .null, .int 0])), (q1, .inl (cI, 16, .inl (fun _ => 0)))] H := hP
  have hD : va_D A [(h0, .inr (3, [.ref q1, .null, .null, .int 0])), (q1, .inl (cI, 16, .inl (fun _ => 0)))] := hD
  refine lv_aload_n hx hb dX3_init_12 rfl (lv_at hl 0 rfl) ?_
  refine lv_bipush (v := 16) hx hb dX3_init_13 (by decide) ?_
  refine nw_int (N' := 16) 0 rfl hx hb (hts (.arrayClass .int) (by decide +kernel)) hK hP hD hS hA (by decide) (by decide) (by decide) (Nat.le_of_ble_eq_true rfl) (Nat.le_of_ble_eq_true rfl) dX3_init_15 (fun q2 H hP hD hS => ?_)
  have hP : va_P D vwCl [(h0, .inr (3, [.ref q1, .null, .null, .int 0])), (q1, .inl (cI, 16, .inl (fun _ => 0))), (q2, .inl (cI, 16, .inl (fun _ => 0)))] H := hP
  have hD : va_D A [(h0, .inr (3, [.ref q1, .null, .null, .int 0])), (q1, .inl (cI, 16, .inl (fun _ => 0))), (q2, .inl (cI, 16, .inl (fun _ => 0)))] := hD
  refine W.widen (k := 2) (n := 32) (by omega) (by omega) ?_
  refine va_putF (D := D) (ci := 3) (v := .ref q2) (C := RX3) (T := TX3) (N := 4) hx hb hts (by decide +kernel) tyX3 tyX3_ok nmX3 hown hK hP hD hS 0 rfl rfl 1 (by decide) (hts (.fieldLink RX3 15 "WhoseWork$Seizures" "works" "[I") (by decide +kernel)) (fun _ h9 => h9) rfl hin rfl (tyX3_ok 1 (by decide)) rfl rfl (Nat.le_of_ble_eq_true rfl) dX3_init_17 (fun H locs hP hD hS => ?_)
  have hP : va_P D vwCl [(h0, .inr (3, [.ref q1, .ref q2, .null, .int 0])), (q1, .inl (cI, 16, .inl (fun _ => 0))), (q2, .inl (cI, 16, .inl (fun _ => 0)))] H := hP
  have hD : va_D A [(h0, .inr (3, [.ref q1, .ref q2, .null, .int 0])), (q1, .inl (cI, 16, .inl (fun _ => 0))), (q2, .inl (cI, 16, .inl (fun _ => 0)))] := hD
  refine lv_aload_n hx hb dX3_init_20 rfl (lv_at hl 0 rfl) ?_
  refine lv_bipush (v := 16) hx hb dX3_init_21 (by decide) ?_
  refine nw_int (N' := 16) 0 rfl hx hb (hts (.arrayClass .int) (by decide +kernel)) hK hP hD hS hA (by decide) (by decide) (by decide) (Nat.le_of_ble_eq_true rfl) (Nat.le_of_ble_eq_true rfl) dX3_init_23 (fun q3 H hP hD hS => ?_)
  have hP : va_P D vwCl [(h0, .inr (3, [.ref q1, .ref q2, .null, .int 0])), (q1, .inl (cI, 16, .inl (fun _ => 0))), (q2, .inl (cI, 16, .inl (fun _ => 0))), (q3, .inl (cI, 16, .inl (fun _ => 0)))] H := hP
  have hD : va_D A [(h0, .inr (3, [.ref q1, .ref q2, .null, .int 0])), (q1, .inl (cI, 16, .inl (fun _ => 0))), (q2, .inl (cI, 16, .inl (fun _ => 0))), (q3, .inl (cI, 16, .inl (fun _ => 0)))] := hD
  refine W.widen (k := 3) (n := 48) (by omega) (by omega) ?_
  refine va_putF (D := D) (ci := 3) (v := .ref q3) (C := RX3) (T := TX3) (N := 4) hx hb hts (by decide +kernel) tyX3 tyX3_ok nmX3 hown hK hP hD hS 0 rfl rfl 2 (by decide) (hts (.fieldLink RX3 18 "WhoseWork$Seizures" "boundsThen" "[I") (by decide +kernel)) (fun _ h9 => h9) rfl hin rfl (tyX3_ok 2 (by decide)) rfl rfl (Nat.le_of_ble_eq_true rfl) dX3_init_25 (fun H locs hP hD hS => ?_)
  have hP : va_P D vwCl [(h0, .inr (3, [.ref q1, .ref q2, .ref q3, .int 0])), (q1, .inl (cI, 16, .inl (fun _ => 0))), (q2, .inl (cI, 16, .inl (fun _ => 0))), (q3, .inl (cI, 16, .inl (fun _ => 0)))] H := hP
  have hD : va_D A [(h0, .inr (3, [.ref q1, .ref q2, .ref q3, .int 0])), (q1, .inl (cI, 16, .inl (fun _ => 0))), (q2, .inl (cI, 16, .inl (fun _ => 0))), (q3, .inl (cI, 16, .inl (fun _ => 0)))] := hD
  have hP9 := hP.sub (ws' := r3 cI h0 (fun k => [q1, q2, q3].getD k 0)) [0, 1, 2, 3] rfl
  have hD9 := hD.sub (ws' := r3 cI h0 (fun k => [q1, q2, q3].getD k 0)) [0, 1, 2, 3] (by decide) rfl
  exact W.vret hx hb hr (fun t ht hW => ⟨⟨(fun k => [q1, q2, q3].getD k 0), rfl, trivial, by rw [ht]; exact hP9, hD9⟩, hS.F ht⟩) hS.2.2 dX3_init_28
