/-! ===== the law: both systems beside each other ===== -/
theorem P_l {D : va_G} {cl : List vw_C} {w1 w2 : va_W} {H : Heap} (h : va_P D cl (w1 ++ w2) H) : va_P D cl w1 H := fun k q hq => h k q (by rw [List.getElem?_append_left (List.getElem?_eq_some_iff.mp hq).1]; exact hq)
theorem P_r {D : va_G} {cl : List vw_C} {w1 w2 : va_W} {H : Heap} (h : va_P D cl (w1 ++ w2) H) : va_P D cl w2 H := fun k q hq => h (w1.length + k) q (by rw [List.getElem?_append_right (by omega), show w1.length + k - w1.length = k by omega]; exact hq)
def aOf (w : va_W) : Nat → Prop := fun q => q ∈ w.map Prod.fst
theorem D_l {A : Nat → Prop} {w1 w2 : va_W} (h : va_D A (w1 ++ w2)) : va_D (aOf w1) w1 :=
  ⟨fun i j p q hi hj e => h.1 i j p q (by rw [List.getElem?_append_left (List.getElem?_eq_some_iff.mp hi).1]; exact hi) (by rw [List.getElem?_append_left (List.getElem?_eq_some_iff.mp hj).1]; exact hj) e, fun _ q hk => List.mem_map.mpr ⟨q, List.mem_of_getElem? hk, rfl⟩⟩
theorem D_r {A : Nat → Prop} {w1 w2 : va_W} (h : va_D A (w1 ++ w2)) : va_D (aOf w2) w2 := by
  refine ⟨fun i j p q hi hj e => ?_, fun _ q hk => List.mem_map.mpr ⟨q, List.mem_of_getElem? hk, rfl⟩⟩
  have := h.1 (w1.length + i) (w1.length + j) p q (by rw [List.getElem?_append_right (by omega), show w1.length + i - w1.length = i by omega]; exact hi) (by rw [List.getElem?_append_right (by omega), show w1.length + j - w1.length = j by omega]; exact hj) e
  omega
theorem D_cg {A : Nat → Prop} {w w' : va_W} (hm : w'.map Prod.fst = w.map Prod.fst) (h : va_D A w) : va_D A w' := by
  have key : ∀ (i : Nat) (p : Nat × va_E), w'[i]? = some p → ∃ p0, w[i]? = some p0 ∧ p0.1 = p.1 := by
    intro i p hi
    have h1 : (w'.map Prod.fst)[i]? = some p.1 := by rw [List.getElem?_map, hi]; rfl
    rw [hm, List.getElem?_map] at h1
    cases hw : w[i]? with
    | none => rw [hw] at h1; cases h1
    | some p0 => rw [hw] at h1; exact ⟨p0, rfl, Option.some.inj h1⟩
  refine ⟨fun i j p q hi hj e => ?_, fun k q hk => ?_⟩
  · obtain ⟨p0, a1, a2⟩ := key i p hi
    obtain ⟨q0, b1, b2⟩ := key j q hj
    exact h.1 i j p0 q0 a1 b1 (by rw [a2, b2]; exact e)
  · obtain ⟨q0, b1, b2⟩ := key k q hk
    rw [← b2]; exact h.2 k q0 b1
theorem A_l {A : Nat → Prop} {w1 w2 : va_W} (h : va_D A (w1 ++ w2)) : ∀ q, aOf w1 q → A q := by
  intro q hq
  obtain ⟨p, hp, rfl⟩ := List.mem_map.mp hq
  obtain ⟨i, hi⟩ := List.getElem?_of_mem hp
  exact h.2 i p (by rw [List.getElem?_append_left (List.getElem?_eq_some_iff.mp hi).1]; exact hi)
theorem A_r {A : Nat → Prop} {w1 w2 : va_W} (h : va_D A (w1 ++ w2)) : ∀ q, aOf w2 q → A q := by
  intro q hq
  obtain ⟨p, hp, rfl⟩ := List.mem_map.mp hq
  obtain ⟨i, hi⟩ := List.getElem?_of_mem hp
  exact h.2 (w1.length + i) p (by rw [List.getElem?_append_right (by omega), show w1.length + i - w1.length = i by omega]; exact hi)
theorem fr_l {D : va_G} {cl : List vw_C} {A : Nat → Prop} {w1 w1' w2 : va_W} {H H1 : Heap} (hP : va_P D cl (w1 ++ w2) H) (hD : va_D A (w1 ++ w2)) (hk : ∀ q : Nat, q < H.size → ¬ rl_A (aOf w1) H.size q → H1[q]? = H[q]?) (hP1 : va_P D cl w1' H1) (hm : w1'.map Prod.fst = w1.map Prod.fst) : va_P D cl (w1' ++ w2) H1 ∧ va_D A (w1' ++ w2) := by
  refine ⟨hP1.app (va_P.kept (P_r hP) (fun k q hq => hk q.1 (P_r hP k q hq).lt ?_)), D_cg (by rw [List.map_append, List.map_append, hm]) hD⟩
  rintro (h | h)
  · obtain ⟨p, hp, e⟩ := List.mem_map.mp h
    obtain ⟨i, hi⟩ := List.getElem?_of_mem hp
    have hil := (List.getElem?_eq_some_iff.mp hi).1
    have := hD.1 i (w1.length + k) p q (by rw [List.getElem?_append_left hil]; exact hi) (by rw [List.getElem?_append_right (by omega), show w1.length + k - w1.length = k by omega]; exact hq) e
    omega
  · exact absurd (P_r hP k q hq).lt (Nat.not_lt.mpr h)
theorem fr_r {D : va_G} {cl : List vw_C} {A : Nat → Prop} {w1 w2 w2' : va_W} {H H1 : Heap} (hP : va_P D cl (w1 ++ w2) H) (hD : va_D A (w1 ++ w2)) (hk : ∀ q : Nat, q < H.size → ¬ rl_A (aOf w2) H.size q → H1[q]? = H[q]?) (hP1 : va_P D cl w2' H1) (hm : w2'.map Prod.fst = w2.map Prod.fst) : va_P D cl (w1 ++ w2') H1 ∧ va_D A (w1 ++ w2') := by
  refine ⟨(va_P.kept (P_l hP) (fun k q hq => hk q.1 (P_l hP k q hq).lt ?_)).app hP1, D_cg (by rw [List.map_append, List.map_append, hm]) hD⟩
  have hkl := (List.getElem?_eq_some_iff.mp hq).1
  rintro (h | h)
  · obtain ⟨p, hp, e⟩ := List.mem_map.mp h
    obtain ⟨i, hi⟩ := List.getElem?_of_mem hp
    have := hD.1 (w1.length + i) k p q (by rw [List.getElem?_append_right (by omega), show w1.length + i - w1.length = i by omega]; exact hi) (by rw [List.getElem?_append_left hkl]; exact hq) e
    omega
  · exact absurd (P_l hP k q hq).lt (Nat.not_lt.mpr h)
def wL (a a' : Nat → Nat) (cI cT : ClassId) (u : St × St) : va_W := wX a cI cT u.1 ++ wM a' cI u.2
/-- all that is fixed while the law runs -/
def LawE (p : Program) (s : State) (m : MethodId) (meth : Method) (c : Code) (b L : Nat) (xs : Nat → Int32) (D : va_G) (cI cT : ClassId) (xx : Rx) : Prop :=
  p.tables.exec = Jvm.exec ∧ c.code = cL_law ∧ c.maxLocals = 4 ∧ s.vm.findClass RL = some m.cls ∧ (∀ w ∈ wsL_law, w.before #[Value.ref b] s = true) ∧ va_K D vwCl (tyX cI cT) s ∧ va_X b L xs s s.heap ∧ b < s.heap.size ∧ roX xx (fun q => s.heap.size ≤ q) s s.heap ∧ meth.sig.returnType = ret ∧ meth.locks = false ∧ L ≤ 2560
/-- the law's goal: both worlds as u says, at pc with locals lv and stack st -/
def lawG (p : Program) (l : Launch) (e : Env) (s : State) (m : MethodId) (below : List Frame) (meth : Method) (c : Code) (b : Nat) (D : va_G) (a a' : Nat → Nat) (cI cT : ClassId) : St × St → Nat → List (Nat × Value) → List Value → Prop := fun u pc lv st =>
  ∀ (H : Heap) (locs : List Loc) (ls : Array Slot), va_P D vwCl (wL a a' cI cT u) H → va_D (fun q => s.heap.size ≤ q) (wL a a' cI cT u) → va_S (fun q => s.heap.size ≤ q) s.heap H locs → lv_has ls 4 lv → W p l e room_1 s m #[Value.ref b] below meth c H locs 51 1710 (lw_Z below #[Value.ref b] s) (F0 m pc ls st)
section LAW
variable {p : Program} {l : Launch} {e : Env} {s : State} {m : MethodId} {below : List Frame} {meth : Method} {c : Code} {b L : Nat} {xs : Nat → Int32} {D : va_G} {a a' : Nat → Nat} {cI cT : ClassId} {xx : Rx}
theorem law_env (E : LawE p s m meth c b L xs D cI cT xx) : rl_Env 51 1710 l cL_law 4 room_1 RL wsL_law D (tyX cI cT) (wL a a' cI cT) ro_0 (fun q => s.heap.size ≤ q) (lawG p l e s m below meth c b D a a' cI cT) := by
  obtain ⟨hx, hb, hml, hown, hts, hK, -⟩ := E
  exact ⟨p, e, s, m, #[Value.ref b], below, meth, c, lw_Z below #[Value.ref b] s, fun q => s.heap.size ≤ q, ⟨hx, hb, hml, hown, hts⟩, hK, fun _ h => h, fun _ h => h, trivial, ⟨Nat.le_of_ble_eq_true rfl, Nat.le_of_ble_eq_true rfl⟩, fun _ _ _ _ => Iff.rfl⟩
theorem law_sld (E : LawE p s m meth c b L xs D cI cT xx) {u : St × St} {pc : Nat} {lv : List (Nat × Value)} {rest : List Value} {i : Int32} (hin : vp_in i L) (hd : decode cL_law pc = .ok (.iaload, 1)) (k : lawG p l e s m below meth c b D a a' cI cT u (pc + 1) lv (.int (xs i.toNatClampNeg) :: rest)) : lawG p l e s m below meth c b D a a' cI cT u pc lv (.int i :: .ref b :: rest) := by
  obtain ⟨hx, hb, hml, hown, hts, hK, hX, hbl, -⟩ := E
  exact fun H locs ls hP hD hS hl => va_sld hx hb hX hbl (Nat.not_le.mpr hbl) hS hin hd (k H locs ls hP hD hS hl)
theorem law_slen (E : LawE p s m meth c b L xs D cI cT xx) {u : St × St} {pc : Nat} {lv : List (Nat × Value)} {rest : List Value} (hd : decode cL_law pc = .ok (.arraylength, 1)) (k : lawG p l e s m below meth c b D a a' cI cT u (pc + 1) lv (.int (nI L) :: rest)) : lawG p l e s m below meth c b D a a' cI cT u pc lv (.ref b :: rest) := by
  obtain ⟨hx, hb, hml, hown, hts, hK, hX, hbl, -⟩ := E
  exact fun H locs ls hP hD hS hl => va_slen hx hb hX hbl (Nat.not_le.mpr hbl) hS hd (k H locs ls hP hD hS hl)
theorem law_end (E : LawE p s m meth c b L xs D cI cT xx) {u : St × St} {lv : List (Nat × Value)} : lawG p l e s m below meth c b D a a' cI cT u 1171 lv [] := by
  obtain ⟨hx, hb, hml, hown, hts, hK, hX, hbl, hro, hr, hlocks, -⟩ := E
  intro H locs ls hP hD hS hl
  refine lv_iconst (v := 1) hx hb dL_law_1171 (by decide) ?_
  refine va_forget (fun q hq => hS.2.2 q hq) ?_
  refine W.widen (k := 600000) (n := 7302250) (Nat.le_of_ble_eq_true rfl) (Nat.le_of_ble_eq_true rfl) ?_
  exact lw_ret hx hb hr hlocks dL_law_1172
theorem law_callX (E : LawE p s m meth c b L xs D cI cT xx) {y : MethodName} {ws ws' : List Cond} {rm : Room} {bytes : ByteArray} {maxL index : Nat} {ret' : Option FieldType} {As rest st0 : List Value} {σ σ' τ : St} {r : Int32} {pc : Nat} {lv : List (Nat × Value)} (hM : rl_Mi l y ws rm D (tyX cI cT) (wX a cI cT) (roX xx) (aOf (wX a cI cT σ)) (.ref (a 0) :: As) σ r σ') (hT : GoodIn wsL_law (wsV RL index RX7 y ws)) (hw : ws = Cond.code y bytes maxL ret' :: ws') (na : Nat) (hna : As.length = na) (hd0 : y.cls = RX7 ∧ y.cls ≠ "java/lang/invoke/MethodHandle" ∧ y.cls ≠ "java/lang/invoke/VarHandle" ∧ (parseMethodDescriptor y.desc).map (fun d => d.parameters.length) = some na) (hrc : rm.cells = 0) (hrs : rm.slots = 0) (hR : rm.frames + 1 ≤ room_1.frames ∧ 8 + (maxL + 11) + rm.locals ≤ room_1.locals) (hrest : (rest.map fun v => v.category).sum ≤ 8) (hst : st0 = As.reverse ++ .ref (a 0) :: rest) (hd : decode cL_law pc = .ok (.invokevirtual index, 3)) (k : lawG p l e s m below meth c b D a a' cI cT (σ', τ) (pc + 3) lv (.int r :: rest)) : lawG p l e s m below meth c b D a a' cI cT (σ, τ) pc lv st0 := by
  obtain ⟨hx, hb, hml, hown, hts, hK, hX, hbl, hro, -⟩ := E
  intro H locs ls hP hD hS hl
  have hP' : va_P D vwCl (wX a cI cT σ ++ wM a' cI τ) H := hP
  have hD' : va_D (fun q => s.heap.size ≤ q) (wX a cI cT σ ++ wM a' cI τ) := hD
  have hA : ∀ q, s.heap.size ≤ q → (fun q : Nat => s.heap.size ≤ q) q := fun _ h => h
  have hAS := A_l hD'
  exact va_calli (va_runV (As := As) (rest := rest) ⟨hx, hb, hml, hown, hts⟩ (hM H.size) (cwV na hts hT hw hrc hrs hd0 hR) ⟨rl_blind (roX_ok xx), va_recv hK (P_l hP') (ci := 7) (q0 := 0) hcX7 rfl, fun U hU hW => ⟨rfl, by rw [hU], by rw [hU]; exact P_l hP', va_K.moved hW.alike hK, D_l hD', rl_ro_call (roX_ok xx) hro hS hA hAS hU hW⟩⟩ rfl hna hl.1 hst (lv_room hrest) hd ⟨Nat.le_of_ble_eq_true rfl, Nat.le_of_ble_eq_true rfl⟩) hS (fun q _ h => rl_sub hS hA hAS q h) (rl_sub hS hA hAS) (fun r' u t H1 locs1 ht _ hw hB hz1 hk1 hS1 => by
    obtain ⟨rfl, rfl⟩ := hw
    obtain ⟨hP2, hD2⟩ := fr_l (w1' := wX a cI cT u) hP' hD' hk1 (ht ▸ hB.1) rfl
    exact k H1 locs1 ls hP2 hD2 hS1 hl)
theorem law_callM (E : LawE p s m meth c b L xs D cI cT xx) {y : MethodName} {ws ws' : List Cond} {rm : Room} {bytes : ByteArray} {maxL index : Nat} {ret' : Option FieldType} {As rest st0 : List Value} {σ τ τ' : St} {r : Int32} {pc : Nat} {lv : List (Nat × Value)} (hM : rl_Mi l y ws rm D (tyM cI) (wM a' cI) ro_0 (aOf (wM a' cI τ)) (.ref (a' 0) :: As) τ r τ') (hT : GoodIn wsL_law (wsV RL index RX8 y ws)) (hw : ws = Cond.code y bytes maxL ret' :: ws') (na : Nat) (hna : As.length = na) (hd0 : y.cls = RX8 ∧ y.cls ≠ "java/lang/invoke/MethodHandle" ∧ y.cls ≠ "java/lang/invoke/VarHandle" ∧ (parseMethodDescriptor y.desc).map (fun d => d.parameters.length) = some na) (hrc : rm.cells = 0) (hrs : rm.slots = 0) (hR : rm.frames + 1 ≤ room_1.frames ∧ 8 + (maxL + 11) + rm.locals ≤ room_1.locals) (hrest : (rest.map fun v => v.category).sum ≤ 8) (hst : st0 = As.reverse ++ .ref (a' 0) :: rest) (hd : decode cL_law pc = .ok (.invokevirtual index, 3)) (k : lawG p l e s m below meth c b D a a' cI cT (σ, τ') (pc + 3) lv (.int r :: rest)) : lawG p l e s m below meth c b D a a' cI cT (σ, τ) pc lv st0 := by
  obtain ⟨hx, hb, hml, hown, hts, hK, hX, hbl, hro, -⟩ := E
  intro H locs ls hP hD hS hl
  have hP' : va_P D vwCl (wX a cI cT σ ++ wM a' cI τ) H := hP
  have hD' : va_D (fun q => s.heap.size ≤ q) (wX a cI cT σ ++ wM a' cI τ) := hD
  have hA : ∀ q, s.heap.size ≤ q → (fun q : Nat => s.heap.size ≤ q) q := fun _ h => h
  have hAS := A_r hD'
  have hKm : va_K D vwCl (tyM cI) s := hK.sub [0] rfl
  exact va_calli (va_runV (As := As) (rest := rest) ⟨hx, hb, hml, hown, hts⟩ (hM H.size) (cwV na hts hT hw hrc hrs hd0 hR) ⟨rl_blind ro_0_ok, va_recv hKm (P_r hP') (ci := 8) (q0 := 0) hcX8 rfl, fun U hU hW => ⟨rfl, by rw [hU], by rw [hU]; exact P_r hP', va_K.moved hW.alike hKm, D_r hD', trivial⟩⟩ rfl hna hl.1 hst (lv_room hrest) hd ⟨Nat.le_of_ble_eq_true rfl, Nat.le_of_ble_eq_true rfl⟩) hS (fun q _ h => rl_sub hS hA hAS q h) (rl_sub hS hA hAS) (fun r' u t H1 locs1 ht _ hw hB hz1 hk1 hS1 => by
    obtain ⟨rfl, rfl⟩ := hw
    obtain ⟨hP2, hD2⟩ := fr_r (w2' := wM a' cI u) hP' hD' hk1 (ht ▸ hB.1) rfl
    exact k H1 locs1 ls hP2 hD2 hS1 hl)
end LAW
