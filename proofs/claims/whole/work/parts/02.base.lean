/-! ===== the layer over the kit: a state is a table of slots by cells; a walk's goal is 'G state pc locals stack' ===== -/
abbrev St : Type := Nat → Nat → Int32
/-- the state with cell k's row put anew -/
def st_up (σ : St) (k : Nat) (f : Nat → Int32) : St := fun p => if p = k then f else σ p
/-- one slot of one cell -/
def st_wr (σ : St) (k j : Nat) (v : Int32) : St := st_up σ k (upd (σ k) j v)
def rl_A (aS : Nat → Prop) (sz : Nat) : Nat → Prop := fun q => aS q ∨ sz ≤ q
abbrev rl_O : Type := (Nat → Prop) → State → Heap → Prop
/-- what a read-only premise must bear -/
def rl_Ro (ro : rl_O) : Prop := (∀ (A : Nat → Prop) (U V : State) (H : Heap), V.vm = U.vm → ro A U H → ro A V H) ∧ (∀ (A : Nat → Prop) (s U : State) (H : Heap), s.WarmedH U.vm → ro A s H → ro A U H) ∧ (∀ (A : Nat → Prop) (U : State) (H H1 : Heap), (∀ a : Nat, a < H.size → ¬ A a → H1[a]? = H[a]?) → ro A U H → ro A U H1) ∧ (∀ (A B : Nat → Prop) (U : State) (H : Heap), (∀ q, B q → A q) → ro A U H → ro B U H)
theorem rl_Ro_true : rl_Ro (fun _ _ _ => True) := ⟨fun _ _ _ _ _ _ => trivial, fun _ _ _ _ _ _ => trivial, fun _ _ _ _ _ _ => trivial, fun _ _ _ _ _ _ => trivial⟩
/-- all that is fixed while a method runs -/
def rl_Env {S : Type} (nc ns : Nat) (l : Launch) (cc : ByteArray) (nL : Nat) (R : Room) (own : String) (Ts : List Cond) (D : va_G) (tys : List (ClassId × FieldType)) (wl : S → va_W) (ro : rl_O) (aS : Nat → Prop) (G : S → Nat → List (Nat × Value) → List Value → Prop) : Prop :=
  ∃ (p : Program) (e : Env) (s : State) (m : MethodId) (args : Array Value) (below : List Frame) (meth : Method) (c : Code) (Q : State → Prop) (A : Nat → Prop),
    (p.tables.exec = Jvm.exec ∧ c.code = cc ∧ c.maxLocals = nL ∧ s.vm.findClass own = some m.cls ∧ (∀ w ∈ Ts, w.before args s = true)) ∧ va_K D vwCl tys s ∧ (∀ q, s.heap.size ≤ q → A q) ∧ (∀ q, aS q → A q) ∧ ro A s s.heap ∧ (nc ≤ R.cells ∧ ns ≤ R.slots) ∧
    ∀ σ pc lv st, G σ pc lv st ↔ ∀ (H : Heap) (locs : List Loc) (ls : Array Slot), va_P D vwCl (wl σ) H → va_D aS (wl σ) → va_S A s.heap H locs → lv_has ls nL lv → W p l e R s m args below meth c H locs nc ns Q (F0 m pc ls st)
def rl_Pre {S : Type} (D : va_G) (tys : List (ClassId × FieldType)) (wl : S → va_W) (ro : rl_O) (aS : Nat → Prop) (σ : S) (sz : Nat) : State → Prop := fun U => U.heap.size = sz ∧ va_P D vwCl (wl σ) U.heap ∧ va_K D vwCl tys U ∧ va_D aS (wl σ) ∧ ro (rl_A aS sz) U U.heap
def rl_B {S : Type} (D : va_G) (wl : S → va_W) (aS : Nat → Prop) : S → State → Prop := fun u t => va_P D vwCl (wl u) t.heap ∧ va_D aS (wl u)
/-- the contract of a method with an int for its answer -/
def rl_Mi {S : Type} (l : Launch) (y : MethodName) (ws : List Cond) (rm : Room) (D : va_G) (tys : List (ClassId × FieldType)) (wl : S → va_W) (ro : rl_O) (aS : Nat → Prop) (avs : List Value) (σ : S) (r : Int32) (τ : S) : Prop :=
  ∀ sz : Nat, Met l y ws rm (va_Pc avs (rl_Pre D tys wl ro aS σ sz)) (va_Qi (fun (r' : Int32) (u : S) => r' = r ∧ u = τ) (rl_B D wl aS) (rl_A aS sz)) 0 0 (rl_A aS sz)
def rl_Ml {S : Type} (l : Launch) (y : MethodName) (ws : List Cond) (rm : Room) (D : va_G) (tys : List (ClassId × FieldType)) (wl : S → va_W) (ro : rl_O) (aS : Nat → Prop) (avs : List Value) (σ : S) (r : Int64) (τ : S) : Prop :=
  ∀ sz : Nat, Met l y ws rm (va_Pc avs (rl_Pre D tys wl ro aS σ sz)) (va_Ql (fun (r' : Int64) (u : S) => r' = r ∧ u = τ) (rl_B D wl aS) (rl_A aS sz)) 0 0 (rl_A aS sz)
def rl_Mv {S : Type} (l : Launch) (y : MethodName) (ws : List Cond) (rm : Room) (D : va_G) (tys : List (ClassId × FieldType)) (wl : S → va_W) (ro : rl_O) (aS : Nat → Prop) (avs : List Value) (σ : S) (τ : S) : Prop :=
  ∀ sz : Nat, Met l y ws rm (va_Pc avs (rl_Pre D tys wl ro aS σ sz)) (va_Qv (fun (u : S) => u = τ) (rl_B D wl aS) (rl_A aS sz)) 0 0 (rl_A aS sz)
section RLM
variable {S : Type} {l : Launch} {y : MethodName} {ws ws' : List Cond} {rm : Room} {D : va_G} {tys : List (ClassId × FieldType)} {wl : S → va_W} {ro : rl_O} {aS : Nat → Prop} {avs : List Value} {σ τ : S} {cc : ByteArray} {maxL : Nat} {own : String}
theorem rl_meth {ret : Option FieldType} {Qc : Array Value → State → Outcome → State → Prop} (hy : plainName y.cls = true) (hw : ws = Cond.code y cc maxL ret :: ws') (ho : y.cls = own) (hlen : (lg_sl avs).length ≤ maxL) {sz : Nat}
    (body : ∀ (G : S → Nat → List (Nat × Value) → List Value → Prop), rl_Env 0 0 l cc maxL rm own ws D tys wl ro aS G → (∀ (σ' : S) (pc : Nat) (lv : List (Nat × Value)) (st : List Value), (∀ (p : Program) (e : Env) (s : State) (m : MethodId) (below : List Frame) (meth : Method) (c : Code) (H : Heap) (locs : List Loc) (ls : Array Slot), p.tables.exec = Jvm.exec → c.code = cc → meth.sig.returnType = ret → meth.locks = false → s.heap.size = sz → va_P D vwCl (wl σ') H → va_D aS (wl σ') → va_S (rl_A aS sz) s.heap H locs → W p l e rm s m avs.toArray below meth c H locs 0 0 (MQ below Qc avs.toArray s 0 0 (rl_A aS sz)) (F0 m pc ls st)) → G σ' pc lv st) → G σ 0 (lv_args 0 avs) []) :
    Met l y ws rm (va_Pc avs (rl_Pre D tys wl ro aS σ sz)) Qc 0 0 (rl_A aS sz) := by
  refine Met.ofW (cc := cc) (maxL := maxL) (ret := ret) hy hw ?_
  intro p e s m args below meth c s₁ B hml hv
  obtain ⟨rfl, hsz, hP, hK, hD, hro⟩ := hv
  have hts := atoms_spec (ws := ws) B.pre
  have hown : s.vm.findClass own = some m.cls := by rw [← ho]; exact findClass_of_methodNamed B.named
  have key := body (fun σ pc lv st => ∀ (H : Heap) (locs : List Loc) (ls : Array Slot), va_P D vwCl (wl σ) H → va_D aS (wl σ) → va_S (rl_A aS sz) s.heap H locs → lv_has ls maxL lv → W p l e rm s m avs.toArray below meth c H locs 0 0 (MQ below Qc avs.toArray s 0 0 (rl_A aS sz)) (F0 m pc ls st))
    ⟨p, e, s, m, avs.toArray, below, meth, c, _, rl_A aS sz, ⟨B.exec, B.bytes, hml, hown, hts⟩, hK, fun q h => Or.inr (hsz ▸ h), fun q h => Or.inl h, hro, ⟨Nat.zero_le _, Nat.zero_le _⟩, fun _ _ _ _ => Iff.rfl⟩
    (fun σ' pc lv st h H locs ls hP hD hS _ => h p e s m below meth c H locs ls B.exec B.bytes B.returns B.notSynchronized hsz hP hD hS)
  have hl := lv_entry avs (n := maxL) hlen
  rw [lg_entry_eq]
  exact key s.heap [] _ hP hD va_S.rf hl
theorem rl_meth_i {r : Int32} {ty : FieldType} (hy : plainName y.cls = true) (hw : ws = Cond.code y cc maxL (some ty) :: ws') (ho : y.cls = own) (hlen : (lg_sl avs).length ≤ maxL)
    (body : ∀ (G : S → Nat → List (Nat × Value) → List Value → Prop), rl_Env 0 0 l cc maxL rm own ws D tys wl ro aS G → (∀ (pc : Nat) (lv : List (Nat × Value)), narrow ty (.int r) = .int r → decode cc pc = .ok (.ireturn, 1) → G τ pc lv [.int r]) → G σ 0 (lv_args 0 avs) []) : rl_Mi l y ws rm D tys wl ro aS avs σ r τ := by
  intro sz
  refine rl_meth hy hw ho hlen (fun G hG hr => body G hG (fun pc lv hn hd => hr τ pc lv _ ?_))
  intro p e s m below meth c H locs ls hx hb hret hlocks hsz hP hD hS
  exact W.zret hx hb hret hn (fun t ht _ => ⟨⟨r, τ, rfl, ⟨rfl, rfl⟩, by rw [ht]; exact hP, hD⟩, hS.F ht⟩) hS.2.2 hd hlocks
theorem rl_meth_l {r : Int64} (hy : plainName y.cls = true) (hw : ws = Cond.code y cc maxL (some .long) :: ws') (ho : y.cls = own) (hlen : (lg_sl avs).length ≤ maxL)
    (body : ∀ (G : S → Nat → List (Nat × Value) → List Value → Prop), rl_Env 0 0 l cc maxL rm own ws D tys wl ro aS G → (∀ (pc : Nat) (lv : List (Nat × Value)), decode cc pc = .ok (.lreturn, 1) → G τ pc lv [.long r]) → G σ 0 (lv_args 0 avs) []) : rl_Ml l y ws rm D tys wl ro aS avs σ r τ := by
  intro sz
  refine rl_meth hy hw ho hlen (fun G hG hr => body G hG (fun pc lv hd => hr τ pc lv _ ?_))
  intro p e s m below meth c H locs ls hx hb hret hlocks hsz hP hD hS
  exact W.lret hx hb hret (fun t ht _ => ⟨⟨r, τ, rfl, ⟨rfl, rfl⟩, by rw [ht]; exact hP, hD⟩, hS.F ht⟩) hS.2.2 hd hlocks
theorem rl_meth_v (hy : plainName y.cls = true) (hw : ws = Cond.code y cc maxL none :: ws') (ho : y.cls = own) (hlen : (lg_sl avs).length ≤ maxL)
    (body : ∀ (G : S → Nat → List (Nat × Value) → List Value → Prop), rl_Env 0 0 l cc maxL rm own ws D tys wl ro aS G → (∀ (pc : Nat) (lv : List (Nat × Value)), decode cc pc = .ok (.return_, 1) → G τ pc lv []) → G σ 0 (lv_args 0 avs) []) : rl_Mv l y ws rm D tys wl ro aS avs σ τ := by
  intro sz
  refine rl_meth hy hw ho hlen (fun G hG hr => body G hG (fun pc lv hd => hr τ pc lv _ ?_))
  intro p e s m below meth c H locs ls hx hb hret hlocks hsz hP hD hS
  exact W.vret hx hb hret (fun t ht _ => ⟨⟨τ, rfl, rfl, by rw [ht]; exact hP, hD⟩, hS.F ht⟩) hS.2.2 hd hlocks
end RLM
