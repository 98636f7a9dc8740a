def ush (x y : Int32) : Int32 := (x.toUInt32 >>> (y.toUInt32 &&& Int32.toUInt32 31)).toInt32
def lush (x : Int64) (y : Int32) : Int64 := (x.toUInt64 >>> (y.toInt64.toUInt64 &&& Int64.toUInt64 63)).toInt64
/-! the words of the functions that are read off the bytecode: each fails (none) where the machine would throw -/
def bd {α β : Type} (e : α) (k : α → Option β) : Option β := k e
theorem bd_ok {α β : Type} {e : α} {k : α → Option β} {R : β} (h : bd e k = some R) : ∃ x, x = e ∧ k x = some R := ⟨e, rfl, h⟩
def o1 {α β : Type} (o : Option α) (k : α → Option β) : Option β := o.bind k
theorem o1_ok {α β : Type} {o : Option α} {k : α → Option β} {R : β} (h : o1 o k = some R) : ∃ x, o = some x ∧ k x = some R := Option.bind_eq_some_iff.mp h
def o2 {α β γ : Type} (o : Option (α × β)) (k : α → β → Option γ) : Option γ := o.bind (fun p => k p.1 p.2)
theorem o2_ok {α β γ : Type} {o : Option (α × β)} {k : α → β → Option γ} {R : γ} (h : o2 o k = some R) : ∃ x y, o = some (x, y) ∧ k x y = some R := by
  obtain ⟨⟨x, y⟩, h1, h2⟩ := Option.bind_eq_some_iff.mp h
  exact ⟨x, y, h1, h2⟩
def oz {β : Type} (o : Option Int32) (k : Int32 → Option β) : Option β := o.bind (fun x => if x = 0 ∨ x = 1 then k x else none)
theorem oz_ok {β : Type} {o : Option Int32} {k : Int32 → Option β} {R : β} (h : oz o k = some R) : ∃ x, o = some x ∧ (x = 0 ∨ x = 1) ∧ k x = some R := by
  obtain ⟨x, h1, h2⟩ := Option.bind_eq_some_iff.mp h
  by_cases hz : x = 0 ∨ x = 1
  · rw [if_pos hz] at h2; exact ⟨x, h1, hz, h2⟩
  · rw [if_neg hz] at h2; cases h2
def o2z {β γ : Type} (o : Option (Int32 × β)) (k : Int32 → β → Option γ) : Option γ := o.bind (fun p => if p.1 = 0 ∨ p.1 = 1 then k p.1 p.2 else none)
theorem o2z_ok {β γ : Type} {o : Option (Int32 × β)} {k : Int32 → β → Option γ} {R : γ} (h : o2z o k = some R) : ∃ x y, o = some (x, y) ∧ (x = 0 ∨ x = 1) ∧ k x y = some R := by
  obtain ⟨⟨x, y⟩, h1, h2⟩ := Option.bind_eq_some_iff.mp h
  by_cases hz : x = 0 ∨ x = 1
  · rw [if_pos hz] at h2; exact ⟨x, y, h1, hz, h2⟩
  · rw [if_neg hz] at h2; cases h2
def rb {β : Type} (e : Int32) (k : Int32 → Option β) : Option β := if e = 0 ∨ e = 1 then k e else none
theorem rb_ok {β : Type} {e : Int32} {k : Int32 → Option β} {R : β} (h : rb e k = some R) : (e = 0 ∨ e = 1) ∧ k e = some R := by
  unfold rb at h
  by_cases hz : e = 0 ∨ e = 1
  · rw [if_pos hz] at h; exact ⟨hz, h⟩
  · rw [if_neg hz] at h; cases h
theorem na_z {e : Int32} (h : e = 0 ∨ e = 1) : narrow .boolean (.int e) = .int e := by
  rcases h with rfl | rfl <;> rfl
def ald {β : Type} (u : St) (q n : Nat) (i : Int32) (k : Int32 → Option β) : Option β := if i < 0 ∨ n ≤ i.toNatClampNeg then none else k (u q i.toNatClampNeg)
theorem ald_ok {β : Type} {u : St} {q n : Nat} {i : Int32} {k : Int32 → Option β} {R : β} (h : ald u q n i k = some R) : ∃ x, vp_in i n ∧ x = u q i.toNatClampNeg ∧ k x = some R := by
  unfold ald at h
  by_cases hz : i < 0 ∨ n ≤ i.toNatClampNeg
  · rw [if_pos hz] at h; cases h
  · rw [if_neg hz] at h; exact ⟨_, hz, rfl, h⟩
def asr {β : Type} (u : St) (q n : Nat) (i x : Int32) (k : St → Option β) : Option β := if i < 0 ∨ n ≤ i.toNatClampNeg then none else k (st_wr u q i.toNatClampNeg x)
theorem asr_ok {β : Type} {u : St} {q n : Nat} {i x : Int32} {k : St → Option β} {R : β} (h : asr u q n i x k = some R) : ∃ v, vp_in i n ∧ v = st_up u q (upd (u q) i.toNatClampNeg x) ∧ k v = some R := by
  unfold asr at h
  by_cases hz : i < 0 ∨ n ≤ i.toNatClampNeg
  · rw [if_pos hz] at h; cases h
  · rw [if_neg hz] at h; exact ⟨_, hz, rfl, h⟩
def tld {β : Type} (i : Int32) (k : Nat → Option β) : Option β := if i < 0 ∨ 6 ≤ i.toNatClampNeg then none else k i.toNatClampNeg
theorem tld_ok {β : Type} {i : Int32} {k : Nat → Option β} {R : β} (h : tld i k = some R) : ∃ t, t < 6 ∧ vp_in i 6 ∧ t = i.toNatClampNeg ∧ k t = some R := by
  unfold tld at h
  by_cases hz : i < 0 ∨ 6 ≤ i.toNatClampNeg
  · rw [if_pos hz] at h; cases h
  · rw [if_neg hz] at h; exact ⟨_, Nat.not_le.mp (fun q => hz (Or.inr q)), hz, rfl, h⟩
def acp {β : Type} (u : St) (q0 n0 : Nat) (sp : Int32) (q1 n1 : Nat) (dp n : Int32) (k : St → Option β) : Option β := if sp < 0 ∨ dp < 0 ∨ n < 0 ∨ n0 < sp.toNatClampNeg + n.toNatClampNeg ∨ n1 < dp.toNatClampNeg + n.toNatClampNeg then none else k (st_up u q1 (va_cpy (u q0) (u q1) sp.toNatClampNeg dp.toNatClampNeg n.toNatClampNeg))
theorem acp_ok {β : Type} {u : St} {q0 n0 : Nat} {sp : Int32} {q1 n1 : Nat} {dp n : Int32} {k : St → Option β} {R : β} (h : acp u q0 n0 sp q1 n1 dp n k = some R) : ∃ v, ¬ sp < 0 ∧ ¬ dp < 0 ∧ ¬ n < 0 ∧ sp.toNatClampNeg + n.toNatClampNeg ≤ n0 ∧ dp.toNatClampNeg + n.toNatClampNeg ≤ n1 ∧ v = st_up u q1 (va_cpy (u q0) (u q1) sp.toNatClampNeg dp.toNatClampNeg n.toNatClampNeg) ∧ k v = some R := by
  unfold acp at h
  by_cases hz : sp < 0 ∨ dp < 0 ∨ n < 0 ∨ n0 < sp.toNatClampNeg + n.toNatClampNeg ∨ n1 < dp.toNatClampNeg + n.toNatClampNeg
  · rw [if_pos hz] at h; cases h
  · rw [if_neg hz] at h
    exact ⟨_, fun q => hz (Or.inl q), fun q => hz (Or.inr (Or.inl q)), fun q => hz (Or.inr (Or.inr (Or.inl q))), Nat.not_lt.mp (fun q => hz (Or.inr (Or.inr (Or.inr (Or.inl q))))), Nat.not_lt.mp (fun q => hz (Or.inr (Or.inr (Or.inr (Or.inr q))))), rfl, h⟩
def mi (x y : Int32) : Int32 := if y < x then y else x
def ab (x : Int32) : Int32 := if 0 ≤ x then x else 0 - x
theorem it_t {α : Type} {c : Prop} [Decidable c] {a b R : α} (h : (if c then a else b) = R) (hc : c) : a = R := by rw [if_pos hc] at h; exact h
theorem it_f {α : Type} {c : Prop} [Decidable c] {a b R : α} (h : (if c then a else b) = R) (hc : ¬ c) : b = R := by rw [if_neg hc] at h; exact h
theorem nn {c : Prop} (h : ¬ ¬ c) : c := Classical.not_not.mp h
section RLR
variable {S : Type} {nc ns : Nat} {l : Launch} {cc : ByteArray} {nL : Nat} {R : Room} {own : String} {Ts : List Cond} {D : va_G} {tys : List (ClassId × FieldType)} {wl : S → va_W} {ro : rl_O} {aS : Nat → Prop} {G : S → Nat → List (Nat × Value) → List Value → Prop} {σ : S} {pc : Nat} {lv lv' : List (Nat × Value)} {rest : List Value}
theorem rl_iconst (hG : rl_Env nc ns l cc nL R own Ts D tys wl ro aS G) {n : Int} {v : Int32} (hd : decode cc pc = .ok (.iconst n, 1)) (hv : Int32.ofInt n = v) (k : G σ (pc + 1) lv (.int v :: rest)) : G σ pc lv (rest) := by
  obtain ⟨p, e, s, m, args, below, meth, c, Q, A, ⟨hx, hb, hml, hown, hts⟩, hK, hA, hAS, hro, ⟨hnc, hns⟩, hi⟩ := hG
  exact (hi _ _ _ _).mpr (fun H locs ls hP hD hS hl => lv_iconst hx hb hd hv ((hi _ _ _ _).mp k H locs ls hP hD hS hl))
theorem rl_bipush (hG : rl_Env nc ns l cc nL R own Ts D tys wl ro aS G) {n : Int} {v : Int32} (hd : decode cc pc = .ok (.bipush n, 2)) (hv : (Int8.ofInt n).toInt32 = v) (k : G σ (pc + 2) lv (.int v :: rest)) : G σ pc lv (rest) := by
  obtain ⟨p, e, s, m, args, below, meth, c, Q, A, ⟨hx, hb, hml, hown, hts⟩, hK, hA, hAS, hro, ⟨hnc, hns⟩, hi⟩ := hG
  exact (hi _ _ _ _).mpr (fun H locs ls hP hD hS hl => lv_bipush hx hb hd hv ((hi _ _ _ _).mp k H locs ls hP hD hS hl))
theorem rl_sipush (hG : rl_Env nc ns l cc nL R own Ts D tys wl ro aS G) {n : Int} {v : Int32} (hd : decode cc pc = .ok (.sipush n, 3)) (hv : (Int16.ofInt n).toInt32 = v) (k : G σ (pc + 3) lv (.int v :: rest)) : G σ pc lv (rest) := by
  obtain ⟨p, e, s, m, args, below, meth, c, Q, A, ⟨hx, hb, hml, hown, hts⟩, hK, hA, hAS, hro, ⟨hnc, hns⟩, hi⟩ := hG
  exact (hi _ _ _ _).mpr (fun H locs ls hP hD hS hl => lv_sipush hx hb hd hv ((hi _ _ _ _).mp k H locs ls hP hD hS hl))
theorem rl_lconst (hG : rl_Env nc ns l cc nL R own Ts D tys wl ro aS G) {n : Fin 2} {v : Int64} (hd : decode cc pc = .ok (.lconst n, 1)) (hv : Int64.ofNat (n : Nat) = v) (k : G σ (pc + 1) lv (.long v :: rest)) : G σ pc lv (rest) := by
  obtain ⟨p, e, s, m, args, below, meth, c, Q, A, ⟨hx, hb, hml, hown, hts⟩, hK, hA, hAS, hro, ⟨hnc, hns⟩, hi⟩ := hG
  exact (hi _ _ _ _).mpr (fun H locs ls hP hD hS hl => lv_lconst hx hb hd hv ((hi _ _ _ _).mp k H locs ls hP hD hS hl))
theorem rl_ldc (hG : rl_Env nc ns l cc nL R own Ts D tys wl ro aS G) {index : Nat} {v : Int32} (hd : decode cc pc = .ok (.ldc index, 2)) (hw : Cond.constant own index v ∈ Ts) (k : G σ (pc + 2) lv (.int v :: rest)) : G σ pc lv (rest) := by
  obtain ⟨p, e, s, m, args, below, meth, c, Q, A, ⟨hx, hb, hml, hown, hts⟩, hK, hA, hAS, hro, ⟨hnc, hns⟩, hi⟩ := hG
  exact (hi _ _ _ _).mpr (fun H locs ls hP hD hS hl => lv_ldc hx hb hown (hts _ hw) hd ((hi _ _ _ _).mp k H locs ls hP hD hS hl))
theorem rl_ldcw (hG : rl_Env nc ns l cc nL R own Ts D tys wl ro aS G) {index : Nat} {v : Int32} (hd : decode cc pc = .ok (.ldc_w index, 3)) (hw : Cond.constant own index v ∈ Ts) (k : G σ (pc + 3) lv (.int v :: rest)) : G σ pc lv (rest) := by
  obtain ⟨p, e, s, m, args, below, meth, c, Q, A, ⟨hx, hb, hml, hown, hts⟩, hK, hA, hAS, hro, ⟨hnc, hns⟩, hi⟩ := hG
  exact (hi _ _ _ _).mpr (fun H locs ls hP hD hS hl => lv_ldcw hx hb hown (hts _ hw) hd ((hi _ _ _ _).mp k H locs ls hP hD hS hl))
theorem rl_ldc2 (hG : rl_Env nc ns l cc nL R own Ts D tys wl ro aS G) {index : Nat} {v : Int64} (hd : decode cc pc = .ok (.ldc2_w index, 3)) (hw : Cond.constantLong own index v ∈ Ts) (k : G σ (pc + 3) lv (.long v :: rest)) : G σ pc lv (rest) := by
  obtain ⟨p, e, s, m, args, below, meth, c, Q, A, ⟨hx, hb, hml, hown, hts⟩, hK, hA, hAS, hro, ⟨hnc, hns⟩, hi⟩ := hG
  exact (hi _ _ _ _).mpr (fun H locs ls hP hD hS hl => lv_ldc2 hx hb hown (hts _ hw) hd ((hi _ _ _ _).mp k H locs ls hP hD hS hl))
theorem rl_iload_n (hG : rl_Env nc ns l cc nL R own Ts D tys wl ro aS G) {k : Fin 4} {i : Nat} {x : Int32} (hd : decode cc pc = .ok (.iload_n k, 1)) (hki : (k : Nat) = i) (j : Nat) (hj : lv[j]? = some (i, .int x)) (k : G σ (pc + 1) lv (.int x :: rest)) : G σ pc lv (rest) := by
  obtain ⟨p, e, s, m, args, below, meth, c, Q, A, ⟨hx, hb, hml, hown, hts⟩, hK, hA, hAS, hro, ⟨hnc, hns⟩, hi⟩ := hG
  exact (hi _ _ _ _).mpr (fun H locs ls hP hD hS hl => lv_iload_n hx hb hd hki (lv_at hl j hj) ((hi _ _ _ _).mp k H locs ls hP hD hS hl))
theorem rl_iload (hG : rl_Env nc ns l cc nL R own Ts D tys wl ro aS G) {i : Nat} {x : Int32} (hd : decode cc pc = .ok (.iload i, 2)) (j : Nat) (hj : lv[j]? = some (i, .int x)) (k : G σ (pc + 2) lv (.int x :: rest)) : G σ pc lv (rest) := by
  obtain ⟨p, e, s, m, args, below, meth, c, Q, A, ⟨hx, hb, hml, hown, hts⟩, hK, hA, hAS, hro, ⟨hnc, hns⟩, hi⟩ := hG
  exact (hi _ _ _ _).mpr (fun H locs ls hP hD hS hl => lv_iload hx hb hd (lv_at hl j hj) ((hi _ _ _ _).mp k H locs ls hP hD hS hl))
theorem rl_istore_n (hG : rl_Env nc ns l cc nL R own Ts D tys wl ro aS G) {k : Fin 4} {i : Nat} {x x' : Int32} (lv' : List (Nat × Value)) (hd : decode cc pc = .ok (.istore_n k, 1)) (hki : (k : Nat) = i) (hn : i < nL) (he : x' = x) (hl' : (i, Value.int x') :: lv.filter (fun q => !(q.1 == i) && !(q.1 + 1 == i && q.2.category == 2)) = lv') (k : G σ (pc + 1) lv' rest) : G σ pc lv (.int x :: rest) := by
  obtain ⟨p, e, s, m, args, below, meth, c, Q, A, ⟨hx, hb, hml, hown, hts⟩, hK, hA, hAS, hro, ⟨hnc, hns⟩, hi⟩ := hG
  exact (hi _ _ _ _).mpr (fun H locs ls hP hD hS hl => lv_istore_n hx hb hd hki hl hn (he ▸ hl') (fun ls hl => ((hi _ _ _ _).mp k H locs ls hP hD hS hl)))
theorem rl_istore (hG : rl_Env nc ns l cc nL R own Ts D tys wl ro aS G) {i : Nat} {x x' : Int32} (lv' : List (Nat × Value)) (hd : decode cc pc = .ok (.istore i, 2)) (hn : i < nL) (he : x' = x) (hl' : (i, Value.int x') :: lv.filter (fun q => !(q.1 == i) && !(q.1 + 1 == i && q.2.category == 2)) = lv') (k : G σ (pc + 2) lv' rest) : G σ pc lv (.int x :: rest) := by
  obtain ⟨p, e, s, m, args, below, meth, c, Q, A, ⟨hx, hb, hml, hown, hts⟩, hK, hA, hAS, hro, ⟨hnc, hns⟩, hi⟩ := hG
  exact (hi _ _ _ _).mpr (fun H locs ls hP hD hS hl => lv_istore hx hb hd hl hn (he ▸ hl') (fun ls hl => ((hi _ _ _ _).mp k H locs ls hP hD hS hl)))
theorem rl_lload_n (hG : rl_Env nc ns l cc nL R own Ts D tys wl ro aS G) {k : Fin 4} {i : Nat} {x : Int64} (hd : decode cc pc = .ok (.lload_n k, 1)) (hki : (k : Nat) = i) (j : Nat) (hj : lv[j]? = some (i, .long x)) (k : G σ (pc + 1) lv (.long x :: rest)) : G σ pc lv (rest) := by
  obtain ⟨p, e, s, m, args, below, meth, c, Q, A, ⟨hx, hb, hml, hown, hts⟩, hK, hA, hAS, hro, ⟨hnc, hns⟩, hi⟩ := hG
  exact (hi _ _ _ _).mpr (fun H locs ls hP hD hS hl => lv_lload_n hx hb hd hki (lv_at hl j hj) ((hi _ _ _ _).mp k H locs ls hP hD hS hl))
theorem rl_lload (hG : rl_Env nc ns l cc nL R own Ts D tys wl ro aS G) {i : Nat} {x : Int64} (hd : decode cc pc = .ok (.lload i, 2)) (j : Nat) (hj : lv[j]? = some (i, .long x)) (k : G σ (pc + 2) lv (.long x :: rest)) : G σ pc lv (rest) := by
  obtain ⟨p, e, s, m, args, below, meth, c, Q, A, ⟨hx, hb, hml, hown, hts⟩, hK, hA, hAS, hro, ⟨hnc, hns⟩, hi⟩ := hG
  exact (hi _ _ _ _).mpr (fun H locs ls hP hD hS hl => lv_lload hx hb hd (lv_at hl j hj) ((hi _ _ _ _).mp k H locs ls hP hD hS hl))
theorem rl_lstore_n (hG : rl_Env nc ns l cc nL R own Ts D tys wl ro aS G) {k : Fin 4} {i : Nat} {x x' : Int64} (lv' : List (Nat × Value)) (hd : decode cc pc = .ok (.lstore_n k, 1)) (hki : (k : Nat) = i) (hn : i + 1 < nL) (he : x' = x) (hl' : (i, Value.long x') :: lv.filter (fun q => !(q.1 == i) && (!(q.1 == i + 1) && !(q.1 + 1 == i && q.2.category == 2))) = lv') (k : G σ (pc + 1) lv' rest) : G σ pc lv (.long x :: rest) := by
  obtain ⟨p, e, s, m, args, below, meth, c, Q, A, ⟨hx, hb, hml, hown, hts⟩, hK, hA, hAS, hro, ⟨hnc, hns⟩, hi⟩ := hG
  exact (hi _ _ _ _).mpr (fun H locs ls hP hD hS hl => lv_lstore_n hx hb hd hki hl hn (he ▸ hl') (fun ls hl => ((hi _ _ _ _).mp k H locs ls hP hD hS hl)))
theorem rl_lstore (hG : rl_Env nc ns l cc nL R own Ts D tys wl ro aS G) {i : Nat} {x x' : Int64} (lv' : List (Nat × Value)) (hd : decode cc pc = .ok (.lstore i, 2)) (hn : i + 1 < nL) (he : x' = x) (hl' : (i, Value.long x') :: lv.filter (fun q => !(q.1 == i) && (!(q.1 == i + 1) && !(q.1 + 1 == i && q.2.category == 2))) = lv') (k : G σ (pc + 2) lv' rest) : G σ pc lv (.long x :: rest) := by
  obtain ⟨p, e, s, m, args, below, meth, c, Q, A, ⟨hx, hb, hml, hown, hts⟩, hK, hA, hAS, hro, ⟨hnc, hns⟩, hi⟩ := hG
  exact (hi _ _ _ _).mpr (fun H locs ls hP hD hS hl => lv_lstore hx hb hd hl hn (he ▸ hl') (fun ls hl => ((hi _ _ _ _).mp k H locs ls hP hD hS hl)))
theorem rl_aload_n (hG : rl_Env nc ns l cc nL R own Ts D tys wl ro aS G) {k : Fin 4} {i : Nat} {x : Nat} (hd : decode cc pc = .ok (.aload_n k, 1)) (hki : (k : Nat) = i) (j : Nat) (hj : lv[j]? = some (i, .ref x)) (k : G σ (pc + 1) lv (.ref x :: rest)) : G σ pc lv (rest) := by
  obtain ⟨p, e, s, m, args, below, meth, c, Q, A, ⟨hx, hb, hml, hown, hts⟩, hK, hA, hAS, hro, ⟨hnc, hns⟩, hi⟩ := hG
  exact (hi _ _ _ _).mpr (fun H locs ls hP hD hS hl => lv_aload_n hx hb hd hki (lv_at hl j hj) ((hi _ _ _ _).mp k H locs ls hP hD hS hl))
theorem rl_aload (hG : rl_Env nc ns l cc nL R own Ts D tys wl ro aS G) {i : Nat} {x : Nat} (hd : decode cc pc = .ok (.aload i, 2)) (j : Nat) (hj : lv[j]? = some (i, .ref x)) (k : G σ (pc + 2) lv (.ref x :: rest)) : G σ pc lv (rest) := by
  obtain ⟨p, e, s, m, args, below, meth, c, Q, A, ⟨hx, hb, hml, hown, hts⟩, hK, hA, hAS, hro, ⟨hnc, hns⟩, hi⟩ := hG
  exact (hi _ _ _ _).mpr (fun H locs ls hP hD hS hl => lv_aload hx hb hd (lv_at hl j hj) ((hi _ _ _ _).mp k H locs ls hP hD hS hl))
theorem rl_astore_n (hG : rl_Env nc ns l cc nL R own Ts D tys wl ro aS G) {k : Fin 4} {i : Nat} {x x' : Nat} (lv' : List (Nat × Value)) (hd : decode cc pc = .ok (.astore_n k, 1)) (hki : (k : Nat) = i) (hn : i < nL) (he : x' = x) (hl' : (i, Value.ref x') :: lv.filter (fun q => !(q.1 == i) && !(q.1 + 1 == i && q.2.category == 2)) = lv') (k : G σ (pc + 1) lv' rest) : G σ pc lv (.ref x :: rest) := by
  obtain ⟨p, e, s, m, args, below, meth, c, Q, A, ⟨hx, hb, hml, hown, hts⟩, hK, hA, hAS, hro, ⟨hnc, hns⟩, hi⟩ := hG
  exact (hi _ _ _ _).mpr (fun H locs ls hP hD hS hl => lv_astore_n hx hb hd hki hl hn (he ▸ hl') (fun ls hl => ((hi _ _ _ _).mp k H locs ls hP hD hS hl)))
theorem rl_astore (hG : rl_Env nc ns l cc nL R own Ts D tys wl ro aS G) {i : Nat} {x x' : Nat} (lv' : List (Nat × Value)) (hd : decode cc pc = .ok (.astore i, 2)) (hn : i < nL) (he : x' = x) (hl' : (i, Value.ref x') :: lv.filter (fun q => !(q.1 == i) && !(q.1 + 1 == i && q.2.category == 2)) = lv') (k : G σ (pc + 2) lv' rest) : G σ pc lv (.ref x :: rest) := by
  obtain ⟨p, e, s, m, args, below, meth, c, Q, A, ⟨hx, hb, hml, hown, hts⟩, hK, hA, hAS, hro, ⟨hnc, hns⟩, hi⟩ := hG
  exact (hi _ _ _ _).mpr (fun H locs ls hP hD hS hl => lv_astore hx hb hd hl hn (he ▸ hl') (fun ls hl => ((hi _ _ _ _).mp k H locs ls hP hD hS hl)))
theorem rl_iinc (hG : rl_Env nc ns l cc nL R own Ts D tys wl ro aS G) {i : Nat} {n : Int} {x v : Int32} (lv' : List (Nat × Value)) (hd : decode cc pc = .ok (.iinc i n, 3)) (j : Nat) (hj : lv[j]? = some (i, .int x)) (hv : x + Int32.ofInt n = v) (hn : i < nL) (hl' : (i, Value.int v) :: lv.filter (fun q => !(q.1 == i) && !(q.1 + 1 == i && q.2.category == 2)) = lv') (k : G σ (pc + 3) lv' rest) : G σ pc lv rest := by
  obtain ⟨p, e, s, m, args, below, meth, c, Q, A, ⟨hx, hb, hml, hown, hts⟩, hK, hA, hAS, hro, ⟨hnc, hns⟩, hi⟩ := hG
  exact (hi _ _ _ _).mpr (fun H locs ls hP hD hS hl => lv_iinc hx hb hd hl (k := j) hj hv hn hl' (fun ls hl => ((hi _ _ _ _).mp k H locs ls hP hD hS hl)))
theorem rl_iadd (hG : rl_Env nc ns l cc nL R own Ts D tys wl ro aS G) {x y : Int32} (hd : decode cc pc = .ok (.iadd, 1)) (k : G σ (pc + 1) lv (.int (x + y) :: rest)) : G σ pc lv (.int y :: .int x :: rest) := by
  obtain ⟨p, e, s, m, args, below, meth, c, Q, A, ⟨hx, hb, hml, hown, hts⟩, hK, hA, hAS, hro, ⟨hnc, hns⟩, hi⟩ := hG
  exact (hi _ _ _ _).mpr (fun H locs ls hP hD hS hl => lv_iadd hx hb hd ((hi _ _ _ _).mp k H locs ls hP hD hS hl))
theorem rl_isub (hG : rl_Env nc ns l cc nL R own Ts D tys wl ro aS G) {x y : Int32} (hd : decode cc pc = .ok (.isub, 1)) (k : G σ (pc + 1) lv (.int (x - y) :: rest)) : G σ pc lv (.int y :: .int x :: rest) := by
  obtain ⟨p, e, s, m, args, below, meth, c, Q, A, ⟨hx, hb, hml, hown, hts⟩, hK, hA, hAS, hro, ⟨hnc, hns⟩, hi⟩ := hG
  exact (hi _ _ _ _).mpr (fun H locs ls hP hD hS hl => lv_isub hx hb hd ((hi _ _ _ _).mp k H locs ls hP hD hS hl))
theorem rl_imul (hG : rl_Env nc ns l cc nL R own Ts D tys wl ro aS G) {x y : Int32} (hd : decode cc pc = .ok (.imul, 1)) (k : G σ (pc + 1) lv (.int (x * y) :: rest)) : G σ pc lv (.int y :: .int x :: rest) := by
  obtain ⟨p, e, s, m, args, below, meth, c, Q, A, ⟨hx, hb, hml, hown, hts⟩, hK, hA, hAS, hro, ⟨hnc, hns⟩, hi⟩ := hG
  exact (hi _ _ _ _).mpr (fun H locs ls hP hD hS hl => lv_imul hx hb hd ((hi _ _ _ _).mp k H locs ls hP hD hS hl))
theorem rl_iand (hG : rl_Env nc ns l cc nL R own Ts D tys wl ro aS G) {x y : Int32} (hd : decode cc pc = .ok (.iand, 1)) (k : G σ (pc + 1) lv (.int (x &&& y) :: rest)) : G σ pc lv (.int y :: .int x :: rest) := by
  obtain ⟨p, e, s, m, args, below, meth, c, Q, A, ⟨hx, hb, hml, hown, hts⟩, hK, hA, hAS, hro, ⟨hnc, hns⟩, hi⟩ := hG
  exact (hi _ _ _ _).mpr (fun H locs ls hP hD hS hl => lv_iand hx hb hd ((hi _ _ _ _).mp k H locs ls hP hD hS hl))
theorem rl_ior (hG : rl_Env nc ns l cc nL R own Ts D tys wl ro aS G) {x y : Int32} (hd : decode cc pc = .ok (.ior, 1)) (k : G σ (pc + 1) lv (.int (x ||| y) :: rest)) : G σ pc lv (.int y :: .int x :: rest) := by
  obtain ⟨p, e, s, m, args, below, meth, c, Q, A, ⟨hx, hb, hml, hown, hts⟩, hK, hA, hAS, hro, ⟨hnc, hns⟩, hi⟩ := hG
  exact (hi _ _ _ _).mpr (fun H locs ls hP hD hS hl => lv_ior hx hb hd ((hi _ _ _ _).mp k H locs ls hP hD hS hl))
theorem rl_ixor (hG : rl_Env nc ns l cc nL R own Ts D tys wl ro aS G) {x y : Int32} (hd : decode cc pc = .ok (.ixor, 1)) (k : G σ (pc + 1) lv (.int (x ^^^ y) :: rest)) : G σ pc lv (.int y :: .int x :: rest) := by
  obtain ⟨p, e, s, m, args, below, meth, c, Q, A, ⟨hx, hb, hml, hown, hts⟩, hK, hA, hAS, hro, ⟨hnc, hns⟩, hi⟩ := hG
  exact (hi _ _ _ _).mpr (fun H locs ls hP hD hS hl => lv_ixor hx hb hd ((hi _ _ _ _).mp k H locs ls hP hD hS hl))
theorem rl_ishl (hG : rl_Env nc ns l cc nL R own Ts D tys wl ro aS G) {x y : Int32} (hd : decode cc pc = .ok (.ishl, 1)) (k : G σ (pc + 1) lv (.int (x <<< (y &&& 31)) :: rest)) : G σ pc lv (.int y :: .int x :: rest) := by
  obtain ⟨p, e, s, m, args, below, meth, c, Q, A, ⟨hx, hb, hml, hown, hts⟩, hK, hA, hAS, hro, ⟨hnc, hns⟩, hi⟩ := hG
  exact (hi _ _ _ _).mpr (fun H locs ls hP hD hS hl => lv_ishl hx hb hd ((hi _ _ _ _).mp k H locs ls hP hD hS hl))
theorem rl_ishr (hG : rl_Env nc ns l cc nL R own Ts D tys wl ro aS G) {x y : Int32} (hd : decode cc pc = .ok (.ishr, 1)) (k : G σ (pc + 1) lv (.int (x >>> (y &&& 31)) :: rest)) : G σ pc lv (.int y :: .int x :: rest) := by
  obtain ⟨p, e, s, m, args, below, meth, c, Q, A, ⟨hx, hb, hml, hown, hts⟩, hK, hA, hAS, hro, ⟨hnc, hns⟩, hi⟩ := hG
  exact (hi _ _ _ _).mpr (fun H locs ls hP hD hS hl => lv_ishr hx hb hd ((hi _ _ _ _).mp k H locs ls hP hD hS hl))
theorem rl_idiv (hG : rl_Env nc ns l cc nL R own Ts D tys wl ro aS G) {x y : Int32} (hd : decode cc pc = .ok (.idiv, 1)) (hne : ¬ y = 0) (k : G σ (pc + 1) lv (.int (x / y) :: rest)) : G σ pc lv (.int y :: .int x :: rest) := by
  obtain ⟨p, e, s, m, args, below, meth, c, Q, A, ⟨hx, hb, hml, hown, hts⟩, hK, hA, hAS, hro, ⟨hnc, hns⟩, hi⟩ := hG
  exact (hi _ _ _ _).mpr (fun H locs ls hP hD hS hl => lv_idiv hx hb hd hne ((hi _ _ _ _).mp k H locs ls hP hD hS hl))
theorem rl_irem (hG : rl_Env nc ns l cc nL R own Ts D tys wl ro aS G) {x y : Int32} (hd : decode cc pc = .ok (.irem, 1)) (hne : ¬ y = 0) (k : G σ (pc + 1) lv (.int (x - x / y * y) :: rest)) : G σ pc lv (.int y :: .int x :: rest) := by
  obtain ⟨p, e, s, m, args, below, meth, c, Q, A, ⟨hx, hb, hml, hown, hts⟩, hK, hA, hAS, hro, ⟨hnc, hns⟩, hi⟩ := hG
  exact (hi _ _ _ _).mpr (fun H locs ls hP hD hS hl => lv_irem hx hb hd hne ((hi _ _ _ _).mp k H locs ls hP hD hS hl))
theorem rl_ineg (hG : rl_Env nc ns l cc nL R own Ts D tys wl ro aS G) {x : Int32} (hd : decode cc pc = .ok (.ineg, 1)) (k : G σ (pc + 1) lv (.int (-x) :: rest)) : G σ pc lv (.int x :: rest) := by
  obtain ⟨p, e, s, m, args, below, meth, c, Q, A, ⟨hx, hb, hml, hown, hts⟩, hK, hA, hAS, hro, ⟨hnc, hns⟩, hi⟩ := hG
  exact (hi _ _ _ _).mpr (fun H locs ls hP hD hS hl => lv_ineg hx hb hd ((hi _ _ _ _).mp k H locs ls hP hD hS hl))
theorem rl_ladd (hG : rl_Env nc ns l cc nL R own Ts D tys wl ro aS G) {x y : Int64} (hd : decode cc pc = .ok (.ladd, 1)) (k : G σ (pc + 1) lv (.long (x + y) :: rest)) : G σ pc lv (.long y :: .long x :: rest) := by
  obtain ⟨p, e, s, m, args, below, meth, c, Q, A, ⟨hx, hb, hml, hown, hts⟩, hK, hA, hAS, hro, ⟨hnc, hns⟩, hi⟩ := hG
  exact (hi _ _ _ _).mpr (fun H locs ls hP hD hS hl => lv_ladd hx hb hd ((hi _ _ _ _).mp k H locs ls hP hD hS hl))
theorem rl_lsub (hG : rl_Env nc ns l cc nL R own Ts D tys wl ro aS G) {x y : Int64} (hd : decode cc pc = .ok (.lsub, 1)) (k : G σ (pc + 1) lv (.long (x - y) :: rest)) : G σ pc lv (.long y :: .long x :: rest) := by
  obtain ⟨p, e, s, m, args, below, meth, c, Q, A, ⟨hx, hb, hml, hown, hts⟩, hK, hA, hAS, hro, ⟨hnc, hns⟩, hi⟩ := hG
  exact (hi _ _ _ _).mpr (fun H locs ls hP hD hS hl => lv_lsub hx hb hd ((hi _ _ _ _).mp k H locs ls hP hD hS hl))
theorem rl_land (hG : rl_Env nc ns l cc nL R own Ts D tys wl ro aS G) {x y : Int64} (hd : decode cc pc = .ok (.land, 1)) (k : G σ (pc + 1) lv (.long (x &&& y) :: rest)) : G σ pc lv (.long y :: .long x :: rest) := by
  obtain ⟨p, e, s, m, args, below, meth, c, Q, A, ⟨hx, hb, hml, hown, hts⟩, hK, hA, hAS, hro, ⟨hnc, hns⟩, hi⟩ := hG
  exact (hi _ _ _ _).mpr (fun H locs ls hP hD hS hl => lv_land hx hb hd ((hi _ _ _ _).mp k H locs ls hP hD hS hl))
theorem rl_lor (hG : rl_Env nc ns l cc nL R own Ts D tys wl ro aS G) {x y : Int64} (hd : decode cc pc = .ok (.lor, 1)) (k : G σ (pc + 1) lv (.long (x ||| y) :: rest)) : G σ pc lv (.long y :: .long x :: rest) := by
  obtain ⟨p, e, s, m, args, below, meth, c, Q, A, ⟨hx, hb, hml, hown, hts⟩, hK, hA, hAS, hro, ⟨hnc, hns⟩, hi⟩ := hG
  exact (hi _ _ _ _).mpr (fun H locs ls hP hD hS hl => lv_lor hx hb hd ((hi _ _ _ _).mp k H locs ls hP hD hS hl))
theorem rl_i2l (hG : rl_Env nc ns l cc nL R own Ts D tys wl ro aS G) {x : Int32} (hd : decode cc pc = .ok (.i2l, 1)) (k : G σ (pc + 1) lv (.long x.toInt64 :: rest)) : G σ pc lv (.int x :: rest) := by
  obtain ⟨p, e, s, m, args, below, meth, c, Q, A, ⟨hx, hb, hml, hown, hts⟩, hK, hA, hAS, hro, ⟨hnc, hns⟩, hi⟩ := hG
  exact (hi _ _ _ _).mpr (fun H locs ls hP hD hS hl => lv_i2l hx hb hd rfl ((hi _ _ _ _).mp k H locs ls hP hD hS hl))
theorem rl_l2i (hG : rl_Env nc ns l cc nL R own Ts D tys wl ro aS G) {x : Int64} (hd : decode cc pc = .ok (.l2i, 1)) (k : G σ (pc + 1) lv (.int x.toInt32 :: rest)) : G σ pc lv (.long x :: rest) := by
  obtain ⟨p, e, s, m, args, below, meth, c, Q, A, ⟨hx, hb, hml, hown, hts⟩, hK, hA, hAS, hro, ⟨hnc, hns⟩, hi⟩ := hG
  exact (hi _ _ _ _).mpr (fun H locs ls hP hD hS hl => lv_l2i hx hb hd rfl ((hi _ _ _ _).mp k H locs ls hP hD hS hl))
theorem rl_i2c (hG : rl_Env nc ns l cc nL R own Ts D tys wl ro aS G) {x : Int32} (hd : decode cc pc = .ok (.i2c, 1)) (k : G σ (pc + 1) lv (.int (x.toUInt32 % 65536).toInt32 :: rest)) : G σ pc lv (.int x :: rest) := by
  obtain ⟨p, e, s, m, args, below, meth, c, Q, A, ⟨hx, hb, hml, hown, hts⟩, hK, hA, hAS, hro, ⟨hnc, hns⟩, hi⟩ := hG
  exact (hi _ _ _ _).mpr (fun H locs ls hP hD hS hl => lv_i2c hx hb hd rfl ((hi _ _ _ _).mp k H locs ls hP hD hS hl))
theorem rl_iushr (hG : rl_Env nc ns l cc nL R own Ts D tys wl ro aS G) {x y : Int32} (hd : decode cc pc = .ok (.iushr, 1)) (k : G σ (pc + 1) lv (.int (ush x y) :: rest)) : G σ pc lv (.int y :: .int x :: rest) := by
  obtain ⟨p, e, s, m, args, below, meth, c, Q, A, ⟨hx, hb, hml, hown, hts⟩, hK, hA, hAS, hro, ⟨hnc, hns⟩, hi⟩ := hG
  exact (hi _ _ _ _).mpr (fun H locs ls hP hD hS hl => lv_iushr hx hb hd rfl ((hi _ _ _ _).mp k H locs ls hP hD hS hl))
theorem rl_lushr (hG : rl_Env nc ns l cc nL R own Ts D tys wl ro aS G) {x : Int64} {y : Int32} (hd : decode cc pc = .ok (.lushr, 1)) (k : G σ (pc + 1) lv (.long (lush x y) :: rest)) : G σ pc lv (.int y :: .long x :: rest) := by
  obtain ⟨p, e, s, m, args, below, meth, c, Q, A, ⟨hx, hb, hml, hown, hts⟩, hK, hA, hAS, hro, ⟨hnc, hns⟩, hi⟩ := hG
  exact (hi _ _ _ _).mpr (fun H locs ls hP hD hS hl => lv_lushr hx hb hd rfl ((hi _ _ _ _).mp k H locs ls hP hD hS hl))
theorem rl_lshl (hG : rl_Env nc ns l cc nL R own Ts D tys wl ro aS G) {x : Int64} {y : Int32} (hd : decode cc pc = .ok (.lshl, 1)) (k : G σ (pc + 1) lv (.long (x <<< (y.toInt64 &&& 63)) :: rest)) : G σ pc lv (.int y :: .long x :: rest) := by
  obtain ⟨p, e, s, m, args, below, meth, c, Q, A, ⟨hx, hb, hml, hown, hts⟩, hK, hA, hAS, hro, ⟨hnc, hns⟩, hi⟩ := hG
  exact (hi _ _ _ _).mpr (fun H locs ls hP hD hS hl => lv_lshl hx hb hd rfl ((hi _ _ _ _).mp k H locs ls hP hD hS hl))
theorem rl_lshr (hG : rl_Env nc ns l cc nL R own Ts D tys wl ro aS G) {x : Int64} {y : Int32} (hd : decode cc pc = .ok (.lshr, 1)) (k : G σ (pc + 1) lv (.long (x >>> (y.toInt64 &&& 63)) :: rest)) : G σ pc lv (.int y :: .long x :: rest) := by
  obtain ⟨p, e, s, m, args, below, meth, c, Q, A, ⟨hx, hb, hml, hown, hts⟩, hK, hA, hAS, hro, ⟨hnc, hns⟩, hi⟩ := hG
  exact (hi _ _ _ _).mpr (fun H locs ls hP hD hS hl => lv_lshr hx hb hd rfl ((hi _ _ _ _).mp k H locs ls hP hD hS hl))
theorem rl_lcmp (hG : rl_Env nc ns l cc nL R own Ts D tys wl ro aS G) {x y : Int64} (hd : decode cc pc = .ok (.lcmp, 1)) (k : G σ (pc + 1) lv (.int (lg_cmp x y) :: rest)) : G σ pc lv (.long y :: .long x :: rest) := by
  obtain ⟨p, e, s, m, args, below, meth, c, Q, A, ⟨hx, hb, hml, hown, hts⟩, hK, hA, hAS, hro, ⟨hnc, hns⟩, hi⟩ := hG
  exact (hi _ _ _ _).mpr (fun H locs ls hP hD hS hl => W.lcmp hx hb hd ((hi _ _ _ _).mp k H locs ls hP hD hS hl))
theorem rl_dup (hG : rl_Env nc ns l cc nL R own Ts D tys wl ro aS G) {va : Value} (hd : decode cc pc = .ok (.dup, 1)) (hva : va.category = 1) (k : G σ (pc + 1) lv (va :: va :: rest)) : G σ pc lv (va :: rest) := by
  obtain ⟨p, e, s, m, args, below, meth, c, Q, A, ⟨hx, hb, hml, hown, hts⟩, hK, hA, hAS, hro, ⟨hnc, hns⟩, hi⟩ := hG
  exact (hi _ _ _ _).mpr (fun H locs ls hP hD hS hl => lv_dup hx hb hd hva ((hi _ _ _ _).mp k H locs ls hP hD hS hl))
theorem rl_pop (hG : rl_Env nc ns l cc nL R own Ts D tys wl ro aS G) {va : Value} (hd : decode cc pc = .ok (.pop, 1)) (hva : va.category = 1) (k : G σ (pc + 1) lv (rest)) : G σ pc lv (va :: rest) := by
  obtain ⟨p, e, s, m, args, below, meth, c, Q, A, ⟨hx, hb, hml, hown, hts⟩, hK, hA, hAS, hro, ⟨hnc, hns⟩, hi⟩ := hG
  exact (hi _ _ _ _).mpr (fun H locs ls hP hD hS hl => lv_pop hx hb hd hva ((hi _ _ _ _).mp k H locs ls hP hD hS hl))
theorem rl_dup2 (hG : rl_Env nc ns l cc nL R own Ts D tys wl ro aS G) {va vb : Value} (hd : decode cc pc = .ok (.dup2, 1)) (hva : va.category = 1) (hvb : vb.category = 1) (k : G σ (pc + 1) lv (va :: vb :: va :: vb :: rest)) : G σ pc lv (va :: vb :: rest) := by
  obtain ⟨p, e, s, m, args, below, meth, c, Q, A, ⟨hx, hb, hml, hown, hts⟩, hK, hA, hAS, hro, ⟨hnc, hns⟩, hi⟩ := hG
  exact (hi _ _ _ _).mpr (fun H locs ls hP hD hS hl => lv_dup2_11 hx hb hd hva hvb ((hi _ _ _ _).mp k H locs ls hP hD hS hl))
theorem rl_dup_x1 (hG : rl_Env nc ns l cc nL R own Ts D tys wl ro aS G) {va vb : Value} (hd : decode cc pc = .ok (.dup_x1, 1)) (hva : va.category = 1) (hvb : vb.category = 1) (k : G σ (pc + 1) lv (va :: vb :: va :: rest)) : G σ pc lv (va :: vb :: rest) := by
  obtain ⟨p, e, s, m, args, below, meth, c, Q, A, ⟨hx, hb, hml, hown, hts⟩, hK, hA, hAS, hro, ⟨hnc, hns⟩, hi⟩ := hG
  exact (hi _ _ _ _).mpr (fun H locs ls hP hD hS hl => lv_dup_x1 hx hb hd hva hvb ((hi _ _ _ _).mp k H locs ls hP hD hS hl))
theorem rl_dup_x2 (hG : rl_Env nc ns l cc nL R own Ts D tys wl ro aS G) {va vb vd : Value} (hd : decode cc pc = .ok (.dup_x2, 1)) (hva : va.category = 1) (hvb : vb.category = 1) (hvd : vd.category = 1) (k : G σ (pc + 1) lv (va :: vb :: vd :: va :: rest)) : G σ pc lv (va :: vb :: vd :: rest) := by
  obtain ⟨p, e, s, m, args, below, meth, c, Q, A, ⟨hx, hb, hml, hown, hts⟩, hK, hA, hAS, hro, ⟨hnc, hns⟩, hi⟩ := hG
  exact (hi _ _ _ _).mpr (fun H locs ls hP hD hS hl => lv_dup_x2 hx hb hd hva hvb hvd ((hi _ _ _ _).mp k H locs ls hP hD hS hl))
theorem rl_if_eq (hG : rl_Env nc ns l cc nL R own Ts D tys wl ro aS G) {x : Int32} {off : Int} {tgt : Nat} (hd : decode cc pc = .ok (.ifCond .eq off, 3)) (ht : (pc : Int) + off = (tgt : Int)) (kt : (x = 0) → G σ tgt lv rest) (kf : ¬ (x = 0) → G σ (pc + 3) lv rest) : G σ pc lv (.int x :: rest) := by
  obtain ⟨p, e, s, m, args, below, meth, c, Q, A, ⟨hx, hb, hml, hown, hts⟩, hK, hA, hAS, hro, ⟨hnc, hns⟩, hi⟩ := hG
  exact (hi _ _ _ _).mpr (fun H locs ls hP hD hS hl => lv_if_eq hx hb hd ht (fun q => (hi _ _ _ _).mp (kt q) H locs ls hP hD hS hl) (fun q => (hi _ _ _ _).mp (kf q) H locs ls hP hD hS hl))
theorem rl_icmp_eq (hG : rl_Env nc ns l cc nL R own Ts D tys wl ro aS G) {x y : Int32} {off : Int} {tgt : Nat} (hd : decode cc pc = .ok (.if_icmp .eq off, 3)) (ht : (pc : Int) + off = (tgt : Int)) (kt : (x = y) → G σ tgt lv rest) (kf : ¬ (x = y) → G σ (pc + 3) lv rest) : G σ pc lv (.int y :: .int x :: rest) := by
  obtain ⟨p, e, s, m, args, below, meth, c, Q, A, ⟨hx, hb, hml, hown, hts⟩, hK, hA, hAS, hro, ⟨hnc, hns⟩, hi⟩ := hG
  exact (hi _ _ _ _).mpr (fun H locs ls hP hD hS hl => lv_icmp_eq hx hb hd ht (fun q => (hi _ _ _ _).mp (kt q) H locs ls hP hD hS hl) (fun q => (hi _ _ _ _).mp (kf q) H locs ls hP hD hS hl))
theorem rl_if_ne (hG : rl_Env nc ns l cc nL R own Ts D tys wl ro aS G) {x : Int32} {off : Int} {tgt : Nat} (hd : decode cc pc = .ok (.ifCond .ne off, 3)) (ht : (pc : Int) + off = (tgt : Int)) (kt : (¬ x = 0) → G σ tgt lv rest) (kf : (x = 0) → G σ (pc + 3) lv rest) : G σ pc lv (.int x :: rest) := by
  obtain ⟨p, e, s, m, args, below, meth, c, Q, A, ⟨hx, hb, hml, hown, hts⟩, hK, hA, hAS, hro, ⟨hnc, hns⟩, hi⟩ := hG
  exact (hi _ _ _ _).mpr (fun H locs ls hP hD hS hl => lv_if_ne hx hb hd ht (fun q => (hi _ _ _ _).mp (kt q) H locs ls hP hD hS hl) (fun q => (hi _ _ _ _).mp (kf q) H locs ls hP hD hS hl))
theorem rl_icmp_ne (hG : rl_Env nc ns l cc nL R own Ts D tys wl ro aS G) {x y : Int32} {off : Int} {tgt : Nat} (hd : decode cc pc = .ok (.if_icmp .ne off, 3)) (ht : (pc : Int) + off = (tgt : Int)) (kt : (¬ x = y) → G σ tgt lv rest) (kf : (x = y) → G σ (pc + 3) lv rest) : G σ pc lv (.int y :: .int x :: rest) := by
  obtain ⟨p, e, s, m, args, below, meth, c, Q, A, ⟨hx, hb, hml, hown, hts⟩, hK, hA, hAS, hro, ⟨hnc, hns⟩, hi⟩ := hG
  exact (hi _ _ _ _).mpr (fun H locs ls hP hD hS hl => lv_icmp_ne hx hb hd ht (fun q => (hi _ _ _ _).mp (kt q) H locs ls hP hD hS hl) (fun q => (hi _ _ _ _).mp (kf q) H locs ls hP hD hS hl))
theorem rl_if_lt (hG : rl_Env nc ns l cc nL R own Ts D tys wl ro aS G) {x : Int32} {off : Int} {tgt : Nat} (hd : decode cc pc = .ok (.ifCond .lt off, 3)) (ht : (pc : Int) + off = (tgt : Int)) (kt : x < 0 → G σ tgt lv rest) (kf : ¬ x < 0 → G σ (pc + 3) lv rest) : G σ pc lv (.int x :: rest) := by
  obtain ⟨p, e, s, m, args, below, meth, c, Q, A, ⟨hx, hb, hml, hown, hts⟩, hK, hA, hAS, hro, ⟨hnc, hns⟩, hi⟩ := hG
  exact (hi _ _ _ _).mpr (fun H locs ls hP hD hS hl => lv_if_lt hx hb hd ht (fun q => (hi _ _ _ _).mp (kt q) H locs ls hP hD hS hl) (fun q => (hi _ _ _ _).mp (kf q) H locs ls hP hD hS hl))
theorem rl_icmp_lt (hG : rl_Env nc ns l cc nL R own Ts D tys wl ro aS G) {x y : Int32} {off : Int} {tgt : Nat} (hd : decode cc pc = .ok (.if_icmp .lt off, 3)) (ht : (pc : Int) + off = (tgt : Int)) (kt : x < y → G σ tgt lv rest) (kf : ¬ x < y → G σ (pc + 3) lv rest) : G σ pc lv (.int y :: .int x :: rest) := by
  obtain ⟨p, e, s, m, args, below, meth, c, Q, A, ⟨hx, hb, hml, hown, hts⟩, hK, hA, hAS, hro, ⟨hnc, hns⟩, hi⟩ := hG
  exact (hi _ _ _ _).mpr (fun H locs ls hP hD hS hl => lv_icmp_lt hx hb hd ht (fun q => (hi _ _ _ _).mp (kt q) H locs ls hP hD hS hl) (fun q => (hi _ _ _ _).mp (kf q) H locs ls hP hD hS hl))
theorem rl_if_ge (hG : rl_Env nc ns l cc nL R own Ts D tys wl ro aS G) {x : Int32} {off : Int} {tgt : Nat} (hd : decode cc pc = .ok (.ifCond .ge off, 3)) (ht : (pc : Int) + off = (tgt : Int)) (kt : 0 ≤ x → G σ tgt lv rest) (kf : ¬ 0 ≤ x → G σ (pc + 3) lv rest) : G σ pc lv (.int x :: rest) := by
  obtain ⟨p, e, s, m, args, below, meth, c, Q, A, ⟨hx, hb, hml, hown, hts⟩, hK, hA, hAS, hro, ⟨hnc, hns⟩, hi⟩ := hG
  exact (hi _ _ _ _).mpr (fun H locs ls hP hD hS hl => lv_if_ge hx hb hd ht (fun q => (hi _ _ _ _).mp (kt q) H locs ls hP hD hS hl) (fun q => (hi _ _ _ _).mp (kf q) H locs ls hP hD hS hl))
theorem rl_icmp_ge (hG : rl_Env nc ns l cc nL R own Ts D tys wl ro aS G) {x y : Int32} {off : Int} {tgt : Nat} (hd : decode cc pc = .ok (.if_icmp .ge off, 3)) (ht : (pc : Int) + off = (tgt : Int)) (kt : y ≤ x → G σ tgt lv rest) (kf : ¬ y ≤ x → G σ (pc + 3) lv rest) : G σ pc lv (.int y :: .int x :: rest) := by
  obtain ⟨p, e, s, m, args, below, meth, c, Q, A, ⟨hx, hb, hml, hown, hts⟩, hK, hA, hAS, hro, ⟨hnc, hns⟩, hi⟩ := hG
  exact (hi _ _ _ _).mpr (fun H locs ls hP hD hS hl => lv_icmp_ge hx hb hd ht (fun q => (hi _ _ _ _).mp (kt q) H locs ls hP hD hS hl) (fun q => (hi _ _ _ _).mp (kf q) H locs ls hP hD hS hl))
theorem rl_if_gt (hG : rl_Env nc ns l cc nL R own Ts D tys wl ro aS G) {x : Int32} {off : Int} {tgt : Nat} (hd : decode cc pc = .ok (.ifCond .gt off, 3)) (ht : (pc : Int) + off = (tgt : Int)) (kt : 0 < x → G σ tgt lv rest) (kf : ¬ 0 < x → G σ (pc + 3) lv rest) : G σ pc lv (.int x :: rest) := by
  obtain ⟨p, e, s, m, args, below, meth, c, Q, A, ⟨hx, hb, hml, hown, hts⟩, hK, hA, hAS, hro, ⟨hnc, hns⟩, hi⟩ := hG
  exact (hi _ _ _ _).mpr (fun H locs ls hP hD hS hl => lv_if_gt hx hb hd ht (fun q => (hi _ _ _ _).mp (kt q) H locs ls hP hD hS hl) (fun q => (hi _ _ _ _).mp (kf q) H locs ls hP hD hS hl))
theorem rl_icmp_gt (hG : rl_Env nc ns l cc nL R own Ts D tys wl ro aS G) {x y : Int32} {off : Int} {tgt : Nat} (hd : decode cc pc = .ok (.if_icmp .gt off, 3)) (ht : (pc : Int) + off = (tgt : Int)) (kt : y < x → G σ tgt lv rest) (kf : ¬ y < x → G σ (pc + 3) lv rest) : G σ pc lv (.int y :: .int x :: rest) := by
  obtain ⟨p, e, s, m, args, below, meth, c, Q, A, ⟨hx, hb, hml, hown, hts⟩, hK, hA, hAS, hro, ⟨hnc, hns⟩, hi⟩ := hG
  exact (hi _ _ _ _).mpr (fun H locs ls hP hD hS hl => lv_icmp_gt hx hb hd ht (fun q => (hi _ _ _ _).mp (kt q) H locs ls hP hD hS hl) (fun q => (hi _ _ _ _).mp (kf q) H locs ls hP hD hS hl))
theorem rl_if_le (hG : rl_Env nc ns l cc nL R own Ts D tys wl ro aS G) {x : Int32} {off : Int} {tgt : Nat} (hd : decode cc pc = .ok (.ifCond .le off, 3)) (ht : (pc : Int) + off = (tgt : Int)) (kt : x ≤ 0 → G σ tgt lv rest) (kf : ¬ x ≤ 0 → G σ (pc + 3) lv rest) : G σ pc lv (.int x :: rest) := by
  obtain ⟨p, e, s, m, args, below, meth, c, Q, A, ⟨hx, hb, hml, hown, hts⟩, hK, hA, hAS, hro, ⟨hnc, hns⟩, hi⟩ := hG
  exact (hi _ _ _ _).mpr (fun H locs ls hP hD hS hl => lv_if_le hx hb hd ht (fun q => (hi _ _ _ _).mp (kt q) H locs ls hP hD hS hl) (fun q => (hi _ _ _ _).mp (kf q) H locs ls hP hD hS hl))
theorem rl_icmp_le (hG : rl_Env nc ns l cc nL R own Ts D tys wl ro aS G) {x y : Int32} {off : Int} {tgt : Nat} (hd : decode cc pc = .ok (.if_icmp .le off, 3)) (ht : (pc : Int) + off = (tgt : Int)) (kt : x ≤ y → G σ tgt lv rest) (kf : ¬ x ≤ y → G σ (pc + 3) lv rest) : G σ pc lv (.int y :: .int x :: rest) := by
  obtain ⟨p, e, s, m, args, below, meth, c, Q, A, ⟨hx, hb, hml, hown, hts⟩, hK, hA, hAS, hro, ⟨hnc, hns⟩, hi⟩ := hG
  exact (hi _ _ _ _).mpr (fun H locs ls hP hD hS hl => lv_icmp_le hx hb hd ht (fun q => (hi _ _ _ _).mp (kt q) H locs ls hP hD hS hl) (fun q => (hi _ _ _ _).mp (kf q) H locs ls hP hD hS hl))
theorem rl_goto (hG : rl_Env nc ns l cc nL R own Ts D tys wl ro aS G) {off : Int} {tgt : Nat} (hd : decode cc pc = .ok (.goto off, 3)) (ht : (pc : Int) + off = (tgt : Int)) (k : G σ tgt lv rest) : G σ pc lv rest := by
  obtain ⟨p, e, s, m, args, below, meth, c, Q, A, ⟨hx, hb, hml, hown, hts⟩, hK, hA, hAS, hro, ⟨hnc, hns⟩, hi⟩ := hG
  exact (hi _ _ _ _).mpr (fun H locs ls hP hD hS hl => lv_goto hx hb hd ht ((hi _ _ _ _).mp k H locs ls hP hD hS hl))
theorem rl_lookup (hG : rl_Env nc ns l cc nL R own Ts D tys wl ro aS G) {dflt : Int} {ps : Array (Int × Int)} {len : Nat} {x : Int32} {off : Int} {tgt : Nat} (hd : decode cc pc = .ok (.lookupswitch dflt ps, len)) (hp : (ps.toList.zip (ps.toList.drop 1)).all (fun (a, next) => a.1 < next.1) = true) (ho : Op.lookupswitch.offset ps.toList dflt x.toInt = off) (ht : (pc : Int) + off = (tgt : Int)) (k : G σ tgt lv rest) : G σ pc lv (.int x :: rest) := by
  obtain ⟨p, e, s, m, args, below, meth, c, Q, A, ⟨hx, hb, hml, hown, hts⟩, hK, hA, hAS, hro, ⟨hnc, hns⟩, hi⟩ := hG
  exact (hi _ _ _ _).mpr (fun H locs ls hP hD hS hl => lv_lookup hx hb hd hp ho ht ((hi _ _ _ _).mp k H locs ls hP hD hS hl))
theorem rl_tableOut (hG : rl_Env nc ns l cc nL R own Ts D tys wl ro aS G) {dflt lo hii : Int} {offs : Array Int} {len : Nat} {x : Int32} {tgt : Nat} (hd : decode cc pc = .ok (.tableswitch dflt lo hii offs, len)) (h : x.toInt < lo ∨ hii < x.toInt) (ht : (pc : Int) + dflt = (tgt : Int)) (k : G σ tgt lv rest) : G σ pc lv (.int x :: rest) := by
  obtain ⟨p, e, s, m, args, below, meth, c, Q, A, ⟨hx, hb, hml, hown, hts⟩, hK, hA, hAS, hro, ⟨hnc, hns⟩, hi⟩ := hG
  exact (hi _ _ _ _).mpr (fun H locs ls hP hD hS hl => lv_tableOut hx hb hd h ht ((hi _ _ _ _).mp k H locs ls hP hD hS hl))
theorem rl_tableIn (hG : rl_Env nc ns l cc nL R own Ts D tys wl ro aS G) {dflt lo hii : Int} {offs : Array Int} {len : Nat} {x : Int32} {off : Int} {tgt : Nat} (hd : decode cc pc = .ok (.tableswitch dflt lo hii offs, len)) (h1 : ¬ x.toInt < lo) (h2 : ¬ hii < x.toInt) (ho : offs[(x.toInt - lo).toNat]? = some off) (ht : (pc : Int) + off = (tgt : Int)) (k : G σ tgt lv rest) : G σ pc lv (.int x :: rest) := by
  obtain ⟨p, e, s, m, args, below, meth, c, Q, A, ⟨hx, hb, hml, hown, hts⟩, hK, hA, hAS, hro, ⟨hnc, hns⟩, hi⟩ := hG
  exact (hi _ _ _ _).mpr (fun H locs ls hP hD hS hl => lv_tableIn hx hb hd h1 h2 ho ht ((hi _ _ _ _).mp k H locs ls hP hD hS hl))
theorem rl_get (hG : rl_Env nc ns l cc nL R own Ts D tys wl ro aS G) {C : String} {T : u_T} {N ci index a : Nat} (hin : ∀ w ∈ u_ws C T N, w ∈ Ts) (q0 : Nat) {fs : List Value} (he : (wl σ)[q0]? = some (a, .inr (ci, fs))) (hc : vwCl[ci]? = some (C, T, N)) (j : Nat) (hj : j < N) (hlink : Cond.fieldLink own index (T j).1 (T j).2.1 (T j).2.2.1 ∈ Ts) {v : Value} (hv : fs[j]? = some v) (hd : decode cc pc = .ok (.getfield index, 3)) (k : G σ (pc + 3) lv (v :: rest)) : G σ pc lv (.ref a :: rest) := by
  obtain ⟨p, e, s, m, args, below, meth, c, Q, A, ⟨hx, hb, hml, hown, hts⟩, hK, hA, hAS, hro, ⟨hnc, hns⟩, hi⟩ := hG
  exact (hi _ _ _ _).mpr (fun H locs ls hP hD hS hl => va_get hx hb hts hin hown hK hP q0 he hc j hj (hts _ hlink) (fun _ h => h) hv hd ((hi _ _ _ _).mp k H locs ls hP hD hS hl))
theorem rl_put (hG : rl_Env nc ns l cc nL R own Ts D tys wl ro aS G) {C : String} {T : u_T} {N ci index a : Nat} (hin : ∀ w ∈ u_ws C T N, w ∈ Ts) (ty0 : Nat → FieldType) (hty : ∀ k, k < N → parseFieldDescriptor (T k).2.2.1 = some (ty0 k)) (hnm : ∀ a, a < N → ∀ b, b < N → a ≠ b → (T a).2.1 ≠ (T b).2.1) (q0 : Nat) {fs : List Value} (he : (wl σ)[q0]? = some (a, .inr (ci, fs))) (hc : vwCl[ci]? = some (C, T, N)) (j : Nat) (hj : j < N) (hlink : Cond.fieldLink own index (T j).1 (T j).2.1 (T j).2.2.1 ∈ Ts) (hfin : (T j).2.2.2 = false) {v : Int32} (hdd : parseFieldDescriptor (T j).2.2.1 = some .int) (hlf : j < fs.length) {σ' : S} (hset : (wl σ).set q0 (a, .inr (ci, fs.set j (.int v))) = wl σ') (hd : decode cc pc = .ok (.putfield index, 3)) (k : G σ' (pc + 3) lv rest) : G σ pc lv (.int v :: .ref a :: rest) := by
  obtain ⟨p, e, s, m, args, below, meth, c, Q, A, ⟨hx, hb, hml, hown, hts⟩, hK, hA, hAS, hro, ⟨hnc, hns⟩, hi⟩ := hG
  exact (hi _ _ _ _).mpr (fun H locs ls hP hD hS hl => va_put hx hb hts hin ty0 hty hnm hown hK hP (hD.weaken (fun _ q _ h => hAS q.1 h)) hS q0 he hc j hj (hts _ hlink) (fun _ h => h) hfin hdd rfl rfl hlf hd (fun H1 locs1 hP1 _ hS1 => (hi _ _ _ _).mp k H1 locs1 ls (hset ▸ hP1) (hset ▸ hD.set he) hS1 hl))
theorem rl_iald (hG : rl_Env nc ns l cc nL R own Ts D tys wl ro aS G) (q0 t0 : Nat) {a : Nat} {cA : ClassId} {n : Nat} {f : Nat → Int32} (ha : (wl σ)[q0]? = some (a, .inl (cA, n, .inl f))) (ht : tys[t0]? = some (cA, .int)) {i x : Int32} (hin : vp_in i n) (he : x = f i.toNatClampNeg) (hd : decode cc pc = .ok (.iaload, 1)) (k : G σ (pc + 1) lv (.int x :: rest)) : G σ pc lv (.int i :: .ref a :: rest) := by
  obtain ⟨p, e, s, m, args, below, meth, c, Q, A, ⟨hx, hb, hml, hown, hts⟩, hK, hA, hAS, hro, ⟨hnc, hns⟩, hi⟩ := hG
  exact (hi _ _ _ _).mpr (fun H locs ls hP hD hS hl => va_iald hx hb hK hP q0 t0 ha ht hin hd (by rw [← he]; exact ((hi _ _ _ _).mp k H locs ls hP hD hS hl)))
theorem rl_iast (hG : rl_Env nc ns l cc nL R own Ts D tys wl ro aS G) (q0 t0 : Nat) {a : Nat} {cA : ClassId} {n : Nat} {f : Nat → Int32} (ha : (wl σ)[q0]? = some (a, .inl (cA, n, .inl f))) (ht : tys[t0]? = some (cA, .int)) {i x : Int32} (hin : vp_in i n) {σ' : S} (hset : (wl σ).set q0 (a, .inl (cA, n, .inl (upd f i.toNatClampNeg x))) = wl σ') (hd : decode cc pc = .ok (.iastore, 1)) (k : G σ' (pc + 1) lv rest) : G σ pc lv (.int x :: .int i :: .ref a :: rest) := by
  obtain ⟨p, e, s, m, args, below, meth, c, Q, A, ⟨hx, hb, hml, hown, hts⟩, hK, hA, hAS, hro, ⟨hnc, hns⟩, hi⟩ := hG
  exact (hi _ _ _ _).mpr (fun H locs ls hP hD hS hl => va_iast hx hb hK hP (hD.weaken (fun _ q _ h => hAS q.1 h)) hS q0 t0 ha ht hin hd (fun H1 locs1 hP1 _ hS1 => (hi _ _ _ _).mp k H1 locs1 ls (hset ▸ hP1) (hset ▸ hD.set ha) hS1 hl))
theorem rl_alen (hG : rl_Env nc ns l cc nL R own Ts D tys wl ro aS G) (q0 t0 : Nat) {a : Nat} {cA : ClassId} {x : vp_A} (ha : (wl σ)[q0]? = some (a, .inl (cA, x))) {ty : FieldType} (ht : tys[t0]? = some (cA, ty)) {v : Int32} (hv : Int32.ofNat x.1 = v) (hd : decode cc pc = .ok (.arraylength, 1)) (k : G σ (pc + 1) lv (.int v :: rest)) : G σ pc lv (.ref a :: rest) := by
  obtain ⟨p, e, s, m, args, below, meth, c, Q, A, ⟨hx, hb, hml, hown, hts⟩, hK, hA, hAS, hro, ⟨hnc, hns⟩, hi⟩ := hG
  exact (hi _ _ _ _).mpr (fun H locs ls hP hD hS hl => va_alen hx hb hK hP q0 t0 ha ht hv hd ((hi _ _ _ _).mp k H locs ls hP hD hS hl))
theorem rl_aald (hG : rl_Env nc ns l cc nL R own Ts D tys wl ro aS G) (q0 t0 : Nat) {a : Nat} {cA : ClassId} {C : String} {n : Nat} {f : Nat → Option Nat} (ha : (wl σ)[q0]? = some (a, .inl (cA, n, .inr (.inr (.inr (.inr f)))))) (ht : tys[t0]? = some (cA, .object C)) {i : Int32} (hin : vp_in i n) {b : Nat} (hf : f i.toNatClampNeg = some b) (hd : decode cc pc = .ok (.aaload, 1)) (k : G σ (pc + 1) lv (.ref b :: rest)) : G σ pc lv (.int i :: .ref a :: rest) := by
  obtain ⟨p, e, s, m, args, below, meth, c, Q, A, ⟨hx, hb, hml, hown, hts⟩, hK, hA, hAS, hro, ⟨hnc, hns⟩, hi⟩ := hG
  exact (hi _ _ _ _).mpr (fun H locs ls hP hD hS hl => va_aldq hx hb hK hP q0 t0 ha ht hin hd (by rw [hf]; exact (hi _ _ _ _).mp k H locs ls hP hD hS hl))
/-- what the read-only premise is at a callee's entry -/
theorem rl_ro_call {ro : rl_O} (hRo : rl_Ro ro) {A aS : Nat → Prop} {s U : State} {H : Heap} {locs : List Loc} (hro : ro A s s.heap) (hS : va_S A s.heap H locs) (hA : ∀ q, s.heap.size ≤ q → A q) (hAS : ∀ q, aS q → A q) (hU : U.heap = H) (hW : s.WarmedH U.vm) : ro (rl_A aS H.size) U U.heap := by
  refine hRo.2.1 _ s U _ hW ?_
  rw [hU]
  refine hRo.2.2.2 A _ _ _ (fun q h => ?_) (hRo.2.2.1 A s s.heap H (fun q h1 h2 => hS.2.1 q h1 h2) hro)
  rcases h with h | h
  · exact hAS q h
  · exact hA q (Nat.le_trans hS.1 h)
theorem rl_sub {A aS : Nat → Prop} {s : State} {H : Heap} {locs : List Loc} (hS : va_S A s.heap H locs) (hA : ∀ q, s.heap.size ≤ q → A q) (hAS : ∀ q, aS q → A q) : ∀ q, rl_A aS H.size q → A q := fun q h => h.elim (hAS q) (fun h => hA q (Nat.le_trans hS.1 h))
theorem rl_blind {S : Type} {D : va_G} {tys : List (ClassId × FieldType)} {wl : S → va_W} {ro : rl_O} {aS : Nat → Prop} {σ : S} {sz : Nat} {avs : List Value} (hRo : rl_Ro ro) : FrameBlind (va_Pc avs (rl_Pre D tys wl ro aS σ sz)) := fun a U g mk q => by
  obtain ⟨q0, q1, qP, qK, qD, qR⟩ := q
  exact ⟨q0, q1, qP, va_K.moved (u := U) (U := U.calling g mk a) (Vm.Alike.refl U.vm) qK, qD, hRo.1 _ U (U.calling g mk a) _ rfl qR⟩
theorem rl_callVi (hG : rl_Env nc ns l cc nL R own Ts D tys wl ro aS G) (hRo : rl_Ro ro) {y : MethodName} {ws ws' : List Cond} {rm : Room} {bytes : ByteArray} {maxL index : Nat} {ret : Option FieldType} {C : String} {T : u_T} {N ci b : Nat} {As : List Value} {τ : S} {r : Int32} (hM : rl_Mi l y ws rm D tys wl ro aS (.ref b :: As) σ r τ) (hT : GoodIn Ts (wsV own index C y ws)) (hw : ws = Cond.code y bytes maxL ret :: ws') (q0 : Nat) {fs : List Value} (he : (wl σ)[q0]? = some (b, .inr (ci, fs))) (hc : vwCl[ci]? = some (C, T, N)) (na : Nat) (hna : As.length = na) (hd0 : y.cls = C ∧ y.cls ≠ "java/lang/invoke/MethodHandle" ∧ y.cls ≠ "java/lang/invoke/VarHandle" ∧ (parseMethodDescriptor y.desc).map (fun d => d.parameters.length) = some na) (hrc : rm.cells = 0) (hrs : rm.slots = 0) (hR : rm.frames + 1 ≤ R.frames ∧ 8 + (maxL + 11) + rm.locals ≤ R.locals) (hrest : (rest.map fun v => v.category).sum ≤ 8) {st0 : List Value} (hst : st0 = As.reverse ++ .ref b :: rest) (hd : decode cc pc = .ok (.invokevirtual index, 3)) (k : G τ (pc + 3) lv (.int r :: rest)) : G σ pc lv st0 := by
  obtain ⟨p, e, s, m, args, below, meth, c, Q, A, ⟨hx, hb, hml, hown, hts⟩, hK, hA, hAS, hro, ⟨hnc, hns⟩, hi⟩ := hG
  exact (hi _ _ _ _).mpr (fun H locs ls hP hD hS hl => va_calli (va_runV (As := As) (rest := rest) ⟨hx, hb, hml, hown, hts⟩ (hM H.size) (cwV na hts hT hw hrc hrs hd0 hR) ⟨rl_blind hRo, va_recv hK hP hc he, fun U hU hW => ⟨rfl, by rw [hU], by rw [hU]; exact hP, va_K.moved hW.alike hK, hD, rl_ro_call hRo hro hS hA hAS hU hW⟩⟩ rfl hna hl.1 hst (lv_room hrest) hd ⟨hnc, hns⟩) hS (fun q _ h => rl_sub hS hA hAS q h) (rl_sub hS hA hAS) (fun r' u t H1 locs1 ht _ hw hB _ _ hS1 => by
    obtain ⟨rfl, rfl⟩ := hw
    exact (hi _ _ _ _).mp k H1 locs1 ls (ht ▸ hB.1) hB.2 hS1 hl))
theorem rl_callSi (hG : rl_Env nc ns l cc nL R own Ts D tys wl ro aS G) (hRo : rl_Ro ro) {y : MethodName} {ws ws' : List Cond} {rm : Room} {bytes : ByteArray} {maxL index : Nat} {ret : Option FieldType} {As : List Value} {τ : S} {r : Int32} (hM : rl_Mi l y ws rm D tys wl ro aS As σ r τ) (hT : GoodIn Ts (va_wsS own index y ws)) (hw : ws = Cond.code y bytes maxL ret :: ws') (na : Nat) (hna : As.length = na) (hd0 : y.cls ≠ "java/lang/invoke/MethodHandle" ∧ y.cls ≠ "java/lang/invoke/VarHandle" ∧ (parseMethodDescriptor y.desc).map (fun d => d.parameters.length) = some na) (hrc : rm.cells = 0) (hrs : rm.slots = 0) (hR : rm.frames + 1 ≤ R.frames ∧ 8 + (maxL + 11) + rm.locals ≤ R.locals) (hrest : (rest.map fun v => v.category).sum ≤ 8) {st0 : List Value} (hst : st0 = As.reverse ++ rest) (hd : decode cc pc = .ok (.invokestatic index, 3)) (k : G τ (pc + 3) lv (.int r :: rest)) : G σ pc lv st0 := by
  obtain ⟨p, e, s, m, args, below, meth, c, Q, A, ⟨hx, hb, hml, hown, hts⟩, hK, hA, hAS, hro, ⟨hnc, hns⟩, hi⟩ := hG
  exact (hi _ _ _ _).mpr (fun H locs ls hP hD hS hl => va_calli (va_runS (As := As) (rest := rest) ⟨hx, hb, hml, hown, hts⟩ (hM H.size) (va_cwS na hts hT hw hrc hrs hd0 hR) ⟨rl_blind hRo, fun U hU hW => ⟨rfl, by rw [hU], by rw [hU]; exact hP, va_K.moved hW.alike hK, hD, rl_ro_call hRo hro hS hA hAS hU hW⟩⟩ rfl hna hl.1 hst (lv_room hrest) hd ⟨hnc, hns⟩) hS (fun q _ h => rl_sub hS hA hAS q h) (rl_sub hS hA hAS) (fun r' u t H1 locs1 ht _ hw hB _ _ hS1 => by
    obtain ⟨rfl, rfl⟩ := hw
    exact (hi _ _ _ _).mp k H1 locs1 ls (ht ▸ hB.1) hB.2 hS1 hl))
theorem rl_callVl (hG : rl_Env nc ns l cc nL R own Ts D tys wl ro aS G) (hRo : rl_Ro ro) {y : MethodName} {ws ws' : List Cond} {rm : Room} {bytes : ByteArray} {maxL index : Nat} {ret : Option FieldType} {C : String} {T : u_T} {N ci b : Nat} {As : List Value} {τ : S} {r : Int64} (hM : rl_Ml l y ws rm D tys wl ro aS (.ref b :: As) σ r τ) (hT : GoodIn Ts (wsV own index C y ws)) (hw : ws = Cond.code y bytes maxL ret :: ws') (q0 : Nat) {fs : List Value} (he : (wl σ)[q0]? = some (b, .inr (ci, fs))) (hc : vwCl[ci]? = some (C, T, N)) (na : Nat) (hna : As.length = na) (hd0 : y.cls = C ∧ y.cls ≠ "java/lang/invoke/MethodHandle" ∧ y.cls ≠ "java/lang/invoke/VarHandle" ∧ (parseMethodDescriptor y.desc).map (fun d => d.parameters.length) = some na) (hrc : rm.cells = 0) (hrs : rm.slots = 0) (hR : rm.frames + 1 ≤ R.frames ∧ 8 + (maxL + 11) + rm.locals ≤ R.locals) (hrest : (rest.map fun v => v.category).sum ≤ 8) {st0 : List Value} (hst : st0 = As.reverse ++ .ref b :: rest) (hd : decode cc pc = .ok (.invokevirtual index, 3)) (k : G τ (pc + 3) lv (.long r :: rest)) : G σ pc lv st0 := by
  obtain ⟨p, e, s, m, args, below, meth, c, Q, A, ⟨hx, hb, hml, hown, hts⟩, hK, hA, hAS, hro, ⟨hnc, hns⟩, hi⟩ := hG
  exact (hi _ _ _ _).mpr (fun H locs ls hP hD hS hl => va_calll (va_runV (As := As) (rest := rest) ⟨hx, hb, hml, hown, hts⟩ (hM H.size) (cwV na hts hT hw hrc hrs hd0 hR) ⟨rl_blind hRo, va_recv hK hP hc he, fun U hU hW => ⟨rfl, by rw [hU], by rw [hU]; exact hP, va_K.moved hW.alike hK, hD, rl_ro_call hRo hro hS hA hAS hU hW⟩⟩ rfl hna hl.1 hst (lv_room hrest) hd ⟨hnc, hns⟩) hS (fun q _ h => rl_sub hS hA hAS q h) (rl_sub hS hA hAS) (fun r' u t H1 locs1 ht _ hw hB _ _ hS1 => by
    obtain ⟨rfl, rfl⟩ := hw
    exact (hi _ _ _ _).mp k H1 locs1 ls (ht ▸ hB.1) hB.2 hS1 hl))
theorem rl_callSl (hG : rl_Env nc ns l cc nL R own Ts D tys wl ro aS G) (hRo : rl_Ro ro) {y : MethodName} {ws ws' : List Cond} {rm : Room} {bytes : ByteArray} {maxL index : Nat} {ret : Option FieldType} {As : List Value} {τ : S} {r : Int64} (hM : rl_Ml l y ws rm D tys wl ro aS As σ r τ) (hT : GoodIn Ts (va_wsS own index y ws)) (hw : ws = Cond.code y bytes maxL ret :: ws') (na : Nat) (hna : As.length = na) (hd0 : y.cls ≠ "java/lang/invoke/MethodHandle" ∧ y.cls ≠ "java/lang/invoke/VarHandle" ∧ (parseMethodDescriptor y.desc).map (fun d => d.parameters.length) = some na) (hrc : rm.cells = 0) (hrs : rm.slots = 0) (hR : rm.frames + 1 ≤ R.frames ∧ 8 + (maxL + 11) + rm.locals ≤ R.locals) (hrest : (rest.map fun v => v.category).sum ≤ 8) {st0 : List Value} (hst : st0 = As.reverse ++ rest) (hd : decode cc pc = .ok (.invokestatic index, 3)) (k : G τ (pc + 3) lv (.long r :: rest)) : G σ pc lv st0 := by
  obtain ⟨p, e, s, m, args, below, meth, c, Q, A, ⟨hx, hb, hml, hown, hts⟩, hK, hA, hAS, hro, ⟨hnc, hns⟩, hi⟩ := hG
  exact (hi _ _ _ _).mpr (fun H locs ls hP hD hS hl => va_calll (va_runS (As := As) (rest := rest) ⟨hx, hb, hml, hown, hts⟩ (hM H.size) (va_cwS na hts hT hw hrc hrs hd0 hR) ⟨rl_blind hRo, fun U hU hW => ⟨rfl, by rw [hU], by rw [hU]; exact hP, va_K.moved hW.alike hK, hD, rl_ro_call hRo hro hS hA hAS hU hW⟩⟩ rfl hna hl.1 hst (lv_room hrest) hd ⟨hnc, hns⟩) hS (fun q _ h => rl_sub hS hA hAS q h) (rl_sub hS hA hAS) (fun r' u t H1 locs1 ht _ hw hB _ _ hS1 => by
    obtain ⟨rfl, rfl⟩ := hw
    exact (hi _ _ _ _).mp k H1 locs1 ls (ht ▸ hB.1) hB.2 hS1 hl))
theorem rl_callVv (hG : rl_Env nc ns l cc nL R own Ts D tys wl ro aS G) (hRo : rl_Ro ro) {y : MethodName} {ws ws' : List Cond} {rm : Room} {bytes : ByteArray} {maxL index : Nat} {ret : Option FieldType} {C : String} {T : u_T} {N ci b : Nat} {As : List Value} {τ : S}  (hM : rl_Mv l y ws rm D tys wl ro aS (.ref b :: As) σ τ) (hT : GoodIn Ts (wsV own index C y ws)) (hw : ws = Cond.code y bytes maxL ret :: ws') (q0 : Nat) {fs : List Value} (he : (wl σ)[q0]? = some (b, .inr (ci, fs))) (hc : vwCl[ci]? = some (C, T, N)) (na : Nat) (hna : As.length = na) (hd0 : y.cls = C ∧ y.cls ≠ "java/lang/invoke/MethodHandle" ∧ y.cls ≠ "java/lang/invoke/VarHandle" ∧ (parseMethodDescriptor y.desc).map (fun d => d.parameters.length) = some na) (hrc : rm.cells = 0) (hrs : rm.slots = 0) (hR : rm.frames + 1 ≤ R.frames ∧ 8 + (maxL + 11) + rm.locals ≤ R.locals) (hrest : (rest.map fun v => v.category).sum ≤ 8) {st0 : List Value} (hst : st0 = As.reverse ++ .ref b :: rest) (hd : decode cc pc = .ok (.invokevirtual index, 3)) (k : G τ (pc + 3) lv (rest)) : G σ pc lv st0 := by
  obtain ⟨p, e, s, m, args, below, meth, c, Q, A, ⟨hx, hb, hml, hown, hts⟩, hK, hA, hAS, hro, ⟨hnc, hns⟩, hi⟩ := hG
  exact (hi _ _ _ _).mpr (fun H locs ls hP hD hS hl => va_callv (va_runV (As := As) (rest := rest) ⟨hx, hb, hml, hown, hts⟩ (hM H.size) (cwV na hts hT hw hrc hrs hd0 hR) ⟨rl_blind hRo, va_recv hK hP hc he, fun U hU hW => ⟨rfl, by rw [hU], by rw [hU]; exact hP, va_K.moved hW.alike hK, hD, rl_ro_call hRo hro hS hA hAS hU hW⟩⟩ rfl hna hl.1 hst (lv_room hrest) hd ⟨hnc, hns⟩) hS (fun q _ h => rl_sub hS hA hAS q h) (rl_sub hS hA hAS) (fun u t H1 locs1 ht _ hw hB _ _ hS1 => by
    obtain rfl := hw
    exact (hi _ _ _ _).mp k H1 locs1 ls (ht ▸ hB.1) hB.2 hS1 hl))
theorem rl_callSv (hG : rl_Env nc ns l cc nL R own Ts D tys wl ro aS G) (hRo : rl_Ro ro) {y : MethodName} {ws ws' : List Cond} {rm : Room} {bytes : ByteArray} {maxL index : Nat} {ret : Option FieldType} {As : List Value} {τ : S}  (hM : rl_Mv l y ws rm D tys wl ro aS As σ τ) (hT : GoodIn Ts (va_wsS own index y ws)) (hw : ws = Cond.code y bytes maxL ret :: ws') (na : Nat) (hna : As.length = na) (hd0 : y.cls ≠ "java/lang/invoke/MethodHandle" ∧ y.cls ≠ "java/lang/invoke/VarHandle" ∧ (parseMethodDescriptor y.desc).map (fun d => d.parameters.length) = some na) (hrc : rm.cells = 0) (hrs : rm.slots = 0) (hR : rm.frames + 1 ≤ R.frames ∧ 8 + (maxL + 11) + rm.locals ≤ R.locals) (hrest : (rest.map fun v => v.category).sum ≤ 8) {st0 : List Value} (hst : st0 = As.reverse ++ rest) (hd : decode cc pc = .ok (.invokestatic index, 3)) (k : G τ (pc + 3) lv (rest)) : G σ pc lv st0 := by
  obtain ⟨p, e, s, m, args, below, meth, c, Q, A, ⟨hx, hb, hml, hown, hts⟩, hK, hA, hAS, hro, ⟨hnc, hns⟩, hi⟩ := hG
  exact (hi _ _ _ _).mpr (fun H locs ls hP hD hS hl => va_callv (va_runS (As := As) (rest := rest) ⟨hx, hb, hml, hown, hts⟩ (hM H.size) (va_cwS na hts hT hw hrc hrs hd0 hR) ⟨rl_blind hRo, fun U hU hW => ⟨rfl, by rw [hU], by rw [hU]; exact hP, va_K.moved hW.alike hK, hD, rl_ro_call hRo hro hS hA hAS hU hW⟩⟩ rfl hna hl.1 hst (lv_room hrest) hd ⟨hnc, hns⟩) hS (fun q _ h => rl_sub hS hA hAS q h) (rl_sub hS hA hAS) (fun u t H1 locs1 ht _ hw hB _ _ hS1 => by
    obtain rfl := hw
    exact (hi _ _ _ _).mp k H1 locs1 ls (ht ▸ hB.1) hB.2 hS1 hl))
theorem rl_callZi (hG : rl_Env nc ns l cc nL R own Ts D tys wl ro aS G) {y : MethodName} {ws ws' : List Cond} {rm : Room} {bytes : ByteArray} {maxL index : Nat} {ret : Option FieldType} {As : List Value} {u0 : St} {r : Int32} (hM : rl_Mi l y ws rm D [] (fun _ : St => ([] : va_W)) (fun _ _ _ => True) (fun _ => False) As u0 r u0) (hT : GoodIn Ts (va_wsS own index y ws)) (hw : ws = Cond.code y bytes maxL ret :: ws') (na : Nat) (hna : As.length = na) (hd0 : y.cls ≠ "java/lang/invoke/MethodHandle" ∧ y.cls ≠ "java/lang/invoke/VarHandle" ∧ (parseMethodDescriptor y.desc).map (fun d => d.parameters.length) = some na) (hrc : rm.cells = 0) (hrs : rm.slots = 0) (hR : rm.frames + 1 ≤ R.frames ∧ 8 + (maxL + 11) + rm.locals ≤ R.locals) (hrest : (rest.map fun v => v.category).sum ≤ 8) {st0 : List Value} (hst : st0 = As.reverse ++ rest) (hd : decode cc pc = .ok (.invokestatic index, 3)) (k : G σ (pc + 3) lv (.int r :: rest)) : G σ pc lv st0 := by
  obtain ⟨p, e, s, m, args, below, meth, c, Q, A, ⟨hx, hb, hml, hown, hts⟩, hK, hA, hAS, hro, ⟨hnc, hns⟩, hi⟩ := hG
  exact (hi _ _ _ _).mpr (fun H locs ls hP hD hS hl => va_calli (va_runS (As := As) (rest := rest) ⟨hx, hb, hml, hown, hts⟩ (hM H.size) (va_cwS na hts hT hw hrc hrs hd0 hR) ⟨rl_blind rl_Ro_true, fun U hU hW => ⟨rfl, by rw [hU], fun j q h => by simp at h, va_K.moved hW.alike (hK.sub [] rfl), ⟨fun i j p q h => by simp at h, fun j q h => by simp at h⟩, trivial⟩⟩ rfl hna hl.1 hst (lv_room hrest) hd ⟨hnc, hns⟩) hS (fun q h1 h => h.elim False.elim (fun h => absurd h1 (Nat.not_lt.mpr h))) (fun q h => h.elim False.elim (fun h => hA q (Nat.le_trans hS.1 h))) (fun r' u t H1 locs1 ht _ hw hB hz1 hk1 hS1 => by
    obtain ⟨rfl, rfl⟩ := hw
    exact (hi _ _ _ _).mp k H1 locs1 ls (va_P.kept hP (fun j q hq => hk1 q.1 (hP j q hq).lt (fun h => h.elim id (fun h => absurd (hP j q hq).lt (Nat.not_lt.mpr h))))) hD hS1 hl))
theorem rl_callNi (hG : rl_Env nc ns l cc nL R own Ts D tys wl ro aS G) {y : MethodName} {ws ws' : List Cond} {rm : Room} {bytes : ByteArray} {maxL index : Nat} {ret : Option FieldType} {host : String} {As : List Value} {u0 : St} {r : Int32} (hM : rl_Mi l y ws rm D [] (fun _ : St => ([] : va_W)) (fun _ _ _ => True) (fun _ => False) As u0 r u0) (hnest : ∀ (A : Nat → Prop) (U : State) (H : Heap), ro A U H → va_Nw (.methodLinkNest own index y host) U) (hT : GoodIn Ts ws) (hw : ws = Cond.code y bytes maxL ret :: ws') (hstat : Cond.static y ∈ Ts) (hini : Cond.initialized y.cls ∈ Ts) (na : Nat) (hna : As.length = na) (hd0 : y.cls ≠ "java/lang/invoke/MethodHandle" ∧ y.cls ≠ "java/lang/invoke/VarHandle" ∧ (parseMethodDescriptor y.desc).map (fun d => d.parameters.length) = some na) (hrc : rm.cells = 0) (hrs : rm.slots = 0) (hR : rm.frames + 1 ≤ R.frames ∧ 8 + (maxL + 11) + rm.locals ≤ R.locals) (hrest : (rest.map fun v => v.category).sum ≤ 8) {st0 : List Value} (hst : st0 = As.reverse ++ rest) (hd : decode cc pc = .ok (.invokestatic index, 3)) (k : G σ (pc + 3) lv (.int r :: rest)) : G σ pc lv st0 := by
  obtain ⟨p, e, s, m, args, below, meth, c, Q, A, ⟨hx, hb, hml, hown, hts⟩, hK, hA, hAS, hro, ⟨hnc, hns⟩, hi⟩ := hG
  exact (hi _ _ _ _).mpr (fun H locs ls hP hD hS hl => va_calli (va_runSN (host := host) (As := As) (rest := rest) ⟨hx, hb, hml, hown, hts⟩ (hM H.size) ⟨va_cnB na hts hT hw hrc hrs (hnest _ _ _ hro) (hts _ hini) hd0 hR, hts _ hstat, trivial⟩ ⟨rl_blind rl_Ro_true, fun U hU hW => ⟨rfl, by rw [hU], fun j q h => by simp at h, va_K.moved hW.alike (hK.sub [] rfl), ⟨fun i j p q h => by simp at h, fun j q h => by simp at h⟩, trivial⟩⟩ rfl hna hl.1 hst (lv_room hrest) hd ⟨hnc, hns⟩) hS (fun q h1 h => h.elim False.elim (fun h => absurd h1 (Nat.not_lt.mpr h))) (fun q h => h.elim False.elim (fun h => hA q (Nat.le_trans hS.1 h))) (fun r' u t H1 locs1 ht _ hw hB hz1 hk1 hS1 => by
    obtain ⟨rfl, rfl⟩ := hw
    exact (hi _ _ _ _).mp k H1 locs1 ls (va_P.kept hP (fun j q hq => hk1 q.1 (hP j q hq).lt (fun h => h.elim id (fun h => absurd (hP j q hq).lt (Nat.not_lt.mpr h))))) hD hS1 hl))
theorem rl_callZl (hG : rl_Env nc ns l cc nL R own Ts D tys wl ro aS G) {y : MethodName} {ws ws' : List Cond} {rm : Room} {bytes : ByteArray} {maxL index : Nat} {ret : Option FieldType} {As : List Value} {u0 : St} {r : Int64} (hM : rl_Ml l y ws rm D [] (fun _ : St => ([] : va_W)) (fun _ _ _ => True) (fun _ => False) As u0 r u0) (hT : GoodIn Ts (va_wsS own index y ws)) (hw : ws = Cond.code y bytes maxL ret :: ws') (na : Nat) (hna : As.length = na) (hd0 : y.cls ≠ "java/lang/invoke/MethodHandle" ∧ y.cls ≠ "java/lang/invoke/VarHandle" ∧ (parseMethodDescriptor y.desc).map (fun d => d.parameters.length) = some na) (hrc : rm.cells = 0) (hrs : rm.slots = 0) (hR : rm.frames + 1 ≤ R.frames ∧ 8 + (maxL + 11) + rm.locals ≤ R.locals) (hrest : (rest.map fun v => v.category).sum ≤ 8) {st0 : List Value} (hst : st0 = As.reverse ++ rest) (hd : decode cc pc = .ok (.invokestatic index, 3)) (k : G σ (pc + 3) lv (.long r :: rest)) : G σ pc lv st0 := by
  obtain ⟨p, e, s, m, args, below, meth, c, Q, A, ⟨hx, hb, hml, hown, hts⟩, hK, hA, hAS, hro, ⟨hnc, hns⟩, hi⟩ := hG
  exact (hi _ _ _ _).mpr (fun H locs ls hP hD hS hl => va_calll (va_runS (As := As) (rest := rest) ⟨hx, hb, hml, hown, hts⟩ (hM H.size) (va_cwS na hts hT hw hrc hrs hd0 hR) ⟨rl_blind rl_Ro_true, fun U hU hW => ⟨rfl, by rw [hU], fun j q h => by simp at h, va_K.moved hW.alike (hK.sub [] rfl), ⟨fun i j p q h => by simp at h, fun j q h => by simp at h⟩, trivial⟩⟩ rfl hna hl.1 hst (lv_room hrest) hd ⟨hnc, hns⟩) hS (fun q h1 h => h.elim False.elim (fun h => absurd h1 (Nat.not_lt.mpr h))) (fun q h => h.elim False.elim (fun h => hA q (Nat.le_trans hS.1 h))) (fun r' u t H1 locs1 ht _ hw hB hz1 hk1 hS1 => by
    obtain ⟨rfl, rfl⟩ := hw
    exact (hi _ _ _ _).mp k H1 locs1 ls (va_P.kept hP (fun j q hq => hk1 q.1 (hP j q hq).lt (fun h => h.elim id (fun h => absurd (hP j q hq).lt (Nat.not_lt.mpr h))))) hD hS1 hl))
theorem rl_callNl (hG : rl_Env nc ns l cc nL R own Ts D tys wl ro aS G) {y : MethodName} {ws ws' : List Cond} {rm : Room} {bytes : ByteArray} {maxL index : Nat} {ret : Option FieldType} {host : String} {As : List Value} {u0 : St} {r : Int64} (hM : rl_Ml l y ws rm D [] (fun _ : St => ([] : va_W)) (fun _ _ _ => True) (fun _ => False) As u0 r u0) (hnest : ∀ (A : Nat → Prop) (U : State) (H : Heap), ro A U H → va_Nw (.methodLinkNest own index y host) U) (hT : GoodIn Ts ws) (hw : ws = Cond.code y bytes maxL ret :: ws') (hstat : Cond.static y ∈ Ts) (hini : Cond.initialized y.cls ∈ Ts) (na : Nat) (hna : As.length = na) (hd0 : y.cls ≠ "java/lang/invoke/MethodHandle" ∧ y.cls ≠ "java/lang/invoke/VarHandle" ∧ (parseMethodDescriptor y.desc).map (fun d => d.parameters.length) = some na) (hrc : rm.cells = 0) (hrs : rm.slots = 0) (hR : rm.frames + 1 ≤ R.frames ∧ 8 + (maxL + 11) + rm.locals ≤ R.locals) (hrest : (rest.map fun v => v.category).sum ≤ 8) {st0 : List Value} (hst : st0 = As.reverse ++ rest) (hd : decode cc pc = .ok (.invokestatic index, 3)) (k : G σ (pc + 3) lv (.long r :: rest)) : G σ pc lv st0 := by
  obtain ⟨p, e, s, m, args, below, meth, c, Q, A, ⟨hx, hb, hml, hown, hts⟩, hK, hA, hAS, hro, ⟨hnc, hns⟩, hi⟩ := hG
  exact (hi _ _ _ _).mpr (fun H locs ls hP hD hS hl => va_calll (va_runSN (host := host) (As := As) (rest := rest) ⟨hx, hb, hml, hown, hts⟩ (hM H.size) ⟨va_cnB na hts hT hw hrc hrs (hnest _ _ _ hro) (hts _ hini) hd0 hR, hts _ hstat, trivial⟩ ⟨rl_blind rl_Ro_true, fun U hU hW => ⟨rfl, by rw [hU], fun j q h => by simp at h, va_K.moved hW.alike (hK.sub [] rfl), ⟨fun i j p q h => by simp at h, fun j q h => by simp at h⟩, trivial⟩⟩ rfl hna hl.1 hst (lv_room hrest) hd ⟨hnc, hns⟩) hS (fun q h1 h => h.elim False.elim (fun h => absurd h1 (Nat.not_lt.mpr h))) (fun q h => h.elim False.elim (fun h => hA q (Nat.le_trans hS.1 h))) (fun r' u t H1 locs1 ht _ hw hB hz1 hk1 hS1 => by
    obtain ⟨rfl, rfl⟩ := hw
    exact (hi _ _ _ _).mp k H1 locs1 ls (va_P.kept hP (fun j q hq => hk1 q.1 (hP j q hq).lt (fun h => h.elim id (fun h => absurd (hP j q hq).lt (Nat.not_lt.mpr h))))) hD hS1 hl))
theorem rl_irem2 (hG : rl_Env nc ns l cc nL R own Ts D tys wl ro aS G) {x x' y : Int32} (he : x' = x) (hd : decode cc pc = .ok (.irem, 1)) (hne : ¬ y = 0) (k : G σ (pc + 1) lv (.int (x' - x' / y * y) :: rest)) : G σ pc lv (.int y :: .int x :: rest) := by
  obtain ⟨p, e, s, m, args, below, meth, c, Q, A, ⟨hx, hb, hml, hown, hts⟩, hK, hA, hAS, hro, ⟨hnc, hns⟩, hi⟩ := hG
  exact (hi _ _ _ _).mpr (fun H locs ls hP hD hS hl => lv_irem hx hb hd hne (he ▸ ((hi _ _ _ _).mp k H locs ls hP hD hS hl)))
theorem rl_lvs (hG : rl_Env nc ns l cc nL R own Ts D tys wl ro aS G) (ks : List Nat) (hp : lv_pick lv ks = lv') (k : G σ pc lv' rest) : G σ pc lv rest := by
  obtain ⟨p, e, s, m, args, below, meth, c, Q, A, ⟨hx, hb, hml, hown, hts⟩, hK, hA, hAS, hro, ⟨hnc, hns⟩, hi⟩ := hG
  exact (hi _ _ _ _).mpr (fun H locs ls hP hD hS hl => (hi _ _ _ _).mp k H locs ls hP hD hS (lv_sub hl ks hp))
theorem rl_mmin (hG : rl_Env nc ns l cc nL R own Ts D tys wl ro aS G) {index : Nat} (h1 : Cond.methodLink own index Lib.Math.min.name ∈ Ts) (h2 : Cond.static Lib.Math.min.name ∈ Ts) (h3 : Cond.initialized "java/lang/Math" ∈ Ts) (h4 : Cond.code Lib.Math.min.name Lib.Math.min.code 2 (some .int) ∈ Ts) (hfr : 1 ≤ R.frames) (hlo : (rest.map fun v => v.category).sum + 13 ≤ R.locals) {x y : Int32} (hd : decode cc pc = .ok (.invokestatic index, 3)) (k : G σ (pc + 3) lv (.int (mi x y) :: rest)) : G σ pc lv (.int y :: .int x :: rest) := by
  obtain ⟨p, e, s, m, args, below, meth, c, Q, A, ⟨hx, hb, hml, hown, hts⟩, hK, hA, hAS, hro, ⟨hnc, hns⟩, hi⟩ := hG
  exact (hi _ _ _ _).mpr (fun H locs ls hP hD hS hl => va_mmin hx hb (hml.trans hl.1.symm) hown (hts _ h1) (hts _ h2) (hts _ h3) (hts _ h4) hfr hlo hnc hns hd ((hi _ _ _ _).mp k H locs ls hP hD hS hl))
theorem rl_mabs (hG : rl_Env nc ns l cc nL R own Ts D tys wl ro aS G) {index : Nat} (h1 : Cond.methodLink own index Lib.Math.abs.name ∈ Ts) (h2 : Cond.static Lib.Math.abs.name ∈ Ts) (h3 : Cond.initialized "java/lang/Math" ∈ Ts) (h4 : Cond.code Lib.Math.abs.name Lib.Math.abs.code 1 (some .int) ∈ Ts) (hfr : 1 ≤ R.frames) (hlo : (rest.map fun v => v.category).sum + 13 ≤ R.locals) {x : Int32} (hd : decode cc pc = .ok (.invokestatic index, 3)) (k : G σ (pc + 3) lv (.int (ab x) :: rest)) : G σ pc lv (.int x :: rest) := by
  obtain ⟨p, e, s, m, args, below, meth, c, Q, A, ⟨hx, hb, hml, hown, hts⟩, hK, hA, hAS, hro, ⟨hnc, hns⟩, hi⟩ := hG
  exact (hi _ _ _ _).mpr (fun H locs ls hP hD hS hl => va_mabs hx hb (hml.trans hl.1.symm) hown (hts _ h1) (hts _ h2) (hts _ h3) (hts _ h4) hfr hlo hnc hns hd ((hi _ _ _ _).mp k H locs ls hP hD hS hl))
theorem rl_acopy (hG : rl_Env nc ns l cc nL R own Ts D tys wl ro aS G) {index : Nat} (h1 : Cond.methodLink own index arraycopyName ∈ Ts) (h2 : Cond.native arraycopyName ∈ Ts) (h3 : Cond.static arraycopyName ∈ Ts) (h4 : Cond.initialized "java/lang/System" ∈ Ts) (q0 q1 t0 t1 : Nat) {a0 a1 : Nat} {c0 c1 : ClassId} {n0 n1 : Nat} {f g : Nat → Int32} (ha0 : (wl σ)[q0]? = some (a0, .inl (c0, n0, .inl f))) (ha1 : (wl σ)[q1]? = some (a1, .inl (c1, n1, .inl g))) (ht0 : tys[t0]? = some (c0, .int)) (ht1 : tys[t1]? = some (c1, .int)) {sp dp n : Int32} (i1 : ¬ sp < 0) (i2 : ¬ dp < 0) (i3 : ¬ n < 0) (i4 : sp.toNatClampNeg + n.toNatClampNeg ≤ n0) (i5 : dp.toNatClampNeg + n.toNatClampNeg ≤ n1) (hfr : 1 ≤ R.frames) (hlo : (rest.map fun v => v.category).sum + (nativeFrameWords "java/lang/System" "arraycopy" 5 + 11) ≤ R.locals) {σ' : S} (hset : (wl σ).set q1 (a1, .inl (c1, n1, .inl (va_cpy f g sp.toNatClampNeg dp.toNatClampNeg n.toNatClampNeg))) = wl σ') (hd : decode cc pc = .ok (.invokestatic index, 3)) (k : G σ' (pc + 3) lv rest) : G σ pc lv (.int n :: .int dp :: .ref a1 :: .int sp :: .ref a0 :: rest) := by
  obtain ⟨p, e, s, m, args, below, meth, c, Q, A, ⟨hx, hb, hml, hown, hts⟩, hK, hA, hAS, hro, ⟨hnc, hns⟩, hi⟩ := hG
  exact (hi _ _ _ _).mpr (fun H locs ls hP hD hS hl => va_copyi hx hb (hml.trans hl.1.symm) hown (hts _ h1) (hts _ h2) (hts _ h3) (hts _ h4) hK hP (hD.weaken (fun _ q _ h => hAS q.1 h)) hS q0 q1 t0 t1 ha0 ha1 ht0 ht1 rfl i1 i2 i3 i4 i5 (fun _ _ => rfl) hfr hlo hd (fun H1 locs1 hP1 _ hS1 => (hi _ _ _ _).mp k H1 locs1 ls (hset ▸ hP1) (hset ▸ hD.set ha1) hS1 hl))
theorem rl_gets (hG : rl_Env nc ns l cc nL R own Ts D tys wl ro aS G) {C n d : String} {v : Value} {index : Nat} (hZ : ∀ (A : Nat → Prop) (U : State) (H : Heap), ro A U H → va_Z C n d v A U H) (hlink : Cond.fieldLink own index C n d ∈ Ts) (hd : decode cc pc = .ok (.getstatic index, 3)) (k : G σ (pc + 3) lv (v :: rest)) : G σ pc lv rest := by
  obtain ⟨p, e, s, m, args, below, meth, c, Q, A, ⟨hx, hb, hml, hown, hts⟩, hK, hA, hAS, hro, ⟨hnc, hns⟩, hi⟩ := hG
  exact (hi _ _ _ _).mpr (fun H locs ls hP hD hS hl => va_gets hx hb (hZ _ _ _ hro) hS hown (hts _ hlink) (fun _ h => h) hd ((hi _ _ _ _).mp k H locs ls hP hD hS hl))
theorem rl_getsN (hG : rl_Env nc ns l cc nL R own Ts D tys wl ro aS G) {C n d host : String} {v : Value} {index : Nat} (hZ : ∀ (A : Nat → Prop) (U : State) (H : Heap), ro A U H → va_Z C n d v A U H) (hlink : ∀ (A : Nat → Prop) (U : State) (H : Heap), ro A U H → va_Nw (.fieldLinkNest own index C n d host) U) (hd : decode cc pc = .ok (.getstatic index, 3)) (k : G σ (pc + 3) lv (v :: rest)) : G σ pc lv rest := by
  obtain ⟨p, e, s, m, args, below, meth, c, Q, A, ⟨hx, hb, hml, hown, hts⟩, hK, hA, hAS, hro, ⟨hnc, hns⟩, hi⟩ := hG
  exact (hi _ _ _ _).mpr (fun H locs ls hP hD hS hl => va_getsN hx hb (hZ _ _ _ hro) hS hown (va_Nw.use rfl (hlink _ _ _ hro)) (fun _ h => h) hd ((hi _ _ _ _).mp k H locs ls hP hD hS hl))
theorem rl_ofget (hG : rl_Env nc ns l cc nL R own Ts D tys wl ro aS G) {o n d : String} {v : Value} {index q : Nat} (hE : ∀ (A : Nat → Prop) (U : State) (H : Heap), ro A U H → va_OF o n d v q A U H) (hlink : Cond.fieldLink own index o n d ∈ Ts) (hd : decode cc pc = .ok (.getfield index, 3)) (k : G σ (pc + 3) lv (v :: rest)) : G σ pc lv (.ref q :: rest) := by
  obtain ⟨p, e, s, m, args, below, meth, c, Q, A, ⟨hx, hb, hml, hown, hts⟩, hK, hA, hAS, hro, ⟨hnc, hns⟩, hi⟩ := hG
  exact (hi _ _ _ _).mpr (fun H locs ls hP hD hS hl => vk_getf hx hb (hE _ _ _ hro) hS hown (hts _ hlink) (fun _ h => h) hd ((hi _ _ _ _).mp k H locs ls hP hD hS hl))
theorem rl_tlen (hG : rl_Env nc ns l cc nL R own Ts D tys wl ro aS G) {ty : FieldType} {t N : Nat} {f : Nat → Value} (hT : ∀ (A : Nat → Prop) (U : State) (H : Heap), ro A U H → va_T ty t N f A U H) {v : Int32} (hv : Int32.ofNat N = v) (hd : decode cc pc = .ok (.arraylength, 1)) (k : G σ (pc + 1) lv (.int v :: rest)) : G σ pc lv (.ref t :: rest) := by
  obtain ⟨p, e, s, m, args, below, meth, c, Q, A, ⟨hx, hb, hml, hown, hts⟩, hK, hA, hAS, hro, ⟨hnc, hns⟩, hi⟩ := hG
  exact (hi _ _ _ _).mpr (fun H locs ls hP hD hS hl => va_tlen hx hb (hT _ _ _ hro) hS hv hd ((hi _ _ _ _).mp k H locs ls hP hD hS hl))
theorem rl_tb (hG : rl_Env nc ns l cc nL R own Ts D tys wl ro aS G) {t N : Nat} {f : Nat → Value} (hT : ∀ (A : Nat → Prop) (U : State) (H : Heap), ro A U H → va_T .byte t N f A U H) {i : Int32} (hin : vp_in i N) {v : Value} (hv : f i.toNatClampNeg = v) (hd : decode cc pc = .ok (.baload, 1)) (k : G σ (pc + 1) lv (v :: rest)) : G σ pc lv (.int i :: .ref t :: rest) := by
  obtain ⟨p, e, s, m, args, below, meth, c, Q, A, ⟨hx, hb, hml, hown, hts⟩, hK, hA, hAS, hro, ⟨hnc, hns⟩, hi⟩ := hG
  exact (hi _ _ _ _).mpr (fun H locs ls hP hD hS hl => va_tb hx hb (hT _ _ _ hro) hS hin hv hd ((hi _ _ _ _).mp k H locs ls hP hD hS hl))
theorem rl_tl (hG : rl_Env nc ns l cc nL R own Ts D tys wl ro aS G) {t N : Nat} {f : Nat → Value} (hT : ∀ (A : Nat → Prop) (U : State) (H : Heap), ro A U H → va_T .long t N f A U H) {i : Int32} (hin : vp_in i N) {v : Value} (hv : f i.toNatClampNeg = v) (hd : decode cc pc = .ok (.laload, 1)) (k : G σ (pc + 1) lv (v :: rest)) : G σ pc lv (.int i :: .ref t :: rest) := by
  obtain ⟨p, e, s, m, args, below, meth, c, Q, A, ⟨hx, hb, hml, hown, hts⟩, hK, hA, hAS, hro, ⟨hnc, hns⟩, hi⟩ := hG
  exact (hi _ _ _ _).mpr (fun H locs ls hP hD hS hl => va_tl hx hb (hT _ _ _ hro) hS hin hv hd ((hi _ _ _ _).mp k H locs ls hP hD hS hl))
theorem rl_ldcs (hG : rl_Env nc ns l cc nL R own Ts D tys wl ro aS G) {tx : String} {index q : Nat} (hZ : ∀ (A : Nat → Prop) (U : State) (H : Heap), ro A U H → vk_R own index tx q U) (hd : decode cc pc = .ok (.ldc index, 2)) (k : G σ (pc + 2) lv (.ref q :: rest)) : G σ pc lv rest := by
  obtain ⟨p, e, s, m, args, below, meth, c, Q, A, ⟨hx, hb, hml, hown, hts⟩, hK, hA, hAS, hro, ⟨hnc, hns⟩, hi⟩ := hG
  exact (hi _ _ _ _).mpr (fun H locs ls hP hD hS hl => va_ldcS hx hb hown (hZ _ _ _ hro) hd ((hi _ _ _ _).mp k H locs ls hP hD hS hl))
theorem rl_callOi (hG : rl_Env nc ns l cc nL R own Ts D tys wl ro aS G) (hRo : rl_Ro ro) {y : MethodName} {ws ws' : List Cond} {rm : Room} {bytes : ByteArray} {maxL index : Nat} {ret : Option FieldType} {C : String} {b : Nat} {As : List Value} {τ : S} {r : Int32} (hM : rl_Mi l y ws rm D tys wl ro aS (.ref b :: As) σ r τ) (hT : GoodIn Ts (wsV own index C y ws)) (hw : ws = Cond.code y bytes maxL ret :: ws') (hrecv : ∀ (A : Nat → Prop) (U : State) (H : Heap) (locs : List Loc), ro A U U.heap → va_S A U.heap H locs → ∃ cell : Cell, H[b]? = some cell ∧ cell.vm.isStatics = false ∧ U.vm.findClass C = some cell.cls) (na : Nat) (hna : As.length = na) (hd0 : y.cls = C ∧ y.cls ≠ "java/lang/invoke/MethodHandle" ∧ y.cls ≠ "java/lang/invoke/VarHandle" ∧ (parseMethodDescriptor y.desc).map (fun d => d.parameters.length) = some na) (hrc : rm.cells = 0) (hrs : rm.slots = 0) (hR : rm.frames + 1 ≤ R.frames ∧ 8 + (maxL + 11) + rm.locals ≤ R.locals) (hrest : (rest.map fun v => v.category).sum ≤ 8) {st0 : List Value} (hst : st0 = As.reverse ++ .ref b :: rest) (hd : decode cc pc = .ok (.invokevirtual index, 3)) (k : G τ (pc + 3) lv (.int r :: rest)) : G σ pc lv st0 := by
  obtain ⟨p, e, s, m, args, below, meth, c, Q, A, ⟨hx, hb, hml, hown, hts⟩, hK, hA, hAS, hro, ⟨hnc, hns⟩, hi⟩ := hG
  exact (hi _ _ _ _).mpr (fun H locs ls hP hD hS hl => va_calli (va_runV (As := As) (rest := rest) ⟨hx, hb, hml, hown, hts⟩ (hM H.size) (cwV na hts hT hw hrc hrs hd0 hR) ⟨rl_blind hRo, hrecv A s H locs hro hS, fun U hU hW => ⟨rfl, by rw [hU], by rw [hU]; exact hP, va_K.moved hW.alike hK, hD, rl_ro_call hRo hro hS hA hAS hU hW⟩⟩ rfl hna hl.1 hst (lv_room hrest) hd ⟨hnc, hns⟩) hS (fun q _ h => rl_sub hS hA hAS q h) (rl_sub hS hA hAS) (fun r' u t H1 locs1 ht _ hw hB _ _ hS1 => by
    obtain ⟨rfl, rfl⟩ := hw
    exact (hi _ _ _ _).mp k H1 locs1 ls (ht ▸ hB.1) hB.2 hS1 hl))
end RLR
theorem rl_ret1 {cc : ByteArray} {S : Type} {G : S → Nat → List (Nat × Value) → List Value → Prop} {τ : S} {r e : Int32} {ty : FieldType} {pc : Nat} {lv : List (Nat × Value)} (hret : ∀ (pc : Nat) (lv : List (Nat × Value)), narrow ty (.int r) = .int r → decode cc pc = .ok (.ireturn, 1) → G τ pc lv [.int r]) (h : some e = some r) (hn : narrow ty (.int e) = .int e) (hd : decode cc pc = .ok (.ireturn, 1)) : G τ pc lv [.int e] := by cases h; exact hret pc lv hn hd
theorem rl_ret2 {cc : ByteArray} {S : Type} {G : S → Nat → List (Nat × Value) → List Value → Prop} {τ σ : S} {r e : Int32} {ty : FieldType} {pc : Nat} {lv : List (Nat × Value)} (hret : ∀ (pc : Nat) (lv : List (Nat × Value)), narrow ty (.int r) = .int r → decode cc pc = .ok (.ireturn, 1) → G τ pc lv [.int r]) (h : some (e, σ) = some (r, τ)) (hn : narrow ty (.int e) = .int e) (hd : decode cc pc = .ok (.ireturn, 1)) : G σ pc lv [.int e] := by cases h; exact hret pc lv hn hd
theorem rl_retl1 {cc : ByteArray} {S : Type} {G : S → Nat → List (Nat × Value) → List Value → Prop} {τ : S} {r e : Int64} {pc : Nat} {lv : List (Nat × Value)} (hret : ∀ (pc : Nat) (lv : List (Nat × Value)), decode cc pc = .ok (.lreturn, 1) → G τ pc lv [.long r]) (h : some e = some r) (hd : decode cc pc = .ok (.lreturn, 1)) : G τ pc lv [.long e] := by cases h; exact hret pc lv hd
theorem rl_retv {cc : ByteArray} {S : Type} {G : S → Nat → List (Nat × Value) → List Value → Prop} {τ σ : S} {pc : Nat} {lv : List (Nat × Value)} (hret : ∀ (pc : Nat) (lv : List (Nat × Value)), decode cc pc = .ok (.return_, 1) → G τ pc lv []) (h : some σ = some τ) (hd : decode cc pc = .ok (.return_, 1)) : G σ pc lv [] := by cases h; exact hret pc lv hd
theorem sw_out {x : Int32} {lo hi : Int} (ks : List Int32) (hlo : (ks.map Int32.toInt).head? = some lo) (hhi : (ks.map Int32.toInt).getLast? = some hi) (hall : (List.range ks.length).map (fun i : Nat => lo + (i : Int)) = ks.map Int32.toInt) (h : ∀ k ∈ ks, ¬ x = k) : x.toInt < lo ∨ hi < x.toInt := by
  by_cases h1 : x.toInt < lo
  · exact Or.inl h1
  by_cases h2 : hi < x.toInt
  · exact Or.inr h2
  exfalso
  have hne : ks ≠ [] := by intro e; rw [e] at hlo; cases hlo
  have hl : (ks.map Int32.toInt).getLast? = some (lo + ((ks.length - 1 : Nat) : Int)) := by
    rw [← hall, List.getLast?_map, List.getLast?_range]
    have : ks.length ≠ 0 := fun e => hne (List.length_eq_zero_iff.mp e)
    simp [this]
  have e : hi = lo + ((ks.length - 1 : Nat) : Int) := Option.some.inj (hhi.symm.trans hl)
  have hpos : 0 < ks.length := List.length_pos_iff.mpr hne
  have hm : x.toInt ∈ (List.range ks.length).map (fun i : Nat => lo + (i : Int)) := List.mem_map.mpr ⟨(x.toInt - lo).toNat, List.mem_range.mpr (by omega), by omega⟩
  rw [hall] at hm
  obtain ⟨k, hk, hkx⟩ := List.mem_map.mp hm
  exact h k hk (Int32.toInt_inj.mp hkx.symm)

