/-! ===== what the class only reads: the words' Strings, HOLDING, the links of nest mates ===== -/
abbrev Rx : Type := (Nat → Nat) × (Nat → Nat) × Nat × Option Nat
def lenS : List Nat := [5, 5, 3, 2, 2, 4, 2, 3, 3, 4, 6]
def bytS : List (List Int32) := [[103, 114, 97, 110, 116], [103, 117, 105, 108, 100], [97, 108, 108], [100, 111], [111, 102], [102, 114, 111, 109], [116, 111], [109, 97, 121], [110, 111, 116], [111, 110, 108, 121], [98, 101, 115, 105, 100, 101]]
def holdX : Nat → Int64 := fun j => [-6148914691236517206, -3689348814741910324, -1085102592571150096, -71777214294589696, -281470681808896, -4294967296].getD j 0
def roX (xx : Rx) : rl_O := fun A U H =>
  vk_S 11 lenS bytS xx.1 xx.2.1 A U H ∧
  (vk_R RX2 43 "grant" (xx.1 0) U ∧ vk_R RX2 49 "guild" (xx.1 1) U ∧ vk_R RX2 62 "all" (xx.1 2) U ∧ vk_R RX2 64 "do" (xx.1 3) U ∧ vk_R RX2 70 "of" (xx.1 4) U ∧ vk_R RX2 72 "from" (xx.1 5) U ∧ vk_R RX2 74 "to" (xx.1 6) U ∧ vk_R RX2 76 "may" (xx.1 7) U ∧ vk_R RX2 78 "not" (xx.1 8) U ∧ vk_R RX2 80 "only" (xx.1 9) U ∧ vk_R RX2 82 "beside" (xx.1 10) U) ∧
  va_Z "java/lang/String" "COMPACT_STRINGS" "Z" (.int 1) A U H ∧ va_Z "jdk/internal/util/Preconditions" "SIOOBE_FORMATTER" "Ljava/util/function/BiFunction;" (va_rf xx.2.2.2) A U H ∧
  va_Z "WhoseWork" "HOLDING" "[J" (.ref xx.2.2.1) A U H ∧ va_T .long xx.2.2.1 6 (fun j => .long (holdX j)) A U H ∧
  (va_Nw (.fieldLinkNest RX1 58 "WhoseWork" "HOLDING" "[J" "WhoseWork") U ∧ va_Nw (.methodLinkNest RX0 52 yX7_isOff "WhoseWork") U ∧ va_Nw (.methodLinkNest RX2 98 yX7_isOff "WhoseWork") U)
theorem ww_alike {u U : State} (h : U.vm = u.vm) : u.vm.Alike U.vm := by rw [h]; exact Vm.Alike.refl _
theorem roX_ok (xx : Rx) : rl_Ro (roX xx) := by
  refine ⟨fun A U V H hv h => ?_, fun A s U H hW h => ?_, fun A U H H1 hq h => ?_, fun A B U H hAB h => ?_⟩
  · obtain ⟨h1, ⟨a0, a1, a2, a3, a4, a5, a6, a7, a8, a9, aa⟩, h3, h4, h5, h6, n1, n2, n3⟩ := h
    exact ⟨h1.moved (ww_alike hv), ⟨a0.same hv, a1.same hv, a2.same hv, a3.same hv, a4.same hv, a5.same hv, a6.same hv, a7.same hv, a8.same hv, a9.same hv, aa.same hv⟩, h3.moved (ww_alike hv), h4.moved (ww_alike hv), h5.moved (ww_alike hv), h6.moved (ww_alike hv), n1.same rfl hv.symm, n2.same rfl hv.symm, n3.same rfl hv.symm⟩
  · obtain ⟨h1, ⟨a0, a1, a2, a3, a4, a5, a6, a7, a8, a9, aa⟩, h3, h4, h5, h6, n1, n2, n3⟩ := h
    exact ⟨h1.moved hW.alike, ⟨a0.warm hW, a1.warm hW, a2.warm hW, a3.warm hW, a4.warm hW, a5.warm hW, a6.warm hW, a7.warm hW, a8.warm hW, a9.warm hW, aa.warm hW⟩, h3.moved hW.alike, h4.moved hW.alike, h5.moved hW.alike, h6.moved hW.alike, va_Nw.warmF hW n1, va_Nw.warmM hW n2, va_Nw.warmM hW n3⟩
  · obtain ⟨h1, h2, h3, h4, h5, h6, hn⟩ := h
    exact ⟨h1.kept hq, h2, h3.kept hq, h4.kept hq, h5.kept hq, h6.kept hq, hn⟩
  · obtain ⟨h1, h2, h3, h4, h5, h6, hn⟩ := h
    exact ⟨h1.narrow hAB, h2, h3.narrow hAB, h4.narrow hAB, h5.narrow hAB, h6.narrow hAB, hn⟩
theorem strX_0 (xx : Rx) : ∀ (A : Nat → Prop) (U : State) (H : Heap), roX xx A U H → vk_R RX2 43 "grant" (xx.1 0) U := fun _ _ _ h => h.2.1.1
theorem strX_1 (xx : Rx) : ∀ (A : Nat → Prop) (U : State) (H : Heap), roX xx A U H → vk_R RX2 49 "guild" (xx.1 1) U := fun _ _ _ h => h.2.1.2.1
theorem strX_2 (xx : Rx) : ∀ (A : Nat → Prop) (U : State) (H : Heap), roX xx A U H → vk_R RX2 62 "all" (xx.1 2) U := fun _ _ _ h => h.2.1.2.2.1
theorem strX_3 (xx : Rx) : ∀ (A : Nat → Prop) (U : State) (H : Heap), roX xx A U H → vk_R RX2 64 "do" (xx.1 3) U := fun _ _ _ h => h.2.1.2.2.2.1
theorem strX_4 (xx : Rx) : ∀ (A : Nat → Prop) (U : State) (H : Heap), roX xx A U H → vk_R RX2 70 "of" (xx.1 4) U := fun _ _ _ h => h.2.1.2.2.2.2.1
theorem strX_5 (xx : Rx) : ∀ (A : Nat → Prop) (U : State) (H : Heap), roX xx A U H → vk_R RX2 72 "from" (xx.1 5) U := fun _ _ _ h => h.2.1.2.2.2.2.2.1
theorem strX_6 (xx : Rx) : ∀ (A : Nat → Prop) (U : State) (H : Heap), roX xx A U H → vk_R RX2 74 "to" (xx.1 6) U := fun _ _ _ h => h.2.1.2.2.2.2.2.2.1
theorem strX_7 (xx : Rx) : ∀ (A : Nat → Prop) (U : State) (H : Heap), roX xx A U H → vk_R RX2 76 "may" (xx.1 7) U := fun _ _ _ h => h.2.1.2.2.2.2.2.2.2.1
theorem strX_8 (xx : Rx) : ∀ (A : Nat → Prop) (U : State) (H : Heap), roX xx A U H → vk_R RX2 78 "not" (xx.1 8) U := fun _ _ _ h => h.2.1.2.2.2.2.2.2.2.2.1
theorem strX_9 (xx : Rx) : ∀ (A : Nat → Prop) (U : State) (H : Heap), roX xx A U H → vk_R RX2 80 "only" (xx.1 9) U := fun _ _ _ h => h.2.1.2.2.2.2.2.2.2.2.2.1
theorem strX_10 (xx : Rx) : ∀ (A : Nat → Prop) (U : State) (H : Heap), roX xx A U H → vk_R RX2 82 "beside" (xx.1 10) U := fun _ _ _ h => h.2.1.2.2.2.2.2.2.2.2.2.2
theorem nestX_RX1_58 (xx : Rx) : ∀ (A : Nat → Prop) (U : State) (H : Heap), roX xx A U H → va_Nw (.fieldLinkNest RX1 58 "WhoseWork" "HOLDING" "[J" "WhoseWork") U := fun _ _ _ h => h.2.2.2.2.2.2.1
theorem nestX_RX0_52 (xx : Rx) : ∀ (A : Nat → Prop) (U : State) (H : Heap), roX xx A U H → va_Nw (.methodLinkNest RX0 52 yX7_isOff "WhoseWork") U := fun _ _ _ h => h.2.2.2.2.2.2.2.1
theorem nestX_RX2_98 (xx : Rx) : ∀ (A : Nat → Prop) (U : State) (H : Heap), roX xx A U H → va_Nw (.methodLinkNest RX2 98 yX7_isOff "WhoseWork") U := fun _ _ _ h => h.2.2.2.2.2.2.2.2
def hld {β : Type} (i : Int32) (k : Int64 → Option β) : Option β := if i < 0 ∨ 6 ≤ i.toNatClampNeg then none else k (holdX i.toNatClampNeg)
theorem hld_ok {β : Type} {i : Int32} {k : Int64 → Option β} {R : β} (h : hld i k = some R) : ∃ x, vp_in i 6 ∧ x = holdX i.toNatClampNeg ∧ k x = some R := by
  unfold hld at h
  by_cases hz : i < 0 ∨ 6 ≤ i.toNatClampNeg
  · rw [if_pos hz] at h; cases h
  · rw [if_neg hz] at h; exact ⟨_, hz, rfl, h⟩
def slen {β : Type} (i : Nat) (k : Int32 → Option β) : Option β := k (nI (lenS.getD i 0))
theorem slen_ok {β : Type} {i : Nat} {k : Int32 → Option β} {R : β} (h : slen i k = some R) : ∃ x, x = nI (lenS.getD i 0) ∧ k x = some R := ⟨_, rfl, h⟩
def sch {β : Type} (i : Nat) (j : Int32) (k : Int32 → Option β) : Option β := if j < 0 ∨ lenS.getD i 0 ≤ j.toNatClampNeg then none else k ((bytS.getD i []).getD j.toNatClampNeg 0)
theorem sch_ok {β : Type} {i : Nat} {j : Int32} {k : Int32 → Option β} {R : β} (h : sch i j k = some R) : ∃ x, vp_in j (lenS.getD i 0) ∧ x = (bytS.getD i []).getD j.toNatClampNeg 0 ∧ k x = some R := by
  unfold sch at h
  by_cases hz : j < 0 ∨ lenS.getD i 0 ≤ j.toNatClampNeg
  · rw [if_pos hz] at h; cases h
  · rw [if_neg hz] at h; exact ⟨_, hz, rfl, h⟩
