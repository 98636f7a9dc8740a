section LAW
variable {p : Program} {l : Launch} {e : Env} {s : State} {m : MethodId} {below : List Frame} {meth : Method} {c : Code} {b L : Nat} {xs : Nat → Int32} {D : va_G} {a a' : Nat → Nat} {cI cT : ClassId} {xx : Rx}
set_option maxRecDepth 20000 in
theorem law_c16 (E : LawE p s m meth c b L xs D cI cT xx) {σ τ : St} {i : Nat} (hI : Inv σ τ) (hi : i + 5 ≤ L) (k : ∀ σ' τ' : St, Inv σ' τ' → lawG p l e s m below meth c b D a a' cI cT (σ', τ') 1165 [(3, .int (nI i)), (2, .ref (a' 0)), (1, .ref (a 0)), (0, .ref b)] []) : lawG p l e s m below meth c b D a a' cI cT (σ, τ) 660 [(3, .int (nI i)), (2, .ref (a' 0)), (1, .ref (a 0)), (0, .ref b)] [] := by
  have hL : L ≤ 2560 := E.2.2.2.2.2.2.2.2.2.2.2
  have G := law_env (l := l) (e := e) (below := below) (a := a) (a' := a') E
  obtain ⟨r, τ', e1, e2, hI2⟩ := op_told hI (xs ((nI i) + (1 : Int32)).toNatClampNeg) (xs ((nI i) + (2 : Int32)).toNatClampNeg) (xs ((nI i) + (3 : Int32)).toNatClampNeg) (xs ((nI i) + (4 : Int32)).toNatClampNeg)
  refine rl_aload_n G dL_law_660 rfl 2 rfl ?_
  refine rl_aload_n G dL_law_661 rfl 3 rfl ?_
  refine rl_iload_n G dL_law_662 rfl 0 rfl ?_
  refine rl_iconst (v := 1) G dL_law_663 (by decide) ?_
  refine rl_iadd G dL_law_664 ?_
  refine law_sld E (law_in (k := 1) hi hL (by omega)) dL_law_665 ?_
  refine rl_aload_n G dL_law_666 rfl 3 rfl ?_
  refine rl_iload_n G dL_law_667 rfl 0 rfl ?_
  refine rl_iconst (v := 2) G dL_law_668 (by decide) ?_
  refine rl_iadd G dL_law_669 ?_
  refine law_sld E (law_in (k := 2) hi hL (by omega)) dL_law_670 ?_
  refine rl_aload_n G dL_law_671 rfl 3 rfl ?_
  refine rl_iload_n G dL_law_672 rfl 0 rfl ?_
  refine rl_iconst (v := 3) G dL_law_673 (by decide) ?_
  refine rl_iadd G dL_law_674 ?_
  refine law_sld E (law_in (k := 3) hi hL (by omega)) dL_law_675 ?_
  refine rl_aload_n G dL_law_676 rfl 3 rfl ?_
  refine rl_iload_n G dL_law_677 rfl 0 rfl ?_
  refine rl_iconst (v := 4) G dL_law_678 (by decide) ?_
  refine rl_iadd G dL_law_679 ?_
  refine law_sld E (law_in (k := 4) hi hL (by omega)) dL_law_680 ?_
  refine law_callX E (kX7_told l D a cI cT _ xx σ (xs ((nI i) + (1 : Int32)).toNatClampNeg) (xs ((nI i) + (2 : Int32)).toNatClampNeg) (xs ((nI i) + (3 : Int32)).toNatClampNeg) (xs ((nI i) + (4 : Int32)).toNatClampNeg) r e1) gL_law_X7_told rfl 4 rfl (by decide +kernel) rfl rfl ⟨Nat.le_of_ble_eq_true rfl, Nat.le_of_ble_eq_true rfl⟩ (Nat.le_of_ble_eq_true rfl) rfl dL_law_681 ?_
  refine rl_aload_n G dL_law_684 rfl 1 rfl ?_
  refine rl_aload_n G dL_law_685 rfl 3 rfl ?_
  refine rl_iload_n G dL_law_686 rfl 0 rfl ?_
  refine rl_iconst (v := 1) G dL_law_687 (by decide) ?_
  refine rl_iadd G dL_law_688 ?_
  refine law_sld E (law_in (k := 1) hi hL (by omega)) dL_law_689 ?_
  refine rl_aload_n G dL_law_690 rfl 3 rfl ?_
  refine rl_iload_n G dL_law_691 rfl 0 rfl ?_
  refine rl_iconst (v := 2) G dL_law_692 (by decide) ?_
  refine rl_iadd G dL_law_693 ?_
  refine law_sld E (law_in (k := 2) hi hL (by omega)) dL_law_694 ?_
  refine rl_aload_n G dL_law_695 rfl 3 rfl ?_
  refine rl_iload_n G dL_law_696 rfl 0 rfl ?_
  refine rl_iconst (v := 3) G dL_law_697 (by decide) ?_
  refine rl_iadd G dL_law_698 ?_
  refine law_sld E (law_in (k := 3) hi hL (by omega)) dL_law_699 ?_
  refine rl_aload_n G dL_law_700 rfl 3 rfl ?_
  refine rl_iload_n G dL_law_701 rfl 0 rfl ?_
  refine rl_iconst (v := 4) G dL_law_702 (by decide) ?_
  refine rl_iadd G dL_law_703 ?_
  refine law_sld E (law_in (k := 4) hi hL (by omega)) dL_law_704 ?_
  refine law_callM E (kX8_told l D a' cI _ τ (xs ((nI i) + (1 : Int32)).toNatClampNeg) (xs ((nI i) + (2 : Int32)).toNatClampNeg) (xs ((nI i) + (3 : Int32)).toNatClampNeg) (xs ((nI i) + (4 : Int32)).toNatClampNeg) r τ' e2) gL_law_X8_told rfl 4 rfl (by decide +kernel) rfl rfl ⟨Nat.le_of_ble_eq_true rfl, Nat.le_of_ble_eq_true rfl⟩ (Nat.le_of_ble_eq_true rfl) rfl dL_law_705 ?_
  refine rl_icmp_eq (tgt := 1165) G dL_law_708 (by decide) (fun _ => ?_) (fun c9 => absurd rfl c9)
  exact k σ τ' hI2
set_option maxRecDepth 20000 in
theorem law_c17 (E : LawE p s m meth c b L xs D cI cT xx) {σ τ : St} {i : Nat} (hI : Inv σ τ) (hi : i + 5 ≤ L) (k : ∀ σ' τ' : St, Inv σ' τ' → lawG p l e s m below meth c b D a a' cI cT (σ', τ') 1165 [(3, .int (nI i)), (2, .ref (a' 0)), (1, .ref (a 0)), (0, .ref b)] []) : lawG p l e s m below meth c b D a a' cI cT (σ, τ) 713 [(3, .int (nI i)), (2, .ref (a' 0)), (1, .ref (a 0)), (0, .ref b)] [] := by
  have hL : L ≤ 2560 := E.2.2.2.2.2.2.2.2.2.2.2
  have G := law_env (l := l) (e := e) (below := below) (a := a) (a' := a') E
  obtain ⟨r, τ', e1, e2, hI2⟩ := op_can hI (xs ((nI i) + (1 : Int32)).toNatClampNeg) (xs ((nI i) + (2 : Int32)).toNatClampNeg)
  refine rl_aload_n G dL_law_713 rfl 2 rfl ?_
  refine rl_aload_n G dL_law_714 rfl 3 rfl ?_
  refine rl_iload_n G dL_law_715 rfl 0 rfl ?_
  refine rl_iconst (v := 1) G dL_law_716 (by decide) ?_
  refine rl_iadd G dL_law_717 ?_
  refine law_sld E (law_in (k := 1) hi hL (by omega)) dL_law_718 ?_
  refine rl_aload_n G dL_law_719 rfl 3 rfl ?_
  refine rl_iload_n G dL_law_720 rfl 0 rfl ?_
  refine rl_iconst (v := 2) G dL_law_721 (by decide) ?_
  refine rl_iadd G dL_law_722 ?_
  refine law_sld E (law_in (k := 2) hi hL (by omega)) dL_law_723 ?_
  refine law_callX E (kX7_can l D a cI cT _ xx σ (xs ((nI i) + (1 : Int32)).toNatClampNeg) (xs ((nI i) + (2 : Int32)).toNatClampNeg) r e1) gL_law_X7_can rfl 2 rfl (by decide +kernel) rfl rfl ⟨Nat.le_of_ble_eq_true rfl, Nat.le_of_ble_eq_true rfl⟩ (Nat.le_of_ble_eq_true rfl) rfl dL_law_724 ?_
  refine rl_aload_n G dL_law_727 rfl 1 rfl ?_
  refine rl_aload_n G dL_law_728 rfl 3 rfl ?_
  refine rl_iload_n G dL_law_729 rfl 0 rfl ?_
  refine rl_iconst (v := 1) G dL_law_730 (by decide) ?_
  refine rl_iadd G dL_law_731 ?_
  refine law_sld E (law_in (k := 1) hi hL (by omega)) dL_law_732 ?_
  refine rl_aload_n G dL_law_733 rfl 3 rfl ?_
  refine rl_iload_n G dL_law_734 rfl 0 rfl ?_
  refine rl_iconst (v := 2) G dL_law_735 (by decide) ?_
  refine rl_iadd G dL_law_736 ?_
  refine law_sld E (law_in (k := 2) hi hL (by omega)) dL_law_737 ?_
  refine law_callM E (kX8_can l D a' cI _ τ (xs ((nI i) + (1 : Int32)).toNatClampNeg) (xs ((nI i) + (2 : Int32)).toNatClampNeg) r τ' e2) gL_law_X8_can rfl 2 rfl (by decide +kernel) rfl rfl ⟨Nat.le_of_ble_eq_true rfl, Nat.le_of_ble_eq_true rfl⟩ (Nat.le_of_ble_eq_true rfl) rfl dL_law_738 ?_
  refine rl_icmp_eq (tgt := 1165) G dL_law_741 (by decide) (fun _ => ?_) (fun c9 => absurd rfl c9)
  exact k σ τ' hI2
set_option maxRecDepth 20000 in
theorem law_c18 (E : LawE p s m meth c b L xs D cI cT xx) {σ τ : St} {i : Nat} (hI : Inv σ τ) (hi : i + 5 ≤ L) (k : ∀ σ' τ' : St, Inv σ' τ' → lawG p l e s m below meth c b D a a' cI cT (σ', τ') 1165 [(3, .int (nI i)), (2, .ref (a' 0)), (1, .ref (a 0)), (0, .ref b)] []) : lawG p l e s m below meth c b D a a' cI cT (σ, τ) 746 [(3, .int (nI i)), (2, .ref (a' 0)), (1, .ref (a 0)), (0, .ref b)] [] := by
  have hL : L ≤ 2560 := E.2.2.2.2.2.2.2.2.2.2.2
  have G := law_env (l := l) (e := e) (below := below) (a := a) (a' := a') E
  obtain ⟨r, τ', e1, e2, hI2⟩ := op_fewest hI (xs ((nI i) + (1 : Int32)).toNatClampNeg) (xs ((nI i) + (2 : Int32)).toNatClampNeg)
  refine rl_aload_n G dL_law_746 rfl 2 rfl ?_
  refine rl_aload_n G dL_law_747 rfl 3 rfl ?_
  refine rl_iload_n G dL_law_748 rfl 0 rfl ?_
  refine rl_iconst (v := 1) G dL_law_749 (by decide) ?_
  refine rl_iadd G dL_law_750 ?_
  refine law_sld E (law_in (k := 1) hi hL (by omega)) dL_law_751 ?_
  refine rl_aload_n G dL_law_752 rfl 3 rfl ?_
  refine rl_iload_n G dL_law_753 rfl 0 rfl ?_
  refine rl_iconst (v := 2) G dL_law_754 (by decide) ?_
  refine rl_iadd G dL_law_755 ?_
  refine law_sld E (law_in (k := 2) hi hL (by omega)) dL_law_756 ?_
  refine law_callX E (kX7_fewest l D a cI cT _ xx σ (xs ((nI i) + (1 : Int32)).toNatClampNeg) (xs ((nI i) + (2 : Int32)).toNatClampNeg) r e1) gL_law_X7_fewest rfl 2 rfl (by decide +kernel) rfl rfl ⟨Nat.le_of_ble_eq_true rfl, Nat.le_of_ble_eq_true rfl⟩ (Nat.le_of_ble_eq_true rfl) rfl dL_law_757 ?_
  refine rl_aload_n G dL_law_760 rfl 1 rfl ?_
  refine rl_aload_n G dL_law_761 rfl 3 rfl ?_
  refine rl_iload_n G dL_law_762 rfl 0 rfl ?_
  refine rl_iconst (v := 1) G dL_law_763 (by decide) ?_
  refine rl_iadd G dL_law_764 ?_
  refine law_sld E (law_in (k := 1) hi hL (by omega)) dL_law_765 ?_
  refine rl_aload_n G dL_law_766 rfl 3 rfl ?_
  refine rl_iload_n G dL_law_767 rfl 0 rfl ?_
  refine rl_iconst (v := 2) G dL_law_768 (by decide) ?_
  refine rl_iadd G dL_law_769 ?_
  refine law_sld E (law_in (k := 2) hi hL (by omega)) dL_law_770 ?_
  refine law_callM E (kX8_fewest l D a' cI _ τ (xs ((nI i) + (1 : Int32)).toNatClampNeg) (xs ((nI i) + (2 : Int32)).toNatClampNeg) r τ' e2) gL_law_X8_fewest rfl 2 rfl (by decide +kernel) rfl rfl ⟨Nat.le_of_ble_eq_true rfl, Nat.le_of_ble_eq_true rfl⟩ (Nat.le_of_ble_eq_true rfl) rfl dL_law_771 ?_
  refine rl_icmp_eq (tgt := 1165) G dL_law_774 (by decide) (fun _ => ?_) (fun c9 => absurd rfl c9)
  exact k σ τ' hI2
set_option maxRecDepth 20000 in
theorem law_c19 (E : LawE p s m meth c b L xs D cI cT xx) {σ τ : St} {i : Nat} (hI : Inv σ τ) (hi : i + 5 ≤ L) (k : ∀ σ' τ' : St, Inv σ' τ' → lawG p l e s m below meth c b D a a' cI cT (σ', τ') 1165 [(3, .int (nI i)), (2, .ref (a' 0)), (1, .ref (a 0)), (0, .ref b)] []) : lawG p l e s m below meth c b D a a' cI cT (σ, τ) 779 [(3, .int (nI i)), (2, .ref (a' 0)), (1, .ref (a 0)), (0, .ref b)] [] := by
  have hL : L ≤ 2560 := E.2.2.2.2.2.2.2.2.2.2.2
  have G := law_env (l := l) (e := e) (below := below) (a := a) (a' := a') E
  obtain ⟨r, σ', τ', e1, e2, hI2⟩ := op_best hI (xs ((nI i) + (1 : Int32)).toNatClampNeg) (xs ((nI i) + (2 : Int32)).toNatClampNeg) (xs ((nI i) + (3 : Int32)).toNatClampNeg)
  refine rl_aload_n G dL_law_779 rfl 2 rfl ?_
  refine rl_aload_n G dL_law_780 rfl 3 rfl ?_
  refine rl_iload_n G dL_law_781 rfl 0 rfl ?_
  refine rl_iconst (v := 1) G dL_law_782 (by decide) ?_
  refine rl_iadd G dL_law_783 ?_
  refine law_sld E (law_in (k := 1) hi hL (by omega)) dL_law_784 ?_
  refine rl_aload_n G dL_law_785 rfl 3 rfl ?_
  refine rl_iload_n G dL_law_786 rfl 0 rfl ?_
  refine rl_iconst (v := 2) G dL_law_787 (by decide) ?_
  refine rl_iadd G dL_law_788 ?_
  refine law_sld E (law_in (k := 2) hi hL (by omega)) dL_law_789 ?_
  refine rl_aload_n G dL_law_790 rfl 3 rfl ?_
  refine rl_iload_n G dL_law_791 rfl 0 rfl ?_
  refine rl_iconst (v := 3) G dL_law_792 (by decide) ?_
  refine rl_iadd G dL_law_793 ?_
  refine law_sld E (law_in (k := 3) hi hL (by omega)) dL_law_794 ?_
  refine law_callX E (kX7_best l D a cI cT _ xx σ (xs ((nI i) + (1 : Int32)).toNatClampNeg) (xs ((nI i) + (2 : Int32)).toNatClampNeg) (xs ((nI i) + (3 : Int32)).toNatClampNeg) r σ' e1) gL_law_X7_best rfl 3 rfl (by decide +kernel) rfl rfl ⟨Nat.le_of_ble_eq_true rfl, Nat.le_of_ble_eq_true rfl⟩ (Nat.le_of_ble_eq_true rfl) rfl dL_law_795 ?_
  refine rl_aload_n G dL_law_798 rfl 1 rfl ?_
  refine rl_aload_n G dL_law_799 rfl 3 rfl ?_
  refine rl_iload_n G dL_law_800 rfl 0 rfl ?_
  refine rl_iconst (v := 1) G dL_law_801 (by decide) ?_
  refine rl_iadd G dL_law_802 ?_
  refine law_sld E (law_in (k := 1) hi hL (by omega)) dL_law_803 ?_
  refine rl_aload_n G dL_law_804 rfl 3 rfl ?_
  refine rl_iload_n G dL_law_805 rfl 0 rfl ?_
  refine rl_iconst (v := 2) G dL_law_806 (by decide) ?_
  refine rl_iadd G dL_law_807 ?_
  refine law_sld E (law_in (k := 2) hi hL (by omega)) dL_law_808 ?_
  refine rl_aload_n G dL_law_809 rfl 3 rfl ?_
  refine rl_iload_n G dL_law_810 rfl 0 rfl ?_
  refine rl_iconst (v := 3) G dL_law_811 (by decide) ?_
  refine rl_iadd G dL_law_812 ?_
  refine law_sld E (law_in (k := 3) hi hL (by omega)) dL_law_813 ?_
  refine law_callM E (kX8_best l D a' cI _ τ (xs ((nI i) + (1 : Int32)).toNatClampNeg) (xs ((nI i) + (2 : Int32)).toNatClampNeg) (xs ((nI i) + (3 : Int32)).toNatClampNeg) r τ' e2) gL_law_X8_best rfl 3 rfl (by decide +kernel) rfl rfl ⟨Nat.le_of_ble_eq_true rfl, Nat.le_of_ble_eq_true rfl⟩ (Nat.le_of_ble_eq_true rfl) rfl dL_law_814 ?_
  refine rl_icmp_eq (tgt := 1165) G dL_law_817 (by decide) (fun _ => ?_) (fun c9 => absurd rfl c9)
  exact k σ' τ' hI2
set_option maxRecDepth 20000 in
theorem law_c20 (E : LawE p s m meth c b L xs D cI cT xx) {σ τ : St} {i : Nat} (hI : Inv σ τ) (hi : i + 5 ≤ L) (k : ∀ σ' τ' : St, Inv σ' τ' → lawG p l e s m below meth c b D a a' cI cT (σ', τ') 1165 [(3, .int (nI i)), (2, .ref (a' 0)), (1, .ref (a 0)), (0, .ref b)] []) : lawG p l e s m below meth c b D a a' cI cT (σ, τ) 822 [(3, .int (nI i)), (2, .ref (a' 0)), (1, .ref (a 0)), (0, .ref b)] [] := by
  have hL : L ≤ 2560 := E.2.2.2.2.2.2.2.2.2.2.2
  have G := law_env (l := l) (e := e) (below := below) (a := a) (a' := a') E
  obtain ⟨r, σ', τ', e1, e2, hI2⟩ := op_way hI (xs ((nI i) + (1 : Int32)).toNatClampNeg) (xs ((nI i) + (2 : Int32)).toNatClampNeg) (xs ((nI i) + (3 : Int32)).toNatClampNeg) (xs ((nI i) + (4 : Int32)).toNatClampNeg)
  refine rl_aload_n G dL_law_822 rfl 2 rfl ?_
  refine rl_aload_n G dL_law_823 rfl 3 rfl ?_
  refine rl_iload_n G dL_law_824 rfl 0 rfl ?_
  refine rl_iconst (v := 1) G dL_law_825 (by decide) ?_
  refine rl_iadd G dL_law_826 ?_
  refine law_sld E (law_in (k := 1) hi hL (by omega)) dL_law_827 ?_
  refine rl_aload_n G dL_law_828 rfl 3 rfl ?_
  refine rl_iload_n G dL_law_829 rfl 0 rfl ?_
  refine rl_iconst (v := 2) G dL_law_830 (by decide) ?_
  refine rl_iadd G dL_law_831 ?_
  refine law_sld E (law_in (k := 2) hi hL (by omega)) dL_law_832 ?_
  refine rl_aload_n G dL_law_833 rfl 3 rfl ?_
  refine rl_iload_n G dL_law_834 rfl 0 rfl ?_
  refine rl_iconst (v := 3) G dL_law_835 (by decide) ?_
  refine rl_iadd G dL_law_836 ?_
  refine law_sld E (law_in (k := 3) hi hL (by omega)) dL_law_837 ?_
  refine rl_aload_n G dL_law_838 rfl 3 rfl ?_
  refine rl_iload_n G dL_law_839 rfl 0 rfl ?_
  refine rl_iconst (v := 4) G dL_law_840 (by decide) ?_
  refine rl_iadd G dL_law_841 ?_
  refine law_sld E (law_in (k := 4) hi hL (by omega)) dL_law_842 ?_
  refine law_callX E (kX7_way l D a cI cT _ xx σ (xs ((nI i) + (1 : Int32)).toNatClampNeg) (xs ((nI i) + (2 : Int32)).toNatClampNeg) (xs ((nI i) + (3 : Int32)).toNatClampNeg) (xs ((nI i) + (4 : Int32)).toNatClampNeg) r σ' e1) gL_law_X7_way rfl 4 rfl (by decide +kernel) rfl rfl ⟨Nat.le_of_ble_eq_true rfl, Nat.le_of_ble_eq_true rfl⟩ (Nat.le_of_ble_eq_true rfl) rfl dL_law_843 ?_
  refine rl_aload_n G dL_law_846 rfl 1 rfl ?_
  refine rl_aload_n G dL_law_847 rfl 3 rfl ?_
  refine rl_iload_n G dL_law_848 rfl 0 rfl ?_
  refine rl_iconst (v := 1) G dL_law_849 (by decide) ?_
  refine rl_iadd G dL_law_850 ?_
  refine law_sld E (law_in (k := 1) hi hL (by omega)) dL_law_851 ?_
  refine rl_aload_n G dL_law_852 rfl 3 rfl ?_
  refine rl_iload_n G dL_law_853 rfl 0 rfl ?_
  refine rl_iconst (v := 2) G dL_law_854 (by decide) ?_
  refine rl_iadd G dL_law_855 ?_
  refine law_sld E (law_in (k := 2) hi hL (by omega)) dL_law_856 ?_
  refine rl_aload_n G dL_law_857 rfl 3 rfl ?_
  refine rl_iload_n G dL_law_858 rfl 0 rfl ?_
  refine rl_iconst (v := 3) G dL_law_859 (by decide) ?_
  refine rl_iadd G dL_law_860 ?_
  refine law_sld E (law_in (k := 3) hi hL (by omega)) dL_law_861 ?_
  refine rl_aload_n G dL_law_862 rfl 3 rfl ?_
  refine rl_iload_n G dL_law_863 rfl 0 rfl ?_
  refine rl_iconst (v := 4) G dL_law_864 (by decide) ?_
  refine rl_iadd G dL_law_865 ?_
  refine law_sld E (law_in (k := 4) hi hL (by omega)) dL_law_866 ?_
  refine law_callM E (kX8_way l D a' cI _ τ (xs ((nI i) + (1 : Int32)).toNatClampNeg) (xs ((nI i) + (2 : Int32)).toNatClampNeg) (xs ((nI i) + (3 : Int32)).toNatClampNeg) (xs ((nI i) + (4 : Int32)).toNatClampNeg) r τ' e2) gL_law_X8_way rfl 4 rfl (by decide +kernel) rfl rfl ⟨Nat.le_of_ble_eq_true rfl, Nat.le_of_ble_eq_true rfl⟩ (Nat.le_of_ble_eq_true rfl) rfl dL_law_867 ?_
  refine rl_icmp_eq (tgt := 1165) G dL_law_870 (by decide) (fun _ => ?_) (fun c9 => absurd rfl c9)
  exact k σ' τ' hI2
set_option maxRecDepth 20000 in
theorem law_c21 (E : LawE p s m meth c b L xs D cI cT xx) {σ τ : St} {i : Nat} (hI : Inv σ τ) (hi : i + 5 ≤ L) (k : ∀ σ' τ' : St, Inv σ' τ' → lawG p l e s m below meth c b D a a' cI cT (σ', τ') 1165 [(3, .int (nI i)), (2, .ref (a' 0)), (1, .ref (a 0)), (0, .ref b)] []) : lawG p l e s m below meth c b D a a' cI cT (σ, τ) 875 [(3, .int (nI i)), (2, .ref (a' 0)), (1, .ref (a 0)), (0, .ref b)] [] := by
  have hL : L ≤ 2560 := E.2.2.2.2.2.2.2.2.2.2.2
  have G := law_env (l := l) (e := e) (below := below) (a := a) (a' := a') E
  obtain ⟨r, τ', e1, e2, hI2⟩ := op_alone hI (xs ((nI i) + (1 : Int32)).toNatClampNeg)
  refine rl_aload_n G dL_law_875 rfl 2 rfl ?_
  refine rl_aload_n G dL_law_876 rfl 3 rfl ?_
  refine rl_iload_n G dL_law_877 rfl 0 rfl ?_
  refine rl_iconst (v := 1) G dL_law_878 (by decide) ?_
  refine rl_iadd G dL_law_879 ?_
  refine law_sld E (law_in (k := 1) hi hL (by omega)) dL_law_880 ?_
  refine law_callX E (kX7_alone l D a cI cT _ xx σ (xs ((nI i) + (1 : Int32)).toNatClampNeg) r e1) gL_law_X7_alone rfl 1 rfl (by decide +kernel) rfl rfl ⟨Nat.le_of_ble_eq_true rfl, Nat.le_of_ble_eq_true rfl⟩ (Nat.le_of_ble_eq_true rfl) rfl dL_law_881 ?_
  refine rl_aload_n G dL_law_884 rfl 1 rfl ?_
  refine rl_aload_n G dL_law_885 rfl 3 rfl ?_
  refine rl_iload_n G dL_law_886 rfl 0 rfl ?_
  refine rl_iconst (v := 1) G dL_law_887 (by decide) ?_
  refine rl_iadd G dL_law_888 ?_
  refine law_sld E (law_in (k := 1) hi hL (by omega)) dL_law_889 ?_
  refine law_callM E (kX8_alone l D a' cI _ τ (xs ((nI i) + (1 : Int32)).toNatClampNeg) r τ' e2) gL_law_X8_alone rfl 1 rfl (by decide +kernel) rfl rfl ⟨Nat.le_of_ble_eq_true rfl, Nat.le_of_ble_eq_true rfl⟩ (Nat.le_of_ble_eq_true rfl) rfl dL_law_890 ?_
  refine rl_icmp_eq (tgt := 1165) G dL_law_893 (by decide) (fun _ => ?_) (fun c9 => absurd rfl c9)
  exact k σ τ' hI2
set_option maxRecDepth 20000 in
theorem law_c22 (E : LawE p s m meth c b L xs D cI cT xx) {σ τ : St} {i : Nat} (hI : Inv σ τ) (hi : i + 5 ≤ L) (k : ∀ σ' τ' : St, Inv σ' τ' → lawG p l e s m below meth c b D a a' cI cT (σ', τ') 1165 [(3, .int (nI i)), (2, .ref (a' 0)), (1, .ref (a 0)), (0, .ref b)] []) : lawG p l e s m below meth c b D a a' cI cT (σ, τ) 898 [(3, .int (nI i)), (2, .ref (a' 0)), (1, .ref (a 0)), (0, .ref b)] [] := by
  have hL : L ≤ 2560 := E.2.2.2.2.2.2.2.2.2.2.2
  have G := law_env (l := l) (e := e) (below := below) (a := a) (a' := a') E
  obtain ⟨r, τ', e1, e2, hI2⟩ := op_sly hI (xs ((nI i) + (1 : Int32)).toNatClampNeg) (xs ((nI i) + (2 : Int32)).toNatClampNeg) (xs ((nI i) + (3 : Int32)).toNatClampNeg)
  refine rl_aload_n G dL_law_898 rfl 2 rfl ?_
  refine rl_aload_n G dL_law_899 rfl 3 rfl ?_
  refine rl_iload_n G dL_law_900 rfl 0 rfl ?_
  refine rl_iconst (v := 1) G dL_law_901 (by decide) ?_
  refine rl_iadd G dL_law_902 ?_
  refine law_sld E (law_in (k := 1) hi hL (by omega)) dL_law_903 ?_
  refine rl_aload_n G dL_law_904 rfl 3 rfl ?_
  refine rl_iload_n G dL_law_905 rfl 0 rfl ?_
  refine rl_iconst (v := 2) G dL_law_906 (by decide) ?_
  refine rl_iadd G dL_law_907 ?_
  refine law_sld E (law_in (k := 2) hi hL (by omega)) dL_law_908 ?_
  refine rl_aload_n G dL_law_909 rfl 3 rfl ?_
  refine rl_iload_n G dL_law_910 rfl 0 rfl ?_
  refine rl_iconst (v := 3) G dL_law_911 (by decide) ?_
  refine rl_iadd G dL_law_912 ?_
  refine law_sld E (law_in (k := 3) hi hL (by omega)) dL_law_913 ?_
  refine law_callX E (kX7_sly l D a cI cT _ xx σ (xs ((nI i) + (1 : Int32)).toNatClampNeg) (xs ((nI i) + (2 : Int32)).toNatClampNeg) (xs ((nI i) + (3 : Int32)).toNatClampNeg) r e1) gL_law_X7_sly rfl 3 rfl (by decide +kernel) rfl rfl ⟨Nat.le_of_ble_eq_true rfl, Nat.le_of_ble_eq_true rfl⟩ (Nat.le_of_ble_eq_true rfl) rfl dL_law_914 ?_
  refine rl_aload_n G dL_law_917 rfl 1 rfl ?_
  refine rl_aload_n G dL_law_918 rfl 3 rfl ?_
  refine rl_iload_n G dL_law_919 rfl 0 rfl ?_
  refine rl_iconst (v := 1) G dL_law_920 (by decide) ?_
  refine rl_iadd G dL_law_921 ?_
  refine law_sld E (law_in (k := 1) hi hL (by omega)) dL_law_922 ?_
  refine rl_aload_n G dL_law_923 rfl 3 rfl ?_
  refine rl_iload_n G dL_law_924 rfl 0 rfl ?_
  refine rl_iconst (v := 2) G dL_law_925 (by decide) ?_
  refine rl_iadd G dL_law_926 ?_
  refine law_sld E (law_in (k := 2) hi hL (by omega)) dL_law_927 ?_
  refine rl_aload_n G dL_law_928 rfl 3 rfl ?_
  refine rl_iload_n G dL_law_929 rfl 0 rfl ?_
  refine rl_iconst (v := 3) G dL_law_930 (by decide) ?_
  refine rl_iadd G dL_law_931 ?_
  refine law_sld E (law_in (k := 3) hi hL (by omega)) dL_law_932 ?_
  refine law_callM E (kX8_sly l D a' cI _ τ (xs ((nI i) + (1 : Int32)).toNatClampNeg) (xs ((nI i) + (2 : Int32)).toNatClampNeg) (xs ((nI i) + (3 : Int32)).toNatClampNeg) r τ' e2) gL_law_X8_sly rfl 3 rfl (by decide +kernel) rfl rfl ⟨Nat.le_of_ble_eq_true rfl, Nat.le_of_ble_eq_true rfl⟩ (Nat.le_of_ble_eq_true rfl) rfl dL_law_933 ?_
  refine rl_icmp_eq (tgt := 1165) G dL_law_936 (by decide) (fun _ => ?_) (fun c9 => absurd rfl c9)
  exact k σ τ' hI2
set_option maxRecDepth 20000 in
theorem law_c23 (E : LawE p s m meth c b L xs D cI cT xx) {σ τ : St} {i : Nat} (hI : Inv σ τ) (hi : i + 5 ≤ L) (k : ∀ σ' τ' : St, Inv σ' τ' → lawG p l e s m below meth c b D a a' cI cT (σ', τ') 1165 [(3, .int (nI i)), (2, .ref (a' 0)), (1, .ref (a 0)), (0, .ref b)] []) : lawG p l e s m below meth c b D a a' cI cT (σ, τ) 941 [(3, .int (nI i)), (2, .ref (a' 0)), (1, .ref (a 0)), (0, .ref b)] [] := by
  have hL : L ≤ 2560 := E.2.2.2.2.2.2.2.2.2.2.2
  have G := law_env (l := l) (e := e) (below := below) (a := a) (a' := a') E
  obtain ⟨r, τ', e1, e2, hI2⟩ := op_struck hI (xs ((nI i) + (1 : Int32)).toNatClampNeg) (xs ((nI i) + (2 : Int32)).toNatClampNeg)
  refine rl_aload_n G dL_law_941 rfl 2 rfl ?_
  refine rl_aload_n G dL_law_942 rfl 3 rfl ?_
  refine rl_iload_n G dL_law_943 rfl 0 rfl ?_
  refine rl_iconst (v := 1) G dL_law_944 (by decide) ?_
  refine rl_iadd G dL_law_945 ?_
  refine law_sld E (law_in (k := 1) hi hL (by omega)) dL_law_946 ?_
  refine rl_aload_n G dL_law_947 rfl 3 rfl ?_
  refine rl_iload_n G dL_law_948 rfl 0 rfl ?_
  refine rl_iconst (v := 2) G dL_law_949 (by decide) ?_
  refine rl_iadd G dL_law_950 ?_
  refine law_sld E (law_in (k := 2) hi hL (by omega)) dL_law_951 ?_
  refine law_callX E (kX7_struck l D a cI cT _ xx σ (xs ((nI i) + (1 : Int32)).toNatClampNeg) (xs ((nI i) + (2 : Int32)).toNatClampNeg) r e1) gL_law_X7_struck rfl 2 rfl (by decide +kernel) rfl rfl ⟨Nat.le_of_ble_eq_true rfl, Nat.le_of_ble_eq_true rfl⟩ (Nat.le_of_ble_eq_true rfl) rfl dL_law_952 ?_
  refine rl_aload_n G dL_law_955 rfl 1 rfl ?_
  refine rl_aload_n G dL_law_956 rfl 3 rfl ?_
  refine rl_iload_n G dL_law_957 rfl 0 rfl ?_
  refine rl_iconst (v := 1) G dL_law_958 (by decide) ?_
  refine rl_iadd G dL_law_959 ?_
  refine law_sld E (law_in (k := 1) hi hL (by omega)) dL_law_960 ?_
  refine rl_aload_n G dL_law_961 rfl 3 rfl ?_
  refine rl_iload_n G dL_law_962 rfl 0 rfl ?_
  refine rl_iconst (v := 2) G dL_law_963 (by decide) ?_
  refine rl_iadd G dL_law_964 ?_
  refine law_sld E (law_in (k := 2) hi hL (by omega)) dL_law_965 ?_
  refine law_callM E (kX8_struck l D a' cI _ τ (xs ((nI i) + (1 : Int32)).toNatClampNeg) (xs ((nI i) + (2 : Int32)).toNatClampNeg) r τ' e2) gL_law_X8_struck rfl 2 rfl (by decide +kernel) rfl rfl ⟨Nat.le_of_ble_eq_true rfl, Nat.le_of_ble_eq_true rfl⟩ (Nat.le_of_ble_eq_true rfl) rfl dL_law_966 ?_
  refine rl_icmp_eq (tgt := 1165) G dL_law_969 (by decide) (fun _ => ?_) (fun c9 => absurd rfl c9)
  exact k σ τ' hI2
end LAW
