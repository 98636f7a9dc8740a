section LAW
variable {p : Program} {l : Launch} {e : Env} {s : State} {m : MethodId} {below : List Frame} {meth : Method} {c : Code} {b L : Nat} {xs : Nat → Int32} {D : va_G} {a a' : Nat → Nat} {cI cT : ClassId} {xx : Rx}
set_option maxRecDepth 20000 in
theorem law_c24 (E : LawE p s m meth c b L xs D cI cT xx) {σ τ : St} {i : Nat} (hI : Inv σ τ) (hi : i + 5 ≤ L) (k : ∀ σ' τ' : St, Inv σ' τ' → lawG p l e s m below meth c b D a a' cI cT (σ', τ') 1165 [(3, .int (nI i)), (2, .ref (a' 0)), (1, .ref (a 0)), (0, .ref b)] []) : lawG p l e s m below meth c b D a a' cI cT (σ, τ) 974 [(3, .int (nI i)), (2, .ref (a' 0)), (1, .ref (a 0)), (0, .ref b)] [] := by
  have hL : L ≤ 2560 := E.2.2.2.2.2.2.2.2.2.2.2
  have G := law_env (l := l) (e := e) (below := below) (a := a) (a' := a') E
  obtain ⟨r, τ', e1, e2, hI2⟩ := op_takes hI (xs ((nI i) + (1 : Int32)).toNatClampNeg) (xs ((nI i) + (2 : Int32)).toNatClampNeg) (xs ((nI i) + (3 : Int32)).toNatClampNeg)
  refine rl_aload_n G dL_law_974 rfl 2 rfl ?_
  refine rl_aload_n G dL_law_975 rfl 3 rfl ?_
  refine rl_iload_n G dL_law_976 rfl 0 rfl ?_
  refine rl_iconst (v := 1) G dL_law_977 (by decide) ?_
  refine rl_iadd G dL_law_978 ?_
  refine law_sld E (law_in (k := 1) hi hL (by omega)) dL_law_979 ?_
  refine rl_aload_n G dL_law_980 rfl 3 rfl ?_
  refine rl_iload_n G dL_law_981 rfl 0 rfl ?_
  refine rl_iconst (v := 2) G dL_law_982 (by decide) ?_
  refine rl_iadd G dL_law_983 ?_
  refine law_sld E (law_in (k := 2) hi hL (by omega)) dL_law_984 ?_
  refine rl_aload_n G dL_law_985 rfl 3 rfl ?_
  refine rl_iload_n G dL_law_986 rfl 0 rfl ?_
  refine rl_iconst (v := 3) G dL_law_987 (by decide) ?_
  refine rl_iadd G dL_law_988 ?_
  refine law_sld E (law_in (k := 3) hi hL (by omega)) dL_law_989 ?_
  refine law_callX E (kX7_takes l D a cI cT _ xx σ (xs ((nI i) + (1 : Int32)).toNatClampNeg) (xs ((nI i) + (2 : Int32)).toNatClampNeg) (xs ((nI i) + (3 : Int32)).toNatClampNeg) r e1) gL_law_X7_takes rfl 3 rfl (by decide +kernel) rfl rfl ⟨Nat.le_of_ble_eq_true rfl, Nat.le_of_ble_eq_true rfl⟩ (Nat.le_of_ble_eq_true rfl) rfl dL_law_990 ?_
  refine rl_aload_n G dL_law_993 rfl 1 rfl ?_
  refine rl_aload_n G dL_law_994 rfl 3 rfl ?_
  refine rl_iload_n G dL_law_995 rfl 0 rfl ?_
  refine rl_iconst (v := 1) G dL_law_996 (by decide) ?_
  refine rl_iadd G dL_law_997 ?_
  refine law_sld E (law_in (k := 1) hi hL (by omega)) dL_law_998 ?_
  refine rl_aload_n G dL_law_999 rfl 3 rfl ?_
  refine rl_iload_n G dL_law_1000 rfl 0 rfl ?_
  refine rl_iconst (v := 2) G dL_law_1001 (by decide) ?_
  refine rl_iadd G dL_law_1002 ?_
  refine law_sld E (law_in (k := 2) hi hL (by omega)) dL_law_1003 ?_
  refine rl_aload_n G dL_law_1004 rfl 3 rfl ?_
  refine rl_iload_n G dL_law_1005 rfl 0 rfl ?_
  refine rl_iconst (v := 3) G dL_law_1006 (by decide) ?_
  refine rl_iadd G dL_law_1007 ?_
  refine law_sld E (law_in (k := 3) hi hL (by omega)) dL_law_1008 ?_
  refine law_callM E (kX8_takes l D a' cI _ τ (xs ((nI i) + (1 : Int32)).toNatClampNeg) (xs ((nI i) + (2 : Int32)).toNatClampNeg) (xs ((nI i) + (3 : Int32)).toNatClampNeg) r τ' e2) gL_law_X8_takes rfl 3 rfl (by decide +kernel) rfl rfl ⟨Nat.le_of_ble_eq_true rfl, Nat.le_of_ble_eq_true rfl⟩ (Nat.le_of_ble_eq_true rfl) rfl dL_law_1009 ?_
  refine rl_icmp_eq (tgt := 1165) G dL_law_1012 (by decide) (fun _ => ?_) (fun c9 => absurd rfl c9)
  exact k σ τ' hI2
set_option maxRecDepth 20000 in
theorem law_c25 (E : LawE p s m meth c b L xs D cI cT xx) {σ τ : St} {i : Nat} (hI : Inv σ τ) (hi : i + 5 ≤ L) (k : ∀ σ' τ' : St, Inv σ' τ' → lawG p l e s m below meth c b D a a' cI cT (σ', τ') 1165 [(3, .int (nI i)), (2, .ref (a' 0)), (1, .ref (a 0)), (0, .ref b)] []) : lawG p l e s m below meth c b D a a' cI cT (σ, τ) 1017 [(3, .int (nI i)), (2, .ref (a' 0)), (1, .ref (a 0)), (0, .ref b)] [] := by
  have hL : L ≤ 2560 := E.2.2.2.2.2.2.2.2.2.2.2
  have G := law_env (l := l) (e := e) (below := below) (a := a) (a' := a') E
  obtain ⟨r, τ', e1, e2, hI2⟩ := op_idle hI
  refine rl_aload_n G dL_law_1017 rfl 2 rfl ?_
  refine law_callX E (kX7_idle l D a cI cT _ xx σ r e1) gL_law_X7_idle rfl 0 rfl (by decide +kernel) rfl rfl ⟨Nat.le_of_ble_eq_true rfl, Nat.le_of_ble_eq_true rfl⟩ (Nat.le_of_ble_eq_true rfl) rfl dL_law_1018 ?_
  refine rl_aload_n G dL_law_1021 rfl 1 rfl ?_
  refine law_callM E (kX8_idle l D a' cI _ τ r τ' e2) gL_law_X8_idle rfl 0 rfl (by decide +kernel) rfl rfl ⟨Nat.le_of_ble_eq_true rfl, Nat.le_of_ble_eq_true rfl⟩ (Nat.le_of_ble_eq_true rfl) rfl dL_law_1022 ?_
  refine rl_icmp_eq (tgt := 1165) G dL_law_1025 (by decide) (fun _ => ?_) (fun c9 => absurd rfl c9)
  exact k σ τ' hI2
set_option maxRecDepth 20000 in
theorem law_c26 (E : LawE p s m meth c b L xs D cI cT xx) {σ τ : St} {i : Nat} (hI : Inv σ τ) (hi : i + 5 ≤ L) (k : ∀ σ' τ' : St, Inv σ' τ' → lawG p l e s m below meth c b D a a' cI cT (σ', τ') 1165 [(3, .int (nI i)), (2, .ref (a' 0)), (1, .ref (a 0)), (0, .ref b)] []) : lawG p l e s m below meth c b D a a' cI cT (σ, τ) 1030 [(3, .int (nI i)), (2, .ref (a' 0)), (1, .ref (a 0)), (0, .ref b)] [] := by
  have hL : L ≤ 2560 := E.2.2.2.2.2.2.2.2.2.2.2
  have G := law_env (l := l) (e := e) (below := below) (a := a) (a' := a') E
  obtain ⟨r, σ', τ', e1, e2, hI2⟩ := op_seize hI (xs ((nI i) + (1 : Int32)).toNatClampNeg) (xs ((nI i) + (2 : Int32)).toNatClampNeg) (xs ((nI i) + (3 : Int32)).toNatClampNeg)
  refine rl_aload_n G dL_law_1030 rfl 2 rfl ?_
  refine rl_aload_n G dL_law_1031 rfl 3 rfl ?_
  refine rl_iload_n G dL_law_1032 rfl 0 rfl ?_
  refine rl_iconst (v := 1) G dL_law_1033 (by decide) ?_
  refine rl_iadd G dL_law_1034 ?_
  refine law_sld E (law_in (k := 1) hi hL (by omega)) dL_law_1035 ?_
  refine rl_aload_n G dL_law_1036 rfl 3 rfl ?_
  refine rl_iload_n G dL_law_1037 rfl 0 rfl ?_
  refine rl_iconst (v := 2) G dL_law_1038 (by decide) ?_
  refine rl_iadd G dL_law_1039 ?_
  refine law_sld E (law_in (k := 2) hi hL (by omega)) dL_law_1040 ?_
  refine rl_aload_n G dL_law_1041 rfl 3 rfl ?_
  refine rl_iload_n G dL_law_1042 rfl 0 rfl ?_
  refine rl_iconst (v := 3) G dL_law_1043 (by decide) ?_
  refine rl_iadd G dL_law_1044 ?_
  refine law_sld E (law_in (k := 3) hi hL (by omega)) dL_law_1045 ?_
  refine law_callX E (kX7_seize l D a cI cT _ xx σ (xs ((nI i) + (1 : Int32)).toNatClampNeg) (xs ((nI i) + (2 : Int32)).toNatClampNeg) (xs ((nI i) + (3 : Int32)).toNatClampNeg) r σ' e1) gL_law_X7_seize rfl 3 rfl (by decide +kernel) rfl rfl ⟨Nat.le_of_ble_eq_true rfl, Nat.le_of_ble_eq_true rfl⟩ (Nat.le_of_ble_eq_true rfl) rfl dL_law_1046 ?_
  refine rl_aload_n G dL_law_1049 rfl 1 rfl ?_
  refine rl_aload_n G dL_law_1050 rfl 3 rfl ?_
  refine rl_iload_n G dL_law_1051 rfl 0 rfl ?_
  refine rl_iconst (v := 1) G dL_law_1052 (by decide) ?_
  refine rl_iadd G dL_law_1053 ?_
  refine law_sld E (law_in (k := 1) hi hL (by omega)) dL_law_1054 ?_
  refine rl_aload_n G dL_law_1055 rfl 3 rfl ?_
  refine rl_iload_n G dL_law_1056 rfl 0 rfl ?_
  refine rl_iconst (v := 2) G dL_law_1057 (by decide) ?_
  refine rl_iadd G dL_law_1058 ?_
  refine law_sld E (law_in (k := 2) hi hL (by omega)) dL_law_1059 ?_
  refine rl_aload_n G dL_law_1060 rfl 3 rfl ?_
  refine rl_iload_n G dL_law_1061 rfl 0 rfl ?_
  refine rl_iconst (v := 3) G dL_law_1062 (by decide) ?_
  refine rl_iadd G dL_law_1063 ?_
  refine law_sld E (law_in (k := 3) hi hL (by omega)) dL_law_1064 ?_
  refine law_callM E (kX8_seize l D a' cI _ τ (xs ((nI i) + (1 : Int32)).toNatClampNeg) (xs ((nI i) + (2 : Int32)).toNatClampNeg) (xs ((nI i) + (3 : Int32)).toNatClampNeg) r τ' e2) gL_law_X8_seize rfl 3 rfl (by decide +kernel) rfl rfl ⟨Nat.le_of_ble_eq_true rfl, Nat.le_of_ble_eq_true rfl⟩ (Nat.le_of_ble_eq_true rfl) rfl dL_law_1065 ?_
  refine rl_icmp_eq (tgt := 1165) G dL_law_1068 (by decide) (fun _ => ?_) (fun c9 => absurd rfl c9)
  exact k σ' τ' hI2
set_option maxRecDepth 20000 in
theorem law_c27 (E : LawE p s m meth c b L xs D cI cT xx) {σ τ : St} {i : Nat} (hI : Inv σ τ) (hi : i + 5 ≤ L) (k : ∀ σ' τ' : St, Inv σ' τ' → lawG p l e s m below meth c b D a a' cI cT (σ', τ') 1165 [(3, .int (nI i)), (2, .ref (a' 0)), (1, .ref (a 0)), (0, .ref b)] []) : lawG p l e s m below meth c b D a a' cI cT (σ, τ) 1073 [(3, .int (nI i)), (2, .ref (a' 0)), (1, .ref (a 0)), (0, .ref b)] [] := by
  have hL : L ≤ 2560 := E.2.2.2.2.2.2.2.2.2.2.2
  have G := law_env (l := l) (e := e) (below := below) (a := a) (a' := a') E
  obtain ⟨r, τ', e1, e2, hI2⟩ := op_right hI (xs ((nI i) + (1 : Int32)).toNatClampNeg)
  refine rl_aload_n G dL_law_1073 rfl 2 rfl ?_
  refine rl_aload_n G dL_law_1074 rfl 3 rfl ?_
  refine rl_iload_n G dL_law_1075 rfl 0 rfl ?_
  refine rl_iconst (v := 1) G dL_law_1076 (by decide) ?_
  refine rl_iadd G dL_law_1077 ?_
  refine law_sld E (law_in (k := 1) hi hL (by omega)) dL_law_1078 ?_
  refine law_callX E (kX7_right l D a cI cT _ xx σ (xs ((nI i) + (1 : Int32)).toNatClampNeg) r e1) gL_law_X7_right rfl 1 rfl (by decide +kernel) rfl rfl ⟨Nat.le_of_ble_eq_true rfl, Nat.le_of_ble_eq_true rfl⟩ (Nat.le_of_ble_eq_true rfl) rfl dL_law_1079 ?_
  refine rl_aload_n G dL_law_1082 rfl 1 rfl ?_
  refine rl_aload_n G dL_law_1083 rfl 3 rfl ?_
  refine rl_iload_n G dL_law_1084 rfl 0 rfl ?_
  refine rl_iconst (v := 1) G dL_law_1085 (by decide) ?_
  refine rl_iadd G dL_law_1086 ?_
  refine law_sld E (law_in (k := 1) hi hL (by omega)) dL_law_1087 ?_
  refine law_callM E (kX8_right l D a' cI _ τ (xs ((nI i) + (1 : Int32)).toNatClampNeg) r τ' e2) gL_law_X8_right rfl 1 rfl (by decide +kernel) rfl rfl ⟨Nat.le_of_ble_eq_true rfl, Nat.le_of_ble_eq_true rfl⟩ (Nat.le_of_ble_eq_true rfl) rfl dL_law_1088 ?_
  refine rl_icmp_eq (tgt := 1165) G dL_law_1091 (by decide) (fun _ => ?_) (fun c9 => absurd rfl c9)
  exact k σ τ' hI2
set_option maxRecDepth 20000 in
theorem law_c28 (E : LawE p s m meth c b L xs D cI cT xx) {σ τ : St} {i : Nat} (hI : Inv σ τ) (hi : i + 5 ≤ L) (k : ∀ σ' τ' : St, Inv σ' τ' → lawG p l e s m below meth c b D a a' cI cT (σ', τ') 1165 [(3, .int (nI i)), (2, .ref (a' 0)), (1, .ref (a 0)), (0, .ref b)] []) : lawG p l e s m below meth c b D a a' cI cT (σ, τ) 1096 [(3, .int (nI i)), (2, .ref (a' 0)), (1, .ref (a 0)), (0, .ref b)] [] := by
  have hL : L ≤ 2560 := E.2.2.2.2.2.2.2.2.2.2.2
  have G := law_env (l := l) (e := e) (below := below) (a := a) (a' := a') E
  obtain ⟨r, σ', τ', e1, e2, hI2⟩ := op_year hI (xs ((nI i) + (1 : Int32)).toNatClampNeg)
  refine rl_aload_n G dL_law_1096 rfl 2 rfl ?_
  refine rl_aload_n G dL_law_1097 rfl 3 rfl ?_
  refine rl_iload_n G dL_law_1098 rfl 0 rfl ?_
  refine rl_iconst (v := 1) G dL_law_1099 (by decide) ?_
  refine rl_iadd G dL_law_1100 ?_
  refine law_sld E (law_in (k := 1) hi hL (by omega)) dL_law_1101 ?_
  refine law_callX E (kX7_year l D a cI cT _ xx σ (xs ((nI i) + (1 : Int32)).toNatClampNeg) r σ' e1) gL_law_X7_year rfl 1 rfl (by decide +kernel) rfl rfl ⟨Nat.le_of_ble_eq_true rfl, Nat.le_of_ble_eq_true rfl⟩ (Nat.le_of_ble_eq_true rfl) rfl dL_law_1102 ?_
  refine rl_aload_n G dL_law_1105 rfl 1 rfl ?_
  refine rl_aload_n G dL_law_1106 rfl 3 rfl ?_
  refine rl_iload_n G dL_law_1107 rfl 0 rfl ?_
  refine rl_iconst (v := 1) G dL_law_1108 (by decide) ?_
  refine rl_iadd G dL_law_1109 ?_
  refine law_sld E (law_in (k := 1) hi hL (by omega)) dL_law_1110 ?_
  refine law_callM E (kX8_year l D a' cI _ τ (xs ((nI i) + (1 : Int32)).toNatClampNeg) r τ' e2) gL_law_X8_year rfl 1 rfl (by decide +kernel) rfl rfl ⟨Nat.le_of_ble_eq_true rfl, Nat.le_of_ble_eq_true rfl⟩ (Nat.le_of_ble_eq_true rfl) rfl dL_law_1111 ?_
  refine rl_icmp_eq (tgt := 1165) G dL_law_1114 (by decide) (fun _ => ?_) (fun c9 => absurd rfl c9)
  exact k σ' τ' hI2
set_option maxRecDepth 20000 in
theorem law_c29 (E : LawE p s m meth c b L xs D cI cT xx) {σ τ : St} {i : Nat} (hI : Inv σ τ) (hi : i + 5 ≤ L) (k : ∀ σ' τ' : St, Inv σ' τ' → lawG p l e s m below meth c b D a a' cI cT (σ', τ') 1165 [(3, .int (nI i)), (2, .ref (a' 0)), (1, .ref (a 0)), (0, .ref b)] []) : lawG p l e s m below meth c b D a a' cI cT (σ, τ) 1119 [(3, .int (nI i)), (2, .ref (a' 0)), (1, .ref (a 0)), (0, .ref b)] [] := by
  have hL : L ≤ 2560 := E.2.2.2.2.2.2.2.2.2.2.2
  have G := law_env (l := l) (e := e) (below := below) (a := a) (a' := a') E
  obtain ⟨r, τ', e1, e2, hI2⟩ := op_yearly hI (xs ((nI i) + (1 : Int32)).toNatClampNeg)
  refine rl_aload_n G dL_law_1119 rfl 2 rfl ?_
  refine rl_aload_n G dL_law_1120 rfl 3 rfl ?_
  refine rl_iload_n G dL_law_1121 rfl 0 rfl ?_
  refine rl_iconst (v := 1) G dL_law_1122 (by decide) ?_
  refine rl_iadd G dL_law_1123 ?_
  refine law_sld E (law_in (k := 1) hi hL (by omega)) dL_law_1124 ?_
  refine law_callX E (kX7_yearly l D a cI cT _ xx σ (xs ((nI i) + (1 : Int32)).toNatClampNeg) r e1) gL_law_X7_yearly rfl 1 rfl (by decide +kernel) rfl rfl ⟨Nat.le_of_ble_eq_true rfl, Nat.le_of_ble_eq_true rfl⟩ (Nat.le_of_ble_eq_true rfl) rfl dL_law_1125 ?_
  refine rl_aload_n G dL_law_1128 rfl 1 rfl ?_
  refine rl_aload_n G dL_law_1129 rfl 3 rfl ?_
  refine rl_iload_n G dL_law_1130 rfl 0 rfl ?_
  refine rl_iconst (v := 1) G dL_law_1131 (by decide) ?_
  refine rl_iadd G dL_law_1132 ?_
  refine law_sld E (law_in (k := 1) hi hL (by omega)) dL_law_1133 ?_
  refine law_callM E (kX8_yearly l D a' cI _ τ (xs ((nI i) + (1 : Int32)).toNatClampNeg) r τ' e2) gL_law_X8_yearly rfl 1 rfl (by decide +kernel) rfl rfl ⟨Nat.le_of_ble_eq_true rfl, Nat.le_of_ble_eq_true rfl⟩ (Nat.le_of_ble_eq_true rfl) rfl dL_law_1134 ?_
  refine rl_icmp_eq (tgt := 1165) G dL_law_1137 (by decide) (fun _ => ?_) (fun c9 => absurd rfl c9)
  exact k σ τ' hI2
set_option maxRecDepth 20000 in
theorem law_c30 (E : LawE p s m meth c b L xs D cI cT xx) {σ τ : St} {i : Nat} (hI : Inv σ τ) (hi : i + 5 ≤ L) (k : ∀ σ' τ' : St, Inv σ' τ' → lawG p l e s m below meth c b D a a' cI cT (σ', τ') 1165 [(3, .int (nI i)), (2, .ref (a' 0)), (1, .ref (a 0)), (0, .ref b)] []) : lawG p l e s m below meth c b D a a' cI cT (σ, τ) 1142 [(3, .int (nI i)), (2, .ref (a' 0)), (1, .ref (a 0)), (0, .ref b)] [] := by
  have hL : L ≤ 2560 := E.2.2.2.2.2.2.2.2.2.2.2
  have G := law_env (l := l) (e := e) (below := below) (a := a) (a' := a') E
  obtain ⟨r, e1, e2⟩ := op_count hI (xs ((nI i) + (1 : Int32)).toNatClampNeg)
  refine rl_aload_n G dL_law_1142 rfl 2 rfl ?_
  refine rl_aload_n G dL_law_1143 rfl 3 rfl ?_
  refine rl_iload_n G dL_law_1144 rfl 0 rfl ?_
  refine rl_iconst (v := 1) G dL_law_1145 (by decide) ?_
  refine rl_iadd G dL_law_1146 ?_
  refine law_sld E (law_in (k := 1) hi hL (by omega)) dL_law_1147 ?_
  refine law_callX E (kX7_count l D a cI cT _ xx σ (xs ((nI i) + (1 : Int32)).toNatClampNeg) r e1) gL_law_X7_count rfl 1 rfl (by decide +kernel) rfl rfl ⟨Nat.le_of_ble_eq_true rfl, Nat.le_of_ble_eq_true rfl⟩ (Nat.le_of_ble_eq_true rfl) rfl dL_law_1148 ?_
  refine rl_aload_n G dL_law_1151 rfl 1 rfl ?_
  refine rl_aload_n G dL_law_1152 rfl 3 rfl ?_
  refine rl_iload_n G dL_law_1153 rfl 0 rfl ?_
  refine rl_iconst (v := 1) G dL_law_1154 (by decide) ?_
  refine rl_iadd G dL_law_1155 ?_
  refine law_sld E (law_in (k := 1) hi hL (by omega)) dL_law_1156 ?_
  refine law_callM E (kX8_count l D a' cI _ τ (xs ((nI i) + (1 : Int32)).toNatClampNeg) r e2) gL_law_X8_count rfl 1 rfl (by decide +kernel) rfl rfl ⟨Nat.le_of_ble_eq_true rfl, Nat.le_of_ble_eq_true rfl⟩ (Nat.le_of_ble_eq_true rfl) rfl dL_law_1157 ?_
  refine rl_icmp_eq (tgt := 1165) G dL_law_1160 (by decide) (fun _ => ?_) (fun c9 => absurd rfl c9)
  exact k σ τ hI
end LAW
