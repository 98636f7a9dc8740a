theorem law_in {i L k : Nat} (hi : i + 5 ≤ L) (hL : L ≤ 2560) (hk : k < 5) : vp_in (nI i + nI k) L := by rw [nI_add]; exact vp_in_nI (by omega) (by omega)
section LAW
variable {p : Program} {l : Launch} {e : Env} {s : State} {m : MethodId} {below : List Frame} {meth : Method} {c : Code} {b L : Nat} {xs : Nat → Int32} {D : va_G} {a a' : Nat → Nat} {cI cT : ClassId} {xx : Rx}
set_option maxRecDepth 20000 in
theorem law_c0 (E : LawE p s m meth c b L xs D cI cT xx) {σ τ : St} {i : Nat} (hI : Inv σ τ) (hi : i + 5 ≤ L) (k : ∀ σ' τ' : St, Inv σ' τ' → lawG p l e s m below meth c b D a a' cI cT (σ', τ') 1165 [(3, .int (nI i)), (2, .ref (a' 0)), (1, .ref (a 0)), (0, .ref b)] []) : lawG p l e s m below meth c b D a a' cI cT (σ, τ) 172 [(3, .int (nI i)), (2, .ref (a' 0)), (1, .ref (a 0)), (0, .ref b)] [] := by
  have hL : L ≤ 2560 := E.2.2.2.2.2.2.2.2.2.2.2
  have G := law_env (l := l) (e := e) (below := below) (a := a) (a' := a') E
  obtain ⟨r, σ', τ', e1, e2, hI2⟩ := op_write hI ((((xs ((nI i) + (1 : Int32)).toNatClampNeg).toInt64) <<< ((32 : Int32).toInt64 &&& 63)) ||| (((xs ((nI i) + (2 : Int32)).toNatClampNeg).toInt64) &&& (4294967295 : Int64))) (xs ((nI i) + (3 : Int32)).toNatClampNeg)
  refine rl_aload_n G dL_law_172 rfl 2 rfl ?_
  refine rl_aload_n G dL_law_173 rfl 3 rfl ?_
  refine rl_iload_n G dL_law_174 rfl 0 rfl ?_
  refine rl_iconst (v := 1) G dL_law_175 (by decide) ?_
  refine rl_iadd G dL_law_176 ?_
  refine law_sld E (law_in (k := 1) hi hL (by omega)) dL_law_177 ?_
  refine rl_i2l G dL_law_178 ?_
  refine rl_bipush (v := 32) G dL_law_179 (by decide) ?_
  refine rl_lshl G dL_law_181 ?_
  refine rl_aload_n G dL_law_182 rfl 3 rfl ?_
  refine rl_iload_n G dL_law_183 rfl 0 rfl ?_
  refine rl_iconst (v := 2) G dL_law_184 (by decide) ?_
  refine rl_iadd G dL_law_185 ?_
  refine law_sld E (law_in (k := 2) hi hL (by omega)) dL_law_186 ?_
  refine rl_i2l G dL_law_187 ?_
  refine rl_ldc2 (v := 4294967295) G dL_law_188 (List.mem_of_getElem? (i := 6) rfl) ?_
  refine rl_land G dL_law_191 ?_
  refine rl_lor G dL_law_192 ?_
  refine rl_aload_n G dL_law_193 rfl 3 rfl ?_
  refine rl_iload_n G dL_law_194 rfl 0 rfl ?_
  refine rl_iconst (v := 3) G dL_law_195 (by decide) ?_
  refine rl_iadd G dL_law_196 ?_
  refine law_sld E (law_in (k := 3) hi hL (by omega)) dL_law_197 ?_
  refine law_callX E (kX7_write l D a cI cT _ xx σ ((((xs ((nI i) + (1 : Int32)).toNatClampNeg).toInt64) <<< ((32 : Int32).toInt64 &&& 63)) ||| (((xs ((nI i) + (2 : Int32)).toNatClampNeg).toInt64) &&& (4294967295 : Int64))) (xs ((nI i) + (3 : Int32)).toNatClampNeg) r σ' e1) gL_law_X7_write rfl 2 rfl (by decide +kernel) rfl rfl ⟨Nat.le_of_ble_eq_true rfl, Nat.le_of_ble_eq_true rfl⟩ (Nat.le_of_ble_eq_true rfl) rfl dL_law_198 ?_
  refine rl_aload_n G dL_law_201 rfl 1 rfl ?_
  refine rl_aload_n G dL_law_202 rfl 3 rfl ?_
  refine rl_iload_n G dL_law_203 rfl 0 rfl ?_
  refine rl_iconst (v := 1) G dL_law_204 (by decide) ?_
  refine rl_iadd G dL_law_205 ?_
  refine law_sld E (law_in (k := 1) hi hL (by omega)) dL_law_206 ?_
  refine rl_i2l G dL_law_207 ?_
  refine rl_bipush (v := 32) G dL_law_208 (by decide) ?_
  refine rl_lshl G dL_law_210 ?_
  refine rl_aload_n G dL_law_211 rfl 3 rfl ?_
  refine rl_iload_n G dL_law_212 rfl 0 rfl ?_
  refine rl_iconst (v := 2) G dL_law_213 (by decide) ?_
  refine rl_iadd G dL_law_214 ?_
  refine law_sld E (law_in (k := 2) hi hL (by omega)) dL_law_215 ?_
  refine rl_i2l G dL_law_216 ?_
  refine rl_ldc2 (v := 4294967295) G dL_law_217 (List.mem_of_getElem? (i := 6) rfl) ?_
  refine rl_land G dL_law_220 ?_
  refine rl_lor G dL_law_221 ?_
  refine rl_aload_n G dL_law_222 rfl 3 rfl ?_
  refine rl_iload_n G dL_law_223 rfl 0 rfl ?_
  refine rl_iconst (v := 3) G dL_law_224 (by decide) ?_
  refine rl_iadd G dL_law_225 ?_
  refine law_sld E (law_in (k := 3) hi hL (by omega)) dL_law_226 ?_
  refine law_callM E (kX8_write l D a' cI _ τ ((((xs ((nI i) + (1 : Int32)).toNatClampNeg).toInt64) <<< ((32 : Int32).toInt64 &&& 63)) ||| (((xs ((nI i) + (2 : Int32)).toNatClampNeg).toInt64) &&& (4294967295 : Int64))) (xs ((nI i) + (3 : Int32)).toNatClampNeg) r τ' e2) gL_law_X8_write rfl 2 rfl (by decide +kernel) rfl rfl ⟨Nat.le_of_ble_eq_true rfl, Nat.le_of_ble_eq_true rfl⟩ (Nat.le_of_ble_eq_true rfl) rfl dL_law_227 ?_
  refine rl_icmp_eq (tgt := 1165) G dL_law_230 (by decide) (fun _ => ?_) (fun c9 => absurd rfl c9)
  exact k σ' τ' hI2
set_option maxRecDepth 20000 in
theorem law_c1 (E : LawE p s m meth c b L xs D cI cT xx) {σ τ : St} {i : Nat} (hI : Inv σ τ) (hi : i + 5 ≤ L) (k : ∀ σ' τ' : St, Inv σ' τ' → lawG p l e s m below meth c b D a a' cI cT (σ', τ') 1165 [(3, .int (nI i)), (2, .ref (a' 0)), (1, .ref (a 0)), (0, .ref b)] []) : lawG p l e s m below meth c b D a a' cI cT (σ, τ) 235 [(3, .int (nI i)), (2, .ref (a' 0)), (1, .ref (a 0)), (0, .ref b)] [] := by
  have hL : L ≤ 2560 := E.2.2.2.2.2.2.2.2.2.2.2
  have G := law_env (l := l) (e := e) (below := below) (a := a) (a' := a') E
  obtain ⟨r, σ', τ', e1, e2, hI2⟩ := op_erase hI
  refine rl_aload_n G dL_law_235 rfl 2 rfl ?_
  refine law_callX E (kX7_erase l D a cI cT _ xx σ r σ' e1) gL_law_X7_erase rfl 0 rfl (by decide +kernel) rfl rfl ⟨Nat.le_of_ble_eq_true rfl, Nat.le_of_ble_eq_true rfl⟩ (Nat.le_of_ble_eq_true rfl) rfl dL_law_236 ?_
  refine rl_aload_n G dL_law_239 rfl 1 rfl ?_
  refine law_callM E (kX8_erase l D a' cI _ τ r τ' e2) gL_law_X8_erase rfl 0 rfl (by decide +kernel) rfl rfl ⟨Nat.le_of_ble_eq_true rfl, Nat.le_of_ble_eq_true rfl⟩ (Nat.le_of_ble_eq_true rfl) rfl dL_law_240 ?_
  refine rl_icmp_eq (tgt := 1165) G dL_law_243 (by decide) (fun _ => ?_) (fun c9 => absurd rfl c9)
  exact k σ' τ' hI2
set_option maxRecDepth 20000 in
theorem law_c2 (E : LawE p s m meth c b L xs D cI cT xx) {σ τ : St} {i : Nat} (hI : Inv σ τ) (hi : i + 5 ≤ L) (k : ∀ σ' τ' : St, Inv σ' τ' → lawG p l e s m below meth c b D a a' cI cT (σ', τ') 1165 [(3, .int (nI i)), (2, .ref (a' 0)), (1, .ref (a 0)), (0, .ref b)] []) : lawG p l e s m below meth c b D a a' cI cT (σ, τ) 248 [(3, .int (nI i)), (2, .ref (a' 0)), (1, .ref (a 0)), (0, .ref b)] [] := by
  have hL : L ≤ 2560 := E.2.2.2.2.2.2.2.2.2.2.2
  have G := law_env (l := l) (e := e) (below := below) (a := a) (a' := a') E
  obtain ⟨r, σ', τ', e1, e2, hI2⟩ := op_fault hI
  refine rl_aload_n G dL_law_248 rfl 2 rfl ?_
  refine law_callX E (kX7_fault l D a cI cT _ xx σ r σ' e1) gL_law_X7_fault rfl 0 rfl (by decide +kernel) rfl rfl ⟨Nat.le_of_ble_eq_true rfl, Nat.le_of_ble_eq_true rfl⟩ (Nat.le_of_ble_eq_true rfl) rfl dL_law_249 ?_
  refine rl_aload_n G dL_law_252 rfl 1 rfl ?_
  refine law_callM E (kX8_fault l D a' cI _ τ r τ' e2) gL_law_X8_fault rfl 0 rfl (by decide +kernel) rfl rfl ⟨Nat.le_of_ble_eq_true rfl, Nat.le_of_ble_eq_true rfl⟩ (Nat.le_of_ble_eq_true rfl) rfl dL_law_253 ?_
  refine rl_icmp_eq (tgt := 1165) G dL_law_256 (by decide) (fun _ => ?_) (fun c9 => absurd rfl c9)
  exact k σ' τ' hI2
set_option maxRecDepth 20000 in
theorem law_c3 (E : LawE p s m meth c b L xs D cI cT xx) {σ τ : St} {i : Nat} (hI : Inv σ τ) (hi : i + 5 ≤ L) (k : ∀ σ' τ' : St, Inv σ' τ' → lawG p l e s m below meth c b D a a' cI cT (σ', τ') 1165 [(3, .int (nI i)), (2, .ref (a' 0)), (1, .ref (a 0)), (0, .ref b)] []) : lawG p l e s m below meth c b D a a' cI cT (σ, τ) 261 [(3, .int (nI i)), (2, .ref (a' 0)), (1, .ref (a 0)), (0, .ref b)] [] := by
  have hL : L ≤ 2560 := E.2.2.2.2.2.2.2.2.2.2.2
  have G := law_env (l := l) (e := e) (below := below) (a := a) (a' := a') E
  obtain ⟨r, σ', τ', e1, e2, hI2⟩ := op_bounds hI
  refine rl_aload_n G dL_law_261 rfl 2 rfl ?_
  refine law_callX E (kX7_bounds l D a cI cT _ xx σ r σ' e1) gL_law_X7_bounds rfl 0 rfl (by decide +kernel) rfl rfl ⟨Nat.le_of_ble_eq_true rfl, Nat.le_of_ble_eq_true rfl⟩ (Nat.le_of_ble_eq_true rfl) rfl dL_law_262 ?_
  refine rl_aload_n G dL_law_265 rfl 1 rfl ?_
  refine law_callM E (kX8_bounds l D a' cI _ τ r τ' e2) gL_law_X8_bounds rfl 0 rfl (by decide +kernel) rfl rfl ⟨Nat.le_of_ble_eq_true rfl, Nat.le_of_ble_eq_true rfl⟩ (Nat.le_of_ble_eq_true rfl) rfl dL_law_266 ?_
  refine rl_icmp_eq (tgt := 1165) G dL_law_269 (by decide) (fun _ => ?_) (fun c9 => absurd rfl c9)
  exact k σ' τ' hI2
set_option maxRecDepth 20000 in
theorem law_c4 (E : LawE p s m meth c b L xs D cI cT xx) {σ τ : St} {i : Nat} (hI : Inv σ τ) (hi : i + 5 ≤ L) (k : ∀ σ' τ' : St, Inv σ' τ' → lawG p l e s m below meth c b D a a' cI cT (σ', τ') 1165 [(3, .int (nI i)), (2, .ref (a' 0)), (1, .ref (a 0)), (0, .ref b)] []) : lawG p l e s m below meth c b D a a' cI cT (σ, τ) 274 [(3, .int (nI i)), (2, .ref (a' 0)), (1, .ref (a 0)), (0, .ref b)] [] := by
  have hL : L ≤ 2560 := E.2.2.2.2.2.2.2.2.2.2.2
  have G := law_env (l := l) (e := e) (below := below) (a := a) (a' := a') E
  obtain ⟨r, σ', τ', e1, e2, hI2⟩ := op_strike hI (xs ((nI i) + (1 : Int32)).toNatClampNeg)
  refine rl_aload_n G dL_law_274 rfl 2 rfl ?_
  refine rl_aload_n G dL_law_275 rfl 3 rfl ?_
  refine rl_iload_n G dL_law_276 rfl 0 rfl ?_
  refine rl_iconst (v := 1) G dL_law_277 (by decide) ?_
  refine rl_iadd G dL_law_278 ?_
  refine law_sld E (law_in (k := 1) hi hL (by omega)) dL_law_279 ?_
  refine law_callX E (kX7_strike l D a cI cT _ xx σ (xs ((nI i) + (1 : Int32)).toNatClampNeg) r σ' e1) gL_law_X7_strike rfl 1 rfl (by decide +kernel) rfl rfl ⟨Nat.le_of_ble_eq_true rfl, Nat.le_of_ble_eq_true rfl⟩ (Nat.le_of_ble_eq_true rfl) rfl dL_law_280 ?_
  refine rl_aload_n G dL_law_283 rfl 1 rfl ?_
  refine rl_aload_n G dL_law_284 rfl 3 rfl ?_
  refine rl_iload_n G dL_law_285 rfl 0 rfl ?_
  refine rl_iconst (v := 1) G dL_law_286 (by decide) ?_
  refine rl_iadd G dL_law_287 ?_
  refine law_sld E (law_in (k := 1) hi hL (by omega)) dL_law_288 ?_
  refine law_callM E (kX8_strike l D a' cI _ τ (xs ((nI i) + (1 : Int32)).toNatClampNeg) r τ' e2) gL_law_X8_strike rfl 1 rfl (by decide +kernel) rfl rfl ⟨Nat.le_of_ble_eq_true rfl, Nat.le_of_ble_eq_true rfl⟩ (Nat.le_of_ble_eq_true rfl) rfl dL_law_289 ?_
  refine rl_icmp_eq (tgt := 1165) G dL_law_292 (by decide) (fun _ => ?_) (fun c9 => absurd rfl c9)
  exact k σ' τ' hI2
set_option maxRecDepth 20000 in
theorem law_c5 (E : LawE p s m meth c b L xs D cI cT xx) {σ τ : St} {i : Nat} (hI : Inv σ τ) (hi : i + 5 ≤ L) (k : ∀ σ' τ' : St, Inv σ' τ' → lawG p l e s m below meth c b D a a' cI cT (σ', τ') 1165 [(3, .int (nI i)), (2, .ref (a' 0)), (1, .ref (a 0)), (0, .ref b)] []) : lawG p l e s m below meth c b D a a' cI cT (σ, τ) 297 [(3, .int (nI i)), (2, .ref (a' 0)), (1, .ref (a 0)), (0, .ref b)] [] := by
  have hL : L ≤ 2560 := E.2.2.2.2.2.2.2.2.2.2.2
  have G := law_env (l := l) (e := e) (below := below) (a := a) (a' := a') E
  obtain ⟨r, e1, e2⟩ := op_bound hI (xs ((nI i) + (1 : Int32)).toNatClampNeg) (xs ((nI i) + (2 : Int32)).toNatClampNeg)
  refine rl_aload_n G dL_law_297 rfl 2 rfl ?_
  refine rl_aload_n G dL_law_298 rfl 3 rfl ?_
  refine rl_iload_n G dL_law_299 rfl 0 rfl ?_
  refine rl_iconst (v := 1) G dL_law_300 (by decide) ?_
  refine rl_iadd G dL_law_301 ?_
  refine law_sld E (law_in (k := 1) hi hL (by omega)) dL_law_302 ?_
  refine rl_aload_n G dL_law_303 rfl 3 rfl ?_
  refine rl_iload_n G dL_law_304 rfl 0 rfl ?_
  refine rl_iconst (v := 2) G dL_law_305 (by decide) ?_
  refine rl_iadd G dL_law_306 ?_
  refine law_sld E (law_in (k := 2) hi hL (by omega)) dL_law_307 ?_
  refine law_callX E (kX7_bound l D a cI cT _ xx σ (xs ((nI i) + (1 : Int32)).toNatClampNeg) (xs ((nI i) + (2 : Int32)).toNatClampNeg) r e1) gL_law_X7_bound rfl 2 rfl (by decide +kernel) rfl rfl ⟨Nat.le_of_ble_eq_true rfl, Nat.le_of_ble_eq_true rfl⟩ (Nat.le_of_ble_eq_true rfl) rfl dL_law_308 ?_
  refine rl_aload_n G dL_law_311 rfl 1 rfl ?_
  refine rl_aload_n G dL_law_312 rfl 3 rfl ?_
  refine rl_iload_n G dL_law_313 rfl 0 rfl ?_
  refine rl_iconst (v := 1) G dL_law_314 (by decide) ?_
  refine rl_iadd G dL_law_315 ?_
  refine law_sld E (law_in (k := 1) hi hL (by omega)) dL_law_316 ?_
  refine rl_aload_n G dL_law_317 rfl 3 rfl ?_
  refine rl_iload_n G dL_law_318 rfl 0 rfl ?_
  refine rl_iconst (v := 2) G dL_law_319 (by decide) ?_
  refine rl_iadd G dL_law_320 ?_
  refine law_sld E (law_in (k := 2) hi hL (by omega)) dL_law_321 ?_
  refine law_callM E (kX8_bound l D a' cI _ τ (xs ((nI i) + (1 : Int32)).toNatClampNeg) (xs ((nI i) + (2 : Int32)).toNatClampNeg) r e2) gL_law_X8_bound rfl 2 rfl (by decide +kernel) rfl rfl ⟨Nat.le_of_ble_eq_true rfl, Nat.le_of_ble_eq_true rfl⟩ (Nat.le_of_ble_eq_true rfl) rfl dL_law_322 ?_
  refine rl_icmp_eq (tgt := 1165) G dL_law_325 (by decide) (fun _ => ?_) (fun c9 => absurd rfl c9)
  exact k σ τ hI
set_option maxRecDepth 20000 in
theorem law_c6 (E : LawE p s m meth c b L xs D cI cT xx) {σ τ : St} {i : Nat} (hI : Inv σ τ) (hi : i + 5 ≤ L) (k : ∀ σ' τ' : St, Inv σ' τ' → lawG p l e s m below meth c b D a a' cI cT (σ', τ') 1165 [(3, .int (nI i)), (2, .ref (a' 0)), (1, .ref (a 0)), (0, .ref b)] []) : lawG p l e s m below meth c b D a a' cI cT (σ, τ) 330 [(3, .int (nI i)), (2, .ref (a' 0)), (1, .ref (a 0)), (0, .ref b)] [] := by
  have hL : L ≤ 2560 := E.2.2.2.2.2.2.2.2.2.2.2
  have G := law_env (l := l) (e := e) (below := below) (a := a) (a' := a') E
  obtain ⟨r, τ', e1, e2, hI2⟩ := op_may hI (xs ((nI i) + (1 : Int32)).toNatClampNeg) (xs ((nI i) + (2 : Int32)).toNatClampNeg)
  refine rl_aload_n G dL_law_330 rfl 2 rfl ?_
  refine rl_aload_n G dL_law_331 rfl 3 rfl ?_
  refine rl_iload_n G dL_law_332 rfl 0 rfl ?_
  refine rl_iconst (v := 1) G dL_law_333 (by decide) ?_
  refine rl_iadd G dL_law_334 ?_
  refine law_sld E (law_in (k := 1) hi hL (by omega)) dL_law_335 ?_
  refine rl_aload_n G dL_law_336 rfl 3 rfl ?_
  refine rl_iload_n G dL_law_337 rfl 0 rfl ?_
  refine rl_iconst (v := 2) G dL_law_338 (by decide) ?_
  refine rl_iadd G dL_law_339 ?_
  refine law_sld E (law_in (k := 2) hi hL (by omega)) dL_law_340 ?_
  refine law_callX E (kX7_may l D a cI cT _ xx σ (xs ((nI i) + (1 : Int32)).toNatClampNeg) (xs ((nI i) + (2 : Int32)).toNatClampNeg) r e1) gL_law_X7_may rfl 2 rfl (by decide +kernel) rfl rfl ⟨Nat.le_of_ble_eq_true rfl, Nat.le_of_ble_eq_true rfl⟩ (Nat.le_of_ble_eq_true rfl) rfl dL_law_341 ?_
  refine rl_aload_n G dL_law_344 rfl 1 rfl ?_
  refine rl_aload_n G dL_law_345 rfl 3 rfl ?_
  refine rl_iload_n G dL_law_346 rfl 0 rfl ?_
  refine rl_iconst (v := 1) G dL_law_347 (by decide) ?_
  refine rl_iadd G dL_law_348 ?_
  refine law_sld E (law_in (k := 1) hi hL (by omega)) dL_law_349 ?_
  refine rl_aload_n G dL_law_350 rfl 3 rfl ?_
  refine rl_iload_n G dL_law_351 rfl 0 rfl ?_
  refine rl_iconst (v := 2) G dL_law_352 (by decide) ?_
  refine rl_iadd G dL_law_353 ?_
  refine law_sld E (law_in (k := 2) hi hL (by omega)) dL_law_354 ?_
  refine law_callM E (kX8_may l D a' cI _ τ (xs ((nI i) + (1 : Int32)).toNatClampNeg) (xs ((nI i) + (2 : Int32)).toNatClampNeg) r τ' e2) gL_law_X8_may rfl 2 rfl (by decide +kernel) rfl rfl ⟨Nat.le_of_ble_eq_true rfl, Nat.le_of_ble_eq_true rfl⟩ (Nat.le_of_ble_eq_true rfl) rfl dL_law_355 ?_
  refine rl_icmp_eq (tgt := 1165) G dL_law_358 (by decide) (fun _ => ?_) (fun c9 => absurd rfl c9)
  exact k σ τ' hI2
set_option maxRecDepth 20000 in
theorem law_c7 (E : LawE p s m meth c b L xs D cI cT xx) {σ τ : St} {i : Nat} (hI : Inv σ τ) (hi : i + 5 ≤ L) (k : ∀ σ' τ' : St, Inv σ' τ' → lawG p l e s m below meth c b D a a' cI cT (σ', τ') 1165 [(3, .int (nI i)), (2, .ref (a' 0)), (1, .ref (a 0)), (0, .ref b)] []) : lawG p l e s m below meth c b D a a' cI cT (σ, τ) 363 [(3, .int (nI i)), (2, .ref (a' 0)), (1, .ref (a 0)), (0, .ref b)] [] := by
  have hL : L ≤ 2560 := E.2.2.2.2.2.2.2.2.2.2.2
  have G := law_env (l := l) (e := e) (below := below) (a := a) (a' := a') E
  obtain ⟨r, τ', e1, e2, hI2⟩ := op_why hI (xs ((nI i) + (1 : Int32)).toNatClampNeg) (xs ((nI i) + (2 : Int32)).toNatClampNeg)
  refine rl_aload_n G dL_law_363 rfl 2 rfl ?_
  refine rl_aload_n G dL_law_364 rfl 3 rfl ?_
  refine rl_iload_n G dL_law_365 rfl 0 rfl ?_
  refine rl_iconst (v := 1) G dL_law_366 (by decide) ?_
  refine rl_iadd G dL_law_367 ?_
  refine law_sld E (law_in (k := 1) hi hL (by omega)) dL_law_368 ?_
  refine rl_aload_n G dL_law_369 rfl 3 rfl ?_
  refine rl_iload_n G dL_law_370 rfl 0 rfl ?_
  refine rl_iconst (v := 2) G dL_law_371 (by decide) ?_
  refine rl_iadd G dL_law_372 ?_
  refine law_sld E (law_in (k := 2) hi hL (by omega)) dL_law_373 ?_
  refine law_callX E (kX7_why l D a cI cT _ xx σ (xs ((nI i) + (1 : Int32)).toNatClampNeg) (xs ((nI i) + (2 : Int32)).toNatClampNeg) r e1) gL_law_X7_why rfl 2 rfl (by decide +kernel) rfl rfl ⟨Nat.le_of_ble_eq_true rfl, Nat.le_of_ble_eq_true rfl⟩ (Nat.le_of_ble_eq_true rfl) rfl dL_law_374 ?_
  refine rl_aload_n G dL_law_377 rfl 1 rfl ?_
  refine rl_aload_n G dL_law_378 rfl 3 rfl ?_
  refine rl_iload_n G dL_law_379 rfl 0 rfl ?_
  refine rl_iconst (v := 1) G dL_law_380 (by decide) ?_
  refine rl_iadd G dL_law_381 ?_
  refine law_sld E (law_in (k := 1) hi hL (by omega)) dL_law_382 ?_
  refine rl_aload_n G dL_law_383 rfl 3 rfl ?_
  refine rl_iload_n G dL_law_384 rfl 0 rfl ?_
  refine rl_iconst (v := 2) G dL_law_385 (by decide) ?_
  refine rl_iadd G dL_law_386 ?_
  refine law_sld E (law_in (k := 2) hi hL (by omega)) dL_law_387 ?_
  refine law_callM E (kX8_why l D a' cI _ τ (xs ((nI i) + (1 : Int32)).toNatClampNeg) (xs ((nI i) + (2 : Int32)).toNatClampNeg) r τ' e2) gL_law_X8_why rfl 2 rfl (by decide +kernel) rfl rfl ⟨Nat.le_of_ble_eq_true rfl, Nat.le_of_ble_eq_true rfl⟩ (Nat.le_of_ble_eq_true rfl) rfl dL_law_388 ?_
  refine rl_icmp_eq (tgt := 1165) G dL_law_391 (by decide) (fun _ => ?_) (fun c9 => absurd rfl c9)
  exact k σ τ' hI2
end LAW
