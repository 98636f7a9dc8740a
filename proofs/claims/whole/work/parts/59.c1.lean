section LAW
variable {p : Program} {l : Launch} {e : Env} {s : State} {m : MethodId} {below : List Frame} {meth : Method} {c : Code} {b L : Nat} {xs : Nat → Int32} {D : va_G} {a a' : Nat → Nat} {cI cT : ClassId} {xx : Rx}
set_option maxRecDepth 20000 in
theorem law_c8 (E : LawE p s m meth c b L xs D cI cT xx) {σ τ : St} {i : Nat} (hI : Inv σ τ) (hi : i + 5 ≤ L) (k : ∀ σ' τ' : St, Inv σ' τ' → lawG p l e s m below meth c b D a a' cI cT (σ', τ') 1165 [(3, .int (nI i)), (2, .ref (a' 0)), (1, .ref (a 0)), (0, .ref b)] []) : lawG p l e s m below meth c b D a a' cI cT (σ, τ) 396 [(3, .int (nI i)), (2, .ref (a' 0)), (1, .ref (a 0)), (0, .ref b)] [] := by
  have hL : L ≤ 2560 := E.2.2.2.2.2.2.2.2.2.2.2
  have G := law_env (l := l) (e := e) (below := below) (a := a) (a' := a') E
  obtain ⟨r, τ', e1, e2, hI2⟩ := op_who hI (xs ((nI i) + (1 : Int32)).toNatClampNeg)
  refine rl_aload_n G dL_law_396 rfl 2 rfl ?_
  refine rl_aload_n G dL_law_397 rfl 3 rfl ?_
  refine rl_iload_n G dL_law_398 rfl 0 rfl ?_
  refine rl_iconst (v := 1) G dL_law_399 (by decide) ?_
  refine rl_iadd G dL_law_400 ?_
  refine law_sld E (law_in (k := 1) hi hL (by omega)) dL_law_401 ?_
  refine law_callX E (kX7_who l D a cI cT _ xx σ (xs ((nI i) + (1 : Int32)).toNatClampNeg) r e1) gL_law_X7_who rfl 1 rfl (by decide +kernel) rfl rfl ⟨Nat.le_of_ble_eq_true rfl, Nat.le_of_ble_eq_true rfl⟩ (Nat.le_of_ble_eq_true rfl) rfl dL_law_402 ?_
  refine rl_aload_n G dL_law_405 rfl 1 rfl ?_
  refine rl_aload_n G dL_law_406 rfl 3 rfl ?_
  refine rl_iload_n G dL_law_407 rfl 0 rfl ?_
  refine rl_iconst (v := 1) G dL_law_408 (by decide) ?_
  refine rl_iadd G dL_law_409 ?_
  refine law_sld E (law_in (k := 1) hi hL (by omega)) dL_law_410 ?_
  refine law_callM E (kX8_who l D a' cI _ τ (xs ((nI i) + (1 : Int32)).toNatClampNeg) r τ' e2) gL_law_X8_who rfl 1 rfl (by decide +kernel) rfl rfl ⟨Nat.le_of_ble_eq_true rfl, Nat.le_of_ble_eq_true rfl⟩ (Nat.le_of_ble_eq_true rfl) rfl dL_law_411 ?_
  refine rl_icmp_eq (tgt := 1165) G dL_law_414 (by decide) (fun _ => ?_) (fun c9 => absurd rfl c9)
  exact k σ τ' hI2
set_option maxRecDepth 20000 in
theorem law_c9 (E : LawE p s m meth c b L xs D cI cT xx) {σ τ : St} {i : Nat} (hI : Inv σ τ) (hi : i + 5 ≤ L) (k : ∀ σ' τ' : St, Inv σ' τ' → lawG p l e s m below meth c b D a a' cI cT (σ', τ') 1165 [(3, .int (nI i)), (2, .ref (a' 0)), (1, .ref (a 0)), (0, .ref b)] []) : lawG p l e s m below meth c b D a a' cI cT (σ, τ) 419 [(3, .int (nI i)), (2, .ref (a' 0)), (1, .ref (a 0)), (0, .ref b)] [] := by
  have hL : L ≤ 2560 := E.2.2.2.2.2.2.2.2.2.2.2
  have G := law_env (l := l) (e := e) (below := below) (a := a) (a' := a') E
  obtain ⟨r, τ', e1, e2, hI2⟩ := op_works hI (xs ((nI i) + (1 : Int32)).toNatClampNeg) (xs ((nI i) + (2 : Int32)).toNatClampNeg)
  refine rl_aload_n G dL_law_419 rfl 2 rfl ?_
  refine rl_aload_n G dL_law_420 rfl 3 rfl ?_
  refine rl_iload_n G dL_law_421 rfl 0 rfl ?_
  refine rl_iconst (v := 1) G dL_law_422 (by decide) ?_
  refine rl_iadd G dL_law_423 ?_
  refine law_sld E (law_in (k := 1) hi hL (by omega)) dL_law_424 ?_
  refine rl_aload_n G dL_law_425 rfl 3 rfl ?_
  refine rl_iload_n G dL_law_426 rfl 0 rfl ?_
  refine rl_iconst (v := 2) G dL_law_427 (by decide) ?_
  refine rl_iadd G dL_law_428 ?_
  refine law_sld E (law_in (k := 2) hi hL (by omega)) dL_law_429 ?_
  refine law_callX E (kX7_works l D a cI cT _ xx σ (xs ((nI i) + (1 : Int32)).toNatClampNeg) (xs ((nI i) + (2 : Int32)).toNatClampNeg) r e1) gL_law_X7_works rfl 2 rfl (by decide +kernel) rfl rfl ⟨Nat.le_of_ble_eq_true rfl, Nat.le_of_ble_eq_true rfl⟩ (Nat.le_of_ble_eq_true rfl) rfl dL_law_430 ?_
  refine rl_aload_n G dL_law_433 rfl 1 rfl ?_
  refine rl_aload_n G dL_law_434 rfl 3 rfl ?_
  refine rl_iload_n G dL_law_435 rfl 0 rfl ?_
  refine rl_iconst (v := 1) G dL_law_436 (by decide) ?_
  refine rl_iadd G dL_law_437 ?_
  refine law_sld E (law_in (k := 1) hi hL (by omega)) dL_law_438 ?_
  refine rl_aload_n G dL_law_439 rfl 3 rfl ?_
  refine rl_iload_n G dL_law_440 rfl 0 rfl ?_
  refine rl_iconst (v := 2) G dL_law_441 (by decide) ?_
  refine rl_iadd G dL_law_442 ?_
  refine law_sld E (law_in (k := 2) hi hL (by omega)) dL_law_443 ?_
  refine law_callM E (kX8_works l D a' cI _ τ (xs ((nI i) + (1 : Int32)).toNatClampNeg) (xs ((nI i) + (2 : Int32)).toNatClampNeg) r τ' e2) gL_law_X8_works rfl 2 rfl (by decide +kernel) rfl rfl ⟨Nat.le_of_ble_eq_true rfl, Nat.le_of_ble_eq_true rfl⟩ (Nat.le_of_ble_eq_true rfl) rfl dL_law_444 ?_
  refine rl_icmp_eq (tgt := 1165) G dL_law_447 (by decide) (fun _ => ?_) (fun c9 => absurd rfl c9)
  exact k σ τ' hI2
set_option maxRecDepth 20000 in
theorem law_c10 (E : LawE p s m meth c b L xs D cI cT xx) {σ τ : St} {i : Nat} (hI : Inv σ τ) (hi : i + 5 ≤ L) (k : ∀ σ' τ' : St, Inv σ' τ' → lawG p l e s m below meth c b D a a' cI cT (σ', τ') 1165 [(3, .int (nI i)), (2, .ref (a' 0)), (1, .ref (a 0)), (0, .ref b)] []) : lawG p l e s m below meth c b D a a' cI cT (σ, τ) 452 [(3, .int (nI i)), (2, .ref (a' 0)), (1, .ref (a 0)), (0, .ref b)] [] := by
  have hL : L ≤ 2560 := E.2.2.2.2.2.2.2.2.2.2.2
  have G := law_env (l := l) (e := e) (below := below) (a := a) (a' := a') E
  obtain ⟨r, σ', τ', e1, e2, hI2⟩ := op_step hI (xs ((nI i) + (1 : Int32)).toNatClampNeg) (xs ((nI i) + (2 : Int32)).toNatClampNeg) (xs ((nI i) + (3 : Int32)).toNatClampNeg)
  refine rl_aload_n G dL_law_452 rfl 2 rfl ?_
  refine rl_aload_n G dL_law_453 rfl 3 rfl ?_
  refine rl_iload_n G dL_law_454 rfl 0 rfl ?_
  refine rl_iconst (v := 1) G dL_law_455 (by decide) ?_
  refine rl_iadd G dL_law_456 ?_
  refine law_sld E (law_in (k := 1) hi hL (by omega)) dL_law_457 ?_
  refine rl_aload_n G dL_law_458 rfl 3 rfl ?_
  refine rl_iload_n G dL_law_459 rfl 0 rfl ?_
  refine rl_iconst (v := 2) G dL_law_460 (by decide) ?_
  refine rl_iadd G dL_law_461 ?_
  refine law_sld E (law_in (k := 2) hi hL (by omega)) dL_law_462 ?_
  refine rl_aload_n G dL_law_463 rfl 3 rfl ?_
  refine rl_iload_n G dL_law_464 rfl 0 rfl ?_
  refine rl_iconst (v := 3) G dL_law_465 (by decide) ?_
  refine rl_iadd G dL_law_466 ?_
  refine law_sld E (law_in (k := 3) hi hL (by omega)) dL_law_467 ?_
  refine law_callX E (kX7_step l D a cI cT _ xx σ (xs ((nI i) + (1 : Int32)).toNatClampNeg) (xs ((nI i) + (2 : Int32)).toNatClampNeg) (xs ((nI i) + (3 : Int32)).toNatClampNeg) r σ' e1) gL_law_X7_step rfl 3 rfl (by decide +kernel) rfl rfl ⟨Nat.le_of_ble_eq_true rfl, Nat.le_of_ble_eq_true rfl⟩ (Nat.le_of_ble_eq_true rfl) rfl dL_law_468 ?_
  refine rl_aload_n G dL_law_471 rfl 1 rfl ?_
  refine rl_aload_n G dL_law_472 rfl 3 rfl ?_
  refine rl_iload_n G dL_law_473 rfl 0 rfl ?_
  refine rl_iconst (v := 1) G dL_law_474 (by decide) ?_
  refine rl_iadd G dL_law_475 ?_
  refine law_sld E (law_in (k := 1) hi hL (by omega)) dL_law_476 ?_
  refine rl_aload_n G dL_law_477 rfl 3 rfl ?_
  refine rl_iload_n G dL_law_478 rfl 0 rfl ?_
  refine rl_iconst (v := 2) G dL_law_479 (by decide) ?_
  refine rl_iadd G dL_law_480 ?_
  refine law_sld E (law_in (k := 2) hi hL (by omega)) dL_law_481 ?_
  refine rl_aload_n G dL_law_482 rfl 3 rfl ?_
  refine rl_iload_n G dL_law_483 rfl 0 rfl ?_
  refine rl_iconst (v := 3) G dL_law_484 (by decide) ?_
  refine rl_iadd G dL_law_485 ?_
  refine law_sld E (law_in (k := 3) hi hL (by omega)) dL_law_486 ?_
  refine law_callM E (kX8_step l D a' cI _ τ (xs ((nI i) + (1 : Int32)).toNatClampNeg) (xs ((nI i) + (2 : Int32)).toNatClampNeg) (xs ((nI i) + (3 : Int32)).toNatClampNeg) r τ' e2) gL_law_X8_step rfl 3 rfl (by decide +kernel) rfl rfl ⟨Nat.le_of_ble_eq_true rfl, Nat.le_of_ble_eq_true rfl⟩ (Nat.le_of_ble_eq_true rfl) rfl dL_law_487 ?_
  refine rl_icmp_eq (tgt := 1165) G dL_law_490 (by decide) (fun _ => ?_) (fun c9 => absurd rfl c9)
  exact k σ' τ' hI2
set_option maxRecDepth 20000 in
theorem law_c11 (E : LawE p s m meth c b L xs D cI cT xx) {σ τ : St} {i : Nat} (hI : Inv σ τ) (hi : i + 5 ≤ L) (k : ∀ σ' τ' : St, Inv σ' τ' → lawG p l e s m below meth c b D a a' cI cT (σ', τ') 1165 [(3, .int (nI i)), (2, .ref (a' 0)), (1, .ref (a 0)), (0, .ref b)] []) : lawG p l e s m below meth c b D a a' cI cT (σ, τ) 495 [(3, .int (nI i)), (2, .ref (a' 0)), (1, .ref (a 0)), (0, .ref b)] [] := by
  have hL : L ≤ 2560 := E.2.2.2.2.2.2.2.2.2.2.2
  have G := law_env (l := l) (e := e) (below := below) (a := a) (a' := a') E
  obtain ⟨r, σ', τ', e1, e2, hI2⟩ := op_clear hI (xs ((nI i) + (1 : Int32)).toNatClampNeg)
  refine rl_aload_n G dL_law_495 rfl 2 rfl ?_
  refine rl_aload_n G dL_law_496 rfl 3 rfl ?_
  refine rl_iload_n G dL_law_497 rfl 0 rfl ?_
  refine rl_iconst (v := 1) G dL_law_498 (by decide) ?_
  refine rl_iadd G dL_law_499 ?_
  refine law_sld E (law_in (k := 1) hi hL (by omega)) dL_law_500 ?_
  refine law_callX E (kX7_clear l D a cI cT _ xx σ (xs ((nI i) + (1 : Int32)).toNatClampNeg) r σ' e1) gL_law_X7_clear rfl 1 rfl (by decide +kernel) rfl rfl ⟨Nat.le_of_ble_eq_true rfl, Nat.le_of_ble_eq_true rfl⟩ (Nat.le_of_ble_eq_true rfl) rfl dL_law_501 ?_
  refine rl_aload_n G dL_law_504 rfl 1 rfl ?_
  refine rl_aload_n G dL_law_505 rfl 3 rfl ?_
  refine rl_iload_n G dL_law_506 rfl 0 rfl ?_
  refine rl_iconst (v := 1) G dL_law_507 (by decide) ?_
  refine rl_iadd G dL_law_508 ?_
  refine law_sld E (law_in (k := 1) hi hL (by omega)) dL_law_509 ?_
  refine law_callM E (kX8_clear l D a' cI _ τ (xs ((nI i) + (1 : Int32)).toNatClampNeg) r τ' e2) gL_law_X8_clear rfl 1 rfl (by decide +kernel) rfl rfl ⟨Nat.le_of_ble_eq_true rfl, Nat.le_of_ble_eq_true rfl⟩ (Nat.le_of_ble_eq_true rfl) rfl dL_law_510 ?_
  refine rl_icmp_eq (tgt := 1165) G dL_law_513 (by decide) (fun _ => ?_) (fun c9 => absurd rfl c9)
  exact k σ' τ' hI2
set_option maxRecDepth 20000 in
theorem law_c12 (E : LawE p s m meth c b L xs D cI cT xx) {σ τ : St} {i : Nat} (hI : Inv σ τ) (hi : i + 5 ≤ L) (k : ∀ σ' τ' : St, Inv σ' τ' → lawG p l e s m below meth c b D a a' cI cT (σ', τ') 1165 [(3, .int (nI i)), (2, .ref (a' 0)), (1, .ref (a 0)), (0, .ref b)] []) : lawG p l e s m below meth c b D a a' cI cT (σ, τ) 518 [(3, .int (nI i)), (2, .ref (a' 0)), (1, .ref (a 0)), (0, .ref b)] [] := by
  have hL : L ≤ 2560 := E.2.2.2.2.2.2.2.2.2.2.2
  have G := law_env (l := l) (e := e) (below := below) (a := a) (a' := a') E
  obtain ⟨r, σ', τ', e1, e2, hI2⟩ := op_price hI (xs ((nI i) + (1 : Int32)).toNatClampNeg) (xs ((nI i) + (2 : Int32)).toNatClampNeg) (xs ((nI i) + (3 : Int32)).toNatClampNeg)
  refine rl_aload_n G dL_law_518 rfl 2 rfl ?_
  refine rl_aload_n G dL_law_519 rfl 3 rfl ?_
  refine rl_iload_n G dL_law_520 rfl 0 rfl ?_
  refine rl_iconst (v := 1) G dL_law_521 (by decide) ?_
  refine rl_iadd G dL_law_522 ?_
  refine law_sld E (law_in (k := 1) hi hL (by omega)) dL_law_523 ?_
  refine rl_aload_n G dL_law_524 rfl 3 rfl ?_
  refine rl_iload_n G dL_law_525 rfl 0 rfl ?_
  refine rl_iconst (v := 2) G dL_law_526 (by decide) ?_
  refine rl_iadd G dL_law_527 ?_
  refine law_sld E (law_in (k := 2) hi hL (by omega)) dL_law_528 ?_
  refine rl_aload_n G dL_law_529 rfl 3 rfl ?_
  refine rl_iload_n G dL_law_530 rfl 0 rfl ?_
  refine rl_iconst (v := 3) G dL_law_531 (by decide) ?_
  refine rl_iadd G dL_law_532 ?_
  refine law_sld E (law_in (k := 3) hi hL (by omega)) dL_law_533 ?_
  refine law_callX E (kX7_price l D a cI cT _ xx σ (xs ((nI i) + (1 : Int32)).toNatClampNeg) (xs ((nI i) + (2 : Int32)).toNatClampNeg) (xs ((nI i) + (3 : Int32)).toNatClampNeg) r σ' e1) gL_law_X7_price rfl 3 rfl (by decide +kernel) rfl rfl ⟨Nat.le_of_ble_eq_true rfl, Nat.le_of_ble_eq_true rfl⟩ (Nat.le_of_ble_eq_true rfl) rfl dL_law_534 ?_
  refine rl_aload_n G dL_law_537 rfl 1 rfl ?_
  refine rl_aload_n G dL_law_538 rfl 3 rfl ?_
  refine rl_iload_n G dL_law_539 rfl 0 rfl ?_
  refine rl_iconst (v := 1) G dL_law_540 (by decide) ?_
  refine rl_iadd G dL_law_541 ?_
  refine law_sld E (law_in (k := 1) hi hL (by omega)) dL_law_542 ?_
  refine rl_aload_n G dL_law_543 rfl 3 rfl ?_
  refine rl_iload_n G dL_law_544 rfl 0 rfl ?_
  refine rl_iconst (v := 2) G dL_law_545 (by decide) ?_
  refine rl_iadd G dL_law_546 ?_
  refine law_sld E (law_in (k := 2) hi hL (by omega)) dL_law_547 ?_
  refine rl_aload_n G dL_law_548 rfl 3 rfl ?_
  refine rl_iload_n G dL_law_549 rfl 0 rfl ?_
  refine rl_iconst (v := 3) G dL_law_550 (by decide) ?_
  refine rl_iadd G dL_law_551 ?_
  refine law_sld E (law_in (k := 3) hi hL (by omega)) dL_law_552 ?_
  refine law_callM E (kX8_price l D a' cI _ τ (xs ((nI i) + (1 : Int32)).toNatClampNeg) (xs ((nI i) + (2 : Int32)).toNatClampNeg) (xs ((nI i) + (3 : Int32)).toNatClampNeg) r τ' e2) gL_law_X8_price rfl 3 rfl (by decide +kernel) rfl rfl ⟨Nat.le_of_ble_eq_true rfl, Nat.le_of_ble_eq_true rfl⟩ (Nat.le_of_ble_eq_true rfl) rfl dL_law_553 ?_
  refine rl_icmp_eq (tgt := 1165) G dL_law_556 (by decide) (fun _ => ?_) (fun c9 => absurd rfl c9)
  exact k σ' τ' hI2
set_option maxRecDepth 20000 in
theorem law_c13 (E : LawE p s m meth c b L xs D cI cT xx) {σ τ : St} {i : Nat} (hI : Inv σ τ) (hi : i + 5 ≤ L) (k : ∀ σ' τ' : St, Inv σ' τ' → lawG p l e s m below meth c b D a a' cI cT (σ', τ') 1165 [(3, .int (nI i)), (2, .ref (a' 0)), (1, .ref (a 0)), (0, .ref b)] []) : lawG p l e s m below meth c b D a a' cI cT (σ, τ) 561 [(3, .int (nI i)), (2, .ref (a' 0)), (1, .ref (a 0)), (0, .ref b)] [] := by
  have hL : L ≤ 2560 := E.2.2.2.2.2.2.2.2.2.2.2
  have G := law_env (l := l) (e := e) (below := below) (a := a) (a' := a') E
  obtain ⟨r, σ', τ', e1, e2, hI2⟩ := op_days hI (xs ((nI i) + (1 : Int32)).toNatClampNeg) (xs ((nI i) + (2 : Int32)).toNatClampNeg)
  refine rl_aload_n G dL_law_561 rfl 2 rfl ?_
  refine rl_aload_n G dL_law_562 rfl 3 rfl ?_
  refine rl_iload_n G dL_law_563 rfl 0 rfl ?_
  refine rl_iconst (v := 1) G dL_law_564 (by decide) ?_
  refine rl_iadd G dL_law_565 ?_
  refine law_sld E (law_in (k := 1) hi hL (by omega)) dL_law_566 ?_
  refine rl_aload_n G dL_law_567 rfl 3 rfl ?_
  refine rl_iload_n G dL_law_568 rfl 0 rfl ?_
  refine rl_iconst (v := 2) G dL_law_569 (by decide) ?_
  refine rl_iadd G dL_law_570 ?_
  refine law_sld E (law_in (k := 2) hi hL (by omega)) dL_law_571 ?_
  refine law_callX E (kX7_days l D a cI cT _ xx σ (xs ((nI i) + (1 : Int32)).toNatClampNeg) (xs ((nI i) + (2 : Int32)).toNatClampNeg) r σ' e1) gL_law_X7_days rfl 2 rfl (by decide +kernel) rfl rfl ⟨Nat.le_of_ble_eq_true rfl, Nat.le_of_ble_eq_true rfl⟩ (Nat.le_of_ble_eq_true rfl) rfl dL_law_572 ?_
  refine rl_aload_n G dL_law_575 rfl 1 rfl ?_
  refine rl_aload_n G dL_law_576 rfl 3 rfl ?_
  refine rl_iload_n G dL_law_577 rfl 0 rfl ?_
  refine rl_iconst (v := 1) G dL_law_578 (by decide) ?_
  refine rl_iadd G dL_law_579 ?_
  refine law_sld E (law_in (k := 1) hi hL (by omega)) dL_law_580 ?_
  refine rl_aload_n G dL_law_581 rfl 3 rfl ?_
  refine rl_iload_n G dL_law_582 rfl 0 rfl ?_
  refine rl_iconst (v := 2) G dL_law_583 (by decide) ?_
  refine rl_iadd G dL_law_584 ?_
  refine law_sld E (law_in (k := 2) hi hL (by omega)) dL_law_585 ?_
  refine law_callM E (kX8_days l D a' cI _ τ (xs ((nI i) + (1 : Int32)).toNatClampNeg) (xs ((nI i) + (2 : Int32)).toNatClampNeg) r τ' e2) gL_law_X8_days rfl 2 rfl (by decide +kernel) rfl rfl ⟨Nat.le_of_ble_eq_true rfl, Nat.le_of_ble_eq_true rfl⟩ (Nat.le_of_ble_eq_true rfl) rfl dL_law_586 ?_
  refine rl_icmp_eq (tgt := 1165) G dL_law_589 (by decide) (fun _ => ?_) (fun c9 => absurd rfl c9)
  exact k σ' τ' hI2
set_option maxRecDepth 20000 in
theorem law_c14 (E : LawE p s m meth c b L xs D cI cT xx) {σ τ : St} {i : Nat} (hI : Inv σ τ) (hi : i + 5 ≤ L) (k : ∀ σ' τ' : St, Inv σ' τ' → lawG p l e s m below meth c b D a a' cI cT (σ', τ') 1165 [(3, .int (nI i)), (2, .ref (a' 0)), (1, .ref (a 0)), (0, .ref b)] []) : lawG p l e s m below meth c b D a a' cI cT (σ, τ) 594 [(3, .int (nI i)), (2, .ref (a' 0)), (1, .ref (a 0)), (0, .ref b)] [] := by
  have hL : L ≤ 2560 := E.2.2.2.2.2.2.2.2.2.2.2
  have G := law_env (l := l) (e := e) (below := below) (a := a) (a' := a') E
  obtain ⟨r, σ', τ', e1, e2, hI2⟩ := op_carry hI (xs ((nI i) + (1 : Int32)).toNatClampNeg)
  refine rl_aload_n G dL_law_594 rfl 2 rfl ?_
  refine rl_aload_n G dL_law_595 rfl 3 rfl ?_
  refine rl_iload_n G dL_law_596 rfl 0 rfl ?_
  refine rl_iconst (v := 1) G dL_law_597 (by decide) ?_
  refine rl_iadd G dL_law_598 ?_
  refine law_sld E (law_in (k := 1) hi hL (by omega)) dL_law_599 ?_
  refine law_callX E (kX7_carry l D a cI cT _ xx σ (xs ((nI i) + (1 : Int32)).toNatClampNeg) r σ' e1) gL_law_X7_carry rfl 1 rfl (by decide +kernel) rfl rfl ⟨Nat.le_of_ble_eq_true rfl, Nat.le_of_ble_eq_true rfl⟩ (Nat.le_of_ble_eq_true rfl) rfl dL_law_600 ?_
  refine rl_aload_n G dL_law_603 rfl 1 rfl ?_
  refine rl_aload_n G dL_law_604 rfl 3 rfl ?_
  refine rl_iload_n G dL_law_605 rfl 0 rfl ?_
  refine rl_iconst (v := 1) G dL_law_606 (by decide) ?_
  refine rl_iadd G dL_law_607 ?_
  refine law_sld E (law_in (k := 1) hi hL (by omega)) dL_law_608 ?_
  refine law_callM E (kX8_carry l D a' cI _ τ (xs ((nI i) + (1 : Int32)).toNatClampNeg) r τ' e2) gL_law_X8_carry rfl 1 rfl (by decide +kernel) rfl rfl ⟨Nat.le_of_ble_eq_true rfl, Nat.le_of_ble_eq_true rfl⟩ (Nat.le_of_ble_eq_true rfl) rfl dL_law_609 ?_
  refine rl_icmp_eq (tgt := 1165) G dL_law_612 (by decide) (fun _ => ?_) (fun c9 => absurd rfl c9)
  exact k σ' τ' hI2
set_option maxRecDepth 20000 in
theorem law_c15 (E : LawE p s m meth c b L xs D cI cT xx) {σ τ : St} {i : Nat} (hI : Inv σ τ) (hi : i + 5 ≤ L) (k : ∀ σ' τ' : St, Inv σ' τ' → lawG p l e s m below meth c b D a a' cI cT (σ', τ') 1165 [(3, .int (nI i)), (2, .ref (a' 0)), (1, .ref (a 0)), (0, .ref b)] []) : lawG p l e s m below meth c b D a a' cI cT (σ, τ) 617 [(3, .int (nI i)), (2, .ref (a' 0)), (1, .ref (a 0)), (0, .ref b)] [] := by
  have hL : L ≤ 2560 := E.2.2.2.2.2.2.2.2.2.2.2
  have G := law_env (l := l) (e := e) (below := below) (a := a) (a' := a') E
  obtain ⟨r, τ', e1, e2, hI2⟩ := op_judge hI (xs ((nI i) + (1 : Int32)).toNatClampNeg) (xs ((nI i) + (2 : Int32)).toNatClampNeg) (xs ((nI i) + (3 : Int32)).toNatClampNeg)
  refine rl_aload_n G dL_law_617 rfl 2 rfl ?_
  refine rl_aload_n G dL_law_618 rfl 3 rfl ?_
  refine rl_iload_n G dL_law_619 rfl 0 rfl ?_
  refine rl_iconst (v := 1) G dL_law_620 (by decide) ?_
  refine rl_iadd G dL_law_621 ?_
  refine law_sld E (law_in (k := 1) hi hL (by omega)) dL_law_622 ?_
  refine rl_aload_n G dL_law_623 rfl 3 rfl ?_
  refine rl_iload_n G dL_law_624 rfl 0 rfl ?_
  refine rl_iconst (v := 2) G dL_law_625 (by decide) ?_
  refine rl_iadd G dL_law_626 ?_
  refine law_sld E (law_in (k := 2) hi hL (by omega)) dL_law_627 ?_
  refine rl_aload_n G dL_law_628 rfl 3 rfl ?_
  refine rl_iload_n G dL_law_629 rfl 0 rfl ?_
  refine rl_iconst (v := 3) G dL_law_630 (by decide) ?_
  refine rl_iadd G dL_law_631 ?_
  refine law_sld E (law_in (k := 3) hi hL (by omega)) dL_law_632 ?_
  refine law_callX E (kX7_judge l D a cI cT _ xx σ (xs ((nI i) + (1 : Int32)).toNatClampNeg) (xs ((nI i) + (2 : Int32)).toNatClampNeg) (xs ((nI i) + (3 : Int32)).toNatClampNeg) r e1) gL_law_X7_judge rfl 3 rfl (by decide +kernel) rfl rfl ⟨Nat.le_of_ble_eq_true rfl, Nat.le_of_ble_eq_true rfl⟩ (Nat.le_of_ble_eq_true rfl) rfl dL_law_633 ?_
  refine rl_aload_n G dL_law_636 rfl 1 rfl ?_
  refine rl_aload_n G dL_law_637 rfl 3 rfl ?_
  refine rl_iload_n G dL_law_638 rfl 0 rfl ?_
  refine rl_iconst (v := 1) G dL_law_639 (by decide) ?_
  refine rl_iadd G dL_law_640 ?_
  refine law_sld E (law_in (k := 1) hi hL (by omega)) dL_law_641 ?_
  refine rl_aload_n G dL_law_642 rfl 3 rfl ?_
  refine rl_iload_n G dL_law_643 rfl 0 rfl ?_
  refine rl_iconst (v := 2) G dL_law_644 (by decide) ?_
  refine rl_iadd G dL_law_645 ?_
  refine law_sld E (law_in (k := 2) hi hL (by omega)) dL_law_646 ?_
  refine rl_aload_n G dL_law_647 rfl 3 rfl ?_
  refine rl_iload_n G dL_law_648 rfl 0 rfl ?_
  refine rl_iconst (v := 3) G dL_law_649 (by decide) ?_
  refine rl_iadd G dL_law_650 ?_
  refine law_sld E (law_in (k := 3) hi hL (by omega)) dL_law_651 ?_
  refine law_callM E (kX8_judge l D a' cI _ τ (xs ((nI i) + (1 : Int32)).toNatClampNeg) (xs ((nI i) + (2 : Int32)).toNatClampNeg) (xs ((nI i) + (3 : Int32)).toNatClampNeg) r τ' e2) gL_law_X8_judge rfl 3 rfl (by decide +kernel) rfl rfl ⟨Nat.le_of_ble_eq_true rfl, Nat.le_of_ble_eq_true rfl⟩ (Nat.le_of_ble_eq_true rfl) rfl dL_law_652 ?_
  refine rl_icmp_eq (tgt := 1165) G dL_law_655 (by decide) (fun _ => ?_) (fun c9 => absurd rfl c9)
  exact k σ τ' hI2
end LAW
