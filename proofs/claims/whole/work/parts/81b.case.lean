/-! LAYER 3, 6b: the law, case by case. -/
set_option maxHeartbeats 4000000 in
set_option maxRecDepth 100000 in
theorem law_vote {p : Program} {l : Launch} {e : Env} {s : State} {m : MethodId} {below : List Frame} {meth : Method} {c : Code} {A : Nat → Prop} {b L i : Nat} {xs : Nat → Int32} {D : va_G} {q z h : Nat → Nat} {ad : Nat → Nat → Nat} {Z : State → Prop} (C0 : lwX p l s m meth c A b L i xs D q z) (hB : lwG p l e s m below meth c A b i D q ad h Z 932) : lwG p l e s m below meth c A b i D q ad h Z 393 := by
  obtain ⟨hx, hb, hml, hown, hts, hX, hbl, hbA, hL, hi, hG, hZ⟩ := C0
  intro xx x H locs hR hP hD hS ls hl
  refine lv_aload_n hx hb dL_law_393 rfl (lv_at hl 1 rfl) ?_
  refine lw_rd (k := 1) (b := b) (o1 := ad 9 0) (o2 := h 0) hx hb hX hbl hbA hL hl hS (by decide) (by omega) dL_law_394 dL_law_395 dL_law_396 dL_law_397 dL_law_398 ?_
  refine lw_rd (k := 2) (b := b) (o1 := ad 9 0) (o2 := h 0) hx hb hX hbl hbA hL hl hS (by decide) (by omega) dL_law_399 dL_law_400 dL_law_401 dL_law_402 dL_law_403 ?_
  refine law_mX (v := .int (mX5_vote xx (xs (i + 1)) (xs (i + 2))).1) (xx' := (mX5_vote xx (xs (i + 1)) (xs (i + 2))).2) (rest := []) (As := [.int (xs (i + 1)), .int (xs (i + 2))]) hx hb hml hown hts hl (MX5_vote l D q ad xx (xs (i + 1)) (xs (i + 2)) (rr_rg hR)) gL_law_X5_vote rfl kX5_vote ⟨Nat.le_of_ble_eq_true rfl, Nat.le_of_ble_eq_true rfl⟩ rfl rfl hP hD hS hG rfl rfl (Nat.le_of_ble_eq_true rfl) dL_law_404 ⟨Nat.le_of_ble_eq_true rfl, Nat.le_of_ble_eq_true rfl⟩ (fun H locs hP hD hS => ?_)
  refine lv_aload_n hx hb dL_law_407 rfl (lv_at hl 2 rfl) ?_
  refine lw_rd (k := 1) (b := b) (o1 := ad 9 0) (o2 := h 0) hx hb hX hbl hbA hL hl hS (by decide) (by omega) dL_law_408 dL_law_409 dL_law_410 dL_law_411 dL_law_412 ?_
  refine lw_rd (k := 2) (b := b) (o1 := ad 9 0) (o2 := h 0) hx hb hX hbl hbA hL hl hS (by decide) (by omega) dL_law_413 dL_law_414 dL_law_415 dL_law_416 dL_law_417 ?_
  refine law_mM (v := .int (mX6_vote x (xs (i + 1)) (xs (i + 2))).1) (x' := (mX6_vote x (xs (i + 1)) (xs (i + 2))).2) (rest := [.int (mX5_vote xx (xs (i + 1)) (xs (i + 2))).1]) (As := [.int (xs (i + 1)), .int (xs (i + 2))]) hx hb hml hown hts hl (MX6_vote l D q h x (xs (i + 1)) (xs (i + 2)) (rr_cnt hR) (rr_kn hR)) gL_law_X6_vote rfl kX6_vote ⟨Nat.le_of_ble_eq_true rfl, Nat.le_of_ble_eq_true rfl⟩ rfl rfl hP hD hS hG rfl rfl (Nat.le_of_ble_eq_true rfl) dL_law_418 ⟨Nat.le_of_ble_eq_true rfl, Nat.le_of_ble_eq_true rfl⟩ (fun H locs hP hD hS => ?_)
  have E := a_vote hR (xs (i + 1)) (xs (i + 2))
  exact lv_icmp_eq (tgt := 932) hx hb dL_law_421 (by decide) (fun _ => hB _ _ H locs E.2 hP hD hS ls hl) (fun c0 => absurd E.1 c0)
set_option maxHeartbeats 4000000 in
set_option maxRecDepth 100000 in
theorem law_type {p : Program} {l : Launch} {e : Env} {s : State} {m : MethodId} {below : List Frame} {meth : Method} {c : Code} {A : Nat → Prop} {b L i : Nat} {xs : Nat → Int32} {D : va_G} {q z h : Nat → Nat} {ad : Nat → Nat → Nat} {Z : State → Prop} (C0 : lwX p l s m meth c A b L i xs D q z) (hB : lwG p l e s m below meth c A b i D q ad h Z 932) : lwG p l e s m below meth c A b i D q ad h Z 426 := by
  obtain ⟨hx, hb, hml, hown, hts, hX, hbl, hbA, hL, hi, hG, hZ⟩ := C0
  intro xx x H locs hR hP hD hS ls hl
  refine lv_aload_n hx hb dL_law_426 rfl (lv_at hl 1 rfl) ?_
  refine lw_rd (k := 1) (b := b) (o1 := ad 9 0) (o2 := h 0) hx hb hX hbl hbA hL hl hS (by decide) (by omega) dL_law_427 dL_law_428 dL_law_429 dL_law_430 dL_law_431 ?_
  refine lv_i2c (v := ((xs (i + 1)).toUInt32 % 65536).toInt32) hx hb dL_law_432 rfl ?_
  refine law_mX (v := .int (mX5_type xx (((xs (i + 1)).toUInt32 % 65536).toInt32)).1) (xx' := (mX5_type xx (((xs (i + 1)).toUInt32 % 65536).toInt32)).2) (rest := []) (As := [.int (((xs (i + 1)).toUInt32 % 65536).toInt32)]) hx hb hml hown hts hl (MX5_type l D q ad xx (((xs (i + 1)).toUInt32 % 65536).toInt32) ) gL_law_X5_type rfl kX5_type ⟨Nat.le_of_ble_eq_true rfl, Nat.le_of_ble_eq_true rfl⟩ rfl rfl hP hD hS hG rfl rfl (Nat.le_of_ble_eq_true rfl) dL_law_433 ⟨Nat.le_of_ble_eq_true rfl, Nat.le_of_ble_eq_true rfl⟩ (fun H locs hP hD hS => ?_)
  refine lv_aload_n hx hb dL_law_436 rfl (lv_at hl 2 rfl) ?_
  refine lw_rd (k := 1) (b := b) (o1 := ad 9 0) (o2 := h 0) hx hb hX hbl hbA hL hl hS (by decide) (by omega) dL_law_437 dL_law_438 dL_law_439 dL_law_440 dL_law_441 ?_
  refine lv_i2c (v := ((xs (i + 1)).toUInt32 % 65536).toInt32) hx hb dL_law_442 rfl ?_
  refine law_mM (v := .int (mX6_type x (((xs (i + 1)).toUInt32 % 65536).toInt32)).1) (x' := (mX6_type x (((xs (i + 1)).toUInt32 % 65536).toInt32)).2) (rest := [.int (mX5_type xx (((xs (i + 1)).toUInt32 % 65536).toInt32)).1]) (As := [.int (((xs (i + 1)).toUInt32 % 65536).toInt32)]) hx hb hml hown hts hl (MX6_type l D q h x (((xs (i + 1)).toUInt32 % 65536).toInt32) (rr_len hR)) gL_law_X6_type rfl kX6_type ⟨Nat.le_of_ble_eq_true rfl, Nat.le_of_ble_eq_true rfl⟩ rfl rfl hP hD hS hG rfl rfl (Nat.le_of_ble_eq_true rfl) dL_law_443 ⟨Nat.le_of_ble_eq_true rfl, Nat.le_of_ble_eq_true rfl⟩ (fun H locs hP hD hS => ?_)
  have E := a_type hR (pk_nc (xs (i + 1)))
  exact lv_icmp_eq (tgt := 932) hx hb dL_law_446 (by decide) (fun _ => hB _ _ H locs E.2 hP hD hS ls hl) (fun c0 => absurd E.1 c0)
set_option maxHeartbeats 4000000 in
set_option maxRecDepth 100000 in
theorem law_clearText {p : Program} {l : Launch} {e : Env} {s : State} {m : MethodId} {below : List Frame} {meth : Method} {c : Code} {A : Nat → Prop} {b L i : Nat} {xs : Nat → Int32} {D : va_G} {q z h : Nat → Nat} {ad : Nat → Nat → Nat} {Z : State → Prop} (C0 : lwX p l s m meth c A b L i xs D q z) (hB : lwG p l e s m below meth c A b i D q ad h Z 932) : lwG p l e s m below meth c A b i D q ad h Z 451 := by
  obtain ⟨hx, hb, hml, hown, hts, hX, hbl, hbA, hL, hi, hG, hZ⟩ := C0
  intro xx x H locs hR hP hD hS ls hl
  refine lv_aload_n hx hb dL_law_451 rfl (lv_at hl 1 rfl) ?_
  refine law_mX (v := .int (mX5_clearText xx ).1) (xx' := (mX5_clearText xx ).2) (rest := []) (As := []) hx hb hml hown hts hl (MX5_clearText l D q ad xx  ) gL_law_X5_clearText rfl kX5_clearText ⟨Nat.le_of_ble_eq_true rfl, Nat.le_of_ble_eq_true rfl⟩ rfl rfl hP hD hS hG rfl rfl (Nat.le_of_ble_eq_true rfl) dL_law_452 ⟨Nat.le_of_ble_eq_true rfl, Nat.le_of_ble_eq_true rfl⟩ (fun H locs hP hD hS => ?_)
  refine lv_aload_n hx hb dL_law_455 rfl (lv_at hl 2 rfl) ?_
  refine law_mM (v := .int (mX6_clearText x ).1) (x' := (mX6_clearText x ).2) (rest := [.int (mX5_clearText xx ).1]) (As := []) hx hb hml hown hts hl (MX6_clearText l D q h x  ) gL_law_X6_clearText rfl kX6_clearText ⟨Nat.le_of_ble_eq_true rfl, Nat.le_of_ble_eq_true rfl⟩ rfl rfl hP hD hS hG rfl rfl (Nat.le_of_ble_eq_true rfl) dL_law_456 ⟨Nat.le_of_ble_eq_true rfl, Nat.le_of_ble_eq_true rfl⟩ (fun H locs hP hD hS => ?_)
  have E := a_clearText hR
  exact lv_icmp_eq (tgt := 932) hx hb dL_law_459 (by decide) (fun _ => hB _ _ H locs E.2 hP hD hS ls hl) (fun c0 => absurd E.1 c0)
set_option maxHeartbeats 4000000 in
set_option maxRecDepth 100000 in
theorem law_fault {p : Program} {l : Launch} {e : Env} {s : State} {m : MethodId} {below : List Frame} {meth : Method} {c : Code} {A : Nat → Prop} {b L i : Nat} {xs : Nat → Int32} {D : va_G} {q z h : Nat → Nat} {ad : Nat → Nat → Nat} {Z : State → Prop} (C0 : lwX p l s m meth c A b L i xs D q z) (hB : lwG p l e s m below meth c A b i D q ad h Z 932) : lwG p l e s m below meth c A b i D q ad h Z 464 := by
  obtain ⟨hx, hb, hml, hown, hts, hX, hbl, hbA, hL, hi, hG, hZ⟩ := C0
  intro xx x H locs hR hP hD hS ls hl
  refine lv_aload_n hx hb dL_law_464 rfl (lv_at hl 1 rfl) ?_
  refine law_rX (v := .int (mX5_fault xx )) (rest := []) (As := []) hx hb hml hown hts hl (MX5_fault l D q ad xx  (rr_ch hR)) gL_law_X5_fault rfl kX5_fault ⟨Nat.le_of_ble_eq_true rfl, Nat.le_of_ble_eq_true rfl⟩ rfl rfl hP hD hG rfl rfl (Nat.le_of_ble_eq_true rfl) dL_law_465 ⟨Nat.le_of_ble_eq_true rfl, Nat.le_of_ble_eq_true rfl⟩ ?_
  refine lv_aload_n hx hb dL_law_468 rfl (lv_at hl 2 rfl) ?_
  refine law_rM (v := .int (mX6_fault x )) (rest := [.int (mX5_fault xx )]) (As := []) hx hb hml hown hts hl (MX6_fault l D q h x  (rr_len hR)) gL_law_X6_fault rfl kX6_fault ⟨Nat.le_of_ble_eq_true rfl, Nat.le_of_ble_eq_true rfl⟩ rfl rfl hP hD hG rfl rfl (Nat.le_of_ble_eq_true rfl) dL_law_469 ⟨Nat.le_of_ble_eq_true rfl, Nat.le_of_ble_eq_true rfl⟩ ?_
  exact lv_icmp_eq (tgt := 932) hx hb dL_law_472 (by decide) (fun _ => hB xx x H locs hR hP hD hS ls hl) (fun c0 => absurd (t_fault hR ) c0)
set_option maxHeartbeats 4000000 in
set_option maxRecDepth 100000 in
theorem law_undo {p : Program} {l : Launch} {e : Env} {s : State} {m : MethodId} {below : List Frame} {meth : Method} {c : Code} {A : Nat → Prop} {b L i : Nat} {xs : Nat → Int32} {D : va_G} {q z h : Nat → Nat} {ad : Nat → Nat → Nat} {Z : State → Prop} (C0 : lwX p l s m meth c A b L i xs D q z) (hB : lwG p l e s m below meth c A b i D q ad h Z 932) : lwG p l e s m below meth c A b i D q ad h Z 477 := by
  obtain ⟨hx, hb, hml, hown, hts, hX, hbl, hbA, hL, hi, hG, hZ⟩ := C0
  intro xx x H locs hR hP hD hS ls hl
  refine lv_aload_n hx hb dL_law_477 rfl (lv_at hl 1 rfl) ?_
  refine law_mX (v := .int (mX5_undo xx ).1) (xx' := (mX5_undo xx ).2) (rest := []) (As := []) hx hb hml hown hts hl (MX5_undo l D q ad xx  (rr_rg hR)) gL_law_X5_undo rfl kX5_undo ⟨Nat.le_of_ble_eq_true rfl, Nat.le_of_ble_eq_true rfl⟩ rfl rfl hP hD hS hG rfl rfl (Nat.le_of_ble_eq_true rfl) dL_law_478 ⟨Nat.le_of_ble_eq_true rfl, Nat.le_of_ble_eq_true rfl⟩ (fun H locs hP hD hS => ?_)
  refine lv_aload_n hx hb dL_law_481 rfl (lv_at hl 2 rfl) ?_
  refine law_mM (v := .int (mX6_undo x ).1) (x' := (mX6_undo x ).2) (rest := [.int (mX5_undo xx ).1]) (As := []) hx hb hml hown hts hl (MX6_undo l D q h x  (rr_kn hR)) gL_law_X6_undo rfl kX6_undo ⟨Nat.le_of_ble_eq_true rfl, Nat.le_of_ble_eq_true rfl⟩ rfl rfl hP hD hS hG rfl rfl (Nat.le_of_ble_eq_true rfl) dL_law_482 ⟨Nat.le_of_ble_eq_true rfl, Nat.le_of_ble_eq_true rfl⟩ (fun H locs hP hD hS => ?_)
  have E := a_undo hR
  exact lv_icmp_eq (tgt := 932) hx hb dL_law_485 (by decide) (fun _ => hB _ _ H locs E.2 hP hD hS ls hl) (fun c0 => absurd E.1 c0)
set_option maxHeartbeats 4000000 in
set_option maxRecDepth 100000 in
theorem law_keep {p : Program} {l : Launch} {e : Env} {s : State} {m : MethodId} {below : List Frame} {meth : Method} {c : Code} {A : Nat → Prop} {b L i : Nat} {xs : Nat → Int32} {D : va_G} {q z h : Nat → Nat} {ad : Nat → Nat → Nat} {Z : State → Prop} (C0 : lwX p l s m meth c A b L i xs D q z) (hB : lwG p l e s m below meth c A b i D q ad h Z 932) : lwG p l e s m below meth c A b i D q ad h Z 490 := by
  obtain ⟨hx, hb, hml, hown, hts, hX, hbl, hbA, hL, hi, hG, hZ⟩ := C0
  intro xx x H locs hR hP hD hS ls hl
  refine lv_aload_n hx hb dL_law_490 rfl (lv_at hl 1 rfl) ?_
  refine law_mX (v := .int (mX5_keep xx ).1) (xx' := (mX5_keep xx ).2) (rest := []) (As := []) hx hb hml hown hts hl (MX5_keep l D q ad xx  ) gL_law_X5_keep rfl kX5_keep ⟨Nat.le_of_ble_eq_true rfl, Nat.le_of_ble_eq_true rfl⟩ rfl rfl hP hD hS hG rfl rfl (Nat.le_of_ble_eq_true rfl) dL_law_491 ⟨Nat.le_of_ble_eq_true rfl, Nat.le_of_ble_eq_true rfl⟩ (fun H locs hP hD hS => ?_)
  refine lv_aload_n hx hb dL_law_494 rfl (lv_at hl 2 rfl) ?_
  refine law_mM (v := .int (mX6_keep x ).1) (x' := (mX6_keep x ).2) (rest := [.int (mX5_keep xx ).1]) (As := []) hx hb hml hown hts hl (MX6_keep l D q h x  ) gL_law_X6_keep rfl kX6_keep ⟨Nat.le_of_ble_eq_true rfl, Nat.le_of_ble_eq_true rfl⟩ rfl rfl hP hD hS hG rfl rfl (Nat.le_of_ble_eq_true rfl) dL_law_495 ⟨Nat.le_of_ble_eq_true rfl, Nat.le_of_ble_eq_true rfl⟩ (fun H locs hP hD hS => ?_)
  have E := a_keep hR
  exact lv_icmp_eq (tgt := 932) hx hb dL_law_498 (by decide) (fun _ => hB _ _ H locs E.2 hP hD hS ls hl) (fun c0 => absurd E.1 c0)
set_option maxHeartbeats 4000000 in
set_option maxRecDepth 100000 in
theorem law_restore {p : Program} {l : Launch} {e : Env} {s : State} {m : MethodId} {below : List Frame} {meth : Method} {c : Code} {A : Nat → Prop} {b L i : Nat} {xs : Nat → Int32} {D : va_G} {q z h : Nat → Nat} {ad : Nat → Nat → Nat} {Z : State → Prop} (C0 : lwX p l s m meth c A b L i xs D q z) (hB : lwG p l e s m below meth c A b i D q ad h Z 932) : lwG p l e s m below meth c A b i D q ad h Z 503 := by
  obtain ⟨hx, hb, hml, hown, hts, hX, hbl, hbA, hL, hi, hG, hZ⟩ := C0
  intro xx x H locs hR hP hD hS ls hl
  refine lv_aload_n hx hb dL_law_503 rfl (lv_at hl 1 rfl) ?_
  refine law_mX (v := .int (mX5_restore xx ).1) (xx' := (mX5_restore xx ).2) (rest := []) (As := []) hx hb hml hown hts hl (MX5_restore l D q ad xx  (rr_rg hR)) gL_law_X5_restore rfl kX5_restore ⟨Nat.le_of_ble_eq_true rfl, Nat.le_of_ble_eq_true rfl⟩ rfl rfl hP hD hS hG rfl rfl (Nat.le_of_ble_eq_true rfl) dL_law_504 ⟨Nat.le_of_ble_eq_true rfl, Nat.le_of_ble_eq_true rfl⟩ (fun H locs hP hD hS => ?_)
  refine lv_aload_n hx hb dL_law_507 rfl (lv_at hl 2 rfl) ?_
  refine law_mM (v := .int (mX6_restore x ).1) (x' := (mX6_restore x ).2) (rest := [.int (mX5_restore xx ).1]) (As := []) hx hb hml hown hts hl (MX6_restore l D q h x  (rr_kn hR)) gL_law_X6_restore rfl kX6_restore ⟨Nat.le_of_ble_eq_true rfl, Nat.le_of_ble_eq_true rfl⟩ rfl rfl hP hD hS hG rfl rfl (Nat.le_of_ble_eq_true rfl) dL_law_508 ⟨Nat.le_of_ble_eq_true rfl, Nat.le_of_ble_eq_true rfl⟩ (fun H locs hP hD hS => ?_)
  have E := a_restore hR
  exact lv_icmp_eq (tgt := 932) hx hb dL_law_511 (by decide) (fun _ => hB _ _ H locs E.2 hP hD hS ls hl) (fun c0 => absurd E.1 c0)
