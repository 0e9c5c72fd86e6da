/-! LAYER 3, 6c: the law, case by case. -/
set_option maxHeartbeats 4000000 in
set_option maxRecDepth 100000 in
theorem law_yardOf {p : Program} {l : Launch} {e : Env} {s : State} {m : MethodId} {below : List Frame} {meth : Method} {c : Code} {A : Nat → Prop} {b L i : Nat} {xs : Nat → Int32} {D : va_G} {q z h : Nat → Nat} {ad : Nat → Nat → Nat} {Z : State → Prop} (C0 : lwX p l s m meth c A b L i xs D q z) (hB : lwG p l e s m below meth c A b i D q ad h Z 932) : lwG p l e s m below meth c A b i D q ad h Z 516 := by
  obtain ⟨hx, hb, hml, hown, hts, hX, hbl, hbA, hL, hi, hG, hZ⟩ := C0
  intro xx x H locs hR hP hD hS ls hl
  refine lv_aload_n hx hb dL_law_516 rfl (lv_at hl 1 rfl) ?_
  refine lw_rd (k := 1) (b := b) (o1 := ad 9 0) (o2 := h 0) hx hb hX hbl hbA hL hl hS (by decide) (by omega) dL_law_517 dL_law_518 dL_law_519 dL_law_520 dL_law_521 ?_
  refine lw_rd (k := 2) (b := b) (o1 := ad 9 0) (o2 := h 0) hx hb hX hbl hbA hL hl hS (by decide) (by omega) dL_law_522 dL_law_523 dL_law_524 dL_law_525 dL_law_526 ?_
  refine law_rN (v := .int (mX5_yardOf (xx 0) (xs (i + 1)) (xs (i + 2)))) (rest := []) (As := [.int (xs (i + 1)), .int (xs (i + 2))]) hx hb hml hown hts hl (MX5_yardOf l D q ad (xx 9 0 0) (xx 0) (xs (i + 1)) (xs (i + 2)) ) gL_law_X5_yardOf rfl kX5_yardOf ⟨Nat.le_of_ble_eq_true rfl, Nat.le_of_ble_eq_true rfl⟩ rfl rfl hP hD hG rfl rfl (Nat.le_of_ble_eq_true rfl) dL_law_527 ⟨Nat.le_of_ble_eq_true rfl, Nat.le_of_ble_eq_true rfl⟩ ?_
  refine lv_aload_n hx hb dL_law_530 rfl (lv_at hl 2 rfl) ?_
  refine lw_rd (k := 1) (b := b) (o1 := ad 9 0) (o2 := h 0) hx hb hX hbl hbA hL hl hS (by decide) (by omega) dL_law_531 dL_law_532 dL_law_533 dL_law_534 dL_law_535 ?_
  refine lw_rd (k := 2) (b := b) (o1 := ad 9 0) (o2 := h 0) hx hb hX hbl hbA hL hl hS (by decide) (by omega) dL_law_536 dL_law_537 dL_law_538 dL_law_539 dL_law_540 ?_
  refine law_rM (v := .int (mX6_yardOf x (xs (i + 1)) (xs (i + 2)))) (rest := [.int (mX5_yardOf (xx 0) (xs (i + 1)) (xs (i + 2)))]) (As := [.int (xs (i + 1)), .int (xs (i + 2))]) hx hb hml hown hts hl (MX6_yardOf l D q h x (xs (i + 1)) (xs (i + 2)) (rr_cnt hR)) gL_law_X6_yardOf rfl kX6_yardOf ⟨Nat.le_of_ble_eq_true rfl, Nat.le_of_ble_eq_true rfl⟩ rfl rfl hP hD hG rfl rfl (Nat.le_of_ble_eq_true rfl) dL_law_541 ⟨Nat.le_of_ble_eq_true rfl, Nat.le_of_ble_eq_true rfl⟩ ?_
  exact lv_icmp_eq (tgt := 932) hx hb dL_law_544 (by decide) (fun _ => hB xx x H locs hR hP hD hS ls hl) (fun c0 => absurd (p_yardOf (rr_R hR) (rr_o2 hR) (xs (i + 1)) (xs (i + 2))) c0)
set_option maxHeartbeats 4000000 in
set_option maxRecDepth 100000 in
theorem law_millOf {p : Program} {l : Launch} {e : Env} {s : State} {m : MethodId} {below : List Frame} {meth : Method} {c : Code} {A : Nat → Prop} {b L i : Nat} {xs : Nat → Int32} {D : va_G} {q z h : Nat → Nat} {ad : Nat → Nat → Nat} {Z : State → Prop} (C0 : lwX p l s m meth c A b L i xs D q z) (hB : lwG p l e s m below meth c A b i D q ad h Z 932) : lwG p l e s m below meth c A b i D q ad h Z 549 := by
  obtain ⟨hx, hb, hml, hown, hts, hX, hbl, hbA, hL, hi, hG, hZ⟩ := C0
  intro xx x H locs hR hP hD hS ls hl
  refine lv_aload_n hx hb dL_law_549 rfl (lv_at hl 1 rfl) ?_
  refine lw_rd (k := 1) (b := b) (o1 := ad 9 0) (o2 := h 0) hx hb hX hbl hbA hL hl hS (by decide) (by omega) dL_law_550 dL_law_551 dL_law_552 dL_law_553 dL_law_554 ?_
  refine lw_rd (k := 2) (b := b) (o1 := ad 9 0) (o2 := h 0) hx hb hX hbl hbA hL hl hS (by decide) (by omega) dL_law_555 dL_law_556 dL_law_557 dL_law_558 dL_law_559 ?_
  refine law_rN (v := .int (mX5_millOf (xx 0) (xs (i + 1)) (xs (i + 2)))) (rest := []) (As := [.int (xs (i + 1)), .int (xs (i + 2))]) hx hb hml hown hts hl (MX5_millOf l D q ad (xx 9 0 0) (xx 0) (xs (i + 1)) (xs (i + 2)) ) gL_law_X5_millOf rfl kX5_millOf ⟨Nat.le_of_ble_eq_true rfl, Nat.le_of_ble_eq_true rfl⟩ rfl rfl hP hD hG rfl rfl (Nat.le_of_ble_eq_true rfl) dL_law_560 ⟨Nat.le_of_ble_eq_true rfl, Nat.le_of_ble_eq_true rfl⟩ ?_
  refine lv_aload_n hx hb dL_law_563 rfl (lv_at hl 2 rfl) ?_
  refine lw_rd (k := 1) (b := b) (o1 := ad 9 0) (o2 := h 0) hx hb hX hbl hbA hL hl hS (by decide) (by omega) dL_law_564 dL_law_565 dL_law_566 dL_law_567 dL_law_568 ?_
  refine lw_rd (k := 2) (b := b) (o1 := ad 9 0) (o2 := h 0) hx hb hX hbl hbA hL hl hS (by decide) (by omega) dL_law_569 dL_law_570 dL_law_571 dL_law_572 dL_law_573 ?_
  refine law_rM (v := .int (mX6_millOf x (xs (i + 1)) (xs (i + 2)))) (rest := [.int (mX5_millOf (xx 0) (xs (i + 1)) (xs (i + 2)))]) (As := [.int (xs (i + 1)), .int (xs (i + 2))]) hx hb hml hown hts hl (MX6_millOf l D q h x (xs (i + 1)) (xs (i + 2)) (rr_cnt hR)) gL_law_X6_millOf rfl kX6_millOf ⟨Nat.le_of_ble_eq_true rfl, Nat.le_of_ble_eq_true rfl⟩ rfl rfl hP hD hG rfl rfl (Nat.le_of_ble_eq_true rfl) dL_law_574 ⟨Nat.le_of_ble_eq_true rfl, Nat.le_of_ble_eq_true rfl⟩ ?_
  exact lv_icmp_eq (tgt := 932) hx hb dL_law_577 (by decide) (fun _ => hB xx x H locs hR hP hD hS ls hl) (fun c0 => absurd (p_millOf (rr_R hR) (rr_o2 hR) (xs (i + 1)) (xs (i + 2))) c0)
set_option maxHeartbeats 4000000 in
set_option maxRecDepth 100000 in
theorem law_houseOf {p : Program} {l : Launch} {e : Env} {s : State} {m : MethodId} {below : List Frame} {meth : Method} {c : Code} {A : Nat → Prop} {b L i : Nat} {xs : Nat → Int32} {D : va_G} {q z h : Nat → Nat} {ad : Nat → Nat → Nat} {Z : State → Prop} (C0 : lwX p l s m meth c A b L i xs D q z) (hB : lwG p l e s m below meth c A b i D q ad h Z 932) : lwG p l e s m below meth c A b i D q ad h Z 582 := by
  obtain ⟨hx, hb, hml, hown, hts, hX, hbl, hbA, hL, hi, hG, hZ⟩ := C0
  intro xx x H locs hR hP hD hS ls hl
  refine lv_aload_n hx hb dL_law_582 rfl (lv_at hl 1 rfl) ?_
  refine lw_rd (k := 1) (b := b) (o1 := ad 9 0) (o2 := h 0) hx hb hX hbl hbA hL hl hS (by decide) (by omega) dL_law_583 dL_law_584 dL_law_585 dL_law_586 dL_law_587 ?_
  refine lw_rd (k := 2) (b := b) (o1 := ad 9 0) (o2 := h 0) hx hb hX hbl hbA hL hl hS (by decide) (by omega) dL_law_588 dL_law_589 dL_law_590 dL_law_591 dL_law_592 ?_
  refine law_rN (v := .int (mX5_houseOf (xx 0) (xs (i + 1)) (xs (i + 2)))) (rest := []) (As := [.int (xs (i + 1)), .int (xs (i + 2))]) hx hb hml hown hts hl (MX5_houseOf l D q ad (xx 9 0 0) (xx 0) (xs (i + 1)) (xs (i + 2)) ) gL_law_X5_houseOf rfl kX5_houseOf ⟨Nat.le_of_ble_eq_true rfl, Nat.le_of_ble_eq_true rfl⟩ rfl rfl hP hD hG rfl rfl (Nat.le_of_ble_eq_true rfl) dL_law_593 ⟨Nat.le_of_ble_eq_true rfl, Nat.le_of_ble_eq_true rfl⟩ ?_
  refine lv_aload_n hx hb dL_law_596 rfl (lv_at hl 2 rfl) ?_
  refine lw_rd (k := 1) (b := b) (o1 := ad 9 0) (o2 := h 0) hx hb hX hbl hbA hL hl hS (by decide) (by omega) dL_law_597 dL_law_598 dL_law_599 dL_law_600 dL_law_601 ?_
  refine lw_rd (k := 2) (b := b) (o1 := ad 9 0) (o2 := h 0) hx hb hX hbl hbA hL hl hS (by decide) (by omega) dL_law_602 dL_law_603 dL_law_604 dL_law_605 dL_law_606 ?_
  refine law_rM (v := .int (mX6_houseOf x (xs (i + 1)) (xs (i + 2)))) (rest := [.int (mX5_houseOf (xx 0) (xs (i + 1)) (xs (i + 2)))]) (As := [.int (xs (i + 1)), .int (xs (i + 2))]) hx hb hml hown hts hl (MX6_houseOf l D q h x (xs (i + 1)) (xs (i + 2)) (rr_cnt hR)) gL_law_X6_houseOf rfl kX6_houseOf ⟨Nat.le_of_ble_eq_true rfl, Nat.le_of_ble_eq_true rfl⟩ rfl rfl hP hD hG rfl rfl (Nat.le_of_ble_eq_true rfl) dL_law_607 ⟨Nat.le_of_ble_eq_true rfl, Nat.le_of_ble_eq_true rfl⟩ ?_
  exact lv_icmp_eq (tgt := 932) hx hb dL_law_610 (by decide) (fun _ => hB xx x H locs hR hP hD hS ls hl) (fun c0 => absurd (p_houseOf (rr_R hR) (rr_o2 hR) (xs (i + 1)) (xs (i + 2))) c0)
set_option maxHeartbeats 4000000 in
set_option maxRecDepth 100000 in
theorem law_noise {p : Program} {l : Launch} {e : Env} {s : State} {m : MethodId} {below : List Frame} {meth : Method} {c : Code} {A : Nat → Prop} {b L i : Nat} {xs : Nat → Int32} {D : va_G} {q z h : Nat → Nat} {ad : Nat → Nat → Nat} {Z : State → Prop} (C0 : lwX p l s m meth c A b L i xs D q z) (hB : lwG p l e s m below meth c A b i D q ad h Z 932) : lwG p l e s m below meth c A b i D q ad h Z 615 := by
  obtain ⟨hx, hb, hml, hown, hts, hX, hbl, hbA, hL, hi, hG, hZ⟩ := C0
  intro xx x H locs hR hP hD hS ls hl
  refine lv_aload_n hx hb dL_law_615 rfl (lv_at hl 1 rfl) ?_
  refine lw_rd (k := 1) (b := b) (o1 := ad 9 0) (o2 := h 0) hx hb hX hbl hbA hL hl hS (by decide) (by omega) dL_law_616 dL_law_617 dL_law_618 dL_law_619 dL_law_620 ?_
  refine lw_rd (k := 2) (b := b) (o1 := ad 9 0) (o2 := h 0) hx hb hX hbl hbA hL hl hS (by decide) (by omega) dL_law_621 dL_law_622 dL_law_623 dL_law_624 dL_law_625 ?_
  refine lw_rd (k := 3) (b := b) (o1 := ad 9 0) (o2 := h 0) hx hb hX hbl hbA hL hl hS (by decide) (by omega) dL_law_626 dL_law_627 dL_law_628 dL_law_629 dL_law_630 ?_
  refine law_rN (v := .int (mX5_noise (xx 0) (xs (i + 1)) (xs (i + 2)) (xs (i + 3)))) (rest := []) (As := [.int (xs (i + 1)), .int (xs (i + 2)), .int (xs (i + 3))]) hx hb hml hown hts hl (MX5_noise l D q ad (xx 9 0 0) (xx 0) (xs (i + 1)) (xs (i + 2)) (xs (i + 3)) ) gL_law_X5_noise rfl kX5_noise ⟨Nat.le_of_ble_eq_true rfl, Nat.le_of_ble_eq_true rfl⟩ rfl rfl hP hD hG rfl rfl (Nat.le_of_ble_eq_true rfl) dL_law_631 ⟨Nat.le_of_ble_eq_true rfl, Nat.le_of_ble_eq_true rfl⟩ ?_
  refine lv_aload_n hx hb dL_law_634 rfl (lv_at hl 2 rfl) ?_
  refine lw_rd (k := 1) (b := b) (o1 := ad 9 0) (o2 := h 0) hx hb hX hbl hbA hL hl hS (by decide) (by omega) dL_law_635 dL_law_636 dL_law_637 dL_law_638 dL_law_639 ?_
  refine lw_rd (k := 2) (b := b) (o1 := ad 9 0) (o2 := h 0) hx hb hX hbl hbA hL hl hS (by decide) (by omega) dL_law_640 dL_law_641 dL_law_642 dL_law_643 dL_law_644 ?_
  refine lw_rd (k := 3) (b := b) (o1 := ad 9 0) (o2 := h 0) hx hb hX hbl hbA hL hl hS (by decide) (by omega) dL_law_645 dL_law_646 dL_law_647 dL_law_648 dL_law_649 ?_
  refine law_rM (v := .int (mX6_noise x (xs (i + 1)) (xs (i + 2)) (xs (i + 3)))) (rest := [.int (mX5_noise (xx 0) (xs (i + 1)) (xs (i + 2)) (xs (i + 3)))]) (As := [.int (xs (i + 1)), .int (xs (i + 2)), .int (xs (i + 3))]) hx hb hml hown hts hl (MX6_noise l D q h x (xs (i + 1)) (xs (i + 2)) (xs (i + 3)) (rr_cnt hR)) gL_law_X6_noise rfl kX6_noise ⟨Nat.le_of_ble_eq_true rfl, Nat.le_of_ble_eq_true rfl⟩ rfl rfl hP hD hG rfl rfl (Nat.le_of_ble_eq_true rfl) dL_law_650 ⟨Nat.le_of_ble_eq_true rfl, Nat.le_of_ble_eq_true rfl⟩ ?_
  exact lv_icmp_eq (tgt := 932) hx hb dL_law_653 (by decide) (fun _ => hB xx x H locs hR hP hD hS ls hl) (fun c0 => absurd (p_noise (rr_R hR) (rr_o2 hR) (xs (i + 1)) (xs (i + 2)) (xs (i + 3))) c0)
set_option maxHeartbeats 4000000 in
set_option maxRecDepth 100000 in
theorem law_shadow {p : Program} {l : Launch} {e : Env} {s : State} {m : MethodId} {below : List Frame} {meth : Method} {c : Code} {A : Nat → Prop} {b L i : Nat} {xs : Nat → Int32} {D : va_G} {q z h : Nat → Nat} {ad : Nat → Nat → Nat} {Z : State → Prop} (C0 : lwX p l s m meth c A b L i xs D q z) (hB : lwG p l e s m below meth c A b i D q ad h Z 932) : lwG p l e s m below meth c A b i D q ad h Z 658 := by
  obtain ⟨hx, hb, hml, hown, hts, hX, hbl, hbA, hL, hi, hG, hZ⟩ := C0
  intro xx x H locs hR hP hD hS ls hl
  refine lv_aload_n hx hb dL_law_658 rfl (lv_at hl 1 rfl) ?_
  refine lw_rd (k := 1) (b := b) (o1 := ad 9 0) (o2 := h 0) hx hb hX hbl hbA hL hl hS (by decide) (by omega) dL_law_659 dL_law_660 dL_law_661 dL_law_662 dL_law_663 ?_
  refine lw_rd (k := 2) (b := b) (o1 := ad 9 0) (o2 := h 0) hx hb hX hbl hbA hL hl hS (by decide) (by omega) dL_law_664 dL_law_665 dL_law_666 dL_law_667 dL_law_668 ?_
  refine lw_rd (k := 3) (b := b) (o1 := ad 9 0) (o2 := h 0) hx hb hX hbl hbA hL hl hS (by decide) (by omega) dL_law_669 dL_law_670 dL_law_671 dL_law_672 dL_law_673 ?_
  refine lw_rd (k := 4) (b := b) (o1 := ad 9 0) (o2 := h 0) hx hb hX hbl hbA hL hl hS (by decide) (by omega) dL_law_674 dL_law_675 dL_law_676 dL_law_677 dL_law_678 ?_
  refine law_rN (v := .int (mX5_shadow (xx 0) (xs (i + 1)) (xs (i + 2)) (xs (i + 3)) (xs (i + 4)))) (rest := []) (As := [.int (xs (i + 1)), .int (xs (i + 2)), .int (xs (i + 3)), .int (xs (i + 4))]) hx hb hml hown hts hl (MX5_shadow l D q ad (xx 9 0 0) (xx 0) (xs (i + 1)) (xs (i + 2)) (xs (i + 3)) (xs (i + 4)) ) gL_law_X5_shadow rfl kX5_shadow ⟨Nat.le_of_ble_eq_true rfl, Nat.le_of_ble_eq_true rfl⟩ rfl rfl hP hD hG rfl rfl (Nat.le_of_ble_eq_true rfl) dL_law_679 ⟨Nat.le_of_ble_eq_true rfl, Nat.le_of_ble_eq_true rfl⟩ ?_
  refine lv_aload_n hx hb dL_law_682 rfl (lv_at hl 2 rfl) ?_
  refine lw_rd (k := 1) (b := b) (o1 := ad 9 0) (o2 := h 0) hx hb hX hbl hbA hL hl hS (by decide) (by omega) dL_law_683 dL_law_684 dL_law_685 dL_law_686 dL_law_687 ?_
  refine lw_rd (k := 2) (b := b) (o1 := ad 9 0) (o2 := h 0) hx hb hX hbl hbA hL hl hS (by decide) (by omega) dL_law_688 dL_law_689 dL_law_690 dL_law_691 dL_law_692 ?_
  refine lw_rd (k := 3) (b := b) (o1 := ad 9 0) (o2 := h 0) hx hb hX hbl hbA hL hl hS (by decide) (by omega) dL_law_693 dL_law_694 dL_law_695 dL_law_696 dL_law_697 ?_
  refine lw_rd (k := 4) (b := b) (o1 := ad 9 0) (o2 := h 0) hx hb hX hbl hbA hL hl hS (by decide) (by omega) dL_law_698 dL_law_699 dL_law_700 dL_law_701 dL_law_702 ?_
  refine law_rM (v := .int (mX6_shadow x (xs (i + 1)) (xs (i + 2)) (xs (i + 3)) (xs (i + 4)))) (rest := [.int (mX5_shadow (xx 0) (xs (i + 1)) (xs (i + 2)) (xs (i + 3)) (xs (i + 4)))]) (As := [.int (xs (i + 1)), .int (xs (i + 2)), .int (xs (i + 3)), .int (xs (i + 4))]) hx hb hml hown hts hl (MX6_shadow l D q h x (xs (i + 1)) (xs (i + 2)) (xs (i + 3)) (xs (i + 4)) (rr_cnt hR)) gL_law_X6_shadow rfl kX6_shadow ⟨Nat.le_of_ble_eq_true rfl, Nat.le_of_ble_eq_true rfl⟩ rfl rfl hP hD hG rfl rfl (Nat.le_of_ble_eq_true rfl) dL_law_703 ⟨Nat.le_of_ble_eq_true rfl, Nat.le_of_ble_eq_true rfl⟩ ?_
  exact lv_icmp_eq (tgt := 932) hx hb dL_law_706 (by decide) (fun _ => hB xx x H locs hR hP hD hS ls hl) (fun c0 => absurd (p_shadow (rr_R hR) (rr_o2 hR) (xs (i + 1)) (xs (i + 2)) (xs (i + 3)) (xs (i + 4))) c0)
set_option maxHeartbeats 4000000 in
set_option maxRecDepth 100000 in
theorem law_why {p : Program} {l : Launch} {e : Env} {s : State} {m : MethodId} {below : List Frame} {meth : Method} {c : Code} {A : Nat → Prop} {b L i : Nat} {xs : Nat → Int32} {D : va_G} {q z h : Nat → Nat} {ad : Nat → Nat → Nat} {Z : State → Prop} (C0 : lwX p l s m meth c A b L i xs D q z) (hB : lwG p l e s m below meth c A b i D q ad h Z 932) : lwG p l e s m below meth c A b i D q ad h Z 711 := by
  obtain ⟨hx, hb, hml, hown, hts, hX, hbl, hbA, hL, hi, hG, hZ⟩ := C0
  intro xx x H locs hR hP hD hS ls hl
  refine lv_aload_n hx hb dL_law_711 rfl (lv_at hl 1 rfl) ?_
  refine lw_rd (k := 1) (b := b) (o1 := ad 9 0) (o2 := h 0) hx hb hX hbl hbA hL hl hS (by decide) (by omega) dL_law_712 dL_law_713 dL_law_714 dL_law_715 dL_law_716 ?_
  refine lw_rd (k := 2) (b := b) (o1 := ad 9 0) (o2 := h 0) hx hb hX hbl hbA hL hl hS (by decide) (by omega) dL_law_717 dL_law_718 dL_law_719 dL_law_720 dL_law_721 ?_
  refine lw_rd (k := 3) (b := b) (o1 := ad 9 0) (o2 := h 0) hx hb hX hbl hbA hL hl hS (by decide) (by omega) dL_law_722 dL_law_723 dL_law_724 dL_law_725 dL_law_726 ?_
  refine lw_rd (k := 4) (b := b) (o1 := ad 9 0) (o2 := h 0) hx hb hX hbl hbA hL hl hS (by decide) (by omega) dL_law_727 dL_law_728 dL_law_729 dL_law_730 dL_law_731 ?_
  refine law_rN (v := .int (mX5_why (xx 0) (xs (i + 1)) (xs (i + 2)) (xs (i + 3)) (xs (i + 4)))) (rest := []) (As := [.int (xs (i + 1)), .int (xs (i + 2)), .int (xs (i + 3)), .int (xs (i + 4))]) hx hb hml hown hts hl (MX5_why l D q ad (xx 9 0 0) (xx 0) (xs (i + 1)) (xs (i + 2)) (xs (i + 3)) (xs (i + 4)) ) gL_law_X5_why rfl kX5_why ⟨Nat.le_of_ble_eq_true rfl, Nat.le_of_ble_eq_true rfl⟩ rfl rfl hP hD hG rfl rfl (Nat.le_of_ble_eq_true rfl) dL_law_732 ⟨Nat.le_of_ble_eq_true rfl, Nat.le_of_ble_eq_true rfl⟩ ?_
  refine lv_aload_n hx hb dL_law_735 rfl (lv_at hl 2 rfl) ?_
  refine lw_rd (k := 1) (b := b) (o1 := ad 9 0) (o2 := h 0) hx hb hX hbl hbA hL hl hS (by decide) (by omega) dL_law_736 dL_law_737 dL_law_738 dL_law_739 dL_law_740 ?_
  refine lw_rd (k := 2) (b := b) (o1 := ad 9 0) (o2 := h 0) hx hb hX hbl hbA hL hl hS (by decide) (by omega) dL_law_741 dL_law_742 dL_law_743 dL_law_744 dL_law_745 ?_
  refine lw_rd (k := 3) (b := b) (o1 := ad 9 0) (o2 := h 0) hx hb hX hbl hbA hL hl hS (by decide) (by omega) dL_law_746 dL_law_747 dL_law_748 dL_law_749 dL_law_750 ?_
  refine lw_rd (k := 4) (b := b) (o1 := ad 9 0) (o2 := h 0) hx hb hX hbl hbA hL hl hS (by decide) (by omega) dL_law_751 dL_law_752 dL_law_753 dL_law_754 dL_law_755 ?_
  refine law_rM (v := .int (mX6_why x (xs (i + 1)) (xs (i + 2)) (xs (i + 3)) (xs (i + 4)))) (rest := [.int (mX5_why (xx 0) (xs (i + 1)) (xs (i + 2)) (xs (i + 3)) (xs (i + 4)))]) (As := [.int (xs (i + 1)), .int (xs (i + 2)), .int (xs (i + 3)), .int (xs (i + 4))]) hx hb hml hown hts hl (MX6_why l D q h x (xs (i + 1)) (xs (i + 2)) (xs (i + 3)) (xs (i + 4)) (rr_cnt hR)) gL_law_X6_why rfl kX6_why ⟨Nat.le_of_ble_eq_true rfl, Nat.le_of_ble_eq_true rfl⟩ rfl rfl hP hD hG rfl rfl (Nat.le_of_ble_eq_true rfl) dL_law_756 ⟨Nat.le_of_ble_eq_true rfl, Nat.le_of_ble_eq_true rfl⟩ ?_
  exact lv_icmp_eq (tgt := 932) hx hb dL_law_759 (by decide) (fun _ => hB xx x H locs hR hP hD hS ls hl) (fun c0 => absurd (p_why (rr_R hR) (rr_o2 hR) (xs (i + 1)) (xs (i + 2)) (xs (i + 3)) (xs (i + 4))) c0)
