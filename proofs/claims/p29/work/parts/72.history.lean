/-! LAYER 3, 3: the history. -/
set_option maxHeartbeats 4000000 in
set_option maxRecDepth 100000 in
theorem MX1_init (l : Launch) (D : va_G) (q : Nat → ClassId) (h0 sz z : Nat) : mkM l D q yX1_init wsX1_init ({ frames := 2, cells := 41, slots := 632, locals := 43 } : Room) h0 (.inr (0, [.null, .int 0, .int 0])) sz z 41 632 (fun w => ∃ ad : Nat → Nat → Nat, ad 8 0 = h0 ∧ w = wHo q ad xI ++ (wV q (ad 3) vI ++ (wV q (ad 4) vI ++ (wV q (ad 5) vI ++ wV q (ad 6) vI)))) := by
  refine mkM.of (cc := cX1_init) (maxL := 2) (by decide) rfl (Nat.le_of_ble_eq_true rfl) rfl ?_
  intro p e s m below meth c ls A hx hb hr hk hml hown hts hin hP hD hG hAe hA hZ hl
  have hS : va_S A s.heap s.heap [] := va_S.rf
  have hl : lv_has ls 2 [(0, .ref h0)] := hl
  refine lv_aload_n hx hb dX1_init_0 rfl (lv_at hl 0 rfl) ?_
  refine W.objInit hx hb hown (hts (.methodLink RX1 3 objectInit) (List.mem_of_getElem? (i := 1) rfl)) (hts (.instanceMethod objectInit) (List.mem_of_getElem? (i := 2) rfl)) (hts (.code objectInit ⟨#[0xb1]⟩ 1 none) (List.mem_of_getElem? (i := 3) rfl)) rfl (by rw [hml]; exact hl.1) rfl dX1_init_1 (Nat.le_of_ble_eq_true rfl) (Nat.le_of_ble_eq_true rfl) ?_
  refine W.eq (g2 := F0 m 4 ls []) rfl ?_
  refine lv_aload_n hx hb dX1_init_4 rfl (lv_at hl 0 rfl) ?_
  refine lv_iconst (v := 4) hx hb dX1_init_5 (by decide) ?_
  refine va_newq hx hb hown (hts (.classLink RX1 9 RX4) (List.mem_of_getElem? (i := 4) rfl)) hZ.2.2 hG.1 hP hD hS hA (by decide) rfl (Nat.le_of_ble_eq_true rfl) (Nat.le_of_ble_eq_true rfl) (Nat.le_of_ble_eq_true rfl) dX1_init_6 (fun q1 cA H hK hP hD hS => ?_)
  obtain rfl : cA = q 2 := samO hK
  have hP : va_P D vwCl [(h0, .inr (0, [.null, .int 0, .int 0])), (q1, .inl (q 2, 4, .inr (.inr (.inr (.inr (fun _ => none))))))] H := hP
  have hD : va_D A [(h0, .inr (0, [.null, .int 0, .int 0])), (q1, .inl (q 2, 4, .inr (.inr (.inr (.inr (fun _ => none))))))] := hD
  refine va_putF (D := D) (ci := 0) (v := .ref q1) (ty := .array (.object "MillComplaints$Village")) (C := RX1) (T := TX1) (N := 3) hx hb hts (fun w h => List.mem_cons_of_mem _ (List.mem_append_left _ (List.mem_append_right _ h))) tyX1 tyX1_ok nmX1 hown hG.1 hP hD hS 0 rfl rfl 0 (by decide) (hts (.fieldLink RX1 11 "MillComplaints$History" "states" "[LMillComplaints$Village;") (List.mem_of_getElem? (i := 5) rfl)) (fun _ h9 => h9) rfl hin rfl (by decide +kernel) rfl rfl (Nat.le_of_ble_eq_true rfl) dX1_init_9 (fun H locs hP hD hS => ?_)
  have hP : va_P D vwCl [(h0, .inr (0, [.ref q1, .int 0, .int 0])), (q1, .inl (q 2, 4, .inr (.inr (.inr (.inr (fun _ => none))))))] H := hP
  have hD : va_D A [(h0, .inr (0, [.ref q1, .int 0, .int 0])), (q1, .inl (q 2, 4, .inr (.inr (.inr (.inr (fun _ => none))))))] := hD
  refine lv_iconst (v := 0) hx hb dX1_init_12 (by decide) ?_
  refine lv_istore_n (lv' := [(1, .int 0), (0, .ref h0)]) hx hb dX1_init_13 rfl hl (by decide) rfl (fun ls hl => ?_)
  refine lv_iload_n hx hb dX1_init_14 rfl (lv_at hl 0 rfl) ?_
  refine lv_aload_n hx hb dX1_init_15 rfl (lv_at hl 1 rfl) ?_
  refine va_get (D := D) (ci := 0) (v := .ref q1) (C := RX1) (T := TX1) (N := 3) hx hb hts (fun w h => List.mem_cons_of_mem _ (List.mem_append_left _ (List.mem_append_right _ h))) hown hG.1 hP 0 rfl rfl 0 (by decide) (hts (.fieldLink RX1 11 "MillComplaints$History" "states" "[LMillComplaints$Village;") (List.mem_of_getElem? (i := 5) rfl)) (fun _ h9 => h9) rfl dX1_init_16 ?_
  refine va_alen (v := nI 4) hx hb hG.1 hP 1 2 rfl rfl rfl dX1_init_19 ?_
  refine lv_icmp_ge (tgt := 42) hx hb dX1_init_20 (by decide) (fun c_1 => absurd c_1 (by decide)) (fun c_1 => ?_)
  refine lv_aload_n hx hb dX1_init_23 rfl (lv_at hl 1 rfl) ?_
  refine va_get (D := D) (ci := 0) (v := .ref q1) (C := RX1) (T := TX1) (N := 3) hx hb hts (fun w h => List.mem_cons_of_mem _ (List.mem_append_left _ (List.mem_append_right _ h))) hown hG.1 hP 0 rfl rfl 0 (by decide) (hts (.fieldLink RX1 11 "MillComplaints$History" "states" "[LMillComplaints$Village;") (List.mem_of_getElem? (i := 5) rfl)) (fun _ h9 => h9) rfl dX1_init_24 ?_
  refine lv_iload_n hx hb dX1_init_27 rfl (lv_at hl 0 rfl) ?_
  refine va_new (ci := 2) (fs := [.null, .null, .null, .int 0, .null, .null, .null, .int 0, .null, .null, .null]) (C := RX4) (T := TX4) (N := 11) hx hb hts (fun w h => List.mem_cons_of_mem _ (List.mem_append_right _ h)) tyX4 tyX4_ok hown (hts (.classLink RX1 9 RX4) (List.mem_of_getElem? (i := 4) rfl)) (hts (.instantiable RX4 11) (List.mem_of_getElem? (i := 6) rfl)) (hts (.initialized RX4) (List.mem_of_getElem? (i := 7) rfl)) hG.1 hP hD hS hA rfl (fun j hj => by rcases (show j = 0 ∨ j = 1 ∨ j = 2 ∨ j = 3 ∨ j = 4 ∨ j = 5 ∨ j = 6 ∨ j = 7 ∨ j = 8 ∨ j = 9 ∨ j = 10 by omega) with rfl | rfl | rfl | rfl | rfl | rfl | rfl | rfl | rfl | rfl | rfl <;> rfl) (Nat.le_of_ble_eq_true rfl) (Nat.le_of_ble_eq_true rfl) dX1_init_28 (fun v0 H hP hD hS => ?_)
  refine lv_dup hx hb dX1_init_31 rfl ?_
  refine mk_I (wr := [(h0, .inr (0, [.ref q1, .int 0, .int 0])), (q1, .inl (q 2, 4, .inr (.inr (.inr (.inr (fun _ => none))))))]) (rest := [.ref v0, .int 0, .ref q1]) hx hb hml hown hts hl (MX4_init l D q v0 _ z) gX1_init_X4_init rfl (hts (.initialized RX4) (List.mem_of_getElem? (i := 7) rfl)) (hts (.methodLink RX1 17 yX4_init) (List.mem_of_getElem? (i := 10) rfl)) (hts (.instanceMethod yX4_init) (List.mem_of_getElem? (i := 11) rfl)) rfl (by decide +kernel) ⟨Nat.le_of_ble_eq_true rfl, Nat.le_of_ble_eq_true rfl⟩ rfl rfl hP hD hS hA hG hZ 2 rfl [0, 1] rfl (by decide) (by decide) (Nat.le_of_ble_eq_true rfl) dX1_init_32 ⟨Nat.le_of_ble_eq_true rfl, Nat.le_of_ble_eq_true rfl⟩ (fun u H locs hu hPn hDn hSn => ?_)
  obtain ⟨g0, hg, rfl⟩ := hu
  subst hg
  have hP := hPn
  have hD := hDn
  have hS := hSn
  refine va_astq hx hb hG.1 hP hD hS 1 2 2 2 rfl rfl rfl rfl (ix_n (by decide)) dX1_init_35 (fun H locs hP hD hS => ?_)
  have hP : va_P D vwCl ([(h0, .inr (0, [.ref q1, .int 0, .int 0])), (q1, .inl (q 2, 4, .inr (.inr (.inr (.inr (va_up (fun _ => none) 0 (some (g0 0))))))))] ++ wV q g0 vI) H := hP
  have hD : va_D A ([(h0, .inr (0, [.ref q1, .int 0, .int 0])), (q1, .inl (q 2, 4, .inr (.inr (.inr (.inr (va_up (fun _ => none) 0 (some (g0 0))))))))] ++ wV q g0 vI) := hD
  refine lv_iinc (v := 1) (lv' := [(1, .int 1), (0, .ref h0)]) hx hb dX1_init_36 hl (k := 0) rfl (by decide) (by decide) rfl (fun ls hl => ?_)
  refine lv_goto (tgt := 14) hx hb dX1_init_39 (by decide) ?_
  refine lv_iload_n hx hb dX1_init_14 rfl (lv_at hl 0 rfl) ?_
  refine lv_aload_n hx hb dX1_init_15 rfl (lv_at hl 1 rfl) ?_
  refine va_get (D := D) (ci := 0) (v := .ref q1) (C := RX1) (T := TX1) (N := 3) hx hb hts (fun w h => List.mem_cons_of_mem _ (List.mem_append_left _ (List.mem_append_right _ h))) hown hG.1 hP 0 rfl rfl 0 (by decide) (hts (.fieldLink RX1 11 "MillComplaints$History" "states" "[LMillComplaints$Village;") (List.mem_of_getElem? (i := 5) rfl)) (fun _ h9 => h9) rfl dX1_init_16 ?_
  refine va_alen (v := nI 4) hx hb hG.1 hP 1 2 rfl rfl rfl dX1_init_19 ?_
  refine lv_icmp_ge (tgt := 42) hx hb dX1_init_20 (by decide) (fun c_1 => absurd c_1 (by decide)) (fun c_1 => ?_)
  refine lv_aload_n hx hb dX1_init_23 rfl (lv_at hl 1 rfl) ?_
  refine va_get (D := D) (ci := 0) (v := .ref q1) (C := RX1) (T := TX1) (N := 3) hx hb hts (fun w h => List.mem_cons_of_mem _ (List.mem_append_left _ (List.mem_append_right _ h))) hown hG.1 hP 0 rfl rfl 0 (by decide) (hts (.fieldLink RX1 11 "MillComplaints$History" "states" "[LMillComplaints$Village;") (List.mem_of_getElem? (i := 5) rfl)) (fun _ h9 => h9) rfl dX1_init_24 ?_
  refine lv_iload_n hx hb dX1_init_27 rfl (lv_at hl 0 rfl) ?_
  refine va_new (ci := 2) (fs := [.null, .null, .null, .int 0, .null, .null, .null, .int 0, .null, .null, .null]) (C := RX4) (T := TX4) (N := 11) hx hb hts (fun w h => List.mem_cons_of_mem _ (List.mem_append_right _ h)) tyX4 tyX4_ok hown (hts (.classLink RX1 9 RX4) (List.mem_of_getElem? (i := 4) rfl)) (hts (.instantiable RX4 11) (List.mem_of_getElem? (i := 6) rfl)) (hts (.initialized RX4) (List.mem_of_getElem? (i := 7) rfl)) hG.1 hP hD hS hA rfl (fun j hj => by rcases (show j = 0 ∨ j = 1 ∨ j = 2 ∨ j = 3 ∨ j = 4 ∨ j = 5 ∨ j = 6 ∨ j = 7 ∨ j = 8 ∨ j = 9 ∨ j = 10 by omega) with rfl | rfl | rfl | rfl | rfl | rfl | rfl | rfl | rfl | rfl | rfl <;> rfl) (Nat.le_of_ble_eq_true rfl) (Nat.le_of_ble_eq_true rfl) dX1_init_28 (fun v1 H hP hD hS => ?_)
  refine lv_dup hx hb dX1_init_31 rfl ?_
  refine mk_I (wr := ([(h0, .inr (0, [.ref q1, .int 0, .int 0])), (q1, .inl (q 2, 4, .inr (.inr (.inr (.inr (va_up (fun _ => none) 0 (some (g0 0))))))))] ++ wV q g0 vI)) (rest := [.ref v1, .int 1, .ref q1]) hx hb hml hown hts hl (MX4_init l D q v1 _ z) gX1_init_X4_init rfl (hts (.initialized RX4) (List.mem_of_getElem? (i := 7) rfl)) (hts (.methodLink RX1 17 yX4_init) (List.mem_of_getElem? (i := 10) rfl)) (hts (.instanceMethod yX4_init) (List.mem_of_getElem? (i := 11) rfl)) rfl (by decide +kernel) ⟨Nat.le_of_ble_eq_true rfl, Nat.le_of_ble_eq_true rfl⟩ rfl rfl hP hD hS hA hG hZ 12 rfl [0, 1, 2, 3, 4, 5, 6, 7, 8, 9, 10, 11] rfl (by decide) (by decide) (Nat.le_of_ble_eq_true rfl) dX1_init_32 ⟨Nat.le_of_ble_eq_true rfl, Nat.le_of_ble_eq_true rfl⟩ (fun u H locs hu hPn hDn hSn => ?_)
  obtain ⟨g1, hg, rfl⟩ := hu
  subst hg
  have hP := hPn
  have hD := hDn
  have hS := hSn
  refine va_astq hx hb hG.1 hP hD hS 1 2 12 2 rfl rfl rfl rfl (ix_n (by decide)) dX1_init_35 (fun H locs hP hD hS => ?_)
  have hP : va_P D vwCl (([(h0, .inr (0, [.ref q1, .int 0, .int 0])), (q1, .inl (q 2, 4, .inr (.inr (.inr (.inr (va_up (va_up (fun _ => none) 0 (some (g0 0))) 1 (some (g1 0))))))))] ++ wV q g0 vI) ++ wV q g1 vI) H := hP
  have hD : va_D A (([(h0, .inr (0, [.ref q1, .int 0, .int 0])), (q1, .inl (q 2, 4, .inr (.inr (.inr (.inr (va_up (va_up (fun _ => none) 0 (some (g0 0))) 1 (some (g1 0))))))))] ++ wV q g0 vI) ++ wV q g1 vI) := hD
  refine lv_iinc (v := 2) (lv' := [(1, .int 2), (0, .ref h0)]) hx hb dX1_init_36 hl (k := 0) rfl (by decide) (by decide) rfl (fun ls hl => ?_)
  refine lv_goto (tgt := 14) hx hb dX1_init_39 (by decide) ?_
  refine lv_iload_n hx hb dX1_init_14 rfl (lv_at hl 0 rfl) ?_
  refine lv_aload_n hx hb dX1_init_15 rfl (lv_at hl 1 rfl) ?_
  refine va_get (D := D) (ci := 0) (v := .ref q1) (C := RX1) (T := TX1) (N := 3) hx hb hts (fun w h => List.mem_cons_of_mem _ (List.mem_append_left _ (List.mem_append_right _ h))) hown hG.1 hP 0 rfl rfl 0 (by decide) (hts (.fieldLink RX1 11 "MillComplaints$History" "states" "[LMillComplaints$Village;") (List.mem_of_getElem? (i := 5) rfl)) (fun _ h9 => h9) rfl dX1_init_16 ?_
  refine va_alen (v := nI 4) hx hb hG.1 hP 1 2 rfl rfl rfl dX1_init_19 ?_
  refine lv_icmp_ge (tgt := 42) hx hb dX1_init_20 (by decide) (fun c_1 => absurd c_1 (by decide)) (fun c_1 => ?_)
  refine lv_aload_n hx hb dX1_init_23 rfl (lv_at hl 1 rfl) ?_
  refine va_get (D := D) (ci := 0) (v := .ref q1) (C := RX1) (T := TX1) (N := 3) hx hb hts (fun w h => List.mem_cons_of_mem _ (List.mem_append_left _ (List.mem_append_right _ h))) hown hG.1 hP 0 rfl rfl 0 (by decide) (hts (.fieldLink RX1 11 "MillComplaints$History" "states" "[LMillComplaints$Village;") (List.mem_of_getElem? (i := 5) rfl)) (fun _ h9 => h9) rfl dX1_init_24 ?_
  refine lv_iload_n hx hb dX1_init_27 rfl (lv_at hl 0 rfl) ?_
  refine va_new (ci := 2) (fs := [.null, .null, .null, .int 0, .null, .null, .null, .int 0, .null, .null, .null]) (C := RX4) (T := TX4) (N := 11) hx hb hts (fun w h => List.mem_cons_of_mem _ (List.mem_append_right _ h)) tyX4 tyX4_ok hown (hts (.classLink RX1 9 RX4) (List.mem_of_getElem? (i := 4) rfl)) (hts (.instantiable RX4 11) (List.mem_of_getElem? (i := 6) rfl)) (hts (.initialized RX4) (List.mem_of_getElem? (i := 7) rfl)) hG.1 hP hD hS hA rfl (fun j hj => by rcases (show j = 0 ∨ j = 1 ∨ j = 2 ∨ j = 3 ∨ j = 4 ∨ j = 5 ∨ j = 6 ∨ j = 7 ∨ j = 8 ∨ j = 9 ∨ j = 10 by omega) with rfl | rfl | rfl | rfl | rfl | rfl | rfl | rfl | rfl | rfl | rfl <;> rfl) (Nat.le_of_ble_eq_true rfl) (Nat.le_of_ble_eq_true rfl) dX1_init_28 (fun v2 H hP hD hS => ?_)
  refine lv_dup hx hb dX1_init_31 rfl ?_
  refine mk_I (wr := (([(h0, .inr (0, [.ref q1, .int 0, .int 0])), (q1, .inl (q 2, 4, .inr (.inr (.inr (.inr (va_up (va_up (fun _ => none) 0 (some (g0 0))) 1 (some (g1 0))))))))] ++ wV q g0 vI) ++ wV q g1 vI)) (rest := [.ref v2, .int 2, .ref q1]) hx hb hml hown hts hl (MX4_init l D q v2 _ z) gX1_init_X4_init rfl (hts (.initialized RX4) (List.mem_of_getElem? (i := 7) rfl)) (hts (.methodLink RX1 17 yX4_init) (List.mem_of_getElem? (i := 10) rfl)) (hts (.instanceMethod yX4_init) (List.mem_of_getElem? (i := 11) rfl)) rfl (by decide +kernel) ⟨Nat.le_of_ble_eq_true rfl, Nat.le_of_ble_eq_true rfl⟩ rfl rfl hP hD hS hA hG hZ 22 rfl [0, 1, 2, 3, 4, 5, 6, 7, 8, 9, 10, 11, 12, 13, 14, 15, 16, 17, 18, 19, 20, 21] rfl (by decide) (by decide) (Nat.le_of_ble_eq_true rfl) dX1_init_32 ⟨Nat.le_of_ble_eq_true rfl, Nat.le_of_ble_eq_true rfl⟩ (fun u H locs hu hPn hDn hSn => ?_)
  obtain ⟨g2, hg, rfl⟩ := hu
  subst hg
  have hP := hPn
  have hD := hDn
  have hS := hSn
  refine va_astq hx hb hG.1 hP hD hS 1 2 22 2 rfl rfl rfl rfl (ix_n (by decide)) dX1_init_35 (fun H locs hP hD hS => ?_)
  have hP : va_P D vwCl ((([(h0, .inr (0, [.ref q1, .int 0, .int 0])), (q1, .inl (q 2, 4, .inr (.inr (.inr (.inr (va_up (va_up (va_up (fun _ => none) 0 (some (g0 0))) 1 (some (g1 0))) 2 (some (g2 0))))))))] ++ wV q g0 vI) ++ wV q g1 vI) ++ wV q g2 vI) H := hP
  have hD : va_D A ((([(h0, .inr (0, [.ref q1, .int 0, .int 0])), (q1, .inl (q 2, 4, .inr (.inr (.inr (.inr (va_up (va_up (va_up (fun _ => none) 0 (some (g0 0))) 1 (some (g1 0))) 2 (some (g2 0))))))))] ++ wV q g0 vI) ++ wV q g1 vI) ++ wV q g2 vI) := hD
  refine lv_iinc (v := 3) (lv' := [(1, .int 3), (0, .ref h0)]) hx hb dX1_init_36 hl (k := 0) rfl (by decide) (by decide) rfl (fun ls hl => ?_)
  refine lv_goto (tgt := 14) hx hb dX1_init_39 (by decide) ?_
  refine lv_iload_n hx hb dX1_init_14 rfl (lv_at hl 0 rfl) ?_
  refine lv_aload_n hx hb dX1_init_15 rfl (lv_at hl 1 rfl) ?_
  refine va_get (D := D) (ci := 0) (v := .ref q1) (C := RX1) (T := TX1) (N := 3) hx hb hts (fun w h => List.mem_cons_of_mem _ (List.mem_append_left _ (List.mem_append_right _ h))) hown hG.1 hP 0 rfl rfl 0 (by decide) (hts (.fieldLink RX1 11 "MillComplaints$History" "states" "[LMillComplaints$Village;") (List.mem_of_getElem? (i := 5) rfl)) (fun _ h9 => h9) rfl dX1_init_16 ?_
  refine va_alen (v := nI 4) hx hb hG.1 hP 1 2 rfl rfl rfl dX1_init_19 ?_
  refine lv_icmp_ge (tgt := 42) hx hb dX1_init_20 (by decide) (fun c_1 => absurd c_1 (by decide)) (fun c_1 => ?_)
  refine lv_aload_n hx hb dX1_init_23 rfl (lv_at hl 1 rfl) ?_
  refine va_get (D := D) (ci := 0) (v := .ref q1) (C := RX1) (T := TX1) (N := 3) hx hb hts (fun w h => List.mem_cons_of_mem _ (List.mem_append_left _ (List.mem_append_right _ h))) hown hG.1 hP 0 rfl rfl 0 (by decide) (hts (.fieldLink RX1 11 "MillComplaints$History" "states" "[LMillComplaints$Village;") (List.mem_of_getElem? (i := 5) rfl)) (fun _ h9 => h9) rfl dX1_init_24 ?_
  refine lv_iload_n hx hb dX1_init_27 rfl (lv_at hl 0 rfl) ?_
  refine va_new (ci := 2) (fs := [.null, .null, .null, .int 0, .null, .null, .null, .int 0, .null, .null, .null]) (C := RX4) (T := TX4) (N := 11) hx hb hts (fun w h => List.mem_cons_of_mem _ (List.mem_append_right _ h)) tyX4 tyX4_ok hown (hts (.classLink RX1 9 RX4) (List.mem_of_getElem? (i := 4) rfl)) (hts (.instantiable RX4 11) (List.mem_of_getElem? (i := 6) rfl)) (hts (.initialized RX4) (List.mem_of_getElem? (i := 7) rfl)) hG.1 hP hD hS hA rfl (fun j hj => by rcases (show j = 0 ∨ j = 1 ∨ j = 2 ∨ j = 3 ∨ j = 4 ∨ j = 5 ∨ j = 6 ∨ j = 7 ∨ j = 8 ∨ j = 9 ∨ j = 10 by omega) with rfl | rfl | rfl | rfl | rfl | rfl | rfl | rfl | rfl | rfl | rfl <;> rfl) (Nat.le_of_ble_eq_true rfl) (Nat.le_of_ble_eq_true rfl) dX1_init_28 (fun v3 H hP hD hS => ?_)
  refine lv_dup hx hb dX1_init_31 rfl ?_
  refine mk_I (wr := ((([(h0, .inr (0, [.ref q1, .int 0, .int 0])), (q1, .inl (q 2, 4, .inr (.inr (.inr (.inr (va_up (va_up (va_up (fun _ => none) 0 (some (g0 0))) 1 (some (g1 0))) 2 (some (g2 0))))))))] ++ wV q g0 vI) ++ wV q g1 vI) ++ wV q g2 vI)) (rest := [.ref v3, .int 3, .ref q1]) hx hb hml hown hts hl (MX4_init l D q v3 _ z) gX1_init_X4_init rfl (hts (.initialized RX4) (List.mem_of_getElem? (i := 7) rfl)) (hts (.methodLink RX1 17 yX4_init) (List.mem_of_getElem? (i := 10) rfl)) (hts (.instanceMethod yX4_init) (List.mem_of_getElem? (i := 11) rfl)) rfl (by decide +kernel) ⟨Nat.le_of_ble_eq_true rfl, Nat.le_of_ble_eq_true rfl⟩ rfl rfl hP hD hS hA hG hZ 32 rfl [0, 1, 2, 3, 4, 5, 6, 7, 8, 9, 10, 11, 12, 13, 14, 15, 16, 17, 18, 19, 20, 21, 22, 23, 24, 25, 26, 27, 28, 29, 30, 31] rfl (by decide) (by decide) (Nat.le_of_ble_eq_true rfl) dX1_init_32 ⟨Nat.le_of_ble_eq_true rfl, Nat.le_of_ble_eq_true rfl⟩ (fun u H locs hu hPn hDn hSn => ?_)
  obtain ⟨g3, hg, rfl⟩ := hu
  subst hg
  have hP := hPn
  have hD := hDn
  have hS := hSn
  refine va_astq hx hb hG.1 hP hD hS 1 2 32 2 rfl rfl rfl rfl (ix_n (by decide)) dX1_init_35 (fun H locs hP hD hS => ?_)
  have hP : va_P D vwCl (((([(h0, .inr (0, [.ref q1, .int 0, .int 0])), (q1, .inl (q 2, 4, .inr (.inr (.inr (.inr (va_up (va_up (va_up (va_up (fun _ => none) 0 (some (g0 0))) 1 (some (g1 0))) 2 (some (g2 0))) 3 (some (g3 0))))))))] ++ wV q g0 vI) ++ wV q g1 vI) ++ wV q g2 vI) ++ wV q g3 vI) H := hP
  have hD : va_D A (((([(h0, .inr (0, [.ref q1, .int 0, .int 0])), (q1, .inl (q 2, 4, .inr (.inr (.inr (.inr (va_up (va_up (va_up (va_up (fun _ => none) 0 (some (g0 0))) 1 (some (g1 0))) 2 (some (g2 0))) 3 (some (g3 0))))))))] ++ wV q g0 vI) ++ wV q g1 vI) ++ wV q g2 vI) ++ wV q g3 vI) := hD
  refine lv_iinc (v := 4) (lv' := [(1, .int 4), (0, .ref h0)]) hx hb dX1_init_36 hl (k := 0) rfl (by decide) (by decide) rfl (fun ls hl => ?_)
  refine lv_goto (tgt := 14) hx hb dX1_init_39 (by decide) ?_
  refine lv_iload_n hx hb dX1_init_14 rfl (lv_at hl 0 rfl) ?_
  refine lv_aload_n hx hb dX1_init_15 rfl (lv_at hl 1 rfl) ?_
  refine va_get (D := D) (ci := 0) (v := .ref q1) (C := RX1) (T := TX1) (N := 3) hx hb hts (fun w h => List.mem_cons_of_mem _ (List.mem_append_left _ (List.mem_append_right _ h))) hown hG.1 hP 0 rfl rfl 0 (by decide) (hts (.fieldLink RX1 11 "MillComplaints$History" "states" "[LMillComplaints$Village;") (List.mem_of_getElem? (i := 5) rfl)) (fun _ h9 => h9) rfl dX1_init_16 ?_
  refine va_alen (v := nI 4) hx hb hG.1 hP 1 2 rfl rfl rfl dX1_init_19 ?_
  refine lv_icmp_ge (tgt := 42) hx hb dX1_init_20 (by decide) (fun c_1 => ?_) (fun c_1 => absurd (by decide) c_1)
  refine lv_aload_n hx hb dX1_init_42 rfl (lv_at hl 1 rfl) ?_
  refine lv_iconst (v := 0) hx hb dX1_init_43 (by decide) ?_
  refine va_put (D := D) (ci := 0) (v := .int 0) (ty := .int) (C := RX1) (T := TX1) (N := 3) hx hb hts (fun w h => List.mem_cons_of_mem _ (List.mem_append_left _ (List.mem_append_right _ h))) tyX1 tyX1_ok nmX1 hown hG.1 hP hD hS 0 rfl rfl 1 (by decide) (hts (.fieldLink RX1 18 "MillComplaints$History" "oldest" "I") (List.mem_of_getElem? (i := 8) rfl)) (fun _ h9 => h9) rfl (by decide +kernel) rfl rfl (Nat.le_of_ble_eq_true rfl) dX1_init_44 (fun H locs hP hD hS => ?_)
  have hP : va_P D vwCl (((([(h0, .inr (0, [.ref q1, .int 0, .int 0])), (q1, .inl (q 2, 4, .inr (.inr (.inr (.inr (va_up (va_up (va_up (va_up (fun _ => none) 0 (some (g0 0))) 1 (some (g1 0))) 2 (some (g2 0))) 3 (some (g3 0))))))))] ++ wV q g0 vI) ++ wV q g1 vI) ++ wV q g2 vI) ++ wV q g3 vI) H := hP
  have hD : va_D A (((([(h0, .inr (0, [.ref q1, .int 0, .int 0])), (q1, .inl (q 2, 4, .inr (.inr (.inr (.inr (va_up (va_up (va_up (va_up (fun _ => none) 0 (some (g0 0))) 1 (some (g1 0))) 2 (some (g2 0))) 3 (some (g3 0))))))))] ++ wV q g0 vI) ++ wV q g1 vI) ++ wV q g2 vI) ++ wV q g3 vI) := hD
  refine lv_aload_n hx hb dX1_init_47 rfl (lv_at hl 1 rfl) ?_
  refine lv_iconst (v := 0) hx hb dX1_init_48 (by decide) ?_
  refine va_put (D := D) (ci := 0) (v := .int 0) (ty := .int) (C := RX1) (T := TX1) (N := 3) hx hb hts (fun w h => List.mem_cons_of_mem _ (List.mem_append_left _ (List.mem_append_right _ h))) tyX1 tyX1_ok nmX1 hown hG.1 hP hD hS 0 rfl rfl 2 (by decide) (hts (.fieldLink RX1 22 "MillComplaints$History" "size" "I") (List.mem_of_getElem? (i := 9) rfl)) (fun _ h9 => h9) rfl (by decide +kernel) rfl rfl (Nat.le_of_ble_eq_true rfl) dX1_init_49 (fun H locs hP hD hS => ?_)
  have hP : va_P D vwCl (((([(h0, .inr (0, [.ref q1, .int 0, .int 0])), (q1, .inl (q 2, 4, .inr (.inr (.inr (.inr (va_up (va_up (va_up (va_up (fun _ => none) 0 (some (g0 0))) 1 (some (g1 0))) 2 (some (g2 0))) 3 (some (g3 0))))))))] ++ wV q g0 vI) ++ wV q g1 vI) ++ wV q g2 vI) ++ wV q g3 vI) H := hP
  have hD : va_D A (((([(h0, .inr (0, [.ref q1, .int 0, .int 0])), (q1, .inl (q 2, 4, .inr (.inr (.inr (.inr (va_up (va_up (va_up (va_up (fun _ => none) 0 (some (g0 0))) 1 (some (g1 0))) 2 (some (g2 0))) 3 (some (g3 0))))))))] ++ wV q g0 vI) ++ wV q g1 vI) ++ wV q g2 vI) ++ wV q g3 vI) := hD
  have hP9 := row_q hP 1 (g := fun j => some ((fun i => match i with | 3 => g0 | 4 => g1 | 5 => g2 | 6 => g3 | _ => fun j => match j with | 0 => h0 | _ => q1 : Nat → Nat → Nat) (3 + j) 0)) rfl (fun j hj => by rcases (show j = 0 ∨ j = 1 ∨ j = 2 ∨ j = 3 by omega) with rfl | rfl | rfl | rfl <;> rfl)
  exact mk_vret (w := wHo q (fun i => match i with | 3 => g0 | 4 => g1 | 5 => g2 | 6 => g3 | _ => fun j => match j with | 0 => h0 | _ => q1) xI ++ (wV q g0 vI ++ (wV q g1 vI ++ (wV q g2 vI ++ wV q g3 vI)))) hx hb hr hk hAe hS hP9 (hD.set (p := 1) rfl) ⟨_, rfl, rfl⟩ dX1_init_52
