theorem kX1_stateAt : yX1_stateAt.cls = RX1 ∧ yX1_stateAt.cls ≠ "java/lang/invoke/MethodHandle" ∧ yX1_stateAt.cls ≠ "java/lang/invoke/VarHandle" ∧ (parseMethodDescriptor yX1_stateAt.desc).map (fun d => d.parameters.length) = some 1 := by decide +kernel
theorem iX1_stateAt_X1 : ∀ w ∈ wsX10, w ∈ wsX1_stateAt := fun w h => (List.mem_cons_of_mem _ (List.mem_append_right _ h))
set_option maxHeartbeats 4000000 in
set_option maxRecDepth 100000 in
theorem MX1_stateAt_0_m1 (l : Launch) (D : va_G) (q : Nat → ClassId) (ad : Nat → Nat → Nat) (xx : Nat → Nat → Nat → Int32) (ho : xx 8 0 0 = 0) : roM l D (tyq q) yX1_stateAt wsX1_stateAt ({ frames := 0, cells := 0, slots := 0, locals := 0 } : Room) [.ref (ad 8 0), .int (-1)] (wHo q ad xx) (some (.null)) := by
  refine roM.of (cc := cX1_stateAt) (maxL := 3) (ret := (some (.object "MillComplaints$Village"))) (by decide) rfl (Nat.le_of_ble_eq_true rfl) ?_
  intro p e s m below meth c ls hx hb hr hk hml hown hts hP hD hG hl
  have hl : lv_has ls 3 [(0, .ref (ad 8 0)), (1, .int (-1))] := hl
  refine lv_aload_n hx hb dX1_stateAt_0 rfl (lv_at hl 0 rfl) ?_
  refine va_get (D := D) (ci := 0) (v := .int 0) (C := RX1) (T := TX1) (N := 3) hx hb hts iX1_stateAt_X1 hown hG.1 hP 0 rfl rfl 1 (by decide) (hts (.fieldLink RX1 18 "MillComplaints$History" "oldest" "I") (List.mem_of_getElem? (i := 1) rfl)) (fun _ h9 => h9) (by show some (Value.int (xx 8 0 0)) = _; rw [ho]) dX1_stateAt_1 ?_
  refine lv_iload_n hx hb dX1_stateAt_4 rfl (lv_at hl 1 rfl) ?_
  refine lv_iadd hx hb dX1_stateAt_5 ?_
  refine lv_tope (y := (-1)) (by decide) ?_
  refine lv_iconst (v := 4) hx hb dX1_stateAt_6 (by decide) ?_
  refine lv_irem hx hb dX1_stateAt_7 (by decide) ?_
  refine lv_tope (y := (-1)) (by decide) ?_
  refine lv_istore_n (lv' := [(2, .int (-1)), (0, .ref (ad 8 0)), (1, .int (-1))]) hx hb dX1_stateAt_8 rfl hl (by decide) rfl (fun ls hl => ?_)
  refine lv_iload_n hx hb dX1_stateAt_9 rfl (lv_at hl 0 rfl) ?_
  refine lv_if_lt (tgt := 31) hx hb dX1_stateAt_10 (by decide) (fun _ => ?_) (fun c_1 => absurd (by decide) c_1)
  refine lv_null hx hb dX1_stateAt_31 ?_
  exact ro_aret hx hb hr hk (Or.inl rfl) dX1_stateAt_32
set_option maxHeartbeats 4000000 in
set_option maxRecDepth 100000 in
theorem MX1_stateAt_0_0 (l : Launch) (D : va_G) (q : Nat → ClassId) (ad : Nat → Nat → Nat) (xx : Nat → Nat → Nat → Int32) (ho : xx 8 0 0 = 0) : roM l D (tyq q) yX1_stateAt wsX1_stateAt ({ frames := 0, cells := 0, slots := 0, locals := 0 } : Room) [.ref (ad 8 0), .int 0] (wHo q ad xx) (some (.ref ((ad 3) 0))) := by
  refine roM.of (cc := cX1_stateAt) (maxL := 3) (ret := (some (.object "MillComplaints$Village"))) (by decide) rfl (Nat.le_of_ble_eq_true rfl) ?_
  intro p e s m below meth c ls hx hb hr hk hml hown hts hP hD hG hl
  have hl : lv_has ls 3 [(0, .ref (ad 8 0)), (1, .int 0)] := hl
  refine lv_aload_n hx hb dX1_stateAt_0 rfl (lv_at hl 0 rfl) ?_
  refine va_get (D := D) (ci := 0) (v := .int 0) (C := RX1) (T := TX1) (N := 3) hx hb hts iX1_stateAt_X1 hown hG.1 hP 0 rfl rfl 1 (by decide) (hts (.fieldLink RX1 18 "MillComplaints$History" "oldest" "I") (List.mem_of_getElem? (i := 1) rfl)) (fun _ h9 => h9) (by show some (Value.int (xx 8 0 0)) = _; rw [ho]) dX1_stateAt_1 ?_
  refine lv_iload_n hx hb dX1_stateAt_4 rfl (lv_at hl 1 rfl) ?_
  refine lv_iadd hx hb dX1_stateAt_5 ?_
  refine lv_tope (y := 0) (by decide) ?_
  refine lv_iconst (v := 4) hx hb dX1_stateAt_6 (by decide) ?_
  refine lv_irem hx hb dX1_stateAt_7 (by decide) ?_
  refine lv_tope (y := 0) (by decide) ?_
  refine lv_istore_n (lv' := [(2, .int 0), (0, .ref (ad 8 0)), (1, .int 0)]) hx hb dX1_stateAt_8 rfl hl (by decide) rfl (fun ls hl => ?_)
  refine lv_iload_n hx hb dX1_stateAt_9 rfl (lv_at hl 0 rfl) ?_
  refine lv_if_lt (tgt := 31) hx hb dX1_stateAt_10 (by decide) (fun c_1 => absurd c_1 (by decide)) (fun _ => ?_)
  refine lv_iload_n hx hb dX1_stateAt_13 rfl (lv_at hl 0 rfl) ?_
  refine lv_aload_n hx hb dX1_stateAt_14 rfl (lv_at hl 1 rfl) ?_
  refine va_get (D := D) (ci := 0) (v := .ref (ad 8 1)) (C := RX1) (T := TX1) (N := 3) hx hb hts iX1_stateAt_X1 hown hG.1 hP 0 rfl rfl 0 (by decide) (hts (.fieldLink RX1 11 "MillComplaints$History" "states" "[LMillComplaints$Village;") (List.mem_of_getElem? (i := 2) rfl)) (fun _ h9 => h9) rfl dX1_stateAt_15 ?_
  refine va_alen (v := 4) hx hb hG.1 hP 1 2 rfl rfl rfl dX1_stateAt_18 ?_
  refine lv_icmp_ge (tgt := 31) hx hb dX1_stateAt_19 (by decide) (fun c_2 => absurd c_2 (by decide)) (fun _ => ?_)
  refine lv_aload_n hx hb dX1_stateAt_22 rfl (lv_at hl 1 rfl) ?_
  refine va_get (D := D) (ci := 0) (v := .ref (ad 8 1)) (C := RX1) (T := TX1) (N := 3) hx hb hts iX1_stateAt_X1 hown hG.1 hP 0 rfl rfl 0 (by decide) (hts (.fieldLink RX1 11 "MillComplaints$History" "states" "[LMillComplaints$Village;") (List.mem_of_getElem? (i := 2) rfl)) (fun _ h9 => h9) rfl dX1_stateAt_23 ?_
  refine lv_iload_n hx hb dX1_stateAt_26 rfl (lv_at hl 0 rfl) ?_
  refine va_aldq (C := RX4) hx hb hG.1 hP 1 2 rfl rfl (ix_n (by decide)) dX1_stateAt_27 ?_
  refine lv_goto (tgt := 32) hx hb dX1_stateAt_28 (by decide) ?_
  exact ro_aret hx hb hr hk (Or.inr ⟨_, rfl⟩) dX1_stateAt_32
set_option maxHeartbeats 4000000 in
set_option maxRecDepth 100000 in
theorem MX1_stateAt_0_1 (l : Launch) (D : va_G) (q : Nat → ClassId) (ad : Nat → Nat → Nat) (xx : Nat → Nat → Nat → Int32) (ho : xx 8 0 0 = 0) : roM l D (tyq q) yX1_stateAt wsX1_stateAt ({ frames := 0, cells := 0, slots := 0, locals := 0 } : Room) [.ref (ad 8 0), .int 1] (wHo q ad xx) (some (.ref ((ad 4) 0))) := by
  refine roM.of (cc := cX1_stateAt) (maxL := 3) (ret := (some (.object "MillComplaints$Village"))) (by decide) rfl (Nat.le_of_ble_eq_true rfl) ?_
  intro p e s m below meth c ls hx hb hr hk hml hown hts hP hD hG hl
  have hl : lv_has ls 3 [(0, .ref (ad 8 0)), (1, .int 1)] := hl
  refine lv_aload_n hx hb dX1_stateAt_0 rfl (lv_at hl 0 rfl) ?_
  refine va_get (D := D) (ci := 0) (v := .int 0) (C := RX1) (T := TX1) (N := 3) hx hb hts iX1_stateAt_X1 hown hG.1 hP 0 rfl rfl 1 (by decide) (hts (.fieldLink RX1 18 "MillComplaints$History" "oldest" "I") (List.mem_of_getElem? (i := 1) rfl)) (fun _ h9 => h9) (by show some (Value.int (xx 8 0 0)) = _; rw [ho]) dX1_stateAt_1 ?_
  refine lv_iload_n hx hb dX1_stateAt_4 rfl (lv_at hl 1 rfl) ?_
  refine lv_iadd hx hb dX1_stateAt_5 ?_
  refine lv_tope (y := 1) (by decide) ?_
  refine lv_iconst (v := 4) hx hb dX1_stateAt_6 (by decide) ?_
  refine lv_irem hx hb dX1_stateAt_7 (by decide) ?_
  refine lv_tope (y := 1) (by decide) ?_
  refine lv_istore_n (lv' := [(2, .int 1), (0, .ref (ad 8 0)), (1, .int 1)]) hx hb dX1_stateAt_8 rfl hl (by decide) rfl (fun ls hl => ?_)
  refine lv_iload_n hx hb dX1_stateAt_9 rfl (lv_at hl 0 rfl) ?_
  refine lv_if_lt (tgt := 31) hx hb dX1_stateAt_10 (by decide) (fun c_1 => absurd c_1 (by decide)) (fun _ => ?_)
  refine lv_iload_n hx hb dX1_stateAt_13 rfl (lv_at hl 0 rfl) ?_
  refine lv_aload_n hx hb dX1_stateAt_14 rfl (lv_at hl 1 rfl) ?_
  refine va_get (D := D) (ci := 0) (v := .ref (ad 8 1)) (C := RX1) (T := TX1) (N := 3) hx hb hts iX1_stateAt_X1 hown hG.1 hP 0 rfl rfl 0 (by decide) (hts (.fieldLink RX1 11 "MillComplaints$History" "states" "[LMillComplaints$Village;") (List.mem_of_getElem? (i := 2) rfl)) (fun _ h9 => h9) rfl dX1_stateAt_15 ?_
  refine va_alen (v := 4) hx hb hG.1 hP 1 2 rfl rfl rfl dX1_stateAt_18 ?_
  refine lv_icmp_ge (tgt := 31) hx hb dX1_stateAt_19 (by decide) (fun c_2 => absurd c_2 (by decide)) (fun _ => ?_)
  refine lv_aload_n hx hb dX1_stateAt_22 rfl (lv_at hl 1 rfl) ?_
  refine va_get (D := D) (ci := 0) (v := .ref (ad 8 1)) (C := RX1) (T := TX1) (N := 3) hx hb hts iX1_stateAt_X1 hown hG.1 hP 0 rfl rfl 0 (by decide) (hts (.fieldLink RX1 11 "MillComplaints$History" "states" "[LMillComplaints$Village;") (List.mem_of_getElem? (i := 2) rfl)) (fun _ h9 => h9) rfl dX1_stateAt_23 ?_
  refine lv_iload_n hx hb dX1_stateAt_26 rfl (lv_at hl 0 rfl) ?_
  refine va_aldq (C := RX4) hx hb hG.1 hP 1 2 rfl rfl (ix_n (by decide)) dX1_stateAt_27 ?_
  refine lv_goto (tgt := 32) hx hb dX1_stateAt_28 (by decide) ?_
  exact ro_aret hx hb hr hk (Or.inr ⟨_, rfl⟩) dX1_stateAt_32
set_option maxHeartbeats 4000000 in
set_option maxRecDepth 100000 in
theorem MX1_stateAt_0_2 (l : Launch) (D : va_G) (q : Nat → ClassId) (ad : Nat → Nat → Nat) (xx : Nat → Nat → Nat → Int32) (ho : xx 8 0 0 = 0) : roM l D (tyq q) yX1_stateAt wsX1_stateAt ({ frames := 0, cells := 0, slots := 0, locals := 0 } : Room) [.ref (ad 8 0), .int 2] (wHo q ad xx) (some (.ref ((ad 5) 0))) := by
  refine roM.of (cc := cX1_stateAt) (maxL := 3) (ret := (some (.object "MillComplaints$Village"))) (by decide) rfl (Nat.le_of_ble_eq_true rfl) ?_
  intro p e s m below meth c ls hx hb hr hk hml hown hts hP hD hG hl
  have hl : lv_has ls 3 [(0, .ref (ad 8 0)), (1, .int 2)] := hl
  refine lv_aload_n hx hb dX1_stateAt_0 rfl (lv_at hl 0 rfl) ?_
  refine va_get (D := D) (ci := 0) (v := .int 0) (C := RX1) (T := TX1) (N := 3) hx hb hts iX1_stateAt_X1 hown hG.1 hP 0 rfl rfl 1 (by decide) (hts (.fieldLink RX1 18 "MillComplaints$History" "oldest" "I") (List.mem_of_getElem? (i := 1) rfl)) (fun _ h9 => h9) (by show some (Value.int (xx 8 0 0)) = _; rw [ho]) dX1_stateAt_1 ?_
  refine lv_iload_n hx hb dX1_stateAt_4 rfl (lv_at hl 1 rfl) ?_
  refine lv_iadd hx hb dX1_stateAt_5 ?_
  refine lv_tope (y := 2) (by decide) ?_
  refine lv_iconst (v := 4) hx hb dX1_stateAt_6 (by decide) ?_
  refine lv_irem hx hb dX1_stateAt_7 (by decide) ?_
  refine lv_tope (y := 2) (by decide) ?_
  refine lv_istore_n (lv' := [(2, .int 2), (0, .ref (ad 8 0)), (1, .int 2)]) hx hb dX1_stateAt_8 rfl hl (by decide) rfl (fun ls hl => ?_)
  refine lv_iload_n hx hb dX1_stateAt_9 rfl (lv_at hl 0 rfl) ?_
  refine lv_if_lt (tgt := 31) hx hb dX1_stateAt_10 (by decide) (fun c_1 => absurd c_1 (by decide)) (fun _ => ?_)
  refine lv_iload_n hx hb dX1_stateAt_13 rfl (lv_at hl 0 rfl) ?_
  refine lv_aload_n hx hb dX1_stateAt_14 rfl (lv_at hl 1 rfl) ?_
  refine va_get (D := D) (ci := 0) (v := .ref (ad 8 1)) (C := RX1) (T := TX1) (N := 3) hx hb hts iX1_stateAt_X1 hown hG.1 hP 0 rfl rfl 0 (by decide) (hts (.fieldLink RX1 11 "MillComplaints$History" "states" "[LMillComplaints$Village;") (List.mem_of_getElem? (i := 2) rfl)) (fun _ h9 => h9) rfl dX1_stateAt_15 ?_
  refine va_alen (v := 4) hx hb hG.1 hP 1 2 rfl rfl rfl dX1_stateAt_18 ?_
  refine lv_icmp_ge (tgt := 31) hx hb dX1_stateAt_19 (by decide) (fun c_2 => absurd c_2 (by decide)) (fun _ => ?_)
  refine lv_aload_n hx hb dX1_stateAt_22 rfl (lv_at hl 1 rfl) ?_
  refine va_get (D := D) (ci := 0) (v := .ref (ad 8 1)) (C := RX1) (T := TX1) (N := 3) hx hb hts iX1_stateAt_X1 hown hG.1 hP 0 rfl rfl 0 (by decide) (hts (.fieldLink RX1 11 "MillComplaints$History" "states" "[LMillComplaints$Village;") (List.mem_of_getElem? (i := 2) rfl)) (fun _ h9 => h9) rfl dX1_stateAt_23 ?_
  refine lv_iload_n hx hb dX1_stateAt_26 rfl (lv_at hl 0 rfl) ?_
  refine va_aldq (C := RX4) hx hb hG.1 hP 1 2 rfl rfl (ix_n (by decide)) dX1_stateAt_27 ?_
  refine lv_goto (tgt := 32) hx hb dX1_stateAt_28 (by decide) ?_
  exact ro_aret hx hb hr hk (Or.inr ⟨_, rfl⟩) dX1_stateAt_32
set_option maxHeartbeats 4000000 in
set_option maxRecDepth 100000 in
theorem MX1_stateAt_0_3 (l : Launch) (D : va_G) (q : Nat → ClassId) (ad : Nat → Nat → Nat) (xx : Nat → Nat → Nat → Int32) (ho : xx 8 0 0 = 0) : roM l D (tyq q) yX1_stateAt wsX1_stateAt ({ frames := 0, cells := 0, slots := 0, locals := 0 } : Room) [.ref (ad 8 0), .int 3] (wHo q ad xx) (some (.ref ((ad 6) 0))) := by
  refine roM.of (cc := cX1_stateAt) (maxL := 3) (ret := (some (.object "MillComplaints$Village"))) (by decide) rfl (Nat.le_of_ble_eq_true rfl) ?_
  intro p e s m below meth c ls hx hb hr hk hml hown hts hP hD hG hl
  have hl : lv_has ls 3 [(0, .ref (ad 8 0)), (1, .int 3)] := hl
  refine lv_aload_n hx hb dX1_stateAt_0 rfl (lv_at hl 0 rfl) ?_
  refine va_get (D := D) (ci := 0) (v := .int 0) (C := RX1) (T := TX1) (N := 3) hx hb hts iX1_stateAt_X1 hown hG.1 hP 0 rfl rfl 1 (by decide) (hts (.fieldLink RX1 18 "MillComplaints$History" "oldest" "I") (List.mem_of_getElem? (i := 1) rfl)) (fun _ h9 => h9) (by show some (Value.int (xx 8 0 0)) = _; rw [ho]) dX1_stateAt_1 ?_
  refine lv_iload_n hx hb dX1_stateAt_4 rfl (lv_at hl 1 rfl) ?_
  refine lv_iadd hx hb dX1_stateAt_5 ?_
  refine lv_tope (y := 3) (by decide) ?_
  refine lv_iconst (v := 4) hx hb dX1_stateAt_6 (by decide) ?_
  refine lv_irem hx hb dX1_stateAt_7 (by decide) ?_
  refine lv_tope (y := 3) (by decide) ?_
  refine lv_istore_n (lv' := [(2, .int 3), (0, .ref (ad 8 0)), (1, .int 3)]) hx hb dX1_stateAt_8 rfl hl (by decide) rfl (fun ls hl => ?_)
  refine lv_iload_n hx hb dX1_stateAt_9 rfl (lv_at hl 0 rfl) ?_
  refine lv_if_lt (tgt := 31) hx hb dX1_stateAt_10 (by decide) (fun c_1 => absurd c_1 (by decide)) (fun _ => ?_)
  refine lv_iload_n hx hb dX1_stateAt_13 rfl (lv_at hl 0 rfl) ?_
  refine lv_aload_n hx hb dX1_stateAt_14 rfl (lv_at hl 1 rfl) ?_
  refine va_get (D := D) (ci := 0) (v := .ref (ad 8 1)) (C := RX1) (T := TX1) (N := 3) hx hb hts iX1_stateAt_X1 hown hG.1 hP 0 rfl rfl 0 (by decide) (hts (.fieldLink RX1 11 "MillComplaints$History" "states" "[LMillComplaints$Village;") (List.mem_of_getElem? (i := 2) rfl)) (fun _ h9 => h9) rfl dX1_stateAt_15 ?_
  refine va_alen (v := 4) hx hb hG.1 hP 1 2 rfl rfl rfl dX1_stateAt_18 ?_
  refine lv_icmp_ge (tgt := 31) hx hb dX1_stateAt_19 (by decide) (fun c_2 => absurd c_2 (by decide)) (fun _ => ?_)
  refine lv_aload_n hx hb dX1_stateAt_22 rfl (lv_at hl 1 rfl) ?_
  refine va_get (D := D) (ci := 0) (v := .ref (ad 8 1)) (C := RX1) (T := TX1) (N := 3) hx hb hts iX1_stateAt_X1 hown hG.1 hP 0 rfl rfl 0 (by decide) (hts (.fieldLink RX1 11 "MillComplaints$History" "states" "[LMillComplaints$Village;") (List.mem_of_getElem? (i := 2) rfl)) (fun _ h9 => h9) rfl dX1_stateAt_23 ?_
  refine lv_iload_n hx hb dX1_stateAt_26 rfl (lv_at hl 0 rfl) ?_
  refine va_aldq (C := RX4) hx hb hG.1 hP 1 2 rfl rfl (ix_n (by decide)) dX1_stateAt_27 ?_
  refine lv_goto (tgt := 32) hx hb dX1_stateAt_28 (by decide) ?_
  exact ro_aret hx hb hr hk (Or.inr ⟨_, rfl⟩) dX1_stateAt_32
set_option maxHeartbeats 4000000 in
set_option maxRecDepth 100000 in
theorem MX1_stateAt_1_m1 (l : Launch) (D : va_G) (q : Nat → ClassId) (ad : Nat → Nat → Nat) (xx : Nat → Nat → Nat → Int32) (ho : xx 8 0 0 = 1) : roM l D (tyq q) yX1_stateAt wsX1_stateAt ({ frames := 0, cells := 0, slots := 0, locals := 0 } : Room) [.ref (ad 8 0), .int (-1)] (wHo q ad xx) (some (.ref ((ad 3) 0))) := by
  refine roM.of (cc := cX1_stateAt) (maxL := 3) (ret := (some (.object "MillComplaints$Village"))) (by decide) rfl (Nat.le_of_ble_eq_true rfl) ?_
  intro p e s m below meth c ls hx hb hr hk hml hown hts hP hD hG hl
  have hl : lv_has ls 3 [(0, .ref (ad 8 0)), (1, .int (-1))] := hl
  refine lv_aload_n hx hb dX1_stateAt_0 rfl (lv_at hl 0 rfl) ?_
  refine va_get (D := D) (ci := 0) (v := .int 1) (C := RX1) (T := TX1) (N := 3) hx hb hts iX1_stateAt_X1 hown hG.1 hP 0 rfl rfl 1 (by decide) (hts (.fieldLink RX1 18 "MillComplaints$History" "oldest" "I") (List.mem_of_getElem? (i := 1) rfl)) (fun _ h9 => h9) (by show some (Value.int (xx 8 0 0)) = _; rw [ho]) dX1_stateAt_1 ?_
  refine lv_iload_n hx hb dX1_stateAt_4 rfl (lv_at hl 1 rfl) ?_
  refine lv_iadd hx hb dX1_stateAt_5 ?_
  refine lv_tope (y := 0) (by decide) ?_
  refine lv_iconst (v := 4) hx hb dX1_stateAt_6 (by decide) ?_
  refine lv_irem hx hb dX1_stateAt_7 (by decide) ?_
  refine lv_tope (y := 0) (by decide) ?_
  refine lv_istore_n (lv' := [(2, .int 0), (0, .ref (ad 8 0)), (1, .int (-1))]) hx hb dX1_stateAt_8 rfl hl (by decide) rfl (fun ls hl => ?_)
  refine lv_iload_n hx hb dX1_stateAt_9 rfl (lv_at hl 0 rfl) ?_
  refine lv_if_lt (tgt := 31) hx hb dX1_stateAt_10 (by decide) (fun c_1 => absurd c_1 (by decide)) (fun _ => ?_)
  refine lv_iload_n hx hb dX1_stateAt_13 rfl (lv_at hl 0 rfl) ?_
  refine lv_aload_n hx hb dX1_stateAt_14 rfl (lv_at hl 1 rfl) ?_
  refine va_get (D := D) (ci := 0) (v := .ref (ad 8 1)) (C := RX1) (T := TX1) (N := 3) hx hb hts iX1_stateAt_X1 hown hG.1 hP 0 rfl rfl 0 (by decide) (hts (.fieldLink RX1 11 "MillComplaints$History" "states" "[LMillComplaints$Village;") (List.mem_of_getElem? (i := 2) rfl)) (fun _ h9 => h9) rfl dX1_stateAt_15 ?_
  refine va_alen (v := 4) hx hb hG.1 hP 1 2 rfl rfl rfl dX1_stateAt_18 ?_
  refine lv_icmp_ge (tgt := 31) hx hb dX1_stateAt_19 (by decide) (fun c_2 => absurd c_2 (by decide)) (fun _ => ?_)
  refine lv_aload_n hx hb dX1_stateAt_22 rfl (lv_at hl 1 rfl) ?_
  refine va_get (D := D) (ci := 0) (v := .ref (ad 8 1)) (C := RX1) (T := TX1) (N := 3) hx hb hts iX1_stateAt_X1 hown hG.1 hP 0 rfl rfl 0 (by decide) (hts (.fieldLink RX1 11 "MillComplaints$History" "states" "[LMillComplaints$Village;") (List.mem_of_getElem? (i := 2) rfl)) (fun _ h9 => h9) rfl dX1_stateAt_23 ?_
  refine lv_iload_n hx hb dX1_stateAt_26 rfl (lv_at hl 0 rfl) ?_
  refine va_aldq (C := RX4) hx hb hG.1 hP 1 2 rfl rfl (ix_n (by decide)) dX1_stateAt_27 ?_
  refine lv_goto (tgt := 32) hx hb dX1_stateAt_28 (by decide) ?_
  exact ro_aret hx hb hr hk (Or.inr ⟨_, rfl⟩) dX1_stateAt_32
set_option maxHeartbeats 4000000 in
set_option maxRecDepth 100000 in
theorem MX1_stateAt_1_0 (l : Launch) (D : va_G) (q : Nat → ClassId) (ad : Nat → Nat → Nat) (xx : Nat → Nat → Nat → Int32) (ho : xx 8 0 0 = 1) : roM l D (tyq q) yX1_stateAt wsX1_stateAt ({ frames := 0, cells := 0, slots := 0, locals := 0 } : Room) [.ref (ad 8 0), .int 0] (wHo q ad xx) (some (.ref ((ad 4) 0))) := by
  refine roM.of (cc := cX1_stateAt) (maxL := 3) (ret := (some (.object "MillComplaints$Village"))) (by decide) rfl (Nat.le_of_ble_eq_true rfl) ?_
  intro p e s m below meth c ls hx hb hr hk hml hown hts hP hD hG hl
  have hl : lv_has ls 3 [(0, .ref (ad 8 0)), (1, .int 0)] := hl
  refine lv_aload_n hx hb dX1_stateAt_0 rfl (lv_at hl 0 rfl) ?_
  refine va_get (D := D) (ci := 0) (v := .int 1) (C := RX1) (T := TX1) (N := 3) hx hb hts iX1_stateAt_X1 hown hG.1 hP 0 rfl rfl 1 (by decide) (hts (.fieldLink RX1 18 "MillComplaints$History" "oldest" "I") (List.mem_of_getElem? (i := 1) rfl)) (fun _ h9 => h9) (by show some (Value.int (xx 8 0 0)) = _; rw [ho]) dX1_stateAt_1 ?_
  refine lv_iload_n hx hb dX1_stateAt_4 rfl (lv_at hl 1 rfl) ?_
  refine lv_iadd hx hb dX1_stateAt_5 ?_
  refine lv_tope (y := 1) (by decide) ?_
  refine lv_iconst (v := 4) hx hb dX1_stateAt_6 (by decide) ?_
  refine lv_irem hx hb dX1_stateAt_7 (by decide) ?_
  refine lv_tope (y := 1) (by decide) ?_
  refine lv_istore_n (lv' := [(2, .int 1), (0, .ref (ad 8 0)), (1, .int 0)]) hx hb dX1_stateAt_8 rfl hl (by decide) rfl (fun ls hl => ?_)
  refine lv_iload_n hx hb dX1_stateAt_9 rfl (lv_at hl 0 rfl) ?_
  refine lv_if_lt (tgt := 31) hx hb dX1_stateAt_10 (by decide) (fun c_1 => absurd c_1 (by decide)) (fun _ => ?_)
  refine lv_iload_n hx hb dX1_stateAt_13 rfl (lv_at hl 0 rfl) ?_
  refine lv_aload_n hx hb dX1_stateAt_14 rfl (lv_at hl 1 rfl) ?_
  refine va_get (D := D) (ci := 0) (v := .ref (ad 8 1)) (C := RX1) (T := TX1) (N := 3) hx hb hts iX1_stateAt_X1 hown hG.1 hP 0 rfl rfl 0 (by decide) (hts (.fieldLink RX1 11 "MillComplaints$History" "states" "[LMillComplaints$Village;") (List.mem_of_getElem? (i := 2) rfl)) (fun _ h9 => h9) rfl dX1_stateAt_15 ?_
  refine va_alen (v := 4) hx hb hG.1 hP 1 2 rfl rfl rfl dX1_stateAt_18 ?_
  refine lv_icmp_ge (tgt := 31) hx hb dX1_stateAt_19 (by decide) (fun c_2 => absurd c_2 (by decide)) (fun _ => ?_)
  refine lv_aload_n hx hb dX1_stateAt_22 rfl (lv_at hl 1 rfl) ?_
  refine va_get (D := D) (ci := 0) (v := .ref (ad 8 1)) (C := RX1) (T := TX1) (N := 3) hx hb hts iX1_stateAt_X1 hown hG.1 hP 0 rfl rfl 0 (by decide) (hts (.fieldLink RX1 11 "MillComplaints$History" "states" "[LMillComplaints$Village;") (List.mem_of_getElem? (i := 2) rfl)) (fun _ h9 => h9) rfl dX1_stateAt_23 ?_
  refine lv_iload_n hx hb dX1_stateAt_26 rfl (lv_at hl 0 rfl) ?_
  refine va_aldq (C := RX4) hx hb hG.1 hP 1 2 rfl rfl (ix_n (by decide)) dX1_stateAt_27 ?_
  refine lv_goto (tgt := 32) hx hb dX1_stateAt_28 (by decide) ?_
  exact ro_aret hx hb hr hk (Or.inr ⟨_, rfl⟩) dX1_stateAt_32
set_option maxHeartbeats 4000000 in
set_option maxRecDepth 100000 in
theorem MX1_stateAt_1_1 (l : Launch) (D : va_G) (q : Nat → ClassId) (ad : Nat → Nat → Nat) (xx : Nat → Nat → Nat → Int32) (ho : xx 8 0 0 = 1) : roM l D (tyq q) yX1_stateAt wsX1_stateAt ({ frames := 0, cells := 0, slots := 0, locals := 0 } : Room) [.ref (ad 8 0), .int 1] (wHo q ad xx) (some (.ref ((ad 5) 0))) := by
  refine roM.of (cc := cX1_stateAt) (maxL := 3) (ret := (some (.object "MillComplaints$Village"))) (by decide) rfl (Nat.le_of_ble_eq_true rfl) ?_
  intro p e s m below meth c ls hx hb hr hk hml hown hts hP hD hG hl
  have hl : lv_has ls 3 [(0, .ref (ad 8 0)), (1, .int 1)] := hl
  refine lv_aload_n hx hb dX1_stateAt_0 rfl (lv_at hl 0 rfl) ?_
  refine va_get (D := D) (ci := 0) (v := .int 1) (C := RX1) (T := TX1) (N := 3) hx hb hts iX1_stateAt_X1 hown hG.1 hP 0 rfl rfl 1 (by decide) (hts (.fieldLink RX1 18 "MillComplaints$History" "oldest" "I") (List.mem_of_getElem? (i := 1) rfl)) (fun _ h9 => h9) (by show some (Value.int (xx 8 0 0)) = _; rw [ho]) dX1_stateAt_1 ?_
  refine lv_iload_n hx hb dX1_stateAt_4 rfl (lv_at hl 1 rfl) ?_
  refine lv_iadd hx hb dX1_stateAt_5 ?_
  refine lv_tope (y := 2) (by decide) ?_
  refine lv_iconst (v := 4) hx hb dX1_stateAt_6 (by decide) ?_
  refine lv_irem hx hb dX1_stateAt_7 (by decide) ?_
  refine lv_tope (y := 2) (by decide) ?_
  refine lv_istore_n (lv' := [(2, .int 2), (0, .ref (ad 8 0)), (1, .int 1)]) hx hb dX1_stateAt_8 rfl hl (by decide) rfl (fun ls hl => ?_)
  refine lv_iload_n hx hb dX1_stateAt_9 rfl (lv_at hl 0 rfl) ?_
  refine lv_if_lt (tgt := 31) hx hb dX1_stateAt_10 (by decide) (fun c_1 => absurd c_1 (by decide)) (fun _ => ?_)
  refine lv_iload_n hx hb dX1_stateAt_13 rfl (lv_at hl 0 rfl) ?_
  refine lv_aload_n hx hb dX1_stateAt_14 rfl (lv_at hl 1 rfl) ?_
  refine va_get (D := D) (ci := 0) (v := .ref (ad 8 1)) (C := RX1) (T := TX1) (N := 3) hx hb hts iX1_stateAt_X1 hown hG.1 hP 0 rfl rfl 0 (by decide) (hts (.fieldLink RX1 11 "MillComplaints$History" "states" "[LMillComplaints$Village;") (List.mem_of_getElem? (i := 2) rfl)) (fun _ h9 => h9) rfl dX1_stateAt_15 ?_
  refine va_alen (v := 4) hx hb hG.1 hP 1 2 rfl rfl rfl dX1_stateAt_18 ?_
  refine lv_icmp_ge (tgt := 31) hx hb dX1_stateAt_19 (by decide) (fun c_2 => absurd c_2 (by decide)) (fun _ => ?_)
  refine lv_aload_n hx hb dX1_stateAt_22 rfl (lv_at hl 1 rfl) ?_
  refine va_get (D := D) (ci := 0) (v := .ref (ad 8 1)) (C := RX1) (T := TX1) (N := 3) hx hb hts iX1_stateAt_X1 hown hG.1 hP 0 rfl rfl 0 (by decide) (hts (.fieldLink RX1 11 "MillComplaints$History" "states" "[LMillComplaints$Village;") (List.mem_of_getElem? (i := 2) rfl)) (fun _ h9 => h9) rfl dX1_stateAt_23 ?_
  refine lv_iload_n hx hb dX1_stateAt_26 rfl (lv_at hl 0 rfl) ?_
  refine va_aldq (C := RX4) hx hb hG.1 hP 1 2 rfl rfl (ix_n (by decide)) dX1_stateAt_27 ?_
  refine lv_goto (tgt := 32) hx hb dX1_stateAt_28 (by decide) ?_
  exact ro_aret hx hb hr hk (Or.inr ⟨_, rfl⟩) dX1_stateAt_32
set_option maxHeartbeats 4000000 in
set_option maxRecDepth 100000 in
theorem MX1_stateAt_1_2 (l : Launch) (D : va_G) (q : Nat → ClassId) (ad : Nat → Nat → Nat) (xx : Nat → Nat → Nat → Int32) (ho : xx 8 0 0 = 1) : roM l D (tyq q) yX1_stateAt wsX1_stateAt ({ frames := 0, cells := 0, slots := 0, locals := 0 } : Room) [.ref (ad 8 0), .int 2] (wHo q ad xx) (some (.ref ((ad 6) 0))) := by
  refine roM.of (cc := cX1_stateAt) (maxL := 3) (ret := (some (.object "MillComplaints$Village"))) (by decide) rfl (Nat.le_of_ble_eq_true rfl) ?_
  intro p e s m below meth c ls hx hb hr hk hml hown hts hP hD hG hl
  have hl : lv_has ls 3 [(0, .ref (ad 8 0)), (1, .int 2)] := hl
  refine lv_aload_n hx hb dX1_stateAt_0 rfl (lv_at hl 0 rfl) ?_
  refine va_get (D := D) (ci := 0) (v := .int 1) (C := RX1) (T := TX1) (N := 3) hx hb hts iX1_stateAt_X1 hown hG.1 hP 0 rfl rfl 1 (by decide) (hts (.fieldLink RX1 18 "MillComplaints$History" "oldest" "I") (List.mem_of_getElem? (i := 1) rfl)) (fun _ h9 => h9) (by show some (Value.int (xx 8 0 0)) = _; rw [ho]) dX1_stateAt_1 ?_
  refine lv_iload_n hx hb dX1_stateAt_4 rfl (lv_at hl 1 rfl) ?_
  refine lv_iadd hx hb dX1_stateAt_5 ?_
  refine lv_tope (y := 3) (by decide) ?_
  refine lv_iconst (v := 4) hx hb dX1_stateAt_6 (by decide) ?_
  refine lv_irem hx hb dX1_stateAt_7 (by decide) ?_
  refine lv_tope (y := 3) (by decide) ?_
  refine lv_istore_n (lv' := [(2, .int 3), (0, .ref (ad 8 0)), (1, .int 2)]) hx hb dX1_stateAt_8 rfl hl (by decide) rfl (fun ls hl => ?_)
  refine lv_iload_n hx hb dX1_stateAt_9 rfl (lv_at hl 0 rfl) ?_
  refine lv_if_lt (tgt := 31) hx hb dX1_stateAt_10 (by decide) (fun c_1 => absurd c_1 (by decide)) (fun _ => ?_)
  refine lv_iload_n hx hb dX1_stateAt_13 rfl (lv_at hl 0 rfl) ?_
  refine lv_aload_n hx hb dX1_stateAt_14 rfl (lv_at hl 1 rfl) ?_
  refine va_get (D := D) (ci := 0) (v := .ref (ad 8 1)) (C := RX1) (T := TX1) (N := 3) hx hb hts iX1_stateAt_X1 hown hG.1 hP 0 rfl rfl 0 (by decide) (hts (.fieldLink RX1 11 "MillComplaints$History" "states" "[LMillComplaints$Village;") (List.mem_of_getElem? (i := 2) rfl)) (fun _ h9 => h9) rfl dX1_stateAt_15 ?_
  refine va_alen (v := 4) hx hb hG.1 hP 1 2 rfl rfl rfl dX1_stateAt_18 ?_
  refine lv_icmp_ge (tgt := 31) hx hb dX1_stateAt_19 (by decide) (fun c_2 => absurd c_2 (by decide)) (fun _ => ?_)
  refine lv_aload_n hx hb dX1_stateAt_22 rfl (lv_at hl 1 rfl) ?_
  refine va_get (D := D) (ci := 0) (v := .ref (ad 8 1)) (C := RX1) (T := TX1) (N := 3) hx hb hts iX1_stateAt_X1 hown hG.1 hP 0 rfl rfl 0 (by decide) (hts (.fieldLink RX1 11 "MillComplaints$History" "states" "[LMillComplaints$Village;") (List.mem_of_getElem? (i := 2) rfl)) (fun _ h9 => h9) rfl dX1_stateAt_23 ?_
  refine lv_iload_n hx hb dX1_stateAt_26 rfl (lv_at hl 0 rfl) ?_
  refine va_aldq (C := RX4) hx hb hG.1 hP 1 2 rfl rfl (ix_n (by decide)) dX1_stateAt_27 ?_
  refine lv_goto (tgt := 32) hx hb dX1_stateAt_28 (by decide) ?_
  exact ro_aret hx hb hr hk (Or.inr ⟨_, rfl⟩) dX1_stateAt_32
set_option maxHeartbeats 4000000 in
set_option maxRecDepth 100000 in
theorem MX1_stateAt_1_3 (l : Launch) (D : va_G) (q : Nat → ClassId) (ad : Nat → Nat → Nat) (xx : Nat → Nat → Nat → Int32) (ho : xx 8 0 0 = 1) : roM l D (tyq q) yX1_stateAt wsX1_stateAt ({ frames := 0, cells := 0, slots := 0, locals := 0 } : Room) [.ref (ad 8 0), .int 3] (wHo q ad xx) (some (.ref ((ad 3) 0))) := by
  refine roM.of (cc := cX1_stateAt) (maxL := 3) (ret := (some (.object "MillComplaints$Village"))) (by decide) rfl (Nat.le_of_ble_eq_true rfl) ?_
  intro p e s m below meth c ls hx hb hr hk hml hown hts hP hD hG hl
  have hl : lv_has ls 3 [(0, .ref (ad 8 0)), (1, .int 3)] := hl
  refine lv_aload_n hx hb dX1_stateAt_0 rfl (lv_at hl 0 rfl) ?_
  refine va_get (D := D) (ci := 0) (v := .int 1) (C := RX1) (T := TX1) (N := 3) hx hb hts iX1_stateAt_X1 hown hG.1 hP 0 rfl rfl 1 (by decide) (hts (.fieldLink RX1 18 "MillComplaints$History" "oldest" "I") (List.mem_of_getElem? (i := 1) rfl)) (fun _ h9 => h9) (by show some (Value.int (xx 8 0 0)) = _; rw [ho]) dX1_stateAt_1 ?_
  refine lv_iload_n hx hb dX1_stateAt_4 rfl (lv_at hl 1 rfl) ?_
  refine lv_iadd hx hb dX1_stateAt_5 ?_
  refine lv_tope (y := 4) (by decide) ?_
  refine lv_iconst (v := 4) hx hb dX1_stateAt_6 (by decide) ?_
  refine lv_irem hx hb dX1_stateAt_7 (by decide) ?_
  refine lv_tope (y := 0) (by decide) ?_
  refine lv_istore_n (lv' := [(2, .int 0), (0, .ref (ad 8 0)), (1, .int 3)]) hx hb dX1_stateAt_8 rfl hl (by decide) rfl (fun ls hl => ?_)
  refine lv_iload_n hx hb dX1_stateAt_9 rfl (lv_at hl 0 rfl) ?_
  refine lv_if_lt (tgt := 31) hx hb dX1_stateAt_10 (by decide) (fun c_1 => absurd c_1 (by decide)) (fun _ => ?_)
  refine lv_iload_n hx hb dX1_stateAt_13 rfl (lv_at hl 0 rfl) ?_
  refine lv_aload_n hx hb dX1_stateAt_14 rfl (lv_at hl 1 rfl) ?_
  refine va_get (D := D) (ci := 0) (v := .ref (ad 8 1)) (C := RX1) (T := TX1) (N := 3) hx hb hts iX1_stateAt_X1 hown hG.1 hP 0 rfl rfl 0 (by decide) (hts (.fieldLink RX1 11 "MillComplaints$History" "states" "[LMillComplaints$Village;") (List.mem_of_getElem? (i := 2) rfl)) (fun _ h9 => h9) rfl dX1_stateAt_15 ?_
  refine va_alen (v := 4) hx hb hG.1 hP 1 2 rfl rfl rfl dX1_stateAt_18 ?_
  refine lv_icmp_ge (tgt := 31) hx hb dX1_stateAt_19 (by decide) (fun c_2 => absurd c_2 (by decide)) (fun _ => ?_)
  refine lv_aload_n hx hb dX1_stateAt_22 rfl (lv_at hl 1 rfl) ?_
  refine va_get (D := D) (ci := 0) (v := .ref (ad 8 1)) (C := RX1) (T := TX1) (N := 3) hx hb hts iX1_stateAt_X1 hown hG.1 hP 0 rfl rfl 0 (by decide) (hts (.fieldLink RX1 11 "MillComplaints$History" "states" "[LMillComplaints$Village;") (List.mem_of_getElem? (i := 2) rfl)) (fun _ h9 => h9) rfl dX1_stateAt_23 ?_
  refine lv_iload_n hx hb dX1_stateAt_26 rfl (lv_at hl 0 rfl) ?_
  refine va_aldq (C := RX4) hx hb hG.1 hP 1 2 rfl rfl (ix_n (by decide)) dX1_stateAt_27 ?_
  refine lv_goto (tgt := 32) hx hb dX1_stateAt_28 (by decide) ?_
  exact ro_aret hx hb hr hk (Or.inr ⟨_, rfl⟩) dX1_stateAt_32
set_option maxHeartbeats 4000000 in
set_option maxRecDepth 100000 in
theorem MX1_stateAt_2_m1 (l : Launch) (D : va_G) (q : Nat → ClassId) (ad : Nat → Nat → Nat) (xx : Nat → Nat → Nat → Int32) (ho : xx 8 0 0 = 2) : roM l D (tyq q) yX1_stateAt wsX1_stateAt ({ frames := 0, cells := 0, slots := 0, locals := 0 } : Room) [.ref (ad 8 0), .int (-1)] (wHo q ad xx) (some (.ref ((ad 4) 0))) := by
  refine roM.of (cc := cX1_stateAt) (maxL := 3) (ret := (some (.object "MillComplaints$Village"))) (by decide) rfl (Nat.le_of_ble_eq_true rfl) ?_
  intro p e s m below meth c ls hx hb hr hk hml hown hts hP hD hG hl
  have hl : lv_has ls 3 [(0, .ref (ad 8 0)), (1, .int (-1))] := hl
  refine lv_aload_n hx hb dX1_stateAt_0 rfl (lv_at hl 0 rfl) ?_
  refine va_get (D := D) (ci := 0) (v := .int 2) (C := RX1) (T := TX1) (N := 3) hx hb hts iX1_stateAt_X1 hown hG.1 hP 0 rfl rfl 1 (by decide) (hts (.fieldLink RX1 18 "MillComplaints$History" "oldest" "I") (List.mem_of_getElem? (i := 1) rfl)) (fun _ h9 => h9) (by show some (Value.int (xx 8 0 0)) = _; rw [ho]) dX1_stateAt_1 ?_
  refine lv_iload_n hx hb dX1_stateAt_4 rfl (lv_at hl 1 rfl) ?_
  refine lv_iadd hx hb dX1_stateAt_5 ?_
  refine lv_tope (y := 1) (by decide) ?_
  refine lv_iconst (v := 4) hx hb dX1_stateAt_6 (by decide) ?_
  refine lv_irem hx hb dX1_stateAt_7 (by decide) ?_
  refine lv_tope (y := 1) (by decide) ?_
  refine lv_istore_n (lv' := [(2, .int 1), (0, .ref (ad 8 0)), (1, .int (-1))]) hx hb dX1_stateAt_8 rfl hl (by decide) rfl (fun ls hl => ?_)
  refine lv_iload_n hx hb dX1_stateAt_9 rfl (lv_at hl 0 rfl) ?_
  refine lv_if_lt (tgt := 31) hx hb dX1_stateAt_10 (by decide) (fun c_1 => absurd c_1 (by decide)) (fun _ => ?_)
  refine lv_iload_n hx hb dX1_stateAt_13 rfl (lv_at hl 0 rfl) ?_
  refine lv_aload_n hx hb dX1_stateAt_14 rfl (lv_at hl 1 rfl) ?_
  refine va_get (D := D) (ci := 0) (v := .ref (ad 8 1)) (C := RX1) (T := TX1) (N := 3) hx hb hts iX1_stateAt_X1 hown hG.1 hP 0 rfl rfl 0 (by decide) (hts (.fieldLink RX1 11 "MillComplaints$History" "states" "[LMillComplaints$Village;") (List.mem_of_getElem? (i := 2) rfl)) (fun _ h9 => h9) rfl dX1_stateAt_15 ?_
  refine va_alen (v := 4) hx hb hG.1 hP 1 2 rfl rfl rfl dX1_stateAt_18 ?_
  refine lv_icmp_ge (tgt := 31) hx hb dX1_stateAt_19 (by decide) (fun c_2 => absurd c_2 (by decide)) (fun _ => ?_)
  refine lv_aload_n hx hb dX1_stateAt_22 rfl (lv_at hl 1 rfl) ?_
  refine va_get (D := D) (ci := 0) (v := .ref (ad 8 1)) (C := RX1) (T := TX1) (N := 3) hx hb hts iX1_stateAt_X1 hown hG.1 hP 0 rfl rfl 0 (by decide) (hts (.fieldLink RX1 11 "MillComplaints$History" "states" "[LMillComplaints$Village;") (List.mem_of_getElem? (i := 2) rfl)) (fun _ h9 => h9) rfl dX1_stateAt_23 ?_
  refine lv_iload_n hx hb dX1_stateAt_26 rfl (lv_at hl 0 rfl) ?_
  refine va_aldq (C := RX4) hx hb hG.1 hP 1 2 rfl rfl (ix_n (by decide)) dX1_stateAt_27 ?_
  refine lv_goto (tgt := 32) hx hb dX1_stateAt_28 (by decide) ?_
  exact ro_aret hx hb hr hk (Or.inr ⟨_, rfl⟩) dX1_stateAt_32
set_option maxHeartbeats 4000000 in
set_option maxRecDepth 100000 in
theorem MX1_stateAt_2_0 (l : Launch) (D : va_G) (q : Nat → ClassId) (ad : Nat → Nat → Nat) (xx : Nat → Nat → Nat → Int32) (ho : xx 8 0 0 = 2) : roM l D (tyq q) yX1_stateAt wsX1_stateAt ({ frames := 0, cells := 0, slots := 0, locals := 0 } : Room) [.ref (ad 8 0), .int 0] (wHo q ad xx) (some (.ref ((ad 5) 0))) := by
  refine roM.of (cc := cX1_stateAt) (maxL := 3) (ret := (some (.object "MillComplaints$Village"))) (by decide) rfl (Nat.le_of_ble_eq_true rfl) ?_
  intro p e s m below meth c ls hx hb hr hk hml hown hts hP hD hG hl
  have hl : lv_has ls 3 [(0, .ref (ad 8 0)), (1, .int 0)] := hl
  refine lv_aload_n hx hb dX1_stateAt_0 rfl (lv_at hl 0 rfl) ?_
  refine va_get (D := D) (ci := 0) (v := .int 2) (C := RX1) (T := TX1) (N := 3) hx hb hts iX1_stateAt_X1 hown hG.1 hP 0 rfl rfl 1 (by decide) (hts (.fieldLink RX1 18 "MillComplaints$History" "oldest" "I") (List.mem_of_getElem? (i := 1) rfl)) (fun _ h9 => h9) (by show some (Value.int (xx 8 0 0)) = _; rw [ho]) dX1_stateAt_1 ?_
  refine lv_iload_n hx hb dX1_stateAt_4 rfl (lv_at hl 1 rfl) ?_
  refine lv_iadd hx hb dX1_stateAt_5 ?_
  refine lv_tope (y := 2) (by decide) ?_
  refine lv_iconst (v := 4) hx hb dX1_stateAt_6 (by decide) ?_
  refine lv_irem hx hb dX1_stateAt_7 (by decide) ?_
  refine lv_tope (y := 2) (by decide) ?_
  refine lv_istore_n (lv' := [(2, .int 2), (0, .ref (ad 8 0)), (1, .int 0)]) hx hb dX1_stateAt_8 rfl hl (by decide) rfl (fun ls hl => ?_)
  refine lv_iload_n hx hb dX1_stateAt_9 rfl (lv_at hl 0 rfl) ?_
  refine lv_if_lt (tgt := 31) hx hb dX1_stateAt_10 (by decide) (fun c_1 => absurd c_1 (by decide)) (fun _ => ?_)
  refine lv_iload_n hx hb dX1_stateAt_13 rfl (lv_at hl 0 rfl) ?_
  refine lv_aload_n hx hb dX1_stateAt_14 rfl (lv_at hl 1 rfl) ?_
  refine va_get (D := D) (ci := 0) (v := .ref (ad 8 1)) (C := RX1) (T := TX1) (N := 3) hx hb hts iX1_stateAt_X1 hown hG.1 hP 0 rfl rfl 0 (by decide) (hts (.fieldLink RX1 11 "MillComplaints$History" "states" "[LMillComplaints$Village;") (List.mem_of_getElem? (i := 2) rfl)) (fun _ h9 => h9) rfl dX1_stateAt_15 ?_
  refine va_alen (v := 4) hx hb hG.1 hP 1 2 rfl rfl rfl dX1_stateAt_18 ?_
  refine lv_icmp_ge (tgt := 31) hx hb dX1_stateAt_19 (by decide) (fun c_2 => absurd c_2 (by decide)) (fun _ => ?_)
  refine lv_aload_n hx hb dX1_stateAt_22 rfl (lv_at hl 1 rfl) ?_
  refine va_get (D := D) (ci := 0) (v := .ref (ad 8 1)) (C := RX1) (T := TX1) (N := 3) hx hb hts iX1_stateAt_X1 hown hG.1 hP 0 rfl rfl 0 (by decide) (hts (.fieldLink RX1 11 "MillComplaints$History" "states" "[LMillComplaints$Village;") (List.mem_of_getElem? (i := 2) rfl)) (fun _ h9 => h9) rfl dX1_stateAt_23 ?_
  refine lv_iload_n hx hb dX1_stateAt_26 rfl (lv_at hl 0 rfl) ?_
  refine va_aldq (C := RX4) hx hb hG.1 hP 1 2 rfl rfl (ix_n (by decide)) dX1_stateAt_27 ?_
  refine lv_goto (tgt := 32) hx hb dX1_stateAt_28 (by decide) ?_
  exact ro_aret hx hb hr hk (Or.inr ⟨_, rfl⟩) dX1_stateAt_32
set_option maxHeartbeats 4000000 in
set_option maxRecDepth 100000 in
theorem MX1_stateAt_2_1 (l : Launch) (D : va_G) (q : Nat → ClassId) (ad : Nat → Nat → Nat) (xx : Nat → Nat → Nat → Int32) (ho : xx 8 0 0 = 2) : roM l D (tyq q) yX1_stateAt wsX1_stateAt ({ frames := 0, cells := 0, slots := 0, locals := 0 } : Room) [.ref (ad 8 0), .int 1] (wHo q ad xx) (some (.ref ((ad 6) 0))) := by
  refine roM.of (cc := cX1_stateAt) (maxL := 3) (ret := (some (.object "MillComplaints$Village"))) (by decide) rfl (Nat.le_of_ble_eq_true rfl) ?_
  intro p e s m below meth c ls hx hb hr hk hml hown hts hP hD hG hl
  have hl : lv_has ls 3 [(0, .ref (ad 8 0)), (1, .int 1)] := hl
  refine lv_aload_n hx hb dX1_stateAt_0 rfl (lv_at hl 0 rfl) ?_
  refine va_get (D := D) (ci := 0) (v := .int 2) (C := RX1) (T := TX1) (N := 3) hx hb hts iX1_stateAt_X1 hown hG.1 hP 0 rfl rfl 1 (by decide) (hts (.fieldLink RX1 18 "MillComplaints$History" "oldest" "I") (List.mem_of_getElem? (i := 1) rfl)) (fun _ h9 => h9) (by show some (Value.int (xx 8 0 0)) = _; rw [ho]) dX1_stateAt_1 ?_
  refine lv_iload_n hx hb dX1_stateAt_4 rfl (lv_at hl 1 rfl) ?_
  refine lv_iadd hx hb dX1_stateAt_5 ?_
  refine lv_tope (y := 3) (by decide) ?_
  refine lv_iconst (v := 4) hx hb dX1_stateAt_6 (by decide) ?_
  refine lv_irem hx hb dX1_stateAt_7 (by decide) ?_
  refine lv_tope (y := 3) (by decide) ?_
  refine lv_istore_n (lv' := [(2, .int 3), (0, .ref (ad 8 0)), (1, .int 1)]) hx hb dX1_stateAt_8 rfl hl (by decide) rfl (fun ls hl => ?_)
  refine lv_iload_n hx hb dX1_stateAt_9 rfl (lv_at hl 0 rfl) ?_
  refine lv_if_lt (tgt := 31) hx hb dX1_stateAt_10 (by decide) (fun c_1 => absurd c_1 (by decide)) (fun _ => ?_)
  refine lv_iload_n hx hb dX1_stateAt_13 rfl (lv_at hl 0 rfl) ?_
  refine lv_aload_n hx hb dX1_stateAt_14 rfl (lv_at hl 1 rfl) ?_
  refine va_get (D := D) (ci := 0) (v := .ref (ad 8 1)) (C := RX1) (T := TX1) (N := 3) hx hb hts iX1_stateAt_X1 hown hG.1 hP 0 rfl rfl 0 (by decide) (hts (.fieldLink RX1 11 "MillComplaints$History" "states" "[LMillComplaints$Village;") (List.mem_of_getElem? (i := 2) rfl)) (fun _ h9 => h9) rfl dX1_stateAt_15 ?_
  refine va_alen (v := 4) hx hb hG.1 hP 1 2 rfl rfl rfl dX1_stateAt_18 ?_
  refine lv_icmp_ge (tgt := 31) hx hb dX1_stateAt_19 (by decide) (fun c_2 => absurd c_2 (by decide)) (fun _ => ?_)
  refine lv_aload_n hx hb dX1_stateAt_22 rfl (lv_at hl 1 rfl) ?_
  refine va_get (D := D) (ci := 0) (v := .ref (ad 8 1)) (C := RX1) (T := TX1) (N := 3) hx hb hts iX1_stateAt_X1 hown hG.1 hP 0 rfl rfl 0 (by decide) (hts (.fieldLink RX1 11 "MillComplaints$History" "states" "[LMillComplaints$Village;") (List.mem_of_getElem? (i := 2) rfl)) (fun _ h9 => h9) rfl dX1_stateAt_23 ?_
  refine lv_iload_n hx hb dX1_stateAt_26 rfl (lv_at hl 0 rfl) ?_
  refine va_aldq (C := RX4) hx hb hG.1 hP 1 2 rfl rfl (ix_n (by decide)) dX1_stateAt_27 ?_
  refine lv_goto (tgt := 32) hx hb dX1_stateAt_28 (by decide) ?_
  exact ro_aret hx hb hr hk (Or.inr ⟨_, rfl⟩) dX1_stateAt_32
set_option maxHeartbeats 4000000 in
set_option maxRecDepth 100000 in
theorem MX1_stateAt_2_2 (l : Launch) (D : va_G) (q : Nat → ClassId) (ad : Nat → Nat → Nat) (xx : Nat → Nat → Nat → Int32) (ho : xx 8 0 0 = 2) : roM l D (tyq q) yX1_stateAt wsX1_stateAt ({ frames := 0, cells := 0, slots := 0, locals := 0 } : Room) [.ref (ad 8 0), .int 2] (wHo q ad xx) (some (.ref ((ad 3) 0))) := by
  refine roM.of (cc := cX1_stateAt) (maxL := 3) (ret := (some (.object "MillComplaints$Village"))) (by decide) rfl (Nat.le_of_ble_eq_true rfl) ?_
  intro p e s m below meth c ls hx hb hr hk hml hown hts hP hD hG hl
  have hl : lv_has ls 3 [(0, .ref (ad 8 0)), (1, .int 2)] := hl
  refine lv_aload_n hx hb dX1_stateAt_0 rfl (lv_at hl 0 rfl) ?_
  refine va_get (D := D) (ci := 0) (v := .int 2) (C := RX1) (T := TX1) (N := 3) hx hb hts iX1_stateAt_X1 hown hG.1 hP 0 rfl rfl 1 (by decide) (hts (.fieldLink RX1 18 "MillComplaints$History" "oldest" "I") (List.mem_of_getElem? (i := 1) rfl)) (fun _ h9 => h9) (by show some (Value.int (xx 8 0 0)) = _; rw [ho]) dX1_stateAt_1 ?_
  refine lv_iload_n hx hb dX1_stateAt_4 rfl (lv_at hl 1 rfl) ?_
  refine lv_iadd hx hb dX1_stateAt_5 ?_
  refine lv_tope (y := 4) (by decide) ?_
  refine lv_iconst (v := 4) hx hb dX1_stateAt_6 (by decide) ?_
  refine lv_irem hx hb dX1_stateAt_7 (by decide) ?_
  refine lv_tope (y := 0) (by decide) ?_
  refine lv_istore_n (lv' := [(2, .int 0), (0, .ref (ad 8 0)), (1, .int 2)]) hx hb dX1_stateAt_8 rfl hl (by decide) rfl (fun ls hl => ?_)
  refine lv_iload_n hx hb dX1_stateAt_9 rfl (lv_at hl 0 rfl) ?_
  refine lv_if_lt (tgt := 31) hx hb dX1_stateAt_10 (by decide) (fun c_1 => absurd c_1 (by decide)) (fun _ => ?_)
  refine lv_iload_n hx hb dX1_stateAt_13 rfl (lv_at hl 0 rfl) ?_
  refine lv_aload_n hx hb dX1_stateAt_14 rfl (lv_at hl 1 rfl) ?_
  refine va_get (D := D) (ci := 0) (v := .ref (ad 8 1)) (C := RX1) (T := TX1) (N := 3) hx hb hts iX1_stateAt_X1 hown hG.1 hP 0 rfl rfl 0 (by decide) (hts (.fieldLink RX1 11 "MillComplaints$History" "states" "[LMillComplaints$Village;") (List.mem_of_getElem? (i := 2) rfl)) (fun _ h9 => h9) rfl dX1_stateAt_15 ?_
  refine va_alen (v := 4) hx hb hG.1 hP 1 2 rfl rfl rfl dX1_stateAt_18 ?_
  refine lv_icmp_ge (tgt := 31) hx hb dX1_stateAt_19 (by decide) (fun c_2 => absurd c_2 (by decide)) (fun _ => ?_)
  refine lv_aload_n hx hb dX1_stateAt_22 rfl (lv_at hl 1 rfl) ?_
  refine va_get (D := D) (ci := 0) (v := .ref (ad 8 1)) (C := RX1) (T := TX1) (N := 3) hx hb hts iX1_stateAt_X1 hown hG.1 hP 0 rfl rfl 0 (by decide) (hts (.fieldLink RX1 11 "MillComplaints$History" "states" "[LMillComplaints$Village;") (List.mem_of_getElem? (i := 2) rfl)) (fun _ h9 => h9) rfl dX1_stateAt_23 ?_
  refine lv_iload_n hx hb dX1_stateAt_26 rfl (lv_at hl 0 rfl) ?_
  refine va_aldq (C := RX4) hx hb hG.1 hP 1 2 rfl rfl (ix_n (by decide)) dX1_stateAt_27 ?_
  refine lv_goto (tgt := 32) hx hb dX1_stateAt_28 (by decide) ?_
  exact ro_aret hx hb hr hk (Or.inr ⟨_, rfl⟩) dX1_stateAt_32
set_option maxHeartbeats 4000000 in
set_option maxRecDepth 100000 in
theorem MX1_stateAt_2_3 (l : Launch) (D : va_G) (q : Nat → ClassId) (ad : Nat → Nat → Nat) (xx : Nat → Nat → Nat → Int32) (ho : xx 8 0 0 = 2) : roM l D (tyq q) yX1_stateAt wsX1_stateAt ({ frames := 0, cells := 0, slots := 0, locals := 0 } : Room) [.ref (ad 8 0), .int 3] (wHo q ad xx) (some (.ref ((ad 4) 0))) := by
  refine roM.of (cc := cX1_stateAt) (maxL := 3) (ret := (some (.object "MillComplaints$Village"))) (by decide) rfl (Nat.le_of_ble_eq_true rfl) ?_
  intro p e s m below meth c ls hx hb hr hk hml hown hts hP hD hG hl
  have hl : lv_has ls 3 [(0, .ref (ad 8 0)), (1, .int 3)] := hl
  refine lv_aload_n hx hb dX1_stateAt_0 rfl (lv_at hl 0 rfl) ?_
  refine va_get (D := D) (ci := 0) (v := .int 2) (C := RX1) (T := TX1) (N := 3) hx hb hts iX1_stateAt_X1 hown hG.1 hP 0 rfl rfl 1 (by decide) (hts (.fieldLink RX1 18 "MillComplaints$History" "oldest" "I") (List.mem_of_getElem? (i := 1) rfl)) (fun _ h9 => h9) (by show some (Value.int (xx 8 0 0)) = _; rw [ho]) dX1_stateAt_1 ?_
  refine lv_iload_n hx hb dX1_stateAt_4 rfl (lv_at hl 1 rfl) ?_
  refine lv_iadd hx hb dX1_stateAt_5 ?_
  refine lv_tope (y := 5) (by decide) ?_
  refine lv_iconst (v := 4) hx hb dX1_stateAt_6 (by decide) ?_
  refine lv_irem hx hb dX1_stateAt_7 (by decide) ?_
  refine lv_tope (y := 1) (by decide) ?_
  refine lv_istore_n (lv' := [(2, .int 1), (0, .ref (ad 8 0)), (1, .int 3)]) hx hb dX1_stateAt_8 rfl hl (by decide) rfl (fun ls hl => ?_)
  refine lv_iload_n hx hb dX1_stateAt_9 rfl (lv_at hl 0 rfl) ?_
  refine lv_if_lt (tgt := 31) hx hb dX1_stateAt_10 (by decide) (fun c_1 => absurd c_1 (by decide)) (fun _ => ?_)
  refine lv_iload_n hx hb dX1_stateAt_13 rfl (lv_at hl 0 rfl) ?_
  refine lv_aload_n hx hb dX1_stateAt_14 rfl (lv_at hl 1 rfl) ?_
  refine va_get (D := D) (ci := 0) (v := .ref (ad 8 1)) (C := RX1) (T := TX1) (N := 3) hx hb hts iX1_stateAt_X1 hown hG.1 hP 0 rfl rfl 0 (by decide) (hts (.fieldLink RX1 11 "MillComplaints$History" "states" "[LMillComplaints$Village;") (List.mem_of_getElem? (i := 2) rfl)) (fun _ h9 => h9) rfl dX1_stateAt_15 ?_
  refine va_alen (v := 4) hx hb hG.1 hP 1 2 rfl rfl rfl dX1_stateAt_18 ?_
  refine lv_icmp_ge (tgt := 31) hx hb dX1_stateAt_19 (by decide) (fun c_2 => absurd c_2 (by decide)) (fun _ => ?_)
  refine lv_aload_n hx hb dX1_stateAt_22 rfl (lv_at hl 1 rfl) ?_
  refine va_get (D := D) (ci := 0) (v := .ref (ad 8 1)) (C := RX1) (T := TX1) (N := 3) hx hb hts iX1_stateAt_X1 hown hG.1 hP 0 rfl rfl 0 (by decide) (hts (.fieldLink RX1 11 "MillComplaints$History" "states" "[LMillComplaints$Village;") (List.mem_of_getElem? (i := 2) rfl)) (fun _ h9 => h9) rfl dX1_stateAt_23 ?_
  refine lv_iload_n hx hb dX1_stateAt_26 rfl (lv_at hl 0 rfl) ?_
  refine va_aldq (C := RX4) hx hb hG.1 hP 1 2 rfl rfl (ix_n (by decide)) dX1_stateAt_27 ?_
  refine lv_goto (tgt := 32) hx hb dX1_stateAt_28 (by decide) ?_
  exact ro_aret hx hb hr hk (Or.inr ⟨_, rfl⟩) dX1_stateAt_32
set_option maxHeartbeats 4000000 in
set_option maxRecDepth 100000 in
theorem MX1_stateAt_3_m1 (l : Launch) (D : va_G) (q : Nat → ClassId) (ad : Nat → Nat → Nat) (xx : Nat → Nat → Nat → Int32) (ho : xx 8 0 0 = 3) : roM l D (tyq q) yX1_stateAt wsX1_stateAt ({ frames := 0, cells := 0, slots := 0, locals := 0 } : Room) [.ref (ad 8 0), .int (-1)] (wHo q ad xx) (some (.ref ((ad 5) 0))) := by
  refine roM.of (cc := cX1_stateAt) (maxL := 3) (ret := (some (.object "MillComplaints$Village"))) (by decide) rfl (Nat.le_of_ble_eq_true rfl) ?_
  intro p e s m below meth c ls hx hb hr hk hml hown hts hP hD hG hl
  have hl : lv_has ls 3 [(0, .ref (ad 8 0)), (1, .int (-1))] := hl
  refine lv_aload_n hx hb dX1_stateAt_0 rfl (lv_at hl 0 rfl) ?_
  refine va_get (D := D) (ci := 0) (v := .int 3) (C := RX1) (T := TX1) (N := 3) hx hb hts iX1_stateAt_X1 hown hG.1 hP 0 rfl rfl 1 (by decide) (hts (.fieldLink RX1 18 "MillComplaints$History" "oldest" "I") (List.mem_of_getElem? (i := 1) rfl)) (fun _ h9 => h9) (by show some (Value.int (xx 8 0 0)) = _; rw [ho]) dX1_stateAt_1 ?_
  refine lv_iload_n hx hb dX1_stateAt_4 rfl (lv_at hl 1 rfl) ?_
  refine lv_iadd hx hb dX1_stateAt_5 ?_
  refine lv_tope (y := 2) (by decide) ?_
  refine lv_iconst (v := 4) hx hb dX1_stateAt_6 (by decide) ?_
  refine lv_irem hx hb dX1_stateAt_7 (by decide) ?_
  refine lv_tope (y := 2) (by decide) ?_
  refine lv_istore_n (lv' := [(2, .int 2), (0, .ref (ad 8 0)), (1, .int (-1))]) hx hb dX1_stateAt_8 rfl hl (by decide) rfl (fun ls hl => ?_)
  refine lv_iload_n hx hb dX1_stateAt_9 rfl (lv_at hl 0 rfl) ?_
  refine lv_if_lt (tgt := 31) hx hb dX1_stateAt_10 (by decide) (fun c_1 => absurd c_1 (by decide)) (fun _ => ?_)
  refine lv_iload_n hx hb dX1_stateAt_13 rfl (lv_at hl 0 rfl) ?_
  refine lv_aload_n hx hb dX1_stateAt_14 rfl (lv_at hl 1 rfl) ?_
  refine va_get (D := D) (ci := 0) (v := .ref (ad 8 1)) (C := RX1) (T := TX1) (N := 3) hx hb hts iX1_stateAt_X1 hown hG.1 hP 0 rfl rfl 0 (by decide) (hts (.fieldLink RX1 11 "MillComplaints$History" "states" "[LMillComplaints$Village;") (List.mem_of_getElem? (i := 2) rfl)) (fun _ h9 => h9) rfl dX1_stateAt_15 ?_
  refine va_alen (v := 4) hx hb hG.1 hP 1 2 rfl rfl rfl dX1_stateAt_18 ?_
  refine lv_icmp_ge (tgt := 31) hx hb dX1_stateAt_19 (by decide) (fun c_2 => absurd c_2 (by decide)) (fun _ => ?_)
  refine lv_aload_n hx hb dX1_stateAt_22 rfl (lv_at hl 1 rfl) ?_
  refine va_get (D := D) (ci := 0) (v := .ref (ad 8 1)) (C := RX1) (T := TX1) (N := 3) hx hb hts iX1_stateAt_X1 hown hG.1 hP 0 rfl rfl 0 (by decide) (hts (.fieldLink RX1 11 "MillComplaints$History" "states" "[LMillComplaints$Village;") (List.mem_of_getElem? (i := 2) rfl)) (fun _ h9 => h9) rfl dX1_stateAt_23 ?_
  refine lv_iload_n hx hb dX1_stateAt_26 rfl (lv_at hl 0 rfl) ?_
  refine va_aldq (C := RX4) hx hb hG.1 hP 1 2 rfl rfl (ix_n (by decide)) dX1_stateAt_27 ?_
  refine lv_goto (tgt := 32) hx hb dX1_stateAt_28 (by decide) ?_
  exact ro_aret hx hb hr hk (Or.inr ⟨_, rfl⟩) dX1_stateAt_32
set_option maxHeartbeats 4000000 in
set_option maxRecDepth 100000 in
theorem MX1_stateAt_3_0 (l : Launch) (D : va_G) (q : Nat → ClassId) (ad : Nat → Nat → Nat) (xx : Nat → Nat → Nat → Int32) (ho : xx 8 0 0 = 3) : roM l D (tyq q) yX1_stateAt wsX1_stateAt ({ frames := 0, cells := 0, slots := 0, locals := 0 } : Room) [.ref (ad 8 0), .int 0] (wHo q ad xx) (some (.ref ((ad 6) 0))) := by
  refine roM.of (cc := cX1_stateAt) (maxL := 3) (ret := (some (.object "MillComplaints$Village"))) (by decide) rfl (Nat.le_of_ble_eq_true rfl) ?_
  intro p e s m below meth c ls hx hb hr hk hml hown hts hP hD hG hl
  have hl : lv_has ls 3 [(0, .ref (ad 8 0)), (1, .int 0)] := hl
  refine lv_aload_n hx hb dX1_stateAt_0 rfl (lv_at hl 0 rfl) ?_
  refine va_get (D := D) (ci := 0) (v := .int 3) (C := RX1) (T := TX1) (N := 3) hx hb hts iX1_stateAt_X1 hown hG.1 hP 0 rfl rfl 1 (by decide) (hts (.fieldLink RX1 18 "MillComplaints$History" "oldest" "I") (List.mem_of_getElem? (i := 1) rfl)) (fun _ h9 => h9) (by show some (Value.int (xx 8 0 0)) = _; rw [ho]) dX1_stateAt_1 ?_
  refine lv_iload_n hx hb dX1_stateAt_4 rfl (lv_at hl 1 rfl) ?_
  refine lv_iadd hx hb dX1_stateAt_5 ?_
  refine lv_tope (y := 3) (by decide) ?_
  refine lv_iconst (v := 4) hx hb dX1_stateAt_6 (by decide) ?_
  refine lv_irem hx hb dX1_stateAt_7 (by decide) ?_
  refine lv_tope (y := 3) (by decide) ?_
  refine lv_istore_n (lv' := [(2, .int 3), (0, .ref (ad 8 0)), (1, .int 0)]) hx hb dX1_stateAt_8 rfl hl (by decide) rfl (fun ls hl => ?_)
  refine lv_iload_n hx hb dX1_stateAt_9 rfl (lv_at hl 0 rfl) ?_
  refine lv_if_lt (tgt := 31) hx hb dX1_stateAt_10 (by decide) (fun c_1 => absurd c_1 (by decide)) (fun _ => ?_)
  refine lv_iload_n hx hb dX1_stateAt_13 rfl (lv_at hl 0 rfl) ?_
  refine lv_aload_n hx hb dX1_stateAt_14 rfl (lv_at hl 1 rfl) ?_
  refine va_get (D := D) (ci := 0) (v := .ref (ad 8 1)) (C := RX1) (T := TX1) (N := 3) hx hb hts iX1_stateAt_X1 hown hG.1 hP 0 rfl rfl 0 (by decide) (hts (.fieldLink RX1 11 "MillComplaints$History" "states" "[LMillComplaints$Village;") (List.mem_of_getElem? (i := 2) rfl)) (fun _ h9 => h9) rfl dX1_stateAt_15 ?_
  refine va_alen (v := 4) hx hb hG.1 hP 1 2 rfl rfl rfl dX1_stateAt_18 ?_
  refine lv_icmp_ge (tgt := 31) hx hb dX1_stateAt_19 (by decide) (fun c_2 => absurd c_2 (by decide)) (fun _ => ?_)
  refine lv_aload_n hx hb dX1_stateAt_22 rfl (lv_at hl 1 rfl) ?_
  refine va_get (D := D) (ci := 0) (v := .ref (ad 8 1)) (C := RX1) (T := TX1) (N := 3) hx hb hts iX1_stateAt_X1 hown hG.1 hP 0 rfl rfl 0 (by decide) (hts (.fieldLink RX1 11 "MillComplaints$History" "states" "[LMillComplaints$Village;") (List.mem_of_getElem? (i := 2) rfl)) (fun _ h9 => h9) rfl dX1_stateAt_23 ?_
  refine lv_iload_n hx hb dX1_stateAt_26 rfl (lv_at hl 0 rfl) ?_
  refine va_aldq (C := RX4) hx hb hG.1 hP 1 2 rfl rfl (ix_n (by decide)) dX1_stateAt_27 ?_
  refine lv_goto (tgt := 32) hx hb dX1_stateAt_28 (by decide) ?_
  exact ro_aret hx hb hr hk (Or.inr ⟨_, rfl⟩) dX1_stateAt_32
set_option maxHeartbeats 4000000 in
set_option maxRecDepth 100000 in
theorem MX1_stateAt_3_1 (l : Launch) (D : va_G) (q : Nat → ClassId) (ad : Nat → Nat → Nat) (xx : Nat → Nat → Nat → Int32) (ho : xx 8 0 0 = 3) : roM l D (tyq q) yX1_stateAt wsX1_stateAt ({ frames := 0, cells := 0, slots := 0, locals := 0 } : Room) [.ref (ad 8 0), .int 1] (wHo q ad xx) (some (.ref ((ad 3) 0))) := by
  refine roM.of (cc := cX1_stateAt) (maxL := 3) (ret := (some (.object "MillComplaints$Village"))) (by decide) rfl (Nat.le_of_ble_eq_true rfl) ?_
  intro p e s m below meth c ls hx hb hr hk hml hown hts hP hD hG hl
  have hl : lv_has ls 3 [(0, .ref (ad 8 0)), (1, .int 1)] := hl
  refine lv_aload_n hx hb dX1_stateAt_0 rfl (lv_at hl 0 rfl) ?_
  refine va_get (D := D) (ci := 0) (v := .int 3) (C := RX1) (T := TX1) (N := 3) hx hb hts iX1_stateAt_X1 hown hG.1 hP 0 rfl rfl 1 (by decide) (hts (.fieldLink RX1 18 "MillComplaints$History" "oldest" "I") (List.mem_of_getElem? (i := 1) rfl)) (fun _ h9 => h9) (by show some (Value.int (xx 8 0 0)) = _; rw [ho]) dX1_stateAt_1 ?_
  refine lv_iload_n hx hb dX1_stateAt_4 rfl (lv_at hl 1 rfl) ?_
  refine lv_iadd hx hb dX1_stateAt_5 ?_
  refine lv_tope (y := 4) (by decide) ?_
  refine lv_iconst (v := 4) hx hb dX1_stateAt_6 (by decide) ?_
  refine lv_irem hx hb dX1_stateAt_7 (by decide) ?_
  refine lv_tope (y := 0) (by decide) ?_
  refine lv_istore_n (lv' := [(2, .int 0), (0, .ref (ad 8 0)), (1, .int 1)]) hx hb dX1_stateAt_8 rfl hl (by decide) rfl (fun ls hl => ?_)
  refine lv_iload_n hx hb dX1_stateAt_9 rfl (lv_at hl 0 rfl) ?_
  refine lv_if_lt (tgt := 31) hx hb dX1_stateAt_10 (by decide) (fun c_1 => absurd c_1 (by decide)) (fun _ => ?_)
  refine lv_iload_n hx hb dX1_stateAt_13 rfl (lv_at hl 0 rfl) ?_
  refine lv_aload_n hx hb dX1_stateAt_14 rfl (lv_at hl 1 rfl) ?_
  refine va_get (D := D) (ci := 0) (v := .ref (ad 8 1)) (C := RX1) (T := TX1) (N := 3) hx hb hts iX1_stateAt_X1 hown hG.1 hP 0 rfl rfl 0 (by decide) (hts (.fieldLink RX1 11 "MillComplaints$History" "states" "[LMillComplaints$Village;") (List.mem_of_getElem? (i := 2) rfl)) (fun _ h9 => h9) rfl dX1_stateAt_15 ?_
  refine va_alen (v := 4) hx hb hG.1 hP 1 2 rfl rfl rfl dX1_stateAt_18 ?_
  refine lv_icmp_ge (tgt := 31) hx hb dX1_stateAt_19 (by decide) (fun c_2 => absurd c_2 (by decide)) (fun _ => ?_)
  refine lv_aload_n hx hb dX1_stateAt_22 rfl (lv_at hl 1 rfl) ?_
  refine va_get (D := D) (ci := 0) (v := .ref (ad 8 1)) (C := RX1) (T := TX1) (N := 3) hx hb hts iX1_stateAt_X1 hown hG.1 hP 0 rfl rfl 0 (by decide) (hts (.fieldLink RX1 11 "MillComplaints$History" "states" "[LMillComplaints$Village;") (List.mem_of_getElem? (i := 2) rfl)) (fun _ h9 => h9) rfl dX1_stateAt_23 ?_
  refine lv_iload_n hx hb dX1_stateAt_26 rfl (lv_at hl 0 rfl) ?_
  refine va_aldq (C := RX4) hx hb hG.1 hP 1 2 rfl rfl (ix_n (by decide)) dX1_stateAt_27 ?_
  refine lv_goto (tgt := 32) hx hb dX1_stateAt_28 (by decide) ?_
  exact ro_aret hx hb hr hk (Or.inr ⟨_, rfl⟩) dX1_stateAt_32
set_option maxHeartbeats 4000000 in
set_option maxRecDepth 100000 in
theorem MX1_stateAt_3_2 (l : Launch) (D : va_G) (q : Nat → ClassId) (ad : Nat → Nat → Nat) (xx : Nat → Nat → Nat → Int32) (ho : xx 8 0 0 = 3) : roM l D (tyq q) yX1_stateAt wsX1_stateAt ({ frames := 0, cells := 0, slots := 0, locals := 0 } : Room) [.ref (ad 8 0), .int 2] (wHo q ad xx) (some (.ref ((ad 4) 0))) := by
  refine roM.of (cc := cX1_stateAt) (maxL := 3) (ret := (some (.object "MillComplaints$Village"))) (by decide) rfl (Nat.le_of_ble_eq_true rfl) ?_
  intro p e s m below meth c ls hx hb hr hk hml hown hts hP hD hG hl
  have hl : lv_has ls 3 [(0, .ref (ad 8 0)), (1, .int 2)] := hl
  refine lv_aload_n hx hb dX1_stateAt_0 rfl (lv_at hl 0 rfl) ?_
  refine va_get (D := D) (ci := 0) (v := .int 3) (C := RX1) (T := TX1) (N := 3) hx hb hts iX1_stateAt_X1 hown hG.1 hP 0 rfl rfl 1 (by decide) (hts (.fieldLink RX1 18 "MillComplaints$History" "oldest" "I") (List.mem_of_getElem? (i := 1) rfl)) (fun _ h9 => h9) (by show some (Value.int (xx 8 0 0)) = _; rw [ho]) dX1_stateAt_1 ?_
  refine lv_iload_n hx hb dX1_stateAt_4 rfl (lv_at hl 1 rfl) ?_
  refine lv_iadd hx hb dX1_stateAt_5 ?_
  refine lv_tope (y := 5) (by decide) ?_
  refine lv_iconst (v := 4) hx hb dX1_stateAt_6 (by decide) ?_
  refine lv_irem hx hb dX1_stateAt_7 (by decide) ?_
  refine lv_tope (y := 1) (by decide) ?_
  refine lv_istore_n (lv' := [(2, .int 1), (0, .ref (ad 8 0)), (1, .int 2)]) hx hb dX1_stateAt_8 rfl hl (by decide) rfl (fun ls hl => ?_)
  refine lv_iload_n hx hb dX1_stateAt_9 rfl (lv_at hl 0 rfl) ?_
  refine lv_if_lt (tgt := 31) hx hb dX1_stateAt_10 (by decide) (fun c_1 => absurd c_1 (by decide)) (fun _ => ?_)
  refine lv_iload_n hx hb dX1_stateAt_13 rfl (lv_at hl 0 rfl) ?_
  refine lv_aload_n hx hb dX1_stateAt_14 rfl (lv_at hl 1 rfl) ?_
  refine va_get (D := D) (ci := 0) (v := .ref (ad 8 1)) (C := RX1) (T := TX1) (N := 3) hx hb hts iX1_stateAt_X1 hown hG.1 hP 0 rfl rfl 0 (by decide) (hts (.fieldLink RX1 11 "MillComplaints$History" "states" "[LMillComplaints$Village;") (List.mem_of_getElem? (i := 2) rfl)) (fun _ h9 => h9) rfl dX1_stateAt_15 ?_
  refine va_alen (v := 4) hx hb hG.1 hP 1 2 rfl rfl rfl dX1_stateAt_18 ?_
  refine lv_icmp_ge (tgt := 31) hx hb dX1_stateAt_19 (by decide) (fun c_2 => absurd c_2 (by decide)) (fun _ => ?_)
  refine lv_aload_n hx hb dX1_stateAt_22 rfl (lv_at hl 1 rfl) ?_
  refine va_get (D := D) (ci := 0) (v := .ref (ad 8 1)) (C := RX1) (T := TX1) (N := 3) hx hb hts iX1_stateAt_X1 hown hG.1 hP 0 rfl rfl 0 (by decide) (hts (.fieldLink RX1 11 "MillComplaints$History" "states" "[LMillComplaints$Village;") (List.mem_of_getElem? (i := 2) rfl)) (fun _ h9 => h9) rfl dX1_stateAt_23 ?_
  refine lv_iload_n hx hb dX1_stateAt_26 rfl (lv_at hl 0 rfl) ?_
  refine va_aldq (C := RX4) hx hb hG.1 hP 1 2 rfl rfl (ix_n (by decide)) dX1_stateAt_27 ?_
  refine lv_goto (tgt := 32) hx hb dX1_stateAt_28 (by decide) ?_
  exact ro_aret hx hb hr hk (Or.inr ⟨_, rfl⟩) dX1_stateAt_32
set_option maxHeartbeats 4000000 in
set_option maxRecDepth 100000 in
theorem MX1_stateAt_3_3 (l : Launch) (D : va_G) (q : Nat → ClassId) (ad : Nat → Nat → Nat) (xx : Nat → Nat → Nat → Int32) (ho : xx 8 0 0 = 3) : roM l D (tyq q) yX1_stateAt wsX1_stateAt ({ frames := 0, cells := 0, slots := 0, locals := 0 } : Room) [.ref (ad 8 0), .int 3] (wHo q ad xx) (some (.ref ((ad 5) 0))) := by
  refine roM.of (cc := cX1_stateAt) (maxL := 3) (ret := (some (.object "MillComplaints$Village"))) (by decide) rfl (Nat.le_of_ble_eq_true rfl) ?_
  intro p e s m below meth c ls hx hb hr hk hml hown hts hP hD hG hl
  have hl : lv_has ls 3 [(0, .ref (ad 8 0)), (1, .int 3)] := hl
  refine lv_aload_n hx hb dX1_stateAt_0 rfl (lv_at hl 0 rfl) ?_
  refine va_get (D := D) (ci := 0) (v := .int 3) (C := RX1) (T := TX1) (N := 3) hx hb hts iX1_stateAt_X1 hown hG.1 hP 0 rfl rfl 1 (by decide) (hts (.fieldLink RX1 18 "MillComplaints$History" "oldest" "I") (List.mem_of_getElem? (i := 1) rfl)) (fun _ h9 => h9) (by show some (Value.int (xx 8 0 0)) = _; rw [ho]) dX1_stateAt_1 ?_
  refine lv_iload_n hx hb dX1_stateAt_4 rfl (lv_at hl 1 rfl) ?_
  refine lv_iadd hx hb dX1_stateAt_5 ?_
  refine lv_tope (y := 6) (by decide) ?_
  refine lv_iconst (v := 4) hx hb dX1_stateAt_6 (by decide) ?_
  refine lv_irem hx hb dX1_stateAt_7 (by decide) ?_
  refine lv_tope (y := 2) (by decide) ?_
  refine lv_istore_n (lv' := [(2, .int 2), (0, .ref (ad 8 0)), (1, .int 3)]) hx hb dX1_stateAt_8 rfl hl (by decide) rfl (fun ls hl => ?_)
  refine lv_iload_n hx hb dX1_stateAt_9 rfl (lv_at hl 0 rfl) ?_
  refine lv_if_lt (tgt := 31) hx hb dX1_stateAt_10 (by decide) (fun c_1 => absurd c_1 (by decide)) (fun _ => ?_)
  refine lv_iload_n hx hb dX1_stateAt_13 rfl (lv_at hl 0 rfl) ?_
  refine lv_aload_n hx hb dX1_stateAt_14 rfl (lv_at hl 1 rfl) ?_
  refine va_get (D := D) (ci := 0) (v := .ref (ad 8 1)) (C := RX1) (T := TX1) (N := 3) hx hb hts iX1_stateAt_X1 hown hG.1 hP 0 rfl rfl 0 (by decide) (hts (.fieldLink RX1 11 "MillComplaints$History" "states" "[LMillComplaints$Village;") (List.mem_of_getElem? (i := 2) rfl)) (fun _ h9 => h9) rfl dX1_stateAt_15 ?_
  refine va_alen (v := 4) hx hb hG.1 hP 1 2 rfl rfl rfl dX1_stateAt_18 ?_
  refine lv_icmp_ge (tgt := 31) hx hb dX1_stateAt_19 (by decide) (fun c_2 => absurd c_2 (by decide)) (fun _ => ?_)
  refine lv_aload_n hx hb dX1_stateAt_22 rfl (lv_at hl 1 rfl) ?_
  refine va_get (D := D) (ci := 0) (v := .ref (ad 8 1)) (C := RX1) (T := TX1) (N := 3) hx hb hts iX1_stateAt_X1 hown hG.1 hP 0 rfl rfl 0 (by decide) (hts (.fieldLink RX1 11 "MillComplaints$History" "states" "[LMillComplaints$Village;") (List.mem_of_getElem? (i := 2) rfl)) (fun _ h9 => h9) rfl dX1_stateAt_23 ?_
  refine lv_iload_n hx hb dX1_stateAt_26 rfl (lv_at hl 0 rfl) ?_
  refine va_aldq (C := RX4) hx hb hG.1 hP 1 2 rfl rfl (ix_n (by decide)) dX1_stateAt_27 ?_
  refine lv_goto (tgt := 32) hx hb dX1_stateAt_28 (by decide) ?_
  exact ro_aret hx hb hr hk (Or.inr ⟨_, rfl⟩) dX1_stateAt_32
def mX1_add (xx : Nat → Nat → Nat → Int32) : (Nat → Nat → Nat → Int32) := (if (xx 8 0 0) = 0 then (if (xx 8 0 1) = 0 then (lt (setV xx 3 (xx 1)) (fun xx_4 => (lt (setV xx_4 8 (setA (xx_4 8) 0 (upd (xx_4 8 0) 1 1))) (fun xx_7 => xx_7)))) else (if (xx 8 0 1) = 1 then (lt (setV xx 4 (xx 1)) (fun xx_12 => (lt (setV xx_12 8 (setA (xx_12 8) 0 (upd (xx_12 8 0) 1 2))) (fun xx_15 => xx_15)))) else (if (xx 8 0 1) = 2 then (lt (setV xx 5 (xx 1)) (fun xx_20 => (lt (setV xx_20 8 (setA (xx_20 8) 0 (upd (xx_20 8 0) 1 3))) (fun xx_23 => xx_23)))) else (if (xx 8 0 1) = 3 then (lt (setV xx 6 (xx 1)) (fun xx_28 => (lt (setV xx_28 8 (setA (xx_28 8) 0 (upd (xx_28 8 0) 1 4))) (fun xx_31 => xx_31)))) else (if (xx 8 0 1) = 4 then (lt (setV xx 8 (setA (xx 8) 0 (upd (xx 8 0) 0 1))) (fun xx_36 => (lt (setV xx_36 8 (setA (xx_36 8) 0 (upd (xx_36 8 0) 1 3))) (fun xx_39 => (lt (setV xx_39 3 (xx_39 1)) (fun xx_42 => (lt (setV xx_42 8 (setA (xx_42 8) 0 (upd (xx_42 8 0) 1 4))) (fun xx_45 => xx_45)))))))) else xx))))) else (if (xx 8 0 0) = 1 then (if (xx 8 0 1) = 0 then (lt (setV xx 4 (xx 1)) (fun xx_51 => (lt (setV xx_51 8 (setA (xx_51 8) 0 (upd (xx_51 8 0) 1 1))) (fun xx_54 => xx_54)))) else (if (xx 8 0 1) = 1 then (lt (setV xx 5 (xx 1)) (fun xx_59 => (lt (setV xx_59 8 (setA (xx_59 8) 0 (upd (xx_59 8 0) 1 2))) (fun xx_62 => xx_62)))) else (if (xx 8 0 1) = 2 then (lt (setV xx 6 (xx 1)) (fun xx_67 => (lt (setV xx_67 8 (setA (xx_67 8) 0 (upd (xx_67 8 0) 1 3))) (fun xx_70 => xx_70)))) else (if (xx 8 0 1) = 3 then (lt (setV xx 3 (xx 1)) (fun xx_75 => (lt (setV xx_75 8 (setA (xx_75 8) 0 (upd (xx_75 8 0) 1 4))) (fun xx_78 => xx_78)))) else (if (xx 8 0 1) = 4 then (lt (setV xx 8 (setA (xx 8) 0 (upd (xx 8 0) 0 2))) (fun xx_83 => (lt (setV xx_83 8 (setA (xx_83 8) 0 (upd (xx_83 8 0) 1 3))) (fun xx_86 => (lt (setV xx_86 4 (xx_86 1)) (fun xx_89 => (lt (setV xx_89 8 (setA (xx_89 8) 0 (upd (xx_89 8 0) 1 4))) (fun xx_92 => xx_92)))))))) else xx))))) else (if (xx 8 0 0) = 2 then (if (xx 8 0 1) = 0 then (lt (setV xx 5 (xx 1)) (fun xx_98 => (lt (setV xx_98 8 (setA (xx_98 8) 0 (upd (xx_98 8 0) 1 1))) (fun xx_101 => xx_101)))) else (if (xx 8 0 1) = 1 then (lt (setV xx 6 (xx 1)) (fun xx_106 => (lt (setV xx_106 8 (setA (xx_106 8) 0 (upd (xx_106 8 0) 1 2))) (fun xx_109 => xx_109)))) else (if (xx 8 0 1) = 2 then (lt (setV xx 3 (xx 1)) (fun xx_114 => (lt (setV xx_114 8 (setA (xx_114 8) 0 (upd (xx_114 8 0) 1 3))) (fun xx_117 => xx_117)))) else (if (xx 8 0 1) = 3 then (lt (setV xx 4 (xx 1)) (fun xx_122 => (lt (setV xx_122 8 (setA (xx_122 8) 0 (upd (xx_122 8 0) 1 4))) (fun xx_125 => xx_125)))) else (if (xx 8 0 1) = 4 then (lt (setV xx 8 (setA (xx 8) 0 (upd (xx 8 0) 0 3))) (fun xx_130 => (lt (setV xx_130 8 (setA (xx_130 8) 0 (upd (xx_130 8 0) 1 3))) (fun xx_133 => (lt (setV xx_133 5 (xx_133 1)) (fun xx_136 => (lt (setV xx_136 8 (setA (xx_136 8) 0 (upd (xx_136 8 0) 1 4))) (fun xx_139 => xx_139)))))))) else xx))))) else (if (xx 8 0 0) = 3 then (if (xx 8 0 1) = 0 then (lt (setV xx 6 (xx 1)) (fun xx_145 => (lt (setV xx_145 8 (setA (xx_145 8) 0 (upd (xx_145 8 0) 1 1))) (fun xx_148 => xx_148)))) else (if (xx 8 0 1) = 1 then (lt (setV xx 3 (xx 1)) (fun xx_153 => (lt (setV xx_153 8 (setA (xx_153 8) 0 (upd (xx_153 8 0) 1 2))) (fun xx_156 => xx_156)))) else (if (xx 8 0 1) = 2 then (lt (setV xx 4 (xx 1)) (fun xx_161 => (lt (setV xx_161 8 (setA (xx_161 8) 0 (upd (xx_161 8 0) 1 3))) (fun xx_164 => xx_164)))) else (if (xx 8 0 1) = 3 then (lt (setV xx 5 (xx 1)) (fun xx_169 => (lt (setV xx_169 8 (setA (xx_169 8) 0 (upd (xx_169 8 0) 1 4))) (fun xx_172 => xx_172)))) else (if (xx 8 0 1) = 4 then (lt (setV xx 8 (setA (xx 8) 0 (upd (xx 8 0) 0 0))) (fun xx_177 => (lt (setV xx_177 8 (setA (xx_177 8) 0 (upd (xx_177 8 0) 1 3))) (fun xx_180 => (lt (setV xx_180 6 (xx_180 1)) (fun xx_183 => (lt (setV xx_183 8 (setA (xx_183 8) 0 (upd (xx_183 8 0) 1 4))) (fun xx_186 => xx_186)))))))) else xx))))) else xx))))
theorem kX1_add : yX1_add.cls = RX1 ∧ yX1_add.cls ≠ "java/lang/invoke/MethodHandle" ∧ yX1_add.cls ≠ "java/lang/invoke/VarHandle" ∧ (parseMethodDescriptor yX1_add.desc).map (fun d => d.parameters.length) = some 1 := by decide +kernel
theorem iX1_add_X1 : ∀ w ∈ wsX10, w ∈ wsX1_add := fun w h => (List.mem_cons_of_mem _ (List.mem_append_left _ (List.mem_append_right _ h)))
set_option maxHeartbeats 4000000 in
set_option maxRecDepth 100000 in
theorem MX1_add (l : Launch) (D : va_G) (q : Nat → ClassId) (ad : Nat → Nat → Nat) (xx : Nat → Nat → Nat → Int32)  (hrg : rgOk xx) : muM l D (tyq q) yX1_add wsX1_add ({ frames := 2, cells := 0, slots := 0, locals := 43 } : Room) [.ref (ad 8 0), .ref ((ad 1) 0)] (wHK q ad xx 1) none (wHK q ad (mX1_add xx) 1) := by
  obtain ⟨R, hR⟩ : ∃ z, (mX1_add xx) = z := ⟨_, rfl⟩
  rw [hR]
  unfold mX1_add at hR
  refine muM.of (cc := cX1_add) (maxL := 3) (ret := none) (by decide) rfl (Nat.le_of_ble_eq_true rfl) ?_
  intro p e s m below meth c ls A hx hb hr hk hml hown hts hP hD hG hA hl
  have hS : va_S A s.heap s.heap [] := va_S.rf
  have hl : lv_has ls 3 [(0, .ref (ad 8 0)), (1, .ref ((ad 1) 0))] := hl
  by_cases ho_1 : (xx 8 0 0) = 0
  · rw [if_pos ho_1] at hR
    by_cases hz_2 : (xx 8 0 1) = 0
    · rw [if_pos hz_2] at hR
      refine lv_aload_n hx hb dX1_add_0 rfl (lv_at hl 0 rfl) ?_
      refine va_get (D := D) (ci := 0) (v := .int 0) (C := RX1) (T := TX1) (N := 3) hx hb hts iX1_add_X1 hown hG.1 hP 0 rfl rfl 2 (by decide) (hts (.fieldLink RX1 22 "MillComplaints$History" "size" "I") (List.mem_of_getElem? (i := 1) rfl)) (fun _ h9 => h9) (by show some (Value.int (xx 8 0 1)) = _; rw [hz_2]) dX1_add_1 ?_
      refine lv_iconst (v := 4) hx hb dX1_add_4 (by decide) ?_
      refine lv_icmp_ne (tgt := 30) hx hb dX1_add_5 (by decide) (fun _ => ?_) (fun c_3 => absurd c_3 (by decide))
      refine lv_aload_n hx hb dX1_add_30 rfl (lv_at hl 0 rfl) ?_
      refine lv_aload_n hx hb dX1_add_31 rfl (lv_at hl 0 rfl) ?_
      refine va_get (D := D) (ci := 0) (v := .int 0) (C := RX1) (T := TX1) (N := 3) hx hb hts iX1_add_X1 hown hG.1 hP 0 rfl rfl 2 (by decide) (hts (.fieldLink RX1 22 "MillComplaints$History" "size" "I") (List.mem_of_getElem? (i := 1) rfl)) (fun _ h9 => h9) (by show some (Value.int (xx 8 0 1)) = _; rw [hz_2]) dX1_add_32 ?_
      refine ro_V (v := .ref ((ad 3) 0)) (rest := []) (As := [.int 0]) hx hb hml hown hts hl (MX1_stateAt_0_0 l D q ad xx ho_1) gX1_add_X1_stateAt rfl kX1_stateAt ⟨Nat.le_of_ble_eq_true rfl, Nat.le_of_ble_eq_true rfl⟩ rfl rfl (hP.sub (ws' := (wHo q ad xx)) [0, 1] rfl) (dT (hD.sub (ws' := (wHo q ad xx)) [0, 1] (by decide) rfl)) hG (ci := 0) rfl rfl rfl rfl (Nat.le_of_ble_eq_true rfl) dX1_add_35 ⟨Nat.zero_le _, Nat.zero_le _⟩ ?_
      refine lv_astore_n (lv' := [(2, .ref ((ad 3) 0)), (0, .ref (ad 8 0)), (1, .ref ((ad 1) 0))]) hx hb dX1_add_38 rfl hl (by decide) rfl (fun ls hl => ?_)
      refine lv_aload_n hx hb dX1_add_39 rfl (lv_at hl 0 rfl) ?_
      refine lv_ifnull hx hb dX1_add_40 ?_
      refine lv_aload_n hx hb dX1_add_43 rfl (lv_at hl 0 rfl) ?_
      refine lv_aload_n hx hb dX1_add_44 rfl (lv_at hl 2 rfl) ?_
      have hM := MX4_copyFrom' l D q (ad 3) (xx 3) (ad 1) (xx 1)
      refine mu_V (D := D) (ws := (wHK q ad xx 1)) (ws' := (wHK q ad (setV xx 3 (xx 1)) 1)) (rest := []) (As := [.ref ((ad 1) 0)]) hx hb hml hown hts hl hM gX1_add_X4_copyFrom rfl kX4_copyFrom ⟨Nat.le_of_ble_eq_true rfl, Nat.le_of_ble_eq_true rfl⟩ rfl rfl hP hD hS hG [2, 3, 4, 5, 6, 7, 8, 9, 10, 11, 42, 43, 44, 45, 46, 47, 48, 49, 50, 51] rfl rfl (by decide) [0, 1, 52, 53, 54, 55, 56, 57, 58, 59, 60, 61, 12, 13, 14, 15, 16, 17, 18, 19, 20, 21, 22, 23, 24, 25, 26, 27, 28, 29, 30, 31, 32, 33, 34, 35, 36, 37, 38, 39, 40, 41, 62, 63, 64, 65, 66, 67, 68, 69, 70, 71] rfl (by decide) rfl (ci := 2) rfl rfl rfl rfl (Nat.le_of_ble_eq_true rfl) dX1_add_45 ⟨Nat.zero_le _, Nat.zero_le _⟩ (fun H locs hP hD hS => ?_)
      obtain ⟨xx_4, exx_4⟩ : ∃ z, z = (setV xx 3 (xx 1)) := ⟨_, rfl⟩
      rw [← exx_4] at hP hD
      replace hR := lt_e hR exx_4
      have ho_5 : (xx_4 8 0 0) = 0 := by rw [exx_4]; exact ho_1
      have ho_6 : (xx_4 8 0 1) = 0 := by rw [exx_4]; exact hz_2
      refine lv_aload_n hx hb dX1_add_48 rfl (lv_at hl 1 rfl) ?_
      refine lv_dup hx hb dX1_add_49 rfl ?_
      refine va_get (D := D) (ci := 0) (v := .int 0) (C := RX1) (T := TX1) (N := 3) hx hb hts iX1_add_X1 hown hG.1 hP 0 rfl rfl 2 (by decide) (hts (.fieldLink RX1 22 "MillComplaints$History" "size" "I") (List.mem_of_getElem? (i := 1) rfl)) (fun _ h9 => h9) (by show some (Value.int (xx_4 8 0 1)) = _; rw [ho_6]) dX1_add_50 ?_
      refine lv_iconst (v := 1) hx hb dX1_add_53 (by decide) ?_
      refine lv_iadd hx hb dX1_add_54 ?_
      refine lv_tope (y := 1) (by decide) ?_
      refine va_put (D := D) (ci := 0) (v := .int 1) (ty := .int) (C := RX1) (T := TX1) (N := 3) hx hb hts iX1_add_X1 tyX1 tyX1_ok nmX1 hown hG.1 hP hD hS 0 rfl rfl 2 (by decide) (hts (.fieldLink RX1 22 "MillComplaints$History" "size" "I") (List.mem_of_getElem? (i := 1) rfl)) (fun _ h9 => h9) rfl (by decide +kernel) rfl rfl (Nat.le_of_ble_eq_true rfl) dX1_add_55 (fun H locs hP hD hS => ?_)
      have hP : va_P D vwCl (wHK q ad (setV xx_4 8 (setA (xx_4 8) 0 (upd (xx_4 8 0) 1 1))) 1) H := hP
      have hD : va_D A (wHK q ad (setV xx_4 8 (setA (xx_4 8) 0 (upd (xx_4 8 0) 1 1))) 1) := hD
      obtain ⟨xx_7, exx_7⟩ : ∃ z, z = (setV xx_4 8 (setA (xx_4 8) 0 (upd (xx_4 8 0) 1 1))) := ⟨_, rfl⟩
      rw [← exx_7] at hP hD
      replace hR := lt_e hR exx_7
      have ho_8 : (xx_7 8 0 0) = 0 := by rw [exx_7]; exact ho_5
      have ho_9 : (xx_7 8 0 1) = 1 := by rw [exx_7]; rfl
      subst hR
      exact mu_vret hx hb hr hk hA hS hP dX1_add_58
    · rw [if_neg hz_2] at hR
      by_cases hz_10 : (xx 8 0 1) = 1
      · rw [if_pos hz_10] at hR
        refine lv_aload_n hx hb dX1_add_0 rfl (lv_at hl 0 rfl) ?_
        refine va_get (D := D) (ci := 0) (v := .int 1) (C := RX1) (T := TX1) (N := 3) hx hb hts iX1_add_X1 hown hG.1 hP 0 rfl rfl 2 (by decide) (hts (.fieldLink RX1 22 "MillComplaints$History" "size" "I") (List.mem_of_getElem? (i := 1) rfl)) (fun _ h9 => h9) (by show some (Value.int (xx 8 0 1)) = _; rw [hz_10]) dX1_add_1 ?_
        refine lv_iconst (v := 4) hx hb dX1_add_4 (by decide) ?_
        refine lv_icmp_ne (tgt := 30) hx hb dX1_add_5 (by decide) (fun _ => ?_) (fun c_11 => absurd c_11 (by decide))
        refine lv_aload_n hx hb dX1_add_30 rfl (lv_at hl 0 rfl) ?_
        refine lv_aload_n hx hb dX1_add_31 rfl (lv_at hl 0 rfl) ?_
        refine va_get (D := D) (ci := 0) (v := .int 1) (C := RX1) (T := TX1) (N := 3) hx hb hts iX1_add_X1 hown hG.1 hP 0 rfl rfl 2 (by decide) (hts (.fieldLink RX1 22 "MillComplaints$History" "size" "I") (List.mem_of_getElem? (i := 1) rfl)) (fun _ h9 => h9) (by show some (Value.int (xx 8 0 1)) = _; rw [hz_10]) dX1_add_32 ?_
        refine ro_V (v := .ref ((ad 4) 0)) (rest := []) (As := [.int 1]) hx hb hml hown hts hl (MX1_stateAt_0_1 l D q ad xx ho_1) gX1_add_X1_stateAt rfl kX1_stateAt ⟨Nat.le_of_ble_eq_true rfl, Nat.le_of_ble_eq_true rfl⟩ rfl rfl (hP.sub (ws' := (wHo q ad xx)) [0, 1] rfl) (dT (hD.sub (ws' := (wHo q ad xx)) [0, 1] (by decide) rfl)) hG (ci := 0) rfl rfl rfl rfl (Nat.le_of_ble_eq_true rfl) dX1_add_35 ⟨Nat.zero_le _, Nat.zero_le _⟩ ?_
        refine lv_astore_n (lv' := [(2, .ref ((ad 4) 0)), (0, .ref (ad 8 0)), (1, .ref ((ad 1) 0))]) hx hb dX1_add_38 rfl hl (by decide) rfl (fun ls hl => ?_)
        refine lv_aload_n hx hb dX1_add_39 rfl (lv_at hl 0 rfl) ?_
        refine lv_ifnull hx hb dX1_add_40 ?_
        refine lv_aload_n hx hb dX1_add_43 rfl (lv_at hl 0 rfl) ?_
        refine lv_aload_n hx hb dX1_add_44 rfl (lv_at hl 2 rfl) ?_
        have hM := MX4_copyFrom' l D q (ad 4) (xx 4) (ad 1) (xx 1)
        refine mu_V (D := D) (ws := (wHK q ad xx 1)) (ws' := (wHK q ad (setV xx 4 (xx 1)) 1)) (rest := []) (As := [.ref ((ad 1) 0)]) hx hb hml hown hts hl hM gX1_add_X4_copyFrom rfl kX4_copyFrom ⟨Nat.le_of_ble_eq_true rfl, Nat.le_of_ble_eq_true rfl⟩ rfl rfl hP hD hS hG [12, 13, 14, 15, 16, 17, 18, 19, 20, 21, 42, 43, 44, 45, 46, 47, 48, 49, 50, 51] rfl rfl (by decide) [0, 1, 2, 3, 4, 5, 6, 7, 8, 9, 10, 11, 52, 53, 54, 55, 56, 57, 58, 59, 60, 61, 22, 23, 24, 25, 26, 27, 28, 29, 30, 31, 32, 33, 34, 35, 36, 37, 38, 39, 40, 41, 62, 63, 64, 65, 66, 67, 68, 69, 70, 71] rfl (by decide) rfl (ci := 2) rfl rfl rfl rfl (Nat.le_of_ble_eq_true rfl) dX1_add_45 ⟨Nat.zero_le _, Nat.zero_le _⟩ (fun H locs hP hD hS => ?_)
        obtain ⟨xx_12, exx_12⟩ : ∃ z, z = (setV xx 4 (xx 1)) := ⟨_, rfl⟩
        rw [← exx_12] at hP hD
        replace hR := lt_e hR exx_12
        have ho_13 : (xx_12 8 0 0) = 0 := by rw [exx_12]; exact ho_1
        have ho_14 : (xx_12 8 0 1) = 1 := by rw [exx_12]; exact hz_10
        refine lv_aload_n hx hb dX1_add_48 rfl (lv_at hl 1 rfl) ?_
        refine lv_dup hx hb dX1_add_49 rfl ?_
        refine va_get (D := D) (ci := 0) (v := .int 1) (C := RX1) (T := TX1) (N := 3) hx hb hts iX1_add_X1 hown hG.1 hP 0 rfl rfl 2 (by decide) (hts (.fieldLink RX1 22 "MillComplaints$History" "size" "I") (List.mem_of_getElem? (i := 1) rfl)) (fun _ h9 => h9) (by show some (Value.int (xx_12 8 0 1)) = _; rw [ho_14]) dX1_add_50 ?_
        refine lv_iconst (v := 1) hx hb dX1_add_53 (by decide) ?_
        refine lv_iadd hx hb dX1_add_54 ?_
        refine lv_tope (y := 2) (by decide) ?_
        refine va_put (D := D) (ci := 0) (v := .int 2) (ty := .int) (C := RX1) (T := TX1) (N := 3) hx hb hts iX1_add_X1 tyX1 tyX1_ok nmX1 hown hG.1 hP hD hS 0 rfl rfl 2 (by decide) (hts (.fieldLink RX1 22 "MillComplaints$History" "size" "I") (List.mem_of_getElem? (i := 1) rfl)) (fun _ h9 => h9) rfl (by decide +kernel) rfl rfl (Nat.le_of_ble_eq_true rfl) dX1_add_55 (fun H locs hP hD hS => ?_)
        have hP : va_P D vwCl (wHK q ad (setV xx_12 8 (setA (xx_12 8) 0 (upd (xx_12 8 0) 1 2))) 1) H := hP
        have hD : va_D A (wHK q ad (setV xx_12 8 (setA (xx_12 8) 0 (upd (xx_12 8 0) 1 2))) 1) := hD
        obtain ⟨xx_15, exx_15⟩ : ∃ z, z = (setV xx_12 8 (setA (xx_12 8) 0 (upd (xx_12 8 0) 1 2))) := ⟨_, rfl⟩
        rw [← exx_15] at hP hD
        replace hR := lt_e hR exx_15
        have ho_16 : (xx_15 8 0 0) = 0 := by rw [exx_15]; exact ho_13
        have ho_17 : (xx_15 8 0 1) = 2 := by rw [exx_15]; rfl
        subst hR
        exact mu_vret hx hb hr hk hA hS hP dX1_add_58
      · rw [if_neg hz_10] at hR
        by_cases hz_18 : (xx 8 0 1) = 2
        · rw [if_pos hz_18] at hR
          refine lv_aload_n hx hb dX1_add_0 rfl (lv_at hl 0 rfl) ?_
          refine va_get (D := D) (ci := 0) (v := .int 2) (C := RX1) (T := TX1) (N := 3) hx hb hts iX1_add_X1 hown hG.1 hP 0 rfl rfl 2 (by decide) (hts (.fieldLink RX1 22 "MillComplaints$History" "size" "I") (List.mem_of_getElem? (i := 1) rfl)) (fun _ h9 => h9) (by show some (Value.int (xx 8 0 1)) = _; rw [hz_18]) dX1_add_1 ?_
          refine lv_iconst (v := 4) hx hb dX1_add_4 (by decide) ?_
          refine lv_icmp_ne (tgt := 30) hx hb dX1_add_5 (by decide) (fun _ => ?_) (fun c_19 => absurd c_19 (by decide))
          refine lv_aload_n hx hb dX1_add_30 rfl (lv_at hl 0 rfl) ?_
          refine lv_aload_n hx hb dX1_add_31 rfl (lv_at hl 0 rfl) ?_
          refine va_get (D := D) (ci := 0) (v := .int 2) (C := RX1) (T := TX1) (N := 3) hx hb hts iX1_add_X1 hown hG.1 hP 0 rfl rfl 2 (by decide) (hts (.fieldLink RX1 22 "MillComplaints$History" "size" "I") (List.mem_of_getElem? (i := 1) rfl)) (fun _ h9 => h9) (by show some (Value.int (xx 8 0 1)) = _; rw [hz_18]) dX1_add_32 ?_
          refine ro_V (v := .ref ((ad 5) 0)) (rest := []) (As := [.int 2]) hx hb hml hown hts hl (MX1_stateAt_0_2 l D q ad xx ho_1) gX1_add_X1_stateAt rfl kX1_stateAt ⟨Nat.le_of_ble_eq_true rfl, Nat.le_of_ble_eq_true rfl⟩ rfl rfl (hP.sub (ws' := (wHo q ad xx)) [0, 1] rfl) (dT (hD.sub (ws' := (wHo q ad xx)) [0, 1] (by decide) rfl)) hG (ci := 0) rfl rfl rfl rfl (Nat.le_of_ble_eq_true rfl) dX1_add_35 ⟨Nat.zero_le _, Nat.zero_le _⟩ ?_
          refine lv_astore_n (lv' := [(2, .ref ((ad 5) 0)), (0, .ref (ad 8 0)), (1, .ref ((ad 1) 0))]) hx hb dX1_add_38 rfl hl (by decide) rfl (fun ls hl => ?_)
          refine lv_aload_n hx hb dX1_add_39 rfl (lv_at hl 0 rfl) ?_
          refine lv_ifnull hx hb dX1_add_40 ?_
          refine lv_aload_n hx hb dX1_add_43 rfl (lv_at hl 0 rfl) ?_
          refine lv_aload_n hx hb dX1_add_44 rfl (lv_at hl 2 rfl) ?_
          have hM := MX4_copyFrom' l D q (ad 5) (xx 5) (ad 1) (xx 1)
          refine mu_V (D := D) (ws := (wHK q ad xx 1)) (ws' := (wHK q ad (setV xx 5 (xx 1)) 1)) (rest := []) (As := [.ref ((ad 1) 0)]) hx hb hml hown hts hl hM gX1_add_X4_copyFrom rfl kX4_copyFrom ⟨Nat.le_of_ble_eq_true rfl, Nat.le_of_ble_eq_true rfl⟩ rfl rfl hP hD hS hG [22, 23, 24, 25, 26, 27, 28, 29, 30, 31, 42, 43, 44, 45, 46, 47, 48, 49, 50, 51] rfl rfl (by decide) [0, 1, 2, 3, 4, 5, 6, 7, 8, 9, 10, 11, 12, 13, 14, 15, 16, 17, 18, 19, 20, 21, 52, 53, 54, 55, 56, 57, 58, 59, 60, 61, 32, 33, 34, 35, 36, 37, 38, 39, 40, 41, 62, 63, 64, 65, 66, 67, 68, 69, 70, 71] rfl (by decide) rfl (ci := 2) rfl rfl rfl rfl (Nat.le_of_ble_eq_true rfl) dX1_add_45 ⟨Nat.zero_le _, Nat.zero_le _⟩ (fun H locs hP hD hS => ?_)
          obtain ⟨xx_20, exx_20⟩ : ∃ z, z = (setV xx 5 (xx 1)) := ⟨_, rfl⟩
          rw [← exx_20] at hP hD
          replace hR := lt_e hR exx_20
          have ho_21 : (xx_20 8 0 0) = 0 := by rw [exx_20]; exact ho_1
          have ho_22 : (xx_20 8 0 1) = 2 := by rw [exx_20]; exact hz_18
          refine lv_aload_n hx hb dX1_add_48 rfl (lv_at hl 1 rfl) ?_
          refine lv_dup hx hb dX1_add_49 rfl ?_
          refine va_get (D := D) (ci := 0) (v := .int 2) (C := RX1) (T := TX1) (N := 3) hx hb hts iX1_add_X1 hown hG.1 hP 0 rfl rfl 2 (by decide) (hts (.fieldLink RX1 22 "MillComplaints$History" "size" "I") (List.mem_of_getElem? (i := 1) rfl)) (fun _ h9 => h9) (by show some (Value.int (xx_20 8 0 1)) = _; rw [ho_22]) dX1_add_50 ?_
          refine lv_iconst (v := 1) hx hb dX1_add_53 (by decide) ?_
          refine lv_iadd hx hb dX1_add_54 ?_
          refine lv_tope (y := 3) (by decide) ?_
          refine va_put (D := D) (ci := 0) (v := .int 3) (ty := .int) (C := RX1) (T := TX1) (N := 3) hx hb hts iX1_add_X1 tyX1 tyX1_ok nmX1 hown hG.1 hP hD hS 0 rfl rfl 2 (by decide) (hts (.fieldLink RX1 22 "MillComplaints$History" "size" "I") (List.mem_of_getElem? (i := 1) rfl)) (fun _ h9 => h9) rfl (by decide +kernel) rfl rfl (Nat.le_of_ble_eq_true rfl) dX1_add_55 (fun H locs hP hD hS => ?_)
          have hP : va_P D vwCl (wHK q ad (setV xx_20 8 (setA (xx_20 8) 0 (upd (xx_20 8 0) 1 3))) 1) H := hP
          have hD : va_D A (wHK q ad (setV xx_20 8 (setA (xx_20 8) 0 (upd (xx_20 8 0) 1 3))) 1) := hD
          obtain ⟨xx_23, exx_23⟩ : ∃ z, z = (setV xx_20 8 (setA (xx_20 8) 0 (upd (xx_20 8 0) 1 3))) := ⟨_, rfl⟩
          rw [← exx_23] at hP hD
          replace hR := lt_e hR exx_23
          have ho_24 : (xx_23 8 0 0) = 0 := by rw [exx_23]; exact ho_21
          have ho_25 : (xx_23 8 0 1) = 3 := by rw [exx_23]; rfl
          subst hR
          exact mu_vret hx hb hr hk hA hS hP dX1_add_58
        · rw [if_neg hz_18] at hR
          by_cases hz_26 : (xx 8 0 1) = 3
          · rw [if_pos hz_26] at hR
            refine lv_aload_n hx hb dX1_add_0 rfl (lv_at hl 0 rfl) ?_
            refine va_get (D := D) (ci := 0) (v := .int 3) (C := RX1) (T := TX1) (N := 3) hx hb hts iX1_add_X1 hown hG.1 hP 0 rfl rfl 2 (by decide) (hts (.fieldLink RX1 22 "MillComplaints$History" "size" "I") (List.mem_of_getElem? (i := 1) rfl)) (fun _ h9 => h9) (by show some (Value.int (xx 8 0 1)) = _; rw [hz_26]) dX1_add_1 ?_
            refine lv_iconst (v := 4) hx hb dX1_add_4 (by decide) ?_
            refine lv_icmp_ne (tgt := 30) hx hb dX1_add_5 (by decide) (fun _ => ?_) (fun c_27 => absurd c_27 (by decide))
            refine lv_aload_n hx hb dX1_add_30 rfl (lv_at hl 0 rfl) ?_
            refine lv_aload_n hx hb dX1_add_31 rfl (lv_at hl 0 rfl) ?_
            refine va_get (D := D) (ci := 0) (v := .int 3) (C := RX1) (T := TX1) (N := 3) hx hb hts iX1_add_X1 hown hG.1 hP 0 rfl rfl 2 (by decide) (hts (.fieldLink RX1 22 "MillComplaints$History" "size" "I") (List.mem_of_getElem? (i := 1) rfl)) (fun _ h9 => h9) (by show some (Value.int (xx 8 0 1)) = _; rw [hz_26]) dX1_add_32 ?_
            refine ro_V (v := .ref ((ad 6) 0)) (rest := []) (As := [.int 3]) hx hb hml hown hts hl (MX1_stateAt_0_3 l D q ad xx ho_1) gX1_add_X1_stateAt rfl kX1_stateAt ⟨Nat.le_of_ble_eq_true rfl, Nat.le_of_ble_eq_true rfl⟩ rfl rfl (hP.sub (ws' := (wHo q ad xx)) [0, 1] rfl) (dT (hD.sub (ws' := (wHo q ad xx)) [0, 1] (by decide) rfl)) hG (ci := 0) rfl rfl rfl rfl (Nat.le_of_ble_eq_true rfl) dX1_add_35 ⟨Nat.zero_le _, Nat.zero_le _⟩ ?_
            refine lv_astore_n (lv' := [(2, .ref ((ad 6) 0)), (0, .ref (ad 8 0)), (1, .ref ((ad 1) 0))]) hx hb dX1_add_38 rfl hl (by decide) rfl (fun ls hl => ?_)
            refine lv_aload_n hx hb dX1_add_39 rfl (lv_at hl 0 rfl) ?_
            refine lv_ifnull hx hb dX1_add_40 ?_
            refine lv_aload_n hx hb dX1_add_43 rfl (lv_at hl 0 rfl) ?_
            refine lv_aload_n hx hb dX1_add_44 rfl (lv_at hl 2 rfl) ?_
            have hM := MX4_copyFrom' l D q (ad 6) (xx 6) (ad 1) (xx 1)
            refine mu_V (D := D) (ws := (wHK q ad xx 1)) (ws' := (wHK q ad (setV xx 6 (xx 1)) 1)) (rest := []) (As := [.ref ((ad 1) 0)]) hx hb hml hown hts hl hM gX1_add_X4_copyFrom rfl kX4_copyFrom ⟨Nat.le_of_ble_eq_true rfl, Nat.le_of_ble_eq_true rfl⟩ rfl rfl hP hD hS hG [32, 33, 34, 35, 36, 37, 38, 39, 40, 41, 42, 43, 44, 45, 46, 47, 48, 49, 50, 51] rfl rfl (by decide) [0, 1, 2, 3, 4, 5, 6, 7, 8, 9, 10, 11, 12, 13, 14, 15, 16, 17, 18, 19, 20, 21, 22, 23, 24, 25, 26, 27, 28, 29, 30, 31, 52, 53, 54, 55, 56, 57, 58, 59, 60, 61, 62, 63, 64, 65, 66, 67, 68, 69, 70, 71] rfl (by decide) rfl (ci := 2) rfl rfl rfl rfl (Nat.le_of_ble_eq_true rfl) dX1_add_45 ⟨Nat.zero_le _, Nat.zero_le _⟩ (fun H locs hP hD hS => ?_)
            obtain ⟨xx_28, exx_28⟩ : ∃ z, z = (setV xx 6 (xx 1)) := ⟨_, rfl⟩
            rw [← exx_28] at hP hD
            replace hR := lt_e hR exx_28
            have ho_29 : (xx_28 8 0 0) = 0 := by rw [exx_28]; exact ho_1
            have ho_30 : (xx_28 8 0 1) = 3 := by rw [exx_28]; exact hz_26
            refine lv_aload_n hx hb dX1_add_48 rfl (lv_at hl 1 rfl) ?_
            refine lv_dup hx hb dX1_add_49 rfl ?_
            refine va_get (D := D) (ci := 0) (v := .int 3) (C := RX1) (T := TX1) (N := 3) hx hb hts iX1_add_X1 hown hG.1 hP 0 rfl rfl 2 (by decide) (hts (.fieldLink RX1 22 "MillComplaints$History" "size" "I") (List.mem_of_getElem? (i := 1) rfl)) (fun _ h9 => h9) (by show some (Value.int (xx_28 8 0 1)) = _; rw [ho_30]) dX1_add_50 ?_
            refine lv_iconst (v := 1) hx hb dX1_add_53 (by decide) ?_
            refine lv_iadd hx hb dX1_add_54 ?_
            refine lv_tope (y := 4) (by decide) ?_
            refine va_put (D := D) (ci := 0) (v := .int 4) (ty := .int) (C := RX1) (T := TX1) (N := 3) hx hb hts iX1_add_X1 tyX1 tyX1_ok nmX1 hown hG.1 hP hD hS 0 rfl rfl 2 (by decide) (hts (.fieldLink RX1 22 "MillComplaints$History" "size" "I") (List.mem_of_getElem? (i := 1) rfl)) (fun _ h9 => h9) rfl (by decide +kernel) rfl rfl (Nat.le_of_ble_eq_true rfl) dX1_add_55 (fun H locs hP hD hS => ?_)
            have hP : va_P D vwCl (wHK q ad (setV xx_28 8 (setA (xx_28 8) 0 (upd (xx_28 8 0) 1 4))) 1) H := hP
            have hD : va_D A (wHK q ad (setV xx_28 8 (setA (xx_28 8) 0 (upd (xx_28 8 0) 1 4))) 1) := hD
            obtain ⟨xx_31, exx_31⟩ : ∃ z, z = (setV xx_28 8 (setA (xx_28 8) 0 (upd (xx_28 8 0) 1 4))) := ⟨_, rfl⟩
            rw [← exx_31] at hP hD
            replace hR := lt_e hR exx_31
            have ho_32 : (xx_31 8 0 0) = 0 := by rw [exx_31]; exact ho_29
            have ho_33 : (xx_31 8 0 1) = 4 := by rw [exx_31]; rfl
            subst hR
            exact mu_vret hx hb hr hk hA hS hP dX1_add_58
          · rw [if_neg hz_26] at hR
            by_cases hz_34 : (xx 8 0 1) = 4
            · rw [if_pos hz_34] at hR
              refine lv_aload_n hx hb dX1_add_0 rfl (lv_at hl 0 rfl) ?_
              refine va_get (D := D) (ci := 0) (v := .int 4) (C := RX1) (T := TX1) (N := 3) hx hb hts iX1_add_X1 hown hG.1 hP 0 rfl rfl 2 (by decide) (hts (.fieldLink RX1 22 "MillComplaints$History" "size" "I") (List.mem_of_getElem? (i := 1) rfl)) (fun _ h9 => h9) (by show some (Value.int (xx 8 0 1)) = _; rw [hz_34]) dX1_add_1 ?_
              refine lv_iconst (v := 4) hx hb dX1_add_4 (by decide) ?_
              refine lv_icmp_ne (tgt := 30) hx hb dX1_add_5 (by decide) (fun c_35 => absurd (by decide) c_35) (fun _ => ?_)
              refine lv_aload_n hx hb dX1_add_8 rfl (lv_at hl 0 rfl) ?_
              refine lv_aload_n hx hb dX1_add_9 rfl (lv_at hl 0 rfl) ?_
              refine va_get (D := D) (ci := 0) (v := .int 0) (C := RX1) (T := TX1) (N := 3) hx hb hts iX1_add_X1 hown hG.1 hP 0 rfl rfl 1 (by decide) (hts (.fieldLink RX1 18 "MillComplaints$History" "oldest" "I") (List.mem_of_getElem? (i := 2) rfl)) (fun _ h9 => h9) (by show some (Value.int (xx 8 0 0)) = _; rw [ho_1]) dX1_add_10 ?_
              refine lv_iconst (v := 1) hx hb dX1_add_13 (by decide) ?_
              refine lv_iadd hx hb dX1_add_14 ?_
              refine lv_tope (y := 1) (by decide) ?_
              refine lv_iconst (v := 4) hx hb dX1_add_15 (by decide) ?_
              refine lv_irem hx hb dX1_add_16 (by decide) ?_
              refine lv_tope (y := 1) (by decide) ?_
              refine va_put (D := D) (ci := 0) (v := .int 1) (ty := .int) (C := RX1) (T := TX1) (N := 3) hx hb hts iX1_add_X1 tyX1 tyX1_ok nmX1 hown hG.1 hP hD hS 0 rfl rfl 1 (by decide) (hts (.fieldLink RX1 18 "MillComplaints$History" "oldest" "I") (List.mem_of_getElem? (i := 2) rfl)) (fun _ h9 => h9) rfl (by decide +kernel) rfl rfl (Nat.le_of_ble_eq_true rfl) dX1_add_17 (fun H locs hP hD hS => ?_)
              have hP : va_P D vwCl (wHK q ad (setV xx 8 (setA (xx 8) 0 (upd (xx 8 0) 0 1))) 1) H := hP
              have hD : va_D A (wHK q ad (setV xx 8 (setA (xx 8) 0 (upd (xx 8 0) 0 1))) 1) := hD
              obtain ⟨xx_36, exx_36⟩ : ∃ z, z = (setV xx 8 (setA (xx 8) 0 (upd (xx 8 0) 0 1))) := ⟨_, rfl⟩
              rw [← exx_36] at hP hD
              replace hR := lt_e hR exx_36
              have ho_37 : (xx_36 8 0 0) = 1 := by rw [exx_36]; rfl
              have ho_38 : (xx_36 8 0 1) = 4 := by rw [exx_36]; exact hz_34
              refine lv_aload_n hx hb dX1_add_20 rfl (lv_at hl 0 rfl) ?_
              refine lv_dup hx hb dX1_add_21 rfl ?_
              refine va_get (D := D) (ci := 0) (v := .int 4) (C := RX1) (T := TX1) (N := 3) hx hb hts iX1_add_X1 hown hG.1 hP 0 rfl rfl 2 (by decide) (hts (.fieldLink RX1 22 "MillComplaints$History" "size" "I") (List.mem_of_getElem? (i := 1) rfl)) (fun _ h9 => h9) (by show some (Value.int (xx_36 8 0 1)) = _; rw [ho_38]) dX1_add_22 ?_
              refine lv_iconst (v := 1) hx hb dX1_add_25 (by decide) ?_
              refine lv_isub hx hb dX1_add_26 ?_
              refine lv_tope (y := 3) (by decide) ?_
              refine va_put (D := D) (ci := 0) (v := .int 3) (ty := .int) (C := RX1) (T := TX1) (N := 3) hx hb hts iX1_add_X1 tyX1 tyX1_ok nmX1 hown hG.1 hP hD hS 0 rfl rfl 2 (by decide) (hts (.fieldLink RX1 22 "MillComplaints$History" "size" "I") (List.mem_of_getElem? (i := 1) rfl)) (fun _ h9 => h9) rfl (by decide +kernel) rfl rfl (Nat.le_of_ble_eq_true rfl) dX1_add_27 (fun H locs hP hD hS => ?_)
              have hP : va_P D vwCl (wHK q ad (setV xx_36 8 (setA (xx_36 8) 0 (upd (xx_36 8 0) 1 3))) 1) H := hP
              have hD : va_D A (wHK q ad (setV xx_36 8 (setA (xx_36 8) 0 (upd (xx_36 8 0) 1 3))) 1) := hD
              obtain ⟨xx_39, exx_39⟩ : ∃ z, z = (setV xx_36 8 (setA (xx_36 8) 0 (upd (xx_36 8 0) 1 3))) := ⟨_, rfl⟩
              rw [← exx_39] at hP hD
              replace hR := lt_e hR exx_39
              have ho_40 : (xx_39 8 0 0) = 1 := by rw [exx_39]; exact ho_37
              have ho_41 : (xx_39 8 0 1) = 3 := by rw [exx_39]; rfl
              refine lv_aload_n hx hb dX1_add_30 rfl (lv_at hl 0 rfl) ?_
              refine lv_aload_n hx hb dX1_add_31 rfl (lv_at hl 0 rfl) ?_
              refine va_get (D := D) (ci := 0) (v := .int 3) (C := RX1) (T := TX1) (N := 3) hx hb hts iX1_add_X1 hown hG.1 hP 0 rfl rfl 2 (by decide) (hts (.fieldLink RX1 22 "MillComplaints$History" "size" "I") (List.mem_of_getElem? (i := 1) rfl)) (fun _ h9 => h9) (by show some (Value.int (xx_39 8 0 1)) = _; rw [ho_41]) dX1_add_32 ?_
              refine ro_V (v := .ref ((ad 3) 0)) (rest := []) (As := [.int 3]) hx hb hml hown hts hl (MX1_stateAt_1_3 l D q ad xx_39 ho_40) gX1_add_X1_stateAt rfl kX1_stateAt ⟨Nat.le_of_ble_eq_true rfl, Nat.le_of_ble_eq_true rfl⟩ rfl rfl (hP.sub (ws' := (wHo q ad xx_39)) [0, 1] rfl) (dT (hD.sub (ws' := (wHo q ad xx_39)) [0, 1] (by decide) rfl)) hG (ci := 0) rfl rfl rfl rfl (Nat.le_of_ble_eq_true rfl) dX1_add_35 ⟨Nat.zero_le _, Nat.zero_le _⟩ ?_
              refine lv_astore_n (lv' := [(2, .ref ((ad 3) 0)), (0, .ref (ad 8 0)), (1, .ref ((ad 1) 0))]) hx hb dX1_add_38 rfl hl (by decide) rfl (fun ls hl => ?_)
              refine lv_aload_n hx hb dX1_add_39 rfl (lv_at hl 0 rfl) ?_
              refine lv_ifnull hx hb dX1_add_40 ?_
              refine lv_aload_n hx hb dX1_add_43 rfl (lv_at hl 0 rfl) ?_
              refine lv_aload_n hx hb dX1_add_44 rfl (lv_at hl 2 rfl) ?_
              have hM := MX4_copyFrom' l D q (ad 3) (xx_39 3) (ad 1) (xx_39 1)
              refine mu_V (D := D) (ws := (wHK q ad xx_39 1)) (ws' := (wHK q ad (setV xx_39 3 (xx_39 1)) 1)) (rest := []) (As := [.ref ((ad 1) 0)]) hx hb hml hown hts hl hM gX1_add_X4_copyFrom rfl kX4_copyFrom ⟨Nat.le_of_ble_eq_true rfl, Nat.le_of_ble_eq_true rfl⟩ rfl rfl hP hD hS hG [2, 3, 4, 5, 6, 7, 8, 9, 10, 11, 42, 43, 44, 45, 46, 47, 48, 49, 50, 51] rfl rfl (by decide) [0, 1, 52, 53, 54, 55, 56, 57, 58, 59, 60, 61, 12, 13, 14, 15, 16, 17, 18, 19, 20, 21, 22, 23, 24, 25, 26, 27, 28, 29, 30, 31, 32, 33, 34, 35, 36, 37, 38, 39, 40, 41, 62, 63, 64, 65, 66, 67, 68, 69, 70, 71] rfl (by decide) rfl (ci := 2) rfl rfl rfl rfl (Nat.le_of_ble_eq_true rfl) dX1_add_45 ⟨Nat.zero_le _, Nat.zero_le _⟩ (fun H locs hP hD hS => ?_)
              obtain ⟨xx_42, exx_42⟩ : ∃ z, z = (setV xx_39 3 (xx_39 1)) := ⟨_, rfl⟩
              rw [← exx_42] at hP hD
              replace hR := lt_e hR exx_42
              have ho_43 : (xx_42 8 0 0) = 1 := by rw [exx_42]; exact ho_40
              have ho_44 : (xx_42 8 0 1) = 3 := by rw [exx_42]; exact ho_41
              refine lv_aload_n hx hb dX1_add_48 rfl (lv_at hl 1 rfl) ?_
              refine lv_dup hx hb dX1_add_49 rfl ?_
              refine va_get (D := D) (ci := 0) (v := .int 3) (C := RX1) (T := TX1) (N := 3) hx hb hts iX1_add_X1 hown hG.1 hP 0 rfl rfl 2 (by decide) (hts (.fieldLink RX1 22 "MillComplaints$History" "size" "I") (List.mem_of_getElem? (i := 1) rfl)) (fun _ h9 => h9) (by show some (Value.int (xx_42 8 0 1)) = _; rw [ho_44]) dX1_add_50 ?_
              refine lv_iconst (v := 1) hx hb dX1_add_53 (by decide) ?_
              refine lv_iadd hx hb dX1_add_54 ?_
              refine lv_tope (y := 4) (by decide) ?_
              refine va_put (D := D) (ci := 0) (v := .int 4) (ty := .int) (C := RX1) (T := TX1) (N := 3) hx hb hts iX1_add_X1 tyX1 tyX1_ok nmX1 hown hG.1 hP hD hS 0 rfl rfl 2 (by decide) (hts (.fieldLink RX1 22 "MillComplaints$History" "size" "I") (List.mem_of_getElem? (i := 1) rfl)) (fun _ h9 => h9) rfl (by decide +kernel) rfl rfl (Nat.le_of_ble_eq_true rfl) dX1_add_55 (fun H locs hP hD hS => ?_)
              have hP : va_P D vwCl (wHK q ad (setV xx_42 8 (setA (xx_42 8) 0 (upd (xx_42 8 0) 1 4))) 1) H := hP
              have hD : va_D A (wHK q ad (setV xx_42 8 (setA (xx_42 8) 0 (upd (xx_42 8 0) 1 4))) 1) := hD
              obtain ⟨xx_45, exx_45⟩ : ∃ z, z = (setV xx_42 8 (setA (xx_42 8) 0 (upd (xx_42 8 0) 1 4))) := ⟨_, rfl⟩
              rw [← exx_45] at hP hD
              replace hR := lt_e hR exx_45
              have ho_46 : (xx_45 8 0 0) = 1 := by rw [exx_45]; exact ho_43
              have ho_47 : (xx_45 8 0 1) = 4 := by rw [exx_45]; rfl
              subst hR
              exact mu_vret hx hb hr hk hA hS hP dX1_add_58
            · rw [if_neg hz_34] at hR
              exact (rg_z hrg hz_2 hz_10 hz_18 hz_26 hz_34).elim
  · rw [if_neg ho_1] at hR
    by_cases ho_48 : (xx 8 0 0) = 1
    · rw [if_pos ho_48] at hR
      by_cases hz_49 : (xx 8 0 1) = 0
      · rw [if_pos hz_49] at hR
        refine lv_aload_n hx hb dX1_add_0 rfl (lv_at hl 0 rfl) ?_
        refine va_get (D := D) (ci := 0) (v := .int 0) (C := RX1) (T := TX1) (N := 3) hx hb hts iX1_add_X1 hown hG.1 hP 0 rfl rfl 2 (by decide) (hts (.fieldLink RX1 22 "MillComplaints$History" "size" "I") (List.mem_of_getElem? (i := 1) rfl)) (fun _ h9 => h9) (by show some (Value.int (xx 8 0 1)) = _; rw [hz_49]) dX1_add_1 ?_
        refine lv_iconst (v := 4) hx hb dX1_add_4 (by decide) ?_
        refine lv_icmp_ne (tgt := 30) hx hb dX1_add_5 (by decide) (fun _ => ?_) (fun c_50 => absurd c_50 (by decide))
        refine lv_aload_n hx hb dX1_add_30 rfl (lv_at hl 0 rfl) ?_
        refine lv_aload_n hx hb dX1_add_31 rfl (lv_at hl 0 rfl) ?_
        refine va_get (D := D) (ci := 0) (v := .int 0) (C := RX1) (T := TX1) (N := 3) hx hb hts iX1_add_X1 hown hG.1 hP 0 rfl rfl 2 (by decide) (hts (.fieldLink RX1 22 "MillComplaints$History" "size" "I") (List.mem_of_getElem? (i := 1) rfl)) (fun _ h9 => h9) (by show some (Value.int (xx 8 0 1)) = _; rw [hz_49]) dX1_add_32 ?_
        refine ro_V (v := .ref ((ad 4) 0)) (rest := []) (As := [.int 0]) hx hb hml hown hts hl (MX1_stateAt_1_0 l D q ad xx ho_48) gX1_add_X1_stateAt rfl kX1_stateAt ⟨Nat.le_of_ble_eq_true rfl, Nat.le_of_ble_eq_true rfl⟩ rfl rfl (hP.sub (ws' := (wHo q ad xx)) [0, 1] rfl) (dT (hD.sub (ws' := (wHo q ad xx)) [0, 1] (by decide) rfl)) hG (ci := 0) rfl rfl rfl rfl (Nat.le_of_ble_eq_true rfl) dX1_add_35 ⟨Nat.zero_le _, Nat.zero_le _⟩ ?_
        refine lv_astore_n (lv' := [(2, .ref ((ad 4) 0)), (0, .ref (ad 8 0)), (1, .ref ((ad 1) 0))]) hx hb dX1_add_38 rfl hl (by decide) rfl (fun ls hl => ?_)
        refine lv_aload_n hx hb dX1_add_39 rfl (lv_at hl 0 rfl) ?_
        refine lv_ifnull hx hb dX1_add_40 ?_
        refine lv_aload_n hx hb dX1_add_43 rfl (lv_at hl 0 rfl) ?_
        refine lv_aload_n hx hb dX1_add_44 rfl (lv_at hl 2 rfl) ?_
        have hM := MX4_copyFrom' l D q (ad 4) (xx 4) (ad 1) (xx 1)
        refine mu_V (D := D) (ws := (wHK q ad xx 1)) (ws' := (wHK q ad (setV xx 4 (xx 1)) 1)) (rest := []) (As := [.ref ((ad 1) 0)]) hx hb hml hown hts hl hM gX1_add_X4_copyFrom rfl kX4_copyFrom ⟨Nat.le_of_ble_eq_true rfl, Nat.le_of_ble_eq_true rfl⟩ rfl rfl hP hD hS hG [12, 13, 14, 15, 16, 17, 18, 19, 20, 21, 42, 43, 44, 45, 46, 47, 48, 49, 50, 51] rfl rfl (by decide) [0, 1, 2, 3, 4, 5, 6, 7, 8, 9, 10, 11, 52, 53, 54, 55, 56, 57, 58, 59, 60, 61, 22, 23, 24, 25, 26, 27, 28, 29, 30, 31, 32, 33, 34, 35, 36, 37, 38, 39, 40, 41, 62, 63, 64, 65, 66, 67, 68, 69, 70, 71] rfl (by decide) rfl (ci := 2) rfl rfl rfl rfl (Nat.le_of_ble_eq_true rfl) dX1_add_45 ⟨Nat.zero_le _, Nat.zero_le _⟩ (fun H locs hP hD hS => ?_)
        obtain ⟨xx_51, exx_51⟩ : ∃ z, z = (setV xx 4 (xx 1)) := ⟨_, rfl⟩
        rw [← exx_51] at hP hD
        replace hR := lt_e hR exx_51
        have ho_52 : (xx_51 8 0 0) = 1 := by rw [exx_51]; exact ho_48
        have ho_53 : (xx_51 8 0 1) = 0 := by rw [exx_51]; exact hz_49
        refine lv_aload_n hx hb dX1_add_48 rfl (lv_at hl 1 rfl) ?_
        refine lv_dup hx hb dX1_add_49 rfl ?_
        refine va_get (D := D) (ci := 0) (v := .int 0) (C := RX1) (T := TX1) (N := 3) hx hb hts iX1_add_X1 hown hG.1 hP 0 rfl rfl 2 (by decide) (hts (.fieldLink RX1 22 "MillComplaints$History" "size" "I") (List.mem_of_getElem? (i := 1) rfl)) (fun _ h9 => h9) (by show some (Value.int (xx_51 8 0 1)) = _; rw [ho_53]) dX1_add_50 ?_
        refine lv_iconst (v := 1) hx hb dX1_add_53 (by decide) ?_
        refine lv_iadd hx hb dX1_add_54 ?_
        refine lv_tope (y := 1) (by decide) ?_
        refine va_put (D := D) (ci := 0) (v := .int 1) (ty := .int) (C := RX1) (T := TX1) (N := 3) hx hb hts iX1_add_X1 tyX1 tyX1_ok nmX1 hown hG.1 hP hD hS 0 rfl rfl 2 (by decide) (hts (.fieldLink RX1 22 "MillComplaints$History" "size" "I") (List.mem_of_getElem? (i := 1) rfl)) (fun _ h9 => h9) rfl (by decide +kernel) rfl rfl (Nat.le_of_ble_eq_true rfl) dX1_add_55 (fun H locs hP hD hS => ?_)
        have hP : va_P D vwCl (wHK q ad (setV xx_51 8 (setA (xx_51 8) 0 (upd (xx_51 8 0) 1 1))) 1) H := hP
        have hD : va_D A (wHK q ad (setV xx_51 8 (setA (xx_51 8) 0 (upd (xx_51 8 0) 1 1))) 1) := hD
        obtain ⟨xx_54, exx_54⟩ : ∃ z, z = (setV xx_51 8 (setA (xx_51 8) 0 (upd (xx_51 8 0) 1 1))) := ⟨_, rfl⟩
        rw [← exx_54] at hP hD
        replace hR := lt_e hR exx_54
        have ho_55 : (xx_54 8 0 0) = 1 := by rw [exx_54]; exact ho_52
        have ho_56 : (xx_54 8 0 1) = 1 := by rw [exx_54]; rfl
        subst hR
        exact mu_vret hx hb hr hk hA hS hP dX1_add_58
      · rw [if_neg hz_49] at hR
        by_cases hz_57 : (xx 8 0 1) = 1
        · rw [if_pos hz_57] at hR
          refine lv_aload_n hx hb dX1_add_0 rfl (lv_at hl 0 rfl) ?_
          refine va_get (D := D) (ci := 0) (v := .int 1) (C := RX1) (T := TX1) (N := 3) hx hb hts iX1_add_X1 hown hG.1 hP 0 rfl rfl 2 (by decide) (hts (.fieldLink RX1 22 "MillComplaints$History" "size" "I") (List.mem_of_getElem? (i := 1) rfl)) (fun _ h9 => h9) (by show some (Value.int (xx 8 0 1)) = _; rw [hz_57]) dX1_add_1 ?_
          refine lv_iconst (v := 4) hx hb dX1_add_4 (by decide) ?_
          refine lv_icmp_ne (tgt := 30) hx hb dX1_add_5 (by decide) (fun _ => ?_) (fun c_58 => absurd c_58 (by decide))
          refine lv_aload_n hx hb dX1_add_30 rfl (lv_at hl 0 rfl) ?_
          refine lv_aload_n hx hb dX1_add_31 rfl (lv_at hl 0 rfl) ?_
          refine va_get (D := D) (ci := 0) (v := .int 1) (C := RX1) (T := TX1) (N := 3) hx hb hts iX1_add_X1 hown hG.1 hP 0 rfl rfl 2 (by decide) (hts (.fieldLink RX1 22 "MillComplaints$History" "size" "I") (List.mem_of_getElem? (i := 1) rfl)) (fun _ h9 => h9) (by show some (Value.int (xx 8 0 1)) = _; rw [hz_57]) dX1_add_32 ?_
          refine ro_V (v := .ref ((ad 5) 0)) (rest := []) (As := [.int 1]) hx hb hml hown hts hl (MX1_stateAt_1_1 l D q ad xx ho_48) gX1_add_X1_stateAt rfl kX1_stateAt ⟨Nat.le_of_ble_eq_true rfl, Nat.le_of_ble_eq_true rfl⟩ rfl rfl (hP.sub (ws' := (wHo q ad xx)) [0, 1] rfl) (dT (hD.sub (ws' := (wHo q ad xx)) [0, 1] (by decide) rfl)) hG (ci := 0) rfl rfl rfl rfl (Nat.le_of_ble_eq_true rfl) dX1_add_35 ⟨Nat.zero_le _, Nat.zero_le _⟩ ?_
          refine lv_astore_n (lv' := [(2, .ref ((ad 5) 0)), (0, .ref (ad 8 0)), (1, .ref ((ad 1) 0))]) hx hb dX1_add_38 rfl hl (by decide) rfl (fun ls hl => ?_)
          refine lv_aload_n hx hb dX1_add_39 rfl (lv_at hl 0 rfl) ?_
          refine lv_ifnull hx hb dX1_add_40 ?_
          refine lv_aload_n hx hb dX1_add_43 rfl (lv_at hl 0 rfl) ?_
          refine lv_aload_n hx hb dX1_add_44 rfl (lv_at hl 2 rfl) ?_
          have hM := MX4_copyFrom' l D q (ad 5) (xx 5) (ad 1) (xx 1)
          refine mu_V (D := D) (ws := (wHK q ad xx 1)) (ws' := (wHK q ad (setV xx 5 (xx 1)) 1)) (rest := []) (As := [.ref ((ad 1) 0)]) hx hb hml hown hts hl hM gX1_add_X4_copyFrom rfl kX4_copyFrom ⟨Nat.le_of_ble_eq_true rfl, Nat.le_of_ble_eq_true rfl⟩ rfl rfl hP hD hS hG [22, 23, 24, 25, 26, 27, 28, 29, 30, 31, 42, 43, 44, 45, 46, 47, 48, 49, 50, 51] rfl rfl (by decide) [0, 1, 2, 3, 4, 5, 6, 7, 8, 9, 10, 11, 12, 13, 14, 15, 16, 17, 18, 19, 20, 21, 52, 53, 54, 55, 56, 57, 58, 59, 60, 61, 32, 33, 34, 35, 36, 37, 38, 39, 40, 41, 62, 63, 64, 65, 66, 67, 68, 69, 70, 71] rfl (by decide) rfl (ci := 2) rfl rfl rfl rfl (Nat.le_of_ble_eq_true rfl) dX1_add_45 ⟨Nat.zero_le _, Nat.zero_le _⟩ (fun H locs hP hD hS => ?_)
          obtain ⟨xx_59, exx_59⟩ : ∃ z, z = (setV xx 5 (xx 1)) := ⟨_, rfl⟩
          rw [← exx_59] at hP hD
          replace hR := lt_e hR exx_59
          have ho_60 : (xx_59 8 0 0) = 1 := by rw [exx_59]; exact ho_48
          have ho_61 : (xx_59 8 0 1) = 1 := by rw [exx_59]; exact hz_57
          refine lv_aload_n hx hb dX1_add_48 rfl (lv_at hl 1 rfl) ?_
          refine lv_dup hx hb dX1_add_49 rfl ?_
          refine va_get (D := D) (ci := 0) (v := .int 1) (C := RX1) (T := TX1) (N := 3) hx hb hts iX1_add_X1 hown hG.1 hP 0 rfl rfl 2 (by decide) (hts (.fieldLink RX1 22 "MillComplaints$History" "size" "I") (List.mem_of_getElem? (i := 1) rfl)) (fun _ h9 => h9) (by show some (Value.int (xx_59 8 0 1)) = _; rw [ho_61]) dX1_add_50 ?_
          refine lv_iconst (v := 1) hx hb dX1_add_53 (by decide) ?_
          refine lv_iadd hx hb dX1_add_54 ?_
          refine lv_tope (y := 2) (by decide) ?_
          refine va_put (D := D) (ci := 0) (v := .int 2) (ty := .int) (C := RX1) (T := TX1) (N := 3) hx hb hts iX1_add_X1 tyX1 tyX1_ok nmX1 hown hG.1 hP hD hS 0 rfl rfl 2 (by decide) (hts (.fieldLink RX1 22 "MillComplaints$History" "size" "I") (List.mem_of_getElem? (i := 1) rfl)) (fun _ h9 => h9) rfl (by decide +kernel) rfl rfl (Nat.le_of_ble_eq_true rfl) dX1_add_55 (fun H locs hP hD hS => ?_)
          have hP : va_P D vwCl (wHK q ad (setV xx_59 8 (setA (xx_59 8) 0 (upd (xx_59 8 0) 1 2))) 1) H := hP
          have hD : va_D A (wHK q ad (setV xx_59 8 (setA (xx_59 8) 0 (upd (xx_59 8 0) 1 2))) 1) := hD
          obtain ⟨xx_62, exx_62⟩ : ∃ z, z = (setV xx_59 8 (setA (xx_59 8) 0 (upd (xx_59 8 0) 1 2))) := ⟨_, rfl⟩
          rw [← exx_62] at hP hD
          replace hR := lt_e hR exx_62
          have ho_63 : (xx_62 8 0 0) = 1 := by rw [exx_62]; exact ho_60
          have ho_64 : (xx_62 8 0 1) = 2 := by rw [exx_62]; rfl
          subst hR
          exact mu_vret hx hb hr hk hA hS hP dX1_add_58
        · rw [if_neg hz_57] at hR
          by_cases hz_65 : (xx 8 0 1) = 2
          · rw [if_pos hz_65] at hR
            refine lv_aload_n hx hb dX1_add_0 rfl (lv_at hl 0 rfl) ?_
            refine va_get (D := D) (ci := 0) (v := .int 2) (C := RX1) (T := TX1) (N := 3) hx hb hts iX1_add_X1 hown hG.1 hP 0 rfl rfl 2 (by decide) (hts (.fieldLink RX1 22 "MillComplaints$History" "size" "I") (List.mem_of_getElem? (i := 1) rfl)) (fun _ h9 => h9) (by show some (Value.int (xx 8 0 1)) = _; rw [hz_65]) dX1_add_1 ?_
            refine lv_iconst (v := 4) hx hb dX1_add_4 (by decide) ?_
            refine lv_icmp_ne (tgt := 30) hx hb dX1_add_5 (by decide) (fun _ => ?_) (fun c_66 => absurd c_66 (by decide))
            refine lv_aload_n hx hb dX1_add_30 rfl (lv_at hl 0 rfl) ?_
            refine lv_aload_n hx hb dX1_add_31 rfl (lv_at hl 0 rfl) ?_
            refine va_get (D := D) (ci := 0) (v := .int 2) (C := RX1) (T := TX1) (N := 3) hx hb hts iX1_add_X1 hown hG.1 hP 0 rfl rfl 2 (by decide) (hts (.fieldLink RX1 22 "MillComplaints$History" "size" "I") (List.mem_of_getElem? (i := 1) rfl)) (fun _ h9 => h9) (by show some (Value.int (xx 8 0 1)) = _; rw [hz_65]) dX1_add_32 ?_
            refine ro_V (v := .ref ((ad 6) 0)) (rest := []) (As := [.int 2]) hx hb hml hown hts hl (MX1_stateAt_1_2 l D q ad xx ho_48) gX1_add_X1_stateAt rfl kX1_stateAt ⟨Nat.le_of_ble_eq_true rfl, Nat.le_of_ble_eq_true rfl⟩ rfl rfl (hP.sub (ws' := (wHo q ad xx)) [0, 1] rfl) (dT (hD.sub (ws' := (wHo q ad xx)) [0, 1] (by decide) rfl)) hG (ci := 0) rfl rfl rfl rfl (Nat.le_of_ble_eq_true rfl) dX1_add_35 ⟨Nat.zero_le _, Nat.zero_le _⟩ ?_
            refine lv_astore_n (lv' := [(2, .ref ((ad 6) 0)), (0, .ref (ad 8 0)), (1, .ref ((ad 1) 0))]) hx hb dX1_add_38 rfl hl (by decide) rfl (fun ls hl => ?_)
            refine lv_aload_n hx hb dX1_add_39 rfl (lv_at hl 0 rfl) ?_
            refine lv_ifnull hx hb dX1_add_40 ?_
            refine lv_aload_n hx hb dX1_add_43 rfl (lv_at hl 0 rfl) ?_
            refine lv_aload_n hx hb dX1_add_44 rfl (lv_at hl 2 rfl) ?_
            have hM := MX4_copyFrom' l D q (ad 6) (xx 6) (ad 1) (xx 1)
            refine mu_V (D := D) (ws := (wHK q ad xx 1)) (ws' := (wHK q ad (setV xx 6 (xx 1)) 1)) (rest := []) (As := [.ref ((ad 1) 0)]) hx hb hml hown hts hl hM gX1_add_X4_copyFrom rfl kX4_copyFrom ⟨Nat.le_of_ble_eq_true rfl, Nat.le_of_ble_eq_true rfl⟩ rfl rfl hP hD hS hG [32, 33, 34, 35, 36, 37, 38, 39, 40, 41, 42, 43, 44, 45, 46, 47, 48, 49, 50, 51] rfl rfl (by decide) [0, 1, 2, 3, 4, 5, 6, 7, 8, 9, 10, 11, 12, 13, 14, 15, 16, 17, 18, 19, 20, 21, 22, 23, 24, 25, 26, 27, 28, 29, 30, 31, 52, 53, 54, 55, 56, 57, 58, 59, 60, 61, 62, 63, 64, 65, 66, 67, 68, 69, 70, 71] rfl (by decide) rfl (ci := 2) rfl rfl rfl rfl (Nat.le_of_ble_eq_true rfl) dX1_add_45 ⟨Nat.zero_le _, Nat.zero_le _⟩ (fun H locs hP hD hS => ?_)
            obtain ⟨xx_67, exx_67⟩ : ∃ z, z = (setV xx 6 (xx 1)) := ⟨_, rfl⟩
            rw [← exx_67] at hP hD
            replace hR := lt_e hR exx_67
            have ho_68 : (xx_67 8 0 0) = 1 := by rw [exx_67]; exact ho_48
            have ho_69 : (xx_67 8 0 1) = 2 := by rw [exx_67]; exact hz_65
            refine lv_aload_n hx hb dX1_add_48 rfl (lv_at hl 1 rfl) ?_
            refine lv_dup hx hb dX1_add_49 rfl ?_
            refine va_get (D := D) (ci := 0) (v := .int 2) (C := RX1) (T := TX1) (N := 3) hx hb hts iX1_add_X1 hown hG.1 hP 0 rfl rfl 2 (by decide) (hts (.fieldLink RX1 22 "MillComplaints$History" "size" "I") (List.mem_of_getElem? (i := 1) rfl)) (fun _ h9 => h9) (by show some (Value.int (xx_67 8 0 1)) = _; rw [ho_69]) dX1_add_50 ?_
            refine lv_iconst (v := 1) hx hb dX1_add_53 (by decide) ?_
            refine lv_iadd hx hb dX1_add_54 ?_
            refine lv_tope (y := 3) (by decide) ?_
            refine va_put (D := D) (ci := 0) (v := .int 3) (ty := .int) (C := RX1) (T := TX1) (N := 3) hx hb hts iX1_add_X1 tyX1 tyX1_ok nmX1 hown hG.1 hP hD hS 0 rfl rfl 2 (by decide) (hts (.fieldLink RX1 22 "MillComplaints$History" "size" "I") (List.mem_of_getElem? (i := 1) rfl)) (fun _ h9 => h9) rfl (by decide +kernel) rfl rfl (Nat.le_of_ble_eq_true rfl) dX1_add_55 (fun H locs hP hD hS => ?_)
            have hP : va_P D vwCl (wHK q ad (setV xx_67 8 (setA (xx_67 8) 0 (upd (xx_67 8 0) 1 3))) 1) H := hP
            have hD : va_D A (wHK q ad (setV xx_67 8 (setA (xx_67 8) 0 (upd (xx_67 8 0) 1 3))) 1) := hD
            obtain ⟨xx_70, exx_70⟩ : ∃ z, z = (setV xx_67 8 (setA (xx_67 8) 0 (upd (xx_67 8 0) 1 3))) := ⟨_, rfl⟩
            rw [← exx_70] at hP hD
            replace hR := lt_e hR exx_70
            have ho_71 : (xx_70 8 0 0) = 1 := by rw [exx_70]; exact ho_68
            have ho_72 : (xx_70 8 0 1) = 3 := by rw [exx_70]; rfl
            subst hR
            exact mu_vret hx hb hr hk hA hS hP dX1_add_58
          · rw [if_neg hz_65] at hR
            by_cases hz_73 : (xx 8 0 1) = 3
            · rw [if_pos hz_73] at hR
              refine lv_aload_n hx hb dX1_add_0 rfl (lv_at hl 0 rfl) ?_
              refine va_get (D := D) (ci := 0) (v := .int 3) (C := RX1) (T := TX1) (N := 3) hx hb hts iX1_add_X1 hown hG.1 hP 0 rfl rfl 2 (by decide) (hts (.fieldLink RX1 22 "MillComplaints$History" "size" "I") (List.mem_of_getElem? (i := 1) rfl)) (fun _ h9 => h9) (by show some (Value.int (xx 8 0 1)) = _; rw [hz_73]) dX1_add_1 ?_
              refine lv_iconst (v := 4) hx hb dX1_add_4 (by decide) ?_
              refine lv_icmp_ne (tgt := 30) hx hb dX1_add_5 (by decide) (fun _ => ?_) (fun c_74 => absurd c_74 (by decide))
              refine lv_aload_n hx hb dX1_add_30 rfl (lv_at hl 0 rfl) ?_
              refine lv_aload_n hx hb dX1_add_31 rfl (lv_at hl 0 rfl) ?_
              refine va_get (D := D) (ci := 0) (v := .int 3) (C := RX1) (T := TX1) (N := 3) hx hb hts iX1_add_X1 hown hG.1 hP 0 rfl rfl 2 (by decide) (hts (.fieldLink RX1 22 "MillComplaints$History" "size" "I") (List.mem_of_getElem? (i := 1) rfl)) (fun _ h9 => h9) (by show some (Value.int (xx 8 0 1)) = _; rw [hz_73]) dX1_add_32 ?_
              refine ro_V (v := .ref ((ad 3) 0)) (rest := []) (As := [.int 3]) hx hb hml hown hts hl (MX1_stateAt_1_3 l D q ad xx ho_48) gX1_add_X1_stateAt rfl kX1_stateAt ⟨Nat.le_of_ble_eq_true rfl, Nat.le_of_ble_eq_true rfl⟩ rfl rfl (hP.sub (ws' := (wHo q ad xx)) [0, 1] rfl) (dT (hD.sub (ws' := (wHo q ad xx)) [0, 1] (by decide) rfl)) hG (ci := 0) rfl rfl rfl rfl (Nat.le_of_ble_eq_true rfl) dX1_add_35 ⟨Nat.zero_le _, Nat.zero_le _⟩ ?_
              refine lv_astore_n (lv' := [(2, .ref ((ad 3) 0)), (0, .ref (ad 8 0)), (1, .ref ((ad 1) 0))]) hx hb dX1_add_38 rfl hl (by decide) rfl (fun ls hl => ?_)
              refine lv_aload_n hx hb dX1_add_39 rfl (lv_at hl 0 rfl) ?_
              refine lv_ifnull hx hb dX1_add_40 ?_
              refine lv_aload_n hx hb dX1_add_43 rfl (lv_at hl 0 rfl) ?_
              refine lv_aload_n hx hb dX1_add_44 rfl (lv_at hl 2 rfl) ?_
              have hM := MX4_copyFrom' l D q (ad 3) (xx 3) (ad 1) (xx 1)
              refine mu_V (D := D) (ws := (wHK q ad xx 1)) (ws' := (wHK q ad (setV xx 3 (xx 1)) 1)) (rest := []) (As := [.ref ((ad 1) 0)]) hx hb hml hown hts hl hM gX1_add_X4_copyFrom rfl kX4_copyFrom ⟨Nat.le_of_ble_eq_true rfl, Nat.le_of_ble_eq_true rfl⟩ rfl rfl hP hD hS hG [2, 3, 4, 5, 6, 7, 8, 9, 10, 11, 42, 43, 44, 45, 46, 47, 48, 49, 50, 51] rfl rfl (by decide) [0, 1, 52, 53, 54, 55, 56, 57, 58, 59, 60, 61, 12, 13, 14, 15, 16, 17, 18, 19, 20, 21, 22, 23, 24, 25, 26, 27, 28, 29, 30, 31, 32, 33, 34, 35, 36, 37, 38, 39, 40, 41, 62, 63, 64, 65, 66, 67, 68, 69, 70, 71] rfl (by decide) rfl (ci := 2) rfl rfl rfl rfl (Nat.le_of_ble_eq_true rfl) dX1_add_45 ⟨Nat.zero_le _, Nat.zero_le _⟩ (fun H locs hP hD hS => ?_)
              obtain ⟨xx_75, exx_75⟩ : ∃ z, z = (setV xx 3 (xx 1)) := ⟨_, rfl⟩
              rw [← exx_75] at hP hD
              replace hR := lt_e hR exx_75
              have ho_76 : (xx_75 8 0 0) = 1 := by rw [exx_75]; exact ho_48
              have ho_77 : (xx_75 8 0 1) = 3 := by rw [exx_75]; exact hz_73
              refine lv_aload_n hx hb dX1_add_48 rfl (lv_at hl 1 rfl) ?_
              refine lv_dup hx hb dX1_add_49 rfl ?_
              refine va_get (D := D) (ci := 0) (v := .int 3) (C := RX1) (T := TX1) (N := 3) hx hb hts iX1_add_X1 hown hG.1 hP 0 rfl rfl 2 (by decide) (hts (.fieldLink RX1 22 "MillComplaints$History" "size" "I") (List.mem_of_getElem? (i := 1) rfl)) (fun _ h9 => h9) (by show some (Value.int (xx_75 8 0 1)) = _; rw [ho_77]) dX1_add_50 ?_
              refine lv_iconst (v := 1) hx hb dX1_add_53 (by decide) ?_
              refine lv_iadd hx hb dX1_add_54 ?_
              refine lv_tope (y := 4) (by decide) ?_
              refine va_put (D := D) (ci := 0) (v := .int 4) (ty := .int) (C := RX1) (T := TX1) (N := 3) hx hb hts iX1_add_X1 tyX1 tyX1_ok nmX1 hown hG.1 hP hD hS 0 rfl rfl 2 (by decide) (hts (.fieldLink RX1 22 "MillComplaints$History" "size" "I") (List.mem_of_getElem? (i := 1) rfl)) (fun _ h9 => h9) rfl (by decide +kernel) rfl rfl (Nat.le_of_ble_eq_true rfl) dX1_add_55 (fun H locs hP hD hS => ?_)
              have hP : va_P D vwCl (wHK q ad (setV xx_75 8 (setA (xx_75 8) 0 (upd (xx_75 8 0) 1 4))) 1) H := hP
              have hD : va_D A (wHK q ad (setV xx_75 8 (setA (xx_75 8) 0 (upd (xx_75 8 0) 1 4))) 1) := hD
              obtain ⟨xx_78, exx_78⟩ : ∃ z, z = (setV xx_75 8 (setA (xx_75 8) 0 (upd (xx_75 8 0) 1 4))) := ⟨_, rfl⟩
              rw [← exx_78] at hP hD
              replace hR := lt_e hR exx_78
              have ho_79 : (xx_78 8 0 0) = 1 := by rw [exx_78]; exact ho_76
              have ho_80 : (xx_78 8 0 1) = 4 := by rw [exx_78]; rfl
              subst hR
              exact mu_vret hx hb hr hk hA hS hP dX1_add_58
            · rw [if_neg hz_73] at hR
              by_cases hz_81 : (xx 8 0 1) = 4
              · rw [if_pos hz_81] at hR
                refine lv_aload_n hx hb dX1_add_0 rfl (lv_at hl 0 rfl) ?_
                refine va_get (D := D) (ci := 0) (v := .int 4) (C := RX1) (T := TX1) (N := 3) hx hb hts iX1_add_X1 hown hG.1 hP 0 rfl rfl 2 (by decide) (hts (.fieldLink RX1 22 "MillComplaints$History" "size" "I") (List.mem_of_getElem? (i := 1) rfl)) (fun _ h9 => h9) (by show some (Value.int (xx 8 0 1)) = _; rw [hz_81]) dX1_add_1 ?_
                refine lv_iconst (v := 4) hx hb dX1_add_4 (by decide) ?_
                refine lv_icmp_ne (tgt := 30) hx hb dX1_add_5 (by decide) (fun c_82 => absurd (by decide) c_82) (fun _ => ?_)
                refine lv_aload_n hx hb dX1_add_8 rfl (lv_at hl 0 rfl) ?_
                refine lv_aload_n hx hb dX1_add_9 rfl (lv_at hl 0 rfl) ?_
                refine va_get (D := D) (ci := 0) (v := .int 1) (C := RX1) (T := TX1) (N := 3) hx hb hts iX1_add_X1 hown hG.1 hP 0 rfl rfl 1 (by decide) (hts (.fieldLink RX1 18 "MillComplaints$History" "oldest" "I") (List.mem_of_getElem? (i := 2) rfl)) (fun _ h9 => h9) (by show some (Value.int (xx 8 0 0)) = _; rw [ho_48]) dX1_add_10 ?_
                refine lv_iconst (v := 1) hx hb dX1_add_13 (by decide) ?_
                refine lv_iadd hx hb dX1_add_14 ?_
                refine lv_tope (y := 2) (by decide) ?_
                refine lv_iconst (v := 4) hx hb dX1_add_15 (by decide) ?_
                refine lv_irem hx hb dX1_add_16 (by decide) ?_
                refine lv_tope (y := 2) (by decide) ?_
                refine va_put (D := D) (ci := 0) (v := .int 2) (ty := .int) (C := RX1) (T := TX1) (N := 3) hx hb hts iX1_add_X1 tyX1 tyX1_ok nmX1 hown hG.1 hP hD hS 0 rfl rfl 1 (by decide) (hts (.fieldLink RX1 18 "MillComplaints$History" "oldest" "I") (List.mem_of_getElem? (i := 2) rfl)) (fun _ h9 => h9) rfl (by decide +kernel) rfl rfl (Nat.le_of_ble_eq_true rfl) dX1_add_17 (fun H locs hP hD hS => ?_)
                have hP : va_P D vwCl (wHK q ad (setV xx 8 (setA (xx 8) 0 (upd (xx 8 0) 0 2))) 1) H := hP
                have hD : va_D A (wHK q ad (setV xx 8 (setA (xx 8) 0 (upd (xx 8 0) 0 2))) 1) := hD
                obtain ⟨xx_83, exx_83⟩ : ∃ z, z = (setV xx 8 (setA (xx 8) 0 (upd (xx 8 0) 0 2))) := ⟨_, rfl⟩
                rw [← exx_83] at hP hD
                replace hR := lt_e hR exx_83
                have ho_84 : (xx_83 8 0 0) = 2 := by rw [exx_83]; rfl
                have ho_85 : (xx_83 8 0 1) = 4 := by rw [exx_83]; exact hz_81
                refine lv_aload_n hx hb dX1_add_20 rfl (lv_at hl 0 rfl) ?_
                refine lv_dup hx hb dX1_add_21 rfl ?_
                refine va_get (D := D) (ci := 0) (v := .int 4) (C := RX1) (T := TX1) (N := 3) hx hb hts iX1_add_X1 hown hG.1 hP 0 rfl rfl 2 (by decide) (hts (.fieldLink RX1 22 "MillComplaints$History" "size" "I") (List.mem_of_getElem? (i := 1) rfl)) (fun _ h9 => h9) (by show some (Value.int (xx_83 8 0 1)) = _; rw [ho_85]) dX1_add_22 ?_
                refine lv_iconst (v := 1) hx hb dX1_add_25 (by decide) ?_
                refine lv_isub hx hb dX1_add_26 ?_
                refine lv_tope (y := 3) (by decide) ?_
                refine va_put (D := D) (ci := 0) (v := .int 3) (ty := .int) (C := RX1) (T := TX1) (N := 3) hx hb hts iX1_add_X1 tyX1 tyX1_ok nmX1 hown hG.1 hP hD hS 0 rfl rfl 2 (by decide) (hts (.fieldLink RX1 22 "MillComplaints$History" "size" "I") (List.mem_of_getElem? (i := 1) rfl)) (fun _ h9 => h9) rfl (by decide +kernel) rfl rfl (Nat.le_of_ble_eq_true rfl) dX1_add_27 (fun H locs hP hD hS => ?_)
                have hP : va_P D vwCl (wHK q ad (setV xx_83 8 (setA (xx_83 8) 0 (upd (xx_83 8 0) 1 3))) 1) H := hP
                have hD : va_D A (wHK q ad (setV xx_83 8 (setA (xx_83 8) 0 (upd (xx_83 8 0) 1 3))) 1) := hD
                obtain ⟨xx_86, exx_86⟩ : ∃ z, z = (setV xx_83 8 (setA (xx_83 8) 0 (upd (xx_83 8 0) 1 3))) := ⟨_, rfl⟩
                rw [← exx_86] at hP hD
                replace hR := lt_e hR exx_86
                have ho_87 : (xx_86 8 0 0) = 2 := by rw [exx_86]; exact ho_84
                have ho_88 : (xx_86 8 0 1) = 3 := by rw [exx_86]; rfl
                refine lv_aload_n hx hb dX1_add_30 rfl (lv_at hl 0 rfl) ?_
                refine lv_aload_n hx hb dX1_add_31 rfl (lv_at hl 0 rfl) ?_
                refine va_get (D := D) (ci := 0) (v := .int 3) (C := RX1) (T := TX1) (N := 3) hx hb hts iX1_add_X1 hown hG.1 hP 0 rfl rfl 2 (by decide) (hts (.fieldLink RX1 22 "MillComplaints$History" "size" "I") (List.mem_of_getElem? (i := 1) rfl)) (fun _ h9 => h9) (by show some (Value.int (xx_86 8 0 1)) = _; rw [ho_88]) dX1_add_32 ?_
                refine ro_V (v := .ref ((ad 4) 0)) (rest := []) (As := [.int 3]) hx hb hml hown hts hl (MX1_stateAt_2_3 l D q ad xx_86 ho_87) gX1_add_X1_stateAt rfl kX1_stateAt ⟨Nat.le_of_ble_eq_true rfl, Nat.le_of_ble_eq_true rfl⟩ rfl rfl (hP.sub (ws' := (wHo q ad xx_86)) [0, 1] rfl) (dT (hD.sub (ws' := (wHo q ad xx_86)) [0, 1] (by decide) rfl)) hG (ci := 0) rfl rfl rfl rfl (Nat.le_of_ble_eq_true rfl) dX1_add_35 ⟨Nat.zero_le _, Nat.zero_le _⟩ ?_
                refine lv_astore_n (lv' := [(2, .ref ((ad 4) 0)), (0, .ref (ad 8 0)), (1, .ref ((ad 1) 0))]) hx hb dX1_add_38 rfl hl (by decide) rfl (fun ls hl => ?_)
                refine lv_aload_n hx hb dX1_add_39 rfl (lv_at hl 0 rfl) ?_
                refine lv_ifnull hx hb dX1_add_40 ?_
                refine lv_aload_n hx hb dX1_add_43 rfl (lv_at hl 0 rfl) ?_
                refine lv_aload_n hx hb dX1_add_44 rfl (lv_at hl 2 rfl) ?_
                have hM := MX4_copyFrom' l D q (ad 4) (xx_86 4) (ad 1) (xx_86 1)
                refine mu_V (D := D) (ws := (wHK q ad xx_86 1)) (ws' := (wHK q ad (setV xx_86 4 (xx_86 1)) 1)) (rest := []) (As := [.ref ((ad 1) 0)]) hx hb hml hown hts hl hM gX1_add_X4_copyFrom rfl kX4_copyFrom ⟨Nat.le_of_ble_eq_true rfl, Nat.le_of_ble_eq_true rfl⟩ rfl rfl hP hD hS hG [12, 13, 14, 15, 16, 17, 18, 19, 20, 21, 42, 43, 44, 45, 46, 47, 48, 49, 50, 51] rfl rfl (by decide) [0, 1, 2, 3, 4, 5, 6, 7, 8, 9, 10, 11, 52, 53, 54, 55, 56, 57, 58, 59, 60, 61, 22, 23, 24, 25, 26, 27, 28, 29, 30, 31, 32, 33, 34, 35, 36, 37, 38, 39, 40, 41, 62, 63, 64, 65, 66, 67, 68, 69, 70, 71] rfl (by decide) rfl (ci := 2) rfl rfl rfl rfl (Nat.le_of_ble_eq_true rfl) dX1_add_45 ⟨Nat.zero_le _, Nat.zero_le _⟩ (fun H locs hP hD hS => ?_)
                obtain ⟨xx_89, exx_89⟩ : ∃ z, z = (setV xx_86 4 (xx_86 1)) := ⟨_, rfl⟩
                rw [← exx_89] at hP hD
                replace hR := lt_e hR exx_89
                have ho_90 : (xx_89 8 0 0) = 2 := by rw [exx_89]; exact ho_87
                have ho_91 : (xx_89 8 0 1) = 3 := by rw [exx_89]; exact ho_88
                refine lv_aload_n hx hb dX1_add_48 rfl (lv_at hl 1 rfl) ?_
                refine lv_dup hx hb dX1_add_49 rfl ?_
                refine va_get (D := D) (ci := 0) (v := .int 3) (C := RX1) (T := TX1) (N := 3) hx hb hts iX1_add_X1 hown hG.1 hP 0 rfl rfl 2 (by decide) (hts (.fieldLink RX1 22 "MillComplaints$History" "size" "I") (List.mem_of_getElem? (i := 1) rfl)) (fun _ h9 => h9) (by show some (Value.int (xx_89 8 0 1)) = _; rw [ho_91]) dX1_add_50 ?_
                refine lv_iconst (v := 1) hx hb dX1_add_53 (by decide) ?_
                refine lv_iadd hx hb dX1_add_54 ?_
                refine lv_tope (y := 4) (by decide) ?_
                refine va_put (D := D) (ci := 0) (v := .int 4) (ty := .int) (C := RX1) (T := TX1) (N := 3) hx hb hts iX1_add_X1 tyX1 tyX1_ok nmX1 hown hG.1 hP hD hS 0 rfl rfl 2 (by decide) (hts (.fieldLink RX1 22 "MillComplaints$History" "size" "I") (List.mem_of_getElem? (i := 1) rfl)) (fun _ h9 => h9) rfl (by decide +kernel) rfl rfl (Nat.le_of_ble_eq_true rfl) dX1_add_55 (fun H locs hP hD hS => ?_)
                have hP : va_P D vwCl (wHK q ad (setV xx_89 8 (setA (xx_89 8) 0 (upd (xx_89 8 0) 1 4))) 1) H := hP
                have hD : va_D A (wHK q ad (setV xx_89 8 (setA (xx_89 8) 0 (upd (xx_89 8 0) 1 4))) 1) := hD
                obtain ⟨xx_92, exx_92⟩ : ∃ z, z = (setV xx_89 8 (setA (xx_89 8) 0 (upd (xx_89 8 0) 1 4))) := ⟨_, rfl⟩
                rw [← exx_92] at hP hD
                replace hR := lt_e hR exx_92
                have ho_93 : (xx_92 8 0 0) = 2 := by rw [exx_92]; exact ho_90
                have ho_94 : (xx_92 8 0 1) = 4 := by rw [exx_92]; rfl
                subst hR
                exact mu_vret hx hb hr hk hA hS hP dX1_add_58
              · rw [if_neg hz_81] at hR
                exact (rg_z hrg hz_49 hz_57 hz_65 hz_73 hz_81).elim
    · rw [if_neg ho_48] at hR
      by_cases ho_95 : (xx 8 0 0) = 2
      · rw [if_pos ho_95] at hR
        by_cases hz_96 : (xx 8 0 1) = 0
        · rw [if_pos hz_96] at hR
          refine lv_aload_n hx hb dX1_add_0 rfl (lv_at hl 0 rfl) ?_
          refine va_get (D := D) (ci := 0) (v := .int 0) (C := RX1) (T := TX1) (N := 3) hx hb hts iX1_add_X1 hown hG.1 hP 0 rfl rfl 2 (by decide) (hts (.fieldLink RX1 22 "MillComplaints$History" "size" "I") (List.mem_of_getElem? (i := 1) rfl)) (fun _ h9 => h9) (by show some (Value.int (xx 8 0 1)) = _; rw [hz_96]) dX1_add_1 ?_
          refine lv_iconst (v := 4) hx hb dX1_add_4 (by decide) ?_
          refine lv_icmp_ne (tgt := 30) hx hb dX1_add_5 (by decide) (fun _ => ?_) (fun c_97 => absurd c_97 (by decide))
          refine lv_aload_n hx hb dX1_add_30 rfl (lv_at hl 0 rfl) ?_
          refine lv_aload_n hx hb dX1_add_31 rfl (lv_at hl 0 rfl) ?_
          refine va_get (D := D) (ci := 0) (v := .int 0) (C := RX1) (T := TX1) (N := 3) hx hb hts iX1_add_X1 hown hG.1 hP 0 rfl rfl 2 (by decide) (hts (.fieldLink RX1 22 "MillComplaints$History" "size" "I") (List.mem_of_getElem? (i := 1) rfl)) (fun _ h9 => h9) (by show some (Value.int (xx 8 0 1)) = _; rw [hz_96]) dX1_add_32 ?_
          refine ro_V (v := .ref ((ad 5) 0)) (rest := []) (As := [.int 0]) hx hb hml hown hts hl (MX1_stateAt_2_0 l D q ad xx ho_95) gX1_add_X1_stateAt rfl kX1_stateAt ⟨Nat.le_of_ble_eq_true rfl, Nat.le_of_ble_eq_true rfl⟩ rfl rfl (hP.sub (ws' := (wHo q ad xx)) [0, 1] rfl) (dT (hD.sub (ws' := (wHo q ad xx)) [0, 1] (by decide) rfl)) hG (ci := 0) rfl rfl rfl rfl (Nat.le_of_ble_eq_true rfl) dX1_add_35 ⟨Nat.zero_le _, Nat.zero_le _⟩ ?_
          refine lv_astore_n (lv' := [(2, .ref ((ad 5) 0)), (0, .ref (ad 8 0)), (1, .ref ((ad 1) 0))]) hx hb dX1_add_38 rfl hl (by decide) rfl (fun ls hl => ?_)
          refine lv_aload_n hx hb dX1_add_39 rfl (lv_at hl 0 rfl) ?_
          refine lv_ifnull hx hb dX1_add_40 ?_
          refine lv_aload_n hx hb dX1_add_43 rfl (lv_at hl 0 rfl) ?_
          refine lv_aload_n hx hb dX1_add_44 rfl (lv_at hl 2 rfl) ?_
          have hM := MX4_copyFrom' l D q (ad 5) (xx 5) (ad 1) (xx 1)
          refine mu_V (D := D) (ws := (wHK q ad xx 1)) (ws' := (wHK q ad (setV xx 5 (xx 1)) 1)) (rest := []) (As := [.ref ((ad 1) 0)]) hx hb hml hown hts hl hM gX1_add_X4_copyFrom rfl kX4_copyFrom ⟨Nat.le_of_ble_eq_true rfl, Nat.le_of_ble_eq_true rfl⟩ rfl rfl hP hD hS hG [22, 23, 24, 25, 26, 27, 28, 29, 30, 31, 42, 43, 44, 45, 46, 47, 48, 49, 50, 51] rfl rfl (by decide) [0, 1, 2, 3, 4, 5, 6, 7, 8, 9, 10, 11, 12, 13, 14, 15, 16, 17, 18, 19, 20, 21, 52, 53, 54, 55, 56, 57, 58, 59, 60, 61, 32, 33, 34, 35, 36, 37, 38, 39, 40, 41, 62, 63, 64, 65, 66, 67, 68, 69, 70, 71] rfl (by decide) rfl (ci := 2) rfl rfl rfl rfl (Nat.le_of_ble_eq_true rfl) dX1_add_45 ⟨Nat.zero_le _, Nat.zero_le _⟩ (fun H locs hP hD hS => ?_)
          obtain ⟨xx_98, exx_98⟩ : ∃ z, z = (setV xx 5 (xx 1)) := ⟨_, rfl⟩
          rw [← exx_98] at hP hD
          replace hR := lt_e hR exx_98
          have ho_99 : (xx_98 8 0 0) = 2 := by rw [exx_98]; exact ho_95
          have ho_100 : (xx_98 8 0 1) = 0 := by rw [exx_98]; exact hz_96
          refine lv_aload_n hx hb dX1_add_48 rfl (lv_at hl 1 rfl) ?_
          refine lv_dup hx hb dX1_add_49 rfl ?_
          refine va_get (D := D) (ci := 0) (v := .int 0) (C := RX1) (T := TX1) (N := 3) hx hb hts iX1_add_X1 hown hG.1 hP 0 rfl rfl 2 (by decide) (hts (.fieldLink RX1 22 "MillComplaints$History" "size" "I") (List.mem_of_getElem? (i := 1) rfl)) (fun _ h9 => h9) (by show some (Value.int (xx_98 8 0 1)) = _; rw [ho_100]) dX1_add_50 ?_
          refine lv_iconst (v := 1) hx hb dX1_add_53 (by decide) ?_
          refine lv_iadd hx hb dX1_add_54 ?_
          refine lv_tope (y := 1) (by decide) ?_
          refine va_put (D := D) (ci := 0) (v := .int 1) (ty := .int) (C := RX1) (T := TX1) (N := 3) hx hb hts iX1_add_X1 tyX1 tyX1_ok nmX1 hown hG.1 hP hD hS 0 rfl rfl 2 (by decide) (hts (.fieldLink RX1 22 "MillComplaints$History" "size" "I") (List.mem_of_getElem? (i := 1) rfl)) (fun _ h9 => h9) rfl (by decide +kernel) rfl rfl (Nat.le_of_ble_eq_true rfl) dX1_add_55 (fun H locs hP hD hS => ?_)
          have hP : va_P D vwCl (wHK q ad (setV xx_98 8 (setA (xx_98 8) 0 (upd (xx_98 8 0) 1 1))) 1) H := hP
          have hD : va_D A (wHK q ad (setV xx_98 8 (setA (xx_98 8) 0 (upd (xx_98 8 0) 1 1))) 1) := hD
          obtain ⟨xx_101, exx_101⟩ : ∃ z, z = (setV xx_98 8 (setA (xx_98 8) 0 (upd (xx_98 8 0) 1 1))) := ⟨_, rfl⟩
          rw [← exx_101] at hP hD
          replace hR := lt_e hR exx_101
          have ho_102 : (xx_101 8 0 0) = 2 := by rw [exx_101]; exact ho_99
          have ho_103 : (xx_101 8 0 1) = 1 := by rw [exx_101]; rfl
          subst hR
          exact mu_vret hx hb hr hk hA hS hP dX1_add_58
        · rw [if_neg hz_96] at hR
          by_cases hz_104 : (xx 8 0 1) = 1
          · rw [if_pos hz_104] at hR
            refine lv_aload_n hx hb dX1_add_0 rfl (lv_at hl 0 rfl) ?_
            refine va_get (D := D) (ci := 0) (v := .int 1) (C := RX1) (T := TX1) (N := 3) hx hb hts iX1_add_X1 hown hG.1 hP 0 rfl rfl 2 (by decide) (hts (.fieldLink RX1 22 "MillComplaints$History" "size" "I") (List.mem_of_getElem? (i := 1) rfl)) (fun _ h9 => h9) (by show some (Value.int (xx 8 0 1)) = _; rw [hz_104]) dX1_add_1 ?_
            refine lv_iconst (v := 4) hx hb dX1_add_4 (by decide) ?_
            refine lv_icmp_ne (tgt := 30) hx hb dX1_add_5 (by decide) (fun _ => ?_) (fun c_105 => absurd c_105 (by decide))
            refine lv_aload_n hx hb dX1_add_30 rfl (lv_at hl 0 rfl) ?_
            refine lv_aload_n hx hb dX1_add_31 rfl (lv_at hl 0 rfl) ?_
            refine va_get (D := D) (ci := 0) (v := .int 1) (C := RX1) (T := TX1) (N := 3) hx hb hts iX1_add_X1 hown hG.1 hP 0 rfl rfl 2 (by decide) (hts (.fieldLink RX1 22 "MillComplaints$History" "size" "I") (List.mem_of_getElem? (i := 1) rfl)) (fun _ h9 => h9) (by show some (Value.int (xx 8 0 1)) = _; rw [hz_104]) dX1_add_32 ?_
            refine ro_V (v := .ref ((ad 6) 0)) (rest := []) (As := [.int 1]) hx hb hml hown hts hl (MX1_stateAt_2_1 l D q ad xx ho_95) gX1_add_X1_stateAt rfl kX1_stateAt ⟨Nat.le_of_ble_eq_true rfl, Nat.le_of_ble_eq_true rfl⟩ rfl rfl (hP.sub (ws' := (wHo q ad xx)) [0, 1] rfl) (dT (hD.sub (ws' := (wHo q ad xx)) [0, 1] (by decide) rfl)) hG (ci := 0) rfl rfl rfl rfl (Nat.le_of_ble_eq_true rfl) dX1_add_35 ⟨Nat.zero_le _, Nat.zero_le _⟩ ?_
            refine lv_astore_n (lv' := [(2, .ref ((ad 6) 0)), (0, .ref (ad 8 0)), (1, .ref ((ad 1) 0))]) hx hb dX1_add_38 rfl hl (by decide) rfl (fun ls hl => ?_)
            refine lv_aload_n hx hb dX1_add_39 rfl (lv_at hl 0 rfl) ?_
            refine lv_ifnull hx hb dX1_add_40 ?_
            refine lv_aload_n hx hb dX1_add_43 rfl (lv_at hl 0 rfl) ?_
            refine lv_aload_n hx hb dX1_add_44 rfl (lv_at hl 2 rfl) ?_
            have hM := MX4_copyFrom' l D q (ad 6) (xx 6) (ad 1) (xx 1)
            refine mu_V (D := D) (ws := (wHK q ad xx 1)) (ws' := (wHK q ad (setV xx 6 (xx 1)) 1)) (rest := []) (As := [.ref ((ad 1) 0)]) hx hb hml hown hts hl hM gX1_add_X4_copyFrom rfl kX4_copyFrom ⟨Nat.le_of_ble_eq_true rfl, Nat.le_of_ble_eq_true rfl⟩ rfl rfl hP hD hS hG [32, 33, 34, 35, 36, 37, 38, 39, 40, 41, 42, 43, 44, 45, 46, 47, 48, 49, 50, 51] rfl rfl (by decide) [0, 1, 2, 3, 4, 5, 6, 7, 8, 9, 10, 11, 12, 13, 14, 15, 16, 17, 18, 19, 20, 21, 22, 23, 24, 25, 26, 27, 28, 29, 30, 31, 52, 53, 54, 55, 56, 57, 58, 59, 60, 61, 62, 63, 64, 65, 66, 67, 68, 69, 70, 71] rfl (by decide) rfl (ci := 2) rfl rfl rfl rfl (Nat.le_of_ble_eq_true rfl) dX1_add_45 ⟨Nat.zero_le _, Nat.zero_le _⟩ (fun H locs hP hD hS => ?_)
            obtain ⟨xx_106, exx_106⟩ : ∃ z, z = (setV xx 6 (xx 1)) := ⟨_, rfl⟩
            rw [← exx_106] at hP hD
            replace hR := lt_e hR exx_106
            have ho_107 : (xx_106 8 0 0) = 2 := by rw [exx_106]; exact ho_95
            have ho_108 : (xx_106 8 0 1) = 1 := by rw [exx_106]; exact hz_104
            refine lv_aload_n hx hb dX1_add_48 rfl (lv_at hl 1 rfl) ?_
            refine lv_dup hx hb dX1_add_49 rfl ?_
            refine va_get (D := D) (ci := 0) (v := .int 1) (C := RX1) (T := TX1) (N := 3) hx hb hts iX1_add_X1 hown hG.1 hP 0 rfl rfl 2 (by decide) (hts (.fieldLink RX1 22 "MillComplaints$History" "size" "I") (List.mem_of_getElem? (i := 1) rfl)) (fun _ h9 => h9) (by show some (Value.int (xx_106 8 0 1)) = _; rw [ho_108]) dX1_add_50 ?_
            refine lv_iconst (v := 1) hx hb dX1_add_53 (by decide) ?_
            refine lv_iadd hx hb dX1_add_54 ?_
            refine lv_tope (y := 2) (by decide) ?_
            refine va_put (D := D) (ci := 0) (v := .int 2) (ty := .int) (C := RX1) (T := TX1) (N := 3) hx hb hts iX1_add_X1 tyX1 tyX1_ok nmX1 hown hG.1 hP hD hS 0 rfl rfl 2 (by decide) (hts (.fieldLink RX1 22 "MillComplaints$History" "size" "I") (List.mem_of_getElem? (i := 1) rfl)) (fun _ h9 => h9) rfl (by decide +kernel) rfl rfl (Nat.le_of_ble_eq_true rfl) dX1_add_55 (fun H locs hP hD hS => ?_)
            have hP : va_P D vwCl (wHK q ad (setV xx_106 8 (setA (xx_106 8) 0 (upd (xx_106 8 0) 1 2))) 1) H := hP
            have hD : va_D A (wHK q ad (setV xx_106 8 (setA (xx_106 8) 0 (upd (xx_106 8 0) 1 2))) 1) := hD
            obtain ⟨xx_109, exx_109⟩ : ∃ z, z = (setV xx_106 8 (setA (xx_106 8) 0 (upd (xx_106 8 0) 1 2))) := ⟨_, rfl⟩
            rw [← exx_109] at hP hD
            replace hR := lt_e hR exx_109
            have ho_110 : (xx_109 8 0 0) = 2 := by rw [exx_109]; exact ho_107
            have ho_111 : (xx_109 8 0 1) = 2 := by rw [exx_109]; rfl
            subst hR
            exact mu_vret hx hb hr hk hA hS hP dX1_add_58
          · rw [if_neg hz_104] at hR
            by_cases hz_112 : (xx 8 0 1) = 2
            · rw [if_pos hz_112] at hR
              refine lv_aload_n hx hb dX1_add_0 rfl (lv_at hl 0 rfl) ?_
              refine va_get (D := D) (ci := 0) (v := .int 2) (C := RX1) (T := TX1) (N := 3) hx hb hts iX1_add_X1 hown hG.1 hP 0 rfl rfl 2 (by decide) (hts (.fieldLink RX1 22 "MillComplaints$History" "size" "I") (List.mem_of_getElem? (i := 1) rfl)) (fun _ h9 => h9) (by show some (Value.int (xx 8 0 1)) = _; rw [hz_112]) dX1_add_1 ?_
              refine lv_iconst (v := 4) hx hb dX1_add_4 (by decide) ?_
              refine lv_icmp_ne (tgt := 30) hx hb dX1_add_5 (by decide) (fun _ => ?_) (fun c_113 => absurd c_113 (by decide))
              refine lv_aload_n hx hb dX1_add_30 rfl (lv_at hl 0 rfl) ?_
              refine lv_aload_n hx hb dX1_add_31 rfl (lv_at hl 0 rfl) ?_
              refine va_get (D := D) (ci := 0) (v := .int 2) (C := RX1) (T := TX1) (N := 3) hx hb hts iX1_add_X1 hown hG.1 hP 0 rfl rfl 2 (by decide) (hts (.fieldLink RX1 22 "MillComplaints$History" "size" "I") (List.mem_of_getElem? (i := 1) rfl)) (fun _ h9 => h9) (by show some (Value.int (xx 8 0 1)) = _; rw [hz_112]) dX1_add_32 ?_
              refine ro_V (v := .ref ((ad 3) 0)) (rest := []) (As := [.int 2]) hx hb hml hown hts hl (MX1_stateAt_2_2 l D q ad xx ho_95) gX1_add_X1_stateAt rfl kX1_stateAt ⟨Nat.le_of_ble_eq_true rfl, Nat.le_of_ble_eq_true rfl⟩ rfl rfl (hP.sub (ws' := (wHo q ad xx)) [0, 1] rfl) (dT (hD.sub (ws' := (wHo q ad xx)) [0, 1] (by decide) rfl)) hG (ci := 0) rfl rfl rfl rfl (Nat.le_of_ble_eq_true rfl) dX1_add_35 ⟨Nat.zero_le _, Nat.zero_le _⟩ ?_
              refine lv_astore_n (lv' := [(2, .ref ((ad 3) 0)), (0, .ref (ad 8 0)), (1, .ref ((ad 1) 0))]) hx hb dX1_add_38 rfl hl (by decide) rfl (fun ls hl => ?_)
              refine lv_aload_n hx hb dX1_add_39 rfl (lv_at hl 0 rfl) ?_
              refine lv_ifnull hx hb dX1_add_40 ?_
              refine lv_aload_n hx hb dX1_add_43 rfl (lv_at hl 0 rfl) ?_
              refine lv_aload_n hx hb dX1_add_44 rfl (lv_at hl 2 rfl) ?_
              have hM := MX4_copyFrom' l D q (ad 3) (xx 3) (ad 1) (xx 1)
              refine mu_V (D := D) (ws := (wHK q ad xx 1)) (ws' := (wHK q ad (setV xx 3 (xx 1)) 1)) (rest := []) (As := [.ref ((ad 1) 0)]) hx hb hml hown hts hl hM gX1_add_X4_copyFrom rfl kX4_copyFrom ⟨Nat.le_of_ble_eq_true rfl, Nat.le_of_ble_eq_true rfl⟩ rfl rfl hP hD hS hG [2, 3, 4, 5, 6, 7, 8, 9, 10, 11, 42, 43, 44, 45, 46, 47, 48, 49, 50, 51] rfl rfl (by decide) [0, 1, 52, 53, 54, 55, 56, 57, 58, 59, 60, 61, 12, 13, 14, 15, 16, 17, 18, 19, 20, 21, 22, 23, 24, 25, 26, 27, 28, 29, 30, 31, 32, 33, 34, 35, 36, 37, 38, 39, 40, 41, 62, 63, 64, 65, 66, 67, 68, 69, 70, 71] rfl (by decide) rfl (ci := 2) rfl rfl rfl rfl (Nat.le_of_ble_eq_true rfl) dX1_add_45 ⟨Nat.zero_le _, Nat.zero_le _⟩ (fun H locs hP hD hS => ?_)
              obtain ⟨xx_114, exx_114⟩ : ∃ z, z = (setV xx 3 (xx 1)) := ⟨_, rfl⟩
              rw [← exx_114] at hP hD
              replace hR := lt_e hR exx_114
              have ho_115 : (xx_114 8 0 0) = 2 := by rw [exx_114]; exact ho_95
              have ho_116 : (xx_114 8 0 1) = 2 := by rw [exx_114]; exact hz_112
              refine lv_aload_n hx hb dX1_add_48 rfl (lv_at hl 1 rfl) ?_
              refine lv_dup hx hb dX1_add_49 rfl ?_
              refine va_get (D := D) (ci := 0) (v := .int 2) (C := RX1) (T := TX1) (N := 3) hx hb hts iX1_add_X1 hown hG.1 hP 0 rfl rfl 2 (by decide) (hts (.fieldLink RX1 22 "MillComplaints$History" "size" "I") (List.mem_of_getElem? (i := 1) rfl)) (fun _ h9 => h9) (by show some (Value.int (xx_114 8 0 1)) = _; rw [ho_116]) dX1_add_50 ?_
              refine lv_iconst (v := 1) hx hb dX1_add_53 (by decide) ?_
              refine lv_iadd hx hb dX1_add_54 ?_
              refine lv_tope (y := 3) (by decide) ?_
              refine va_put (D := D) (ci := 0) (v := .int 3) (ty := .int) (C := RX1) (T := TX1) (N := 3) hx hb hts iX1_add_X1 tyX1 tyX1_ok nmX1 hown hG.1 hP hD hS 0 rfl rfl 2 (by decide) (hts (.fieldLink RX1 22 "MillComplaints$History" "size" "I") (List.mem_of_getElem? (i := 1) rfl)) (fun _ h9 => h9) rfl (by decide +kernel) rfl rfl (Nat.le_of_ble_eq_true rfl) dX1_add_55 (fun H locs hP hD hS => ?_)
              have hP : va_P D vwCl (wHK q ad (setV xx_114 8 (setA (xx_114 8) 0 (upd (xx_114 8 0) 1 3))) 1) H := hP
              have hD : va_D A (wHK q ad (setV xx_114 8 (setA (xx_114 8) 0 (upd (xx_114 8 0) 1 3))) 1) := hD
              obtain ⟨xx_117, exx_117⟩ : ∃ z, z = (setV xx_114 8 (setA (xx_114 8) 0 (upd (xx_114 8 0) 1 3))) := ⟨_, rfl⟩
              rw [← exx_117] at hP hD
              replace hR := lt_e hR exx_117
              have ho_118 : (xx_117 8 0 0) = 2 := by rw [exx_117]; exact ho_115
              have ho_119 : (xx_117 8 0 1) = 3 := by rw [exx_117]; rfl
              subst hR
              exact mu_vret hx hb hr hk hA hS hP dX1_add_58
            · rw [if_neg hz_112] at hR
              by_cases hz_120 : (xx 8 0 1) = 3
              · rw [if_pos hz_120] at hR
                refine lv_aload_n hx hb dX1_add_0 rfl (lv_at hl 0 rfl) ?_
                refine va_get (D := D) (ci := 0) (v := .int 3) (C := RX1) (T := TX1) (N := 3) hx hb hts iX1_add_X1 hown hG.1 hP 0 rfl rfl 2 (by decide) (hts (.fieldLink RX1 22 "MillComplaints$History" "size" "I") (List.mem_of_getElem? (i := 1) rfl)) (fun _ h9 => h9) (by show some (Value.int (xx 8 0 1)) = _; rw [hz_120]) dX1_add_1 ?_
                refine lv_iconst (v := 4) hx hb dX1_add_4 (by decide) ?_
                refine lv_icmp_ne (tgt := 30) hx hb dX1_add_5 (by decide) (fun _ => ?_) (fun c_121 => absurd c_121 (by decide))
                refine lv_aload_n hx hb dX1_add_30 rfl (lv_at hl 0 rfl) ?_
                refine lv_aload_n hx hb dX1_add_31 rfl (lv_at hl 0 rfl) ?_
                refine va_get (D := D) (ci := 0) (v := .int 3) (C := RX1) (T := TX1) (N := 3) hx hb hts iX1_add_X1 hown hG.1 hP 0 rfl rfl 2 (by decide) (hts (.fieldLink RX1 22 "MillComplaints$History" "size" "I") (List.mem_of_getElem? (i := 1) rfl)) (fun _ h9 => h9) (by show some (Value.int (xx 8 0 1)) = _; rw [hz_120]) dX1_add_32 ?_
                refine ro_V (v := .ref ((ad 4) 0)) (rest := []) (As := [.int 3]) hx hb hml hown hts hl (MX1_stateAt_2_3 l D q ad xx ho_95) gX1_add_X1_stateAt rfl kX1_stateAt ⟨Nat.le_of_ble_eq_true rfl, Nat.le_of_ble_eq_true rfl⟩ rfl rfl (hP.sub (ws' := (wHo q ad xx)) [0, 1] rfl) (dT (hD.sub (ws' := (wHo q ad xx)) [0, 1] (by decide) rfl)) hG (ci := 0) rfl rfl rfl rfl (Nat.le_of_ble_eq_true rfl) dX1_add_35 ⟨Nat.zero_le _, Nat.zero_le _⟩ ?_
                refine lv_astore_n (lv' := [(2, .ref ((ad 4) 0)), (0, .ref (ad 8 0)), (1, .ref ((ad 1) 0))]) hx hb dX1_add_38 rfl hl (by decide) rfl (fun ls hl => ?_)
                refine lv_aload_n hx hb dX1_add_39 rfl (lv_at hl 0 rfl) ?_
                refine lv_ifnull hx hb dX1_add_40 ?_
                refine lv_aload_n hx hb dX1_add_43 rfl (lv_at hl 0 rfl) ?_
                refine lv_aload_n hx hb dX1_add_44 rfl (lv_at hl 2 rfl) ?_
                have hM := MX4_copyFrom' l D q (ad 4) (xx 4) (ad 1) (xx 1)
                refine mu_V (D := D) (ws := (wHK q ad xx 1)) (ws' := (wHK q ad (setV xx 4 (xx 1)) 1)) (rest := []) (As := [.ref ((ad 1) 0)]) hx hb hml hown hts hl hM gX1_add_X4_copyFrom rfl kX4_copyFrom ⟨Nat.le_of_ble_eq_true rfl, Nat.le_of_ble_eq_true rfl⟩ rfl rfl hP hD hS hG [12, 13, 14, 15, 16, 17, 18, 19, 20, 21, 42, 43, 44, 45, 46, 47, 48, 49, 50, 51] rfl rfl (by decide) [0, 1, 2, 3, 4, 5, 6, 7, 8, 9, 10, 11, 52, 53, 54, 55, 56, 57, 58, 59, 60, 61, 22, 23, 24, 25, 26, 27, 28, 29, 30, 31, 32, 33, 34, 35, 36, 37, 38, 39, 40, 41, 62, 63, 64, 65, 66, 67, 68, 69, 70, 71] rfl (by decide) rfl (ci := 2) rfl rfl rfl rfl (Nat.le_of_ble_eq_true rfl) dX1_add_45 ⟨Nat.zero_le _, Nat.zero_le _⟩ (fun H locs hP hD hS => ?_)
                obtain ⟨xx_122, exx_122⟩ : ∃ z, z = (setV xx 4 (xx 1)) := ⟨_, rfl⟩
                rw [← exx_122] at hP hD
                replace hR := lt_e hR exx_122
                have ho_123 : (xx_122 8 0 0) = 2 := by rw [exx_122]; exact ho_95
                have ho_124 : (xx_122 8 0 1) = 3 := by rw [exx_122]; exact hz_120
                refine lv_aload_n hx hb dX1_add_48 rfl (lv_at hl 1 rfl) ?_
                refine lv_dup hx hb dX1_add_49 rfl ?_
                refine va_get (D := D) (ci := 0) (v := .int 3) (C := RX1) (T := TX1) (N := 3) hx hb hts iX1_add_X1 hown hG.1 hP 0 rfl rfl 2 (by decide) (hts (.fieldLink RX1 22 "MillComplaints$History" "size" "I") (List.mem_of_getElem? (i := 1) rfl)) (fun _ h9 => h9) (by show some (Value.int (xx_122 8 0 1)) = _; rw [ho_124]) dX1_add_50 ?_
                refine lv_iconst (v := 1) hx hb dX1_add_53 (by decide) ?_
                refine lv_iadd hx hb dX1_add_54 ?_
                refine lv_tope (y := 4) (by decide) ?_
                refine va_put (D := D) (ci := 0) (v := .int 4) (ty := .int) (C := RX1) (T := TX1) (N := 3) hx hb hts iX1_add_X1 tyX1 tyX1_ok nmX1 hown hG.1 hP hD hS 0 rfl rfl 2 (by decide) (hts (.fieldLink RX1 22 "MillComplaints$History" "size" "I") (List.mem_of_getElem? (i := 1) rfl)) (fun _ h9 => h9) rfl (by decide +kernel) rfl rfl (Nat.le_of_ble_eq_true rfl) dX1_add_55 (fun H locs hP hD hS => ?_)
                have hP : va_P D vwCl (wHK q ad (setV xx_122 8 (setA (xx_122 8) 0 (upd (xx_122 8 0) 1 4))) 1) H := hP
                have hD : va_D A (wHK q ad (setV xx_122 8 (setA (xx_122 8) 0 (upd (xx_122 8 0) 1 4))) 1) := hD
                obtain ⟨xx_125, exx_125⟩ : ∃ z, z = (setV xx_122 8 (setA (xx_122 8) 0 (upd (xx_122 8 0) 1 4))) := ⟨_, rfl⟩
                rw [← exx_125] at hP hD
                replace hR := lt_e hR exx_125
                have ho_126 : (xx_125 8 0 0) = 2 := by rw [exx_125]; exact ho_123
                have ho_127 : (xx_125 8 0 1) = 4 := by rw [exx_125]; rfl
                subst hR
                exact mu_vret hx hb hr hk hA hS hP dX1_add_58
              · rw [if_neg hz_120] at hR
                by_cases hz_128 : (xx 8 0 1) = 4
                · rw [if_pos hz_128] at hR
                  refine lv_aload_n hx hb dX1_add_0 rfl (lv_at hl 0 rfl) ?_
                  refine va_get (D := D) (ci := 0) (v := .int 4) (C := RX1) (T := TX1) (N := 3) hx hb hts iX1_add_X1 hown hG.1 hP 0 rfl rfl 2 (by decide) (hts (.fieldLink RX1 22 "MillComplaints$History" "size" "I") (List.mem_of_getElem? (i := 1) rfl)) (fun _ h9 => h9) (by show some (Value.int (xx 8 0 1)) = _; rw [hz_128]) dX1_add_1 ?_
                  refine lv_iconst (v := 4) hx hb dX1_add_4 (by decide) ?_
                  refine lv_icmp_ne (tgt := 30) hx hb dX1_add_5 (by decide) (fun c_129 => absurd (by decide) c_129) (fun _ => ?_)
                  refine lv_aload_n hx hb dX1_add_8 rfl (lv_at hl 0 rfl) ?_
                  refine lv_aload_n hx hb dX1_add_9 rfl (lv_at hl 0 rfl) ?_
                  refine va_get (D := D) (ci := 0) (v := .int 2) (C := RX1) (T := TX1) (N := 3) hx hb hts iX1_add_X1 hown hG.1 hP 0 rfl rfl 1 (by decide) (hts (.fieldLink RX1 18 "MillComplaints$History" "oldest" "I") (List.mem_of_getElem? (i := 2) rfl)) (fun _ h9 => h9) (by show some (Value.int (xx 8 0 0)) = _; rw [ho_95]) dX1_add_10 ?_
                  refine lv_iconst (v := 1) hx hb dX1_add_13 (by decide) ?_
                  refine lv_iadd hx hb dX1_add_14 ?_
                  refine lv_tope (y := 3) (by decide) ?_
                  refine lv_iconst (v := 4) hx hb dX1_add_15 (by decide) ?_
                  refine lv_irem hx hb dX1_add_16 (by decide) ?_
                  refine lv_tope (y := 3) (by decide) ?_
                  refine va_put (D := D) (ci := 0) (v := .int 3) (ty := .int) (C := RX1) (T := TX1) (N := 3) hx hb hts iX1_add_X1 tyX1 tyX1_ok nmX1 hown hG.1 hP hD hS 0 rfl rfl 1 (by decide) (hts (.fieldLink RX1 18 "MillComplaints$History" "oldest" "I") (List.mem_of_getElem? (i := 2) rfl)) (fun _ h9 => h9) rfl (by decide +kernel) rfl rfl (Nat.le_of_ble_eq_true rfl) dX1_add_17 (fun H locs hP hD hS => ?_)
                  have hP : va_P D vwCl (wHK q ad (setV xx 8 (setA (xx 8) 0 (upd (xx 8 0) 0 3))) 1) H := hP
                  have hD : va_D A (wHK q ad (setV xx 8 (setA (xx 8) 0 (upd (xx 8 0) 0 3))) 1) := hD
                  obtain ⟨xx_130, exx_130⟩ : ∃ z, z = (setV xx 8 (setA (xx 8) 0 (upd (xx 8 0) 0 3))) := ⟨_, rfl⟩
                  rw [← exx_130] at hP hD
                  replace hR := lt_e hR exx_130
                  have ho_131 : (xx_130 8 0 0) = 3 := by rw [exx_130]; rfl
                  have ho_132 : (xx_130 8 0 1) = 4 := by rw [exx_130]; exact hz_128
                  refine lv_aload_n hx hb dX1_add_20 rfl (lv_at hl 0 rfl) ?_
                  refine lv_dup hx hb dX1_add_21 rfl ?_
                  refine va_get (D := D) (ci := 0) (v := .int 4) (C := RX1) (T := TX1) (N := 3) hx hb hts iX1_add_X1 hown hG.1 hP 0 rfl rfl 2 (by decide) (hts (.fieldLink RX1 22 "MillComplaints$History" "size" "I") (List.mem_of_getElem? (i := 1) rfl)) (fun _ h9 => h9) (by show some (Value.int (xx_130 8 0 1)) = _; rw [ho_132]) dX1_add_22 ?_
                  refine lv_iconst (v := 1) hx hb dX1_add_25 (by decide) ?_
                  refine lv_isub hx hb dX1_add_26 ?_
                  refine lv_tope (y := 3) (by decide) ?_
                  refine va_put (D := D) (ci := 0) (v := .int 3) (ty := .int) (C := RX1) (T := TX1) (N := 3) hx hb hts iX1_add_X1 tyX1 tyX1_ok nmX1 hown hG.1 hP hD hS 0 rfl rfl 2 (by decide) (hts (.fieldLink RX1 22 "MillComplaints$History" "size" "I") (List.mem_of_getElem? (i := 1) rfl)) (fun _ h9 => h9) rfl (by decide +kernel) rfl rfl (Nat.le_of_ble_eq_true rfl) dX1_add_27 (fun H locs hP hD hS => ?_)
                  have hP : va_P D vwCl (wHK q ad (setV xx_130 8 (setA (xx_130 8) 0 (upd (xx_130 8 0) 1 3))) 1) H := hP
                  have hD : va_D A (wHK q ad (setV xx_130 8 (setA (xx_130 8) 0 (upd (xx_130 8 0) 1 3))) 1) := hD
                  obtain ⟨xx_133, exx_133⟩ : ∃ z, z = (setV xx_130 8 (setA (xx_130 8) 0 (upd (xx_130 8 0) 1 3))) := ⟨_, rfl⟩
                  rw [← exx_133] at hP hD
                  replace hR := lt_e hR exx_133
                  have ho_134 : (xx_133 8 0 0) = 3 := by rw [exx_133]; exact ho_131
                  have ho_135 : (xx_133 8 0 1) = 3 := by rw [exx_133]; rfl
                  refine lv_aload_n hx hb dX1_add_30 rfl (lv_at hl 0 rfl) ?_
                  refine lv_aload_n hx hb dX1_add_31 rfl (lv_at hl 0 rfl) ?_
                  refine va_get (D := D) (ci := 0) (v := .int 3) (C := RX1) (T := TX1) (N := 3) hx hb hts iX1_add_X1 hown hG.1 hP 0 rfl rfl 2 (by decide) (hts (.fieldLink RX1 22 "MillComplaints$History" "size" "I") (List.mem_of_getElem? (i := 1) rfl)) (fun _ h9 => h9) (by show some (Value.int (xx_133 8 0 1)) = _; rw [ho_135]) dX1_add_32 ?_
                  refine ro_V (v := .ref ((ad 5) 0)) (rest := []) (As := [.int 3]) hx hb hml hown hts hl (MX1_stateAt_3_3 l D q ad xx_133 ho_134) gX1_add_X1_stateAt rfl kX1_stateAt ⟨Nat.le_of_ble_eq_true rfl, Nat.le_of_ble_eq_true rfl⟩ rfl rfl (hP.sub (ws' := (wHo q ad xx_133)) [0, 1] rfl) (dT (hD.sub (ws' := (wHo q ad xx_133)) [0, 1] (by decide) rfl)) hG (ci := 0) rfl rfl rfl rfl (Nat.le_of_ble_eq_true rfl) dX1_add_35 ⟨Nat.zero_le _, Nat.zero_le _⟩ ?_
                  refine lv_astore_n (lv' := [(2, .ref ((ad 5) 0)), (0, .ref (ad 8 0)), (1, .ref ((ad 1) 0))]) hx hb dX1_add_38 rfl hl (by decide) rfl (fun ls hl => ?_)
                  refine lv_aload_n hx hb dX1_add_39 rfl (lv_at hl 0 rfl) ?_
                  refine lv_ifnull hx hb dX1_add_40 ?_
                  refine lv_aload_n hx hb dX1_add_43 rfl (lv_at hl 0 rfl) ?_
                  refine lv_aload_n hx hb dX1_add_44 rfl (lv_at hl 2 rfl) ?_
                  have hM := MX4_copyFrom' l D q (ad 5) (xx_133 5) (ad 1) (xx_133 1)
                  refine mu_V (D := D) (ws := (wHK q ad xx_133 1)) (ws' := (wHK q ad (setV xx_133 5 (xx_133 1)) 1)) (rest := []) (As := [.ref ((ad 1) 0)]) hx hb hml hown hts hl hM gX1_add_X4_copyFrom rfl kX4_copyFrom ⟨Nat.le_of_ble_eq_true rfl, Nat.le_of_ble_eq_true rfl⟩ rfl rfl hP hD hS hG [22, 23, 24, 25, 26, 27, 28, 29, 30, 31, 42, 43, 44, 45, 46, 47, 48, 49, 50, 51] rfl rfl (by decide) [0, 1, 2, 3, 4, 5, 6, 7, 8, 9, 10, 11, 12, 13, 14, 15, 16, 17, 18, 19, 20, 21, 52, 53, 54, 55, 56, 57, 58, 59, 60, 61, 32, 33, 34, 35, 36, 37, 38, 39, 40, 41, 62, 63, 64, 65, 66, 67, 68, 69, 70, 71] rfl (by decide) rfl (ci := 2) rfl rfl rfl rfl (Nat.le_of_ble_eq_true rfl) dX1_add_45 ⟨Nat.zero_le _, Nat.zero_le _⟩ (fun H locs hP hD hS => ?_)
                  obtain ⟨xx_136, exx_136⟩ : ∃ z, z = (setV xx_133 5 (xx_133 1)) := ⟨_, rfl⟩
                  rw [← exx_136] at hP hD
                  replace hR := lt_e hR exx_136
                  have ho_137 : (xx_136 8 0 0) = 3 := by rw [exx_136]; exact ho_134
                  have ho_138 : (xx_136 8 0 1) = 3 := by rw [exx_136]; exact ho_135
                  refine lv_aload_n hx hb dX1_add_48 rfl (lv_at hl 1 rfl) ?_
                  refine lv_dup hx hb dX1_add_49 rfl ?_
                  refine va_get (D := D) (ci := 0) (v := .int 3) (C := RX1) (T := TX1) (N := 3) hx hb hts iX1_add_X1 hown hG.1 hP 0 rfl rfl 2 (by decide) (hts (.fieldLink RX1 22 "MillComplaints$History" "size" "I") (List.mem_of_getElem? (i := 1) rfl)) (fun _ h9 => h9) (by show some (Value.int (xx_136 8 0 1)) = _; rw [ho_138]) dX1_add_50 ?_
                  refine lv_iconst (v := 1) hx hb dX1_add_53 (by decide) ?_
                  refine lv_iadd hx hb dX1_add_54 ?_
                  refine lv_tope (y := 4) (by decide) ?_
                  refine va_put (D := D) (ci := 0) (v := .int 4) (ty := .int) (C := RX1) (T := TX1) (N := 3) hx hb hts iX1_add_X1 tyX1 tyX1_ok nmX1 hown hG.1 hP hD hS 0 rfl rfl 2 (by decide) (hts (.fieldLink RX1 22 "MillComplaints$History" "size" "I") (List.mem_of_getElem? (i := 1) rfl)) (fun _ h9 => h9) rfl (by decide +kernel) rfl rfl (Nat.le_of_ble_eq_true rfl) dX1_add_55 (fun H locs hP hD hS => ?_)
                  have hP : va_P D vwCl (wHK q ad (setV xx_136 8 (setA (xx_136 8) 0 (upd (xx_136 8 0) 1 4))) 1) H := hP
                  have hD : va_D A (wHK q ad (setV xx_136 8 (setA (xx_136 8) 0 (upd (xx_136 8 0) 1 4))) 1) := hD
                  obtain ⟨xx_139, exx_139⟩ : ∃ z, z = (setV xx_136 8 (setA (xx_136 8) 0 (upd (xx_136 8 0) 1 4))) := ⟨_, rfl⟩
                  rw [← exx_139] at hP hD
                  replace hR := lt_e hR exx_139
                  have ho_140 : (xx_139 8 0 0) = 3 := by rw [exx_139]; exact ho_137
                  have ho_141 : (xx_139 8 0 1) = 4 := by rw [exx_139]; rfl
                  subst hR
                  exact mu_vret hx hb hr hk hA hS hP dX1_add_58
                · rw [if_neg hz_128] at hR
                  exact (rg_z hrg hz_96 hz_104 hz_112 hz_120 hz_128).elim
      · rw [if_neg ho_95] at hR
        by_cases ho_142 : (xx 8 0 0) = 3
        · rw [if_pos ho_142] at hR
          by_cases hz_143 : (xx 8 0 1) = 0
          · rw [if_pos hz_143] at hR
            refine lv_aload_n hx hb dX1_add_0 rfl (lv_at hl 0 rfl) ?_
            refine va_get (D := D) (ci := 0) (v := .int 0) (C := RX1) (T := TX1) (N := 3) hx hb hts iX1_add_X1 hown hG.1 hP 0 rfl rfl 2 (by decide) (hts (.fieldLink RX1 22 "MillComplaints$History" "size" "I") (List.mem_of_getElem? (i := 1) rfl)) (fun _ h9 => h9) (by show some (Value.int (xx 8 0 1)) = _; rw [hz_143]) dX1_add_1 ?_
            refine lv_iconst (v := 4) hx hb dX1_add_4 (by decide) ?_
            refine lv_icmp_ne (tgt := 30) hx hb dX1_add_5 (by decide) (fun _ => ?_) (fun c_144 => absurd c_144 (by decide))
            refine lv_aload_n hx hb dX1_add_30 rfl (lv_at hl 0 rfl) ?_
            refine lv_aload_n hx hb dX1_add_31 rfl (lv_at hl 0 rfl) ?_
            refine va_get (D := D) (ci := 0) (v := .int 0) (C := RX1) (T := TX1) (N := 3) hx hb hts iX1_add_X1 hown hG.1 hP 0 rfl rfl 2 (by decide) (hts (.fieldLink RX1 22 "MillComplaints$History" "size" "I") (List.mem_of_getElem? (i := 1) rfl)) (fun _ h9 => h9) (by show some (Value.int (xx 8 0 1)) = _; rw [hz_143]) dX1_add_32 ?_
            refine ro_V (v := .ref ((ad 6) 0)) (rest := []) (As := [.int 0]) hx hb hml hown hts hl (MX1_stateAt_3_0 l D q ad xx ho_142) gX1_add_X1_stateAt rfl kX1_stateAt ⟨Nat.le_of_ble_eq_true rfl, Nat.le_of_ble_eq_true rfl⟩ rfl rfl (hP.sub (ws' := (wHo q ad xx)) [0, 1] rfl) (dT (hD.sub (ws' := (wHo q ad xx)) [0, 1] (by decide) rfl)) hG (ci := 0) rfl rfl rfl rfl (Nat.le_of_ble_eq_true rfl) dX1_add_35 ⟨Nat.zero_le _, Nat.zero_le _⟩ ?_
            refine lv_astore_n (lv' := [(2, .ref ((ad 6) 0)), (0, .ref (ad 8 0)), (1, .ref ((ad 1) 0))]) hx hb dX1_add_38 rfl hl (by decide) rfl (fun ls hl => ?_)
            refine lv_aload_n hx hb dX1_add_39 rfl (lv_at hl 0 rfl) ?_
            refine lv_ifnull hx hb dX1_add_40 ?_
            refine lv_aload_n hx hb dX1_add_43 rfl (lv_at hl 0 rfl) ?_
            refine lv_aload_n hx hb dX1_add_44 rfl (lv_at hl 2 rfl) ?_
            have hM := MX4_copyFrom' l D q (ad 6) (xx 6) (ad 1) (xx 1)
            refine mu_V (D := D) (ws := (wHK q ad xx 1)) (ws' := (wHK q ad (setV xx 6 (xx 1)) 1)) (rest := []) (As := [.ref ((ad 1) 0)]) hx hb hml hown hts hl hM gX1_add_X4_copyFrom rfl kX4_copyFrom ⟨Nat.le_of_ble_eq_true rfl, Nat.le_of_ble_eq_true rfl⟩ rfl rfl hP hD hS hG [32, 33, 34, 35, 36, 37, 38, 39, 40, 41, 42, 43, 44, 45, 46, 47, 48, 49, 50, 51] rfl rfl (by decide) [0, 1, 2, 3, 4, 5, 6, 7, 8, 9, 10, 11, 12, 13, 14, 15, 16, 17, 18, 19, 20, 21, 22, 23, 24, 25, 26, 27, 28, 29, 30, 31, 52, 53, 54, 55, 56, 57, 58, 59, 60, 61, 62, 63, 64, 65, 66, 67, 68, 69, 70, 71] rfl (by decide) rfl (ci := 2) rfl rfl rfl rfl (Nat.le_of_ble_eq_true rfl) dX1_add_45 ⟨Nat.zero_le _, Nat.zero_le _⟩ (fun H locs hP hD hS => ?_)
            obtain ⟨xx_145, exx_145⟩ : ∃ z, z = (setV xx 6 (xx 1)) := ⟨_, rfl⟩
            rw [← exx_145] at hP hD
            replace hR := lt_e hR exx_145
            have ho_146 : (xx_145 8 0 0) = 3 := by rw [exx_145]; exact ho_142
            have ho_147 : (xx_145 8 0 1) = 0 := by rw [exx_145]; exact hz_143
            refine lv_aload_n hx hb dX1_add_48 rfl (lv_at hl 1 rfl) ?_
            refine lv_dup hx hb dX1_add_49 rfl ?_
            refine va_get (D := D) (ci := 0) (v := .int 0) (C := RX1) (T := TX1) (N := 3) hx hb hts iX1_add_X1 hown hG.1 hP 0 rfl rfl 2 (by decide) (hts (.fieldLink RX1 22 "MillComplaints$History" "size" "I") (List.mem_of_getElem? (i := 1) rfl)) (fun _ h9 => h9) (by show some (Value.int (xx_145 8 0 1)) = _; rw [ho_147]) dX1_add_50 ?_
            refine lv_iconst (v := 1) hx hb dX1_add_53 (by decide) ?_
            refine lv_iadd hx hb dX1_add_54 ?_
            refine lv_tope (y := 1) (by decide) ?_
            refine va_put (D := D) (ci := 0) (v := .int 1) (ty := .int) (C := RX1) (T := TX1) (N := 3) hx hb hts iX1_add_X1 tyX1 tyX1_ok nmX1 hown hG.1 hP hD hS 0 rfl rfl 2 (by decide) (hts (.fieldLink RX1 22 "MillComplaints$History" "size" "I") (List.mem_of_getElem? (i := 1) rfl)) (fun _ h9 => h9) rfl (by decide +kernel) rfl rfl (Nat.le_of_ble_eq_true rfl) dX1_add_55 (fun H locs hP hD hS => ?_)
            have hP : va_P D vwCl (wHK q ad (setV xx_145 8 (setA (xx_145 8) 0 (upd (xx_145 8 0) 1 1))) 1) H := hP
            have hD : va_D A (wHK q ad (setV xx_145 8 (setA (xx_145 8) 0 (upd (xx_145 8 0) 1 1))) 1) := hD
            obtain ⟨xx_148, exx_148⟩ : ∃ z, z = (setV xx_145 8 (setA (xx_145 8) 0 (upd (xx_145 8 0) 1 1))) := ⟨_, rfl⟩
            rw [← exx_148] at hP hD
            replace hR := lt_e hR exx_148
            have ho_149 : (xx_148 8 0 0) = 3 := by rw [exx_148]; exact ho_146
            have ho_150 : (xx_148 8 0 1) = 1 := by rw [exx_148]; rfl
            subst hR
            exact mu_vret hx hb hr hk hA hS hP dX1_add_58
          · rw [if_neg hz_143] at hR
            by_cases hz_151 : (xx 8 0 1) = 1
            · rw [if_pos hz_151] at hR
              refine lv_aload_n hx hb dX1_add_0 rfl (lv_at hl 0 rfl) ?_
              refine va_get (D := D) (ci := 0) (v := .int 1) (C := RX1) (T := TX1) (N := 3) hx hb hts iX1_add_X1 hown hG.1 hP 0 rfl rfl 2 (by decide) (hts (.fieldLink RX1 22 "MillComplaints$History" "size" "I") (List.mem_of_getElem? (i := 1) rfl)) (fun _ h9 => h9) (by show some (Value.int (xx 8 0 1)) = _; rw [hz_151]) dX1_add_1 ?_
              refine lv_iconst (v := 4) hx hb dX1_add_4 (by decide) ?_
              refine lv_icmp_ne (tgt := 30) hx hb dX1_add_5 (by decide) (fun _ => ?_) (fun c_152 => absurd c_152 (by decide))
              refine lv_aload_n hx hb dX1_add_30 rfl (lv_at hl 0 rfl) ?_
              refine lv_aload_n hx hb dX1_add_31 rfl (lv_at hl 0 rfl) ?_
              refine va_get (D := D) (ci := 0) (v := .int 1) (C := RX1) (T := TX1) (N := 3) hx hb hts iX1_add_X1 hown hG.1 hP 0 rfl rfl 2 (by decide) (hts (.fieldLink RX1 22 "MillComplaints$History" "size" "I") (List.mem_of_getElem? (i := 1) rfl)) (fun _ h9 => h9) (by show some (Value.int (xx 8 0 1)) = _; rw [hz_151]) dX1_add_32 ?_
              refine ro_V (v := .ref ((ad 3) 0)) (rest := []) (As := [.int 1]) hx hb hml hown hts hl (MX1_stateAt_3_1 l D q ad xx ho_142) gX1_add_X1_stateAt rfl kX1_stateAt ⟨Nat.le_of_ble_eq_true rfl, Nat.le_of_ble_eq_true rfl⟩ rfl rfl (hP.sub (ws' := (wHo q ad xx)) [0, 1] rfl) (dT (hD.sub (ws' := (wHo q ad xx)) [0, 1] (by decide) rfl)) hG (ci := 0) rfl rfl rfl rfl (Nat.le_of_ble_eq_true rfl) dX1_add_35 ⟨Nat.zero_le _, Nat.zero_le _⟩ ?_
              refine lv_astore_n (lv' := [(2, .ref ((ad 3) 0)), (0, .ref (ad 8 0)), (1, .ref ((ad 1) 0))]) hx hb dX1_add_38 rfl hl (by decide) rfl (fun ls hl => ?_)
              refine lv_aload_n hx hb dX1_add_39 rfl (lv_at hl 0 rfl) ?_
              refine lv_ifnull hx hb dX1_add_40 ?_
              refine lv_aload_n hx hb dX1_add_43 rfl (lv_at hl 0 rfl) ?_
              refine lv_aload_n hx hb dX1_add_44 rfl (lv_at hl 2 rfl) ?_
              have hM := MX4_copyFrom' l D q (ad 3) (xx 3) (ad 1) (xx 1)
              refine mu_V (D := D) (ws := (wHK q ad xx 1)) (ws' := (wHK q ad (setV xx 3 (xx 1)) 1)) (rest := []) (As := [.ref ((ad 1) 0)]) hx hb hml hown hts hl hM gX1_add_X4_copyFrom rfl kX4_copyFrom ⟨Nat.le_of_ble_eq_true rfl, Nat.le_of_ble_eq_true rfl⟩ rfl rfl hP hD hS hG [2, 3, 4, 5, 6, 7, 8, 9, 10, 11, 42, 43, 44, 45, 46, 47, 48, 49, 50, 51] rfl rfl (by decide) [0, 1, 52, 53, 54, 55, 56, 57, 58, 59, 60, 61, 12, 13, 14, 15, 16, 17, 18, 19, 20, 21, 22, 23, 24, 25, 26, 27, 28, 29, 30, 31, 32, 33, 34, 35, 36, 37, 38, 39, 40, 41, 62, 63, 64, 65, 66, 67, 68, 69, 70, 71] rfl (by decide) rfl (ci := 2) rfl rfl rfl rfl (Nat.le_of_ble_eq_true rfl) dX1_add_45 ⟨Nat.zero_le _, Nat.zero_le _⟩ (fun H locs hP hD hS => ?_)
              obtain ⟨xx_153, exx_153⟩ : ∃ z, z = (setV xx 3 (xx 1)) := ⟨_, rfl⟩
              rw [← exx_153] at hP hD
              replace hR := lt_e hR exx_153
              have ho_154 : (xx_153 8 0 0) = 3 := by rw [exx_153]; exact ho_142
              have ho_155 : (xx_153 8 0 1) = 1 := by rw [exx_153]; exact hz_151
              refine lv_aload_n hx hb dX1_add_48 rfl (lv_at hl 1 rfl) ?_
              refine lv_dup hx hb dX1_add_49 rfl ?_
              refine va_get (D := D) (ci := 0) (v := .int 1) (C := RX1) (T := TX1) (N := 3) hx hb hts iX1_add_X1 hown hG.1 hP 0 rfl rfl 2 (by decide) (hts (.fieldLink RX1 22 "MillComplaints$History" "size" "I") (List.mem_of_getElem? (i := 1) rfl)) (fun _ h9 => h9) (by show some (Value.int (xx_153 8 0 1)) = _; rw [ho_155]) dX1_add_50 ?_
              refine lv_iconst (v := 1) hx hb dX1_add_53 (by decide) ?_
              refine lv_iadd hx hb dX1_add_54 ?_
              refine lv_tope (y := 2) (by decide) ?_
              refine va_put (D := D) (ci := 0) (v := .int 2) (ty := .int) (C := RX1) (T := TX1) (N := 3) hx hb hts iX1_add_X1 tyX1 tyX1_ok nmX1 hown hG.1 hP hD hS 0 rfl rfl 2 (by decide) (hts (.fieldLink RX1 22 "MillComplaints$History" "size" "I") (List.mem_of_getElem? (i := 1) rfl)) (fun _ h9 => h9) rfl (by decide +kernel) rfl rfl (Nat.le_of_ble_eq_true rfl) dX1_add_55 (fun H locs hP hD hS => ?_)
              have hP : va_P D vwCl (wHK q ad (setV xx_153 8 (setA (xx_153 8) 0 (upd (xx_153 8 0) 1 2))) 1) H := hP
              have hD : va_D A (wHK q ad (setV xx_153 8 (setA (xx_153 8) 0 (upd (xx_153 8 0) 1 2))) 1) := hD
              obtain ⟨xx_156, exx_156⟩ : ∃ z, z = (setV xx_153 8 (setA (xx_153 8) 0 (upd (xx_153 8 0) 1 2))) := ⟨_, rfl⟩
              rw [← exx_156] at hP hD
              replace hR := lt_e hR exx_156
              have ho_157 : (xx_156 8 0 0) = 3 := by rw [exx_156]; exact ho_154
              have ho_158 : (xx_156 8 0 1) = 2 := by rw [exx_156]; rfl
              subst hR
              exact mu_vret hx hb hr hk hA hS hP dX1_add_58
            · rw [if_neg hz_151] at hR
              by_cases hz_159 : (xx 8 0 1) = 2
              · rw [if_pos hz_159] at hR
                refine lv_aload_n hx hb dX1_add_0 rfl (lv_at hl 0 rfl) ?_
                refine va_get (D := D) (ci := 0) (v := .int 2) (C := RX1) (T := TX1) (N := 3) hx hb hts iX1_add_X1 hown hG.1 hP 0 rfl rfl 2 (by decide) (hts (.fieldLink RX1 22 "MillComplaints$History" "size" "I") (List.mem_of_getElem? (i := 1) rfl)) (fun _ h9 => h9) (by show some (Value.int (xx 8 0 1)) = _; rw [hz_159]) dX1_add_1 ?_
                refine lv_iconst (v := 4) hx hb dX1_add_4 (by decide) ?_
                refine lv_icmp_ne (tgt := 30) hx hb dX1_add_5 (by decide) (fun _ => ?_) (fun c_160 => absurd c_160 (by decide))
                refine lv_aload_n hx hb dX1_add_30 rfl (lv_at hl 0 rfl) ?_
                refine lv_aload_n hx hb dX1_add_31 rfl (lv_at hl 0 rfl) ?_
                refine va_get (D := D) (ci := 0) (v := .int 2) (C := RX1) (T := TX1) (N := 3) hx hb hts iX1_add_X1 hown hG.1 hP 0 rfl rfl 2 (by decide) (hts (.fieldLink RX1 22 "MillComplaints$History" "size" "I") (List.mem_of_getElem? (i := 1) rfl)) (fun _ h9 => h9) (by show some (Value.int (xx 8 0 1)) = _; rw [hz_159]) dX1_add_32 ?_
                refine ro_V (v := .ref ((ad 4) 0)) (rest := []) (As := [.int 2]) hx hb hml hown hts hl (MX1_stateAt_3_2 l D q ad xx ho_142) gX1_add_X1_stateAt rfl kX1_stateAt ⟨Nat.le_of_ble_eq_true rfl, Nat.le_of_ble_eq_true rfl⟩ rfl rfl (hP.sub (ws' := (wHo q ad xx)) [0, 1] rfl) (dT (hD.sub (ws' := (wHo q ad xx)) [0, 1] (by decide) rfl)) hG (ci := 0) rfl rfl rfl rfl (Nat.le_of_ble_eq_true rfl) dX1_add_35 ⟨Nat.zero_le _, Nat.zero_le _⟩ ?_
                refine lv_astore_n (lv' := [(2, .ref ((ad 4) 0)), (0, .ref (ad 8 0)), (1, .ref ((ad 1) 0))]) hx hb dX1_add_38 rfl hl (by decide) rfl (fun ls hl => ?_)
                refine lv_aload_n hx hb dX1_add_39 rfl (lv_at hl 0 rfl) ?_
                refine lv_ifnull hx hb dX1_add_40 ?_
                refine lv_aload_n hx hb dX1_add_43 rfl (lv_at hl 0 rfl) ?_
                refine lv_aload_n hx hb dX1_add_44 rfl (lv_at hl 2 rfl) ?_
                have hM := MX4_copyFrom' l D q (ad 4) (xx 4) (ad 1) (xx 1)
                refine mu_V (D := D) (ws := (wHK q ad xx 1)) (ws' := (wHK q ad (setV xx 4 (xx 1)) 1)) (rest := []) (As := [.ref ((ad 1) 0)]) hx hb hml hown hts hl hM gX1_add_X4_copyFrom rfl kX4_copyFrom ⟨Nat.le_of_ble_eq_true rfl, Nat.le_of_ble_eq_true rfl⟩ rfl rfl hP hD hS hG [12, 13, 14, 15, 16, 17, 18, 19, 20, 21, 42, 43, 44, 45, 46, 47, 48, 49, 50, 51] rfl rfl (by decide) [0, 1, 2, 3, 4, 5, 6, 7, 8, 9, 10, 11, 52, 53, 54, 55, 56, 57, 58, 59, 60, 61, 22, 23, 24, 25, 26, 27, 28, 29, 30, 31, 32, 33, 34, 35, 36, 37, 38, 39, 40, 41, 62, 63, 64, 65, 66, 67, 68, 69, 70, 71] rfl (by decide) rfl (ci := 2) rfl rfl rfl rfl (Nat.le_of_ble_eq_true rfl) dX1_add_45 ⟨Nat.zero_le _, Nat.zero_le _⟩ (fun H locs hP hD hS => ?_)
                obtain ⟨xx_161, exx_161⟩ : ∃ z, z = (setV xx 4 (xx 1)) := ⟨_, rfl⟩
                rw [← exx_161] at hP hD
                replace hR := lt_e hR exx_161
                have ho_162 : (xx_161 8 0 0) = 3 := by rw [exx_161]; exact ho_142
                have ho_163 : (xx_161 8 0 1) = 2 := by rw [exx_161]; exact hz_159
                refine lv_aload_n hx hb dX1_add_48 rfl (lv_at hl 1 rfl) ?_
                refine lv_dup hx hb dX1_add_49 rfl ?_
                refine va_get (D := D) (ci := 0) (v := .int 2) (C := RX1) (T := TX1) (N := 3) hx hb hts iX1_add_X1 hown hG.1 hP 0 rfl rfl 2 (by decide) (hts (.fieldLink RX1 22 "MillComplaints$History" "size" "I") (List.mem_of_getElem? (i := 1) rfl)) (fun _ h9 => h9) (by show some (Value.int (xx_161 8 0 1)) = _; rw [ho_163]) dX1_add_50 ?_
                refine lv_iconst (v := 1) hx hb dX1_add_53 (by decide) ?_
                refine lv_iadd hx hb dX1_add_54 ?_
                refine lv_tope (y := 3) (by decide) ?_
                refine va_put (D := D) (ci := 0) (v := .int 3) (ty := .int) (C := RX1) (T := TX1) (N := 3) hx hb hts iX1_add_X1 tyX1 tyX1_ok nmX1 hown hG.1 hP hD hS 0 rfl rfl 2 (by decide) (hts (.fieldLink RX1 22 "MillComplaints$History" "size" "I") (List.mem_of_getElem? (i := 1) rfl)) (fun _ h9 => h9) rfl (by decide +kernel) rfl rfl (Nat.le_of_ble_eq_true rfl) dX1_add_55 (fun H locs hP hD hS => ?_)
                have hP : va_P D vwCl (wHK q ad (setV xx_161 8 (setA (xx_161 8) 0 (upd (xx_161 8 0) 1 3))) 1) H := hP
                have hD : va_D A (wHK q ad (setV xx_161 8 (setA (xx_161 8) 0 (upd (xx_161 8 0) 1 3))) 1) := hD
                obtain ⟨xx_164, exx_164⟩ : ∃ z, z = (setV xx_161 8 (setA (xx_161 8) 0 (upd (xx_161 8 0) 1 3))) := ⟨_, rfl⟩
                rw [← exx_164] at hP hD
                replace hR := lt_e hR exx_164
                have ho_165 : (xx_164 8 0 0) = 3 := by rw [exx_164]; exact ho_162
                have ho_166 : (xx_164 8 0 1) = 3 := by rw [exx_164]; rfl
                subst hR
                exact mu_vret hx hb hr hk hA hS hP dX1_add_58
              · rw [if_neg hz_159] at hR
                by_cases hz_167 : (xx 8 0 1) = 3
                · rw [if_pos hz_167] at hR
                  refine lv_aload_n hx hb dX1_add_0 rfl (lv_at hl 0 rfl) ?_
                  refine va_get (D := D) (ci := 0) (v := .int 3) (C := RX1) (T := TX1) (N := 3) hx hb hts iX1_add_X1 hown hG.1 hP 0 rfl rfl 2 (by decide) (hts (.fieldLink RX1 22 "MillComplaints$History" "size" "I") (List.mem_of_getElem? (i := 1) rfl)) (fun _ h9 => h9) (by show some (Value.int (xx 8 0 1)) = _; rw [hz_167]) dX1_add_1 ?_
                  refine lv_iconst (v := 4) hx hb dX1_add_4 (by decide) ?_
                  refine lv_icmp_ne (tgt := 30) hx hb dX1_add_5 (by decide) (fun _ => ?_) (fun c_168 => absurd c_168 (by decide))
                  refine lv_aload_n hx hb dX1_add_30 rfl (lv_at hl 0 rfl) ?_
                  refine lv_aload_n hx hb dX1_add_31 rfl (lv_at hl 0 rfl) ?_
                  refine va_get (D := D) (ci := 0) (v := .int 3) (C := RX1) (T := TX1) (N := 3) hx hb hts iX1_add_X1 hown hG.1 hP 0 rfl rfl 2 (by decide) (hts (.fieldLink RX1 22 "MillComplaints$History" "size" "I") (List.mem_of_getElem? (i := 1) rfl)) (fun _ h9 => h9) (by show some (Value.int (xx 8 0 1)) = _; rw [hz_167]) dX1_add_32 ?_
                  refine ro_V (v := .ref ((ad 5) 0)) (rest := []) (As := [.int 3]) hx hb hml hown hts hl (MX1_stateAt_3_3 l D q ad xx ho_142) gX1_add_X1_stateAt rfl kX1_stateAt ⟨Nat.le_of_ble_eq_true rfl, Nat.le_of_ble_eq_true rfl⟩ rfl rfl (hP.sub (ws' := (wHo q ad xx)) [0, 1] rfl) (dT (hD.sub (ws' := (wHo q ad xx)) [0, 1] (by decide) rfl)) hG (ci := 0) rfl rfl rfl rfl (Nat.le_of_ble_eq_true rfl) dX1_add_35 ⟨Nat.zero_le _, Nat.zero_le _⟩ ?_
                  refine lv_astore_n (lv' := [(2, .ref ((ad 5) 0)), (0, .ref (ad 8 0)), (1, .ref ((ad 1) 0))]) hx hb dX1_add_38 rfl hl (by decide) rfl (fun ls hl => ?_)
                  refine lv_aload_n hx hb dX1_add_39 rfl (lv_at hl 0 rfl) ?_
                  refine lv_ifnull hx hb dX1_add_40 ?_
                  refine lv_aload_n hx hb dX1_add_43 rfl (lv_at hl 0 rfl) ?_
                  refine lv_aload_n hx hb dX1_add_44 rfl (lv_at hl 2 rfl) ?_
                  have hM := MX4_copyFrom' l D q (ad 5) (xx 5) (ad 1) (xx 1)
                  refine mu_V (D := D) (ws := (wHK q ad xx 1)) (ws' := (wHK q ad (setV xx 5 (xx 1)) 1)) (rest := []) (As := [.ref ((ad 1) 0)]) hx hb hml hown hts hl hM gX1_add_X4_copyFrom rfl kX4_copyFrom ⟨Nat.le_of_ble_eq_true rfl, Nat.le_of_ble_eq_true rfl⟩ rfl rfl hP hD hS hG [22, 23, 24, 25, 26, 27, 28, 29, 30, 31, 42, 43, 44, 45, 46, 47, 48, 49, 50, 51] rfl rfl (by decide) [0, 1, 2, 3, 4, 5, 6, 7, 8, 9, 10, 11, 12, 13, 14, 15, 16, 17, 18, 19, 20, 21, 52, 53, 54, 55, 56, 57, 58, 59, 60, 61, 32, 33, 34, 35, 36, 37, 38, 39, 40, 41, 62, 63, 64, 65, 66, 67, 68, 69, 70, 71] rfl (by decide) rfl (ci := 2) rfl rfl rfl rfl (Nat.le_of_ble_eq_true rfl) dX1_add_45 ⟨Nat.zero_le _, Nat.zero_le _⟩ (fun H locs hP hD hS => ?_)
                  obtain ⟨xx_169, exx_169⟩ : ∃ z, z = (setV xx 5 (xx 1)) := ⟨_, rfl⟩
                  rw [← exx_169] at hP hD
                  replace hR := lt_e hR exx_169
                  have ho_170 : (xx_169 8 0 0) = 3 := by rw [exx_169]; exact ho_142
                  have ho_171 : (xx_169 8 0 1) = 3 := by rw [exx_169]; exact hz_167
                  refine lv_aload_n hx hb dX1_add_48 rfl (lv_at hl 1 rfl) ?_
                  refine lv_dup hx hb dX1_add_49 rfl ?_
                  refine va_get (D := D) (ci := 0) (v := .int 3) (C := RX1) (T := TX1) (N := 3) hx hb hts iX1_add_X1 hown hG.1 hP 0 rfl rfl 2 (by decide) (hts (.fieldLink RX1 22 "MillComplaints$History" "size" "I") (List.mem_of_getElem? (i := 1) rfl)) (fun _ h9 => h9) (by show some (Value.int (xx_169 8 0 1)) = _; rw [ho_171]) dX1_add_50 ?_
                  refine lv_iconst (v := 1) hx hb dX1_add_53 (by decide) ?_
                  refine lv_iadd hx hb dX1_add_54 ?_
                  refine lv_tope (y := 4) (by decide) ?_
                  refine va_put (D := D) (ci := 0) (v := .int 4) (ty := .int) (C := RX1) (T := TX1) (N := 3) hx hb hts iX1_add_X1 tyX1 tyX1_ok nmX1 hown hG.1 hP hD hS 0 rfl rfl 2 (by decide) (hts (.fieldLink RX1 22 "MillComplaints$History" "size" "I") (List.mem_of_getElem? (i := 1) rfl)) (fun _ h9 => h9) rfl (by decide +kernel) rfl rfl (Nat.le_of_ble_eq_true rfl) dX1_add_55 (fun H locs hP hD hS => ?_)
                  have hP : va_P D vwCl (wHK q ad (setV xx_169 8 (setA (xx_169 8) 0 (upd (xx_169 8 0) 1 4))) 1) H := hP
                  have hD : va_D A (wHK q ad (setV xx_169 8 (setA (xx_169 8) 0 (upd (xx_169 8 0) 1 4))) 1) := hD
                  obtain ⟨xx_172, exx_172⟩ : ∃ z, z = (setV xx_169 8 (setA (xx_169 8) 0 (upd (xx_169 8 0) 1 4))) := ⟨_, rfl⟩
                  rw [← exx_172] at hP hD
                  replace hR := lt_e hR exx_172
                  have ho_173 : (xx_172 8 0 0) = 3 := by rw [exx_172]; exact ho_170
                  have ho_174 : (xx_172 8 0 1) = 4 := by rw [exx_172]; rfl
                  subst hR
                  exact mu_vret hx hb hr hk hA hS hP dX1_add_58
                · rw [if_neg hz_167] at hR
                  by_cases hz_175 : (xx 8 0 1) = 4
                  · rw [if_pos hz_175] at hR
                    refine lv_aload_n hx hb dX1_add_0 rfl (lv_at hl 0 rfl) ?_
                    refine va_get (D := D) (ci := 0) (v := .int 4) (C := RX1) (T := TX1) (N := 3) hx hb hts iX1_add_X1 hown hG.1 hP 0 rfl rfl 2 (by decide) (hts (.fieldLink RX1 22 "MillComplaints$History" "size" "I") (List.mem_of_getElem? (i := 1) rfl)) (fun _ h9 => h9) (by show some (Value.int (xx 8 0 1)) = _; rw [hz_175]) dX1_add_1 ?_
                    refine lv_iconst (v := 4) hx hb dX1_add_4 (by decide) ?_
                    refine lv_icmp_ne (tgt := 30) hx hb dX1_add_5 (by decide) (fun c_176 => absurd (by decide) c_176) (fun _ => ?_)
                    refine lv_aload_n hx hb dX1_add_8 rfl (lv_at hl 0 rfl) ?_
                    refine lv_aload_n hx hb dX1_add_9 rfl (lv_at hl 0 rfl) ?_
                    refine va_get (D := D) (ci := 0) (v := .int 3) (C := RX1) (T := TX1) (N := 3) hx hb hts iX1_add_X1 hown hG.1 hP 0 rfl rfl 1 (by decide) (hts (.fieldLink RX1 18 "MillComplaints$History" "oldest" "I") (List.mem_of_getElem? (i := 2) rfl)) (fun _ h9 => h9) (by show some (Value.int (xx 8 0 0)) = _; rw [ho_142]) dX1_add_10 ?_
                    refine lv_iconst (v := 1) hx hb dX1_add_13 (by decide) ?_
                    refine lv_iadd hx hb dX1_add_14 ?_
                    refine lv_tope (y := 4) (by decide) ?_
                    refine lv_iconst (v := 4) hx hb dX1_add_15 (by decide) ?_
                    refine lv_irem hx hb dX1_add_16 (by decide) ?_
                    refine lv_tope (y := 0) (by decide) ?_
                    refine va_put (D := D) (ci := 0) (v := .int 0) (ty := .int) (C := RX1) (T := TX1) (N := 3) hx hb hts iX1_add_X1 tyX1 tyX1_ok nmX1 hown hG.1 hP hD hS 0 rfl rfl 1 (by decide) (hts (.fieldLink RX1 18 "MillComplaints$History" "oldest" "I") (List.mem_of_getElem? (i := 2) rfl)) (fun _ h9 => h9) rfl (by decide +kernel) rfl rfl (Nat.le_of_ble_eq_true rfl) dX1_add_17 (fun H locs hP hD hS => ?_)
                    have hP : va_P D vwCl (wHK q ad (setV xx 8 (setA (xx 8) 0 (upd (xx 8 0) 0 0))) 1) H := hP
                    have hD : va_D A (wHK q ad (setV xx 8 (setA (xx 8) 0 (upd (xx 8 0) 0 0))) 1) := hD
                    obtain ⟨xx_177, exx_177⟩ : ∃ z, z = (setV xx 8 (setA (xx 8) 0 (upd (xx 8 0) 0 0))) := ⟨_, rfl⟩
                    rw [← exx_177] at hP hD
                    replace hR := lt_e hR exx_177
                    have ho_178 : (xx_177 8 0 0) = 0 := by rw [exx_177]; rfl
                    have ho_179 : (xx_177 8 0 1) = 4 := by rw [exx_177]; exact hz_175
                    refine lv_aload_n hx hb dX1_add_20 rfl (lv_at hl 0 rfl) ?_
                    refine lv_dup hx hb dX1_add_21 rfl ?_
                    refine va_get (D := D) (ci := 0) (v := .int 4) (C := RX1) (T := TX1) (N := 3) hx hb hts iX1_add_X1 hown hG.1 hP 0 rfl rfl 2 (by decide) (hts (.fieldLink RX1 22 "MillComplaints$History" "size" "I") (List.mem_of_getElem? (i := 1) rfl)) (fun _ h9 => h9) (by show some (Value.int (xx_177 8 0 1)) = _; rw [ho_179]) dX1_add_22 ?_
                    refine lv_iconst (v := 1) hx hb dX1_add_25 (by decide) ?_
                    refine lv_isub hx hb dX1_add_26 ?_
                    refine lv_tope (y := 3) (by decide) ?_
                    refine va_put (D := D) (ci := 0) (v := .int 3) (ty := .int) (C := RX1) (T := TX1) (N := 3) hx hb hts iX1_add_X1 tyX1 tyX1_ok nmX1 hown hG.1 hP hD hS 0 rfl rfl 2 (by decide) (hts (.fieldLink RX1 22 "MillComplaints$History" "size" "I") (List.mem_of_getElem? (i := 1) rfl)) (fun _ h9 => h9) rfl (by decide +kernel) rfl rfl (Nat.le_of_ble_eq_true rfl) dX1_add_27 (fun H locs hP hD hS => ?_)
                    have hP : va_P D vwCl (wHK q ad (setV xx_177 8 (setA (xx_177 8) 0 (upd (xx_177 8 0) 1 3))) 1) H := hP
                    have hD : va_D A (wHK q ad (setV xx_177 8 (setA (xx_177 8) 0 (upd (xx_177 8 0) 1 3))) 1) := hD
                    obtain ⟨xx_180, exx_180⟩ : ∃ z, z = (setV xx_177 8 (setA (xx_177 8) 0 (upd (xx_177 8 0) 1 3))) := ⟨_, rfl⟩
                    rw [← exx_180] at hP hD
                    replace hR := lt_e hR exx_180
                    have ho_181 : (xx_180 8 0 0) = 0 := by rw [exx_180]; exact ho_178
                    have ho_182 : (xx_180 8 0 1) = 3 := by rw [exx_180]; rfl
                    refine lv_aload_n hx hb dX1_add_30 rfl (lv_at hl 0 rfl) ?_
                    refine lv_aload_n hx hb dX1_add_31 rfl (lv_at hl 0 rfl) ?_
                    refine va_get (D := D) (ci := 0) (v := .int 3) (C := RX1) (T := TX1) (N := 3) hx hb hts iX1_add_X1 hown hG.1 hP 0 rfl rfl 2 (by decide) (hts (.fieldLink RX1 22 "MillComplaints$History" "size" "I") (List.mem_of_getElem? (i := 1) rfl)) (fun _ h9 => h9) (by show some (Value.int (xx_180 8 0 1)) = _; rw [ho_182]) dX1_add_32 ?_
                    refine ro_V (v := .ref ((ad 6) 0)) (rest := []) (As := [.int 3]) hx hb hml hown hts hl (MX1_stateAt_0_3 l D q ad xx_180 ho_181) gX1_add_X1_stateAt rfl kX1_stateAt ⟨Nat.le_of_ble_eq_true rfl, Nat.le_of_ble_eq_true rfl⟩ rfl rfl (hP.sub (ws' := (wHo q ad xx_180)) [0, 1] rfl) (dT (hD.sub (ws' := (wHo q ad xx_180)) [0, 1] (by decide) rfl)) hG (ci := 0) rfl rfl rfl rfl (Nat.le_of_ble_eq_true rfl) dX1_add_35 ⟨Nat.zero_le _, Nat.zero_le _⟩ ?_
                    refine lv_astore_n (lv' := [(2, .ref ((ad 6) 0)), (0, .ref (ad 8 0)), (1, .ref ((ad 1) 0))]) hx hb dX1_add_38 rfl hl (by decide) rfl (fun ls hl => ?_)
                    refine lv_aload_n hx hb dX1_add_39 rfl (lv_at hl 0 rfl) ?_
                    refine lv_ifnull hx hb dX1_add_40 ?_
                    refine lv_aload_n hx hb dX1_add_43 rfl (lv_at hl 0 rfl) ?_
                    refine lv_aload_n hx hb dX1_add_44 rfl (lv_at hl 2 rfl) ?_
                    have hM := MX4_copyFrom' l D q (ad 6) (xx_180 6) (ad 1) (xx_180 1)
                    refine mu_V (D := D) (ws := (wHK q ad xx_180 1)) (ws' := (wHK q ad (setV xx_180 6 (xx_180 1)) 1)) (rest := []) (As := [.ref ((ad 1) 0)]) hx hb hml hown hts hl hM gX1_add_X4_copyFrom rfl kX4_copyFrom ⟨Nat.le_of_ble_eq_true rfl, Nat.le_of_ble_eq_true rfl⟩ rfl rfl hP hD hS hG [32, 33, 34, 35, 36, 37, 38, 39, 40, 41, 42, 43, 44, 45, 46, 47, 48, 49, 50, 51] rfl rfl (by decide) [0, 1, 2, 3, 4, 5, 6, 7, 8, 9, 10, 11, 12, 13, 14, 15, 16, 17, 18, 19, 20, 21, 22, 23, 24, 25, 26, 27, 28, 29, 30, 31, 52, 53, 54, 55, 56, 57, 58, 59, 60, 61, 62, 63, 64, 65, 66, 67, 68, 69, 70, 71] rfl (by decide) rfl (ci := 2) rfl rfl rfl rfl (Nat.le_of_ble_eq_true rfl) dX1_add_45 ⟨Nat.zero_le _, Nat.zero_le _⟩ (fun H locs hP hD hS => ?_)
                    obtain ⟨xx_183, exx_183⟩ : ∃ z, z = (setV xx_180 6 (xx_180 1)) := ⟨_, rfl⟩
                    rw [← exx_183] at hP hD
                    replace hR := lt_e hR exx_183
                    have ho_184 : (xx_183 8 0 0) = 0 := by rw [exx_183]; exact ho_181
                    have ho_185 : (xx_183 8 0 1) = 3 := by rw [exx_183]; exact ho_182
                    refine lv_aload_n hx hb dX1_add_48 rfl (lv_at hl 1 rfl) ?_
                    refine lv_dup hx hb dX1_add_49 rfl ?_
                    refine va_get (D := D) (ci := 0) (v := .int 3) (C := RX1) (T := TX1) (N := 3) hx hb hts iX1_add_X1 hown hG.1 hP 0 rfl rfl 2 (by decide) (hts (.fieldLink RX1 22 "MillComplaints$History" "size" "I") (List.mem_of_getElem? (i := 1) rfl)) (fun _ h9 => h9) (by show some (Value.int (xx_183 8 0 1)) = _; rw [ho_185]) dX1_add_50 ?_
                    refine lv_iconst (v := 1) hx hb dX1_add_53 (by decide) ?_
                    refine lv_iadd hx hb dX1_add_54 ?_
                    refine lv_tope (y := 4) (by decide) ?_
                    refine va_put (D := D) (ci := 0) (v := .int 4) (ty := .int) (C := RX1) (T := TX1) (N := 3) hx hb hts iX1_add_X1 tyX1 tyX1_ok nmX1 hown hG.1 hP hD hS 0 rfl rfl 2 (by decide) (hts (.fieldLink RX1 22 "MillComplaints$History" "size" "I") (List.mem_of_getElem? (i := 1) rfl)) (fun _ h9 => h9) rfl (by decide +kernel) rfl rfl (Nat.le_of_ble_eq_true rfl) dX1_add_55 (fun H locs hP hD hS => ?_)
                    have hP : va_P D vwCl (wHK q ad (setV xx_183 8 (setA (xx_183 8) 0 (upd (xx_183 8 0) 1 4))) 1) H := hP
                    have hD : va_D A (wHK q ad (setV xx_183 8 (setA (xx_183 8) 0 (upd (xx_183 8 0) 1 4))) 1) := hD
                    obtain ⟨xx_186, exx_186⟩ : ∃ z, z = (setV xx_183 8 (setA (xx_183 8) 0 (upd (xx_183 8 0) 1 4))) := ⟨_, rfl⟩
                    rw [← exx_186] at hP hD
                    replace hR := lt_e hR exx_186
                    have ho_187 : (xx_186 8 0 0) = 0 := by rw [exx_186]; exact ho_184
                    have ho_188 : (xx_186 8 0 1) = 4 := by rw [exx_186]; rfl
                    subst hR
                    exact mu_vret hx hb hr hk hA hS hP dX1_add_58
                  · rw [if_neg hz_175] at hR
                    exact (rg_z hrg hz_143 hz_151 hz_159 hz_167 hz_175).elim
        · rw [if_neg ho_142] at hR
          exact (rg_o hrg ho_1 ho_48 ho_95 ho_142).elim

def mX1_takeLatest (xx : Nat → Nat → Nat → Int32) : (Nat → Nat → Nat → Int32) := (if (xx 8 0 0) = 0 then (if (xx 8 0 1) = 0 then xx else (if (xx 8 0 1) = 1 then (lt (setV xx 0 (xx 3)) (fun xx_6 => (lt (setV xx_6 8 (setA (xx_6 8) 0 (upd (xx_6 8 0) 1 0))) (fun xx_9 => xx_9)))) else (if (xx 8 0 1) = 2 then (lt (setV xx 0 (xx 4)) (fun xx_14 => (lt (setV xx_14 8 (setA (xx_14 8) 0 (upd (xx_14 8 0) 1 1))) (fun xx_17 => xx_17)))) else (if (xx 8 0 1) = 3 then (lt (setV xx 0 (xx 5)) (fun xx_22 => (lt (setV xx_22 8 (setA (xx_22 8) 0 (upd (xx_22 8 0) 1 2))) (fun xx_25 => xx_25)))) else (if (xx 8 0 1) = 4 then (lt (setV xx 0 (xx 6)) (fun xx_30 => (lt (setV xx_30 8 (setA (xx_30 8) 0 (upd (xx_30 8 0) 1 3))) (fun xx_33 => xx_33)))) else xx))))) else (if (xx 8 0 0) = 1 then (if (xx 8 0 1) = 0 then xx else (if (xx 8 0 1) = 1 then (lt (setV xx 0 (xx 4)) (fun xx_41 => (lt (setV xx_41 8 (setA (xx_41 8) 0 (upd (xx_41 8 0) 1 0))) (fun xx_44 => xx_44)))) else (if (xx 8 0 1) = 2 then (lt (setV xx 0 (xx 5)) (fun xx_49 => (lt (setV xx_49 8 (setA (xx_49 8) 0 (upd (xx_49 8 0) 1 1))) (fun xx_52 => xx_52)))) else (if (xx 8 0 1) = 3 then (lt (setV xx 0 (xx 6)) (fun xx_57 => (lt (setV xx_57 8 (setA (xx_57 8) 0 (upd (xx_57 8 0) 1 2))) (fun xx_60 => xx_60)))) else (if (xx 8 0 1) = 4 then (lt (setV xx 0 (xx 3)) (fun xx_65 => (lt (setV xx_65 8 (setA (xx_65 8) 0 (upd (xx_65 8 0) 1 3))) (fun xx_68 => xx_68)))) else xx))))) else (if (xx 8 0 0) = 2 then (if (xx 8 0 1) = 0 then xx else (if (xx 8 0 1) = 1 then (lt (setV xx 0 (xx 5)) (fun xx_76 => (lt (setV xx_76 8 (setA (xx_76 8) 0 (upd (xx_76 8 0) 1 0))) (fun xx_79 => xx_79)))) else (if (xx 8 0 1) = 2 then (lt (setV xx 0 (xx 6)) (fun xx_84 => (lt (setV xx_84 8 (setA (xx_84 8) 0 (upd (xx_84 8 0) 1 1))) (fun xx_87 => xx_87)))) else (if (xx 8 0 1) = 3 then (lt (setV xx 0 (xx 3)) (fun xx_92 => (lt (setV xx_92 8 (setA (xx_92 8) 0 (upd (xx_92 8 0) 1 2))) (fun xx_95 => xx_95)))) else (if (xx 8 0 1) = 4 then (lt (setV xx 0 (xx 4)) (fun xx_100 => (lt (setV xx_100 8 (setA (xx_100 8) 0 (upd (xx_100 8 0) 1 3))) (fun xx_103 => xx_103)))) else xx))))) else (if (xx 8 0 0) = 3 then (if (xx 8 0 1) = 0 then xx else (if (xx 8 0 1) = 1 then (lt (setV xx 0 (xx 6)) (fun xx_111 => (lt (setV xx_111 8 (setA (xx_111 8) 0 (upd (xx_111 8 0) 1 0))) (fun xx_114 => xx_114)))) else (if (xx 8 0 1) = 2 then (lt (setV xx 0 (xx 3)) (fun xx_119 => (lt (setV xx_119 8 (setA (xx_119 8) 0 (upd (xx_119 8 0) 1 1))) (fun xx_122 => xx_122)))) else (if (xx 8 0 1) = 3 then (lt (setV xx 0 (xx 4)) (fun xx_127 => (lt (setV xx_127 8 (setA (xx_127 8) 0 (upd (xx_127 8 0) 1 2))) (fun xx_130 => xx_130)))) else (if (xx 8 0 1) = 4 then (lt (setV xx 0 (xx 5)) (fun xx_135 => (lt (setV xx_135 8 (setA (xx_135 8) 0 (upd (xx_135 8 0) 1 3))) (fun xx_138 => xx_138)))) else xx))))) else xx))))
theorem kX1_takeLatest : yX1_takeLatest.cls = RX1 ∧ yX1_takeLatest.cls ≠ "java/lang/invoke/MethodHandle" ∧ yX1_takeLatest.cls ≠ "java/lang/invoke/VarHandle" ∧ (parseMethodDescriptor yX1_takeLatest.desc).map (fun d => d.parameters.length) = some 1 := by decide +kernel
theorem iX1_takeLatest_X1 : ∀ w ∈ wsX10, w ∈ wsX1_takeLatest := fun w h => (List.mem_cons_of_mem _ (List.mem_append_left _ (List.mem_append_right _ h)))
set_option maxHeartbeats 4000000 in
set_option maxRecDepth 100000 in
theorem MX1_takeLatest (l : Launch) (D : va_G) (q : Nat → ClassId) (ad : Nat → Nat → Nat) (xx : Nat → Nat → Nat → Int32)  (hrg : rgOk xx) : muM l D (tyq q) yX1_takeLatest wsX1_takeLatest ({ frames := 2, cells := 0, slots := 0, locals := 43 } : Room) [.ref (ad 8 0), .ref ((ad 0) 0)] (wHK q ad xx 0) none (wHK q ad (mX1_takeLatest xx) 0) := by
  obtain ⟨R, hR⟩ : ∃ z, (mX1_takeLatest xx) = z := ⟨_, rfl⟩
  rw [hR]
  unfold mX1_takeLatest at hR
  refine muM.of (cc := cX1_takeLatest) (maxL := 3) (ret := none) (by decide) rfl (Nat.le_of_ble_eq_true rfl) ?_
  intro p e s m below meth c ls A hx hb hr hk hml hown hts hP hD hG hA hl
  have hS : va_S A s.heap s.heap [] := va_S.rf
  have hl : lv_has ls 3 [(0, .ref (ad 8 0)), (1, .ref ((ad 0) 0))] := hl
  by_cases ho_1 : (xx 8 0 0) = 0
  · rw [if_pos ho_1] at hR
    by_cases hz_2 : (xx 8 0 1) = 0
    · rw [if_pos hz_2] at hR
      refine lv_aload_n hx hb dX1_takeLatest_0 rfl (lv_at hl 0 rfl) ?_
      refine lv_aload_n hx hb dX1_takeLatest_1 rfl (lv_at hl 0 rfl) ?_
      refine va_get (D := D) (ci := 0) (v := .int 0) (C := RX1) (T := TX1) (N := 3) hx hb hts iX1_takeLatest_X1 hown hG.1 hP 0 rfl rfl 2 (by decide) (hts (.fieldLink RX1 22 "MillComplaints$History" "size" "I") (List.mem_of_getElem? (i := 1) rfl)) (fun _ h9 => h9) (by show some (Value.int (xx 8 0 1)) = _; rw [hz_2]) dX1_takeLatest_2 ?_
      refine lv_iconst (v := 1) hx hb dX1_takeLatest_5 (by decide) ?_
      refine lv_isub hx hb dX1_takeLatest_6 ?_
      refine lv_tope (y := (-1)) (by decide) ?_
      refine ro_V (v := .null) (rest := []) (As := [.int (-1)]) hx hb hml hown hts hl (MX1_stateAt_0_m1 l D q ad xx ho_1) gX1_takeLatest_X1_stateAt rfl kX1_stateAt ⟨Nat.le_of_ble_eq_true rfl, Nat.le_of_ble_eq_true rfl⟩ rfl rfl (hP.sub (ws' := (wHo q ad xx)) [0, 1] rfl) (dT (hD.sub (ws' := (wHo q ad xx)) [0, 1] (by decide) rfl)) hG (ci := 0) rfl rfl rfl rfl (Nat.le_of_ble_eq_true rfl) dX1_takeLatest_7 ⟨Nat.zero_le _, Nat.zero_le _⟩ ?_
      refine lv_astore_nN (lv' := [(2, .null), (0, .ref (ad 8 0)), (1, .ref ((ad 0) 0))]) hx hb dX1_takeLatest_10 rfl hl (by decide) rfl (fun ls hl => ?_)
      refine lv_aload_n hx hb dX1_takeLatest_11 rfl (lv_at hl 1 rfl) ?_
      refine va_get (D := D) (ci := 0) (v := .int 0) (C := RX1) (T := TX1) (N := 3) hx hb hts iX1_takeLatest_X1 hown hG.1 hP 0 rfl rfl 2 (by decide) (hts (.fieldLink RX1 22 "MillComplaints$History" "size" "I") (List.mem_of_getElem? (i := 1) rfl)) (fun _ h9 => h9) (by show some (Value.int (xx 8 0 1)) = _; rw [hz_2]) dX1_takeLatest_12 ?_
      refine lv_if_le (tgt := 37) hx hb dX1_takeLatest_15 (by decide) (fun _ => ?_) (fun c_3 => absurd (by decide) c_3)
      subst hR
      exact mu_vret hx hb hr hk hA hS hP dX1_takeLatest_37
    · rw [if_neg hz_2] at hR
      by_cases hz_4 : (xx 8 0 1) = 1
      · rw [if_pos hz_4] at hR
        refine lv_aload_n hx hb dX1_takeLatest_0 rfl (lv_at hl 0 rfl) ?_
        refine lv_aload_n hx hb dX1_takeLatest_1 rfl (lv_at hl 0 rfl) ?_
        refine va_get (D := D) (ci := 0) (v := .int 1) (C := RX1) (T := TX1) (N := 3) hx hb hts iX1_takeLatest_X1 hown hG.1 hP 0 rfl rfl 2 (by decide) (hts (.fieldLink RX1 22 "MillComplaints$History" "size" "I") (List.mem_of_getElem? (i := 1) rfl)) (fun _ h9 => h9) (by show some (Value.int (xx 8 0 1)) = _; rw [hz_4]) dX1_takeLatest_2 ?_
        refine lv_iconst (v := 1) hx hb dX1_takeLatest_5 (by decide) ?_
        refine lv_isub hx hb dX1_takeLatest_6 ?_
        refine lv_tope (y := 0) (by decide) ?_
        refine ro_V (v := .ref ((ad 3) 0)) (rest := []) (As := [.int 0]) hx hb hml hown hts hl (MX1_stateAt_0_0 l D q ad xx ho_1) gX1_takeLatest_X1_stateAt rfl kX1_stateAt ⟨Nat.le_of_ble_eq_true rfl, Nat.le_of_ble_eq_true rfl⟩ rfl rfl (hP.sub (ws' := (wHo q ad xx)) [0, 1] rfl) (dT (hD.sub (ws' := (wHo q ad xx)) [0, 1] (by decide) rfl)) hG (ci := 0) rfl rfl rfl rfl (Nat.le_of_ble_eq_true rfl) dX1_takeLatest_7 ⟨Nat.zero_le _, Nat.zero_le _⟩ ?_
        refine lv_astore_n (lv' := [(2, .ref ((ad 3) 0)), (0, .ref (ad 8 0)), (1, .ref ((ad 0) 0))]) hx hb dX1_takeLatest_10 rfl hl (by decide) rfl (fun ls hl => ?_)
        refine lv_aload_n hx hb dX1_takeLatest_11 rfl (lv_at hl 1 rfl) ?_
        refine va_get (D := D) (ci := 0) (v := .int 1) (C := RX1) (T := TX1) (N := 3) hx hb hts iX1_takeLatest_X1 hown hG.1 hP 0 rfl rfl 2 (by decide) (hts (.fieldLink RX1 22 "MillComplaints$History" "size" "I") (List.mem_of_getElem? (i := 1) rfl)) (fun _ h9 => h9) (by show some (Value.int (xx 8 0 1)) = _; rw [hz_4]) dX1_takeLatest_12 ?_
        refine lv_if_le (tgt := 37) hx hb dX1_takeLatest_15 (by decide) (fun c_5 => absurd c_5 (by decide)) (fun _ => ?_)
        refine lv_aload_n hx hb dX1_takeLatest_18 rfl (lv_at hl 0 rfl) ?_
        refine lv_ifnull hx hb dX1_takeLatest_19 ?_
        refine lv_aload_n hx hb dX1_takeLatest_22 rfl (lv_at hl 2 rfl) ?_
        refine lv_aload_n hx hb dX1_takeLatest_23 rfl (lv_at hl 0 rfl) ?_
        have hM := MX4_copyFrom' l D q (ad 0) (xx 0) (ad 3) (xx 3)
        refine mu_V (D := D) (ws := (wHK q ad xx 0)) (ws' := (wHK q ad (setV xx 0 (xx 3)) 0)) (rest := []) (As := [.ref ((ad 3) 0)]) hx hb hml hown hts hl hM gX1_takeLatest_X4_copyFrom rfl kX4_copyFrom ⟨Nat.le_of_ble_eq_true rfl, Nat.le_of_ble_eq_true rfl⟩ rfl rfl hP hD hS hG [42, 43, 44, 45, 46, 47, 48, 49, 50, 51, 2, 3, 4, 5, 6, 7, 8, 9, 10, 11] rfl rfl (by decide) [0, 1, 62, 63, 64, 65, 66, 67, 68, 69, 70, 71, 12, 13, 14, 15, 16, 17, 18, 19, 20, 21, 22, 23, 24, 25, 26, 27, 28, 29, 30, 31, 32, 33, 34, 35, 36, 37, 38, 39, 40, 41, 52, 53, 54, 55, 56, 57, 58, 59, 60, 61] rfl (by decide) rfl (ci := 2) rfl rfl rfl rfl (Nat.le_of_ble_eq_true rfl) dX1_takeLatest_24 ⟨Nat.zero_le _, Nat.zero_le _⟩ (fun H locs hP hD hS => ?_)
        obtain ⟨xx_6, exx_6⟩ : ∃ z, z = (setV xx 0 (xx 3)) := ⟨_, rfl⟩
        rw [← exx_6] at hP hD
        replace hR := lt_e hR exx_6
        have ho_7 : (xx_6 8 0 0) = 0 := by rw [exx_6]; exact ho_1
        have ho_8 : (xx_6 8 0 1) = 1 := by rw [exx_6]; exact hz_4
        refine lv_aload_n hx hb dX1_takeLatest_27 rfl (lv_at hl 1 rfl) ?_
        refine lv_dup hx hb dX1_takeLatest_28 rfl ?_
        refine va_get (D := D) (ci := 0) (v := .int 1) (C := RX1) (T := TX1) (N := 3) hx hb hts iX1_takeLatest_X1 hown hG.1 hP 0 rfl rfl 2 (by decide) (hts (.fieldLink RX1 22 "MillComplaints$History" "size" "I") (List.mem_of_getElem? (i := 1) rfl)) (fun _ h9 => h9) (by show some (Value.int (xx_6 8 0 1)) = _; rw [ho_8]) dX1_takeLatest_29 ?_
        refine lv_iconst (v := 1) hx hb dX1_takeLatest_32 (by decide) ?_
        refine lv_isub hx hb dX1_takeLatest_33 ?_
        refine lv_tope (y := 0) (by decide) ?_
        refine va_put (D := D) (ci := 0) (v := .int 0) (ty := .int) (C := RX1) (T := TX1) (N := 3) hx hb hts iX1_takeLatest_X1 tyX1 tyX1_ok nmX1 hown hG.1 hP hD hS 0 rfl rfl 2 (by decide) (hts (.fieldLink RX1 22 "MillComplaints$History" "size" "I") (List.mem_of_getElem? (i := 1) rfl)) (fun _ h9 => h9) rfl (by decide +kernel) rfl rfl (Nat.le_of_ble_eq_true rfl) dX1_takeLatest_34 (fun H locs hP hD hS => ?_)
        have hP : va_P D vwCl (wHK q ad (setV xx_6 8 (setA (xx_6 8) 0 (upd (xx_6 8 0) 1 0))) 0) H := hP
        have hD : va_D A (wHK q ad (setV xx_6 8 (setA (xx_6 8) 0 (upd (xx_6 8 0) 1 0))) 0) := hD
        obtain ⟨xx_9, exx_9⟩ : ∃ z, z = (setV xx_6 8 (setA (xx_6 8) 0 (upd (xx_6 8 0) 1 0))) := ⟨_, rfl⟩
        rw [← exx_9] at hP hD
        replace hR := lt_e hR exx_9
        have ho_10 : (xx_9 8 0 0) = 0 := by rw [exx_9]; exact ho_7
        have ho_11 : (xx_9 8 0 1) = 0 := by rw [exx_9]; rfl
        subst hR
        exact mu_vret hx hb hr hk hA hS hP dX1_takeLatest_37
      · rw [if_neg hz_4] at hR
        by_cases hz_12 : (xx 8 0 1) = 2
        · rw [if_pos hz_12] at hR
          refine lv_aload_n hx hb dX1_takeLatest_0 rfl (lv_at hl 0 rfl) ?_
          refine lv_aload_n hx hb dX1_takeLatest_1 rfl (lv_at hl 0 rfl) ?_
          refine va_get (D := D) (ci := 0) (v := .int 2) (C := RX1) (T := TX1) (N := 3) hx hb hts iX1_takeLatest_X1 hown hG.1 hP 0 rfl rfl 2 (by decide) (hts (.fieldLink RX1 22 "MillComplaints$History" "size" "I") (List.mem_of_getElem? (i := 1) rfl)) (fun _ h9 => h9) (by show some (Value.int (xx 8 0 1)) = _; rw [hz_12]) dX1_takeLatest_2 ?_
          refine lv_iconst (v := 1) hx hb dX1_takeLatest_5 (by decide) ?_
          refine lv_isub hx hb dX1_takeLatest_6 ?_
          refine lv_tope (y := 1) (by decide) ?_
          refine ro_V (v := .ref ((ad 4) 0)) (rest := []) (As := [.int 1]) hx hb hml hown hts hl (MX1_stateAt_0_1 l D q ad xx ho_1) gX1_takeLatest_X1_stateAt rfl kX1_stateAt ⟨Nat.le_of_ble_eq_true rfl, Nat.le_of_ble_eq_true rfl⟩ rfl rfl (hP.sub (ws' := (wHo q ad xx)) [0, 1] rfl) (dT (hD.sub (ws' := (wHo q ad xx)) [0, 1] (by decide) rfl)) hG (ci := 0) rfl rfl rfl rfl (Nat.le_of_ble_eq_true rfl) dX1_takeLatest_7 ⟨Nat.zero_le _, Nat.zero_le _⟩ ?_
          refine lv_astore_n (lv' := [(2, .ref ((ad 4) 0)), (0, .ref (ad 8 0)), (1, .ref ((ad 0) 0))]) hx hb dX1_takeLatest_10 rfl hl (by decide) rfl (fun ls hl => ?_)
          refine lv_aload_n hx hb dX1_takeLatest_11 rfl (lv_at hl 1 rfl) ?_
          refine va_get (D := D) (ci := 0) (v := .int 2) (C := RX1) (T := TX1) (N := 3) hx hb hts iX1_takeLatest_X1 hown hG.1 hP 0 rfl rfl 2 (by decide) (hts (.fieldLink RX1 22 "MillComplaints$History" "size" "I") (List.mem_of_getElem? (i := 1) rfl)) (fun _ h9 => h9) (by show some (Value.int (xx 8 0 1)) = _; rw [hz_12]) dX1_takeLatest_12 ?_
          refine lv_if_le (tgt := 37) hx hb dX1_takeLatest_15 (by decide) (fun c_13 => absurd c_13 (by decide)) (fun _ => ?_)
          refine lv_aload_n hx hb dX1_takeLatest_18 rfl (lv_at hl 0 rfl) ?_
          refine lv_ifnull hx hb dX1_takeLatest_19 ?_
          refine lv_aload_n hx hb dX1_takeLatest_22 rfl (lv_at hl 2 rfl) ?_
          refine lv_aload_n hx hb dX1_takeLatest_23 rfl (lv_at hl 0 rfl) ?_
          have hM := MX4_copyFrom' l D q (ad 0) (xx 0) (ad 4) (xx 4)
          refine mu_V (D := D) (ws := (wHK q ad xx 0)) (ws' := (wHK q ad (setV xx 0 (xx 4)) 0)) (rest := []) (As := [.ref ((ad 4) 0)]) hx hb hml hown hts hl hM gX1_takeLatest_X4_copyFrom rfl kX4_copyFrom ⟨Nat.le_of_ble_eq_true rfl, Nat.le_of_ble_eq_true rfl⟩ rfl rfl hP hD hS hG [42, 43, 44, 45, 46, 47, 48, 49, 50, 51, 12, 13, 14, 15, 16, 17, 18, 19, 20, 21] rfl rfl (by decide) [0, 1, 2, 3, 4, 5, 6, 7, 8, 9, 10, 11, 62, 63, 64, 65, 66, 67, 68, 69, 70, 71, 22, 23, 24, 25, 26, 27, 28, 29, 30, 31, 32, 33, 34, 35, 36, 37, 38, 39, 40, 41, 52, 53, 54, 55, 56, 57, 58, 59, 60, 61] rfl (by decide) rfl (ci := 2) rfl rfl rfl rfl (Nat.le_of_ble_eq_true rfl) dX1_takeLatest_24 ⟨Nat.zero_le _, Nat.zero_le _⟩ (fun H locs hP hD hS => ?_)
          obtain ⟨xx_14, exx_14⟩ : ∃ z, z = (setV xx 0 (xx 4)) := ⟨_, rfl⟩
          rw [← exx_14] at hP hD
          replace hR := lt_e hR exx_14
          have ho_15 : (xx_14 8 0 0) = 0 := by rw [exx_14]; exact ho_1
          have ho_16 : (xx_14 8 0 1) = 2 := by rw [exx_14]; exact hz_12
          refine lv_aload_n hx hb dX1_takeLatest_27 rfl (lv_at hl 1 rfl) ?_
          refine lv_dup hx hb dX1_takeLatest_28 rfl ?_
          refine va_get (D := D) (ci := 0) (v := .int 2) (C := RX1) (T := TX1) (N := 3) hx hb hts iX1_takeLatest_X1 hown hG.1 hP 0 rfl rfl 2 (by decide) (hts (.fieldLink RX1 22 "MillComplaints$History" "size" "I") (List.mem_of_getElem? (i := 1) rfl)) (fun _ h9 => h9) (by show some (Value.int (xx_14 8 0 1)) = _; rw [ho_16]) dX1_takeLatest_29 ?_
          refine lv_iconst (v := 1) hx hb dX1_takeLatest_32 (by decide) ?_
          refine lv_isub hx hb dX1_takeLatest_33 ?_
          refine lv_tope (y := 1) (by decide) ?_
          refine va_put (D := D) (ci := 0) (v := .int 1) (ty := .int) (C := RX1) (T := TX1) (N := 3) hx hb hts iX1_takeLatest_X1 tyX1 tyX1_ok nmX1 hown hG.1 hP hD hS 0 rfl rfl 2 (by decide) (hts (.fieldLink RX1 22 "MillComplaints$History" "size" "I") (List.mem_of_getElem? (i := 1) rfl)) (fun _ h9 => h9) rfl (by decide +kernel) rfl rfl (Nat.le_of_ble_eq_true rfl) dX1_takeLatest_34 (fun H locs hP hD hS => ?_)
          have hP : va_P D vwCl (wHK q ad (setV xx_14 8 (setA (xx_14 8) 0 (upd (xx_14 8 0) 1 1))) 0) H := hP
          have hD : va_D A (wHK q ad (setV xx_14 8 (setA (xx_14 8) 0 (upd (xx_14 8 0) 1 1))) 0) := hD
          obtain ⟨xx_17, exx_17⟩ : ∃ z, z = (setV xx_14 8 (setA (xx_14 8) 0 (upd (xx_14 8 0) 1 1))) := ⟨_, rfl⟩
          rw [← exx_17] at hP hD
          replace hR := lt_e hR exx_17
          have ho_18 : (xx_17 8 0 0) = 0 := by rw [exx_17]; exact ho_15
          have ho_19 : (xx_17 8 0 1) = 1 := by rw [exx_17]; rfl
          subst hR
          exact mu_vret hx hb hr hk hA hS hP dX1_takeLatest_37
        · rw [if_neg hz_12] at hR
          by_cases hz_20 : (xx 8 0 1) = 3
          · rw [if_pos hz_20] at hR
            refine lv_aload_n hx hb dX1_takeLatest_0 rfl (lv_at hl 0 rfl) ?_
            refine lv_aload_n hx hb dX1_takeLatest_1 rfl (lv_at hl 0 rfl) ?_
            refine va_get (D := D) (ci := 0) (v := .int 3) (C := RX1) (T := TX1) (N := 3) hx hb hts iX1_takeLatest_X1 hown hG.1 hP 0 rfl rfl 2 (by decide) (hts (.fieldLink RX1 22 "MillComplaints$History" "size" "I") (List.mem_of_getElem? (i := 1) rfl)) (fun _ h9 => h9) (by show some (Value.int (xx 8 0 1)) = _; rw [hz_20]) dX1_takeLatest_2 ?_
            refine lv_iconst (v := 1) hx hb dX1_takeLatest_5 (by decide) ?_
            refine lv_isub hx hb dX1_takeLatest_6 ?_
            refine lv_tope (y := 2) (by decide) ?_
            refine ro_V (v := .ref ((ad 5) 0)) (rest := []) (As := [.int 2]) hx hb hml hown hts hl (MX1_stateAt_0_2 l D q ad xx ho_1) gX1_takeLatest_X1_stateAt rfl kX1_stateAt ⟨Nat.le_of_ble_eq_true rfl, Nat.le_of_ble_eq_true rfl⟩ rfl rfl (hP.sub (ws' := (wHo q ad xx)) [0, 1] rfl) (dT (hD.sub (ws' := (wHo q ad xx)) [0, 1] (by decide) rfl)) hG (ci := 0) rfl rfl rfl rfl (Nat.le_of_ble_eq_true rfl) dX1_takeLatest_7 ⟨Nat.zero_le _, Nat.zero_le _⟩ ?_
            refine lv_astore_n (lv' := [(2, .ref ((ad 5) 0)), (0, .ref (ad 8 0)), (1, .ref ((ad 0) 0))]) hx hb dX1_takeLatest_10 rfl hl (by decide) rfl (fun ls hl => ?_)
            refine lv_aload_n hx hb dX1_takeLatest_11 rfl (lv_at hl 1 rfl) ?_
            refine va_get (D := D) (ci := 0) (v := .int 3) (C := RX1) (T := TX1) (N := 3) hx hb hts iX1_takeLatest_X1 hown hG.1 hP 0 rfl rfl 2 (by decide) (hts (.fieldLink RX1 22 "MillComplaints$History" "size" "I") (List.mem_of_getElem? (i := 1) rfl)) (fun _ h9 => h9) (by show some (Value.int (xx 8 0 1)) = _; rw [hz_20]) dX1_takeLatest_12 ?_
            refine lv_if_le (tgt := 37) hx hb dX1_takeLatest_15 (by decide) (fun c_21 => absurd c_21 (by decide)) (fun _ => ?_)
            refine lv_aload_n hx hb dX1_takeLatest_18 rfl (lv_at hl 0 rfl) ?_
            refine lv_ifnull hx hb dX1_takeLatest_19 ?_
            refine lv_aload_n hx hb dX1_takeLatest_22 rfl (lv_at hl 2 rfl) ?_
            refine lv_aload_n hx hb dX1_takeLatest_23 rfl (lv_at hl 0 rfl) ?_
            have hM := MX4_copyFrom' l D q (ad 0) (xx 0) (ad 5) (xx 5)
            refine mu_V (D := D) (ws := (wHK q ad xx 0)) (ws' := (wHK q ad (setV xx 0 (xx 5)) 0)) (rest := []) (As := [.ref ((ad 5) 0)]) hx hb hml hown hts hl hM gX1_takeLatest_X4_copyFrom rfl kX4_copyFrom ⟨Nat.le_of_ble_eq_true rfl, Nat.le_of_ble_eq_true rfl⟩ rfl rfl hP hD hS hG [42, 43, 44, 45, 46, 47, 48, 49, 50, 51, 22, 23, 24, 25, 26, 27, 28, 29, 30, 31] rfl rfl (by decide) [0, 1, 2, 3, 4, 5, 6, 7, 8, 9, 10, 11, 12, 13, 14, 15, 16, 17, 18, 19, 20, 21, 62, 63, 64, 65, 66, 67, 68, 69, 70, 71, 32, 33, 34, 35, 36, 37, 38, 39, 40, 41, 52, 53, 54, 55, 56, 57, 58, 59, 60, 61] rfl (by decide) rfl (ci := 2) rfl rfl rfl rfl (Nat.le_of_ble_eq_true rfl) dX1_takeLatest_24 ⟨Nat.zero_le _, Nat.zero_le _⟩ (fun H locs hP hD hS => ?_)
            obtain ⟨xx_22, exx_22⟩ : ∃ z, z = (setV xx 0 (xx 5)) := ⟨_, rfl⟩
            rw [← exx_22] at hP hD
            replace hR := lt_e hR exx_22
            have ho_23 : (xx_22 8 0 0) = 0 := by rw [exx_22]; exact ho_1
            have ho_24 : (xx_22 8 0 1) = 3 := by rw [exx_22]; exact hz_20
            refine lv_aload_n hx hb dX1_takeLatest_27 rfl (lv_at hl 1 rfl) ?_
            refine lv_dup hx hb dX1_takeLatest_28 rfl ?_
            refine va_get (D := D) (ci := 0) (v := .int 3) (C := RX1) (T := TX1) (N := 3) hx hb hts iX1_takeLatest_X1 hown hG.1 hP 0 rfl rfl 2 (by decide) (hts (.fieldLink RX1 22 "MillComplaints$History" "size" "I") (List.mem_of_getElem? (i := 1) rfl)) (fun _ h9 => h9) (by show some (Value.int (xx_22 8 0 1)) = _; rw [ho_24]) dX1_takeLatest_29 ?_
            refine lv_iconst (v := 1) hx hb dX1_takeLatest_32 (by decide) ?_
            refine lv_isub hx hb dX1_takeLatest_33 ?_
            refine lv_tope (y := 2) (by decide) ?_
            refine va_put (D := D) (ci := 0) (v := .int 2) (ty := .int) (C := RX1) (T := TX1) (N := 3) hx hb hts iX1_takeLatest_X1 tyX1 tyX1_ok nmX1 hown hG.1 hP hD hS 0 rfl rfl 2 (by decide) (hts (.fieldLink RX1 22 "MillComplaints$History" "size" "I") (List.mem_of_getElem? (i := 1) rfl)) (fun _ h9 => h9) rfl (by decide +kernel) rfl rfl (Nat.le_of_ble_eq_true rfl) dX1_takeLatest_34 (fun H locs hP hD hS => ?_)
            have hP : va_P D vwCl (wHK q ad (setV xx_22 8 (setA (xx_22 8) 0 (upd (xx_22 8 0) 1 2))) 0) H := hP
            have hD : va_D A (wHK q ad (setV xx_22 8 (setA (xx_22 8) 0 (upd (xx_22 8 0) 1 2))) 0) := hD
            obtain ⟨xx_25, exx_25⟩ : ∃ z, z = (setV xx_22 8 (setA (xx_22 8) 0 (upd (xx_22 8 0) 1 2))) := ⟨_, rfl⟩
            rw [← exx_25] at hP hD
            replace hR := lt_e hR exx_25
            have ho_26 : (xx_25 8 0 0) = 0 := by rw [exx_25]; exact ho_23
            have ho_27 : (xx_25 8 0 1) = 2 := by rw [exx_25]; rfl
            subst hR
            exact mu_vret hx hb hr hk hA hS hP dX1_takeLatest_37
          · rw [if_neg hz_20] at hR
            by_cases hz_28 : (xx 8 0 1) = 4
            · rw [if_pos hz_28] at hR
              refine lv_aload_n hx hb dX1_takeLatest_0 rfl (lv_at hl 0 rfl) ?_
              refine lv_aload_n hx hb dX1_takeLatest_1 rfl (lv_at hl 0 rfl) ?_
              refine va_get (D := D) (ci := 0) (v := .int 4) (C := RX1) (T := TX1) (N := 3) hx hb hts iX1_takeLatest_X1 hown hG.1 hP 0 rfl rfl 2 (by decide) (hts (.fieldLink RX1 22 "MillComplaints$History" "size" "I") (List.mem_of_getElem? (i := 1) rfl)) (fun _ h9 => h9) (by show some (Value.int (xx 8 0 1)) = _; rw [hz_28]) dX1_takeLatest_2 ?_
              refine lv_iconst (v := 1) hx hb dX1_takeLatest_5 (by decide) ?_
              refine lv_isub hx hb dX1_takeLatest_6 ?_
              refine lv_tope (y := 3) (by decide) ?_
              refine ro_V (v := .ref ((ad 6) 0)) (rest := []) (As := [.int 3]) hx hb hml hown hts hl (MX1_stateAt_0_3 l D q ad xx ho_1) gX1_takeLatest_X1_stateAt rfl kX1_stateAt ⟨Nat.le_of_ble_eq_true rfl, Nat.le_of_ble_eq_true rfl⟩ rfl rfl (hP.sub (ws' := (wHo q ad xx)) [0, 1] rfl) (dT (hD.sub (ws' := (wHo q ad xx)) [0, 1] (by decide) rfl)) hG (ci := 0) rfl rfl rfl rfl (Nat.le_of_ble_eq_true rfl) dX1_takeLatest_7 ⟨Nat.zero_le _, Nat.zero_le _⟩ ?_
              refine lv_astore_n (lv' := [(2, .ref ((ad 6) 0)), (0, .ref (ad 8 0)), (1, .ref ((ad 0) 0))]) hx hb dX1_takeLatest_10 rfl hl (by decide) rfl (fun ls hl => ?_)
              refine lv_aload_n hx hb dX1_takeLatest_11 rfl (lv_at hl 1 rfl) ?_
              refine va_get (D := D) (ci := 0) (v := .int 4) (C := RX1) (T := TX1) (N := 3) hx hb hts iX1_takeLatest_X1 hown hG.1 hP 0 rfl rfl 2 (by decide) (hts (.fieldLink RX1 22 "MillComplaints$History" "size" "I") (List.mem_of_getElem? (i := 1) rfl)) (fun _ h9 => h9) (by show some (Value.int (xx 8 0 1)) = _; rw [hz_28]) dX1_takeLatest_12 ?_
              refine lv_if_le (tgt := 37) hx hb dX1_takeLatest_15 (by decide) (fun c_29 => absurd c_29 (by decide)) (fun _ => ?_)
              refine lv_aload_n hx hb dX1_takeLatest_18 rfl (lv_at hl 0 rfl) ?_
              refine lv_ifnull hx hb dX1_takeLatest_19 ?_
              refine lv_aload_n hx hb dX1_takeLatest_22 rfl (lv_at hl 2 rfl) ?_
              refine lv_aload_n hx hb dX1_takeLatest_23 rfl (lv_at hl 0 rfl) ?_
              have hM := MX4_copyFrom' l D q (ad 0) (xx 0) (ad 6) (xx 6)
              refine mu_V (D := D) (ws := (wHK q ad xx 0)) (ws' := (wHK q ad (setV xx 0 (xx 6)) 0)) (rest := []) (As := [.ref ((ad 6) 0)]) hx hb hml hown hts hl hM gX1_takeLatest_X4_copyFrom rfl kX4_copyFrom ⟨Nat.le_of_ble_eq_true rfl, Nat.le_of_ble_eq_true rfl⟩ rfl rfl hP hD hS hG [42, 43, 44, 45, 46, 47, 48, 49, 50, 51, 32, 33, 34, 35, 36, 37, 38, 39, 40, 41] rfl rfl (by decide) [0, 1, 2, 3, 4, 5, 6, 7, 8, 9, 10, 11, 12, 13, 14, 15, 16, 17, 18, 19, 20, 21, 22, 23, 24, 25, 26, 27, 28, 29, 30, 31, 62, 63, 64, 65, 66, 67, 68, 69, 70, 71, 52, 53, 54, 55, 56, 57, 58, 59, 60, 61] rfl (by decide) rfl (ci := 2) rfl rfl rfl rfl (Nat.le_of_ble_eq_true rfl) dX1_takeLatest_24 ⟨Nat.zero_le _, Nat.zero_le _⟩ (fun H locs hP hD hS => ?_)
              obtain ⟨xx_30, exx_30⟩ : ∃ z, z = (setV xx 0 (xx 6)) := ⟨_, rfl⟩
              rw [← exx_30] at hP hD
              replace hR := lt_e hR exx_30
              have ho_31 : (xx_30 8 0 0) = 0 := by rw [exx_30]; exact ho_1
              have ho_32 : (xx_30 8 0 1) = 4 := by rw [exx_30]; exact hz_28
              refine lv_aload_n hx hb dX1_takeLatest_27 rfl (lv_at hl 1 rfl) ?_
              refine lv_dup hx hb dX1_takeLatest_28 rfl ?_
              refine va_get (D := D) (ci := 0) (v := .int 4) (C := RX1) (T := TX1) (N := 3) hx hb hts iX1_takeLatest_X1 hown hG.1 hP 0 rfl rfl 2 (by decide) (hts (.fieldLink RX1 22 "MillComplaints$History" "size" "I") (List.mem_of_getElem? (i := 1) rfl)) (fun _ h9 => h9) (by show some (Value.int (xx_30 8 0 1)) = _; rw [ho_32]) dX1_takeLatest_29 ?_
              refine lv_iconst (v := 1) hx hb dX1_takeLatest_32 (by decide) ?_
              refine lv_isub hx hb dX1_takeLatest_33 ?_
              refine lv_tope (y := 3) (by decide) ?_
              refine va_put (D := D) (ci := 0) (v := .int 3) (ty := .int) (C := RX1) (T := TX1) (N := 3) hx hb hts iX1_takeLatest_X1 tyX1 tyX1_ok nmX1 hown hG.1 hP hD hS 0 rfl rfl 2 (by decide) (hts (.fieldLink RX1 22 "MillComplaints$History" "size" "I") (List.mem_of_getElem? (i := 1) rfl)) (fun _ h9 => h9) rfl (by decide +kernel) rfl rfl (Nat.le_of_ble_eq_true rfl) dX1_takeLatest_34 (fun H locs hP hD hS => ?_)
              have hP : va_P D vwCl (wHK q ad (setV xx_30 8 (setA (xx_30 8) 0 (upd (xx_30 8 0) 1 3))) 0) H := hP
              have hD : va_D A (wHK q ad (setV xx_30 8 (setA (xx_30 8) 0 (upd (xx_30 8 0) 1 3))) 0) := hD
              obtain ⟨xx_33, exx_33⟩ : ∃ z, z = (setV xx_30 8 (setA (xx_30 8) 0 (upd (xx_30 8 0) 1 3))) := ⟨_, rfl⟩
              rw [← exx_33] at hP hD
              replace hR := lt_e hR exx_33
              have ho_34 : (xx_33 8 0 0) = 0 := by rw [exx_33]; exact ho_31
              have ho_35 : (xx_33 8 0 1) = 3 := by rw [exx_33]; rfl
              subst hR
              exact mu_vret hx hb hr hk hA hS hP dX1_takeLatest_37
            · rw [if_neg hz_28] at hR
              exact (rg_z hrg hz_2 hz_4 hz_12 hz_20 hz_28).elim
  · rw [if_neg ho_1] at hR
    by_cases ho_36 : (xx 8 0 0) = 1
    · rw [if_pos ho_36] at hR
      by_cases hz_37 : (xx 8 0 1) = 0
      · rw [if_pos hz_37] at hR
        refine lv_aload_n hx hb dX1_takeLatest_0 rfl (lv_at hl 0 rfl) ?_
        refine lv_aload_n hx hb dX1_takeLatest_1 rfl (lv_at hl 0 rfl) ?_
        refine va_get (D := D) (ci := 0) (v := .int 0) (C := RX1) (T := TX1) (N := 3) hx hb hts iX1_takeLatest_X1 hown hG.1 hP 0 rfl rfl 2 (by decide) (hts (.fieldLink RX1 22 "MillComplaints$History" "size" "I") (List.mem_of_getElem? (i := 1) rfl)) (fun _ h9 => h9) (by show some (Value.int (xx 8 0 1)) = _; rw [hz_37]) dX1_takeLatest_2 ?_
        refine lv_iconst (v := 1) hx hb dX1_takeLatest_5 (by decide) ?_
        refine lv_isub hx hb dX1_takeLatest_6 ?_
        refine lv_tope (y := (-1)) (by decide) ?_
        refine ro_V (v := .ref ((ad 3) 0)) (rest := []) (As := [.int (-1)]) hx hb hml hown hts hl (MX1_stateAt_1_m1 l D q ad xx ho_36) gX1_takeLatest_X1_stateAt rfl kX1_stateAt ⟨Nat.le_of_ble_eq_true rfl, Nat.le_of_ble_eq_true rfl⟩ rfl rfl (hP.sub (ws' := (wHo q ad xx)) [0, 1] rfl) (dT (hD.sub (ws' := (wHo q ad xx)) [0, 1] (by decide) rfl)) hG (ci := 0) rfl rfl rfl rfl (Nat.le_of_ble_eq_true rfl) dX1_takeLatest_7 ⟨Nat.zero_le _, Nat.zero_le _⟩ ?_
        refine lv_astore_n (lv' := [(2, .ref ((ad 3) 0)), (0, .ref (ad 8 0)), (1, .ref ((ad 0) 0))]) hx hb dX1_takeLatest_10 rfl hl (by decide) rfl (fun ls hl => ?_)
        refine lv_aload_n hx hb dX1_takeLatest_11 rfl (lv_at hl 1 rfl) ?_
        refine va_get (D := D) (ci := 0) (v := .int 0) (C := RX1) (T := TX1) (N := 3) hx hb hts iX1_takeLatest_X1 hown hG.1 hP 0 rfl rfl 2 (by decide) (hts (.fieldLink RX1 22 "MillComplaints$History" "size" "I") (List.mem_of_getElem? (i := 1) rfl)) (fun _ h9 => h9) (by show some (Value.int (xx 8 0 1)) = _; rw [hz_37]) dX1_takeLatest_12 ?_
        refine lv_if_le (tgt := 37) hx hb dX1_takeLatest_15 (by decide) (fun _ => ?_) (fun c_38 => absurd (by decide) c_38)
        subst hR
        exact mu_vret hx hb hr hk hA hS hP dX1_takeLatest_37
      · rw [if_neg hz_37] at hR
        by_cases hz_39 : (xx 8 0 1) = 1
        · rw [if_pos hz_39] at hR
          refine lv_aload_n hx hb dX1_takeLatest_0 rfl (lv_at hl 0 rfl) ?_
          refine lv_aload_n hx hb dX1_takeLatest_1 rfl (lv_at hl 0 rfl) ?_
          refine va_get (D := D) (ci := 0) (v := .int 1) (C := RX1) (T := TX1) (N := 3) hx hb hts iX1_takeLatest_X1 hown hG.1 hP 0 rfl rfl 2 (by decide) (hts (.fieldLink RX1 22 "MillComplaints$History" "size" "I") (List.mem_of_getElem? (i := 1) rfl)) (fun _ h9 => h9) (by show some (Value.int (xx 8 0 1)) = _; rw [hz_39]) dX1_takeLatest_2 ?_
          refine lv_iconst (v := 1) hx hb dX1_takeLatest_5 (by decide) ?_
          refine lv_isub hx hb dX1_takeLatest_6 ?_
          refine lv_tope (y := 0) (by decide) ?_
          refine ro_V (v := .ref ((ad 4) 0)) (rest := []) (As := [.int 0]) hx hb hml hown hts hl (MX1_stateAt_1_0 l D q ad xx ho_36) gX1_takeLatest_X1_stateAt rfl kX1_stateAt ⟨Nat.le_of_ble_eq_true rfl, Nat.le_of_ble_eq_true rfl⟩ rfl rfl (hP.sub (ws' := (wHo q ad xx)) [0, 1] rfl) (dT (hD.sub (ws' := (wHo q ad xx)) [0, 1] (by decide) rfl)) hG (ci := 0) rfl rfl rfl rfl (Nat.le_of_ble_eq_true rfl) dX1_takeLatest_7 ⟨Nat.zero_le _, Nat.zero_le _⟩ ?_
          refine lv_astore_n (lv' := [(2, .ref ((ad 4) 0)), (0, .ref (ad 8 0)), (1, .ref ((ad 0) 0))]) hx hb dX1_takeLatest_10 rfl hl (by decide) rfl (fun ls hl => ?_)
          refine lv_aload_n hx hb dX1_takeLatest_11 rfl (lv_at hl 1 rfl) ?_
          refine va_get (D := D) (ci := 0) (v := .int 1) (C := RX1) (T := TX1) (N := 3) hx hb hts iX1_takeLatest_X1 hown hG.1 hP 0 rfl rfl 2 (by decide) (hts (.fieldLink RX1 22 "MillComplaints$History" "size" "I") (List.mem_of_getElem? (i := 1) rfl)) (fun _ h9 => h9) (by show some (Value.int (xx 8 0 1)) = _; rw [hz_39]) dX1_takeLatest_12 ?_
          refine lv_if_le (tgt := 37) hx hb dX1_takeLatest_15 (by decide) (fun c_40 => absurd c_40 (by decide)) (fun _ => ?_)
          refine lv_aload_n hx hb dX1_takeLatest_18 rfl (lv_at hl 0 rfl) ?_
          refine lv_ifnull hx hb dX1_takeLatest_19 ?_
          refine lv_aload_n hx hb dX1_takeLatest_22 rfl (lv_at hl 2 rfl) ?_
          refine lv_aload_n hx hb dX1_takeLatest_23 rfl (lv_at hl 0 rfl) ?_
          have hM := MX4_copyFrom' l D q (ad 0) (xx 0) (ad 4) (xx 4)
          refine mu_V (D := D) (ws := (wHK q ad xx 0)) (ws' := (wHK q ad (setV xx 0 (xx 4)) 0)) (rest := []) (As := [.ref ((ad 4) 0)]) hx hb hml hown hts hl hM gX1_takeLatest_X4_copyFrom rfl kX4_copyFrom ⟨Nat.le_of_ble_eq_true rfl, Nat.le_of_ble_eq_true rfl⟩ rfl rfl hP hD hS hG [42, 43, 44, 45, 46, 47, 48, 49, 50, 51, 12, 13, 14, 15, 16, 17, 18, 19, 20, 21] rfl rfl (by decide) [0, 1, 2, 3, 4, 5, 6, 7, 8, 9, 10, 11, 62, 63, 64, 65, 66, 67, 68, 69, 70, 71, 22, 23, 24, 25, 26, 27, 28, 29, 30, 31, 32, 33, 34, 35, 36, 37, 38, 39, 40, 41, 52, 53, 54, 55, 56, 57, 58, 59, 60, 61] rfl (by decide) rfl (ci := 2) rfl rfl rfl rfl (Nat.le_of_ble_eq_true rfl) dX1_takeLatest_24 ⟨Nat.zero_le _, Nat.zero_le _⟩ (fun H locs hP hD hS => ?_)
          obtain ⟨xx_41, exx_41⟩ : ∃ z, z = (setV xx 0 (xx 4)) := ⟨_, rfl⟩
          rw [← exx_41] at hP hD
          replace hR := lt_e hR exx_41
          have ho_42 : (xx_41 8 0 0) = 1 := by rw [exx_41]; exact ho_36
          have ho_43 : (xx_41 8 0 1) = 1 := by rw [exx_41]; exact hz_39
          refine lv_aload_n hx hb dX1_takeLatest_27 rfl (lv_at hl 1 rfl) ?_
          refine lv_dup hx hb dX1_takeLatest_28 rfl ?_
          refine va_get (D := D) (ci := 0) (v := .int 1) (C := RX1) (T := TX1) (N := 3) hx hb hts iX1_takeLatest_X1 hown hG.1 hP 0 rfl rfl 2 (by decide) (hts (.fieldLink RX1 22 "MillComplaints$History" "size" "I") (List.mem_of_getElem? (i := 1) rfl)) (fun _ h9 => h9) (by show some (Value.int (xx_41 8 0 1)) = _; rw [ho_43]) dX1_takeLatest_29 ?_
          refine lv_iconst (v := 1) hx hb dX1_takeLatest_32 (by decide) ?_
          refine lv_isub hx hb dX1_takeLatest_33 ?_
          refine lv_tope (y := 0) (by decide) ?_
          refine va_put (D := D) (ci := 0) (v := .int 0) (ty := .int) (C := RX1) (T := TX1) (N := 3) hx hb hts iX1_takeLatest_X1 tyX1 tyX1_ok nmX1 hown hG.1 hP hD hS 0 rfl rfl 2 (by decide) (hts (.fieldLink RX1 22 "MillComplaints$History" "size" "I") (List.mem_of_getElem? (i := 1) rfl)) (fun _ h9 => h9) rfl (by decide +kernel) rfl rfl (Nat.le_of_ble_eq_true rfl) dX1_takeLatest_34 (fun H locs hP hD hS => ?_)
          have hP : va_P D vwCl (wHK q ad (setV xx_41 8 (setA (xx_41 8) 0 (upd (xx_41 8 0) 1 0))) 0) H := hP
          have hD : va_D A (wHK q ad (setV xx_41 8 (setA (xx_41 8) 0 (upd (xx_41 8 0) 1 0))) 0) := hD
          obtain ⟨xx_44, exx_44⟩ : ∃ z, z = (setV xx_41 8 (setA (xx_41 8) 0 (upd (xx_41 8 0) 1 0))) := ⟨_, rfl⟩
          rw [← exx_44] at hP hD
          replace hR := lt_e hR exx_44
          have ho_45 : (xx_44 8 0 0) = 1 := by rw [exx_44]; exact ho_42
          have ho_46 : (xx_44 8 0 1) = 0 := by rw [exx_44]; rfl
          subst hR
          exact mu_vret hx hb hr hk hA hS hP dX1_takeLatest_37
        · rw [if_neg hz_39] at hR
          by_cases hz_47 : (xx 8 0 1) = 2
          · rw [if_pos hz_47] at hR
            refine lv_aload_n hx hb dX1_takeLatest_0 rfl (lv_at hl 0 rfl) ?_
            refine lv_aload_n hx hb dX1_takeLatest_1 rfl (lv_at hl 0 rfl) ?_
            refine va_get (D := D) (ci := 0) (v := .int 2) (C := RX1) (T := TX1) (N := 3) hx hb hts iX1_takeLatest_X1 hown hG.1 hP 0 rfl rfl 2 (by decide) (hts (.fieldLink RX1 22 "MillComplaints$History" "size" "I") (List.mem_of_getElem? (i := 1) rfl)) (fun _ h9 => h9) (by show some (Value.int (xx 8 0 1)) = _; rw [hz_47]) dX1_takeLatest_2 ?_
            refine lv_iconst (v := 1) hx hb dX1_takeLatest_5 (by decide) ?_
            refine lv_isub hx hb dX1_takeLatest_6 ?_
            refine lv_tope (y := 1) (by decide) ?_
            refine ro_V (v := .ref ((ad 5) 0)) (rest := []) (As := [.int 1]) hx hb hml hown hts hl (MX1_stateAt_1_1 l D q ad xx ho_36) gX1_takeLatest_X1_stateAt rfl kX1_stateAt ⟨Nat.le_of_ble_eq_true rfl, Nat.le_of_ble_eq_true rfl⟩ rfl rfl (hP.sub (ws' := (wHo q ad xx)) [0, 1] rfl) (dT (hD.sub (ws' := (wHo q ad xx)) [0, 1] (by decide) rfl)) hG (ci := 0) rfl rfl rfl rfl (Nat.le_of_ble_eq_true rfl) dX1_takeLatest_7 ⟨Nat.zero_le _, Nat.zero_le _⟩ ?_
            refine lv_astore_n (lv' := [(2, .ref ((ad 5) 0)), (0, .ref (ad 8 0)), (1, .ref ((ad 0) 0))]) hx hb dX1_takeLatest_10 rfl hl (by decide) rfl (fun ls hl => ?_)
            refine lv_aload_n hx hb dX1_takeLatest_11 rfl (lv_at hl 1 rfl) ?_
            refine va_get (D := D) (ci := 0) (v := .int 2) (C := RX1) (T := TX1) (N := 3) hx hb hts iX1_takeLatest_X1 hown hG.1 hP 0 rfl rfl 2 (by decide) (hts (.fieldLink RX1 22 "MillComplaints$History" "size" "I") (List.mem_of_getElem? (i := 1) rfl)) (fun _ h9 => h9) (by show some (Value.int (xx 8 0 1)) = _; rw [hz_47]) dX1_takeLatest_12 ?_
            refine lv_if_le (tgt := 37) hx hb dX1_takeLatest_15 (by decide) (fun c_48 => absurd c_48 (by decide)) (fun _ => ?_)
            refine lv_aload_n hx hb dX1_takeLatest_18 rfl (lv_at hl 0 rfl) ?_
            refine lv_ifnull hx hb dX1_takeLatest_19 ?_
            refine lv_aload_n hx hb dX1_takeLatest_22 rfl (lv_at hl 2 rfl) ?_
            refine lv_aload_n hx hb dX1_takeLatest_23 rfl (lv_at hl 0 rfl) ?_
            have hM := MX4_copyFrom' l D q (ad 0) (xx 0) (ad 5) (xx 5)
            refine mu_V (D := D) (ws := (wHK q ad xx 0)) (ws' := (wHK q ad (setV xx 0 (xx 5)) 0)) (rest := []) (As := [.ref ((ad 5) 0)]) hx hb hml hown hts hl hM gX1_takeLatest_X4_copyFrom rfl kX4_copyFrom ⟨Nat.le_of_ble_eq_true rfl, Nat.le_of_ble_eq_true rfl⟩ rfl rfl hP hD hS hG [42, 43, 44, 45, 46, 47, 48, 49, 50, 51, 22, 23, 24, 25, 26, 27, 28, 29, 30, 31] rfl rfl (by decide) [0, 1, 2, 3, 4, 5, 6, 7, 8, 9, 10, 11, 12, 13, 14, 15, 16, 17, 18, 19, 20, 21, 62, 63, 64, 65, 66, 67, 68, 69, 70, 71, 32, 33, 34, 35, 36, 37, 38, 39, 40, 41, 52, 53, 54, 55, 56, 57, 58, 59, 60, 61] rfl (by decide) rfl (ci := 2) rfl rfl rfl rfl (Nat.le_of_ble_eq_true rfl) dX1_takeLatest_24 ⟨Nat.zero_le _, Nat.zero_le _⟩ (fun H locs hP hD hS => ?_)
            obtain ⟨xx_49, exx_49⟩ : ∃ z, z = (setV xx 0 (xx 5)) := ⟨_, rfl⟩
            rw [← exx_49] at hP hD
            replace hR := lt_e hR exx_49
            have ho_50 : (xx_49 8 0 0) = 1 := by rw [exx_49]; exact ho_36
            have ho_51 : (xx_49 8 0 1) = 2 := by rw [exx_49]; exact hz_47
            refine lv_aload_n hx hb dX1_takeLatest_27 rfl (lv_at hl 1 rfl) ?_
            refine lv_dup hx hb dX1_takeLatest_28 rfl ?_
            refine va_get (D := D) (ci := 0) (v := .int 2) (C := RX1) (T := TX1) (N := 3) hx hb hts iX1_takeLatest_X1 hown hG.1 hP 0 rfl rfl 2 (by decide) (hts (.fieldLink RX1 22 "MillComplaints$History" "size" "I") (List.mem_of_getElem? (i := 1) rfl)) (fun _ h9 => h9) (by show some (Value.int (xx_49 8 0 1)) = _; rw [ho_51]) dX1_takeLatest_29 ?_
            refine lv_iconst (v := 1) hx hb dX1_takeLatest_32 (by decide) ?_
            refine lv_isub hx hb dX1_takeLatest_33 ?_
            refine lv_tope (y := 1) (by decide) ?_
            refine va_put (D := D) (ci := 0) (v := .int 1) (ty := .int) (C := RX1) (T := TX1) (N := 3) hx hb hts iX1_takeLatest_X1 tyX1 tyX1_ok nmX1 hown hG.1 hP hD hS 0 rfl rfl 2 (by decide) (hts (.fieldLink RX1 22 "MillComplaints$History" "size" "I") (List.mem_of_getElem? (i := 1) rfl)) (fun _ h9 => h9) rfl (by decide +kernel) rfl rfl (Nat.le_of_ble_eq_true rfl) dX1_takeLatest_34 (fun H locs hP hD hS => ?_)
            have hP : va_P D vwCl (wHK q ad (setV xx_49 8 (setA (xx_49 8) 0 (upd (xx_49 8 0) 1 1))) 0) H := hP
            have hD : va_D A (wHK q ad (setV xx_49 8 (setA (xx_49 8) 0 (upd (xx_49 8 0) 1 1))) 0) := hD
            obtain ⟨xx_52, exx_52⟩ : ∃ z, z = (setV xx_49 8 (setA (xx_49 8) 0 (upd (xx_49 8 0) 1 1))) := ⟨_, rfl⟩
            rw [← exx_52] at hP hD
            replace hR := lt_e hR exx_52
            have ho_53 : (xx_52 8 0 0) = 1 := by rw [exx_52]; exact ho_50
            have ho_54 : (xx_52 8 0 1) = 1 := by rw [exx_52]; rfl
            subst hR
            exact mu_vret hx hb hr hk hA hS hP dX1_takeLatest_37
          · rw [if_neg hz_47] at hR
            by_cases hz_55 : (xx 8 0 1) = 3
            · rw [if_pos hz_55] at hR
              refine lv_aload_n hx hb dX1_takeLatest_0 rfl (lv_at hl 0 rfl) ?_
              refine lv_aload_n hx hb dX1_takeLatest_1 rfl (lv_at hl 0 rfl) ?_
              refine va_get (D := D) (ci := 0) (v := .int 3) (C := RX1) (T := TX1) (N := 3) hx hb hts iX1_takeLatest_X1 hown hG.1 hP 0 rfl rfl 2 (by decide) (hts (.fieldLink RX1 22 "MillComplaints$History" "size" "I") (List.mem_of_getElem? (i := 1) rfl)) (fun _ h9 => h9) (by show some (Value.int (xx 8 0 1)) = _; rw [hz_55]) dX1_takeLatest_2 ?_
              refine lv_iconst (v := 1) hx hb dX1_takeLatest_5 (by decide) ?_
              refine lv_isub hx hb dX1_takeLatest_6 ?_
              refine lv_tope (y := 2) (by decide) ?_
              refine ro_V (v := .ref ((ad 6) 0)) (rest := []) (As := [.int 2]) hx hb hml hown hts hl (MX1_stateAt_1_2 l D q ad xx ho_36) gX1_takeLatest_X1_stateAt rfl kX1_stateAt ⟨Nat.le_of_ble_eq_true rfl, Nat.le_of_ble_eq_true rfl⟩ rfl rfl (hP.sub (ws' := (wHo q ad xx)) [0, 1] rfl) (dT (hD.sub (ws' := (wHo q ad xx)) [0, 1] (by decide) rfl)) hG (ci := 0) rfl rfl rfl rfl (Nat.le_of_ble_eq_true rfl) dX1_takeLatest_7 ⟨Nat.zero_le _, Nat.zero_le _⟩ ?_
              refine lv_astore_n (lv' := [(2, .ref ((ad 6) 0)), (0, .ref (ad 8 0)), (1, .ref ((ad 0) 0))]) hx hb dX1_takeLatest_10 rfl hl (by decide) rfl (fun ls hl => ?_)
              refine lv_aload_n hx hb dX1_takeLatest_11 rfl (lv_at hl 1 rfl) ?_
              refine va_get (D := D) (ci := 0) (v := .int 3) (C := RX1) (T := TX1) (N := 3) hx hb hts iX1_takeLatest_X1 hown hG.1 hP 0 rfl rfl 2 (by decide) (hts (.fieldLink RX1 22 "MillComplaints$History" "size" "I") (List.mem_of_getElem? (i := 1) rfl)) (fun _ h9 => h9) (by show some (Value.int (xx 8 0 1)) = _; rw [hz_55]) dX1_takeLatest_12 ?_
              refine lv_if_le (tgt := 37) hx hb dX1_takeLatest_15 (by decide) (fun c_56 => absurd c_56 (by decide)) (fun _ => ?_)
              refine lv_aload_n hx hb dX1_takeLatest_18 rfl (lv_at hl 0 rfl) ?_
              refine lv_ifnull hx hb dX1_takeLatest_19 ?_
              refine lv_aload_n hx hb dX1_takeLatest_22 rfl (lv_at hl 2 rfl) ?_
              refine lv_aload_n hx hb dX1_takeLatest_23 rfl (lv_at hl 0 rfl) ?_
              have hM := MX4_copyFrom' l D q (ad 0) (xx 0) (ad 6) (xx 6)
              refine mu_V (D := D) (ws := (wHK q ad xx 0)) (ws' := (wHK q ad (setV xx 0 (xx 6)) 0)) (rest := []) (As := [.ref ((ad 6) 0)]) hx hb hml hown hts hl hM gX1_takeLatest_X4_copyFrom rfl kX4_copyFrom ⟨Nat.le_of_ble_eq_true rfl, Nat.le_of_ble_eq_true rfl⟩ rfl rfl hP hD hS hG [42, 43, 44, 45, 46, 47, 48, 49, 50, 51, 32, 33, 34, 35, 36, 37, 38, 39, 40, 41] rfl rfl (by decide) [0, 1, 2, 3, 4, 5, 6, 7, 8, 9, 10, 11, 12, 13, 14, 15, 16, 17, 18, 19, 20, 21, 22, 23, 24, 25, 26, 27, 28, 29, 30, 31, 62, 63, 64, 65, 66, 67, 68, 69, 70, 71, 52, 53, 54, 55, 56, 57, 58, 59, 60, 61] rfl (by decide) rfl (ci := 2) rfl rfl rfl rfl (Nat.le_of_ble_eq_true rfl) dX1_takeLatest_24 ⟨Nat.zero_le _, Nat.zero_le _⟩ (fun H locs hP hD hS => ?_)
              obtain ⟨xx_57, exx_57⟩ : ∃ z, z = (setV xx 0 (xx 6)) := ⟨_, rfl⟩
              rw [← exx_57] at hP hD
              replace hR := lt_e hR exx_57
              have ho_58 : (xx_57 8 0 0) = 1 := by rw [exx_57]; exact ho_36
              have ho_59 : (xx_57 8 0 1) = 3 := by rw [exx_57]; exact hz_55
              refine lv_aload_n hx hb dX1_takeLatest_27 rfl (lv_at hl 1 rfl) ?_
              refine lv_dup hx hb dX1_takeLatest_28 rfl ?_
              refine va_get (D := D) (ci := 0) (v := .int 3) (C := RX1) (T := TX1) (N := 3) hx hb hts iX1_takeLatest_X1 hown hG.1 hP 0 rfl rfl 2 (by decide) (hts (.fieldLink RX1 22 "MillComplaints$History" "size" "I") (List.mem_of_getElem? (i := 1) rfl)) (fun _ h9 => h9) (by show some (Value.int (xx_57 8 0 1)) = _; rw [ho_59]) dX1_takeLatest_29 ?_
              refine lv_iconst (v := 1) hx hb dX1_takeLatest_32 (by decide) ?_
              refine lv_isub hx hb dX1_takeLatest_33 ?_
              refine lv_tope (y := 2) (by decide) ?_
              refine va_put (D := D) (ci := 0) (v := .int 2) (ty := .int) (C := RX1) (T := TX1) (N := 3) hx hb hts iX1_takeLatest_X1 tyX1 tyX1_ok nmX1 hown hG.1 hP hD hS 0 rfl rfl 2 (by decide) (hts (.fieldLink RX1 22 "MillComplaints$History" "size" "I") (List.mem_of_getElem? (i := 1) rfl)) (fun _ h9 => h9) rfl (by decide +kernel) rfl rfl (Nat.le_of_ble_eq_true rfl) dX1_takeLatest_34 (fun H locs hP hD hS => ?_)
              have hP : va_P D vwCl (wHK q ad (setV xx_57 8 (setA (xx_57 8) 0 (upd (xx_57 8 0) 1 2))) 0) H := hP
              have hD : va_D A (wHK q ad (setV xx_57 8 (setA (xx_57 8) 0 (upd (xx_57 8 0) 1 2))) 0) := hD
              obtain ⟨xx_60, exx_60⟩ : ∃ z, z = (setV xx_57 8 (setA (xx_57 8) 0 (upd (xx_57 8 0) 1 2))) := ⟨_, rfl⟩
              rw [← exx_60] at hP hD
              replace hR := lt_e hR exx_60
              have ho_61 : (xx_60 8 0 0) = 1 := by rw [exx_60]; exact ho_58
              have ho_62 : (xx_60 8 0 1) = 2 := by rw [exx_60]; rfl
              subst hR
              exact mu_vret hx hb hr hk hA hS hP dX1_takeLatest_37
            · rw [if_neg hz_55] at hR
              by_cases hz_63 : (xx 8 0 1) = 4
              · rw [if_pos hz_63] at hR
                refine lv_aload_n hx hb dX1_takeLatest_0 rfl (lv_at hl 0 rfl) ?_
                refine lv_aload_n hx hb dX1_takeLatest_1 rfl (lv_at hl 0 rfl) ?_
                refine va_get (D := D) (ci := 0) (v := .int 4) (C := RX1) (T := TX1) (N := 3) hx hb hts iX1_takeLatest_X1 hown hG.1 hP 0 rfl rfl 2 (by decide) (hts (.fieldLink RX1 22 "MillComplaints$History" "size" "I") (List.mem_of_getElem? (i := 1) rfl)) (fun _ h9 => h9) (by show some (Value.int (xx 8 0 1)) = _; rw [hz_63]) dX1_takeLatest_2 ?_
                refine lv_iconst (v := 1) hx hb dX1_takeLatest_5 (by decide) ?_
                refine lv_isub hx hb dX1_takeLatest_6 ?_
                refine lv_tope (y := 3) (by decide) ?_
                refine ro_V (v := .ref ((ad 3) 0)) (rest := []) (As := [.int 3]) hx hb hml hown hts hl (MX1_stateAt_1_3 l D q ad xx ho_36) gX1_takeLatest_X1_stateAt rfl kX1_stateAt ⟨Nat.le_of_ble_eq_true rfl, Nat.le_of_ble_eq_true rfl⟩ rfl rfl (hP.sub (ws' := (wHo q ad xx)) [0, 1] rfl) (dT (hD.sub (ws' := (wHo q ad xx)) [0, 1] (by decide) rfl)) hG (ci := 0) rfl rfl rfl rfl (Nat.le_of_ble_eq_true rfl) dX1_takeLatest_7 ⟨Nat.zero_le _, Nat.zero_le _⟩ ?_
                refine lv_astore_n (lv' := [(2, .ref ((ad 3) 0)), (0, .ref (ad 8 0)), (1, .ref ((ad 0) 0))]) hx hb dX1_takeLatest_10 rfl hl (by decide) rfl (fun ls hl => ?_)
                refine lv_aload_n hx hb dX1_takeLatest_11 rfl (lv_at hl 1 rfl) ?_
                refine va_get (D := D) (ci := 0) (v := .int 4) (C := RX1) (T := TX1) (N := 3) hx hb hts iX1_takeLatest_X1 hown hG.1 hP 0 rfl rfl 2 (by decide) (hts (.fieldLink RX1 22 "MillComplaints$History" "size" "I") (List.mem_of_getElem? (i := 1) rfl)) (fun _ h9 => h9) (by show some (Value.int (xx 8 0 1)) = _; rw [hz_63]) dX1_takeLatest_12 ?_
                refine lv_if_le (tgt := 37) hx hb dX1_takeLatest_15 (by decide) (fun c_64 => absurd c_64 (by decide)) (fun _ => ?_)
                refine lv_aload_n hx hb dX1_takeLatest_18 rfl (lv_at hl 0 rfl) ?_
                refine lv_ifnull hx hb dX1_takeLatest_19 ?_
                refine lv_aload_n hx hb dX1_takeLatest_22 rfl (lv_at hl 2 rfl) ?_
                refine lv_aload_n hx hb dX1_takeLatest_23 rfl (lv_at hl 0 rfl) ?_
                have hM := MX4_copyFrom' l D q (ad 0) (xx 0) (ad 3) (xx 3)
                refine mu_V (D := D) (ws := (wHK q ad xx 0)) (ws' := (wHK q ad (setV xx 0 (xx 3)) 0)) (rest := []) (As := [.ref ((ad 3) 0)]) hx hb hml hown hts hl hM gX1_takeLatest_X4_copyFrom rfl kX4_copyFrom ⟨Nat.le_of_ble_eq_true rfl, Nat.le_of_ble_eq_true rfl⟩ rfl rfl hP hD hS hG [42, 43, 44, 45, 46, 47, 48, 49, 50, 51, 2, 3, 4, 5, 6, 7, 8, 9, 10, 11] rfl rfl (by decide) [0, 1, 62, 63, 64, 65, 66, 67, 68, 69, 70, 71, 12, 13, 14, 15, 16, 17, 18, 19, 20, 21, 22, 23, 24, 25, 26, 27, 28, 29, 30, 31, 32, 33, 34, 35, 36, 37, 38, 39, 40, 41, 52, 53, 54, 55, 56, 57, 58, 59, 60, 61] rfl (by decide) rfl (ci := 2) rfl rfl rfl rfl (Nat.le_of_ble_eq_true rfl) dX1_takeLatest_24 ⟨Nat.zero_le _, Nat.zero_le _⟩ (fun H locs hP hD hS => ?_)
                obtain ⟨xx_65, exx_65⟩ : ∃ z, z = (setV xx 0 (xx 3)) := ⟨_, rfl⟩
                rw [← exx_65] at hP hD
                replace hR := lt_e hR exx_65
                have ho_66 : (xx_65 8 0 0) = 1 := by rw [exx_65]; exact ho_36
                have ho_67 : (xx_65 8 0 1) = 4 := by rw [exx_65]; exact hz_63
                refine lv_aload_n hx hb dX1_takeLatest_27 rfl (lv_at hl 1 rfl) ?_
                refine lv_dup hx hb dX1_takeLatest_28 rfl ?_
                refine va_get (D := D) (ci := 0) (v := .int 4) (C := RX1) (T := TX1) (N := 3) hx hb hts iX1_takeLatest_X1 hown hG.1 hP 0 rfl rfl 2 (by decide) (hts (.fieldLink RX1 22 "MillComplaints$History" "size" "I") (List.mem_of_getElem? (i := 1) rfl)) (fun _ h9 => h9) (by show some (Value.int (xx_65 8 0 1)) = _; rw [ho_67]) dX1_takeLatest_29 ?_
                refine lv_iconst (v := 1) hx hb dX1_takeLatest_32 (by decide) ?_
                refine lv_isub hx hb dX1_takeLatest_33 ?_
                refine lv_tope (y := 3) (by decide) ?_
                refine va_put (D := D) (ci := 0) (v := .int 3) (ty := .int) (C := RX1) (T := TX1) (N := 3) hx hb hts iX1_takeLatest_X1 tyX1 tyX1_ok nmX1 hown hG.1 hP hD hS 0 rfl rfl 2 (by decide) (hts (.fieldLink RX1 22 "MillComplaints$History" "size" "I") (List.mem_of_getElem? (i := 1) rfl)) (fun _ h9 => h9) rfl (by decide +kernel) rfl rfl (Nat.le_of_ble_eq_true rfl) dX1_takeLatest_34 (fun H locs hP hD hS => ?_)
                have hP : va_P D vwCl (wHK q ad (setV xx_65 8 (setA (xx_65 8) 0 (upd (xx_65 8 0) 1 3))) 0) H := hP
                have hD : va_D A (wHK q ad (setV xx_65 8 (setA (xx_65 8) 0 (upd (xx_65 8 0) 1 3))) 0) := hD
                obtain ⟨xx_68, exx_68⟩ : ∃ z, z = (setV xx_65 8 (setA (xx_65 8) 0 (upd (xx_65 8 0) 1 3))) := ⟨_, rfl⟩
                rw [← exx_68] at hP hD
                replace hR := lt_e hR exx_68
                have ho_69 : (xx_68 8 0 0) = 1 := by rw [exx_68]; exact ho_66
                have ho_70 : (xx_68 8 0 1) = 3 := by rw [exx_68]; rfl
                subst hR
                exact mu_vret hx hb hr hk hA hS hP dX1_takeLatest_37
              · rw [if_neg hz_63] at hR
                exact (rg_z hrg hz_37 hz_39 hz_47 hz_55 hz_63).elim
    · rw [if_neg ho_36] at hR
      by_cases ho_71 : (xx 8 0 0) = 2
      · rw [if_pos ho_71] at hR
        by_cases hz_72 : (xx 8 0 1) = 0
        · rw [if_pos hz_72] at hR
          refine lv_aload_n hx hb dX1_takeLatest_0 rfl (lv_at hl 0 rfl) ?_
          refine lv_aload_n hx hb dX1_takeLatest_1 rfl (lv_at hl 0 rfl) ?_
          refine va_get (D := D) (ci := 0) (v := .int 0) (C := RX1) (T := TX1) (N := 3) hx hb hts iX1_takeLatest_X1 hown hG.1 hP 0 rfl rfl 2 (by decide) (hts (.fieldLink RX1 22 "MillComplaints$History" "size" "I") (List.mem_of_getElem? (i := 1) rfl)) (fun _ h9 => h9) (by show some (Value.int (xx 8 0 1)) = _; rw [hz_72]) dX1_takeLatest_2 ?_
          refine lv_iconst (v := 1) hx hb dX1_takeLatest_5 (by decide) ?_
          refine lv_isub hx hb dX1_takeLatest_6 ?_
          refine lv_tope (y := (-1)) (by decide) ?_
          refine ro_V (v := .ref ((ad 4) 0)) (rest := []) (As := [.int (-1)]) hx hb hml hown hts hl (MX1_stateAt_2_m1 l D q ad xx ho_71) gX1_takeLatest_X1_stateAt rfl kX1_stateAt ⟨Nat.le_of_ble_eq_true rfl, Nat.le_of_ble_eq_true rfl⟩ rfl rfl (hP.sub (ws' := (wHo q ad xx)) [0, 1] rfl) (dT (hD.sub (ws' := (wHo q ad xx)) [0, 1] (by decide) rfl)) hG (ci := 0) rfl rfl rfl rfl (Nat.le_of_ble_eq_true rfl) dX1_takeLatest_7 ⟨Nat.zero_le _, Nat.zero_le _⟩ ?_
          refine lv_astore_n (lv' := [(2, .ref ((ad 4) 0)), (0, .ref (ad 8 0)), (1, .ref ((ad 0) 0))]) hx hb dX1_takeLatest_10 rfl hl (by decide) rfl (fun ls hl => ?_)
          refine lv_aload_n hx hb dX1_takeLatest_11 rfl (lv_at hl 1 rfl) ?_
          refine va_get (D := D) (ci := 0) (v := .int 0) (C := RX1) (T := TX1) (N := 3) hx hb hts iX1_takeLatest_X1 hown hG.1 hP 0 rfl rfl 2 (by decide) (hts (.fieldLink RX1 22 "MillComplaints$History" "size" "I") (List.mem_of_getElem? (i := 1) rfl)) (fun _ h9 => h9) (by show some (Value.int (xx 8 0 1)) = _; rw [hz_72]) dX1_takeLatest_12 ?_
          refine lv_if_le (tgt := 37) hx hb dX1_takeLatest_15 (by decide) (fun _ => ?_) (fun c_73 => absurd (by decide) c_73)
          subst hR
          exact mu_vret hx hb hr hk hA hS hP dX1_takeLatest_37
        · rw [if_neg hz_72] at hR
          by_cases hz_74 : (xx 8 0 1) = 1
          · rw [if_pos hz_74] at hR
            refine lv_aload_n hx hb dX1_takeLatest_0 rfl (lv_at hl 0 rfl) ?_
            refine lv_aload_n hx hb dX1_takeLatest_1 rfl (lv_at hl 0 rfl) ?_
            refine va_get (D := D) (ci := 0) (v := .int 1) (C := RX1) (T := TX1) (N := 3) hx hb hts iX1_takeLatest_X1 hown hG.1 hP 0 rfl rfl 2 (by decide) (hts (.fieldLink RX1 22 "MillComplaints$History" "size" "I") (List.mem_of_getElem? (i := 1) rfl)) (fun _ h9 => h9) (by show some (Value.int (xx 8 0 1)) = _; rw [hz_74]) dX1_takeLatest_2 ?_
            refine lv_iconst (v := 1) hx hb dX1_takeLatest_5 (by decide) ?_
            refine lv_isub hx hb dX1_takeLatest_6 ?_
            refine lv_tope (y := 0) (by decide) ?_
            refine ro_V (v := .ref ((ad 5) 0)) (rest := []) (As := [.int 0]) hx hb hml hown hts hl (MX1_stateAt_2_0 l D q ad xx ho_71) gX1_takeLatest_X1_stateAt rfl kX1_stateAt ⟨Nat.le_of_ble_eq_true rfl, Nat.le_of_ble_eq_true rfl⟩ rfl rfl (hP.sub (ws' := (wHo q ad xx)) [0, 1] rfl) (dT (hD.sub (ws' := (wHo q ad xx)) [0, 1] (by decide) rfl)) hG (ci := 0) rfl rfl rfl rfl (Nat.le_of_ble_eq_true rfl) dX1_takeLatest_7 ⟨Nat.zero_le _, Nat.zero_le _⟩ ?_
            refine lv_astore_n (lv' := [(2, .ref ((ad 5) 0)), (0, .ref (ad 8 0)), (1, .ref ((ad 0) 0))]) hx hb dX1_takeLatest_10 rfl hl (by decide) rfl (fun ls hl => ?_)
            refine lv_aload_n hx hb dX1_takeLatest_11 rfl (lv_at hl 1 rfl) ?_
            refine va_get (D := D) (ci := 0) (v := .int 1) (C := RX1) (T := TX1) (N := 3) hx hb hts iX1_takeLatest_X1 hown hG.1 hP 0 rfl rfl 2 (by decide) (hts (.fieldLink RX1 22 "MillComplaints$History" "size" "I") (List.mem_of_getElem? (i := 1) rfl)) (fun _ h9 => h9) (by show some (Value.int (xx 8 0 1)) = _; rw [hz_74]) dX1_takeLatest_12 ?_
            refine lv_if_le (tgt := 37) hx hb dX1_takeLatest_15 (by decide) (fun c_75 => absurd c_75 (by decide)) (fun _ => ?_)
            refine lv_aload_n hx hb dX1_takeLatest_18 rfl (lv_at hl 0 rfl) ?_
            refine lv_ifnull hx hb dX1_takeLatest_19 ?_
            refine lv_aload_n hx hb dX1_takeLatest_22 rfl (lv_at hl 2 rfl) ?_
            refine lv_aload_n hx hb dX1_takeLatest_23 rfl (lv_at hl 0 rfl) ?_
            have hM := MX4_copyFrom' l D q (ad 0) (xx 0) (ad 5) (xx 5)
            refine mu_V (D := D) (ws := (wHK q ad xx 0)) (ws' := (wHK q ad (setV xx 0 (xx 5)) 0)) (rest := []) (As := [.ref ((ad 5) 0)]) hx hb hml hown hts hl hM gX1_takeLatest_X4_copyFrom rfl kX4_copyFrom ⟨Nat.le_of_ble_eq_true rfl, Nat.le_of_ble_eq_true rfl⟩ rfl rfl hP hD hS hG [42, 43, 44, 45, 46, 47, 48, 49, 50, 51, 22, 23, 24, 25, 26, 27, 28, 29, 30, 31] rfl rfl (by decide) [0, 1, 2, 3, 4, 5, 6, 7, 8, 9, 10, 11, 12, 13, 14, 15, 16, 17, 18, 19, 20, 21, 62, 63, 64, 65, 66, 67, 68, 69, 70, 71, 32, 33, 34, 35, 36, 37, 38, 39, 40, 41, 52, 53, 54, 55, 56, 57, 58, 59, 60, 61] rfl (by decide) rfl (ci := 2) rfl rfl rfl rfl (Nat.le_of_ble_eq_true rfl) dX1_takeLatest_24 ⟨Nat.zero_le _, Nat.zero_le _⟩ (fun H locs hP hD hS => ?_)
            obtain ⟨xx_76, exx_76⟩ : ∃ z, z = (setV xx 0 (xx 5)) := ⟨_, rfl⟩
            rw [← exx_76] at hP hD
            replace hR := lt_e hR exx_76
            have ho_77 : (xx_76 8 0 0) = 2 := by rw [exx_76]; exact ho_71
            have ho_78 : (xx_76 8 0 1) = 1 := by rw [exx_76]; exact hz_74
            refine lv_aload_n hx hb dX1_takeLatest_27 rfl (lv_at hl 1 rfl) ?_
            refine lv_dup hx hb dX1_takeLatest_28 rfl ?_
            refine va_get (D := D) (ci := 0) (v := .int 1) (C := RX1) (T := TX1) (N := 3) hx hb hts iX1_takeLatest_X1 hown hG.1 hP 0 rfl rfl 2 (by decide) (hts (.fieldLink RX1 22 "MillComplaints$History" "size" "I") (List.mem_of_getElem? (i := 1) rfl)) (fun _ h9 => h9) (by show some (Value.int (xx_76 8 0 1)) = _; rw [ho_78]) dX1_takeLatest_29 ?_
            refine lv_iconst (v := 1) hx hb dX1_takeLatest_32 (by decide) ?_
            refine lv_isub hx hb dX1_takeLatest_33 ?_
            refine lv_tope (y := 0) (by decide) ?_
            refine va_put (D := D) (ci := 0) (v := .int 0) (ty := .int) (C := RX1) (T := TX1) (N := 3) hx hb hts iX1_takeLatest_X1 tyX1 tyX1_ok nmX1 hown hG.1 hP hD hS 0 rfl rfl 2 (by decide) (hts (.fieldLink RX1 22 "MillComplaints$History" "size" "I") (List.mem_of_getElem? (i := 1) rfl)) (fun _ h9 => h9) rfl (by decide +kernel) rfl rfl (Nat.le_of_ble_eq_true rfl) dX1_takeLatest_34 (fun H locs hP hD hS => ?_)
            have hP : va_P D vwCl (wHK q ad (setV xx_76 8 (setA (xx_76 8) 0 (upd (xx_76 8 0) 1 0))) 0) H := hP
            have hD : va_D A (wHK q ad (setV xx_76 8 (setA (xx_76 8) 0 (upd (xx_76 8 0) 1 0))) 0) := hD
            obtain ⟨xx_79, exx_79⟩ : ∃ z, z = (setV xx_76 8 (setA (xx_76 8) 0 (upd (xx_76 8 0) 1 0))) := ⟨_, rfl⟩
            rw [← exx_79] at hP hD
            replace hR := lt_e hR exx_79
            have ho_80 : (xx_79 8 0 0) = 2 := by rw [exx_79]; exact ho_77
            have ho_81 : (xx_79 8 0 1) = 0 := by rw [exx_79]; rfl
            subst hR
            exact mu_vret hx hb hr hk hA hS hP dX1_takeLatest_37
          · rw [if_neg hz_74] at hR
            by_cases hz_82 : (xx 8 0 1) = 2
            · rw [if_pos hz_82] at hR
              refine lv_aload_n hx hb dX1_takeLatest_0 rfl (lv_at hl 0 rfl) ?_
              refine lv_aload_n hx hb dX1_takeLatest_1 rfl (lv_at hl 0 rfl) ?_
              refine va_get (D := D) (ci := 0) (v := .int 2) (C := RX1) (T := TX1) (N := 3) hx hb hts iX1_takeLatest_X1 hown hG.1 hP 0 rfl rfl 2 (by decide) (hts (.fieldLink RX1 22 "MillComplaints$History" "size" "I") (List.mem_of_getElem? (i := 1) rfl)) (fun _ h9 => h9) (by show some (Value.int (xx 8 0 1)) = _; rw [hz_82]) dX1_takeLatest_2 ?_
              refine lv_iconst (v := 1) hx hb dX1_takeLatest_5 (by decide) ?_
              refine lv_isub hx hb dX1_takeLatest_6 ?_
              refine lv_tope (y := 1) (by decide) ?_
              refine ro_V (v := .ref ((ad 6) 0)) (rest := []) (As := [.int 1]) hx hb hml hown hts hl (MX1_stateAt_2_1 l D q ad xx ho_71) gX1_takeLatest_X1_stateAt rfl kX1_stateAt ⟨Nat.le_of_ble_eq_true rfl, Nat.le_of_ble_eq_true rfl⟩ rfl rfl (hP.sub (ws' := (wHo q ad xx)) [0, 1] rfl) (dT (hD.sub (ws' := (wHo q ad xx)) [0, 1] (by decide) rfl)) hG (ci := 0) rfl rfl rfl rfl (Nat.le_of_ble_eq_true rfl) dX1_takeLatest_7 ⟨Nat.zero_le _, Nat.zero_le _⟩ ?_
              refine lv_astore_n (lv' := [(2, .ref ((ad 6) 0)), (0, .ref (ad 8 0)), (1, .ref ((ad 0) 0))]) hx hb dX1_takeLatest_10 rfl hl (by decide) rfl (fun ls hl => ?_)
              refine lv_aload_n hx hb dX1_takeLatest_11 rfl (lv_at hl 1 rfl) ?_
              refine va_get (D := D) (ci := 0) (v := .int 2) (C := RX1) (T := TX1) (N := 3) hx hb hts iX1_takeLatest_X1 hown hG.1 hP 0 rfl rfl 2 (by decide) (hts (.fieldLink RX1 22 "MillComplaints$History" "size" "I") (List.mem_of_getElem? (i := 1) rfl)) (fun _ h9 => h9) (by show some (Value.int (xx 8 0 1)) = _; rw [hz_82]) dX1_takeLatest_12 ?_
              refine lv_if_le (tgt := 37) hx hb dX1_takeLatest_15 (by decide) (fun c_83 => absurd c_83 (by decide)) (fun _ => ?_)
              refine lv_aload_n hx hb dX1_takeLatest_18 rfl (lv_at hl 0 rfl) ?_
              refine lv_ifnull hx hb dX1_takeLatest_19 ?_
              refine lv_aload_n hx hb dX1_takeLatest_22 rfl (lv_at hl 2 rfl) ?_
              refine lv_aload_n hx hb dX1_takeLatest_23 rfl (lv_at hl 0 rfl) ?_
              have hM := MX4_copyFrom' l D q (ad 0) (xx 0) (ad 6) (xx 6)
              refine mu_V (D := D) (ws := (wHK q ad xx 0)) (ws' := (wHK q ad (setV xx 0 (xx 6)) 0)) (rest := []) (As := [.ref ((ad 6) 0)]) hx hb hml hown hts hl hM gX1_takeLatest_X4_copyFrom rfl kX4_copyFrom ⟨Nat.le_of_ble_eq_true rfl, Nat.le_of_ble_eq_true rfl⟩ rfl rfl hP hD hS hG [42, 43, 44, 45, 46, 47, 48, 49, 50, 51, 32, 33, 34, 35, 36, 37, 38, 39, 40, 41] rfl rfl (by decide) [0, 1, 2, 3, 4, 5, 6, 7, 8, 9, 10, 11, 12, 13, 14, 15, 16, 17, 18, 19, 20, 21, 22, 23, 24, 25, 26, 27, 28, 29, 30, 31, 62, 63, 64, 65, 66, 67, 68, 69, 70, 71, 52, 53, 54, 55, 56, 57, 58, 59, 60, 61] rfl (by decide) rfl (ci := 2) rfl rfl rfl rfl (Nat.le_of_ble_eq_true rfl) dX1_takeLatest_24 ⟨Nat.zero_le _, Nat.zero_le _⟩ (fun H locs hP hD hS => ?_)
              obtain ⟨xx_84, exx_84⟩ : ∃ z, z = (setV xx 0 (xx 6)) := ⟨_, rfl⟩
              rw [← exx_84] at hP hD
              replace hR := lt_e hR exx_84
              have ho_85 : (xx_84 8 0 0) = 2 := by rw [exx_84]; exact ho_71
              have ho_86 : (xx_84 8 0 1) = 2 := by rw [exx_84]; exact hz_82
              refine lv_aload_n hx hb dX1_takeLatest_27 rfl (lv_at hl 1 rfl) ?_
              refine lv_dup hx hb dX1_takeLatest_28 rfl ?_
              refine va_get (D := D) (ci := 0) (v := .int 2) (C := RX1) (T := TX1) (N := 3) hx hb hts iX1_takeLatest_X1 hown hG.1 hP 0 rfl rfl 2 (by decide) (hts (.fieldLink RX1 22 "MillComplaints$History" "size" "I") (List.mem_of_getElem? (i := 1) rfl)) (fun _ h9 => h9) (by show some (Value.int (xx_84 8 0 1)) = _; rw [ho_86]) dX1_takeLatest_29 ?_
              refine lv_iconst (v := 1) hx hb dX1_takeLatest_32 (by decide) ?_
              refine lv_isub hx hb dX1_takeLatest_33 ?_
              refine lv_tope (y := 1) (by decide) ?_
              refine va_put (D := D) (ci := 0) (v := .int 1) (ty := .int) (C := RX1) (T := TX1) (N := 3) hx hb hts iX1_takeLatest_X1 tyX1 tyX1_ok nmX1 hown hG.1 hP hD hS 0 rfl rfl 2 (by decide) (hts (.fieldLink RX1 22 "MillComplaints$History" "size" "I") (List.mem_of_getElem? (i := 1) rfl)) (fun _ h9 => h9) rfl (by decide +kernel) rfl rfl (Nat.le_of_ble_eq_true rfl) dX1_takeLatest_34 (fun H locs hP hD hS => ?_)
              have hP : va_P D vwCl (wHK q ad (setV xx_84 8 (setA (xx_84 8) 0 (upd (xx_84 8 0) 1 1))) 0) H := hP
              have hD : va_D A (wHK q ad (setV xx_84 8 (setA (xx_84 8) 0 (upd (xx_84 8 0) 1 1))) 0) := hD
              obtain ⟨xx_87, exx_87⟩ : ∃ z, z = (setV xx_84 8 (setA (xx_84 8) 0 (upd (xx_84 8 0) 1 1))) := ⟨_, rfl⟩
              rw [← exx_87] at hP hD
              replace hR := lt_e hR exx_87
              have ho_88 : (xx_87 8 0 0) = 2 := by rw [exx_87]; exact ho_85
              have ho_89 : (xx_87 8 0 1) = 1 := by rw [exx_87]; rfl
              subst hR
              exact mu_vret hx hb hr hk hA hS hP dX1_takeLatest_37
            · rw [if_neg hz_82] at hR
              by_cases hz_90 : (xx 8 0 1) = 3
              · rw [if_pos hz_90] at hR
                refine lv_aload_n hx hb dX1_takeLatest_0 rfl (lv_at hl 0 rfl) ?_
                refine lv_aload_n hx hb dX1_takeLatest_1 rfl (lv_at hl 0 rfl) ?_
                refine va_get (D := D) (ci := 0) (v := .int 3) (C := RX1) (T := TX1) (N := 3) hx hb hts iX1_takeLatest_X1 hown hG.1 hP 0 rfl rfl 2 (by decide) (hts (.fieldLink RX1 22 "MillComplaints$History" "size" "I") (List.mem_of_getElem? (i := 1) rfl)) (fun _ h9 => h9) (by show some (Value.int (xx 8 0 1)) = _; rw [hz_90]) dX1_takeLatest_2 ?_
                refine lv_iconst (v := 1) hx hb dX1_takeLatest_5 (by decide) ?_
                refine lv_isub hx hb dX1_takeLatest_6 ?_
                refine lv_tope (y := 2) (by decide) ?_
                refine ro_V (v := .ref ((ad 3) 0)) (rest := []) (As := [.int 2]) hx hb hml hown hts hl (MX1_stateAt_2_2 l D q ad xx ho_71) gX1_takeLatest_X1_stateAt rfl kX1_stateAt ⟨Nat.le_of_ble_eq_true rfl, Nat.le_of_ble_eq_true rfl⟩ rfl rfl (hP.sub (ws' := (wHo q ad xx)) [0, 1] rfl) (dT (hD.sub (ws' := (wHo q ad xx)) [0, 1] (by decide) rfl)) hG (ci := 0) rfl rfl rfl rfl (Nat.le_of_ble_eq_true rfl) dX1_takeLatest_7 ⟨Nat.zero_le _, Nat.zero_le _⟩ ?_
                refine lv_astore_n (lv' := [(2, .ref ((ad 3) 0)), (0, .ref (ad 8 0)), (1, .ref ((ad 0) 0))]) hx hb dX1_takeLatest_10 rfl hl (by decide) rfl (fun ls hl => ?_)
                refine lv_aload_n hx hb dX1_takeLatest_11 rfl (lv_at hl 1 rfl) ?_
                refine va_get (D := D) (ci := 0) (v := .int 3) (C := RX1) (T := TX1) (N := 3) hx hb hts iX1_takeLatest_X1 hown hG.1 hP 0 rfl rfl 2 (by decide) (hts (.fieldLink RX1 22 "MillComplaints$History" "size" "I") (List.mem_of_getElem? (i := 1) rfl)) (fun _ h9 => h9) (by show some (Value.int (xx 8 0 1)) = _; rw [hz_90]) dX1_takeLatest_12 ?_
                refine lv_if_le (tgt := 37) hx hb dX1_takeLatest_15 (by decide) (fun c_91 => absurd c_91 (by decide)) (fun _ => ?_)
                refine lv_aload_n hx hb dX1_takeLatest_18 rfl (lv_at hl 0 rfl) ?_
                refine lv_ifnull hx hb dX1_takeLatest_19 ?_
                refine lv_aload_n hx hb dX1_takeLatest_22 rfl (lv_at hl 2 rfl) ?_
                refine lv_aload_n hx hb dX1_takeLatest_23 rfl (lv_at hl 0 rfl) ?_
                have hM := MX4_copyFrom' l D q (ad 0) (xx 0) (ad 3) (xx 3)
                refine mu_V (D := D) (ws := (wHK q ad xx 0)) (ws' := (wHK q ad (setV xx 0 (xx 3)) 0)) (rest := []) (As := [.ref ((ad 3) 0)]) hx hb hml hown hts hl hM gX1_takeLatest_X4_copyFrom rfl kX4_copyFrom ⟨Nat.le_of_ble_eq_true rfl, Nat.le_of_ble_eq_true rfl⟩ rfl rfl hP hD hS hG [42, 43, 44, 45, 46, 47, 48, 49, 50, 51, 2, 3, 4, 5, 6, 7, 8, 9, 10, 11] rfl rfl (by decide) [0, 1, 62, 63, 64, 65, 66, 67, 68, 69, 70, 71, 12, 13, 14, 15, 16, 17, 18, 19, 20, 21, 22, 23, 24, 25, 26, 27, 28, 29, 30, 31, 32, 33, 34, 35, 36, 37, 38, 39, 40, 41, 52, 53, 54, 55, 56, 57, 58, 59, 60, 61] rfl (by decide) rfl (ci := 2) rfl rfl rfl rfl (Nat.le_of_ble_eq_true rfl) dX1_takeLatest_24 ⟨Nat.zero_le _, Nat.zero_le _⟩ (fun H locs hP hD hS => ?_)
                obtain ⟨xx_92, exx_92⟩ : ∃ z, z = (setV xx 0 (xx 3)) := ⟨_, rfl⟩
                rw [← exx_92] at hP hD
                replace hR := lt_e hR exx_92
                have ho_93 : (xx_92 8 0 0) = 2 := by rw [exx_92]; exact ho_71
                have ho_94 : (xx_92 8 0 1) = 3 := by rw [exx_92]; exact hz_90
                refine lv_aload_n hx hb dX1_takeLatest_27 rfl (lv_at hl 1 rfl) ?_
                refine lv_dup hx hb dX1_takeLatest_28 rfl ?_
                refine va_get (D := D) (ci := 0) (v := .int 3) (C := RX1) (T := TX1) (N := 3) hx hb hts iX1_takeLatest_X1 hown hG.1 hP 0 rfl rfl 2 (by decide) (hts (.fieldLink RX1 22 "MillComplaints$History" "size" "I") (List.mem_of_getElem? (i := 1) rfl)) (fun _ h9 => h9) (by show some (Value.int (xx_92 8 0 1)) = _; rw [ho_94]) dX1_takeLatest_29 ?_
                refine lv_iconst (v := 1) hx hb dX1_takeLatest_32 (by decide) ?_
                refine lv_isub hx hb dX1_takeLatest_33 ?_
                refine lv_tope (y := 2) (by decide) ?_
                refine va_put (D := D) (ci := 0) (v := .int 2) (ty := .int) (C := RX1) (T := TX1) (N := 3) hx hb hts iX1_takeLatest_X1 tyX1 tyX1_ok nmX1 hown hG.1 hP hD hS 0 rfl rfl 2 (by decide) (hts (.fieldLink RX1 22 "MillComplaints$History" "size" "I") (List.mem_of_getElem? (i := 1) rfl)) (fun _ h9 => h9) rfl (by decide +kernel) rfl rfl (Nat.le_of_ble_eq_true rfl) dX1_takeLatest_34 (fun H locs hP hD hS => ?_)
                have hP : va_P D vwCl (wHK q ad (setV xx_92 8 (setA (xx_92 8) 0 (upd (xx_92 8 0) 1 2))) 0) H := hP
                have hD : va_D A (wHK q ad (setV xx_92 8 (setA (xx_92 8) 0 (upd (xx_92 8 0) 1 2))) 0) := hD
                obtain ⟨xx_95, exx_95⟩ : ∃ z, z = (setV xx_92 8 (setA (xx_92 8) 0 (upd (xx_92 8 0) 1 2))) := ⟨_, rfl⟩
                rw [← exx_95] at hP hD
                replace hR := lt_e hR exx_95
                have ho_96 : (xx_95 8 0 0) = 2 := by rw [exx_95]; exact ho_93
                have ho_97 : (xx_95 8 0 1) = 2 := by rw [exx_95]; rfl
                subst hR
                exact mu_vret hx hb hr hk hA hS hP dX1_takeLatest_37
              · rw [if_neg hz_90] at hR
                by_cases hz_98 : (xx 8 0 1) = 4
                · rw [if_pos hz_98] at hR
                  refine lv_aload_n hx hb dX1_takeLatest_0 rfl (lv_at hl 0 rfl) ?_
                  refine lv_aload_n hx hb dX1_takeLatest_1 rfl (lv_at hl 0 rfl) ?_
                  refine va_get (D := D) (ci := 0) (v := .int 4) (C := RX1) (T := TX1) (N := 3) hx hb hts iX1_takeLatest_X1 hown hG.1 hP 0 rfl rfl 2 (by decide) (hts (.fieldLink RX1 22 "MillComplaints$History" "size" "I") (List.mem_of_getElem? (i := 1) rfl)) (fun _ h9 => h9) (by show some (Value.int (xx 8 0 1)) = _; rw [hz_98]) dX1_takeLatest_2 ?_
                  refine lv_iconst (v := 1) hx hb dX1_takeLatest_5 (by decide) ?_
                  refine lv_isub hx hb dX1_takeLatest_6 ?_
                  refine lv_tope (y := 3) (by decide) ?_
                  refine ro_V (v := .ref ((ad 4) 0)) (rest := []) (As := [.int 3]) hx hb hml hown hts hl (MX1_stateAt_2_3 l D q ad xx ho_71) gX1_takeLatest_X1_stateAt rfl kX1_stateAt ⟨Nat.le_of_ble_eq_true rfl, Nat.le_of_ble_eq_true rfl⟩ rfl rfl (hP.sub (ws' := (wHo q ad xx)) [0, 1] rfl) (dT (hD.sub (ws' := (wHo q ad xx)) [0, 1] (by decide) rfl)) hG (ci := 0) rfl rfl rfl rfl (Nat.le_of_ble_eq_true rfl) dX1_takeLatest_7 ⟨Nat.zero_le _, Nat.zero_le _⟩ ?_
                  refine lv_astore_n (lv' := [(2, .ref ((ad 4) 0)), (0, .ref (ad 8 0)), (1, .ref ((ad 0) 0))]) hx hb dX1_takeLatest_10 rfl hl (by decide) rfl (fun ls hl => ?_)
                  refine lv_aload_n hx hb dX1_takeLatest_11 rfl (lv_at hl 1 rfl) ?_
                  refine va_get (D := D) (ci := 0) (v := .int 4) (C := RX1) (T := TX1) (N := 3) hx hb hts iX1_takeLatest_X1 hown hG.1 hP 0 rfl rfl 2 (by decide) (hts (.fieldLink RX1 22 "MillComplaints$History" "size" "I") (List.mem_of_getElem? (i := 1) rfl)) (fun _ h9 => h9) (by show some (Value.int (xx 8 0 1)) = _; rw [hz_98]) dX1_takeLatest_12 ?_
                  refine lv_if_le (tgt := 37) hx hb dX1_takeLatest_15 (by decide) (fun c_99 => absurd c_99 (by decide)) (fun _ => ?_)
                  refine lv_aload_n hx hb dX1_takeLatest_18 rfl (lv_at hl 0 rfl) ?_
                  refine lv_ifnull hx hb dX1_takeLatest_19 ?_
                  refine lv_aload_n hx hb dX1_takeLatest_22 rfl (lv_at hl 2 rfl) ?_
                  refine lv_aload_n hx hb dX1_takeLatest_23 rfl (lv_at hl 0 rfl) ?_
                  have hM := MX4_copyFrom' l D q (ad 0) (xx 0) (ad 4) (xx 4)
                  refine mu_V (D := D) (ws := (wHK q ad xx 0)) (ws' := (wHK q ad (setV xx 0 (xx 4)) 0)) (rest := []) (As := [.ref ((ad 4) 0)]) hx hb hml hown hts hl hM gX1_takeLatest_X4_copyFrom rfl kX4_copyFrom ⟨Nat.le_of_ble_eq_true rfl, Nat.le_of_ble_eq_true rfl⟩ rfl rfl hP hD hS hG [42, 43, 44, 45, 46, 47, 48, 49, 50, 51, 12, 13, 14, 15, 16, 17, 18, 19, 20, 21] rfl rfl (by decide) [0, 1, 2, 3, 4, 5, 6, 7, 8, 9, 10, 11, 62, 63, 64, 65, 66, 67, 68, 69, 70, 71, 22, 23, 24, 25, 26, 27, 28, 29, 30, 31, 32, 33, 34, 35, 36, 37, 38, 39, 40, 41, 52, 53, 54, 55, 56, 57, 58, 59, 60, 61] rfl (by decide) rfl (ci := 2) rfl rfl rfl rfl (Nat.le_of_ble_eq_true rfl) dX1_takeLatest_24 ⟨Nat.zero_le _, Nat.zero_le _⟩ (fun H locs hP hD hS => ?_)
                  obtain ⟨xx_100, exx_100⟩ : ∃ z, z = (setV xx 0 (xx 4)) := ⟨_, rfl⟩
                  rw [← exx_100] at hP hD
                  replace hR := lt_e hR exx_100
                  have ho_101 : (xx_100 8 0 0) = 2 := by rw [exx_100]; exact ho_71
                  have ho_102 : (xx_100 8 0 1) = 4 := by rw [exx_100]; exact hz_98
                  refine lv_aload_n hx hb dX1_takeLatest_27 rfl (lv_at hl 1 rfl) ?_
                  refine lv_dup hx hb dX1_takeLatest_28 rfl ?_
                  refine va_get (D := D) (ci := 0) (v := .int 4) (C := RX1) (T := TX1) (N := 3) hx hb hts iX1_takeLatest_X1 hown hG.1 hP 0 rfl rfl 2 (by decide) (hts (.fieldLink RX1 22 "MillComplaints$History" "size" "I") (List.mem_of_getElem? (i := 1) rfl)) (fun _ h9 => h9) (by show some (Value.int (xx_100 8 0 1)) = _; rw [ho_102]) dX1_takeLatest_29 ?_
                  refine lv_iconst (v := 1) hx hb dX1_takeLatest_32 (by decide) ?_
                  refine lv_isub hx hb dX1_takeLatest_33 ?_
                  refine lv_tope (y := 3) (by decide) ?_
                  refine va_put (D := D) (ci := 0) (v := .int 3) (ty := .int) (C := RX1) (T := TX1) (N := 3) hx hb hts iX1_takeLatest_X1 tyX1 tyX1_ok nmX1 hown hG.1 hP hD hS 0 rfl rfl 2 (by decide) (hts (.fieldLink RX1 22 "MillComplaints$History" "size" "I") (List.mem_of_getElem? (i := 1) rfl)) (fun _ h9 => h9) rfl (by decide +kernel) rfl rfl (Nat.le_of_ble_eq_true rfl) dX1_takeLatest_34 (fun H locs hP hD hS => ?_)
                  have hP : va_P D vwCl (wHK q ad (setV xx_100 8 (setA (xx_100 8) 0 (upd (xx_100 8 0) 1 3))) 0) H := hP
                  have hD : va_D A (wHK q ad (setV xx_100 8 (setA (xx_100 8) 0 (upd (xx_100 8 0) 1 3))) 0) := hD
                  obtain ⟨xx_103, exx_103⟩ : ∃ z, z = (setV xx_100 8 (setA (xx_100 8) 0 (upd (xx_100 8 0) 1 3))) := ⟨_, rfl⟩
                  rw [← exx_103] at hP hD
                  replace hR := lt_e hR exx_103
                  have ho_104 : (xx_103 8 0 0) = 2 := by rw [exx_103]; exact ho_101
                  have ho_105 : (xx_103 8 0 1) = 3 := by rw [exx_103]; rfl
                  subst hR
                  exact mu_vret hx hb hr hk hA hS hP dX1_takeLatest_37
                · rw [if_neg hz_98] at hR
                  exact (rg_z hrg hz_72 hz_74 hz_82 hz_90 hz_98).elim
      · rw [if_neg ho_71] at hR
        by_cases ho_106 : (xx 8 0 0) = 3
        · rw [if_pos ho_106] at hR
          by_cases hz_107 : (xx 8 0 1) = 0
          · rw [if_pos hz_107] at hR
            refine lv_aload_n hx hb dX1_takeLatest_0 rfl (lv_at hl 0 rfl) ?_
            refine lv_aload_n hx hb dX1_takeLatest_1 rfl (lv_at hl 0 rfl) ?_
            refine va_get (D := D) (ci := 0) (v := .int 0) (C := RX1) (T := TX1) (N := 3) hx hb hts iX1_takeLatest_X1 hown hG.1 hP 0 rfl rfl 2 (by decide) (hts (.fieldLink RX1 22 "MillComplaints$History" "size" "I") (List.mem_of_getElem? (i := 1) rfl)) (fun _ h9 => h9) (by show some (Value.int (xx 8 0 1)) = _; rw [hz_107]) dX1_takeLatest_2 ?_
            refine lv_iconst (v := 1) hx hb dX1_takeLatest_5 (by decide) ?_
            refine lv_isub hx hb dX1_takeLatest_6 ?_
            refine lv_tope (y := (-1)) (by decide) ?_
            refine ro_V (v := .ref ((ad 5) 0)) (rest := []) (As := [.int (-1)]) hx hb hml hown hts hl (MX1_stateAt_3_m1 l D q ad xx ho_106) gX1_takeLatest_X1_stateAt rfl kX1_stateAt ⟨Nat.le_of_ble_eq_true rfl, Nat.le_of_ble_eq_true rfl⟩ rfl rfl (hP.sub (ws' := (wHo q ad xx)) [0, 1] rfl) (dT (hD.sub (ws' := (wHo q ad xx)) [0, 1] (by decide) rfl)) hG (ci := 0) rfl rfl rfl rfl (Nat.le_of_ble_eq_true rfl) dX1_takeLatest_7 ⟨Nat.zero_le _, Nat.zero_le _⟩ ?_
            refine lv_astore_n (lv' := [(2, .ref ((ad 5) 0)), (0, .ref (ad 8 0)), (1, .ref ((ad 0) 0))]) hx hb dX1_takeLatest_10 rfl hl (by decide) rfl (fun ls hl => ?_)
            refine lv_aload_n hx hb dX1_takeLatest_11 rfl (lv_at hl 1 rfl) ?_
            refine va_get (D := D) (ci := 0) (v := .int 0) (C := RX1) (T := TX1) (N := 3) hx hb hts iX1_takeLatest_X1 hown hG.1 hP 0 rfl rfl 2 (by decide) (hts (.fieldLink RX1 22 "MillComplaints$History" "size" "I") (List.mem_of_getElem? (i := 1) rfl)) (fun _ h9 => h9) (by show some (Value.int (xx 8 0 1)) = _; rw [hz_107]) dX1_takeLatest_12 ?_
            refine lv_if_le (tgt := 37) hx hb dX1_takeLatest_15 (by decide) (fun _ => ?_) (fun c_108 => absurd (by decide) c_108)
            subst hR
            exact mu_vret hx hb hr hk hA hS hP dX1_takeLatest_37
          · rw [if_neg hz_107] at hR
            by_cases hz_109 : (xx 8 0 1) = 1
            · rw [if_pos hz_109] at hR
              refine lv_aload_n hx hb dX1_takeLatest_0 rfl (lv_at hl 0 rfl) ?_
              refine lv_aload_n hx hb dX1_takeLatest_1 rfl (lv_at hl 0 rfl) ?_
              refine va_get (D := D) (ci := 0) (v := .int 1) (C := RX1) (T := TX1) (N := 3) hx hb hts iX1_takeLatest_X1 hown hG.1 hP 0 rfl rfl 2 (by decide) (hts (.fieldLink RX1 22 "MillComplaints$History" "size" "I") (List.mem_of_getElem? (i := 1) rfl)) (fun _ h9 => h9) (by show some (Value.int (xx 8 0 1)) = _; rw [hz_109]) dX1_takeLatest_2 ?_
              refine lv_iconst (v := 1) hx hb dX1_takeLatest_5 (by decide) ?_
              refine lv_isub hx hb dX1_takeLatest_6 ?_
              refine lv_tope (y := 0) (by decide) ?_
              refine ro_V (v := .ref ((ad 6) 0)) (rest := []) (As := [.int 0]) hx hb hml hown hts hl (MX1_stateAt_3_0 l D q ad xx ho_106) gX1_takeLatest_X1_stateAt rfl kX1_stateAt ⟨Nat.le_of_ble_eq_true rfl, Nat.le_of_ble_eq_true rfl⟩ rfl rfl (hP.sub (ws' := (wHo q ad xx)) [0, 1] rfl) (dT (hD.sub (ws' := (wHo q ad xx)) [0, 1] (by decide) rfl)) hG (ci := 0) rfl rfl rfl rfl (Nat.le_of_ble_eq_true rfl) dX1_takeLatest_7 ⟨Nat.zero_le _, Nat.zero_le _⟩ ?_
              refine lv_astore_n (lv' := [(2, .ref ((ad 6) 0)), (0, .ref (ad 8 0)), (1, .ref ((ad 0) 0))]) hx hb dX1_takeLatest_10 rfl hl (by decide) rfl (fun ls hl => ?_)
              refine lv_aload_n hx hb dX1_takeLatest_11 rfl (lv_at hl 1 rfl) ?_
              refine va_get (D := D) (ci := 0) (v := .int 1) (C := RX1) (T := TX1) (N := 3) hx hb hts iX1_takeLatest_X1 hown hG.1 hP 0 rfl rfl 2 (by decide) (hts (.fieldLink RX1 22 "MillComplaints$History" "size" "I") (List.mem_of_getElem? (i := 1) rfl)) (fun _ h9 => h9) (by show some (Value.int (xx 8 0 1)) = _; rw [hz_109]) dX1_takeLatest_12 ?_
              refine lv_if_le (tgt := 37) hx hb dX1_takeLatest_15 (by decide) (fun c_110 => absurd c_110 (by decide)) (fun _ => ?_)
              refine lv_aload_n hx hb dX1_takeLatest_18 rfl (lv_at hl 0 rfl) ?_
              refine lv_ifnull hx hb dX1_takeLatest_19 ?_
              refine lv_aload_n hx hb dX1_takeLatest_22 rfl (lv_at hl 2 rfl) ?_
              refine lv_aload_n hx hb dX1_takeLatest_23 rfl (lv_at hl 0 rfl) ?_
              have hM := MX4_copyFrom' l D q (ad 0) (xx 0) (ad 6) (xx 6)
              refine mu_V (D := D) (ws := (wHK q ad xx 0)) (ws' := (wHK q ad (setV xx 0 (xx 6)) 0)) (rest := []) (As := [.ref ((ad 6) 0)]) hx hb hml hown hts hl hM gX1_takeLatest_X4_copyFrom rfl kX4_copyFrom ⟨Nat.le_of_ble_eq_true rfl, Nat.le_of_ble_eq_true rfl⟩ rfl rfl hP hD hS hG [42, 43, 44, 45, 46, 47, 48, 49, 50, 51, 32, 33, 34, 35, 36, 37, 38, 39, 40, 41] rfl rfl (by decide) [0, 1, 2, 3, 4, 5, 6, 7, 8, 9, 10, 11, 12, 13, 14, 15, 16, 17, 18, 19, 20, 21, 22, 23, 24, 25, 26, 27, 28, 29, 30, 31, 62, 63, 64, 65, 66, 67, 68, 69, 70, 71, 52, 53, 54, 55, 56, 57, 58, 59, 60, 61] rfl (by decide) rfl (ci := 2) rfl rfl rfl rfl (Nat.le_of_ble_eq_true rfl) dX1_takeLatest_24 ⟨Nat.zero_le _, Nat.zero_le _⟩ (fun H locs hP hD hS => ?_)
              obtain ⟨xx_111, exx_111⟩ : ∃ z, z = (setV xx 0 (xx 6)) := ⟨_, rfl⟩
              rw [← exx_111] at hP hD
              replace hR := lt_e hR exx_111
              have ho_112 : (xx_111 8 0 0) = 3 := by rw [exx_111]; exact ho_106
              have ho_113 : (xx_111 8 0 1) = 1 := by rw [exx_111]; exact hz_109
              refine lv_aload_n hx hb dX1_takeLatest_27 rfl (lv_at hl 1 rfl) ?_
              refine lv_dup hx hb dX1_takeLatest_28 rfl ?_
              refine va_get (D := D) (ci := 0) (v := .int 1) (C := RX1) (T := TX1) (N := 3) hx hb hts iX1_takeLatest_X1 hown hG.1 hP 0 rfl rfl 2 (by decide) (hts (.fieldLink RX1 22 "MillComplaints$History" "size" "I") (List.mem_of_getElem? (i := 1) rfl)) (fun _ h9 => h9) (by show some (Value.int (xx_111 8 0 1)) = _; rw [ho_113]) dX1_takeLatest_29 ?_
              refine lv_iconst (v := 1) hx hb dX1_takeLatest_32 (by decide) ?_
              refine lv_isub hx hb dX1_takeLatest_33 ?_
              refine lv_tope (y := 0) (by decide) ?_
              refine va_put (D := D) (ci := 0) (v := .int 0) (ty := .int) (C := RX1) (T := TX1) (N := 3) hx hb hts iX1_takeLatest_X1 tyX1 tyX1_ok nmX1 hown hG.1 hP hD hS 0 rfl rfl 2 (by decide) (hts (.fieldLink RX1 22 "MillComplaints$History" "size" "I") (List.mem_of_getElem? (i := 1) rfl)) (fun _ h9 => h9) rfl (by decide +kernel) rfl rfl (Nat.le_of_ble_eq_true rfl) dX1_takeLatest_34 (fun H locs hP hD hS => ?_)
              have hP : va_P D vwCl (wHK q ad (setV xx_111 8 (setA (xx_111 8) 0 (upd (xx_111 8 0) 1 0))) 0) H := hP
              have hD : va_D A (wHK q ad (setV xx_111 8 (setA (xx_111 8) 0 (upd (xx_111 8 0) 1 0))) 0) := hD
              obtain ⟨xx_114, exx_114⟩ : ∃ z, z = (setV xx_111 8 (setA (xx_111 8) 0 (upd (xx_111 8 0) 1 0))) := ⟨_, rfl⟩
              rw [← exx_114] at hP hD
              replace hR := lt_e hR exx_114
              have ho_115 : (xx_114 8 0 0) = 3 := by rw [exx_114]; exact ho_112
              have ho_116 : (xx_114 8 0 1) = 0 := by rw [exx_114]; rfl
              subst hR
              exact mu_vret hx hb hr hk hA hS hP dX1_takeLatest_37
            · rw [if_neg hz_109] at hR
              by_cases hz_117 : (xx 8 0 1) = 2
              · rw [if_pos hz_117] at hR
                refine lv_aload_n hx hb dX1_takeLatest_0 rfl (lv_at hl 0 rfl) ?_
                refine lv_aload_n hx hb dX1_takeLatest_1 rfl (lv_at hl 0 rfl) ?_
                refine va_get (D := D) (ci := 0) (v := .int 2) (C := RX1) (T := TX1) (N := 3) hx hb hts iX1_takeLatest_X1 hown hG.1 hP 0 rfl rfl 2 (by decide) (hts (.fieldLink RX1 22 "MillComplaints$History" "size" "I") (List.mem_of_getElem? (i := 1) rfl)) (fun _ h9 => h9) (by show some (Value.int (xx 8 0 1)) = _; rw [hz_117]) dX1_takeLatest_2 ?_
                refine lv_iconst (v := 1) hx hb dX1_takeLatest_5 (by decide) ?_
                refine lv_isub hx hb dX1_takeLatest_6 ?_
                refine lv_tope (y := 1) (by decide) ?_
                refine ro_V (v := .ref ((ad 3) 0)) (rest := []) (As := [.int 1]) hx hb hml hown hts hl (MX1_stateAt_3_1 l D q ad xx ho_106) gX1_takeLatest_X1_stateAt rfl kX1_stateAt ⟨Nat.le_of_ble_eq_true rfl, Nat.le_of_ble_eq_true rfl⟩ rfl rfl (hP.sub (ws' := (wHo q ad xx)) [0, 1] rfl) (dT (hD.sub (ws' := (wHo q ad xx)) [0, 1] (by decide) rfl)) hG (ci := 0) rfl rfl rfl rfl (Nat.le_of_ble_eq_true rfl) dX1_takeLatest_7 ⟨Nat.zero_le _, Nat.zero_le _⟩ ?_
                refine lv_astore_n (lv' := [(2, .ref ((ad 3) 0)), (0, .ref (ad 8 0)), (1, .ref ((ad 0) 0))]) hx hb dX1_takeLatest_10 rfl hl (by decide) rfl (fun ls hl => ?_)
                refine lv_aload_n hx hb dX1_takeLatest_11 rfl (lv_at hl 1 rfl) ?_
                refine va_get (D := D) (ci := 0) (v := .int 2) (C := RX1) (T := TX1) (N := 3) hx hb hts iX1_takeLatest_X1 hown hG.1 hP 0 rfl rfl 2 (by decide) (hts (.fieldLink RX1 22 "MillComplaints$History" "size" "I") (List.mem_of_getElem? (i := 1) rfl)) (fun _ h9 => h9) (by show some (Value.int (xx 8 0 1)) = _; rw [hz_117]) dX1_takeLatest_12 ?_
                refine lv_if_le (tgt := 37) hx hb dX1_takeLatest_15 (by decide) (fun c_118 => absurd c_118 (by decide)) (fun _ => ?_)
                refine lv_aload_n hx hb dX1_takeLatest_18 rfl (lv_at hl 0 rfl) ?_
                refine lv_ifnull hx hb dX1_takeLatest_19 ?_
                refine lv_aload_n hx hb dX1_takeLatest_22 rfl (lv_at hl 2 rfl) ?_
                refine lv_aload_n hx hb dX1_takeLatest_23 rfl (lv_at hl 0 rfl) ?_
                have hM := MX4_copyFrom' l D q (ad 0) (xx 0) (ad 3) (xx 3)
                refine mu_V (D := D) (ws := (wHK q ad xx 0)) (ws' := (wHK q ad (setV xx 0 (xx 3)) 0)) (rest := []) (As := [.ref ((ad 3) 0)]) hx hb hml hown hts hl hM gX1_takeLatest_X4_copyFrom rfl kX4_copyFrom ⟨Nat.le_of_ble_eq_true rfl, Nat.le_of_ble_eq_true rfl⟩ rfl rfl hP hD hS hG [42, 43, 44, 45, 46, 47, 48, 49, 50, 51, 2, 3, 4, 5, 6, 7, 8, 9, 10, 11] rfl rfl (by decide) [0, 1, 62, 63, 64, 65, 66, 67, 68, 69, 70, 71, 12, 13, 14, 15, 16, 17, 18, 19, 20, 21, 22, 23, 24, 25, 26, 27, 28, 29, 30, 31, 32, 33, 34, 35, 36, 37, 38, 39, 40, 41, 52, 53, 54, 55, 56, 57, 58, 59, 60, 61] rfl (by decide) rfl (ci := 2) rfl rfl rfl rfl (Nat.le_of_ble_eq_true rfl) dX1_takeLatest_24 ⟨Nat.zero_le _, Nat.zero_le _⟩ (fun H locs hP hD hS => ?_)
                obtain ⟨xx_119, exx_119⟩ : ∃ z, z = (setV xx 0 (xx 3)) := ⟨_, rfl⟩
                rw [← exx_119] at hP hD
                replace hR := lt_e hR exx_119
                have ho_120 : (xx_119 8 0 0) = 3 := by rw [exx_119]; exact ho_106
                have ho_121 : (xx_119 8 0 1) = 2 := by rw [exx_119]; exact hz_117
                refine lv_aload_n hx hb dX1_takeLatest_27 rfl (lv_at hl 1 rfl) ?_
                refine lv_dup hx hb dX1_takeLatest_28 rfl ?_
                refine va_get (D := D) (ci := 0) (v := .int 2) (C := RX1) (T := TX1) (N := 3) hx hb hts iX1_takeLatest_X1 hown hG.1 hP 0 rfl rfl 2 (by decide) (hts (.fieldLink RX1 22 "MillComplaints$History" "size" "I") (List.mem_of_getElem? (i := 1) rfl)) (fun _ h9 => h9) (by show some (Value.int (xx_119 8 0 1)) = _; rw [ho_121]) dX1_takeLatest_29 ?_
                refine lv_iconst (v := 1) hx hb dX1_takeLatest_32 (by decide) ?_
                refine lv_isub hx hb dX1_takeLatest_33 ?_
                refine lv_tope (y := 1) (by decide) ?_
                refine va_put (D := D) (ci := 0) (v := .int 1) (ty := .int) (C := RX1) (T := TX1) (N := 3) hx hb hts iX1_takeLatest_X1 tyX1 tyX1_ok nmX1 hown hG.1 hP hD hS 0 rfl rfl 2 (by decide) (hts (.fieldLink RX1 22 "MillComplaints$History" "size" "I") (List.mem_of_getElem? (i := 1) rfl)) (fun _ h9 => h9) rfl (by decide +kernel) rfl rfl (Nat.le_of_ble_eq_true rfl) dX1_takeLatest_34 (fun H locs hP hD hS => ?_)
                have hP : va_P D vwCl (wHK q ad (setV xx_119 8 (setA (xx_119 8) 0 (upd (xx_119 8 0) 1 1))) 0) H := hP
                have hD : va_D A (wHK q ad (setV xx_119 8 (setA (xx_119 8) 0 (upd (xx_119 8 0) 1 1))) 0) := hD
                obtain ⟨xx_122, exx_122⟩ : ∃ z, z = (setV xx_119 8 (setA (xx_119 8) 0 (upd (xx_119 8 0) 1 1))) := ⟨_, rfl⟩
                rw [← exx_122] at hP hD
                replace hR := lt_e hR exx_122
                have ho_123 : (xx_122 8 0 0) = 3 := by rw [exx_122]; exact ho_120
                have ho_124 : (xx_122 8 0 1) = 1 := by rw [exx_122]; rfl
                subst hR
                exact mu_vret hx hb hr hk hA hS hP dX1_takeLatest_37
              · rw [if_neg hz_117] at hR
                by_cases hz_125 : (xx 8 0 1) = 3
                · rw [if_pos hz_125] at hR
                  refine lv_aload_n hx hb dX1_takeLatest_0 rfl (lv_at hl 0 rfl) ?_
                  refine lv_aload_n hx hb dX1_takeLatest_1 rfl (lv_at hl 0 rfl) ?_
                  refine va_get (D := D) (ci := 0) (v := .int 3) (C := RX1) (T := TX1) (N := 3) hx hb hts iX1_takeLatest_X1 hown hG.1 hP 0 rfl rfl 2 (by decide) (hts (.fieldLink RX1 22 "MillComplaints$History" "size" "I") (List.mem_of_getElem? (i := 1) rfl)) (fun _ h9 => h9) (by show some (Value.int (xx 8 0 1)) = _; rw [hz_125]) dX1_takeLatest_2 ?_
                  refine lv_iconst (v := 1) hx hb dX1_takeLatest_5 (by decide) ?_
                  refine lv_isub hx hb dX1_takeLatest_6 ?_
                  refine lv_tope (y := 2) (by decide) ?_
                  refine ro_V (v := .ref ((ad 4) 0)) (rest := []) (As := [.int 2]) hx hb hml hown hts hl (MX1_stateAt_3_2 l D q ad xx ho_106) gX1_takeLatest_X1_stateAt rfl kX1_stateAt ⟨Nat.le_of_ble_eq_true rfl, Nat.le_of_ble_eq_true rfl⟩ rfl rfl (hP.sub (ws' := (wHo q ad xx)) [0, 1] rfl) (dT (hD.sub (ws' := (wHo q ad xx)) [0, 1] (by decide) rfl)) hG (ci := 0) rfl rfl rfl rfl (Nat.le_of_ble_eq_true rfl) dX1_takeLatest_7 ⟨Nat.zero_le _, Nat.zero_le _⟩ ?_
                  refine lv_astore_n (lv' := [(2, .ref ((ad 4) 0)), (0, .ref (ad 8 0)), (1, .ref ((ad 0) 0))]) hx hb dX1_takeLatest_10 rfl hl (by decide) rfl (fun ls hl => ?_)
                  refine lv_aload_n hx hb dX1_takeLatest_11 rfl (lv_at hl 1 rfl) ?_
                  refine va_get (D := D) (ci := 0) (v := .int 3) (C := RX1) (T := TX1) (N := 3) hx hb hts iX1_takeLatest_X1 hown hG.1 hP 0 rfl rfl 2 (by decide) (hts (.fieldLink RX1 22 "MillComplaints$History" "size" "I") (List.mem_of_getElem? (i := 1) rfl)) (fun _ h9 => h9) (by show some (Value.int (xx 8 0 1)) = _; rw [hz_125]) dX1_takeLatest_12 ?_
                  refine lv_if_le (tgt := 37) hx hb dX1_takeLatest_15 (by decide) (fun c_126 => absurd c_126 (by decide)) (fun _ => ?_)
                  refine lv_aload_n hx hb dX1_takeLatest_18 rfl (lv_at hl 0 rfl) ?_
                  refine lv_ifnull hx hb dX1_takeLatest_19 ?_
                  refine lv_aload_n hx hb dX1_takeLatest_22 rfl (lv_at hl 2 rfl) ?_
                  refine lv_aload_n hx hb dX1_takeLatest_23 rfl (lv_at hl 0 rfl) ?_
                  have hM := MX4_copyFrom' l D q (ad 0) (xx 0) (ad 4) (xx 4)
                  refine mu_V (D := D) (ws := (wHK q ad xx 0)) (ws' := (wHK q ad (setV xx 0 (xx 4)) 0)) (rest := []) (As := [.ref ((ad 4) 0)]) hx hb hml hown hts hl hM gX1_takeLatest_X4_copyFrom rfl kX4_copyFrom ⟨Nat.le_of_ble_eq_true rfl, Nat.le_of_ble_eq_true rfl⟩ rfl rfl hP hD hS hG [42, 43, 44, 45, 46, 47, 48, 49, 50, 51, 12, 13, 14, 15, 16, 17, 18, 19, 20, 21] rfl rfl (by decide) [0, 1, 2, 3, 4, 5, 6, 7, 8, 9, 10, 11, 62, 63, 64, 65, 66, 67, 68, 69, 70, 71, 22, 23, 24, 25, 26, 27, 28, 29, 30, 31, 32, 33, 34, 35, 36, 37, 38, 39, 40, 41, 52, 53, 54, 55, 56, 57, 58, 59, 60, 61] rfl (by decide) rfl (ci := 2) rfl rfl rfl rfl (Nat.le_of_ble_eq_true rfl) dX1_takeLatest_24 ⟨Nat.zero_le _, Nat.zero_le _⟩ (fun H locs hP hD hS => ?_)
                  obtain ⟨xx_127, exx_127⟩ : ∃ z, z = (setV xx 0 (xx 4)) := ⟨_, rfl⟩
                  rw [← exx_127] at hP hD
                  replace hR := lt_e hR exx_127
                  have ho_128 : (xx_127 8 0 0) = 3 := by rw [exx_127]; exact ho_106
                  have ho_129 : (xx_127 8 0 1) = 3 := by rw [exx_127]; exact hz_125
                  refine lv_aload_n hx hb dX1_takeLatest_27 rfl (lv_at hl 1 rfl) ?_
                  refine lv_dup hx hb dX1_takeLatest_28 rfl ?_
                  refine va_get (D := D) (ci := 0) (v := .int 3) (C := RX1) (T := TX1) (N := 3) hx hb hts iX1_takeLatest_X1 hown hG.1 hP 0 rfl rfl 2 (by decide) (hts (.fieldLink RX1 22 "MillComplaints$History" "size" "I") (List.mem_of_getElem? (i := 1) rfl)) (fun _ h9 => h9) (by show some (Value.int (xx_127 8 0 1)) = _; rw [ho_129]) dX1_takeLatest_29 ?_
                  refine lv_iconst (v := 1) hx hb dX1_takeLatest_32 (by decide) ?_
                  refine lv_isub hx hb dX1_takeLatest_33 ?_
                  refine lv_tope (y := 2) (by decide) ?_
                  refine va_put (D := D) (ci := 0) (v := .int 2) (ty := .int) (C := RX1) (T := TX1) (N := 3) hx hb hts iX1_takeLatest_X1 tyX1 tyX1_ok nmX1 hown hG.1 hP hD hS 0 rfl rfl 2 (by decide) (hts (.fieldLink RX1 22 "MillComplaints$History" "size" "I") (List.mem_of_getElem? (i := 1) rfl)) (fun _ h9 => h9) rfl (by decide +kernel) rfl rfl (Nat.le_of_ble_eq_true rfl) dX1_takeLatest_34 (fun H locs hP hD hS => ?_)
                  have hP : va_P D vwCl (wHK q ad (setV xx_127 8 (setA (xx_127 8) 0 (upd (xx_127 8 0) 1 2))) 0) H := hP
                  have hD : va_D A (wHK q ad (setV xx_127 8 (setA (xx_127 8) 0 (upd (xx_127 8 0) 1 2))) 0) := hD
                  obtain ⟨xx_130, exx_130⟩ : ∃ z, z = (setV xx_127 8 (setA (xx_127 8) 0 (upd (xx_127 8 0) 1 2))) := ⟨_, rfl⟩
                  rw [← exx_130] at hP hD
                  replace hR := lt_e hR exx_130
                  have ho_131 : (xx_130 8 0 0) = 3 := by rw [exx_130]; exact ho_128
                  have ho_132 : (xx_130 8 0 1) = 2 := by rw [exx_130]; rfl
                  subst hR
                  exact mu_vret hx hb hr hk hA hS hP dX1_takeLatest_37
                · rw [if_neg hz_125] at hR
                  by_cases hz_133 : (xx 8 0 1) = 4
                  · rw [if_pos hz_133] at hR
                    refine lv_aload_n hx hb dX1_takeLatest_0 rfl (lv_at hl 0 rfl) ?_
                    refine lv_aload_n hx hb dX1_takeLatest_1 rfl (lv_at hl 0 rfl) ?_
                    refine va_get (D := D) (ci := 0) (v := .int 4) (C := RX1) (T := TX1) (N := 3) hx hb hts iX1_takeLatest_X1 hown hG.1 hP 0 rfl rfl 2 (by decide) (hts (.fieldLink RX1 22 "MillComplaints$History" "size" "I") (List.mem_of_getElem? (i := 1) rfl)) (fun _ h9 => h9) (by show some (Value.int (xx 8 0 1)) = _; rw [hz_133]) dX1_takeLatest_2 ?_
                    refine lv_iconst (v := 1) hx hb dX1_takeLatest_5 (by decide) ?_
                    refine lv_isub hx hb dX1_takeLatest_6 ?_
                    refine lv_tope (y := 3) (by decide) ?_
                    refine ro_V (v := .ref ((ad 5) 0)) (rest := []) (As := [.int 3]) hx hb hml hown hts hl (MX1_stateAt_3_3 l D q ad xx ho_106) gX1_takeLatest_X1_stateAt rfl kX1_stateAt ⟨Nat.le_of_ble_eq_true rfl, Nat.le_of_ble_eq_true rfl⟩ rfl rfl (hP.sub (ws' := (wHo q ad xx)) [0, 1] rfl) (dT (hD.sub (ws' := (wHo q ad xx)) [0, 1] (by decide) rfl)) hG (ci := 0) rfl rfl rfl rfl (Nat.le_of_ble_eq_true rfl) dX1_takeLatest_7 ⟨Nat.zero_le _, Nat.zero_le _⟩ ?_
                    refine lv_astore_n (lv' := [(2, .ref ((ad 5) 0)), (0, .ref (ad 8 0)), (1, .ref ((ad 0) 0))]) hx hb dX1_takeLatest_10 rfl hl (by decide) rfl (fun ls hl => ?_)
                    refine lv_aload_n hx hb dX1_takeLatest_11 rfl (lv_at hl 1 rfl) ?_
                    refine va_get (D := D) (ci := 0) (v := .int 4) (C := RX1) (T := TX1) (N := 3) hx hb hts iX1_takeLatest_X1 hown hG.1 hP 0 rfl rfl 2 (by decide) (hts (.fieldLink RX1 22 "MillComplaints$History" "size" "I") (List.mem_of_getElem? (i := 1) rfl)) (fun _ h9 => h9) (by show some (Value.int (xx 8 0 1)) = _; rw [hz_133]) dX1_takeLatest_12 ?_
                    refine lv_if_le (tgt := 37) hx hb dX1_takeLatest_15 (by decide) (fun c_134 => absurd c_134 (by decide)) (fun _ => ?_)
                    refine lv_aload_n hx hb dX1_takeLatest_18 rfl (lv_at hl 0 rfl) ?_
                    refine lv_ifnull hx hb dX1_takeLatest_19 ?_
                    refine lv_aload_n hx hb dX1_takeLatest_22 rfl (lv_at hl 2 rfl) ?_
                    refine lv_aload_n hx hb dX1_takeLatest_23 rfl (lv_at hl 0 rfl) ?_
                    have hM := MX4_copyFrom' l D q (ad 0) (xx 0) (ad 5) (xx 5)
                    refine mu_V (D := D) (ws := (wHK q ad xx 0)) (ws' := (wHK q ad (setV xx 0 (xx 5)) 0)) (rest := []) (As := [.ref ((ad 5) 0)]) hx hb hml hown hts hl hM gX1_takeLatest_X4_copyFrom rfl kX4_copyFrom ⟨Nat.le_of_ble_eq_true rfl, Nat.le_of_ble_eq_true rfl⟩ rfl rfl hP hD hS hG [42, 43, 44, 45, 46, 47, 48, 49, 50, 51, 22, 23, 24, 25, 26, 27, 28, 29, 30, 31] rfl rfl (by decide) [0, 1, 2, 3, 4, 5, 6, 7, 8, 9, 10, 11, 12, 13, 14, 15, 16, 17, 18, 19, 20, 21, 62, 63, 64, 65, 66, 67, 68, 69, 70, 71, 32, 33, 34, 35, 36, 37, 38, 39, 40, 41, 52, 53, 54, 55, 56, 57, 58, 59, 60, 61] rfl (by decide) rfl (ci := 2) rfl rfl rfl rfl (Nat.le_of_ble_eq_true rfl) dX1_takeLatest_24 ⟨Nat.zero_le _, Nat.zero_le _⟩ (fun H locs hP hD hS => ?_)
                    obtain ⟨xx_135, exx_135⟩ : ∃ z, z = (setV xx 0 (xx 5)) := ⟨_, rfl⟩
                    rw [← exx_135] at hP hD
                    replace hR := lt_e hR exx_135
                    have ho_136 : (xx_135 8 0 0) = 3 := by rw [exx_135]; exact ho_106
                    have ho_137 : (xx_135 8 0 1) = 4 := by rw [exx_135]; exact hz_133
                    refine lv_aload_n hx hb dX1_takeLatest_27 rfl (lv_at hl 1 rfl) ?_
                    refine lv_dup hx hb dX1_takeLatest_28 rfl ?_
                    refine va_get (D := D) (ci := 0) (v := .int 4) (C := RX1) (T := TX1) (N := 3) hx hb hts iX1_takeLatest_X1 hown hG.1 hP 0 rfl rfl 2 (by decide) (hts (.fieldLink RX1 22 "MillComplaints$History" "size" "I") (List.mem_of_getElem? (i := 1) rfl)) (fun _ h9 => h9) (by show some (Value.int (xx_135 8 0 1)) = _; rw [ho_137]) dX1_takeLatest_29 ?_
                    refine lv_iconst (v := 1) hx hb dX1_takeLatest_32 (by decide) ?_
                    refine lv_isub hx hb dX1_takeLatest_33 ?_
                    refine lv_tope (y := 3) (by decide) ?_
                    refine va_put (D := D) (ci := 0) (v := .int 3) (ty := .int) (C := RX1) (T := TX1) (N := 3) hx hb hts iX1_takeLatest_X1 tyX1 tyX1_ok nmX1 hown hG.1 hP hD hS 0 rfl rfl 2 (by decide) (hts (.fieldLink RX1 22 "MillComplaints$History" "size" "I") (List.mem_of_getElem? (i := 1) rfl)) (fun _ h9 => h9) rfl (by decide +kernel) rfl rfl (Nat.le_of_ble_eq_true rfl) dX1_takeLatest_34 (fun H locs hP hD hS => ?_)
                    have hP : va_P D vwCl (wHK q ad (setV xx_135 8 (setA (xx_135 8) 0 (upd (xx_135 8 0) 1 3))) 0) H := hP
                    have hD : va_D A (wHK q ad (setV xx_135 8 (setA (xx_135 8) 0 (upd (xx_135 8 0) 1 3))) 0) := hD
                    obtain ⟨xx_138, exx_138⟩ : ∃ z, z = (setV xx_135 8 (setA (xx_135 8) 0 (upd (xx_135 8 0) 1 3))) := ⟨_, rfl⟩
                    rw [← exx_138] at hP hD
                    replace hR := lt_e hR exx_138
                    have ho_139 : (xx_138 8 0 0) = 3 := by rw [exx_138]; exact ho_136
                    have ho_140 : (xx_138 8 0 1) = 3 := by rw [exx_138]; rfl
                    subst hR
                    exact mu_vret hx hb hr hk hA hS hP dX1_takeLatest_37
                  · rw [if_neg hz_133] at hR
                    exact (rg_z hrg hz_107 hz_109 hz_117 hz_125 hz_133).elim
        · rw [if_neg ho_106] at hR
          exact (rg_o hrg ho_1 ho_36 ho_71 ho_106).elim
