def mX4_copyFrom (v w : Nat → Nat → Int32) : (Nat → Nat → Int32) := (lt (setA v 0 (w 0)) (fun v_1 => (lt (setA v_1 1 (w 1)) (fun v_2 => (lt (setA v_2 2 (w 2)) (fun v_3 => (lt (setA v_3 9 (upd (v_3 9) 0 (w 9 0))) (fun v_4 => (lt (setA v_4 3 (w 3)) (fun v_5 => (lt (setA v_5 4 (w 4)) (fun v_6 => (lt (setA v_6 5 (w 5)) (fun v_7 => (lt (setA v_7 10 (upd (v_7 10) 0 (w 10 0))) (fun v_8 => (lt (setA v_8 6 (w 6)) (fun v_9 => (lt (setA v_9 7 (w 7)) (fun v_10 => (lt (setA v_10 8 (w 8)) (fun v_11 => v_11))))))))))))))))))))))
theorem kX4_copyFrom : yX4_copyFrom.cls = RX4 ∧ yX4_copyFrom.cls ≠ "java/lang/invoke/MethodHandle" ∧ yX4_copyFrom.cls ≠ "java/lang/invoke/VarHandle" ∧ (parseMethodDescriptor yX4_copyFrom.desc).map (fun d => d.parameters.length) = some 1 := by decide +kernel
theorem iX4_copyFrom_X4 : ∀ w ∈ wsX40, w ∈ wsX4_copyFrom := fun w h => (List.mem_cons_of_mem _ (List.mem_append_right _ h))
theorem jnX4_copyFrom_X5_copyRow : Cond.initialized yX5_copyRow.cls ∈ wsX4_copyFrom := (List.mem_of_getElem? (i := 13) rfl)
theorem jsX4_copyFrom_X5_copyRow : Cond.static yX5_copyRow ∈ wsX4_copyFrom := (List.mem_of_getElem? (i := 12) rfl)
set_option maxHeartbeats 4000000 in
set_option maxRecDepth 100000 in
theorem MX4_copyFrom (l : Launch) (D : va_G) (q : Nat → ClassId) (h : Nat → Nat) (v : Nat → Nat → Int32) (g : Nat → Nat) (w : Nat → Nat → Int32)   : muM l D (tyq q) yX4_copyFrom wsX4_copyFrom ({ frames := 1, cells := 0, slots := 0, locals := 22 } : Room) [.ref (h 0), .ref (g 0)] (wVV q h v g w) none (wVV q h (mX4_copyFrom v w) g w) := by
  obtain ⟨R, hR⟩ : ∃ z, (mX4_copyFrom v w) = z := ⟨_, rfl⟩
  rw [hR]
  unfold mX4_copyFrom at hR
  refine muM.of (cc := cX4_copyFrom) (maxL := 2) (ret := none) (by decide) rfl (Nat.le_of_ble_eq_true rfl) ?_
  intro p e s m below meth c ls A hx hb hr hk hml hown hts hP hD hG hA hl
  have hS : va_S A s.heap s.heap [] := va_S.rf
  have hl : lv_has ls 2 [(0, .ref (h 0)), (1, .ref (g 0))] := hl
  refine lv_aload_n hx hb dX4_copyFrom_0 rfl (lv_at hl 1 rfl) ?_
  refine va_get (D := D) (ci := 2) (v := .ref (g 1)) (C := RX4) (T := TX4) (N := 11) hx hb hts iX4_copyFrom_X4 hown hG.1 hP 10 rfl rfl 0 (by decide) (hts (.fieldLink RX4 9 "MillComplaints$Village" "winds" "[I") (List.mem_of_getElem? (i := 1) rfl)) (fun _ h9 => h9) rfl dX4_copyFrom_1 ?_
  refine lv_aload_n hx hb dX4_copyFrom_4 rfl (lv_at hl 0 rfl) ?_
  refine va_get (D := D) (ci := 2) (v := .ref (h 1)) (C := RX4) (T := TX4) (N := 11) hx hb hts iX4_copyFrom_X4 hown hG.1 hP 0 rfl rfl 0 (by decide) (hts (.fieldLink RX4 9 "MillComplaints$Village" "winds" "[I") (List.mem_of_getElem? (i := 1) rfl)) (fun _ h9 => h9) rfl dX4_copyFrom_5 ?_
  have hM := MX5_copyRow l D q (g 1) (h 1) 24 (w 0) (v 0) (by decide)
  refine mu_SN (D := D) (ws := (wVV q h v g w)) (ws' := (wVV q h (setA v 0 (w 0)) g w)) (rest := []) (As := [.ref (g 1), .ref (h 1)]) hx hb hml hown hts hl hM ggX4_copyFrom_X5_copyRow rfl kX5_copyRow ⟨Nat.le_of_ble_eq_true rfl, Nat.le_of_ble_eq_true rfl⟩ rfl rfl (nwm_0 hG) jnX4_copyFrom_X5_copyRow jsX4_copyFrom_X5_copyRow hP hD hS hG [11, 1] rfl rfl (by decide) [0, 21, 2, 3, 4, 5, 6, 7, 8, 9, 10, 20, 12, 13, 14, 15, 16, 17, 18, 19] rfl (by decide) rfl rfl rfl (Nat.le_of_ble_eq_true rfl) dX4_copyFrom_8 ⟨Nat.zero_le _, Nat.zero_le _⟩ (fun H locs hP hD hS => ?_)
  obtain ⟨v_1, ev_1⟩ : ∃ z, z = (setA v 0 (w 0)) := ⟨_, rfl⟩
  rw [← ev_1] at hP hD
  replace hR := lt_e hR ev_1
  refine lv_aload_n hx hb dX4_copyFrom_11 rfl (lv_at hl 1 rfl) ?_
  refine va_get (D := D) (ci := 2) (v := .ref (g 2)) (C := RX4) (T := TX4) (N := 11) hx hb hts iX4_copyFrom_X4 hown hG.1 hP 10 rfl rfl 1 (by decide) (hts (.fieldLink RX4 18 "MillComplaints$Village" "settings" "[I") (List.mem_of_getElem? (i := 2) rfl)) (fun _ h9 => h9) rfl dX4_copyFrom_12 ?_
  refine lv_aload_n hx hb dX4_copyFrom_15 rfl (lv_at hl 0 rfl) ?_
  refine va_get (D := D) (ci := 2) (v := .ref (h 2)) (C := RX4) (T := TX4) (N := 11) hx hb hts iX4_copyFrom_X4 hown hG.1 hP 0 rfl rfl 1 (by decide) (hts (.fieldLink RX4 18 "MillComplaints$Village" "settings" "[I") (List.mem_of_getElem? (i := 2) rfl)) (fun _ h9 => h9) rfl dX4_copyFrom_16 ?_
  have hM := MX5_copyRow l D q (g 2) (h 2) 4 (w 1) (v_1 1) (by decide)
  refine mu_SN (D := D) (ws := (wVV q h v_1 g w)) (ws' := (wVV q h (setA v_1 1 (w 1)) g w)) (rest := []) (As := [.ref (g 2), .ref (h 2)]) hx hb hml hown hts hl hM ggX4_copyFrom_X5_copyRow rfl kX5_copyRow ⟨Nat.le_of_ble_eq_true rfl, Nat.le_of_ble_eq_true rfl⟩ rfl rfl (nwm_0 hG) jnX4_copyFrom_X5_copyRow jsX4_copyFrom_X5_copyRow hP hD hS hG [12, 2] rfl rfl (by decide) [0, 1, 21, 3, 4, 5, 6, 7, 8, 9, 10, 11, 20, 13, 14, 15, 16, 17, 18, 19] rfl (by decide) rfl rfl rfl (Nat.le_of_ble_eq_true rfl) dX4_copyFrom_19 ⟨Nat.zero_le _, Nat.zero_le _⟩ (fun H locs hP hD hS => ?_)
  obtain ⟨v_2, ev_2⟩ : ∃ z, z = (setA v_1 1 (w 1)) := ⟨_, rfl⟩
  rw [← ev_2] at hP hD
  replace hR := lt_e hR ev_2
  refine lv_aload_n hx hb dX4_copyFrom_22 rfl (lv_at hl 1 rfl) ?_
  refine va_get (D := D) (ci := 2) (v := .ref (g 3)) (C := RX4) (T := TX4) (N := 11) hx hb hts iX4_copyFrom_X4 hown hG.1 hP 10 rfl rfl 2 (by decide) (hts (.fieldLink RX4 21 "MillComplaints$Village" "tallies" "[I") (List.mem_of_getElem? (i := 3) rfl)) (fun _ h9 => h9) rfl dX4_copyFrom_23 ?_
  refine lv_aload_n hx hb dX4_copyFrom_26 rfl (lv_at hl 0 rfl) ?_
  refine va_get (D := D) (ci := 2) (v := .ref (h 3)) (C := RX4) (T := TX4) (N := 11) hx hb hts iX4_copyFrom_X4 hown hG.1 hP 0 rfl rfl 2 (by decide) (hts (.fieldLink RX4 21 "MillComplaints$Village" "tallies" "[I") (List.mem_of_getElem? (i := 3) rfl)) (fun _ h9 => h9) rfl dX4_copyFrom_27 ?_
  have hM := MX5_copyRow l D q (g 3) (h 3) 6 (w 2) (v_2 2) (by decide)
  refine mu_SN (D := D) (ws := (wVV q h v_2 g w)) (ws' := (wVV q h (setA v_2 2 (w 2)) g w)) (rest := []) (As := [.ref (g 3), .ref (h 3)]) hx hb hml hown hts hl hM ggX4_copyFrom_X5_copyRow rfl kX5_copyRow ⟨Nat.le_of_ble_eq_true rfl, Nat.le_of_ble_eq_true rfl⟩ rfl rfl (nwm_0 hG) jnX4_copyFrom_X5_copyRow jsX4_copyFrom_X5_copyRow hP hD hS hG [13, 3] rfl rfl (by decide) [0, 1, 2, 21, 4, 5, 6, 7, 8, 9, 10, 11, 12, 20, 14, 15, 16, 17, 18, 19] rfl (by decide) rfl rfl rfl (Nat.le_of_ble_eq_true rfl) dX4_copyFrom_30 ⟨Nat.zero_le _, Nat.zero_le _⟩ (fun H locs hP hD hS => ?_)
  obtain ⟨v_3, ev_3⟩ : ∃ z, z = (setA v_2 2 (w 2)) := ⟨_, rfl⟩
  rw [← ev_3] at hP hD
  replace hR := lt_e hR ev_3
  refine lv_aload_n hx hb dX4_copyFrom_33 rfl (lv_at hl 0 rfl) ?_
  refine lv_aload_n hx hb dX4_copyFrom_34 rfl (lv_at hl 1 rfl) ?_
  refine va_get (D := D) (ci := 2) (v := .int (w 9 0)) (C := RX4) (T := TX4) (N := 11) hx hb hts iX4_copyFrom_X4 hown hG.1 hP 10 rfl rfl 3 (by decide) (hts (.fieldLink RX4 24 "MillComplaints$Village" "mills" "I") (List.mem_of_getElem? (i := 4) rfl)) (fun _ h9 => h9) rfl dX4_copyFrom_35 ?_
  refine va_put (D := D) (ci := 2) (v := .int (w 9 0)) (ty := .int) (C := RX4) (T := TX4) (N := 11) hx hb hts iX4_copyFrom_X4 tyX4 tyX4_ok nmX4 hown hG.1 hP hD hS 0 rfl rfl 3 (by decide) (hts (.fieldLink RX4 24 "MillComplaints$Village" "mills" "I") (List.mem_of_getElem? (i := 4) rfl)) (fun _ h9 => h9) rfl (by decide +kernel) rfl rfl (Nat.le_of_ble_eq_true rfl) dX4_copyFrom_38 (fun H locs hP hD hS => ?_)
  have hP : va_P D vwCl (wVV q h (setA v_3 9 (upd (v_3 9) 0 (w 9 0))) g w) H := hP
  have hD : va_D A (wVV q h (setA v_3 9 (upd (v_3 9) 0 (w 9 0))) g w) := hD
  obtain ⟨v_4, ev_4⟩ : ∃ z, z = (setA v_3 9 (upd (v_3 9) 0 (w 9 0))) := ⟨_, rfl⟩
  rw [← ev_4] at hP hD
  replace hR := lt_e hR ev_4
  refine lv_aload_n hx hb dX4_copyFrom_41 rfl (lv_at hl 1 rfl) ?_
  refine va_get (D := D) (ci := 2) (v := .ref (g 4)) (C := RX4) (T := TX4) (N := 11) hx hb hts iX4_copyFrom_X4 hown hG.1 hP 10 rfl rfl 4 (by decide) (hts (.fieldLink RX4 28 "MillComplaints$Village" "heights" "[I") (List.mem_of_getElem? (i := 5) rfl)) (fun _ h9 => h9) rfl dX4_copyFrom_42 ?_
  refine lv_aload_n hx hb dX4_copyFrom_45 rfl (lv_at hl 0 rfl) ?_
  refine va_get (D := D) (ci := 2) (v := .ref (h 4)) (C := RX4) (T := TX4) (N := 11) hx hb hts iX4_copyFrom_X4 hown hG.1 hP 0 rfl rfl 4 (by decide) (hts (.fieldLink RX4 28 "MillComplaints$Village" "heights" "[I") (List.mem_of_getElem? (i := 5) rfl)) (fun _ h9 => h9) rfl dX4_copyFrom_46 ?_
  have hM := MX5_copyRow l D q (g 4) (h 4) 4 (w 3) (v_4 3) (by decide)
  refine mu_SN (D := D) (ws := (wVV q h v_4 g w)) (ws' := (wVV q h (setA v_4 3 (w 3)) g w)) (rest := []) (As := [.ref (g 4), .ref (h 4)]) hx hb hml hown hts hl hM ggX4_copyFrom_X5_copyRow rfl kX5_copyRow ⟨Nat.le_of_ble_eq_true rfl, Nat.le_of_ble_eq_true rfl⟩ rfl rfl (nwm_0 hG) jnX4_copyFrom_X5_copyRow jsX4_copyFrom_X5_copyRow hP hD hS hG [14, 4] rfl rfl (by decide) [0, 1, 2, 3, 21, 5, 6, 7, 8, 9, 10, 11, 12, 13, 20, 15, 16, 17, 18, 19] rfl (by decide) rfl rfl rfl (Nat.le_of_ble_eq_true rfl) dX4_copyFrom_49 ⟨Nat.zero_le _, Nat.zero_le _⟩ (fun H locs hP hD hS => ?_)
  obtain ⟨v_5, ev_5⟩ : ∃ z, z = (setA v_4 3 (w 3)) := ⟨_, rfl⟩
  rw [← ev_5] at hP hD
  replace hR := lt_e hR ev_5
  refine lv_aload_n hx hb dX4_copyFrom_52 rfl (lv_at hl 1 rfl) ?_
  refine va_get (D := D) (ci := 2) (v := .ref (g 5)) (C := RX4) (T := TX4) (N := 11) hx hb hts iX4_copyFrom_X4 hown hG.1 hP 10 rfl rfl 5 (by decide) (hts (.fieldLink RX4 31 "MillComplaints$Village" "millYards" "[I") (List.mem_of_getElem? (i := 6) rfl)) (fun _ h9 => h9) rfl dX4_copyFrom_53 ?_
  refine lv_aload_n hx hb dX4_copyFrom_56 rfl (lv_at hl 0 rfl) ?_
  refine va_get (D := D) (ci := 2) (v := .ref (h 5)) (C := RX4) (T := TX4) (N := 11) hx hb hts iX4_copyFrom_X4 hown hG.1 hP 0 rfl rfl 5 (by decide) (hts (.fieldLink RX4 31 "MillComplaints$Village" "millYards" "[I") (List.mem_of_getElem? (i := 6) rfl)) (fun _ h9 => h9) rfl dX4_copyFrom_57 ?_
  have hM := MX5_copyRow l D q (g 5) (h 5) 4 (w 4) (v_5 4) (by decide)
  refine mu_SN (D := D) (ws := (wVV q h v_5 g w)) (ws' := (wVV q h (setA v_5 4 (w 4)) g w)) (rest := []) (As := [.ref (g 5), .ref (h 5)]) hx hb hml hown hts hl hM ggX4_copyFrom_X5_copyRow rfl kX5_copyRow ⟨Nat.le_of_ble_eq_true rfl, Nat.le_of_ble_eq_true rfl⟩ rfl rfl (nwm_0 hG) jnX4_copyFrom_X5_copyRow jsX4_copyFrom_X5_copyRow hP hD hS hG [15, 5] rfl rfl (by decide) [0, 1, 2, 3, 4, 21, 6, 7, 8, 9, 10, 11, 12, 13, 14, 20, 16, 17, 18, 19] rfl (by decide) rfl rfl rfl (Nat.le_of_ble_eq_true rfl) dX4_copyFrom_60 ⟨Nat.zero_le _, Nat.zero_le _⟩ (fun H locs hP hD hS => ?_)
  obtain ⟨v_6, ev_6⟩ : ∃ z, z = (setA v_5 4 (w 4)) := ⟨_, rfl⟩
  rw [← ev_6] at hP hD
  replace hR := lt_e hR ev_6
  refine lv_aload_n hx hb dX4_copyFrom_63 rfl (lv_at hl 1 rfl) ?_
  refine va_get (D := D) (ci := 2) (v := .ref (g 6)) (C := RX4) (T := TX4) (N := 11) hx hb hts iX4_copyFrom_X4 hown hG.1 hP 10 rfl rfl 6 (by decide) (hts (.fieldLink RX4 34 "MillComplaints$Village" "tied" "[I") (List.mem_of_getElem? (i := 7) rfl)) (fun _ h9 => h9) rfl dX4_copyFrom_64 ?_
  refine lv_aload_n hx hb dX4_copyFrom_67 rfl (lv_at hl 0 rfl) ?_
  refine va_get (D := D) (ci := 2) (v := .ref (h 6)) (C := RX4) (T := TX4) (N := 11) hx hb hts iX4_copyFrom_X4 hown hG.1 hP 0 rfl rfl 6 (by decide) (hts (.fieldLink RX4 34 "MillComplaints$Village" "tied" "[I") (List.mem_of_getElem? (i := 7) rfl)) (fun _ h9 => h9) rfl dX4_copyFrom_68 ?_
  have hM := MX5_copyRow l D q (g 6) (h 6) 4 (w 5) (v_6 5) (by decide)
  refine mu_SN (D := D) (ws := (wVV q h v_6 g w)) (ws' := (wVV q h (setA v_6 5 (w 5)) g w)) (rest := []) (As := [.ref (g 6), .ref (h 6)]) hx hb hml hown hts hl hM ggX4_copyFrom_X5_copyRow rfl kX5_copyRow ⟨Nat.le_of_ble_eq_true rfl, Nat.le_of_ble_eq_true rfl⟩ rfl rfl (nwm_0 hG) jnX4_copyFrom_X5_copyRow jsX4_copyFrom_X5_copyRow hP hD hS hG [16, 6] rfl rfl (by decide) [0, 1, 2, 3, 4, 5, 21, 7, 8, 9, 10, 11, 12, 13, 14, 15, 20, 17, 18, 19] rfl (by decide) rfl rfl rfl (Nat.le_of_ble_eq_true rfl) dX4_copyFrom_71 ⟨Nat.zero_le _, Nat.zero_le _⟩ (fun H locs hP hD hS => ?_)
  obtain ⟨v_7, ev_7⟩ : ∃ z, z = (setA v_6 5 (w 5)) := ⟨_, rfl⟩
  rw [← ev_7] at hP hD
  replace hR := lt_e hR ev_7
  refine lv_aload_n hx hb dX4_copyFrom_74 rfl (lv_at hl 0 rfl) ?_
  refine lv_aload_n hx hb dX4_copyFrom_75 rfl (lv_at hl 1 rfl) ?_
  refine va_get (D := D) (ci := 2) (v := .int (w 10 0)) (C := RX4) (T := TX4) (N := 11) hx hb hts iX4_copyFrom_X4 hown hG.1 hP 10 rfl rfl 7 (by decide) (hts (.fieldLink RX4 37 "MillComplaints$Village" "houses" "I") (List.mem_of_getElem? (i := 8) rfl)) (fun _ h9 => h9) rfl dX4_copyFrom_76 ?_
  refine va_put (D := D) (ci := 2) (v := .int (w 10 0)) (ty := .int) (C := RX4) (T := TX4) (N := 11) hx hb hts iX4_copyFrom_X4 tyX4 tyX4_ok nmX4 hown hG.1 hP hD hS 0 rfl rfl 7 (by decide) (hts (.fieldLink RX4 37 "MillComplaints$Village" "houses" "I") (List.mem_of_getElem? (i := 8) rfl)) (fun _ h9 => h9) rfl (by decide +kernel) rfl rfl (Nat.le_of_ble_eq_true rfl) dX4_copyFrom_79 (fun H locs hP hD hS => ?_)
  have hP : va_P D vwCl (wVV q h (setA v_7 10 (upd (v_7 10) 0 (w 10 0))) g w) H := hP
  have hD : va_D A (wVV q h (setA v_7 10 (upd (v_7 10) 0 (w 10 0))) g w) := hD
  obtain ⟨v_8, ev_8⟩ : ∃ z, z = (setA v_7 10 (upd (v_7 10) 0 (w 10 0))) := ⟨_, rfl⟩
  rw [← ev_8] at hP hD
  replace hR := lt_e hR ev_8
  refine lv_aload_n hx hb dX4_copyFrom_82 rfl (lv_at hl 1 rfl) ?_
  refine va_get (D := D) (ci := 2) (v := .ref (g 7)) (C := RX4) (T := TX4) (N := 11) hx hb hts iX4_copyFrom_X4 hown hG.1 hP 10 rfl rfl 8 (by decide) (hts (.fieldLink RX4 40 "MillComplaints$Village" "houseYards" "[I") (List.mem_of_getElem? (i := 9) rfl)) (fun _ h9 => h9) rfl dX4_copyFrom_83 ?_
  refine lv_aload_n hx hb dX4_copyFrom_86 rfl (lv_at hl 0 rfl) ?_
  refine va_get (D := D) (ci := 2) (v := .ref (h 7)) (C := RX4) (T := TX4) (N := 11) hx hb hts iX4_copyFrom_X4 hown hG.1 hP 0 rfl rfl 8 (by decide) (hts (.fieldLink RX4 40 "MillComplaints$Village" "houseYards" "[I") (List.mem_of_getElem? (i := 9) rfl)) (fun _ h9 => h9) rfl dX4_copyFrom_87 ?_
  have hM := MX5_copyRow l D q (g 7) (h 7) 10 (w 6) (v_8 6) (by decide)
  refine mu_SN (D := D) (ws := (wVV q h v_8 g w)) (ws' := (wVV q h (setA v_8 6 (w 6)) g w)) (rest := []) (As := [.ref (g 7), .ref (h 7)]) hx hb hml hown hts hl hM ggX4_copyFrom_X5_copyRow rfl kX5_copyRow ⟨Nat.le_of_ble_eq_true rfl, Nat.le_of_ble_eq_true rfl⟩ rfl rfl (nwm_0 hG) jnX4_copyFrom_X5_copyRow jsX4_copyFrom_X5_copyRow hP hD hS hG [17, 7] rfl rfl (by decide) [0, 1, 2, 3, 4, 5, 6, 21, 8, 9, 10, 11, 12, 13, 14, 15, 16, 20, 18, 19] rfl (by decide) rfl rfl rfl (Nat.le_of_ble_eq_true rfl) dX4_copyFrom_90 ⟨Nat.zero_le _, Nat.zero_le _⟩ (fun H locs hP hD hS => ?_)
  obtain ⟨v_9, ev_9⟩ : ∃ z, z = (setA v_8 6 (w 6)) := ⟨_, rfl⟩
  rw [← ev_9] at hP hD
  replace hR := lt_e hR ev_9
  refine lv_aload_n hx hb dX4_copyFrom_93 rfl (lv_at hl 1 rfl) ?_
  refine va_get (D := D) (ci := 2) (v := .ref (g 8)) (C := RX4) (T := TX4) (N := 11) hx hb hts iX4_copyFrom_X4 hown hG.1 hP 10 rfl rfl 9 (by decide) (hts (.fieldLink RX4 43 "MillComplaints$Village" "vain" "[I") (List.mem_of_getElem? (i := 10) rfl)) (fun _ h9 => h9) rfl dX4_copyFrom_94 ?_
  refine lv_aload_n hx hb dX4_copyFrom_97 rfl (lv_at hl 0 rfl) ?_
  refine va_get (D := D) (ci := 2) (v := .ref (h 8)) (C := RX4) (T := TX4) (N := 11) hx hb hts iX4_copyFrom_X4 hown hG.1 hP 0 rfl rfl 9 (by decide) (hts (.fieldLink RX4 43 "MillComplaints$Village" "vain" "[I") (List.mem_of_getElem? (i := 10) rfl)) (fun _ h9 => h9) rfl dX4_copyFrom_98 ?_
  have hM := MX5_copyRow l D q (g 8) (h 8) 10 (w 7) (v_9 7) (by decide)
  refine mu_SN (D := D) (ws := (wVV q h v_9 g w)) (ws' := (wVV q h (setA v_9 7 (w 7)) g w)) (rest := []) (As := [.ref (g 8), .ref (h 8)]) hx hb hml hown hts hl hM ggX4_copyFrom_X5_copyRow rfl kX5_copyRow ⟨Nat.le_of_ble_eq_true rfl, Nat.le_of_ble_eq_true rfl⟩ rfl rfl (nwm_0 hG) jnX4_copyFrom_X5_copyRow jsX4_copyFrom_X5_copyRow hP hD hS hG [18, 8] rfl rfl (by decide) [0, 1, 2, 3, 4, 5, 6, 7, 21, 9, 10, 11, 12, 13, 14, 15, 16, 17, 20, 19] rfl (by decide) rfl rfl rfl (Nat.le_of_ble_eq_true rfl) dX4_copyFrom_101 ⟨Nat.zero_le _, Nat.zero_le _⟩ (fun H locs hP hD hS => ?_)
  obtain ⟨v_10, ev_10⟩ : ∃ z, z = (setA v_9 7 (w 7)) := ⟨_, rfl⟩
  rw [← ev_10] at hP hD
  replace hR := lt_e hR ev_10
  refine lv_aload_n hx hb dX4_copyFrom_104 rfl (lv_at hl 1 rfl) ?_
  refine va_get (D := D) (ci := 2) (v := .ref (g 9)) (C := RX4) (T := TX4) (N := 11) hx hb hts iX4_copyFrom_X4 hown hG.1 hP 10 rfl rfl 10 (by decide) (hts (.fieldLink RX4 46 "MillComplaints$Village" "standing" "[I") (List.mem_of_getElem? (i := 11) rfl)) (fun _ h9 => h9) rfl dX4_copyFrom_105 ?_
  refine lv_aload_n hx hb dX4_copyFrom_108 rfl (lv_at hl 0 rfl) ?_
  refine va_get (D := D) (ci := 2) (v := .ref (h 9)) (C := RX4) (T := TX4) (N := 11) hx hb hts iX4_copyFrom_X4 hown hG.1 hP 0 rfl rfl 10 (by decide) (hts (.fieldLink RX4 46 "MillComplaints$Village" "standing" "[I") (List.mem_of_getElem? (i := 11) rfl)) (fun _ h9 => h9) rfl dX4_copyFrom_109 ?_
  have hM := MX5_copyRow l D q (g 9) (h 9) 80 (w 8) (v_10 8) (by decide)
  refine mu_SN (D := D) (ws := (wVV q h v_10 g w)) (ws' := (wVV q h (setA v_10 8 (w 8)) g w)) (rest := []) (As := [.ref (g 9), .ref (h 9)]) hx hb hml hown hts hl hM ggX4_copyFrom_X5_copyRow rfl kX5_copyRow ⟨Nat.le_of_ble_eq_true rfl, Nat.le_of_ble_eq_true rfl⟩ rfl rfl (nwm_0 hG) jnX4_copyFrom_X5_copyRow jsX4_copyFrom_X5_copyRow hP hD hS hG [19, 9] rfl rfl (by decide) [0, 1, 2, 3, 4, 5, 6, 7, 8, 21, 10, 11, 12, 13, 14, 15, 16, 17, 18, 20] rfl (by decide) rfl rfl rfl (Nat.le_of_ble_eq_true rfl) dX4_copyFrom_112 ⟨Nat.zero_le _, Nat.zero_le _⟩ (fun H locs hP hD hS => ?_)
  obtain ⟨v_11, ev_11⟩ : ∃ z, z = (setA v_10 8 (w 8)) := ⟨_, rfl⟩
  rw [← ev_11] at hP hD
  replace hR := lt_e hR ev_11
  subst hR
  exact mu_vret hx hb hr hk hA hS hP dX4_copyFrom_115
/-- a village becomes the other -/
theorem MX4_copyFrom' (l : Launch) (D : va_G) (q : Nat → ClassId) (h : Nat → Nat) (v : Nat → Nat → Int32) (g : Nat → Nat) (w : Nat → Nat → Int32) : muM l D (tyq q) yX4_copyFrom wsX4_copyFrom ({ frames := 1, cells := 0, slots := 0, locals := 22 } : Room) [.ref (h 0), .ref (g 0)] (wVV q h v g w) none (wVV q h w g w) := MX4_copyFrom l D q h v g w
