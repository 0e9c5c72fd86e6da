def mX5_ground (v : Nat → Nat → Int32) : UInt32 := (if (mX4_grainOfAllIfUntied v) = 0 then FP.fconst1 else (FP.fdiv (FP.i2f (mX4_grainOfAll v)) (FP.i2f (mX4_grainOfAllIfUntied v))))
theorem kX5_ground : yX5_ground.cls = RX5 ∧ yX5_ground.cls ≠ "java/lang/invoke/MethodHandle" ∧ yX5_ground.cls ≠ "java/lang/invoke/VarHandle" ∧ (parseMethodDescriptor yX5_ground.desc).map (fun d => d.parameters.length) = some 0 := by decide +kernel
theorem iX5_ground_X5 : ∀ w ∈ wsX50, w ∈ wsX5_ground := fun w h => (List.mem_cons_of_mem _ (List.mem_append_left _ (List.mem_append_right _ h)))
set_option maxHeartbeats 4000000 in
set_option maxRecDepth 100000 in
theorem MX5_ground (l : Launch) (D : va_G) (q : Nat → ClassId) (ad : Nat → Nat → Nat) (sn : Int32) (v : Nat → Nat → Int32)   : roM l D (tyq q) yX5_ground wsX5_ground ({ frames := 6, cells := 0, slots := 0, locals := 131 } : Room) [.ref (ad 9 0)] (wXN q ad sn v) (some (.float (mX5_ground v))) := by
  obtain ⟨R, hR⟩ : ∃ z, (mX5_ground v) = z := ⟨_, rfl⟩
  rw [hR]
  unfold mX5_ground at hR
  refine roM.of (cc := cX5_ground) (maxL := 2) (ret := (some .float)) (by decide) rfl (Nat.le_of_ble_eq_true rfl) ?_
  intro p e s m below meth c ls hx hb hr hk hml hown hts hP hD hG hl
  have hl : lv_has ls 2 [(0, .ref (ad 9 0))] := hl
  refine lv_aload_n hx hb dX5_ground_0 rfl (lv_at hl 0 rfl) ?_
  refine va_get (D := D) (ci := 3) (v := .ref ((ad 0) 0)) (C := RX5) (T := TX5) (N := 6) hx hb hts iX5_ground_X5 hown hG.1 hP 0 rfl rfl 0 (by decide) (hts (.fieldLink RX5 12 "MillComplaints" "now" "LMillComplaints$Village;") (List.mem_of_getElem? (i := 1) rfl)) (fun _ h9 => h9) rfl dX5_ground_1 ?_
  refine ro_V (v := .int (mX4_grainOfAllIfUntied v)) (rest := []) (As := []) hx hb hml hown hts hl (MX4_grainOfAllIfUntied l D q (ad 0) v) gX5_ground_X4_grainOfAllIfUntied rfl kX4_grainOfAllIfUntied ⟨Nat.le_of_ble_eq_true rfl, Nat.le_of_ble_eq_true rfl⟩ rfl rfl (hP.sub (ws' := (wV q (ad 0) v)) [1, 2, 3, 4, 5, 6, 7, 8, 9, 10] rfl) (dT (hD.sub (ws' := (wV q (ad 0) v)) [1, 2, 3, 4, 5, 6, 7, 8, 9, 10] (by decide) rfl)) hG (ci := 2) rfl rfl rfl rfl (Nat.le_of_ble_eq_true rfl) dX5_ground_4 ⟨Nat.zero_le _, Nat.zero_le _⟩ ?_
  refine lv_istore_n (lv' := [(1, .int (mX4_grainOfAllIfUntied v)), (0, .ref (ad 9 0))]) hx hb dX5_ground_7 rfl hl (by decide) rfl (fun ls hl => ?_)
  refine lv_iload_n hx hb dX5_ground_8 rfl (lv_at hl 0 rfl) ?_
  refine lv_if_ne (tgt := 14) hx hb dX5_ground_9 (by decide) (fun c_1 => ?_) (fun c_1 => ?_)
  · rw [if_neg c_1] at hR
    refine lv_aload_n hx hb dX5_ground_14 rfl (lv_at hl 1 rfl) ?_
    refine va_get (D := D) (ci := 3) (v := .ref ((ad 0) 0)) (C := RX5) (T := TX5) (N := 6) hx hb hts iX5_ground_X5 hown hG.1 hP 0 rfl rfl 0 (by decide) (hts (.fieldLink RX5 12 "MillComplaints" "now" "LMillComplaints$Village;") (List.mem_of_getElem? (i := 1) rfl)) (fun _ h9 => h9) rfl dX5_ground_15 ?_
    refine ro_V (v := .int (mX4_grainOfAll v)) (rest := []) (As := []) hx hb hml hown hts hl (MX4_grainOfAll l D q (ad 0) v) gX5_ground_X4_grainOfAll rfl kX4_grainOfAll ⟨Nat.le_of_ble_eq_true rfl, Nat.le_of_ble_eq_true rfl⟩ rfl rfl (hP.sub (ws' := (wV q (ad 0) v)) [1, 2, 3, 4, 5, 6, 7, 8, 9, 10] rfl) (dT (hD.sub (ws' := (wV q (ad 0) v)) [1, 2, 3, 4, 5, 6, 7, 8, 9, 10] (by decide) rfl)) hG (ci := 2) rfl rfl rfl rfl (Nat.le_of_ble_eq_true rfl) dX5_ground_18 ⟨Nat.zero_le _, Nat.zero_le _⟩ ?_
    refine lv_i2f hx hb dX5_ground_21 ?_
    refine lv_iload_n hx hb dX5_ground_22 rfl (lv_at hl 0 rfl) ?_
    refine lv_i2f hx hb dX5_ground_23 ?_
    refine lv_fdiv hx hb dX5_ground_24 (fd_ok (by assumption) _) ?_
    exact ro_fret hx hb hr hk hR dX5_ground_25
  · rw [if_pos c_1] at hR
    refine lv_fconst1 hx hb dX5_ground_12 ?_
    exact ro_fret hx hb hr hk hR dX5_ground_13

