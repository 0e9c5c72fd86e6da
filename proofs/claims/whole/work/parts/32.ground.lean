def mX5_ground (v : Nat → Nat → Int32) : UInt32 := (if (mX4_grainOfAllIfUntied v) = 0 then FP.fconst1 else (FP.fdiv (FP.i2f (mX4_grainOfAll v)) (FP.i2f (mX4_grainOfAllIfUntied v))))
theorem kX5_ground : yX5_ground.cls = RX5 ∧ yX5_ground.cls ≠ "java/lang/invoke/MethodHandle" ∧ yX5_ground.cls ≠ "java/lang/invoke/VarHandle" ∧ (parseMethodDescriptor yX5_ground.desc).map (fun d => d.parameters.length) = some 0 := by decide +kernel
theorem iX5_ground_X5 : ∀ w ∈ wsX50, w ∈ wsX5_ground := fun w h => (List.mem_cons_of_mem _ (List.mem_append_left _ (List.mem_append_right _ h)))
set_option maxHeartbeats 4000000 in
set_option maxRecDepth 100000 in
theorem MX5_ground (l : Launch) (D : va_G) (q : Nat → ClassId) (ad : Nat → Nat → Nat) (sn : Int32) (v : Nat → Nat → Int32)   : roM l D (tyq q) yX5_ground wsX5_ground ({ frames := 6, cells := 0, slots := 0, locals := 131 } : Room) [.ref (ad 9 0)] (wXN q ad sn v) (some (.float (mX5_ground v))) := by
  obtain ⟨R, hR⟩ : ∃ z, (mX5_ground v) = z := ⟨_, rfl⟩
  rw [hR]
  unfold mX5_ground at hR
  refine roM.of (cc := cX5_ground) (maxL := 2) (ret := (some .float)) (by decide) rfl (Nat.le_of_ble_eq_true rfl) ?_
  intro p e s m below meth c ls hx hb hr hk hml hown hts hP hD hG hl
  have hl : lv_has ls 2 [(0, .ref (ad 9 0))] := hl
  refine lv_aload_n hx hb dX5_ground_0 rfl (lv_at hl 0 rfl) ?_
  refine va_get (D := D) (ci := 3) (v := .ref ((ad 0) 0)) (C := RX5) (T := TX5) (N := 6) hx hb hts iX5_ground_X5 hown hG.1 hP 0 rfl rfl 0 (by decide) (hts (.fieldLink RX5 12 "MillComplaints" "now" "LMillComplaints$Village;") (List.mem_of_getElem? (i := 1) rfl)) (fun _ h9 => h9) rfl dX5_ground_1 ?_
  refine ro_V (v := .int (mX4_grainOfAllIfUntied v)) (rest := []) (As := []) hx hb hml hown hts hl (MX4_grainOfAllIfUntied l D q (ad 0) v) gX5_ground_X4_grainOfAllIfUntied rfl kX4_grainOfAllIfUntied ⟨Nat.le_of_ble_eq_true rfl, Nat.le_of_ble_eq_true rfl⟩ rfl rfl (hP.sub (ws' := (wV q (ad 0) v)) [1, 2, 3, 4, 5, 6, 7, 8, 9, 10] rfl) (dT (hD.sub (ws' := (wV q (ad 0) v)) [1, 2, 3, 4, 5, 6, 7, 8, 9, 10] (by decide) rfl)) hG (ci := 2) rfl rfl rfl rfl (Nat.le_of_ble_eq_true rfl) dX5_ground_4 ⟨Nat.zero_le _, Nat.zero_le _⟩ ?_
  refine lv_istore_n (lv' := [(1, .int (mX4_grainOfAllIfUntied v)), (0, .ref (ad 9 0))]) hx hb dX5_ground_7 rfl hl (by decide) rfl (fun ls hl => ?_)
  refine lv_iload_n hx hb dX5_ground_8 rfl (lv_at hl 0 rfl) ?_
  refine lv_if_ne (tgt := 14) hx hb dX5_ground_9 (by decide) (fun c_1 => ?_) (fun c_1 => ?_)
  · rw [if_neg c_1] at hR
    refine lv_aload_n hx hb dX5_ground_14 rfl (lv_at hl 1 rfl) ?_
    refine va_get (D := D) (ci := 3) (v := .ref ((ad 0) 0)) (C := RX5) (T := TX5) (N := 6) hx hb hts iX5_ground_X5 hown hG.1 hP 0 rfl rfl 0 (by decide) (hts (.fieldLink RX5 12 "MillComplaints" "now" "LMillComplaints$Village;") (List.mem_of_getElem? (i := 1) rfl)) (fun _ h9 => h9) rfl dX5_ground_15 ?_
    refine ro_V (v := .int (mX4_grainOfAll v)) (rest := []) (As := []) hx hb hml hown hts hl (MX4_grainOfAll l D q (ad 0) v) gX5_ground_X4_grainOfAll rfl kX4_grainOfAll ⟨Nat.le_of_ble_eq_true rfl, Nat.le_of_ble_eq_true rfl⟩ rfl rfl (hP.sub (ws' := (wV q (ad 0) v)) [1, 2, 3, 4, 5, 6, 7, 8, 9, 10] rfl) (dT (hD.sub (ws' := (wV q (ad 0) v)) [1, 2, 3, 4, 5, 6, 7, 8, 9, 10] (by decide) rfl)) hG (ci := 2) rfl rfl rfl rfl (Nat.le_of_ble_eq_true rfl) dX5_ground_18 ⟨Nat.zero_le _, Nat.zero_le _⟩ ?_
    refine lv_i2f hx hb dX5_ground_21 ?_
    refine lv_iload_n hx hb dX5_ground_22 rfl (lv_at hl 0 rfl) ?_
    refine lv_i2f hx hb dX5_ground_23 ?_
    refine lv_fdiv hx hb dX5_ground_24 (fd_ok (by assumption) _) ?_
    exact ro_fret hx hb hr hk hR dX5_ground_25
  · rw [if_pos c_1] at hR
    refine lv_fconst1 hx hb dX5_ground_12 ?_
    exact ro_fret hx hb hr hk hR dX5_ground_13

def mX6_ground (x : Nat → Nat → Int32) : UInt32 := (if (mX6_ofMills x (-1)) = 0 then FP.fconst1 else (FP.fdiv (FP.i2f (mX6_ofMills x 9)) (FP.i2f (mX6_ofMills x (-1)))))
theorem kX6_ground : yX6_ground.cls = RX6 ∧ yX6_ground.cls ≠ "java/lang/invoke/MethodHandle" ∧ yX6_ground.cls ≠ "java/lang/invoke/VarHandle" ∧ (parseMethodDescriptor yX6_ground.desc).map (fun d => d.parameters.length) = some 0 := by decide +kernel
set_option maxHeartbeats 4000000 in
set_option maxRecDepth 100000 in
theorem MX6_ground (l : Launch) (D : va_G) (q : Nat → ClassId) (h : Nat → Nat) (x : Nat → Nat → Int32)  (hC : cntP x 0) : roM l D (tyq q) yX6_ground wsX6_ground ({ frames := 5, cells := 0, slots := 0, locals := 114 } : Room) [.ref (h 0)] (wM q h x) (some (.float (mX6_ground x))) := by
  obtain ⟨R, hR⟩ : ∃ z, (mX6_ground x) = z := ⟨_, rfl⟩
  rw [hR]
  unfold mX6_ground at hR
  refine roM.of (cc := cX6_ground) (maxL := 1) (ret := (some .float)) (by decide) rfl (Nat.le_of_ble_eq_true rfl) ?_
  intro p e s m below meth c ls hx hb hr hk hml hown hts hP hD hG hl
  have hl : lv_has ls 1 [(0, .ref (h 0))] := hl
  have hC1 : 0 ≤ (x 0 0).toInt ∧ (x 0 0).toInt < 5 := hC.1
  have hC2 : 0 ≤ (x 0 13).toInt ∧ (x 0 13).toInt < 11 := hC.2
  refine lv_aload_n hx hb dX6_ground_0 rfl (lv_at hl 0 rfl) ?_
  refine lv_iconst (v := (-1)) hx hb dX6_ground_1 (by decide) ?_
  refine ro_V (v := .int (mX6_ofMills x (-1))) (rest := []) (As := [.int (-1)]) hx hb hml hown hts hl (MX6_ofMills l D q h x (-1) hC) gX6_ground_X6_ofMills rfl kX6_ofMills ⟨Nat.le_of_ble_eq_true rfl, Nat.le_of_ble_eq_true rfl⟩ rfl rfl hP (dT hD) hG (ci := 4) rfl rfl rfl rfl (Nat.le_of_ble_eq_true rfl) dX6_ground_2 ⟨Nat.zero_le _, Nat.zero_le _⟩ ?_
  refine lv_if_ne (tgt := 12) hx hb dX6_ground_5 (by decide) (fun c_1 => ?_) (fun c_1 => ?_)
  · rw [if_neg c_1] at hR
    refine lv_aload_n hx hb dX6_ground_12 rfl (lv_at hl 0 rfl) ?_
    refine lv_bipush (v := 9) hx hb dX6_ground_13 (by decide) ?_
    refine ro_V (v := .int (mX6_ofMills x 9)) (rest := []) (As := [.int 9]) hx hb hml hown hts hl (MX6_ofMills l D q h x 9 hC) gX6_ground_X6_ofMills rfl kX6_ofMills ⟨Nat.le_of_ble_eq_true rfl, Nat.le_of_ble_eq_true rfl⟩ rfl rfl hP (dT hD) hG (ci := 4) rfl rfl rfl rfl (Nat.le_of_ble_eq_true rfl) dX6_ground_15 ⟨Nat.zero_le _, Nat.zero_le _⟩ ?_
    refine lv_i2f hx hb dX6_ground_18 ?_
    refine lv_aload_n hx hb dX6_ground_19 rfl (lv_at hl 0 rfl) ?_
    refine lv_iconst (v := (-1)) hx hb dX6_ground_20 (by decide) ?_
    refine ro_V (v := .int (mX6_ofMills x (-1))) (rest := [.float (FP.i2f (mX6_ofMills x 9))]) (As := [.int (-1)]) hx hb hml hown hts hl (MX6_ofMills l D q h x (-1) hC) gX6_ground_X6_ofMills rfl kX6_ofMills ⟨Nat.le_of_ble_eq_true rfl, Nat.le_of_ble_eq_true rfl⟩ rfl rfl hP (dT hD) hG (ci := 4) rfl rfl rfl rfl (Nat.le_of_ble_eq_true rfl) dX6_ground_21 ⟨Nat.zero_le _, Nat.zero_le _⟩ ?_
    refine lv_i2f hx hb dX6_ground_24 ?_
    refine lv_fdiv hx hb dX6_ground_25 (fd_ok (by assumption) _) ?_
    exact ro_fret hx hb hr hk hR dX6_ground_26
  · rw [if_pos c_1] at hR
    refine lv_fconst1 hx hb dX6_ground_8 ?_
    refine lv_goto (tgt := 26) hx hb dX6_ground_9 (by decide) ?_
    exact ro_fret hx hb hr hk hR dX6_ground_26
