theorem drop_keep (a b c : Int32) (j : Nat) (hj : Nat.beq j 8 = false) : ∀ (n : Nat) (v : Nat → Nat → Int32) (k : Int32), (mX4_dropFor_3 a b c (fun v_3 x4_3 => v_3) n v k) j = v j
  | 0, v, k => by rw [mX4_dropFor_3]
  | n + 1, v, k => by
    rw [mX4_dropFor_3]
    refine (drop_keep a b c j hj n _ _).trans ?_
    show (bif Nat.beq j 8 then _ else v j) = v j
    rw [hj]
    rfl
theorem drop10 (v : Nat → Nat → Int32) (a b c : Int32) : (mX4_dropFor v a b c) 10 = v 10 := drop_keep a b c 10 rfl _ _ _
def mX5_recorded (xx : Nat → Nat → Nat → Int32) (a1 : Int32) : Int32 × (Nat → Nat → Nat → Int32) := (if 0 ≤ a1 then (lt (mX1_add xx) (fun q_2 => (lt (setV (setV (setV (setV (setV (setV xx 8 (q_2 8)) 3 (q_2 3)) 4 (q_2 4)) 5 (q_2 5)) 6 (q_2 6)) 1 (q_2 1)) (fun xx_3 => (a1, xx_3))))) else (if (mX5_isVain ((-10) - a1)) = 0 then (a1, xx) else (lt (mX1_add xx) (fun q_5 => (lt (setV (setV (setV (setV (setV (setV xx 8 (q_5 8)) 3 (q_5 3)) 4 (q_5 4)) 5 (q_5 5)) 6 (q_5 6)) 1 (q_5 1)) (fun xx_6 => (a1, xx_6)))))))
theorem kX5_recorded : yX5_recorded.cls = RX5 ∧ yX5_recorded.cls ≠ "java/lang/invoke/MethodHandle" ∧ yX5_recorded.cls ≠ "java/lang/invoke/VarHandle" ∧ (parseMethodDescriptor yX5_recorded.desc).map (fun d => d.parameters.length) = some 1 := by decide +kernel
theorem iX5_recorded_X5 : ∀ w ∈ wsX50, w ∈ wsX5_recorded := fun w h => (List.mem_cons_of_mem _ (List.mem_append_left _ (List.mem_append_left _ (List.mem_append_right _ h))))
set_option maxHeartbeats 4000000 in
set_option maxRecDepth 100000 in
theorem MX5_recorded (l : Launch) (D : va_G) (q : Nat → ClassId) (ad : Nat → Nat → Nat) (xx : Nat → Nat → Nat → Int32) (a1 : Int32) (hrg : rgOk xx) : muM l D (tyq q) yX5_recorded wsX5_recorded ({ frames := 3, cells := 0, slots := 0, locals := 65 } : Room) [.ref (ad 9 0), .int a1] (wX q ad xx) (some (.int (mX5_recorded xx a1).1)) (wX q ad (mX5_recorded xx a1).2) := by
  obtain ⟨R, hR⟩ : ∃ z, (mX5_recorded xx a1) = z := ⟨_, rfl⟩
  rw [hR]
  unfold mX5_recorded at hR
  refine muM.of (cc := cX5_recorded) (maxL := 2) (ret := (some .int)) (by decide) rfl (Nat.le_of_ble_eq_true rfl) ?_
  intro p e s m below meth c ls A hx hb hr hk hml hown hts hP hD hG hA hl
  have hS : va_S A s.heap s.heap [] := va_S.rf
  have hl : lv_has ls 2 [(0, .ref (ad 9 0)), (1, .int a1)] := hl
  refine lv_iload_n hx hb dX5_recorded_0 rfl (lv_at hl 1 rfl) ?_
  refine lv_if_ge (tgt := 14) hx hb dX5_recorded_1 (by decide) (fun c_1 => ?_) (fun c_1 => ?_)
  · rw [if_pos c_1] at hR
    refine lv_aload_n hx hb dX5_recorded_14 rfl (lv_at hl 0 rfl) ?_
    refine va_get (D := D) (ci := 3) (v := .ref (ad 8 0)) (C := RX5) (T := TX5) (N := 6) hx hb hts iX5_recorded_X5 hown hG.1 hP 0 rfl rfl 4 (by decide) (hts (.fieldLink RX5 29 "MillComplaints" "history" "LMillComplaints$History;") (List.mem_of_getElem? (i := 1) rfl)) (fun _ h9 => h9) rfl dX5_recorded_15 ?_
    refine lv_aload_n hx hb dX5_recorded_18 rfl (lv_at hl 0 rfl) ?_
    refine va_get (D := D) (ci := 3) (v := .ref ((ad 1) 0)) (C := RX5) (T := TX5) (N := 6) hx hb hts iX5_recorded_X5 hown hG.1 hP 0 rfl rfl 1 (by decide) (hts (.fieldLink RX5 16 "MillComplaints" "before" "LMillComplaints$Village;") (List.mem_of_getElem? (i := 2) rfl)) (fun _ h9 => h9) rfl dX5_recorded_19 ?_
    obtain ⟨q_2, eq_2⟩ : ∃ z, z = (mX1_add xx) := ⟨_, rfl⟩
    have hM := MX1_add l D q ad xx hrg
    rw [← eq_2] at hM
    replace hR := lt_e hR eq_2
    refine mu_V (D := D) (ws := (wX q ad xx)) (ws' := (wX q ad (setV (setV (setV (setV (setV (setV xx 8 (q_2 8)) 3 (q_2 3)) 4 (q_2 4)) 5 (q_2 5)) 6 (q_2 6)) 1 (q_2 1)))) (rest := []) (As := [.ref ((ad 1) 0)]) hx hb hml hown hts hl hM gX5_recorded_X1_add rfl kX1_add ⟨Nat.le_of_ble_eq_true rfl, Nat.le_of_ble_eq_true rfl⟩ rfl rfl hP hD hS hG [71, 72, 31, 32, 33, 34, 35, 36, 37, 38, 39, 40, 41, 42, 43, 44, 45, 46, 47, 48, 49, 50, 51, 52, 53, 54, 55, 56, 57, 58, 59, 60, 61, 62, 63, 64, 65, 66, 67, 68, 69, 70, 11, 12, 13, 14, 15, 16, 17, 18, 19, 20] rfl rfl (by decide) [0, 1, 2, 3, 4, 5, 6, 7, 8, 9, 10, 117, 118, 119, 120, 121, 122, 123, 124, 125, 126, 21, 22, 23, 24, 25, 26, 27, 28, 29, 30, 77, 78, 79, 80, 81, 82, 83, 84, 85, 86, 87, 88, 89, 90, 91, 92, 93, 94, 95, 96, 97, 98, 99, 100, 101, 102, 103, 104, 105, 106, 107, 108, 109, 110, 111, 112, 113, 114, 115, 116, 75, 76, 73, 74] rfl (by decide) rfl (ci := 0) rfl rfl rfl rfl (Nat.le_of_ble_eq_true rfl) dX5_recorded_22 ⟨Nat.zero_le _, Nat.zero_le _⟩ (fun H locs hP hD hS => ?_)
    obtain ⟨xx_3, exx_3⟩ : ∃ z, z = (setV (setV (setV (setV (setV (setV xx 8 (q_2 8)) 3 (q_2 3)) 4 (q_2 4)) 5 (q_2 5)) 6 (q_2 6)) 1 (q_2 1)) := ⟨_, rfl⟩
    rw [← exx_3] at hP hD
    replace hR := lt_e hR exx_3
    refine lv_iload_n hx hb dX5_recorded_25 rfl (lv_at hl 1 rfl) ?_
    subst hR
    exact mu_iret hx hb hr hk hA hS hP rfl dX5_recorded_26
  · rw [if_neg c_1] at hR
    refine lv_bipush (v := (-10)) hx hb dX5_recorded_4 (by decide) ?_
    refine lv_iload_n hx hb dX5_recorded_6 rfl (lv_at hl 1 rfl) ?_
    refine lv_isub hx hb dX5_recorded_7 ?_
    refine ro_S (v := .int (mX5_isVain ((-10) - a1))) (rest := []) (As := [.int ((-10) - a1)]) hx hb hml hown hts hl (MX5_isVain l D q ((-10) - a1)) gX5_recorded_X5_isVain rfl kX5_isVain ⟨Nat.le_of_ble_eq_true rfl, Nat.le_of_ble_eq_true rfl⟩ rfl rfl (hP.sub (ws' := []) [] rfl) (dT (hD.sub (ws' := []) [] (by decide) rfl)) hG rfl rfl (Nat.le_of_ble_eq_true rfl) dX5_recorded_8 ⟨Nat.zero_le _, Nat.zero_le _⟩ ?_
    refine lv_if_eq (tgt := 25) hx hb dX5_recorded_11 (by decide) (fun c_4 => ?_) (fun c_4 => ?_)
    · rw [if_pos c_4] at hR
      refine lv_iload_n hx hb dX5_recorded_25 rfl (lv_at hl 1 rfl) ?_
      subst hR
      exact mu_iret hx hb hr hk hA hS hP rfl dX5_recorded_26
    · rw [if_neg c_4] at hR
      refine lv_aload_n hx hb dX5_recorded_14 rfl (lv_at hl 0 rfl) ?_
      refine va_get (D := D) (ci := 3) (v := .ref (ad 8 0)) (C := RX5) (T := TX5) (N := 6) hx hb hts iX5_recorded_X5 hown hG.1 hP 0 rfl rfl 4 (by decide) (hts (.fieldLink RX5 29 "MillComplaints" "history" "LMillComplaints$History;") (List.mem_of_getElem? (i := 1) rfl)) (fun _ h9 => h9) rfl dX5_recorded_15 ?_
      refine lv_aload_n hx hb dX5_recorded_18 rfl (lv_at hl 0 rfl) ?_
      refine va_get (D := D) (ci := 3) (v := .ref ((ad 1) 0)) (C := RX5) (T := TX5) (N := 6) hx hb hts iX5_recorded_X5 hown hG.1 hP 0 rfl rfl 1 (by decide) (hts (.fieldLink RX5 16 "MillComplaints" "before" "LMillComplaints$Village;") (List.mem_of_getElem? (i := 2) rfl)) (fun _ h9 => h9) rfl dX5_recorded_19 ?_
      obtain ⟨q_5, eq_5⟩ : ∃ z, z = (mX1_add xx) := ⟨_, rfl⟩
      have hM := MX1_add l D q ad xx hrg
      rw [← eq_5] at hM
      replace hR := lt_e hR eq_5
      refine mu_V (D := D) (ws := (wX q ad xx)) (ws' := (wX q ad (setV (setV (setV (setV (setV (setV xx 8 (q_5 8)) 3 (q_5 3)) 4 (q_5 4)) 5 (q_5 5)) 6 (q_5 6)) 1 (q_5 1)))) (rest := []) (As := [.ref ((ad 1) 0)]) hx hb hml hown hts hl hM gX5_recorded_X1_add rfl kX1_add ⟨Nat.le_of_ble_eq_true rfl, Nat.le_of_ble_eq_true rfl⟩ rfl rfl hP hD hS hG [71, 72, 31, 32, 33, 34, 35, 36, 37, 38, 39, 40, 41, 42, 43, 44, 45, 46, 47, 48, 49, 50, 51, 52, 53, 54, 55, 56, 57, 58, 59, 60, 61, 62, 63, 64, 65, 66, 67, 68, 69, 70, 11, 12, 13, 14, 15, 16, 17, 18, 19, 20] rfl rfl (by decide) [0, 1, 2, 3, 4, 5, 6, 7, 8, 9, 10, 117, 118, 119, 120, 121, 122, 123, 124, 125, 126, 21, 22, 23, 24, 25, 26, 27, 28, 29, 30, 77, 78, 79, 80, 81, 82, 83, 84, 85, 86, 87, 88, 89, 90, 91, 92, 93, 94, 95, 96, 97, 98, 99, 100, 101, 102, 103, 104, 105, 106, 107, 108, 109, 110, 111, 112, 113, 114, 115, 116, 75, 76, 73, 74] rfl (by decide) rfl (ci := 0) rfl rfl rfl rfl (Nat.le_of_ble_eq_true rfl) dX5_recorded_22 ⟨Nat.zero_le _, Nat.zero_le _⟩ (fun H locs hP hD hS => ?_)
      obtain ⟨xx_6, exx_6⟩ : ∃ z, z = (setV (setV (setV (setV (setV (setV xx 8 (q_5 8)) 3 (q_5 3)) 4 (q_5 4)) 5 (q_5 5)) 6 (q_5 6)) 1 (q_5 1)) := ⟨_, rfl⟩
      rw [← exx_6] at hP hD
      replace hR := lt_e hR exx_6
      refine lv_iload_n hx hb dX5_recorded_25 rfl (lv_at hl 1 rfl) ?_
      subst hR
      exact mu_iret hx hb hr hk hA hS hP rfl dX5_recorded_26

def mX5_mill (xx : Nat → Nat → Nat → Int32) (a1 a2 : Int32) : Int32 × (Nat → Nat → Nat → Int32) := (lt (setV xx 1 (xx 0)) (fun xx_1 => (lt (mX5_bringMill (xx_1 0) a1 a2) (fun q_2 => (lt (setV xx_1 0 q_2.2) (fun xx_3 => (lt (mX5_recorded xx_3 q_2.1) (fun q_4 => (q_4.1, q_4.2)))))))))
theorem kX5_mill : yX5_mill.cls = RX5 ∧ yX5_mill.cls ≠ "java/lang/invoke/MethodHandle" ∧ yX5_mill.cls ≠ "java/lang/invoke/VarHandle" ∧ (parseMethodDescriptor yX5_mill.desc).map (fun d => d.parameters.length) = some 2 := by decide +kernel
theorem iX5_mill_X5 : ∀ w ∈ wsX50, w ∈ wsX5_mill := fun w h => (List.mem_cons_of_mem _ (List.mem_append_left _ (List.mem_append_left _ (List.mem_append_right _ h))))
set_option maxHeartbeats 4000000 in
set_option maxRecDepth 100000 in
theorem MX5_mill (l : Launch) (D : va_G) (q : Nat → ClassId) (ad : Nat → Nat → Nat) (xx : Nat → Nat → Nat → Int32) (a1 a2 : Int32) (hrg : rgOk xx) : muM l D (tyq q) yX5_mill wsX5_mill ({ frames := 5, cells := 0, slots := 0, locals := 109 } : Room) [.ref (ad 9 0), .int a1, .int a2] (wX q ad xx) (some (.int (mX5_mill xx a1 a2).1)) (wX q ad (mX5_mill xx a1 a2).2) := by
  obtain ⟨R, hR⟩ : ∃ z, (mX5_mill xx a1 a2) = z := ⟨_, rfl⟩
  rw [hR]
  unfold mX5_mill at hR
  refine muM.of (cc := cX5_mill) (maxL := 3) (ret := (some .int)) (by decide) rfl (Nat.le_of_ble_eq_true rfl) ?_
  intro p e s m below meth c ls A hx hb hr hk hml hown hts hP hD hG hA hl
  have hS : va_S A s.heap s.heap [] := va_S.rf
  have hl : lv_has ls 3 [(0, .ref (ad 9 0)), (1, .int a1), (2, .int a2)] := hl
  refine lv_aload_n hx hb dX5_mill_0 rfl (lv_at hl 0 rfl) ?_
  refine va_get (D := D) (ci := 3) (v := .ref ((ad 1) 0)) (C := RX5) (T := TX5) (N := 6) hx hb hts iX5_mill_X5 hown hG.1 hP 0 rfl rfl 1 (by decide) (hts (.fieldLink RX5 16 "MillComplaints" "before" "LMillComplaints$Village;") (List.mem_of_getElem? (i := 1) rfl)) (fun _ h9 => h9) rfl dX5_mill_1 ?_
  refine lv_aload_n hx hb dX5_mill_4 rfl (lv_at hl 0 rfl) ?_
  refine va_get (D := D) (ci := 3) (v := .ref ((ad 0) 0)) (C := RX5) (T := TX5) (N := 6) hx hb hts iX5_mill_X5 hown hG.1 hP 0 rfl rfl 0 (by decide) (hts (.fieldLink RX5 12 "MillComplaints" "now" "LMillComplaints$Village;") (List.mem_of_getElem? (i := 2) rfl)) (fun _ h9 => h9) rfl dX5_mill_5 ?_
  have hM := MX4_copyFrom' l D q (ad 1) (xx 1) (ad 0) (xx 0)
  refine mu_V (D := D) (ws := (wX q ad xx)) (ws' := (wX q ad (setV xx 1 (xx 0)))) (rest := []) (As := [.ref ((ad 0) 0)]) hx hb hml hown hts hl hM gX5_mill_X4_copyFrom rfl kX4_copyFrom ⟨Nat.le_of_ble_eq_true rfl, Nat.le_of_ble_eq_true rfl⟩ rfl rfl hP hD hS hG [11, 12, 13, 14, 15, 16, 17, 18, 19, 20, 1, 2, 3, 4, 5, 6, 7, 8, 9, 10] rfl rfl (by decide) [0, 85, 86, 87, 88, 89, 90, 91, 92, 93, 94, 75, 76, 77, 78, 79, 80, 81, 82, 83, 84, 21, 22, 23, 24, 25, 26, 27, 28, 29, 30, 31, 32, 33, 34, 35, 36, 37, 38, 39, 40, 41, 42, 43, 44, 45, 46, 47, 48, 49, 50, 51, 52, 53, 54, 55, 56, 57, 58, 59, 60, 61, 62, 63, 64, 65, 66, 67, 68, 69, 70, 71, 72, 73, 74] rfl (by decide) rfl (ci := 2) rfl rfl rfl rfl (Nat.le_of_ble_eq_true rfl) dX5_mill_8 ⟨Nat.zero_le _, Nat.zero_le _⟩ (fun H locs hP hD hS => ?_)
  obtain ⟨xx_1, exx_1⟩ : ∃ z, z = (setV xx 1 (xx 0)) := ⟨_, rfl⟩
  rw [← exx_1] at hP hD
  replace hR := lt_e hR exx_1
  refine lv_aload_n hx hb dX5_mill_11 rfl (lv_at hl 0 rfl) ?_
  refine lv_aload_n hx hb dX5_mill_12 rfl (lv_at hl 0 rfl) ?_
  refine lv_iload_n hx hb dX5_mill_13 rfl (lv_at hl 1 rfl) ?_
  refine lv_iload_n hx hb dX5_mill_14 rfl (lv_at hl 2 rfl) ?_
  obtain ⟨q_2, eq_2⟩ : ∃ z, z = (mX5_bringMill (xx_1 0) a1 a2) := ⟨_, rfl⟩
  have hM := MX5_bringMill l D q ad (xx_1 9 0 0) (xx_1 0) a1 a2
  rw [← eq_2] at hM
  replace hR := lt_e hR eq_2
  refine mu_V (D := D) (ws := (wX q ad xx_1)) (ws' := (wX q ad (setV xx_1 0 q_2.2))) (rest := [.ref (ad 9 0)]) (As := [.int a1, .int a2]) hx hb hml hown hts hl hM gX5_mill_X5_bringMill rfl kX5_bringMill ⟨Nat.le_of_ble_eq_true rfl, Nat.le_of_ble_eq_true rfl⟩ rfl rfl hP hD hS hG [0, 1, 2, 3, 4, 5, 6, 7, 8, 9, 10] rfl rfl (by decide) [75, 76, 77, 78, 79, 80, 81, 82, 83, 84, 85, 11, 12, 13, 14, 15, 16, 17, 18, 19, 20, 21, 22, 23, 24, 25, 26, 27, 28, 29, 30, 31, 32, 33, 34, 35, 36, 37, 38, 39, 40, 41, 42, 43, 44, 45, 46, 47, 48, 49, 50, 51, 52, 53, 54, 55, 56, 57, 58, 59, 60, 61, 62, 63, 64, 65, 66, 67, 68, 69, 70, 71, 72, 73, 74] rfl (by decide) rfl (ci := 3) rfl rfl rfl rfl (Nat.le_of_ble_eq_true rfl) dX5_mill_15 ⟨Nat.zero_le _, Nat.zero_le _⟩ (fun H locs hP hD hS => ?_)
  obtain ⟨xx_3, exx_3⟩ : ∃ z, z = (setV xx_1 0 q_2.2) := ⟨_, rfl⟩
  rw [← exx_3] at hP hD
  replace hR := lt_e hR exx_3
  obtain ⟨q_4, eq_4⟩ : ∃ z, z = (mX5_recorded xx_3 q_2.1) := ⟨_, rfl⟩
  have hM := MX5_recorded l D q ad xx_3 q_2.1 (by rw [exx_3, exx_1]; exact hrg)
  rw [← eq_4] at hM
  replace hR := lt_e hR eq_4
  refine mu_V (D := D) (ws := (wX q ad xx_3)) (ws' := (wX q ad q_4.2)) (rest := []) (As := [.int q_2.1]) hx hb hml hown hts hl hM gX5_mill_X5_recorded rfl kX5_recorded ⟨Nat.le_of_ble_eq_true rfl, Nat.le_of_ble_eq_true rfl⟩ rfl rfl hP hD hS hG [0, 1, 2, 3, 4, 5, 6, 7, 8, 9, 10, 11, 12, 13, 14, 15, 16, 17, 18, 19, 20, 21, 22, 23, 24, 25, 26, 27, 28, 29, 30, 31, 32, 33, 34, 35, 36, 37, 38, 39, 40, 41, 42, 43, 44, 45, 46, 47, 48, 49, 50, 51, 52, 53, 54, 55, 56, 57, 58, 59, 60, 61, 62, 63, 64, 65, 66, 67, 68, 69, 70, 71, 72, 73, 74] rfl rfl (by decide) [75, 76, 77, 78, 79, 80, 81, 82, 83, 84, 85, 86, 87, 88, 89, 90, 91, 92, 93, 94, 95, 96, 97, 98, 99, 100, 101, 102, 103, 104, 105, 106, 107, 108, 109, 110, 111, 112, 113, 114, 115, 116, 117, 118, 119, 120, 121, 122, 123, 124, 125, 126, 127, 128, 129, 130, 131, 132, 133, 134, 135, 136, 137, 138, 139, 140, 141, 142, 143, 144, 145, 146, 147, 148, 149] rfl (by decide) rfl (ci := 3) rfl rfl rfl rfl (Nat.le_of_ble_eq_true rfl) dX5_mill_18 ⟨Nat.zero_le _, Nat.zero_le _⟩ (fun H locs hP hD hS => ?_)
  subst hR
  exact mu_iret hx hb hr hk hA hS hP rfl dX5_mill_21

def mX5_house (xx : Nat → Nat → Nat → Int32) (a1 : Int32) : Int32 × (Nat → Nat → Nat → Int32) := (lt (setV xx 1 (xx 0)) (fun xx_1 => (lt (mX5_bringHouse (xx_1 0) a1) (fun q_2 => (lt (setV xx_1 0 q_2.2) (fun xx_3 => (lt (mX5_recorded xx_3 q_2.1) (fun q_4 => (q_4.1, q_4.2)))))))))
theorem kX5_house : yX5_house.cls = RX5 ∧ yX5_house.cls ≠ "java/lang/invoke/MethodHandle" ∧ yX5_house.cls ≠ "java/lang/invoke/VarHandle" ∧ (parseMethodDescriptor yX5_house.desc).map (fun d => d.parameters.length) = some 1 := by decide +kernel
theorem iX5_house_X5 : ∀ w ∈ wsX50, w ∈ wsX5_house := fun w h => (List.mem_cons_of_mem _ (List.mem_append_left _ (List.mem_append_left _ (List.mem_append_right _ h))))
set_option maxHeartbeats 4000000 in
set_option maxRecDepth 100000 in
theorem MX5_house (l : Launch) (D : va_G) (q : Nat → ClassId) (ad : Nat → Nat → Nat) (xx : Nat → Nat → Nat → Int32) (a1 : Int32) (hrg : rgOk xx) : muM l D (tyq q) yX5_house wsX5_house ({ frames := 5, cells := 0, slots := 0, locals := 108 } : Room) [.ref (ad 9 0), .int a1] (wX q ad xx) (some (.int (mX5_house xx a1).1)) (wX q ad (mX5_house xx a1).2) := by
  obtain ⟨R, hR⟩ : ∃ z, (mX5_house xx a1) = z := ⟨_, rfl⟩
  rw [hR]
  unfold mX5_house at hR
  refine muM.of (cc := cX5_house) (maxL := 2) (ret := (some .int)) (by decide) rfl (Nat.le_of_ble_eq_true rfl) ?_
  intro p e s m below meth c ls A hx hb hr hk hml hown hts hP hD hG hA hl
  have hS : va_S A s.heap s.heap [] := va_S.rf
  have hl : lv_has ls 2 [(0, .ref (ad 9 0)), (1, .int a1)] := hl
  refine lv_aload_n hx hb dX5_house_0 rfl (lv_at hl 0 rfl) ?_
  refine va_get (D := D) (ci := 3) (v := .ref ((ad 1) 0)) (C := RX5) (T := TX5) (N := 6) hx hb hts iX5_house_X5 hown hG.1 hP 0 rfl rfl 1 (by decide) (hts (.fieldLink RX5 16 "MillComplaints" "before" "LMillComplaints$Village;") (List.mem_of_getElem? (i := 1) rfl)) (fun _ h9 => h9) rfl dX5_house_1 ?_
  refine lv_aload_n hx hb dX5_house_4 rfl (lv_at hl 0 rfl) ?_
  refine va_get (D := D) (ci := 3) (v := .ref ((ad 0) 0)) (C := RX5) (T := TX5) (N := 6) hx hb hts iX5_house_X5 hown hG.1 hP 0 rfl rfl 0 (by decide) (hts (.fieldLink RX5 12 "MillComplaints" "now" "LMillComplaints$Village;") (List.mem_of_getElem? (i := 2) rfl)) (fun _ h9 => h9) rfl dX5_house_5 ?_
  have hM := MX4_copyFrom' l D q (ad 1) (xx 1) (ad 0) (xx 0)
  refine mu_V (D := D) (ws := (wX q ad xx)) (ws' := (wX q ad (setV xx 1 (xx 0)))) (rest := []) (As := [.ref ((ad 0) 0)]) hx hb hml hown hts hl hM gX5_house_X4_copyFrom rfl kX4_copyFrom ⟨Nat.le_of_ble_eq_true rfl, Nat.le_of_ble_eq_true rfl⟩ rfl rfl hP hD hS hG [11, 12, 13, 14, 15, 16, 17, 18, 19, 20, 1, 2, 3, 4, 5, 6, 7, 8, 9, 10] rfl rfl (by decide) [0, 85, 86, 87, 88, 89, 90, 91, 92, 93, 94, 75, 76, 77, 78, 79, 80, 81, 82, 83, 84, 21, 22, 23, 24, 25, 26, 27, 28, 29, 30, 31, 32, 33, 34, 35, 36, 37, 38, 39, 40, 41, 42, 43, 44, 45, 46, 47, 48, 49, 50, 51, 52, 53, 54, 55, 56, 57, 58, 59, 60, 61, 62, 63, 64, 65, 66, 67, 68, 69, 70, 71, 72, 73, 74] rfl (by decide) rfl (ci := 2) rfl rfl rfl rfl (Nat.le_of_ble_eq_true rfl) dX5_house_8 ⟨Nat.zero_le _, Nat.zero_le _⟩ (fun H locs hP hD hS => ?_)
  obtain ⟨xx_1, exx_1⟩ : ∃ z, z = (setV xx 1 (xx 0)) := ⟨_, rfl⟩
  rw [← exx_1] at hP hD
  replace hR := lt_e hR exx_1
  refine lv_aload_n hx hb dX5_house_11 rfl (lv_at hl 0 rfl) ?_
  refine lv_aload_n hx hb dX5_house_12 rfl (lv_at hl 0 rfl) ?_
  refine lv_iload_n hx hb dX5_house_13 rfl (lv_at hl 1 rfl) ?_
  obtain ⟨q_2, eq_2⟩ : ∃ z, z = (mX5_bringHouse (xx_1 0) a1) := ⟨_, rfl⟩
  have hM := MX5_bringHouse l D q ad (xx_1 9 0 0) (xx_1 0) a1
  rw [← eq_2] at hM
  replace hR := lt_e hR eq_2
  refine mu_V (D := D) (ws := (wX q ad xx_1)) (ws' := (wX q ad (setV xx_1 0 q_2.2))) (rest := [.ref (ad 9 0)]) (As := [.int a1]) hx hb hml hown hts hl hM gX5_house_X5_bringHouse rfl kX5_bringHouse ⟨Nat.le_of_ble_eq_true rfl, Nat.le_of_ble_eq_true rfl⟩ rfl rfl hP hD hS hG [0, 1, 2, 3, 4, 5, 6, 7, 8, 9, 10] rfl rfl (by decide) [75, 76, 77, 78, 79, 80, 81, 82, 83, 84, 85, 11, 12, 13, 14, 15, 16, 17, 18, 19, 20, 21, 22, 23, 24, 25, 26, 27, 28, 29, 30, 31, 32, 33, 34, 35, 36, 37, 38, 39, 40, 41, 42, 43, 44, 45, 46, 47, 48, 49, 50, 51, 52, 53, 54, 55, 56, 57, 58, 59, 60, 61, 62, 63, 64, 65, 66, 67, 68, 69, 70, 71, 72, 73, 74] rfl (by decide) rfl (ci := 3) rfl rfl rfl rfl (Nat.le_of_ble_eq_true rfl) dX5_house_14 ⟨Nat.zero_le _, Nat.zero_le _⟩ (fun H locs hP hD hS => ?_)
  obtain ⟨xx_3, exx_3⟩ : ∃ z, z = (setV xx_1 0 q_2.2) := ⟨_, rfl⟩
  rw [← exx_3] at hP hD
  replace hR := lt_e hR exx_3
  obtain ⟨q_4, eq_4⟩ : ∃ z, z = (mX5_recorded xx_3 q_2.1) := ⟨_, rfl⟩
  have hM := MX5_recorded l D q ad xx_3 q_2.1 (by rw [exx_3, exx_1]; exact hrg)
  rw [← eq_4] at hM
  replace hR := lt_e hR eq_4
  refine mu_V (D := D) (ws := (wX q ad xx_3)) (ws' := (wX q ad q_4.2)) (rest := []) (As := [.int q_2.1]) hx hb hml hown hts hl hM gX5_house_X5_recorded rfl kX5_recorded ⟨Nat.le_of_ble_eq_true rfl, Nat.le_of_ble_eq_true rfl⟩ rfl rfl hP hD hS hG [0, 1, 2, 3, 4, 5, 6, 7, 8, 9, 10, 11, 12, 13, 14, 15, 16, 17, 18, 19, 20, 21, 22, 23, 24, 25, 26, 27, 28, 29, 30, 31, 32, 33, 34, 35, 36, 37, 38, 39, 40, 41, 42, 43, 44, 45, 46, 47, 48, 49, 50, 51, 52, 53, 54, 55, 56, 57, 58, 59, 60, 61, 62, 63, 64, 65, 66, 67, 68, 69, 70, 71, 72, 73, 74] rfl rfl (by decide) [75, 76, 77, 78, 79, 80, 81, 82, 83, 84, 85, 86, 87, 88, 89, 90, 91, 92, 93, 94, 95, 96, 97, 98, 99, 100, 101, 102, 103, 104, 105, 106, 107, 108, 109, 110, 111, 112, 113, 114, 115, 116, 117, 118, 119, 120, 121, 122, 123, 124, 125, 126, 127, 128, 129, 130, 131, 132, 133, 134, 135, 136, 137, 138, 139, 140, 141, 142, 143, 144, 145, 146, 147, 148, 149] rfl (by decide) rfl (ci := 3) rfl rfl rfl rfl (Nat.le_of_ble_eq_true rfl) dX5_house_17 ⟨Nat.zero_le _, Nat.zero_le _⟩ (fun H locs hP hD hS => ?_)
  subst hR
  exact mu_iret hx hb hr hk hA hS hP rfl dX5_house_20

def mX5_wind (xx : Nat → Nat → Nat → Int32) (a1 a2 a3 : Int32) : Int32 × (Nat → Nat → Nat → Int32) := (lt (setV xx 1 (xx 0)) (fun xx_1 => (lt (mX5_tellWind (xx_1 0) a1 a2 a3) (fun q_2 => (lt (setV xx_1 0 q_2.2) (fun xx_3 => (lt (mX5_recorded xx_3 q_2.1) (fun q_4 => (q_4.1, q_4.2)))))))))
theorem kX5_wind : yX5_wind.cls = RX5 ∧ yX5_wind.cls ≠ "java/lang/invoke/MethodHandle" ∧ yX5_wind.cls ≠ "java/lang/invoke/VarHandle" ∧ (parseMethodDescriptor yX5_wind.desc).map (fun d => d.parameters.length) = some 3 := by decide +kernel
theorem iX5_wind_X5 : ∀ w ∈ wsX50, w ∈ wsX5_wind := fun w h => (List.mem_cons_of_mem _ (List.mem_append_left _ (List.mem_append_left _ (List.mem_append_right _ h))))
set_option maxHeartbeats 4000000 in
set_option maxRecDepth 100000 in
theorem MX5_wind (l : Launch) (D : va_G) (q : Nat → ClassId) (ad : Nat → Nat → Nat) (xx : Nat → Nat → Nat → Int32) (a1 a2 a3 : Int32) (hrg : rgOk xx) : muM l D (tyq q) yX5_wind wsX5_wind ({ frames := 4, cells := 0, slots := 0, locals := 86 } : Room) [.ref (ad 9 0), .int a1, .int a2, .int a3] (wX q ad xx) (some (.int (mX5_wind xx a1 a2 a3).1)) (wX q ad (mX5_wind xx a1 a2 a3).2) := by
  obtain ⟨R, hR⟩ : ∃ z, (mX5_wind xx a1 a2 a3) = z := ⟨_, rfl⟩
  rw [hR]
  unfold mX5_wind at hR
  refine muM.of (cc := cX5_wind) (maxL := 4) (ret := (some .int)) (by decide) rfl (Nat.le_of_ble_eq_true rfl) ?_
  intro p e s m below meth c ls A hx hb hr hk hml hown hts hP hD hG hA hl
  have hS : va_S A s.heap s.heap [] := va_S.rf
  have hl : lv_has ls 4 [(0, .ref (ad 9 0)), (1, .int a1), (2, .int a2), (3, .int a3)] := hl
  refine lv_aload_n hx hb dX5_wind_0 rfl (lv_at hl 0 rfl) ?_
  refine va_get (D := D) (ci := 3) (v := .ref ((ad 1) 0)) (C := RX5) (T := TX5) (N := 6) hx hb hts iX5_wind_X5 hown hG.1 hP 0 rfl rfl 1 (by decide) (hts (.fieldLink RX5 16 "MillComplaints" "before" "LMillComplaints$Village;") (List.mem_of_getElem? (i := 1) rfl)) (fun _ h9 => h9) rfl dX5_wind_1 ?_
  refine lv_aload_n hx hb dX5_wind_4 rfl (lv_at hl 0 rfl) ?_
  refine va_get (D := D) (ci := 3) (v := .ref ((ad 0) 0)) (C := RX5) (T := TX5) (N := 6) hx hb hts iX5_wind_X5 hown hG.1 hP 0 rfl rfl 0 (by decide) (hts (.fieldLink RX5 12 "MillComplaints" "now" "LMillComplaints$Village;") (List.mem_of_getElem? (i := 2) rfl)) (fun _ h9 => h9) rfl dX5_wind_5 ?_
  have hM := MX4_copyFrom' l D q (ad 1) (xx 1) (ad 0) (xx 0)
  refine mu_V (D := D) (ws := (wX q ad xx)) (ws' := (wX q ad (setV xx 1 (xx 0)))) (rest := []) (As := [.ref ((ad 0) 0)]) hx hb hml hown hts hl hM gX5_wind_X4_copyFrom rfl kX4_copyFrom ⟨Nat.le_of_ble_eq_true rfl, Nat.le_of_ble_eq_true rfl⟩ rfl rfl hP hD hS hG [11, 12, 13, 14, 15, 16, 17, 18, 19, 20, 1, 2, 3, 4, 5, 6, 7, 8, 9, 10] rfl rfl (by decide) [0, 85, 86, 87, 88, 89, 90, 91, 92, 93, 94, 75, 76, 77, 78, 79, 80, 81, 82, 83, 84, 21, 22, 23, 24, 25, 26, 27, 28, 29, 30, 31, 32, 33, 34, 35, 36, 37, 38, 39, 40, 41, 42, 43, 44, 45, 46, 47, 48, 49, 50, 51, 52, 53, 54, 55, 56, 57, 58, 59, 60, 61, 62, 63, 64, 65, 66, 67, 68, 69, 70, 71, 72, 73, 74] rfl (by decide) rfl (ci := 2) rfl rfl rfl rfl (Nat.le_of_ble_eq_true rfl) dX5_wind_8 ⟨Nat.zero_le _, Nat.zero_le _⟩ (fun H locs hP hD hS => ?_)
  obtain ⟨xx_1, exx_1⟩ : ∃ z, z = (setV xx 1 (xx 0)) := ⟨_, rfl⟩
  rw [← exx_1] at hP hD
  replace hR := lt_e hR exx_1
  refine lv_aload_n hx hb dX5_wind_11 rfl (lv_at hl 0 rfl) ?_
  refine lv_aload_n hx hb dX5_wind_12 rfl (lv_at hl 0 rfl) ?_
  refine lv_iload_n hx hb dX5_wind_13 rfl (lv_at hl 1 rfl) ?_
  refine lv_iload_n hx hb dX5_wind_14 rfl (lv_at hl 2 rfl) ?_
  refine lv_iload_n hx hb dX5_wind_15 rfl (lv_at hl 3 rfl) ?_
  obtain ⟨q_2, eq_2⟩ : ∃ z, z = (mX5_tellWind (xx_1 0) a1 a2 a3) := ⟨_, rfl⟩
  have hM := MX5_tellWind l D q ad (xx_1 9 0 0) (xx_1 0) a1 a2 a3
  rw [← eq_2] at hM
  replace hR := lt_e hR eq_2
  refine mu_V (D := D) (ws := (wX q ad xx_1)) (ws' := (wX q ad (setV xx_1 0 q_2.2))) (rest := [.ref (ad 9 0)]) (As := [.int a1, .int a2, .int a3]) hx hb hml hown hts hl hM gX5_wind_X5_tellWind rfl kX5_tellWind ⟨Nat.le_of_ble_eq_true rfl, Nat.le_of_ble_eq_true rfl⟩ rfl rfl hP hD hS hG [0, 1, 2, 3, 4, 5, 6, 7, 8, 9, 10] rfl rfl (by decide) [75, 76, 77, 78, 79, 80, 81, 82, 83, 84, 85, 11, 12, 13, 14, 15, 16, 17, 18, 19, 20, 21, 22, 23, 24, 25, 26, 27, 28, 29, 30, 31, 32, 33, 34, 35, 36, 37, 38, 39, 40, 41, 42, 43, 44, 45, 46, 47, 48, 49, 50, 51, 52, 53, 54, 55, 56, 57, 58, 59, 60, 61, 62, 63, 64, 65, 66, 67, 68, 69, 70, 71, 72, 73, 74] rfl (by decide) rfl (ci := 3) rfl rfl rfl rfl (Nat.le_of_ble_eq_true rfl) dX5_wind_16 ⟨Nat.zero_le _, Nat.zero_le _⟩ (fun H locs hP hD hS => ?_)
  obtain ⟨xx_3, exx_3⟩ : ∃ z, z = (setV xx_1 0 q_2.2) := ⟨_, rfl⟩
  rw [← exx_3] at hP hD
  replace hR := lt_e hR exx_3
  obtain ⟨q_4, eq_4⟩ : ∃ z, z = (mX5_recorded xx_3 q_2.1) := ⟨_, rfl⟩
  have hM := MX5_recorded l D q ad xx_3 q_2.1 (by rw [exx_3, exx_1]; exact hrg)
  rw [← eq_4] at hM
  replace hR := lt_e hR eq_4
  refine mu_V (D := D) (ws := (wX q ad xx_3)) (ws' := (wX q ad q_4.2)) (rest := []) (As := [.int q_2.1]) hx hb hml hown hts hl hM gX5_wind_X5_recorded rfl kX5_recorded ⟨Nat.le_of_ble_eq_true rfl, Nat.le_of_ble_eq_true rfl⟩ rfl rfl hP hD hS hG [0, 1, 2, 3, 4, 5, 6, 7, 8, 9, 10, 11, 12, 13, 14, 15, 16, 17, 18, 19, 20, 21, 22, 23, 24, 25, 26, 27, 28, 29, 30, 31, 32, 33, 34, 35, 36, 37, 38, 39, 40, 41, 42, 43, 44, 45, 46, 47, 48, 49, 50, 51, 52, 53, 54, 55, 56, 57, 58, 59, 60, 61, 62, 63, 64, 65, 66, 67, 68, 69, 70, 71, 72, 73, 74] rfl rfl (by decide) [75, 76, 77, 78, 79, 80, 81, 82, 83, 84, 85, 86, 87, 88, 89, 90, 91, 92, 93, 94, 95, 96, 97, 98, 99, 100, 101, 102, 103, 104, 105, 106, 107, 108, 109, 110, 111, 112, 113, 114, 115, 116, 117, 118, 119, 120, 121, 122, 123, 124, 125, 126, 127, 128, 129, 130, 131, 132, 133, 134, 135, 136, 137, 138, 139, 140, 141, 142, 143, 144, 145, 146, 147, 148, 149] rfl (by decide) rfl (ci := 3) rfl rfl rfl rfl (Nat.le_of_ble_eq_true rfl) dX5_wind_19 ⟨Nat.zero_le _, Nat.zero_le _⟩ (fun H locs hP hD hS => ?_)
  subst hR
  exact mu_iret hx hb hr hk hA hS hP rfl dX5_wind_22

def mX5_complain (xx : Nat → Nat → Nat → Int32) (a1 a2 a3 a4 : Int32) : Int32 × (Nat → Nat → Nat → Int32) := (lt (setV xx 1 (xx 0)) (fun xx_1 => (lt (mX5_lodge (xx_1 0) a1 a2 a3 a4) (fun q_2 => (lt (setV xx_1 0 q_2.2) (fun xx_3 => (lt (mX5_recorded xx_3 q_2.1) (fun q_4 => (q_4.1, q_4.2)))))))))
theorem kX5_complain : yX5_complain.cls = RX5 ∧ yX5_complain.cls ≠ "java/lang/invoke/MethodHandle" ∧ yX5_complain.cls ≠ "java/lang/invoke/VarHandle" ∧ (parseMethodDescriptor yX5_complain.desc).map (fun d => d.parameters.length) = some 4 := by decide +kernel
theorem iX5_complain_X5 : ∀ w ∈ wsX50, w ∈ wsX5_complain := fun w h => (List.mem_cons_of_mem _ (List.mem_append_left _ (List.mem_append_left _ (List.mem_append_right _ h))))
set_option maxHeartbeats 4000000 in
set_option maxRecDepth 100000 in
theorem MX5_complain (l : Launch) (D : va_G) (q : Nat → ClassId) (ad : Nat → Nat → Nat) (xx : Nat → Nat → Nat → Int32) (a1 a2 a3 a4 : Int32) (hrg : rgOk xx) : muM l D (tyq q) yX5_complain wsX5_complain ({ frames := 6, cells := 0, slots := 0, locals := 146 } : Room) [.ref (ad 9 0), .int a1, .int a2, .int a3, .int a4] (wX q ad xx) (some (.int (mX5_complain xx a1 a2 a3 a4).1)) (wX q ad (mX5_complain xx a1 a2 a3 a4).2) := by
  obtain ⟨R, hR⟩ : ∃ z, (mX5_complain xx a1 a2 a3 a4) = z := ⟨_, rfl⟩
  rw [hR]
  unfold mX5_complain at hR
  refine muM.of (cc := cX5_complain) (maxL := 5) (ret := (some .int)) (by decide) rfl (Nat.le_of_ble_eq_true rfl) ?_
  intro p e s m below meth c ls A hx hb hr hk hml hown hts hP hD hG hA hl
  have hS : va_S A s.heap s.heap [] := va_S.rf
  have hl : lv_has ls 5 [(0, .ref (ad 9 0)), (1, .int a1), (2, .int a2), (3, .int a3), (4, .int a4)] := hl
  refine lv_aload_n hx hb dX5_complain_0 rfl (lv_at hl 0 rfl) ?_
  refine va_get (D := D) (ci := 3) (v := .ref ((ad 1) 0)) (C := RX5) (T := TX5) (N := 6) hx hb hts iX5_complain_X5 hown hG.1 hP 0 rfl rfl 1 (by decide) (hts (.fieldLink RX5 16 "MillComplaints" "before" "LMillComplaints$Village;") (List.mem_of_getElem? (i := 1) rfl)) (fun _ h9 => h9) rfl dX5_complain_1 ?_
  refine lv_aload_n hx hb dX5_complain_4 rfl (lv_at hl 0 rfl) ?_
  refine va_get (D := D) (ci := 3) (v := .ref ((ad 0) 0)) (C := RX5) (T := TX5) (N := 6) hx hb hts iX5_complain_X5 hown hG.1 hP 0 rfl rfl 0 (by decide) (hts (.fieldLink RX5 12 "MillComplaints" "now" "LMillComplaints$Village;") (List.mem_of_getElem? (i := 2) rfl)) (fun _ h9 => h9) rfl dX5_complain_5 ?_
  have hM := MX4_copyFrom' l D q (ad 1) (xx 1) (ad 0) (xx 0)
  refine mu_V (D := D) (ws := (wX q ad xx)) (ws' := (wX q ad (setV xx 1 (xx 0)))) (rest := []) (As := [.ref ((ad 0) 0)]) hx hb hml hown hts hl hM gX5_complain_X4_copyFrom rfl kX4_copyFrom ⟨Nat.le_of_ble_eq_true rfl, Nat.le_of_ble_eq_true rfl⟩ rfl rfl hP hD hS hG [11, 12, 13, 14, 15, 16, 17, 18, 19, 20, 1, 2, 3, 4, 5, 6, 7, 8, 9, 10] rfl rfl (by decide) [0, 85, 86, 87, 88, 89, 90, 91, 92, 93, 94, 75, 76, 77, 78, 79, 80, 81, 82, 83, 84, 21, 22, 23, 24, 25, 26, 27, 28, 29, 30, 31, 32, 33, 34, 35, 36, 37, 38, 39, 40, 41, 42, 43, 44, 45, 46, 47, 48, 49, 50, 51, 52, 53, 54, 55, 56, 57, 58, 59, 60, 61, 62, 63, 64, 65, 66, 67, 68, 69, 70, 71, 72, 73, 74] rfl (by decide) rfl (ci := 2) rfl rfl rfl rfl (Nat.le_of_ble_eq_true rfl) dX5_complain_8 ⟨Nat.zero_le _, Nat.zero_le _⟩ (fun H locs hP hD hS => ?_)
  obtain ⟨xx_1, exx_1⟩ : ∃ z, z = (setV xx 1 (xx 0)) := ⟨_, rfl⟩
  rw [← exx_1] at hP hD
  replace hR := lt_e hR exx_1
  refine lv_aload_n hx hb dX5_complain_11 rfl (lv_at hl 0 rfl) ?_
  refine lv_aload_n hx hb dX5_complain_12 rfl (lv_at hl 0 rfl) ?_
  refine lv_iload_n hx hb dX5_complain_13 rfl (lv_at hl 1 rfl) ?_
  refine lv_iload_n hx hb dX5_complain_14 rfl (lv_at hl 2 rfl) ?_
  refine lv_iload_n hx hb dX5_complain_15 rfl (lv_at hl 3 rfl) ?_
  refine lv_iload hx hb dX5_complain_16 (lv_at hl 4 rfl) ?_
  obtain ⟨q_2, eq_2⟩ : ∃ z, z = (mX5_lodge (xx_1 0) a1 a2 a3 a4) := ⟨_, rfl⟩
  have hM := MX5_lodge l D q ad (xx_1 9 0 0) (xx_1 0) a1 a2 a3 a4
  rw [← eq_2] at hM
  replace hR := lt_e hR eq_2
  refine mu_V (D := D) (ws := (wX q ad xx_1)) (ws' := (wX q ad (setV xx_1 0 q_2.2))) (rest := [.ref (ad 9 0)]) (As := [.int a1, .int a2, .int a3, .int a4]) hx hb hml hown hts hl hM gX5_complain_X5_lodge rfl kX5_lodge ⟨Nat.le_of_ble_eq_true rfl, Nat.le_of_ble_eq_true rfl⟩ rfl rfl hP hD hS hG [0, 1, 2, 3, 4, 5, 6, 7, 8, 9, 10] rfl rfl (by decide) [75, 76, 77, 78, 79, 80, 81, 82, 83, 84, 85, 11, 12, 13, 14, 15, 16, 17, 18, 19, 20, 21, 22, 23, 24, 25, 26, 27, 28, 29, 30, 31, 32, 33, 34, 35, 36, 37, 38, 39, 40, 41, 42, 43, 44, 45, 46, 47, 48, 49, 50, 51, 52, 53, 54, 55, 56, 57, 58, 59, 60, 61, 62, 63, 64, 65, 66, 67, 68, 69, 70, 71, 72, 73, 74] rfl (by decide) rfl (ci := 3) rfl rfl rfl rfl (Nat.le_of_ble_eq_true rfl) dX5_complain_18 ⟨Nat.zero_le _, Nat.zero_le _⟩ (fun H locs hP hD hS => ?_)
  obtain ⟨xx_3, exx_3⟩ : ∃ z, z = (setV xx_1 0 q_2.2) := ⟨_, rfl⟩
  rw [← exx_3] at hP hD
  replace hR := lt_e hR exx_3
  obtain ⟨q_4, eq_4⟩ : ∃ z, z = (mX5_recorded xx_3 q_2.1) := ⟨_, rfl⟩
  have hM := MX5_recorded l D q ad xx_3 q_2.1 (by rw [exx_3, exx_1]; exact hrg)
  rw [← eq_4] at hM
  replace hR := lt_e hR eq_4
  refine mu_V (D := D) (ws := (wX q ad xx_3)) (ws' := (wX q ad q_4.2)) (rest := []) (As := [.int q_2.1]) hx hb hml hown hts hl hM gX5_complain_X5_recorded rfl kX5_recorded ⟨Nat.le_of_ble_eq_true rfl, Nat.le_of_ble_eq_true rfl⟩ rfl rfl hP hD hS hG [0, 1, 2, 3, 4, 5, 6, 7, 8, 9, 10, 11, 12, 13, 14, 15, 16, 17, 18, 19, 20, 21, 22, 23, 24, 25, 26, 27, 28, 29, 30, 31, 32, 33, 34, 35, 36, 37, 38, 39, 40, 41, 42, 43, 44, 45, 46, 47, 48, 49, 50, 51, 52, 53, 54, 55, 56, 57, 58, 59, 60, 61, 62, 63, 64, 65, 66, 67, 68, 69, 70, 71, 72, 73, 74] rfl rfl (by decide) [75, 76, 77, 78, 79, 80, 81, 82, 83, 84, 85, 86, 87, 88, 89, 90, 91, 92, 93, 94, 95, 96, 97, 98, 99, 100, 101, 102, 103, 104, 105, 106, 107, 108, 109, 110, 111, 112, 113, 114, 115, 116, 117, 118, 119, 120, 121, 122, 123, 124, 125, 126, 127, 128, 129, 130, 131, 132, 133, 134, 135, 136, 137, 138, 139, 140, 141, 142, 143, 144, 145, 146, 147, 148, 149] rfl (by decide) rfl (ci := 3) rfl rfl rfl rfl (Nat.le_of_ble_eq_true rfl) dX5_complain_21 ⟨Nat.zero_le _, Nat.zero_le _⟩ (fun H locs hP hD hS => ?_)
  subst hR
  exact mu_iret hx hb hr hk hA hS hP rfl dX5_complain_24




def mX5_undo (xx : Nat → Nat → Nat → Int32) : Int32 × (Nat → Nat → Nat → Int32) := (if (xx 8 0 1) = 0 then ((-5), xx) else (lt (mX1_takeLatest xx) (fun q_2 => (lt (setV (setV (setV (setV (setV (setV xx 8 (q_2 8)) 3 (q_2 3)) 4 (q_2 4)) 5 (q_2 5)) 6 (q_2 6)) 0 (q_2 0)) (fun xx_3 => ((xx_3 8 0 1), xx_3))))))
theorem kX5_undo : yX5_undo.cls = RX5 ∧ yX5_undo.cls ≠ "java/lang/invoke/MethodHandle" ∧ yX5_undo.cls ≠ "java/lang/invoke/VarHandle" ∧ (parseMethodDescriptor yX5_undo.desc).map (fun d => d.parameters.length) = some 0 := by decide +kernel
theorem iX5_undo_X5 : ∀ w ∈ wsX50, w ∈ wsX5_undo := fun w h => (List.mem_cons_of_mem _ (List.mem_append_left _ (List.mem_append_left _ (List.mem_append_right _ h))))
theorem iX5_undo_X1 : ∀ w ∈ wsX10, w ∈ wsX5_undo := fun w h => (List.mem_cons_of_mem _ (List.mem_append_left _ (List.mem_append_right _ h)))
set_option maxHeartbeats 4000000 in
set_option maxRecDepth 100000 in
theorem MX5_undo (l : Launch) (D : va_G) (q : Nat → ClassId) (ad : Nat → Nat → Nat) (xx : Nat → Nat → Nat → Int32)  (hrg : rgOk xx) : muM l D (tyq q) yX5_undo wsX5_undo ({ frames := 3, cells := 0, slots := 0, locals := 65 } : Room) [.ref (ad 9 0)] (wX q ad xx) (some (.int (mX5_undo xx).1)) (wX q ad (mX5_undo xx).2) := by
  obtain ⟨R, hR⟩ : ∃ z, (mX5_undo xx) = z := ⟨_, rfl⟩
  rw [hR]
  unfold mX5_undo at hR
  refine muM.of (cc := cX5_undo) (maxL := 1) (ret := (some .int)) (by decide) rfl (Nat.le_of_ble_eq_true rfl) ?_
  intro p e s m below meth c ls A hx hb hr hk hml hown hts hP hD hG hA hl
  have hS : va_S A s.heap s.heap [] := va_S.rf
  have hl : lv_has ls 1 [(0, .ref (ad 9 0))] := hl
  refine lv_aload_n hx hb dX5_undo_0 rfl (lv_at hl 0 rfl) ?_
  refine va_get (D := D) (ci := 3) (v := .ref (ad 8 0)) (C := RX5) (T := TX5) (N := 6) hx hb hts iX5_undo_X5 hown hG.1 hP 0 rfl rfl 4 (by decide) (hts (.fieldLink RX5 29 "MillComplaints" "history" "LMillComplaints$History;") (List.mem_of_getElem? (i := 1) rfl)) (fun _ h9 => h9) rfl dX5_undo_1 ?_
  refine va_getN (D := D) (ci := 0) (v := .int (xx 8 0 1)) (C := RX1) (T := TX1) (N := 3) hx hb hts iX5_undo_X1 hown hG.1 hP 71 rfl rfl 2 (by decide) (nwf_10 hG) (fun _ h9 => h9) rfl dX5_undo_4 ?_
  refine lv_if_ne (tgt := 13) hx hb dX5_undo_7 (by decide) (fun c_1 => ?_) (fun c_1 => ?_)
  · rw [if_neg c_1] at hR
    refine lv_aload_n hx hb dX5_undo_13 rfl (lv_at hl 0 rfl) ?_
    refine va_get (D := D) (ci := 3) (v := .ref (ad 8 0)) (C := RX5) (T := TX5) (N := 6) hx hb hts iX5_undo_X5 hown hG.1 hP 0 rfl rfl 4 (by decide) (hts (.fieldLink RX5 29 "MillComplaints" "history" "LMillComplaints$History;") (List.mem_of_getElem? (i := 1) rfl)) (fun _ h9 => h9) rfl dX5_undo_14 ?_
    refine lv_aload_n hx hb dX5_undo_17 rfl (lv_at hl 0 rfl) ?_
    refine va_get (D := D) (ci := 3) (v := .ref ((ad 0) 0)) (C := RX5) (T := TX5) (N := 6) hx hb hts iX5_undo_X5 hown hG.1 hP 0 rfl rfl 0 (by decide) (hts (.fieldLink RX5 12 "MillComplaints" "now" "LMillComplaints$Village;") (List.mem_of_getElem? (i := 2) rfl)) (fun _ h9 => h9) rfl dX5_undo_18 ?_
    obtain ⟨q_2, eq_2⟩ : ∃ z, z = (mX1_takeLatest xx) := ⟨_, rfl⟩
    have hM := MX1_takeLatest l D q ad xx hrg
    rw [← eq_2] at hM
    replace hR := lt_e hR eq_2
    refine mu_V (D := D) (ws := (wX q ad xx)) (ws' := (wX q ad (setV (setV (setV (setV (setV (setV xx 8 (q_2 8)) 3 (q_2 3)) 4 (q_2 4)) 5 (q_2 5)) 6 (q_2 6)) 0 (q_2 0)))) (rest := []) (As := [.ref ((ad 0) 0)]) hx hb hml hown hts hl hM gX5_undo_X1_takeLatest rfl kX1_takeLatest ⟨Nat.le_of_ble_eq_true rfl, Nat.le_of_ble_eq_true rfl⟩ rfl rfl hP hD hS hG [71, 72, 31, 32, 33, 34, 35, 36, 37, 38, 39, 40, 41, 42, 43, 44, 45, 46, 47, 48, 49, 50, 51, 52, 53, 54, 55, 56, 57, 58, 59, 60, 61, 62, 63, 64, 65, 66, 67, 68, 69, 70, 1, 2, 3, 4, 5, 6, 7, 8, 9, 10] rfl rfl (by decide) [0, 117, 118, 119, 120, 121, 122, 123, 124, 125, 126, 11, 12, 13, 14, 15, 16, 17, 18, 19, 20, 21, 22, 23, 24, 25, 26, 27, 28, 29, 30, 77, 78, 79, 80, 81, 82, 83, 84, 85, 86, 87, 88, 89, 90, 91, 92, 93, 94, 95, 96, 97, 98, 99, 100, 101, 102, 103, 104, 105, 106, 107, 108, 109, 110, 111, 112, 113, 114, 115, 116, 75, 76, 73, 74] rfl (by decide) rfl (ci := 0) rfl rfl rfl rfl (Nat.le_of_ble_eq_true rfl) dX5_undo_21 ⟨Nat.zero_le _, Nat.zero_le _⟩ (fun H locs hP hD hS => ?_)
    obtain ⟨xx_3, exx_3⟩ : ∃ z, z = (setV (setV (setV (setV (setV (setV xx 8 (q_2 8)) 3 (q_2 3)) 4 (q_2 4)) 5 (q_2 5)) 6 (q_2 6)) 0 (q_2 0)) := ⟨_, rfl⟩
    rw [← exx_3] at hP hD
    replace hR := lt_e hR exx_3
    refine lv_aload_n hx hb dX5_undo_24 rfl (lv_at hl 0 rfl) ?_
    refine va_get (D := D) (ci := 3) (v := .ref (ad 8 0)) (C := RX5) (T := TX5) (N := 6) hx hb hts iX5_undo_X5 hown hG.1 hP 0 rfl rfl 4 (by decide) (hts (.fieldLink RX5 29 "MillComplaints" "history" "LMillComplaints$History;") (List.mem_of_getElem? (i := 1) rfl)) (fun _ h9 => h9) rfl dX5_undo_25 ?_
    refine va_getN (D := D) (ci := 0) (v := .int (xx_3 8 0 1)) (C := RX1) (T := TX1) (N := 3) hx hb hts iX5_undo_X1 hown hG.1 hP 71 rfl rfl 2 (by decide) (nwf_10 hG) (fun _ h9 => h9) rfl dX5_undo_28 ?_
    subst hR
    exact mu_iret hx hb hr hk hA hS hP rfl dX5_undo_31
  · rw [if_pos c_1] at hR
    refine lv_bipush (v := (-5)) hx hb dX5_undo_10 (by decide) ?_
    subst hR
    exact mu_iret hx hb hr hk hA hS hP rfl dX5_undo_12

def mX5_restore (xx : Nat → Nat → Nat → Int32) : Int32 × (Nat → Nat → Nat → Int32) := (if (xx 9 0 0) = 0 then ((-5), xx) else (lt (setV xx 1 (xx 0)) (fun xx_2 => (lt (setV xx_2 0 (xx_2 2)) (fun xx_3 => (lt (mX5_recorded xx_3 ((xx_3 0) 10 0)) (fun q_4 => (q_4.1, q_4.2))))))))
theorem kX5_restore : yX5_restore.cls = RX5 ∧ yX5_restore.cls ≠ "java/lang/invoke/MethodHandle" ∧ yX5_restore.cls ≠ "java/lang/invoke/VarHandle" ∧ (parseMethodDescriptor yX5_restore.desc).map (fun d => d.parameters.length) = some 0 := by decide +kernel
theorem iX5_restore_X5 : ∀ w ∈ wsX50, w ∈ wsX5_restore := fun w h => (List.mem_cons_of_mem _ (List.mem_append_left _ (List.mem_append_left _ (List.mem_append_right _ h))))
theorem iX5_restore_X4 : ∀ w ∈ wsX40, w ∈ wsX5_restore := fun w h => (List.mem_cons_of_mem _ (List.mem_append_left _ (List.mem_append_right _ h)))
set_option maxHeartbeats 4000000 in
set_option maxRecDepth 100000 in
theorem MX5_restore (l : Launch) (D : va_G) (q : Nat → ClassId) (ad : Nat → Nat → Nat) (xx : Nat → Nat → Nat → Int32)  (hrg : rgOk xx) : muM l D (tyq q) yX5_restore wsX5_restore ({ frames := 4, cells := 0, slots := 0, locals := 86 } : Room) [.ref (ad 9 0)] (wX q ad xx) (some (.int (mX5_restore xx).1)) (wX q ad (mX5_restore xx).2) := by
  obtain ⟨R, hR⟩ : ∃ z, (mX5_restore xx) = z := ⟨_, rfl⟩
  rw [hR]
  unfold mX5_restore at hR
  refine muM.of (cc := cX5_restore) (maxL := 1) (ret := (some .int)) (by decide) rfl (Nat.le_of_ble_eq_true rfl) ?_
  intro p e s m below meth c ls A hx hb hr hk hml hown hts hP hD hG hA hl
  have hS : va_S A s.heap s.heap [] := va_S.rf
  have hl : lv_has ls 1 [(0, .ref (ad 9 0))] := hl
  refine lv_aload_n hx hb dX5_restore_0 rfl (lv_at hl 0 rfl) ?_
  refine va_get (D := D) (ci := 3) (v := .int (xx 9 0 0)) (C := RX5) (T := TX5) (N := 6) hx hb hts iX5_restore_X5 hown hG.1 hP 0 rfl rfl 3 (by decide) (hts (.fieldLink RX5 22 "MillComplaints" "hasSnapshot" "Z") (List.mem_of_getElem? (i := 1) rfl)) (fun _ h9 => h9) rfl dX5_restore_1 ?_
  refine lv_if_ne (tgt := 10) hx hb dX5_restore_4 (by decide) (fun c_1 => ?_) (fun c_1 => ?_)
  · rw [if_neg c_1] at hR
    refine lv_aload_n hx hb dX5_restore_10 rfl (lv_at hl 0 rfl) ?_
    refine va_get (D := D) (ci := 3) (v := .ref ((ad 1) 0)) (C := RX5) (T := TX5) (N := 6) hx hb hts iX5_restore_X5 hown hG.1 hP 0 rfl rfl 1 (by decide) (hts (.fieldLink RX5 16 "MillComplaints" "before" "LMillComplaints$Village;") (List.mem_of_getElem? (i := 2) rfl)) (fun _ h9 => h9) rfl dX5_restore_11 ?_
    refine lv_aload_n hx hb dX5_restore_14 rfl (lv_at hl 0 rfl) ?_
    refine va_get (D := D) (ci := 3) (v := .ref ((ad 0) 0)) (C := RX5) (T := TX5) (N := 6) hx hb hts iX5_restore_X5 hown hG.1 hP 0 rfl rfl 0 (by decide) (hts (.fieldLink RX5 12 "MillComplaints" "now" "LMillComplaints$Village;") (List.mem_of_getElem? (i := 3) rfl)) (fun _ h9 => h9) rfl dX5_restore_15 ?_
    have hM := MX4_copyFrom' l D q (ad 1) (xx 1) (ad 0) (xx 0)
    refine mu_V (D := D) (ws := (wX q ad xx)) (ws' := (wX q ad (setV xx 1 (xx 0)))) (rest := []) (As := [.ref ((ad 0) 0)]) hx hb hml hown hts hl hM gX5_restore_X4_copyFrom rfl kX4_copyFrom ⟨Nat.le_of_ble_eq_true rfl, Nat.le_of_ble_eq_true rfl⟩ rfl rfl hP hD hS hG [11, 12, 13, 14, 15, 16, 17, 18, 19, 20, 1, 2, 3, 4, 5, 6, 7, 8, 9, 10] rfl rfl (by decide) [0, 85, 86, 87, 88, 89, 90, 91, 92, 93, 94, 75, 76, 77, 78, 79, 80, 81, 82, 83, 84, 21, 22, 23, 24, 25, 26, 27, 28, 29, 30, 31, 32, 33, 34, 35, 36, 37, 38, 39, 40, 41, 42, 43, 44, 45, 46, 47, 48, 49, 50, 51, 52, 53, 54, 55, 56, 57, 58, 59, 60, 61, 62, 63, 64, 65, 66, 67, 68, 69, 70, 71, 72, 73, 74] rfl (by decide) rfl (ci := 2) rfl rfl rfl rfl (Nat.le_of_ble_eq_true rfl) dX5_restore_18 ⟨Nat.zero_le _, Nat.zero_le _⟩ (fun H locs hP hD hS => ?_)
    obtain ⟨xx_2, exx_2⟩ : ∃ z, z = (setV xx 1 (xx 0)) := ⟨_, rfl⟩
    rw [← exx_2] at hP hD
    replace hR := lt_e hR exx_2
    refine lv_aload_n hx hb dX5_restore_21 rfl (lv_at hl 0 rfl) ?_
    refine va_get (D := D) (ci := 3) (v := .ref ((ad 0) 0)) (C := RX5) (T := TX5) (N := 6) hx hb hts iX5_restore_X5 hown hG.1 hP 0 rfl rfl 0 (by decide) (hts (.fieldLink RX5 12 "MillComplaints" "now" "LMillComplaints$Village;") (List.mem_of_getElem? (i := 3) rfl)) (fun _ h9 => h9) rfl dX5_restore_22 ?_
    refine lv_aload_n hx hb dX5_restore_25 rfl (lv_at hl 0 rfl) ?_
    refine va_get (D := D) (ci := 3) (v := .ref ((ad 2) 0)) (C := RX5) (T := TX5) (N := 6) hx hb hts iX5_restore_X5 hown hG.1 hP 0 rfl rfl 2 (by decide) (hts (.fieldLink RX5 19 "MillComplaints" "snapshot" "LMillComplaints$Village;") (List.mem_of_getElem? (i := 4) rfl)) (fun _ h9 => h9) rfl dX5_restore_26 ?_
    have hM := MX4_copyFrom' l D q (ad 0) (xx_2 0) (ad 2) (xx_2 2)
    refine mu_V (D := D) (ws := (wX q ad xx_2)) (ws' := (wX q ad (setV xx_2 0 (xx_2 2)))) (rest := []) (As := [.ref ((ad 2) 0)]) hx hb hml hown hts hl hM gX5_restore_X4_copyFrom rfl kX4_copyFrom ⟨Nat.le_of_ble_eq_true rfl, Nat.le_of_ble_eq_true rfl⟩ rfl rfl hP hD hS hG [1, 2, 3, 4, 5, 6, 7, 8, 9, 10, 21, 22, 23, 24, 25, 26, 27, 28, 29, 30] rfl rfl (by decide) [0, 75, 76, 77, 78, 79, 80, 81, 82, 83, 84, 11, 12, 13, 14, 15, 16, 17, 18, 19, 20, 85, 86, 87, 88, 89, 90, 91, 92, 93, 94, 31, 32, 33, 34, 35, 36, 37, 38, 39, 40, 41, 42, 43, 44, 45, 46, 47, 48, 49, 50, 51, 52, 53, 54, 55, 56, 57, 58, 59, 60, 61, 62, 63, 64, 65, 66, 67, 68, 69, 70, 71, 72, 73, 74] rfl (by decide) rfl (ci := 2) rfl rfl rfl rfl (Nat.le_of_ble_eq_true rfl) dX5_restore_29 ⟨Nat.zero_le _, Nat.zero_le _⟩ (fun H locs hP hD hS => ?_)
    obtain ⟨xx_3, exx_3⟩ : ∃ z, z = (setV xx_2 0 (xx_2 2)) := ⟨_, rfl⟩
    rw [← exx_3] at hP hD
    replace hR := lt_e hR exx_3
    refine lv_aload_n hx hb dX5_restore_32 rfl (lv_at hl 0 rfl) ?_
    refine lv_aload_n hx hb dX5_restore_33 rfl (lv_at hl 0 rfl) ?_
    refine va_get (D := D) (ci := 3) (v := .ref ((ad 0) 0)) (C := RX5) (T := TX5) (N := 6) hx hb hts iX5_restore_X5 hown hG.1 hP 0 rfl rfl 0 (by decide) (hts (.fieldLink RX5 12 "MillComplaints" "now" "LMillComplaints$Village;") (List.mem_of_getElem? (i := 3) rfl)) (fun _ h9 => h9) rfl dX5_restore_34 ?_
    refine va_getN (D := D) (ci := 2) (v := .int ((xx_3 0) 10 0)) (C := RX4) (T := TX4) (N := 11) hx hb hts iX5_restore_X4 hown hG.1 hP 1 rfl rfl 7 (by decide) (nwf_7 hG) (fun _ h9 => h9) rfl dX5_restore_37 ?_
    obtain ⟨q_4, eq_4⟩ : ∃ z, z = (mX5_recorded xx_3 ((xx_3 0) 10 0)) := ⟨_, rfl⟩
    have hM := MX5_recorded l D q ad xx_3 ((xx_3 0) 10 0) (by rw [exx_3, exx_2]; exact hrg)
    rw [← eq_4] at hM
    replace hR := lt_e hR eq_4
    refine mu_V (D := D) (ws := (wX q ad xx_3)) (ws' := (wX q ad q_4.2)) (rest := []) (As := [.int ((xx_3 0) 10 0)]) hx hb hml hown hts hl hM gX5_restore_X5_recorded rfl kX5_recorded ⟨Nat.le_of_ble_eq_true rfl, Nat.le_of_ble_eq_true rfl⟩ rfl rfl hP hD hS hG [0, 1, 2, 3, 4, 5, 6, 7, 8, 9, 10, 11, 12, 13, 14, 15, 16, 17, 18, 19, 20, 21, 22, 23, 24, 25, 26, 27, 28, 29, 30, 31, 32, 33, 34, 35, 36, 37, 38, 39, 40, 41, 42, 43, 44, 45, 46, 47, 48, 49, 50, 51, 52, 53, 54, 55, 56, 57, 58, 59, 60, 61, 62, 63, 64, 65, 66, 67, 68, 69, 70, 71, 72, 73, 74] rfl rfl (by decide) [75, 76, 77, 78, 79, 80, 81, 82, 83, 84, 85, 86, 87, 88, 89, 90, 91, 92, 93, 94, 95, 96, 97, 98, 99, 100, 101, 102, 103, 104, 105, 106, 107, 108, 109, 110, 111, 112, 113, 114, 115, 116, 117, 118, 119, 120, 121, 122, 123, 124, 125, 126, 127, 128, 129, 130, 131, 132, 133, 134, 135, 136, 137, 138, 139, 140, 141, 142, 143, 144, 145, 146, 147, 148, 149] rfl (by decide) rfl (ci := 3) rfl rfl rfl rfl (Nat.le_of_ble_eq_true rfl) dX5_restore_40 ⟨Nat.zero_le _, Nat.zero_le _⟩ (fun H locs hP hD hS => ?_)
    subst hR
    exact mu_iret hx hb hr hk hA hS hP rfl dX5_restore_43
  · rw [if_pos c_1] at hR
    refine lv_bipush (v := (-5)) hx hb dX5_restore_7 (by decide) ?_
    subst hR
    exact mu_iret hx hb hr hk hA hS hP rfl dX5_restore_9

def mX5_count (xx : Nat → Nat → Nat → Int32) (a1 : Int32) : Int32 := (if a1 = 0 then ((xx 0) 9 0) else (if a1 = 1 then ((xx 0) 10 0) else (if a1 = 2 then (mX5_at 6 ((xx 0) 2) (a1 - 2)) else (if a1 = 3 then (mX5_at 6 ((xx 0) 2) (a1 - 2)) else (if a1 = 4 then (mX5_at 6 ((xx 0) 2) (a1 - 2)) else (if a1 = 5 then (mX5_at 6 ((xx 0) 2) (a1 - 2)) else (if a1 = 6 then (mX5_at 6 ((xx 0) 2) (a1 - 2)) else (if a1 = 7 then (mX5_at 6 ((xx 0) 2) (a1 - 2)) else (if a1 = 8 then (mX4_tiedHoursOfAll (xx 0)) else (if a1 = 9 then (mX4_grainOfAll (xx 0)) else (if a1 = 10 then (xx 8 0 1) else (if a1 = 11 then ((xx 7) 1 0) else (if a1 = 12 then (mX4_setting (xx 0) 0) else (if a1 = 13 then (mX4_setting (xx 0) 1) else (if a1 = 14 then (mX4_setting (xx 0) 2) else (if a1 = 15 then (mX4_setting (xx 0) 3) else (-2)))))))))))))))))
theorem kX5_count : yX5_count.cls = RX5 ∧ yX5_count.cls ≠ "java/lang/invoke/MethodHandle" ∧ yX5_count.cls ≠ "java/lang/invoke/VarHandle" ∧ (parseMethodDescriptor yX5_count.desc).map (fun d => d.parameters.length) = some 1 := by decide +kernel
theorem iX5_count_X5 : ∀ w ∈ wsX50, w ∈ wsX5_count := fun w h => (List.mem_cons_of_mem _ (List.mem_append_left _ (List.mem_append_left _ (List.mem_append_left _ (List.mem_append_right _ h)))))
theorem iX5_count_X4 : ∀ w ∈ wsX40, w ∈ wsX5_count := fun w h => (List.mem_cons_of_mem _ (List.mem_append_left _ (List.mem_append_left _ (List.mem_append_right _ h))))
theorem iX5_count_X1 : ∀ w ∈ wsX10, w ∈ wsX5_count := fun w h => (List.mem_cons_of_mem _ (List.mem_append_left _ (List.mem_append_right _ h)))
theorem iX5_count_X3 : ∀ w ∈ wsX30, w ∈ wsX5_count := fun w h => (List.mem_cons_of_mem _ (List.mem_append_right _ h))
set_option maxHeartbeats 4000000 in
set_option maxRecDepth 100000 in
theorem MX5_count (l : Launch) (D : va_G) (q : Nat → ClassId) (ad : Nat → Nat → Nat) (xx : Nat → Nat → Nat → Int32) (a1 : Int32)  : roM l D (tyq q) yX5_count wsX5_count ({ frames := 6, cells := 0, slots := 0, locals := 131 } : Room) [.ref (ad 9 0), .int a1] (wX q ad xx) (some (.int (mX5_count xx a1))) := by
  obtain ⟨R, hR⟩ : ∃ z, (mX5_count xx a1) = z := ⟨_, rfl⟩
  rw [hR]
  unfold mX5_count at hR
  refine roM.of (cc := cX5_count) (maxL := 2) (ret := (some .int)) (by decide) rfl (Nat.le_of_ble_eq_true rfl) ?_
  intro p e s m below meth c ls hx hb hr hk hml hown hts hP hD hG hl
  have hl : lv_has ls 2 [(0, .ref (ad 9 0)), (1, .int a1)] := hl
  refine lv_iload_n hx hb dX5_count_0 rfl (lv_at hl 1 rfl) ?_
  by_cases c_1 : a1 = 0
  · rw [if_pos c_1] at hR
    refine lv_tableIn (off := 79) (tgt := 80) hx hb dX5_count_1 (by rw [c_1]; decide) (by rw [c_1]; decide) (by rw [c_1]; rfl) (by decide) ?_
    refine lv_aload_n hx hb dX5_count_80 rfl (lv_at hl 0 rfl) ?_
    refine va_get (D := D) (ci := 3) (v := .ref ((ad 0) 0)) (C := RX5) (T := TX5) (N := 6) hx hb hts iX5_count_X5 hown hG.1 hP 0 rfl rfl 0 (by decide) (hts (.fieldLink RX5 12 "MillComplaints" "now" "LMillComplaints$Village;") (List.mem_of_getElem? (i := 1) rfl)) (fun _ h9 => h9) rfl dX5_count_81 ?_
    refine va_getN (D := D) (ci := 2) (v := .int ((xx 0) 9 0)) (C := RX4) (T := TX4) (N := 11) hx hb hts iX5_count_X4 hown hG.1 hP 1 rfl rfl 3 (by decide) (nwf_4 hG) (fun _ h9 => h9) rfl dX5_count_84 ?_
    exact ro_iret hx hb hr hk hR dX5_count_87
  · rw [if_neg c_1] at hR
    by_cases c_2 : a1 = 1
    · rw [if_pos c_2] at hR
      refine lv_tableIn (off := 87) (tgt := 88) hx hb dX5_count_1 (by rw [c_2]; decide) (by rw [c_2]; decide) (by rw [c_2]; rfl) (by decide) ?_
      refine lv_aload_n hx hb dX5_count_88 rfl (lv_at hl 0 rfl) ?_
      refine va_get (D := D) (ci := 3) (v := .ref ((ad 0) 0)) (C := RX5) (T := TX5) (N := 6) hx hb hts iX5_count_X5 hown hG.1 hP 0 rfl rfl 0 (by decide) (hts (.fieldLink RX5 12 "MillComplaints" "now" "LMillComplaints$Village;") (List.mem_of_getElem? (i := 1) rfl)) (fun _ h9 => h9) rfl dX5_count_89 ?_
      refine va_getN (D := D) (ci := 2) (v := .int ((xx 0) 10 0)) (C := RX4) (T := TX4) (N := 11) hx hb hts iX5_count_X4 hown hG.1 hP 1 rfl rfl 7 (by decide) (nwf_7 hG) (fun _ h9 => h9) rfl dX5_count_92 ?_
      exact ro_iret hx hb hr hk hR dX5_count_95
    · rw [if_neg c_2] at hR
      by_cases c_3 : a1 = 2
      · rw [if_pos c_3] at hR
        refine lv_tableIn (off := 95) (tgt := 96) hx hb dX5_count_1 (by rw [c_3]; decide) (by rw [c_3]; decide) (by rw [c_3]; rfl) (by decide) ?_
        refine lv_aload_n hx hb dX5_count_96 rfl (lv_at hl 0 rfl) ?_
        refine va_get (D := D) (ci := 3) (v := .ref ((ad 0) 0)) (C := RX5) (T := TX5) (N := 6) hx hb hts iX5_count_X5 hown hG.1 hP 0 rfl rfl 0 (by decide) (hts (.fieldLink RX5 12 "MillComplaints" "now" "LMillComplaints$Village;") (List.mem_of_getElem? (i := 1) rfl)) (fun _ h9 => h9) rfl dX5_count_97 ?_
        refine va_getN (D := D) (ci := 2) (v := .ref ((ad 0) 3)) (C := RX4) (T := TX4) (N := 11) hx hb hts iX5_count_X4 hown hG.1 hP 1 rfl rfl 2 (by decide) (nwf_3 hG) (fun _ h9 => h9) rfl dX5_count_100 ?_
        refine lv_iload_n hx hb dX5_count_103 rfl (lv_at hl 1 rfl) ?_
        refine lv_iconst (v := 2) hx hb dX5_count_104 (by decide) ?_
        refine lv_isub hx hb dX5_count_105 ?_
        refine ro_S (v := .int (mX5_at 6 ((xx 0) 2) (a1 - 2))) (rest := []) (As := [.ref ((ad 0) 3), .int (a1 - 2)]) hx hb hml hown hts hl (MX5_at l D q ((ad 0) 3) 6 ((xx 0) 2) (a1 - 2) (by decide)) gX5_count_X5_at rfl kX5_at ⟨Nat.le_of_ble_eq_true rfl, Nat.le_of_ble_eq_true rfl⟩ rfl rfl (hP.sub (ws' := (wR q ((ad 0) 3) 6 ((xx 0) 2))) [4] rfl) (dT (hD.sub (ws' := (wR q ((ad 0) 3) 6 ((xx 0) 2))) [4] (by decide) rfl)) hG rfl rfl (Nat.le_of_ble_eq_true rfl) dX5_count_106 ⟨Nat.zero_le _, Nat.zero_le _⟩ ?_
        exact ro_iret hx hb hr hk hR dX5_count_109
      · rw [if_neg c_3] at hR
        by_cases c_4 : a1 = 3
        · rw [if_pos c_4] at hR
          refine lv_tableIn (off := 95) (tgt := 96) hx hb dX5_count_1 (by rw [c_4]; decide) (by rw [c_4]; decide) (by rw [c_4]; rfl) (by decide) ?_
          refine lv_aload_n hx hb dX5_count_96 rfl (lv_at hl 0 rfl) ?_
          refine va_get (D := D) (ci := 3) (v := .ref ((ad 0) 0)) (C := RX5) (T := TX5) (N := 6) hx hb hts iX5_count_X5 hown hG.1 hP 0 rfl rfl 0 (by decide) (hts (.fieldLink RX5 12 "MillComplaints" "now" "LMillComplaints$Village;") (List.mem_of_getElem? (i := 1) rfl)) (fun _ h9 => h9) rfl dX5_count_97 ?_
          refine va_getN (D := D) (ci := 2) (v := .ref ((ad 0) 3)) (C := RX4) (T := TX4) (N := 11) hx hb hts iX5_count_X4 hown hG.1 hP 1 rfl rfl 2 (by decide) (nwf_3 hG) (fun _ h9 => h9) rfl dX5_count_100 ?_
          refine lv_iload_n hx hb dX5_count_103 rfl (lv_at hl 1 rfl) ?_
          refine lv_iconst (v := 2) hx hb dX5_count_104 (by decide) ?_
          refine lv_isub hx hb dX5_count_105 ?_
          refine ro_S (v := .int (mX5_at 6 ((xx 0) 2) (a1 - 2))) (rest := []) (As := [.ref ((ad 0) 3), .int (a1 - 2)]) hx hb hml hown hts hl (MX5_at l D q ((ad 0) 3) 6 ((xx 0) 2) (a1 - 2) (by decide)) gX5_count_X5_at rfl kX5_at ⟨Nat.le_of_ble_eq_true rfl, Nat.le_of_ble_eq_true rfl⟩ rfl rfl (hP.sub (ws' := (wR q ((ad 0) 3) 6 ((xx 0) 2))) [4] rfl) (dT (hD.sub (ws' := (wR q ((ad 0) 3) 6 ((xx 0) 2))) [4] (by decide) rfl)) hG rfl rfl (Nat.le_of_ble_eq_true rfl) dX5_count_106 ⟨Nat.zero_le _, Nat.zero_le _⟩ ?_
          exact ro_iret hx hb hr hk hR dX5_count_109
        · rw [if_neg c_4] at hR
          by_cases c_5 : a1 = 4
          · rw [if_pos c_5] at hR
            refine lv_tableIn (off := 95) (tgt := 96) hx hb dX5_count_1 (by rw [c_5]; decide) (by rw [c_5]; decide) (by rw [c_5]; rfl) (by decide) ?_
            refine lv_aload_n hx hb dX5_count_96 rfl (lv_at hl 0 rfl) ?_
            refine va_get (D := D) (ci := 3) (v := .ref ((ad 0) 0)) (C := RX5) (T := TX5) (N := 6) hx hb hts iX5_count_X5 hown hG.1 hP 0 rfl rfl 0 (by decide) (hts (.fieldLink RX5 12 "MillComplaints" "now" "LMillComplaints$Village;") (List.mem_of_getElem? (i := 1) rfl)) (fun _ h9 => h9) rfl dX5_count_97 ?_
            refine va_getN (D := D) (ci := 2) (v := .ref ((ad 0) 3)) (C := RX4) (T := TX4) (N := 11) hx hb hts iX5_count_X4 hown hG.1 hP 1 rfl rfl 2 (by decide) (nwf_3 hG) (fun _ h9 => h9) rfl dX5_count_100 ?_
            refine lv_iload_n hx hb dX5_count_103 rfl (lv_at hl 1 rfl) ?_
            refine lv_iconst (v := 2) hx hb dX5_count_104 (by decide) ?_
            refine lv_isub hx hb dX5_count_105 ?_
            refine ro_S (v := .int (mX5_at 6 ((xx 0) 2) (a1 - 2))) (rest := []) (As := [.ref ((ad 0) 3), .int (a1 - 2)]) hx hb hml hown hts hl (MX5_at l D q ((ad 0) 3) 6 ((xx 0) 2) (a1 - 2) (by decide)) gX5_count_X5_at rfl kX5_at ⟨Nat.le_of_ble_eq_true rfl, Nat.le_of_ble_eq_true rfl⟩ rfl rfl (hP.sub (ws' := (wR q ((ad 0) 3) 6 ((xx 0) 2))) [4] rfl) (dT (hD.sub (ws' := (wR q ((ad 0) 3) 6 ((xx 0) 2))) [4] (by decide) rfl)) hG rfl rfl (Nat.le_of_ble_eq_true rfl) dX5_count_106 ⟨Nat.zero_le _, Nat.zero_le _⟩ ?_
            exact ro_iret hx hb hr hk hR dX5_count_109
          · rw [if_neg c_5] at hR
            by_cases c_6 : a1 = 5
            · rw [if_pos c_6] at hR
              refine lv_tableIn (off := 95) (tgt := 96) hx hb dX5_count_1 (by rw [c_6]; decide) (by rw [c_6]; decide) (by rw [c_6]; rfl) (by decide) ?_
              refine lv_aload_n hx hb dX5_count_96 rfl (lv_at hl 0 rfl) ?_
              refine va_get (D := D) (ci := 3) (v := .ref ((ad 0) 0)) (C := RX5) (T := TX5) (N := 6) hx hb hts iX5_count_X5 hown hG.1 hP 0 rfl rfl 0 (by decide) (hts (.fieldLink RX5 12 "MillComplaints" "now" "LMillComplaints$Village;") (List.mem_of_getElem? (i := 1) rfl)) (fun _ h9 => h9) rfl dX5_count_97 ?_
              refine va_getN (D := D) (ci := 2) (v := .ref ((ad 0) 3)) (C := RX4) (T := TX4) (N := 11) hx hb hts iX5_count_X4 hown hG.1 hP 1 rfl rfl 2 (by decide) (nwf_3 hG) (fun _ h9 => h9) rfl dX5_count_100 ?_
              refine lv_iload_n hx hb dX5_count_103 rfl (lv_at hl 1 rfl) ?_
              refine lv_iconst (v := 2) hx hb dX5_count_104 (by decide) ?_
              refine lv_isub hx hb dX5_count_105 ?_
              refine ro_S (v := .int (mX5_at 6 ((xx 0) 2) (a1 - 2))) (rest := []) (As := [.ref ((ad 0) 3), .int (a1 - 2)]) hx hb hml hown hts hl (MX5_at l D q ((ad 0) 3) 6 ((xx 0) 2) (a1 - 2) (by decide)) gX5_count_X5_at rfl kX5_at ⟨Nat.le_of_ble_eq_true rfl, Nat.le_of_ble_eq_true rfl⟩ rfl rfl (hP.sub (ws' := (wR q ((ad 0) 3) 6 ((xx 0) 2))) [4] rfl) (dT (hD.sub (ws' := (wR q ((ad 0) 3) 6 ((xx 0) 2))) [4] (by decide) rfl)) hG rfl rfl (Nat.le_of_ble_eq_true rfl) dX5_count_106 ⟨Nat.zero_le _, Nat.zero_le _⟩ ?_
              exact ro_iret hx hb hr hk hR dX5_count_109
            · rw [if_neg c_6] at hR
              by_cases c_7 : a1 = 6
              · rw [if_pos c_7] at hR
                refine lv_tableIn (off := 95) (tgt := 96) hx hb dX5_count_1 (by rw [c_7]; decide) (by rw [c_7]; decide) (by rw [c_7]; rfl) (by decide) ?_
                refine lv_aload_n hx hb dX5_count_96 rfl (lv_at hl 0 rfl) ?_
                refine va_get (D := D) (ci := 3) (v := .ref ((ad 0) 0)) (C := RX5) (T := TX5) (N := 6) hx hb hts iX5_count_X5 hown hG.1 hP 0 rfl rfl 0 (by decide) (hts (.fieldLink RX5 12 "MillComplaints" "now" "LMillComplaints$Village;") (List.mem_of_getElem? (i := 1) rfl)) (fun _ h9 => h9) rfl dX5_count_97 ?_
                refine va_getN (D := D) (ci := 2) (v := .ref ((ad 0) 3)) (C := RX4) (T := TX4) (N := 11) hx hb hts iX5_count_X4 hown hG.1 hP 1 rfl rfl 2 (by decide) (nwf_3 hG) (fun _ h9 => h9) rfl dX5_count_100 ?_
                refine lv_iload_n hx hb dX5_count_103 rfl (lv_at hl 1 rfl) ?_
                refine lv_iconst (v := 2) hx hb dX5_count_104 (by decide) ?_
                refine lv_isub hx hb dX5_count_105 ?_
                refine ro_S (v := .int (mX5_at 6 ((xx 0) 2) (a1 - 2))) (rest := []) (As := [.ref ((ad 0) 3), .int (a1 - 2)]) hx hb hml hown hts hl (MX5_at l D q ((ad 0) 3) 6 ((xx 0) 2) (a1 - 2) (by decide)) gX5_count_X5_at rfl kX5_at ⟨Nat.le_of_ble_eq_true rfl, Nat.le_of_ble_eq_true rfl⟩ rfl rfl (hP.sub (ws' := (wR q ((ad 0) 3) 6 ((xx 0) 2))) [4] rfl) (dT (hD.sub (ws' := (wR q ((ad 0) 3) 6 ((xx 0) 2))) [4] (by decide) rfl)) hG rfl rfl (Nat.le_of_ble_eq_true rfl) dX5_count_106 ⟨Nat.zero_le _, Nat.zero_le _⟩ ?_
                exact ro_iret hx hb hr hk hR dX5_count_109
              · rw [if_neg c_7] at hR
                by_cases c_8 : a1 = 7
                · rw [if_pos c_8] at hR
                  refine lv_tableIn (off := 95) (tgt := 96) hx hb dX5_count_1 (by rw [c_8]; decide) (by rw [c_8]; decide) (by rw [c_8]; rfl) (by decide) ?_
                  refine lv_aload_n hx hb dX5_count_96 rfl (lv_at hl 0 rfl) ?_
                  refine va_get (D := D) (ci := 3) (v := .ref ((ad 0) 0)) (C := RX5) (T := TX5) (N := 6) hx hb hts iX5_count_X5 hown hG.1 hP 0 rfl rfl 0 (by decide) (hts (.fieldLink RX5 12 "MillComplaints" "now" "LMillComplaints$Village;") (List.mem_of_getElem? (i := 1) rfl)) (fun _ h9 => h9) rfl dX5_count_97 ?_
                  refine va_getN (D := D) (ci := 2) (v := .ref ((ad 0) 3)) (C := RX4) (T := TX4) (N := 11) hx hb hts iX5_count_X4 hown hG.1 hP 1 rfl rfl 2 (by decide) (nwf_3 hG) (fun _ h9 => h9) rfl dX5_count_100 ?_
                  refine lv_iload_n hx hb dX5_count_103 rfl (lv_at hl 1 rfl) ?_
                  refine lv_iconst (v := 2) hx hb dX5_count_104 (by decide) ?_
                  refine lv_isub hx hb dX5_count_105 ?_
                  refine ro_S (v := .int (mX5_at 6 ((xx 0) 2) (a1 - 2))) (rest := []) (As := [.ref ((ad 0) 3), .int (a1 - 2)]) hx hb hml hown hts hl (MX5_at l D q ((ad 0) 3) 6 ((xx 0) 2) (a1 - 2) (by decide)) gX5_count_X5_at rfl kX5_at ⟨Nat.le_of_ble_eq_true rfl, Nat.le_of_ble_eq_true rfl⟩ rfl rfl (hP.sub (ws' := (wR q ((ad 0) 3) 6 ((xx 0) 2))) [4] rfl) (dT (hD.sub (ws' := (wR q ((ad 0) 3) 6 ((xx 0) 2))) [4] (by decide) rfl)) hG rfl rfl (Nat.le_of_ble_eq_true rfl) dX5_count_106 ⟨Nat.zero_le _, Nat.zero_le _⟩ ?_
                  exact ro_iret hx hb hr hk hR dX5_count_109
                · rw [if_neg c_8] at hR
                  by_cases c_9 : a1 = 8
                  · rw [if_pos c_9] at hR
                    refine lv_tableIn (off := 109) (tgt := 110) hx hb dX5_count_1 (by rw [c_9]; decide) (by rw [c_9]; decide) (by rw [c_9]; rfl) (by decide) ?_
                    refine lv_aload_n hx hb dX5_count_110 rfl (lv_at hl 0 rfl) ?_
                    refine va_get (D := D) (ci := 3) (v := .ref ((ad 0) 0)) (C := RX5) (T := TX5) (N := 6) hx hb hts iX5_count_X5 hown hG.1 hP 0 rfl rfl 0 (by decide) (hts (.fieldLink RX5 12 "MillComplaints" "now" "LMillComplaints$Village;") (List.mem_of_getElem? (i := 1) rfl)) (fun _ h9 => h9) rfl dX5_count_111 ?_
                    refine ro_V (v := .int (mX4_tiedHoursOfAll (xx 0))) (rest := []) (As := []) hx hb hml hown hts hl (MX4_tiedHoursOfAll l D q (ad 0) (xx 0)) gX5_count_X4_tiedHoursOfAll rfl kX4_tiedHoursOfAll ⟨Nat.le_of_ble_eq_true rfl, Nat.le_of_ble_eq_true rfl⟩ rfl rfl (hP.sub (ws' := (wV q (ad 0) (xx 0))) [1, 2, 3, 4, 5, 6, 7, 8, 9, 10] rfl) (dT (hD.sub (ws' := (wV q (ad 0) (xx 0))) [1, 2, 3, 4, 5, 6, 7, 8, 9, 10] (by decide) rfl)) hG (ci := 2) rfl rfl rfl rfl (Nat.le_of_ble_eq_true rfl) dX5_count_114 ⟨Nat.zero_le _, Nat.zero_le _⟩ ?_
                    exact ro_iret hx hb hr hk hR dX5_count_117
                  · rw [if_neg c_9] at hR
                    by_cases c_10 : a1 = 9
                    · rw [if_pos c_10] at hR
                      refine lv_tableIn (off := 117) (tgt := 118) hx hb dX5_count_1 (by rw [c_10]; decide) (by rw [c_10]; decide) (by rw [c_10]; rfl) (by decide) ?_
                      refine lv_aload_n hx hb dX5_count_118 rfl (lv_at hl 0 rfl) ?_
                      refine va_get (D := D) (ci := 3) (v := .ref ((ad 0) 0)) (C := RX5) (T := TX5) (N := 6) hx hb hts iX5_count_X5 hown hG.1 hP 0 rfl rfl 0 (by decide) (hts (.fieldLink RX5 12 "MillComplaints" "now" "LMillComplaints$Village;") (List.mem_of_getElem? (i := 1) rfl)) (fun _ h9 => h9) rfl dX5_count_119 ?_
                      refine ro_V (v := .int (mX4_grainOfAll (xx 0))) (rest := []) (As := []) hx hb hml hown hts hl (MX4_grainOfAll l D q (ad 0) (xx 0)) gX5_count_X4_grainOfAll rfl kX4_grainOfAll ⟨Nat.le_of_ble_eq_true rfl, Nat.le_of_ble_eq_true rfl⟩ rfl rfl (hP.sub (ws' := (wV q (ad 0) (xx 0))) [1, 2, 3, 4, 5, 6, 7, 8, 9, 10] rfl) (dT (hD.sub (ws' := (wV q (ad 0) (xx 0))) [1, 2, 3, 4, 5, 6, 7, 8, 9, 10] (by decide) rfl)) hG (ci := 2) rfl rfl rfl rfl (Nat.le_of_ble_eq_true rfl) dX5_count_122 ⟨Nat.zero_le _, Nat.zero_le _⟩ ?_
                      exact ro_iret hx hb hr hk hR dX5_count_125
                    · rw [if_neg c_10] at hR
                      by_cases c_11 : a1 = 10
                      · rw [if_pos c_11] at hR
                        refine lv_tableIn (off := 125) (tgt := 126) hx hb dX5_count_1 (by rw [c_11]; decide) (by rw [c_11]; decide) (by rw [c_11]; rfl) (by decide) ?_
                        refine lv_aload_n hx hb dX5_count_126 rfl (lv_at hl 0 rfl) ?_
                        refine va_get (D := D) (ci := 3) (v := .ref (ad 8 0)) (C := RX5) (T := TX5) (N := 6) hx hb hts iX5_count_X5 hown hG.1 hP 0 rfl rfl 4 (by decide) (hts (.fieldLink RX5 29 "MillComplaints" "history" "LMillComplaints$History;") (List.mem_of_getElem? (i := 2) rfl)) (fun _ h9 => h9) rfl dX5_count_127 ?_
                        refine va_getN (D := D) (ci := 0) (v := .int (xx 8 0 1)) (C := RX1) (T := TX1) (N := 3) hx hb hts iX5_count_X1 hown hG.1 hP 71 rfl rfl 2 (by decide) (nwf_10 hG) (fun _ h9 => h9) rfl dX5_count_130 ?_
                        exact ro_iret hx hb hr hk hR dX5_count_133
                      · rw [if_neg c_11] at hR
                        by_cases c_12 : a1 = 11
                        · rw [if_pos c_12] at hR
                          refine lv_tableIn (off := 133) (tgt := 134) hx hb dX5_count_1 (by rw [c_12]; decide) (by rw [c_12]; decide) (by rw [c_12]; rfl) (by decide) ?_
                          refine lv_aload_n hx hb dX5_count_134 rfl (lv_at hl 0 rfl) ?_
                          refine va_get (D := D) (ci := 3) (v := .ref ((ad 7) 0)) (C := RX5) (T := TX5) (N := 6) hx hb hts iX5_count_X5 hown hG.1 hP 0 rfl rfl 5 (by decide) (hts (.fieldLink RX5 36 "MillComplaints" "text" "LMillComplaints$Text;") (List.mem_of_getElem? (i := 3) rfl)) (fun _ h9 => h9) rfl dX5_count_135 ?_
                          refine va_getN (D := D) (ci := 1) (v := .int ((xx 7) 1 0)) (C := RX3) (T := TX3) (N := 2) hx hb hts iX5_count_X3 hown hG.1 hP 73 rfl rfl 1 (by decide) (nwf_11 hG) (fun _ h9 => h9) rfl dX5_count_138 ?_
                          exact ro_iret hx hb hr hk hR dX5_count_141
                        · rw [if_neg c_12] at hR
                          by_cases c_13 : a1 = 12
                          · rw [if_pos c_13] at hR
                            refine lv_tableIn (off := 141) (tgt := 142) hx hb dX5_count_1 (by rw [c_13]; decide) (by rw [c_13]; decide) (by rw [c_13]; rfl) (by decide) ?_
                            refine lv_aload_n hx hb dX5_count_142 rfl (lv_at hl 0 rfl) ?_
                            refine va_get (D := D) (ci := 3) (v := .ref ((ad 0) 0)) (C := RX5) (T := TX5) (N := 6) hx hb hts iX5_count_X5 hown hG.1 hP 0 rfl rfl 0 (by decide) (hts (.fieldLink RX5 12 "MillComplaints" "now" "LMillComplaints$Village;") (List.mem_of_getElem? (i := 1) rfl)) (fun _ h9 => h9) rfl dX5_count_143 ?_
                            refine lv_iconst (v := 0) hx hb dX5_count_146 (by decide) ?_
                            refine ro_V (v := .int (mX4_setting (xx 0) 0)) (rest := []) (As := [.int 0]) hx hb hml hown hts hl (MX4_setting l D q (ad 0) (xx 0) 0) gX5_count_X4_setting rfl kX4_setting ⟨Nat.le_of_ble_eq_true rfl, Nat.le_of_ble_eq_true rfl⟩ rfl rfl (hP.sub (ws' := (wV q (ad 0) (xx 0))) [1, 2, 3, 4, 5, 6, 7, 8, 9, 10] rfl) (dT (hD.sub (ws' := (wV q (ad 0) (xx 0))) [1, 2, 3, 4, 5, 6, 7, 8, 9, 10] (by decide) rfl)) hG (ci := 2) rfl rfl rfl rfl (Nat.le_of_ble_eq_true rfl) dX5_count_147 ⟨Nat.zero_le _, Nat.zero_le _⟩ ?_
                            exact ro_iret hx hb hr hk hR dX5_count_150
                          · rw [if_neg c_13] at hR
                            by_cases c_14 : a1 = 13
                            · rw [if_pos c_14] at hR
                              refine lv_tableIn (off := 150) (tgt := 151) hx hb dX5_count_1 (by rw [c_14]; decide) (by rw [c_14]; decide) (by rw [c_14]; rfl) (by decide) ?_
                              refine lv_aload_n hx hb dX5_count_151 rfl (lv_at hl 0 rfl) ?_
                              refine va_get (D := D) (ci := 3) (v := .ref ((ad 0) 0)) (C := RX5) (T := TX5) (N := 6) hx hb hts iX5_count_X5 hown hG.1 hP 0 rfl rfl 0 (by decide) (hts (.fieldLink RX5 12 "MillComplaints" "now" "LMillComplaints$Village;") (List.mem_of_getElem? (i := 1) rfl)) (fun _ h9 => h9) rfl dX5_count_152 ?_
                              refine lv_iconst (v := 1) hx hb dX5_count_155 (by decide) ?_
                              refine ro_V (v := .int (mX4_setting (xx 0) 1)) (rest := []) (As := [.int 1]) hx hb hml hown hts hl (MX4_setting l D q (ad 0) (xx 0) 1) gX5_count_X4_setting rfl kX4_setting ⟨Nat.le_of_ble_eq_true rfl, Nat.le_of_ble_eq_true rfl⟩ rfl rfl (hP.sub (ws' := (wV q (ad 0) (xx 0))) [1, 2, 3, 4, 5, 6, 7, 8, 9, 10] rfl) (dT (hD.sub (ws' := (wV q (ad 0) (xx 0))) [1, 2, 3, 4, 5, 6, 7, 8, 9, 10] (by decide) rfl)) hG (ci := 2) rfl rfl rfl rfl (Nat.le_of_ble_eq_true rfl) dX5_count_156 ⟨Nat.zero_le _, Nat.zero_le _⟩ ?_
                              exact ro_iret hx hb hr hk hR dX5_count_159
                            · rw [if_neg c_14] at hR
                              by_cases c_15 : a1 = 14
                              · rw [if_pos c_15] at hR
                                refine lv_tableIn (off := 159) (tgt := 160) hx hb dX5_count_1 (by rw [c_15]; decide) (by rw [c_15]; decide) (by rw [c_15]; rfl) (by decide) ?_
                                refine lv_aload_n hx hb dX5_count_160 rfl (lv_at hl 0 rfl) ?_
                                refine va_get (D := D) (ci := 3) (v := .ref ((ad 0) 0)) (C := RX5) (T := TX5) (N := 6) hx hb hts iX5_count_X5 hown hG.1 hP 0 rfl rfl 0 (by decide) (hts (.fieldLink RX5 12 "MillComplaints" "now" "LMillComplaints$Village;") (List.mem_of_getElem? (i := 1) rfl)) (fun _ h9 => h9) rfl dX5_count_161 ?_
                                refine lv_iconst (v := 2) hx hb dX5_count_164 (by decide) ?_
                                refine ro_V (v := .int (mX4_setting (xx 0) 2)) (rest := []) (As := [.int 2]) hx hb hml hown hts hl (MX4_setting l D q (ad 0) (xx 0) 2) gX5_count_X4_setting rfl kX4_setting ⟨Nat.le_of_ble_eq_true rfl, Nat.le_of_ble_eq_true rfl⟩ rfl rfl (hP.sub (ws' := (wV q (ad 0) (xx 0))) [1, 2, 3, 4, 5, 6, 7, 8, 9, 10] rfl) (dT (hD.sub (ws' := (wV q (ad 0) (xx 0))) [1, 2, 3, 4, 5, 6, 7, 8, 9, 10] (by decide) rfl)) hG (ci := 2) rfl rfl rfl rfl (Nat.le_of_ble_eq_true rfl) dX5_count_165 ⟨Nat.zero_le _, Nat.zero_le _⟩ ?_
                                exact ro_iret hx hb hr hk hR dX5_count_168
                              · rw [if_neg c_15] at hR
                                by_cases c_16 : a1 = 15
                                · rw [if_pos c_16] at hR
                                  refine lv_tableIn (off := 168) (tgt := 169) hx hb dX5_count_1 (by rw [c_16]; decide) (by rw [c_16]; decide) (by rw [c_16]; rfl) (by decide) ?_
                                  refine lv_aload_n hx hb dX5_count_169 rfl (lv_at hl 0 rfl) ?_
                                  refine va_get (D := D) (ci := 3) (v := .ref ((ad 0) 0)) (C := RX5) (T := TX5) (N := 6) hx hb hts iX5_count_X5 hown hG.1 hP 0 rfl rfl 0 (by decide) (hts (.fieldLink RX5 12 "MillComplaints" "now" "LMillComplaints$Village;") (List.mem_of_getElem? (i := 1) rfl)) (fun _ h9 => h9) rfl dX5_count_170 ?_
                                  refine lv_iconst (v := 3) hx hb dX5_count_173 (by decide) ?_
                                  refine ro_V (v := .int (mX4_setting (xx 0) 3)) (rest := []) (As := [.int 3]) hx hb hml hown hts hl (MX4_setting l D q (ad 0) (xx 0) 3) gX5_count_X4_setting rfl kX4_setting ⟨Nat.le_of_ble_eq_true rfl, Nat.le_of_ble_eq_true rfl⟩ rfl rfl (hP.sub (ws' := (wV q (ad 0) (xx 0))) [1, 2, 3, 4, 5, 6, 7, 8, 9, 10] rfl) (dT (hD.sub (ws' := (wV q (ad 0) (xx 0))) [1, 2, 3, 4, 5, 6, 7, 8, 9, 10] (by decide) rfl)) hG (ci := 2) rfl rfl rfl rfl (Nat.le_of_ble_eq_true rfl) dX5_count_174 ⟨Nat.zero_le _, Nat.zero_le _⟩ ?_
                                  exact ro_iret hx hb hr hk hR dX5_count_177
                                · rw [if_neg c_16] at hR
                                  refine lv_tableOut (tgt := 178) hx hb dX5_count_1 (by have z0 := lv_neT c_1 (a := 0) rfl; have z1 := lv_neT c_2 (a := 1) rfl; have z2 := lv_neT c_3 (a := 2) rfl; have z3 := lv_neT c_4 (a := 3) rfl; have z4 := lv_neT c_5 (a := 4) rfl; have z5 := lv_neT c_6 (a := 5) rfl; have z6 := lv_neT c_7 (a := 6) rfl; have z7 := lv_neT c_8 (a := 7) rfl; have z8 := lv_neT c_9 (a := 8) rfl; have z9 := lv_neT c_10 (a := 9) rfl; have z10 := lv_neT c_11 (a := 10) rfl; have z11 := lv_neT c_12 (a := 11) rfl; have z12 := lv_neT c_13 (a := 12) rfl; have z13 := lv_neT c_14 (a := 13) rfl; have z14 := lv_neT c_15 (a := 14) rfl; have z15 := lv_neT c_16 (a := 15) rfl; omega) (by decide) ?_
                                  refine lv_bipush (v := (-2)) hx hb dX5_count_178 (by decide) ?_
                                  exact ro_iret hx hb hr hk hR dX5_count_180


def mX5_sue (xx : Nat → Nat → Nat → Int32) (a1 a2 a3 : Int32) : Int32 × (Nat → Nat → Nat → Int32) := (if (mX4_hasMill (xx 0) a1) = 0 then ((-1), xx) else (if (mX4_hasHouse (xx 0) a2) = 0 then ((-1), xx) else (if (mX5_isHour a3) = 0 then ((-1), xx) else (if (mX4_isTied (xx 0) a1 a3) = 0 then ((-4), xx) else (if (mX4_standingFor (xx 0) a2 a1 a3) = 0 then ((-4), xx) else (lt (setV xx 1 (xx 0)) (fun xx_6 => (lt (mX5_add 6 ((xx_6 0) 2) 2 1) (fun q_7 => (lt (setV xx_6 0 (setA (xx_6 0) 2 q_7)) (fun xx_8 => (if (mX4_setting (xx_8 0) 3) < ((mX4_windAt (xx_8 0) a3) * (mJ6_bitCount_0f7a4 (mX4_tiedHours (xx_8 0) a1))) then (lt (mX5_winSuit (xx_8 0) a1 a2 a3) (fun q_10 => (lt (setV xx_8 0 q_10) (fun xx_11 => (lt (mX5_recorded xx_11 1) (fun q_12 => (q_12.1, q_12.2))))))) else (lt (mX5_recorded xx_8 0) (fun q_13 => (q_13.1, q_13.2)))))))))))))))
theorem kX5_sue : yX5_sue.cls = RX5 ∧ yX5_sue.cls ≠ "java/lang/invoke/MethodHandle" ∧ yX5_sue.cls ≠ "java/lang/invoke/VarHandle" ∧ (parseMethodDescriptor yX5_sue.desc).map (fun d => d.parameters.length) = some 3 := by decide +kernel
theorem iX5_sue_X5 : ∀ w ∈ wsX50, w ∈ wsX5_sue := fun w h => (List.mem_cons_of_mem _ (List.mem_append_left _ (List.mem_append_left _ (List.mem_append_right _ h))))
theorem iX5_sue_X4 : ∀ w ∈ wsX40, w ∈ wsX5_sue := fun w h => (List.mem_cons_of_mem _ (List.mem_append_left _ (List.mem_append_right _ h)))
set_option maxHeartbeats 4000000 in
set_option maxRecDepth 100000 in
theorem MX5_sue (l : Launch) (D : va_G) (q : Nat → ClassId) (ad : Nat → Nat → Nat) (xx : Nat → Nat → Nat → Int32) (a1 a2 a3 : Int32) (hrg : rgOk xx) : muM l D (tyq q) yX5_sue wsX5_sue ({ frames := 5, cells := 0, slots := 0, locals := 118 } : Room) [.ref (ad 9 0), .int a1, .int a2, .int a3] (wX q ad xx) (some (.int (mX5_sue xx a1 a2 a3).1)) (wX q ad (mX5_sue xx a1 a2 a3).2) := by
  obtain ⟨R, hR⟩ : ∃ z, (mX5_sue xx a1 a2 a3) = z := ⟨_, rfl⟩
  rw [hR]
  unfold mX5_sue at hR
  refine muM.of (cc := cX5_sue) (maxL := 5) (ret := (some .int)) (by decide) rfl (Nat.le_of_ble_eq_true rfl) ?_
  intro p e s m below meth c ls A hx hb hr hk hml hown hts hP hD hG hA hl
  have hS : va_S A s.heap s.heap [] := va_S.rf
  have hl : lv_has ls 5 [(0, .ref (ad 9 0)), (1, .int a1), (2, .int a2), (3, .int a3)] := hl
  refine lv_aload_n hx hb dX5_sue_0 rfl (lv_at hl 0 rfl) ?_
  refine va_get (D := D) (ci := 3) (v := .ref ((ad 0) 0)) (C := RX5) (T := TX5) (N := 6) hx hb hts iX5_sue_X5 hown hG.1 hP 0 rfl rfl 0 (by decide) (hts (.fieldLink RX5 12 "MillComplaints" "now" "LMillComplaints$Village;") (List.mem_of_getElem? (i := 1) rfl)) (fun _ h9 => h9) rfl dX5_sue_1 ?_
  refine lv_iload_n hx hb dX5_sue_4 rfl (lv_at hl 1 rfl) ?_
  refine ro_V (v := .int (mX4_hasMill (xx 0) a1)) (rest := []) (As := [.int a1]) hx hb hml hown hts hl (MX4_hasMill l D q (ad 0) (xx 0) a1) gX5_sue_X4_hasMill rfl kX4_hasMill ⟨Nat.le_of_ble_eq_true rfl, Nat.le_of_ble_eq_true rfl⟩ rfl rfl (hP.sub (ws' := (wV q (ad 0) (xx 0))) [1, 2, 3, 4, 5, 6, 7, 8, 9, 10] rfl) (dT (hD.sub (ws' := (wV q (ad 0) (xx 0))) [1, 2, 3, 4, 5, 6, 7, 8, 9, 10] (by decide) rfl)) hG (ci := 2) rfl rfl rfl rfl (Nat.le_of_ble_eq_true rfl) dX5_sue_5 ⟨Nat.zero_le _, Nat.zero_le _⟩ ?_
  refine lv_if_eq (tgt := 29) hx hb dX5_sue_8 (by decide) (fun c_1 => ?_) (fun c_1 => ?_)
  · rw [if_pos c_1] at hR
    refine lv_iconst (v := (-1)) hx hb dX5_sue_29 (by decide) ?_
    subst hR
    exact mu_iret hx hb hr hk hA hS hP rfl dX5_sue_30
  · rw [if_neg c_1] at hR
    refine lv_aload_n hx hb dX5_sue_11 rfl (lv_at hl 0 rfl) ?_
    refine va_get (D := D) (ci := 3) (v := .ref ((ad 0) 0)) (C := RX5) (T := TX5) (N := 6) hx hb hts iX5_sue_X5 hown hG.1 hP 0 rfl rfl 0 (by decide) (hts (.fieldLink RX5 12 "MillComplaints" "now" "LMillComplaints$Village;") (List.mem_of_getElem? (i := 1) rfl)) (fun _ h9 => h9) rfl dX5_sue_12 ?_
    refine lv_iload_n hx hb dX5_sue_15 rfl (lv_at hl 2 rfl) ?_
    refine ro_V (v := .int (mX4_hasHouse (xx 0) a2)) (rest := []) (As := [.int a2]) hx hb hml hown hts hl (MX4_hasHouse l D q (ad 0) (xx 0) a2) gX5_sue_X4_hasHouse rfl kX4_hasHouse ⟨Nat.le_of_ble_eq_true rfl, Nat.le_of_ble_eq_true rfl⟩ rfl rfl (hP.sub (ws' := (wV q (ad 0) (xx 0))) [1, 2, 3, 4, 5, 6, 7, 8, 9, 10] rfl) (dT (hD.sub (ws' := (wV q (ad 0) (xx 0))) [1, 2, 3, 4, 5, 6, 7, 8, 9, 10] (by decide) rfl)) hG (ci := 2) rfl rfl rfl rfl (Nat.le_of_ble_eq_true rfl) dX5_sue_16 ⟨Nat.zero_le _, Nat.zero_le _⟩ ?_
    refine lv_if_eq (tgt := 29) hx hb dX5_sue_19 (by decide) (fun c_2 => ?_) (fun c_2 => ?_)
    · rw [if_pos c_2] at hR
      refine lv_iconst (v := (-1)) hx hb dX5_sue_29 (by decide) ?_
      subst hR
      exact mu_iret hx hb hr hk hA hS hP rfl dX5_sue_30
    · rw [if_neg c_2] at hR
      refine lv_iload_n hx hb dX5_sue_22 rfl (lv_at hl 3 rfl) ?_
      refine ro_S (v := .int (mX5_isHour a3)) (rest := []) (As := [.int a3]) hx hb hml hown hts hl (MX5_isHour l D q a3) gX5_sue_X5_isHour rfl kX5_isHour ⟨Nat.le_of_ble_eq_true rfl, Nat.le_of_ble_eq_true rfl⟩ rfl rfl (hP.sub (ws' := []) [] rfl) (dT (hD.sub (ws' := []) [] (by decide) rfl)) hG rfl rfl (Nat.le_of_ble_eq_true rfl) dX5_sue_23 ⟨Nat.zero_le _, Nat.zero_le _⟩ ?_
      refine lv_if_ne (tgt := 31) hx hb dX5_sue_26 (by decide) (fun c_3 => ?_) (fun c_3 => ?_)
      · rw [if_neg c_3] at hR
        have fc_3 := f_isHour c_3
        refine lv_aload_n hx hb dX5_sue_31 rfl (lv_at hl 0 rfl) ?_
        refine va_get (D := D) (ci := 3) (v := .ref ((ad 0) 0)) (C := RX5) (T := TX5) (N := 6) hx hb hts iX5_sue_X5 hown hG.1 hP 0 rfl rfl 0 (by decide) (hts (.fieldLink RX5 12 "MillComplaints" "now" "LMillComplaints$Village;") (List.mem_of_getElem? (i := 1) rfl)) (fun _ h9 => h9) rfl dX5_sue_32 ?_
        refine lv_iload_n hx hb dX5_sue_35 rfl (lv_at hl 1 rfl) ?_
        refine lv_iload_n hx hb dX5_sue_36 rfl (lv_at hl 3 rfl) ?_
        refine ro_V (v := .int (mX4_isTied (xx 0) a1 a3)) (rest := []) (As := [.int a1, .int a3]) hx hb hml hown hts hl (MX4_isTied l D q (ad 0) (xx 0) a1 a3) gX5_sue_X4_isTied rfl kX4_isTied ⟨Nat.le_of_ble_eq_true rfl, Nat.le_of_ble_eq_true rfl⟩ rfl rfl (hP.sub (ws' := (wV q (ad 0) (xx 0))) [1, 2, 3, 4, 5, 6, 7, 8, 9, 10] rfl) (dT (hD.sub (ws' := (wV q (ad 0) (xx 0))) [1, 2, 3, 4, 5, 6, 7, 8, 9, 10] (by decide) rfl)) hG (ci := 2) rfl rfl rfl rfl (Nat.le_of_ble_eq_true rfl) dX5_sue_37 ⟨Nat.zero_le _, Nat.zero_le _⟩ ?_
        refine lv_if_eq (tgt := 56) hx hb dX5_sue_40 (by decide) (fun c_4 => ?_) (fun c_4 => ?_)
        · rw [if_pos c_4] at hR
          refine lv_bipush (v := (-4)) hx hb dX5_sue_56 (by decide) ?_
          subst hR
          exact mu_iret hx hb hr hk hA hS hP rfl dX5_sue_58
        · rw [if_neg c_4] at hR
          refine lv_aload_n hx hb dX5_sue_43 rfl (lv_at hl 0 rfl) ?_
          refine va_get (D := D) (ci := 3) (v := .ref ((ad 0) 0)) (C := RX5) (T := TX5) (N := 6) hx hb hts iX5_sue_X5 hown hG.1 hP 0 rfl rfl 0 (by decide) (hts (.fieldLink RX5 12 "MillComplaints" "now" "LMillComplaints$Village;") (List.mem_of_getElem? (i := 1) rfl)) (fun _ h9 => h9) rfl dX5_sue_44 ?_
          refine lv_iload_n hx hb dX5_sue_47 rfl (lv_at hl 2 rfl) ?_
          refine lv_iload_n hx hb dX5_sue_48 rfl (lv_at hl 1 rfl) ?_
          refine lv_iload_n hx hb dX5_sue_49 rfl (lv_at hl 3 rfl) ?_
          refine ro_V (v := .int (mX4_standingFor (xx 0) a2 a1 a3)) (rest := []) (As := [.int a2, .int a1, .int a3]) hx hb hml hown hts hl (MX4_standingFor l D q (ad 0) (xx 0) a2 a1 a3) gX5_sue_X4_standingFor rfl kX4_standingFor ⟨Nat.le_of_ble_eq_true rfl, Nat.le_of_ble_eq_true rfl⟩ rfl rfl (hP.sub (ws' := (wV q (ad 0) (xx 0))) [1, 2, 3, 4, 5, 6, 7, 8, 9, 10] rfl) (dT (hD.sub (ws' := (wV q (ad 0) (xx 0))) [1, 2, 3, 4, 5, 6, 7, 8, 9, 10] (by decide) rfl)) hG (ci := 2) rfl rfl rfl rfl (Nat.le_of_ble_eq_true rfl) dX5_sue_50 ⟨Nat.zero_le _, Nat.zero_le _⟩ ?_
          refine lv_if_ne (tgt := 59) hx hb dX5_sue_53 (by decide) (fun c_5 => ?_) (fun c_5 => ?_)
          · rw [if_neg c_5] at hR
            refine lv_aload_n hx hb dX5_sue_59 rfl (lv_at hl 0 rfl) ?_
            refine va_get (D := D) (ci := 3) (v := .ref ((ad 1) 0)) (C := RX5) (T := TX5) (N := 6) hx hb hts iX5_sue_X5 hown hG.1 hP 0 rfl rfl 1 (by decide) (hts (.fieldLink RX5 16 "MillComplaints" "before" "LMillComplaints$Village;") (List.mem_of_getElem? (i := 2) rfl)) (fun _ h9 => h9) rfl dX5_sue_60 ?_
            refine lv_aload_n hx hb dX5_sue_63 rfl (lv_at hl 0 rfl) ?_
            refine va_get (D := D) (ci := 3) (v := .ref ((ad 0) 0)) (C := RX5) (T := TX5) (N := 6) hx hb hts iX5_sue_X5 hown hG.1 hP 0 rfl rfl 0 (by decide) (hts (.fieldLink RX5 12 "MillComplaints" "now" "LMillComplaints$Village;") (List.mem_of_getElem? (i := 1) rfl)) (fun _ h9 => h9) rfl dX5_sue_64 ?_
            have hM := MX4_copyFrom' l D q (ad 1) (xx 1) (ad 0) (xx 0)
            refine mu_V (D := D) (ws := (wX q ad xx)) (ws' := (wX q ad (setV xx 1 (xx 0)))) (rest := []) (As := [.ref ((ad 0) 0)]) hx hb hml hown hts hl hM gX5_sue_X4_copyFrom rfl kX4_copyFrom ⟨Nat.le_of_ble_eq_true rfl, Nat.le_of_ble_eq_true rfl⟩ rfl rfl hP hD hS hG [11, 12, 13, 14, 15, 16, 17, 18, 19, 20, 1, 2, 3, 4, 5, 6, 7, 8, 9, 10] rfl rfl (by decide) [0, 85, 86, 87, 88, 89, 90, 91, 92, 93, 94, 75, 76, 77, 78, 79, 80, 81, 82, 83, 84, 21, 22, 23, 24, 25, 26, 27, 28, 29, 30, 31, 32, 33, 34, 35, 36, 37, 38, 39, 40, 41, 42, 43, 44, 45, 46, 47, 48, 49, 50, 51, 52, 53, 54, 55, 56, 57, 58, 59, 60, 61, 62, 63, 64, 65, 66, 67, 68, 69, 70, 71, 72, 73, 74] rfl (by decide) rfl (ci := 2) rfl rfl rfl rfl (Nat.le_of_ble_eq_true rfl) dX5_sue_67 ⟨Nat.zero_le _, Nat.zero_le _⟩ (fun H locs hP hD hS => ?_)
            obtain ⟨xx_6, exx_6⟩ : ∃ z, z = (setV xx 1 (xx 0)) := ⟨_, rfl⟩
            rw [← exx_6] at hP hD
            replace hR := lt_e hR exx_6
            refine lv_aload_n hx hb dX5_sue_70 rfl (lv_at hl 0 rfl) ?_
            refine va_get (D := D) (ci := 3) (v := .ref ((ad 0) 0)) (C := RX5) (T := TX5) (N := 6) hx hb hts iX5_sue_X5 hown hG.1 hP 0 rfl rfl 0 (by decide) (hts (.fieldLink RX5 12 "MillComplaints" "now" "LMillComplaints$Village;") (List.mem_of_getElem? (i := 1) rfl)) (fun _ h9 => h9) rfl dX5_sue_71 ?_
            refine va_getN (D := D) (ci := 2) (v := .ref ((ad 0) 3)) (C := RX4) (T := TX4) (N := 11) hx hb hts iX5_sue_X4 hown hG.1 hP 1 rfl rfl 2 (by decide) (nwf_3 hG) (fun _ h9 => h9) rfl dX5_sue_74 ?_
            refine lv_iconst (v := 2) hx hb dX5_sue_77 (by decide) ?_
            refine lv_iconst (v := 1) hx hb dX5_sue_78 (by decide) ?_
            obtain ⟨q_7, eq_7⟩ : ∃ z, z = (mX5_add 6 ((xx_6 0) 2) 2 1) := ⟨_, rfl⟩
            have hM := MX5_add l D q ((ad 0) 3) 6 ((xx_6 0) 2) 2 1 (by decide)
            rw [← eq_7] at hM
            replace hR := lt_e hR eq_7
            refine mu_S (D := D) (ws := (wX q ad xx_6)) (ws' := (wX q ad (setV xx_6 0 (setA (xx_6 0) 2 q_7)))) (rest := []) (As := [.ref ((ad 0) 3), .int 2, .int 1]) hx hb hml hown hts hl hM gX5_sue_X5_add rfl kX5_add ⟨Nat.le_of_ble_eq_true rfl, Nat.le_of_ble_eq_true rfl⟩ rfl rfl hP hD hS hG [4] rfl rfl (by decide) [0, 1, 2, 3, 75, 5, 6, 7, 8, 9, 10, 11, 12, 13, 14, 15, 16, 17, 18, 19, 20, 21, 22, 23, 24, 25, 26, 27, 28, 29, 30, 31, 32, 33, 34, 35, 36, 37, 38, 39, 40, 41, 42, 43, 44, 45, 46, 47, 48, 49, 50, 51, 52, 53, 54, 55, 56, 57, 58, 59, 60, 61, 62, 63, 64, 65, 66, 67, 68, 69, 70, 71, 72, 73, 74] rfl (by decide) rfl rfl rfl (Nat.le_of_ble_eq_true rfl) dX5_sue_79 ⟨Nat.zero_le _, Nat.zero_le _⟩ (fun H locs hP hD hS => ?_)
            obtain ⟨xx_8, exx_8⟩ : ∃ z, z = (setV xx_6 0 (setA (xx_6 0) 2 q_7)) := ⟨_, rfl⟩
            rw [← exx_8] at hP hD
            replace hR := lt_e hR exx_8
            refine lv_aload_n hx hb dX5_sue_82 rfl (lv_at hl 0 rfl) ?_
            refine va_get (D := D) (ci := 3) (v := .ref ((ad 0) 0)) (C := RX5) (T := TX5) (N := 6) hx hb hts iX5_sue_X5 hown hG.1 hP 0 rfl rfl 0 (by decide) (hts (.fieldLink RX5 12 "MillComplaints" "now" "LMillComplaints$Village;") (List.mem_of_getElem? (i := 1) rfl)) (fun _ h9 => h9) rfl dX5_sue_83 ?_
            refine lv_iload_n hx hb dX5_sue_86 rfl (lv_at hl 3 rfl) ?_
            refine ro_V (v := .int (mX4_windAt (xx_8 0) a3)) (rest := []) (As := [.int a3]) hx hb hml hown hts hl (MX4_windAt l D q (ad 0) (xx_8 0) a3) gX5_sue_X4_windAt rfl kX4_windAt ⟨Nat.le_of_ble_eq_true rfl, Nat.le_of_ble_eq_true rfl⟩ rfl rfl (hP.sub (ws' := (wV q (ad 0) (xx_8 0))) [1, 2, 3, 4, 5, 6, 7, 8, 9, 10] rfl) (dT (hD.sub (ws' := (wV q (ad 0) (xx_8 0))) [1, 2, 3, 4, 5, 6, 7, 8, 9, 10] (by decide) rfl)) hG (ci := 2) rfl rfl rfl rfl (Nat.le_of_ble_eq_true rfl) dX5_sue_87 ⟨Nat.zero_le _, Nat.zero_le _⟩ ?_
            refine lv_aload_n hx hb dX5_sue_90 rfl (lv_at hl 0 rfl) ?_
            refine va_get (D := D) (ci := 3) (v := .ref ((ad 0) 0)) (C := RX5) (T := TX5) (N := 6) hx hb hts iX5_sue_X5 hown hG.1 hP 0 rfl rfl 0 (by decide) (hts (.fieldLink RX5 12 "MillComplaints" "now" "LMillComplaints$Village;") (List.mem_of_getElem? (i := 1) rfl)) (fun _ h9 => h9) rfl dX5_sue_91 ?_
            refine lv_iload_n hx hb dX5_sue_94 rfl (lv_at hl 1 rfl) ?_
            refine ro_V (v := .int (mX4_tiedHours (xx_8 0) a1)) (rest := [.int (mX4_windAt (xx_8 0) a3)]) (As := [.int a1]) hx hb hml hown hts hl (MX4_tiedHours l D q (ad 0) (xx_8 0) a1) gX5_sue_X4_tiedHours rfl kX4_tiedHours ⟨Nat.le_of_ble_eq_true rfl, Nat.le_of_ble_eq_true rfl⟩ rfl rfl (hP.sub (ws' := (wV q (ad 0) (xx_8 0))) [1, 2, 3, 4, 5, 6, 7, 8, 9, 10] rfl) (dT (hD.sub (ws' := (wV q (ad 0) (xx_8 0))) [1, 2, 3, 4, 5, 6, 7, 8, 9, 10] (by decide) rfl)) hG (ci := 2) rfl rfl rfl rfl (Nat.le_of_ble_eq_true rfl) dX5_sue_95 ⟨Nat.zero_le _, Nat.zero_le _⟩ ?_
            refine ro_S (v := .int (mJ6_bitCount_0f7a4 (mX4_tiedHours (xx_8 0) a1))) (rest := [.int (mX4_windAt (xx_8 0) a3)]) (As := [.int (mX4_tiedHours (xx_8 0) a1)]) hx hb hml hown hts hl (MJ6_bitCount_0f7a4 l D q (mX4_tiedHours (xx_8 0) a1)) gX5_sue_J6_bitCount_0f7a4 rfl kJ6_bitCount_0f7a4 ⟨Nat.le_of_ble_eq_true rfl, Nat.le_of_ble_eq_true rfl⟩ rfl rfl (hP.sub (ws' := []) [] rfl) (dT (hD.sub (ws' := []) [] (by decide) rfl)) hG rfl rfl (Nat.le_of_ble_eq_true rfl) dX5_sue_98 ⟨Nat.zero_le _, Nat.zero_le _⟩ ?_
            refine lv_imul hx hb dX5_sue_101 ?_
            refine lv_istore (lv' := [(4, .int ((mX4_windAt (xx_8 0) a3) * (mJ6_bitCount_0f7a4 (mX4_tiedHours (xx_8 0) a1)))), (0, .ref (ad 9 0)), (1, .int a1), (2, .int a2), (3, .int a3)]) hx hb dX5_sue_102 hl (by decide) rfl (fun ls hl => ?_)
            refine lv_iload hx hb dX5_sue_104 (lv_at hl 0 rfl) ?_
            refine lv_aload_n hx hb dX5_sue_106 rfl (lv_at hl 1 rfl) ?_
            refine va_get (D := D) (ci := 3) (v := .ref ((ad 0) 0)) (C := RX5) (T := TX5) (N := 6) hx hb hts iX5_sue_X5 hown hG.1 hP 0 rfl rfl 0 (by decide) (hts (.fieldLink RX5 12 "MillComplaints" "now" "LMillComplaints$Village;") (List.mem_of_getElem? (i := 1) rfl)) (fun _ h9 => h9) rfl dX5_sue_107 ?_
            refine lv_iconst (v := 3) hx hb dX5_sue_110 (by decide) ?_
            refine ro_V (v := .int (mX4_setting (xx_8 0) 3)) (rest := [.int ((mX4_windAt (xx_8 0) a3) * (mJ6_bitCount_0f7a4 (mX4_tiedHours (xx_8 0) a1)))]) (As := [.int 3]) hx hb hml hown hts hl (MX4_setting l D q (ad 0) (xx_8 0) 3) gX5_sue_X4_setting rfl kX4_setting ⟨Nat.le_of_ble_eq_true rfl, Nat.le_of_ble_eq_true rfl⟩ rfl rfl (hP.sub (ws' := (wV q (ad 0) (xx_8 0))) [1, 2, 3, 4, 5, 6, 7, 8, 9, 10] rfl) (dT (hD.sub (ws' := (wV q (ad 0) (xx_8 0))) [1, 2, 3, 4, 5, 6, 7, 8, 9, 10] (by decide) rfl)) hG (ci := 2) rfl rfl rfl rfl (Nat.le_of_ble_eq_true rfl) dX5_sue_111 ⟨Nat.zero_le _, Nat.zero_le _⟩ ?_
            refine lv_icmp_gt (tgt := 123) hx hb dX5_sue_114 (by decide) (fun c_9 => ?_) (fun c_9 => ?_)
            · rw [if_pos c_9] at hR
              refine lv_aload_n hx hb dX5_sue_123 rfl (lv_at hl 1 rfl) ?_
              refine lv_iload_n hx hb dX5_sue_124 rfl (lv_at hl 2 rfl) ?_
              refine lv_iload_n hx hb dX5_sue_125 rfl (lv_at hl 3 rfl) ?_
              refine lv_iload_n hx hb dX5_sue_126 rfl (lv_at hl 4 rfl) ?_
              obtain ⟨q_10, eq_10⟩ : ∃ z, z = (mX5_winSuit (xx_8 0) a1 a2 a3) := ⟨_, rfl⟩
              have hM := MX5_winSuit l D q ad (xx_8 9 0 0) (xx_8 0) a1 a2 a3
              rw [← eq_10] at hM
              replace hR := lt_e hR eq_10
              refine mu_V (D := D) (ws := (wX q ad xx_8)) (ws' := (wX q ad (setV xx_8 0 q_10))) (rest := []) (As := [.int a1, .int a2, .int a3]) hx hb hml hown hts hl hM gX5_sue_X5_winSuit rfl kX5_winSuit ⟨Nat.le_of_ble_eq_true rfl, Nat.le_of_ble_eq_true rfl⟩ rfl rfl hP hD hS hG [0, 1, 2, 3, 4, 5, 6, 7, 8, 9, 10] rfl rfl (by decide) [75, 76, 77, 78, 79, 80, 81, 82, 83, 84, 85, 11, 12, 13, 14, 15, 16, 17, 18, 19, 20, 21, 22, 23, 24, 25, 26, 27, 28, 29, 30, 31, 32, 33, 34, 35, 36, 37, 38, 39, 40, 41, 42, 43, 44, 45, 46, 47, 48, 49, 50, 51, 52, 53, 54, 55, 56, 57, 58, 59, 60, 61, 62, 63, 64, 65, 66, 67, 68, 69, 70, 71, 72, 73, 74] rfl (by decide) rfl (ci := 3) rfl rfl rfl rfl (Nat.le_of_ble_eq_true rfl) dX5_sue_127 ⟨Nat.zero_le _, Nat.zero_le _⟩ (fun H locs hP hD hS => ?_)
              obtain ⟨xx_11, exx_11⟩ : ∃ z, z = (setV xx_8 0 q_10) := ⟨_, rfl⟩
              rw [← exx_11] at hP hD
              replace hR := lt_e hR exx_11
              refine lv_aload_n hx hb dX5_sue_130 rfl (lv_at hl 1 rfl) ?_
              refine lv_iconst (v := 1) hx hb dX5_sue_131 (by decide) ?_
              obtain ⟨q_12, eq_12⟩ : ∃ z, z = (mX5_recorded xx_11 1) := ⟨_, rfl⟩
              have hM := MX5_recorded l D q ad xx_11 1 (by rw [exx_11, exx_8, exx_6]; exact hrg)
              rw [← eq_12] at hM
              replace hR := lt_e hR eq_12
              refine mu_V (D := D) (ws := (wX q ad xx_11)) (ws' := (wX q ad q_12.2)) (rest := []) (As := [.int 1]) hx hb hml hown hts hl hM gX5_sue_X5_recorded rfl kX5_recorded ⟨Nat.le_of_ble_eq_true rfl, Nat.le_of_ble_eq_true rfl⟩ rfl rfl hP hD hS hG [0, 1, 2, 3, 4, 5, 6, 7, 8, 9, 10, 11, 12, 13, 14, 15, 16, 17, 18, 19, 20, 21, 22, 23, 24, 25, 26, 27, 28, 29, 30, 31, 32, 33, 34, 35, 36, 37, 38, 39, 40, 41, 42, 43, 44, 45, 46, 47, 48, 49, 50, 51, 52, 53, 54, 55, 56, 57, 58, 59, 60, 61, 62, 63, 64, 65, 66, 67, 68, 69, 70, 71, 72, 73, 74] rfl rfl (by decide) [75, 76, 77, 78, 79, 80, 81, 82, 83, 84, 85, 86, 87, 88, 89, 90, 91, 92, 93, 94, 95, 96, 97, 98, 99, 100, 101, 102, 103, 104, 105, 106, 107, 108, 109, 110, 111, 112, 113, 114, 115, 116, 117, 118, 119, 120, 121, 122, 123, 124, 125, 126, 127, 128, 129, 130, 131, 132, 133, 134, 135, 136, 137, 138, 139, 140, 141, 142, 143, 144, 145, 146, 147, 148, 149] rfl (by decide) rfl (ci := 3) rfl rfl rfl rfl (Nat.le_of_ble_eq_true rfl) dX5_sue_132 ⟨Nat.zero_le _, Nat.zero_le _⟩ (fun H locs hP hD hS => ?_)
              subst hR
              exact mu_iret hx hb hr hk hA hS hP rfl dX5_sue_135
            · rw [if_neg c_9] at hR
              refine lv_aload_n hx hb dX5_sue_117 rfl (lv_at hl 1 rfl) ?_
              refine lv_iconst (v := 0) hx hb dX5_sue_118 (by decide) ?_
              obtain ⟨q_13, eq_13⟩ : ∃ z, z = (mX5_recorded xx_8 0) := ⟨_, rfl⟩
              have hM := MX5_recorded l D q ad xx_8 0 (by rw [exx_8, exx_6]; exact hrg)
              rw [← eq_13] at hM
              replace hR := lt_e hR eq_13
              refine mu_V (D := D) (ws := (wX q ad xx_8)) (ws' := (wX q ad q_13.2)) (rest := []) (As := [.int 0]) hx hb hml hown hts hl hM gX5_sue_X5_recorded rfl kX5_recorded ⟨Nat.le_of_ble_eq_true rfl, Nat.le_of_ble_eq_true rfl⟩ rfl rfl hP hD hS hG [0, 1, 2, 3, 4, 5, 6, 7, 8, 9, 10, 11, 12, 13, 14, 15, 16, 17, 18, 19, 20, 21, 22, 23, 24, 25, 26, 27, 28, 29, 30, 31, 32, 33, 34, 35, 36, 37, 38, 39, 40, 41, 42, 43, 44, 45, 46, 47, 48, 49, 50, 51, 52, 53, 54, 55, 56, 57, 58, 59, 60, 61, 62, 63, 64, 65, 66, 67, 68, 69, 70, 71, 72, 73, 74] rfl rfl (by decide) [75, 76, 77, 78, 79, 80, 81, 82, 83, 84, 85, 86, 87, 88, 89, 90, 91, 92, 93, 94, 95, 96, 97, 98, 99, 100, 101, 102, 103, 104, 105, 106, 107, 108, 109, 110, 111, 112, 113, 114, 115, 116, 117, 118, 119, 120, 121, 122, 123, 124, 125, 126, 127, 128, 129, 130, 131, 132, 133, 134, 135, 136, 137, 138, 139, 140, 141, 142, 143, 144, 145, 146, 147, 148, 149] rfl (by decide) rfl (ci := 3) rfl rfl rfl rfl (Nat.le_of_ble_eq_true rfl) dX5_sue_119 ⟨Nat.zero_le _, Nat.zero_le _⟩ (fun H locs hP hD hS => ?_)
              subst hR
              exact mu_iret hx hb hr hk hA hS hP rfl dX5_sue_122
          · rw [if_pos c_5] at hR
            refine lv_bipush (v := (-4)) hx hb dX5_sue_56 (by decide) ?_
            subst hR
            exact mu_iret hx hb hr hk hA hS hP rfl dX5_sue_58
      · rw [if_pos c_3] at hR
        refine lv_iconst (v := (-1)) hx hb dX5_sue_29 (by decide) ?_
        subst hR
        exact mu_iret hx hb hr hk hA hS hP rfl dX5_sue_30

def mX5_vote_115 (a1 : Int32) (a2 : Int32) (C : (Nat → Nat → Nat → Int32) → Int32 → (Int32 × (Nat → Nat → Nat → Int32))) : Nat → (Nat → Nat → Nat → Int32) → Int32 → (Int32 × (Nat → Nat → Nat → Int32))
  | 0, xx_115, x4_115 => C xx_115 x4_115
  | n_115 + 1, xx_115, x4_115 => (lt (mX4_dropFor (xx_115 0) x4_115 a1 a2) (fun q_16 => (lt (setV xx_115 0 q_16) (fun xx_17 => (mX5_vote_115 a1 a2 C n_115 xx_17 (x4_115 + 1))))))
def mX5_vote (xx : Nat → Nat → Nat → Int32) (a1 a2 : Int32) : Int32 × (Nat → Nat → Nat → Int32) := (if (mX4_hasMill (xx 0) a1) = 0 then ((-1), xx) else (if (mX5_isHour a2) = 0 then ((-1), xx) else (if (mX4_isTied (xx 0) a1 a2) = 0 then ((-4), xx) else (if ((xx 0) 10 0) = 0 then ((-4), xx) else (lt (setV xx 1 (xx 0)) (fun xx_5 => (lt (mX5_add 6 ((xx_5 0) 2) 4 1) (fun q_6 => (lt (setV xx_5 0 (setA (xx_5 0) 2 q_6)) (fun xx_7 => (if (2 * (mX4_votesForUntying (xx_7 0) a1 a2)) ≤ ((xx_7 0) 10 0) then (lt (mX5_recorded xx_7 (mX4_votesForUntying (xx_7 0) a1 a2)) (fun q_9 => (q_9.1, q_9.2))) else (lt (mX5_add 6 ((xx_7 0) 2) 5 1) (fun q_10 => (lt (setV xx_7 0 (setA (xx_7 0) 2 q_10)) (fun xx_11 => (lt (mX4_untie (xx_11 0) a1 a2) (fun q_12 => (lt (setV xx_11 0 q_12) (fun xx_13 => (mX5_vote_115 a1 a2 (fun xx_115 x4_115 => (lt (mX5_recorded xx_115 (mX4_votesForUntying (xx_7 0) a1 a2)) (fun q_15 => (q_15.1, q_15.2)))) (tr 0 ((xx_13 0) 10 0)) xx_13 0))))))))))))))))))))
theorem kX5_vote : yX5_vote.cls = RX5 ∧ yX5_vote.cls ≠ "java/lang/invoke/MethodHandle" ∧ yX5_vote.cls ≠ "java/lang/invoke/VarHandle" ∧ (parseMethodDescriptor yX5_vote.desc).map (fun d => d.parameters.length) = some 2 := by decide +kernel
theorem iX5_vote_X5 : ∀ w ∈ wsX50, w ∈ wsX5_vote := fun w h => (List.mem_cons_of_mem _ (List.mem_append_left _ (List.mem_append_left _ (List.mem_append_right _ h))))
theorem iX5_vote_X4 : ∀ w ∈ wsX40, w ∈ wsX5_vote := fun w h => (List.mem_cons_of_mem _ (List.mem_append_left _ (List.mem_append_right _ h)))
set_option maxHeartbeats 4000000 in
set_option maxRecDepth 100000 in
theorem MX5_vote (l : Launch) (D : va_G) (q : Nat → ClassId) (ad : Nat → Nat → Nat) (xx : Nat → Nat → Nat → Int32) (a1 a2 : Int32) (hrg : rgOk xx) : muM l D (tyq q) yX5_vote wsX5_vote ({ frames := 6, cells := 0, slots := 0, locals := 143 } : Room) [.ref (ad 9 0), .int a1, .int a2] (wX q ad xx) (some (.int (mX5_vote xx a1 a2).1)) (wX q ad (mX5_vote xx a1 a2).2) := by
  obtain ⟨R, hR⟩ : ∃ z, (mX5_vote xx a1 a2) = z := ⟨_, rfl⟩
  rw [hR]
  unfold mX5_vote at hR
  refine muM.of (cc := cX5_vote) (maxL := 5) (ret := (some .int)) (by decide) rfl (Nat.le_of_ble_eq_true rfl) ?_
  intro p e s m below meth c ls A hx hb hr hk hml hown hts hP hD hG hA hl
  have hS : va_S A s.heap s.heap [] := va_S.rf
  have hl : lv_has ls 5 [(0, .ref (ad 9 0)), (1, .int a1), (2, .int a2)] := hl
  refine lv_aload_n hx hb dX5_vote_0 rfl (lv_at hl 0 rfl) ?_
  refine va_get (D := D) (ci := 3) (v := .ref ((ad 0) 0)) (C := RX5) (T := TX5) (N := 6) hx hb hts iX5_vote_X5 hown hG.1 hP 0 rfl rfl 0 (by decide) (hts (.fieldLink RX5 12 "MillComplaints" "now" "LMillComplaints$Village;") (List.mem_of_getElem? (i := 1) rfl)) (fun _ h9 => h9) rfl dX5_vote_1 ?_
  refine lv_iload_n hx hb dX5_vote_4 rfl (lv_at hl 1 rfl) ?_
  refine ro_V (v := .int (mX4_hasMill (xx 0) a1)) (rest := []) (As := [.int a1]) hx hb hml hown hts hl (MX4_hasMill l D q (ad 0) (xx 0) a1) gX5_vote_X4_hasMill rfl kX4_hasMill ⟨Nat.le_of_ble_eq_true rfl, Nat.le_of_ble_eq_true rfl⟩ rfl rfl (hP.sub (ws' := (wV q (ad 0) (xx 0))) [1, 2, 3, 4, 5, 6, 7, 8, 9, 10] rfl) (dT (hD.sub (ws' := (wV q (ad 0) (xx 0))) [1, 2, 3, 4, 5, 6, 7, 8, 9, 10] (by decide) rfl)) hG (ci := 2) rfl rfl rfl rfl (Nat.le_of_ble_eq_true rfl) dX5_vote_5 ⟨Nat.zero_le _, Nat.zero_le _⟩ ?_
  refine lv_if_eq (tgt := 18) hx hb dX5_vote_8 (by decide) (fun c_1 => ?_) (fun c_1 => ?_)
  · rw [if_pos c_1] at hR
    refine lv_iconst (v := (-1)) hx hb dX5_vote_18 (by decide) ?_
    subst hR
    exact mu_iret hx hb hr hk hA hS hP rfl dX5_vote_19
  · rw [if_neg c_1] at hR
    refine lv_iload_n hx hb dX5_vote_11 rfl (lv_at hl 2 rfl) ?_
    refine ro_S (v := .int (mX5_isHour a2)) (rest := []) (As := [.int a2]) hx hb hml hown hts hl (MX5_isHour l D q a2) gX5_vote_X5_isHour rfl kX5_isHour ⟨Nat.le_of_ble_eq_true rfl, Nat.le_of_ble_eq_true rfl⟩ rfl rfl (hP.sub (ws' := []) [] rfl) (dT (hD.sub (ws' := []) [] (by decide) rfl)) hG rfl rfl (Nat.le_of_ble_eq_true rfl) dX5_vote_12 ⟨Nat.zero_le _, Nat.zero_le _⟩ ?_
    refine lv_if_ne (tgt := 20) hx hb dX5_vote_15 (by decide) (fun c_2 => ?_) (fun c_2 => ?_)
    · rw [if_neg c_2] at hR
      have fc_2 := f_isHour c_2
      refine lv_aload_n hx hb dX5_vote_20 rfl (lv_at hl 0 rfl) ?_
      refine va_get (D := D) (ci := 3) (v := .ref ((ad 0) 0)) (C := RX5) (T := TX5) (N := 6) hx hb hts iX5_vote_X5 hown hG.1 hP 0 rfl rfl 0 (by decide) (hts (.fieldLink RX5 12 "MillComplaints" "now" "LMillComplaints$Village;") (List.mem_of_getElem? (i := 1) rfl)) (fun _ h9 => h9) rfl dX5_vote_21 ?_
      refine lv_iload_n hx hb dX5_vote_24 rfl (lv_at hl 1 rfl) ?_
      refine lv_iload_n hx hb dX5_vote_25 rfl (lv_at hl 2 rfl) ?_
      refine ro_V (v := .int (mX4_isTied (xx 0) a1 a2)) (rest := []) (As := [.int a1, .int a2]) hx hb hml hown hts hl (MX4_isTied l D q (ad 0) (xx 0) a1 a2) gX5_vote_X4_isTied rfl kX4_isTied ⟨Nat.le_of_ble_eq_true rfl, Nat.le_of_ble_eq_true rfl⟩ rfl rfl (hP.sub (ws' := (wV q (ad 0) (xx 0))) [1, 2, 3, 4, 5, 6, 7, 8, 9, 10] rfl) (dT (hD.sub (ws' := (wV q (ad 0) (xx 0))) [1, 2, 3, 4, 5, 6, 7, 8, 9, 10] (by decide) rfl)) hG (ci := 2) rfl rfl rfl rfl (Nat.le_of_ble_eq_true rfl) dX5_vote_26 ⟨Nat.zero_le _, Nat.zero_le _⟩ ?_
      refine lv_if_eq (tgt := 42) hx hb dX5_vote_29 (by decide) (fun c_3 => ?_) (fun c_3 => ?_)
      · rw [if_pos c_3] at hR
        refine lv_bipush (v := (-4)) hx hb dX5_vote_42 (by decide) ?_
        subst hR
        exact mu_iret hx hb hr hk hA hS hP rfl dX5_vote_44
      · rw [if_neg c_3] at hR
        refine lv_aload_n hx hb dX5_vote_32 rfl (lv_at hl 0 rfl) ?_
        refine va_get (D := D) (ci := 3) (v := .ref ((ad 0) 0)) (C := RX5) (T := TX5) (N := 6) hx hb hts iX5_vote_X5 hown hG.1 hP 0 rfl rfl 0 (by decide) (hts (.fieldLink RX5 12 "MillComplaints" "now" "LMillComplaints$Village;") (List.mem_of_getElem? (i := 1) rfl)) (fun _ h9 => h9) rfl dX5_vote_33 ?_
        refine va_getN (D := D) (ci := 2) (v := .int ((xx 0) 10 0)) (C := RX4) (T := TX4) (N := 11) hx hb hts iX5_vote_X4 hown hG.1 hP 1 rfl rfl 7 (by decide) (nwf_7 hG) (fun _ h9 => h9) rfl dX5_vote_36 ?_
        refine lv_if_ne (tgt := 45) hx hb dX5_vote_39 (by decide) (fun c_4 => ?_) (fun c_4 => ?_)
        · rw [if_neg c_4] at hR
          refine lv_aload_n hx hb dX5_vote_45 rfl (lv_at hl 0 rfl) ?_
          refine va_get (D := D) (ci := 3) (v := .ref ((ad 1) 0)) (C := RX5) (T := TX5) (N := 6) hx hb hts iX5_vote_X5 hown hG.1 hP 0 rfl rfl 1 (by decide) (hts (.fieldLink RX5 16 "MillComplaints" "before" "LMillComplaints$Village;") (List.mem_of_getElem? (i := 2) rfl)) (fun _ h9 => h9) rfl dX5_vote_46 ?_
          refine lv_aload_n hx hb dX5_vote_49 rfl (lv_at hl 0 rfl) ?_
          refine va_get (D := D) (ci := 3) (v := .ref ((ad 0) 0)) (C := RX5) (T := TX5) (N := 6) hx hb hts iX5_vote_X5 hown hG.1 hP 0 rfl rfl 0 (by decide) (hts (.fieldLink RX5 12 "MillComplaints" "now" "LMillComplaints$Village;") (List.mem_of_getElem? (i := 1) rfl)) (fun _ h9 => h9) rfl dX5_vote_50 ?_
          have hM := MX4_copyFrom' l D q (ad 1) (xx 1) (ad 0) (xx 0)
          refine mu_V (D := D) (ws := (wX q ad xx)) (ws' := (wX q ad (setV xx 1 (xx 0)))) (rest := []) (As := [.ref ((ad 0) 0)]) hx hb hml hown hts hl hM gX5_vote_X4_copyFrom rfl kX4_copyFrom ⟨Nat.le_of_ble_eq_true rfl, Nat.le_of_ble_eq_true rfl⟩ rfl rfl hP hD hS hG [11, 12, 13, 14, 15, 16, 17, 18, 19, 20, 1, 2, 3, 4, 5, 6, 7, 8, 9, 10] rfl rfl (by decide) [0, 85, 86, 87, 88, 89, 90, 91, 92, 93, 94, 75, 76, 77, 78, 79, 80, 81, 82, 83, 84, 21, 22, 23, 24, 25, 26, 27, 28, 29, 30, 31, 32, 33, 34, 35, 36, 37, 38, 39, 40, 41, 42, 43, 44, 45, 46, 47, 48, 49, 50, 51, 52, 53, 54, 55, 56, 57, 58, 59, 60, 61, 62, 63, 64, 65, 66, 67, 68, 69, 70, 71, 72, 73, 74] rfl (by decide) rfl (ci := 2) rfl rfl rfl rfl (Nat.le_of_ble_eq_true rfl) dX5_vote_53 ⟨Nat.zero_le _, Nat.zero_le _⟩ (fun H locs hP hD hS => ?_)
          obtain ⟨xx_5, exx_5⟩ : ∃ z, z = (setV xx 1 (xx 0)) := ⟨_, rfl⟩
          rw [← exx_5] at hP hD
          replace hR := lt_e hR exx_5
          refine lv_aload_n hx hb dX5_vote_56 rfl (lv_at hl 0 rfl) ?_
          refine va_get (D := D) (ci := 3) (v := .ref ((ad 0) 0)) (C := RX5) (T := TX5) (N := 6) hx hb hts iX5_vote_X5 hown hG.1 hP 0 rfl rfl 0 (by decide) (hts (.fieldLink RX5 12 "MillComplaints" "now" "LMillComplaints$Village;") (List.mem_of_getElem? (i := 1) rfl)) (fun _ h9 => h9) rfl dX5_vote_57 ?_
          refine va_getN (D := D) (ci := 2) (v := .ref ((ad 0) 3)) (C := RX4) (T := TX4) (N := 11) hx hb hts iX5_vote_X4 hown hG.1 hP 1 rfl rfl 2 (by decide) (nwf_3 hG) (fun _ h9 => h9) rfl dX5_vote_60 ?_
          refine lv_iconst (v := 4) hx hb dX5_vote_63 (by decide) ?_
          refine lv_iconst (v := 1) hx hb dX5_vote_64 (by decide) ?_
          obtain ⟨q_6, eq_6⟩ : ∃ z, z = (mX5_add 6 ((xx_5 0) 2) 4 1) := ⟨_, rfl⟩
          have hM := MX5_add l D q ((ad 0) 3) 6 ((xx_5 0) 2) 4 1 (by decide)
          rw [← eq_6] at hM
          replace hR := lt_e hR eq_6
          refine mu_S (D := D) (ws := (wX q ad xx_5)) (ws' := (wX q ad (setV xx_5 0 (setA (xx_5 0) 2 q_6)))) (rest := []) (As := [.ref ((ad 0) 3), .int 4, .int 1]) hx hb hml hown hts hl hM gX5_vote_X5_add rfl kX5_add ⟨Nat.le_of_ble_eq_true rfl, Nat.le_of_ble_eq_true rfl⟩ rfl rfl hP hD hS hG [4] rfl rfl (by decide) [0, 1, 2, 3, 75, 5, 6, 7, 8, 9, 10, 11, 12, 13, 14, 15, 16, 17, 18, 19, 20, 21, 22, 23, 24, 25, 26, 27, 28, 29, 30, 31, 32, 33, 34, 35, 36, 37, 38, 39, 40, 41, 42, 43, 44, 45, 46, 47, 48, 49, 50, 51, 52, 53, 54, 55, 56, 57, 58, 59, 60, 61, 62, 63, 64, 65, 66, 67, 68, 69, 70, 71, 72, 73, 74] rfl (by decide) rfl rfl rfl (Nat.le_of_ble_eq_true rfl) dX5_vote_65 ⟨Nat.zero_le _, Nat.zero_le _⟩ (fun H locs hP hD hS => ?_)
          obtain ⟨xx_7, exx_7⟩ : ∃ z, z = (setV xx_5 0 (setA (xx_5 0) 2 q_6)) := ⟨_, rfl⟩
          rw [← exx_7] at hP hD
          replace hR := lt_e hR exx_7
          refine lv_aload_n hx hb dX5_vote_68 rfl (lv_at hl 0 rfl) ?_
          refine va_get (D := D) (ci := 3) (v := .ref ((ad 0) 0)) (C := RX5) (T := TX5) (N := 6) hx hb hts iX5_vote_X5 hown hG.1 hP 0 rfl rfl 0 (by decide) (hts (.fieldLink RX5 12 "MillComplaints" "now" "LMillComplaints$Village;") (List.mem_of_getElem? (i := 1) rfl)) (fun _ h9 => h9) rfl dX5_vote_69 ?_
          refine lv_iload_n hx hb dX5_vote_72 rfl (lv_at hl 1 rfl) ?_
          refine lv_iload_n hx hb dX5_vote_73 rfl (lv_at hl 2 rfl) ?_
          refine ro_V (v := .int (mX4_votesForUntying (xx_7 0) a1 a2)) (rest := []) (As := [.int a1, .int a2]) hx hb hml hown hts hl (MX4_votesForUntying l D q (ad 0) (xx_7 0) a1 a2) gX5_vote_X4_votesForUntying rfl kX4_votesForUntying ⟨Nat.le_of_ble_eq_true rfl, Nat.le_of_ble_eq_true rfl⟩ rfl rfl (hP.sub (ws' := (wV q (ad 0) (xx_7 0))) [1, 2, 3, 4, 5, 6, 7, 8, 9, 10] rfl) (dT (hD.sub (ws' := (wV q (ad 0) (xx_7 0))) [1, 2, 3, 4, 5, 6, 7, 8, 9, 10] (by decide) rfl)) hG (ci := 2) rfl rfl rfl rfl (Nat.le_of_ble_eq_true rfl) dX5_vote_74 ⟨Nat.zero_le _, Nat.zero_le _⟩ ?_
          refine lv_istore_n (lv' := [(3, .int (mX4_votesForUntying (xx_7 0) a1 a2)), (0, .ref (ad 9 0)), (1, .int a1), (2, .int a2)]) hx hb dX5_vote_77 rfl hl (by decide) rfl (fun ls hl => ?_)
          refine lv_iconst (v := 2) hx hb dX5_vote_78 (by decide) ?_
          refine lv_iload_n hx hb dX5_vote_79 rfl (lv_at hl 0 rfl) ?_
          refine lv_imul hx hb dX5_vote_80 ?_
          refine lv_aload_n hx hb dX5_vote_81 rfl (lv_at hl 1 rfl) ?_
          refine va_get (D := D) (ci := 3) (v := .ref ((ad 0) 0)) (C := RX5) (T := TX5) (N := 6) hx hb hts iX5_vote_X5 hown hG.1 hP 0 rfl rfl 0 (by decide) (hts (.fieldLink RX5 12 "MillComplaints" "now" "LMillComplaints$Village;") (List.mem_of_getElem? (i := 1) rfl)) (fun _ h9 => h9) rfl dX5_vote_82 ?_
          refine va_getN (D := D) (ci := 2) (v := .int ((xx_7 0) 10 0)) (C := RX4) (T := TX4) (N := 11) hx hb hts iX5_vote_X4 hown hG.1 hP 1 rfl rfl 7 (by decide) (nwf_7 hG) (fun _ h9 => h9) rfl dX5_vote_85 ?_
          refine lv_icmp_le (tgt := 144) hx hb dX5_vote_88 (by decide) (fun c_8 => ?_) (fun c_8 => ?_)
          · rw [if_pos c_8] at hR
            refine lv_aload_n hx hb dX5_vote_144 rfl (lv_at hl 1 rfl) ?_
            refine lv_iload_n hx hb dX5_vote_145 rfl (lv_at hl 0 rfl) ?_
            obtain ⟨q_9, eq_9⟩ : ∃ z, z = (mX5_recorded xx_7 (mX4_votesForUntying (xx_7 0) a1 a2)) := ⟨_, rfl⟩
            have hM := MX5_recorded l D q ad xx_7 (mX4_votesForUntying (xx_7 0) a1 a2) (by rw [exx_7, exx_5]; exact hrg)
            rw [← eq_9] at hM
            replace hR := lt_e hR eq_9
            refine mu_V (D := D) (ws := (wX q ad xx_7)) (ws' := (wX q ad q_9.2)) (rest := []) (As := [.int (mX4_votesForUntying (xx_7 0) a1 a2)]) hx hb hml hown hts hl hM gX5_vote_X5_recorded rfl kX5_recorded ⟨Nat.le_of_ble_eq_true rfl, Nat.le_of_ble_eq_true rfl⟩ rfl rfl hP hD hS hG [0, 1, 2, 3, 4, 5, 6, 7, 8, 9, 10, 11, 12, 13, 14, 15, 16, 17, 18, 19, 20, 21, 22, 23, 24, 25, 26, 27, 28, 29, 30, 31, 32, 33, 34, 35, 36, 37, 38, 39, 40, 41, 42, 43, 44, 45, 46, 47, 48, 49, 50, 51, 52, 53, 54, 55, 56, 57, 58, 59, 60, 61, 62, 63, 64, 65, 66, 67, 68, 69, 70, 71, 72, 73, 74] rfl rfl (by decide) [75, 76, 77, 78, 79, 80, 81, 82, 83, 84, 85, 86, 87, 88, 89, 90, 91, 92, 93, 94, 95, 96, 97, 98, 99, 100, 101, 102, 103, 104, 105, 106, 107, 108, 109, 110, 111, 112, 113, 114, 115, 116, 117, 118, 119, 120, 121, 122, 123, 124, 125, 126, 127, 128, 129, 130, 131, 132, 133, 134, 135, 136, 137, 138, 139, 140, 141, 142, 143, 144, 145, 146, 147, 148, 149] rfl (by decide) rfl (ci := 3) rfl rfl rfl rfl (Nat.le_of_ble_eq_true rfl) dX5_vote_146 ⟨Nat.zero_le _, Nat.zero_le _⟩ (fun H locs hP hD hS => ?_)
            subst hR
            exact mu_iret hx hb hr hk hA hS hP rfl dX5_vote_149
          · rw [if_neg c_8] at hR
            refine lv_aload_n hx hb dX5_vote_91 rfl (lv_at hl 1 rfl) ?_
            refine va_get (D := D) (ci := 3) (v := .ref ((ad 0) 0)) (C := RX5) (T := TX5) (N := 6) hx hb hts iX5_vote_X5 hown hG.1 hP 0 rfl rfl 0 (by decide) (hts (.fieldLink RX5 12 "MillComplaints" "now" "LMillComplaints$Village;") (List.mem_of_getElem? (i := 1) rfl)) (fun _ h9 => h9) rfl dX5_vote_92 ?_
            refine va_getN (D := D) (ci := 2) (v := .ref ((ad 0) 3)) (C := RX4) (T := TX4) (N := 11) hx hb hts iX5_vote_X4 hown hG.1 hP 1 rfl rfl 2 (by decide) (nwf_3 hG) (fun _ h9 => h9) rfl dX5_vote_95 ?_
            refine lv_iconst (v := 5) hx hb dX5_vote_98 (by decide) ?_
            refine lv_iconst (v := 1) hx hb dX5_vote_99 (by decide) ?_
            obtain ⟨q_10, eq_10⟩ : ∃ z, z = (mX5_add 6 ((xx_7 0) 2) 5 1) := ⟨_, rfl⟩
            have hM := MX5_add l D q ((ad 0) 3) 6 ((xx_7 0) 2) 5 1 (by decide)
            rw [← eq_10] at hM
            replace hR := lt_e hR eq_10
            refine mu_S (D := D) (ws := (wX q ad xx_7)) (ws' := (wX q ad (setV xx_7 0 (setA (xx_7 0) 2 q_10)))) (rest := []) (As := [.ref ((ad 0) 3), .int 5, .int 1]) hx hb hml hown hts hl hM gX5_vote_X5_add rfl kX5_add ⟨Nat.le_of_ble_eq_true rfl, Nat.le_of_ble_eq_true rfl⟩ rfl rfl hP hD hS hG [4] rfl rfl (by decide) [0, 1, 2, 3, 75, 5, 6, 7, 8, 9, 10, 11, 12, 13, 14, 15, 16, 17, 18, 19, 20, 21, 22, 23, 24, 25, 26, 27, 28, 29, 30, 31, 32, 33, 34, 35, 36, 37, 38, 39, 40, 41, 42, 43, 44, 45, 46, 47, 48, 49, 50, 51, 52, 53, 54, 55, 56, 57, 58, 59, 60, 61, 62, 63, 64, 65, 66, 67, 68, 69, 70, 71, 72, 73, 74] rfl (by decide) rfl rfl rfl (Nat.le_of_ble_eq_true rfl) dX5_vote_100 ⟨Nat.zero_le _, Nat.zero_le _⟩ (fun H locs hP hD hS => ?_)
            obtain ⟨xx_11, exx_11⟩ : ∃ z, z = (setV xx_7 0 (setA (xx_7 0) 2 q_10)) := ⟨_, rfl⟩
            rw [← exx_11] at hP hD
            replace hR := lt_e hR exx_11
            refine lv_aload_n hx hb dX5_vote_103 rfl (lv_at hl 1 rfl) ?_
            refine va_get (D := D) (ci := 3) (v := .ref ((ad 0) 0)) (C := RX5) (T := TX5) (N := 6) hx hb hts iX5_vote_X5 hown hG.1 hP 0 rfl rfl 0 (by decide) (hts (.fieldLink RX5 12 "MillComplaints" "now" "LMillComplaints$Village;") (List.mem_of_getElem? (i := 1) rfl)) (fun _ h9 => h9) rfl dX5_vote_104 ?_
            refine lv_iload_n hx hb dX5_vote_107 rfl (lv_at hl 2 rfl) ?_
            refine lv_iload_n hx hb dX5_vote_108 rfl (lv_at hl 3 rfl) ?_
            obtain ⟨q_12, eq_12⟩ : ∃ z, z = (mX4_untie (xx_11 0) a1 a2) := ⟨_, rfl⟩
            have hM := MX4_untie l D q (ad 0) (xx_11 0) a1 a2
            rw [← eq_12] at hM
            replace hR := lt_e hR eq_12
            refine mu_V (D := D) (ws := (wX q ad xx_11)) (ws' := (wX q ad (setV xx_11 0 q_12))) (rest := []) (As := [.int a1, .int a2]) hx hb hml hown hts hl hM gX5_vote_X4_untie rfl kX4_untie ⟨Nat.le_of_ble_eq_true rfl, Nat.le_of_ble_eq_true rfl⟩ rfl rfl hP hD hS hG [1, 2, 3, 4, 5, 6, 7, 8, 9, 10] rfl rfl (by decide) [0, 75, 76, 77, 78, 79, 80, 81, 82, 83, 84, 11, 12, 13, 14, 15, 16, 17, 18, 19, 20, 21, 22, 23, 24, 25, 26, 27, 28, 29, 30, 31, 32, 33, 34, 35, 36, 37, 38, 39, 40, 41, 42, 43, 44, 45, 46, 47, 48, 49, 50, 51, 52, 53, 54, 55, 56, 57, 58, 59, 60, 61, 62, 63, 64, 65, 66, 67, 68, 69, 70, 71, 72, 73, 74] rfl (by decide) rfl (ci := 2) rfl rfl rfl rfl (Nat.le_of_ble_eq_true rfl) dX5_vote_109 ⟨Nat.zero_le _, Nat.zero_le _⟩ (fun H locs hP hD hS => ?_)
            obtain ⟨xx_13, exx_13⟩ : ∃ z, z = (setV xx_11 0 q_12) := ⟨_, rfl⟩
            rw [← exx_13] at hP hD
            replace hR := lt_e hR exx_13
            refine lv_iconst (v := 0) hx hb dX5_vote_112 (by decide) ?_
            refine lv_istore (lv' := [(4, .int 0), (3, .int (mX4_votesForUntying (xx_7 0) a1 a2)), (0, .ref (ad 9 0)), (1, .int a1), (2, .int a2)]) hx hb dX5_vote_113 hl (by decide) rfl (fun ls hl => ?_)
            have key_115 : ∀ (n_115 : Nat) (xx_115 : Nat → Nat → Nat → Int32) (x4_115 : Int32) (H : Heap) (locs : List Loc) , tr x4_115 ((xx_115 0) 10 0) = n_115 → rgOk xx_115 → mX5_vote_115 a1 a2 (fun xx_115 x4_115 => (lt (mX5_recorded xx_115 (mX4_votesForUntying (xx_7 0) a1 a2)) (fun q_15 => (q_15.1, q_15.2)))) n_115 xx_115 x4_115 = R → va_P D vwCl (wX q ad xx_115) H → va_D A (wX q ad xx_115) → va_S A s.heap H locs → ∀ ls : Array Slot, lv_has ls 5 [(4, .int x4_115), (3, .int (mX4_votesForUntying (xx_7 0) a1 a2)), (0, .ref (ad 9 0)), (1, .int a1), (2, .int a2)] → W p l e ({ frames := 6, cells := 0, slots := 0, locals := 143 } : Room) s m ([.ref (ad 9 0), .int a1, .int a2] : List Value).toArray below meth c H locs 0 0 (MQ below (muQ D (some (.int R.1)) (wX q ad xx) (wX q ad R.2)) ([.ref (ad 9 0), .int a1, .int a2] : List Value).toArray s 0 0 (wAt (wX q ad xx))) (F0 m 115 ls []) := by
              intro n_115
              induction n_115 with
              | zero =>
                intro xx_115 x4_115 H locs hn_115 hrg_115 hR hP hD hS ls hl
                rw [mX5_vote_115] at hR
                refine lv_iload hx hb dX5_vote_115 (lv_at hl 0 rfl) ?_
                refine lv_aload_n hx hb dX5_vote_117 rfl (lv_at hl 2 rfl) ?_
                refine va_get (D := D) (ci := 3) (v := .ref ((ad 0) 0)) (C := RX5) (T := TX5) (N := 6) hx hb hts iX5_vote_X5 hown hG.1 hP 0 rfl rfl 0 (by decide) (hts (.fieldLink RX5 12 "MillComplaints" "now" "LMillComplaints$Village;") (List.mem_of_getElem? (i := 1) rfl)) (fun _ h9 => h9) rfl dX5_vote_118 ?_
                refine va_getN (D := D) (ci := 2) (v := .int ((xx_115 0) 10 0)) (C := RX4) (T := TX4) (N := 11) hx hb hts iX5_vote_X4 hown hG.1 hP 1 rfl rfl 7 (by decide) (nwf_7 hG) (fun _ h9 => h9) rfl dX5_vote_121 ?_
                refine lv_icmp_ge (tgt := 144) hx hb dX5_vote_124 (by decide) (fun c_14 => ?_) (fun c_14 => (tr0 hn_115 c_14).elim)
                refine lv_aload_n hx hb dX5_vote_144 rfl (lv_at hl 2 rfl) ?_
                refine lv_iload_n hx hb dX5_vote_145 rfl (lv_at hl 1 rfl) ?_
                obtain ⟨q_15, eq_15⟩ : ∃ z, z = (mX5_recorded xx_115 (mX4_votesForUntying (xx_7 0) a1 a2)) := ⟨_, rfl⟩
                have hM := MX5_recorded l D q ad xx_115 (mX4_votesForUntying (xx_7 0) a1 a2) hrg_115
                rw [← eq_15] at hM
                replace hR := lt_e hR eq_15
                refine mu_V (D := D) (ws := (wX q ad xx_115)) (ws' := (wX q ad q_15.2)) (rest := []) (As := [.int (mX4_votesForUntying (xx_7 0) a1 a2)]) hx hb hml hown hts hl hM gX5_vote_X5_recorded rfl kX5_recorded ⟨Nat.le_of_ble_eq_true rfl, Nat.le_of_ble_eq_true rfl⟩ rfl rfl hP hD hS hG [0, 1, 2, 3, 4, 5, 6, 7, 8, 9, 10, 11, 12, 13, 14, 15, 16, 17, 18, 19, 20, 21, 22, 23, 24, 25, 26, 27, 28, 29, 30, 31, 32, 33, 34, 35, 36, 37, 38, 39, 40, 41, 42, 43, 44, 45, 46, 47, 48, 49, 50, 51, 52, 53, 54, 55, 56, 57, 58, 59, 60, 61, 62, 63, 64, 65, 66, 67, 68, 69, 70, 71, 72, 73, 74] rfl rfl (by decide) [75, 76, 77, 78, 79, 80, 81, 82, 83, 84, 85, 86, 87, 88, 89, 90, 91, 92, 93, 94, 95, 96, 97, 98, 99, 100, 101, 102, 103, 104, 105, 106, 107, 108, 109, 110, 111, 112, 113, 114, 115, 116, 117, 118, 119, 120, 121, 122, 123, 124, 125, 126, 127, 128, 129, 130, 131, 132, 133, 134, 135, 136, 137, 138, 139, 140, 141, 142, 143, 144, 145, 146, 147, 148, 149] rfl (by decide) rfl (ci := 3) rfl rfl rfl rfl (Nat.le_of_ble_eq_true rfl) dX5_vote_146 ⟨Nat.zero_le _, Nat.zero_le _⟩ (fun H locs hP hD hS => ?_)
                subst hR
                exact mu_iret hx hb hr hk hA hS hP rfl dX5_vote_149
              | succ n_115 ih_115 =>
                intro xx_115 x4_115 H locs hn_115 hrg_115 hR hP hD hS ls hl
                rw [mX5_vote_115] at hR
                refine lv_iload hx hb dX5_vote_115 (lv_at hl 0 rfl) ?_
                refine lv_aload_n hx hb dX5_vote_117 rfl (lv_at hl 2 rfl) ?_
                refine va_get (D := D) (ci := 3) (v := .ref ((ad 0) 0)) (C := RX5) (T := TX5) (N := 6) hx hb hts iX5_vote_X5 hown hG.1 hP 0 rfl rfl 0 (by decide) (hts (.fieldLink RX5 12 "MillComplaints" "now" "LMillComplaints$Village;") (List.mem_of_getElem? (i := 1) rfl)) (fun _ h9 => h9) rfl dX5_vote_118 ?_
                refine va_getN (D := D) (ci := 2) (v := .int ((xx_115 0) 10 0)) (C := RX4) (T := TX4) (N := 11) hx hb hts iX5_vote_X4 hown hG.1 hP 1 rfl rfl 7 (by decide) (nwf_7 hG) (fun _ h9 => h9) rfl dX5_vote_121 ?_
                refine lv_icmp_ge (tgt := 144) hx hb dX5_vote_124 (by decide) (fun c_14 => (trS hn_115 c_14).elim) (fun c_14 => ?_)
                refine lv_aload_n hx hb dX5_vote_127 rfl (lv_at hl 2 rfl) ?_
                refine va_get (D := D) (ci := 3) (v := .ref ((ad 0) 0)) (C := RX5) (T := TX5) (N := 6) hx hb hts iX5_vote_X5 hown hG.1 hP 0 rfl rfl 0 (by decide) (hts (.fieldLink RX5 12 "MillComplaints" "now" "LMillComplaints$Village;") (List.mem_of_getElem? (i := 1) rfl)) (fun _ h9 => h9) rfl dX5_vote_128 ?_
                refine lv_iload hx hb dX5_vote_131 (lv_at hl 0 rfl) ?_
                refine lv_iload_n hx hb dX5_vote_133 rfl (lv_at hl 3 rfl) ?_
                refine lv_iload_n hx hb dX5_vote_134 rfl (lv_at hl 4 rfl) ?_
                obtain ⟨q_16, eq_16⟩ : ∃ z, z = (mX4_dropFor (xx_115 0) x4_115 a1 a2) := ⟨_, rfl⟩
                have hM := MX4_dropFor l D q (ad 0) (xx_115 0) x4_115 a1 a2
                rw [← eq_16] at hM
                replace hR := lt_e hR eq_16
                refine mu_V (D := D) (ws := (wX q ad xx_115)) (ws' := (wX q ad (setV xx_115 0 q_16))) (rest := []) (As := [.int x4_115, .int a1, .int a2]) hx hb hml hown hts hl hM gX5_vote_X4_dropFor rfl kX4_dropFor ⟨Nat.le_of_ble_eq_true rfl, Nat.le_of_ble_eq_true rfl⟩ rfl rfl hP hD hS hG [1, 2, 3, 4, 5, 6, 7, 8, 9, 10] rfl rfl (by decide) [0, 75, 76, 77, 78, 79, 80, 81, 82, 83, 84, 11, 12, 13, 14, 15, 16, 17, 18, 19, 20, 21, 22, 23, 24, 25, 26, 27, 28, 29, 30, 31, 32, 33, 34, 35, 36, 37, 38, 39, 40, 41, 42, 43, 44, 45, 46, 47, 48, 49, 50, 51, 52, 53, 54, 55, 56, 57, 58, 59, 60, 61, 62, 63, 64, 65, 66, 67, 68, 69, 70, 71, 72, 73, 74] rfl (by decide) rfl (ci := 2) rfl rfl rfl rfl (Nat.le_of_ble_eq_true rfl) dX5_vote_135 ⟨Nat.zero_le _, Nat.zero_le _⟩ (fun H locs hP hD hS => ?_)
                obtain ⟨xx_17, exx_17⟩ : ∃ z, z = (setV xx_115 0 q_16) := ⟨_, rfl⟩
                rw [← exx_17] at hP hD
                replace hR := lt_e hR exx_17
                refine lv_iinc (v := (x4_115 + 1)) (lv' := [(4, .int (x4_115 + 1)), (3, .int (mX4_votesForUntying (xx_7 0) a1 a2)), (0, .ref (ad 9 0)), (1, .int a1), (2, .int a2)]) hx hb dX5_vote_138 hl (k := 0) rfl rfl (by decide) rfl (fun ls hl => ?_)
                refine lv_goto (tgt := 115) hx hb dX5_vote_141 (by decide) ?_
                exact ih_115 xx_17 (x4_115 + 1) _ _ (by rw [exx_17]; show tr _ (q_16 10 0) = _; rw [eq_16, drop10]; exact trN hn_115) (by rw [exx_17]; exact hrg_115) hR hP hD hS ls (lv_sub hl [0, 1, 2, 3, 4] rfl)
            exact key_115 _ xx_13 0 _ _ rfl (by rw [exx_13, exx_11, exx_7, exx_5]; exact hrg) hR hP hD hS ls hl
        · rw [if_pos c_4] at hR
          refine lv_bipush (v := (-4)) hx hb dX5_vote_42 (by decide) ?_
          subst hR
          exact mu_iret hx hb hr hk hA hS hP rfl dX5_vote_44
    · rw [if_pos c_2] at hR
      refine lv_iconst (v := (-1)) hx hb dX5_vote_18 (by decide) ?_
      subst hR
      exact mu_iret hx hb hr hk hA hS hP rfl dX5_vote_19
