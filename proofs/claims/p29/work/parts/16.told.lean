def mX5_millOf (v : Nat → Nat → Int32) (a1 a2 : Int32) : Int32 := (if (mX4_hasMill v a1) = 0 then (-1) else (if a2 = 0 then (mX5_at 4 (v 3) a1) else (if a2 = 1 then (mX5_at 4 (v 4) a1) else (if a2 = 2 then (mX4_tiedHours v a1) else (if a2 = 3 then (mX4_turningHours v a1) else (if a2 = 4 then (mX4_grainOf v a1) else (if a2 = 5 then (mX4_pointsOfDay v a1) else (-2))))))))
theorem kX5_millOf : yX5_millOf.cls = RX5 ∧ yX5_millOf.cls ≠ "java/lang/invoke/MethodHandle" ∧ yX5_millOf.cls ≠ "java/lang/invoke/VarHandle" ∧ (parseMethodDescriptor yX5_millOf.desc).map (fun d => d.parameters.length) = some 2 := by decide +kernel
theorem iX5_millOf_X5 : ∀ w ∈ wsX50, w ∈ wsX5_millOf := fun w h => (List.mem_cons_of_mem _ (List.mem_append_left _ (List.mem_append_right _ h)))
theorem iX5_millOf_X4 : ∀ w ∈ wsX40, w ∈ wsX5_millOf := fun w h => (List.mem_cons_of_mem _ (List.mem_append_right _ h))
set_option maxHeartbeats 4000000 in
set_option maxRecDepth 100000 in
theorem MX5_millOf (l : Launch) (D : va_G) (q : Nat → ClassId) (ad : Nat → Nat → Nat) (sn : Int32) (v : Nat → Nat → Int32) (a1 a2 : Int32)  : roM l D (tyq q) yX5_millOf wsX5_millOf ({ frames := 5, cells := 0, slots := 0, locals := 109 } : Room) [.ref (ad 9 0), .int a1, .int a2] (wXN q ad sn v) (some (.int (mX5_millOf v a1 a2))) := by
  obtain ⟨R, hR⟩ : ∃ z, (mX5_millOf v a1 a2) = z := ⟨_, rfl⟩
  rw [hR]
  unfold mX5_millOf at hR
  refine roM.of (cc := cX5_millOf) (maxL := 3) (ret := (some .int)) (by decide) rfl (Nat.le_of_ble_eq_true rfl) ?_
  intro p e s m below meth c ls hx hb hr hk hml hown hts hP hD hG hl
  have hl : lv_has ls 3 [(0, .ref (ad 9 0)), (1, .int a1), (2, .int a2)] := hl
  refine lv_aload_n hx hb dX5_millOf_0 rfl (lv_at hl 0 rfl) ?_
  refine va_get (D := D) (ci := 3) (v := .ref ((ad 0) 0)) (C := RX5) (T := TX5) (N := 6) hx hb hts iX5_millOf_X5 hown hG.1 hP 0 rfl rfl 0 (by decide) (hts (.fieldLink RX5 12 "MillComplaints" "now" "LMillComplaints$Village;") (List.mem_of_getElem? (i := 1) rfl)) (fun _ h9 => h9) rfl dX5_millOf_1 ?_
  refine lv_iload_n hx hb dX5_millOf_4 rfl (lv_at hl 1 rfl) ?_
  refine ro_V (v := .int (mX4_hasMill v a1)) (rest := []) (As := [.int a1]) hx hb hml hown hts hl (MX4_hasMill l D q (ad 0) v a1) gX5_millOf_X4_hasMill rfl kX4_hasMill ⟨Nat.le_of_ble_eq_true rfl, Nat.le_of_ble_eq_true rfl⟩ rfl rfl (hP.sub (ws' := (wV q (ad 0) v)) [1, 2, 3, 4, 5, 6, 7, 8, 9, 10] rfl) (dT (hD.sub (ws' := (wV q (ad 0) v)) [1, 2, 3, 4, 5, 6, 7, 8, 9, 10] (by decide) rfl)) hG (ci := 2) rfl rfl rfl rfl (Nat.le_of_ble_eq_true rfl) dX5_millOf_5 ⟨Nat.zero_le _, Nat.zero_le _⟩ ?_
  refine lv_if_ne (tgt := 13) hx hb dX5_millOf_8 (by decide) (fun c_1 => ?_) (fun c_1 => ?_)
  · rw [if_neg c_1] at hR
    refine lv_iload_n hx hb dX5_millOf_13 rfl (lv_at hl 2 rfl) ?_
    by_cases c_2 : a2 = 0
    · rw [if_pos c_2] at hR
      refine lv_tableIn (off := 38) (tgt := 52) hx hb dX5_millOf_14 (by rw [c_2]; decide) (by rw [c_2]; decide) (by rw [c_2]; rfl) (by decide) ?_
      refine lv_aload_n hx hb dX5_millOf_52 rfl (lv_at hl 0 rfl) ?_
      refine va_get (D := D) (ci := 3) (v := .ref ((ad 0) 0)) (C := RX5) (T := TX5) (N := 6) hx hb hts iX5_millOf_X5 hown hG.1 hP 0 rfl rfl 0 (by decide) (hts (.fieldLink RX5 12 "MillComplaints" "now" "LMillComplaints$Village;") (List.mem_of_getElem? (i := 1) rfl)) (fun _ h9 => h9) rfl dX5_millOf_53 ?_
      refine va_getN (D := D) (ci := 2) (v := .ref ((ad 0) 4)) (C := RX4) (T := TX4) (N := 11) hx hb hts iX5_millOf_X4 hown hG.1 hP 1 rfl rfl 4 (by decide) (nwf_5 hG) (fun _ h9 => h9) rfl dX5_millOf_56 ?_
      refine lv_iload_n hx hb dX5_millOf_59 rfl (lv_at hl 1 rfl) ?_
      refine ro_S (v := .int (mX5_at 4 (v 3) a1)) (rest := []) (As := [.ref ((ad 0) 4), .int a1]) hx hb hml hown hts hl (MX5_at l D q ((ad 0) 4) 4 (v 3) a1 (by decide)) gX5_millOf_X5_at rfl kX5_at ⟨Nat.le_of_ble_eq_true rfl, Nat.le_of_ble_eq_true rfl⟩ rfl rfl (hP.sub (ws' := (wR q ((ad 0) 4) 4 (v 3))) [5] rfl) (dT (hD.sub (ws' := (wR q ((ad 0) 4) 4 (v 3))) [5] (by decide) rfl)) hG rfl rfl (Nat.le_of_ble_eq_true rfl) dX5_millOf_60 ⟨Nat.zero_le _, Nat.zero_le _⟩ ?_
      exact ro_iret hx hb hr hk hR dX5_millOf_63
    · rw [if_neg c_2] at hR
      by_cases c_3 : a2 = 1
      · rw [if_pos c_3] at hR
        refine lv_tableIn (off := 50) (tgt := 64) hx hb dX5_millOf_14 (by rw [c_3]; decide) (by rw [c_3]; decide) (by rw [c_3]; rfl) (by decide) ?_
        refine lv_aload_n hx hb dX5_millOf_64 rfl (lv_at hl 0 rfl) ?_
        refine va_get (D := D) (ci := 3) (v := .ref ((ad 0) 0)) (C := RX5) (T := TX5) (N := 6) hx hb hts iX5_millOf_X5 hown hG.1 hP 0 rfl rfl 0 (by decide) (hts (.fieldLink RX5 12 "MillComplaints" "now" "LMillComplaints$Village;") (List.mem_of_getElem? (i := 1) rfl)) (fun _ h9 => h9) rfl dX5_millOf_65 ?_
        refine va_getN (D := D) (ci := 2) (v := .ref ((ad 0) 5)) (C := RX4) (T := TX4) (N := 11) hx hb hts iX5_millOf_X4 hown hG.1 hP 1 rfl rfl 5 (by decide) (nwf_6 hG) (fun _ h9 => h9) rfl dX5_millOf_68 ?_
        refine lv_iload_n hx hb dX5_millOf_71 rfl (lv_at hl 1 rfl) ?_
        refine ro_S (v := .int (mX5_at 4 (v 4) a1)) (rest := []) (As := [.ref ((ad 0) 5), .int a1]) hx hb hml hown hts hl (MX5_at l D q ((ad 0) 5) 4 (v 4) a1 (by decide)) gX5_millOf_X5_at rfl kX5_at ⟨Nat.le_of_ble_eq_true rfl, Nat.le_of_ble_eq_true rfl⟩ rfl rfl (hP.sub (ws' := (wR q ((ad 0) 5) 4 (v 4))) [6] rfl) (dT (hD.sub (ws' := (wR q ((ad 0) 5) 4 (v 4))) [6] (by decide) rfl)) hG rfl rfl (Nat.le_of_ble_eq_true rfl) dX5_millOf_72 ⟨Nat.zero_le _, Nat.zero_le _⟩ ?_
        exact ro_iret hx hb hr hk hR dX5_millOf_75
      · rw [if_neg c_3] at hR
        by_cases c_4 : a2 = 2
        · rw [if_pos c_4] at hR
          refine lv_tableIn (off := 62) (tgt := 76) hx hb dX5_millOf_14 (by rw [c_4]; decide) (by rw [c_4]; decide) (by rw [c_4]; rfl) (by decide) ?_
          refine lv_aload_n hx hb dX5_millOf_76 rfl (lv_at hl 0 rfl) ?_
          refine va_get (D := D) (ci := 3) (v := .ref ((ad 0) 0)) (C := RX5) (T := TX5) (N := 6) hx hb hts iX5_millOf_X5 hown hG.1 hP 0 rfl rfl 0 (by decide) (hts (.fieldLink RX5 12 "MillComplaints" "now" "LMillComplaints$Village;") (List.mem_of_getElem? (i := 1) rfl)) (fun _ h9 => h9) rfl dX5_millOf_77 ?_
          refine lv_iload_n hx hb dX5_millOf_80 rfl (lv_at hl 1 rfl) ?_
          refine ro_V (v := .int (mX4_tiedHours v a1)) (rest := []) (As := [.int a1]) hx hb hml hown hts hl (MX4_tiedHours l D q (ad 0) v a1) gX5_millOf_X4_tiedHours rfl kX4_tiedHours ⟨Nat.le_of_ble_eq_true rfl, Nat.le_of_ble_eq_true rfl⟩ rfl rfl (hP.sub (ws' := (wV q (ad 0) v)) [1, 2, 3, 4, 5, 6, 7, 8, 9, 10] rfl) (dT (hD.sub (ws' := (wV q (ad 0) v)) [1, 2, 3, 4, 5, 6, 7, 8, 9, 10] (by decide) rfl)) hG (ci := 2) rfl rfl rfl rfl (Nat.le_of_ble_eq_true rfl) dX5_millOf_81 ⟨Nat.zero_le _, Nat.zero_le _⟩ ?_
          exact ro_iret hx hb hr hk hR dX5_millOf_84
        · rw [if_neg c_4] at hR
          by_cases c_5 : a2 = 3
          · rw [if_pos c_5] at hR
            refine lv_tableIn (off := 71) (tgt := 85) hx hb dX5_millOf_14 (by rw [c_5]; decide) (by rw [c_5]; decide) (by rw [c_5]; rfl) (by decide) ?_
            refine lv_aload_n hx hb dX5_millOf_85 rfl (lv_at hl 0 rfl) ?_
            refine va_get (D := D) (ci := 3) (v := .ref ((ad 0) 0)) (C := RX5) (T := TX5) (N := 6) hx hb hts iX5_millOf_X5 hown hG.1 hP 0 rfl rfl 0 (by decide) (hts (.fieldLink RX5 12 "MillComplaints" "now" "LMillComplaints$Village;") (List.mem_of_getElem? (i := 1) rfl)) (fun _ h9 => h9) rfl dX5_millOf_86 ?_
            refine lv_iload_n hx hb dX5_millOf_89 rfl (lv_at hl 1 rfl) ?_
            refine ro_V (v := .int (mX4_turningHours v a1)) (rest := []) (As := [.int a1]) hx hb hml hown hts hl (MX4_turningHours l D q (ad 0) v a1) gX5_millOf_X4_turningHours rfl kX4_turningHours ⟨Nat.le_of_ble_eq_true rfl, Nat.le_of_ble_eq_true rfl⟩ rfl rfl (hP.sub (ws' := (wV q (ad 0) v)) [1, 2, 3, 4, 5, 6, 7, 8, 9, 10] rfl) (dT (hD.sub (ws' := (wV q (ad 0) v)) [1, 2, 3, 4, 5, 6, 7, 8, 9, 10] (by decide) rfl)) hG (ci := 2) rfl rfl rfl rfl (Nat.le_of_ble_eq_true rfl) dX5_millOf_90 ⟨Nat.zero_le _, Nat.zero_le _⟩ ?_
            exact ro_iret hx hb hr hk hR dX5_millOf_93
          · rw [if_neg c_5] at hR
            by_cases c_6 : a2 = 4
            · rw [if_pos c_6] at hR
              refine lv_tableIn (off := 80) (tgt := 94) hx hb dX5_millOf_14 (by rw [c_6]; decide) (by rw [c_6]; decide) (by rw [c_6]; rfl) (by decide) ?_
              refine lv_aload_n hx hb dX5_millOf_94 rfl (lv_at hl 0 rfl) ?_
              refine va_get (D := D) (ci := 3) (v := .ref ((ad 0) 0)) (C := RX5) (T := TX5) (N := 6) hx hb hts iX5_millOf_X5 hown hG.1 hP 0 rfl rfl 0 (by decide) (hts (.fieldLink RX5 12 "MillComplaints" "now" "LMillComplaints$Village;") (List.mem_of_getElem? (i := 1) rfl)) (fun _ h9 => h9) rfl dX5_millOf_95 ?_
              refine lv_iload_n hx hb dX5_millOf_98 rfl (lv_at hl 1 rfl) ?_
              refine ro_V (v := .int (mX4_grainOf v a1)) (rest := []) (As := [.int a1]) hx hb hml hown hts hl (MX4_grainOf l D q (ad 0) v a1) gX5_millOf_X4_grainOf rfl kX4_grainOf ⟨Nat.le_of_ble_eq_true rfl, Nat.le_of_ble_eq_true rfl⟩ rfl rfl (hP.sub (ws' := (wV q (ad 0) v)) [1, 2, 3, 4, 5, 6, 7, 8, 9, 10] rfl) (dT (hD.sub (ws' := (wV q (ad 0) v)) [1, 2, 3, 4, 5, 6, 7, 8, 9, 10] (by decide) rfl)) hG (ci := 2) rfl rfl rfl rfl (Nat.le_of_ble_eq_true rfl) dX5_millOf_99 ⟨Nat.zero_le _, Nat.zero_le _⟩ ?_
              exact ro_iret hx hb hr hk hR dX5_millOf_102
            · rw [if_neg c_6] at hR
              by_cases c_7 : a2 = 5
              · rw [if_pos c_7] at hR
                refine lv_tableIn (off := 89) (tgt := 103) hx hb dX5_millOf_14 (by rw [c_7]; decide) (by rw [c_7]; decide) (by rw [c_7]; rfl) (by decide) ?_
                refine lv_aload_n hx hb dX5_millOf_103 rfl (lv_at hl 0 rfl) ?_
                refine va_get (D := D) (ci := 3) (v := .ref ((ad 0) 0)) (C := RX5) (T := TX5) (N := 6) hx hb hts iX5_millOf_X5 hown hG.1 hP 0 rfl rfl 0 (by decide) (hts (.fieldLink RX5 12 "MillComplaints" "now" "LMillComplaints$Village;") (List.mem_of_getElem? (i := 1) rfl)) (fun _ h9 => h9) rfl dX5_millOf_104 ?_
                refine lv_iload_n hx hb dX5_millOf_107 rfl (lv_at hl 1 rfl) ?_
                refine ro_V (v := .int (mX4_pointsOfDay v a1)) (rest := []) (As := [.int a1]) hx hb hml hown hts hl (MX4_pointsOfDay l D q (ad 0) v a1) gX5_millOf_X4_pointsOfDay rfl kX4_pointsOfDay ⟨Nat.le_of_ble_eq_true rfl, Nat.le_of_ble_eq_true rfl⟩ rfl rfl (hP.sub (ws' := (wV q (ad 0) v)) [1, 2, 3, 4, 5, 6, 7, 8, 9, 10] rfl) (dT (hD.sub (ws' := (wV q (ad 0) v)) [1, 2, 3, 4, 5, 6, 7, 8, 9, 10] (by decide) rfl)) hG (ci := 2) rfl rfl rfl rfl (Nat.le_of_ble_eq_true rfl) dX5_millOf_108 ⟨Nat.zero_le _, Nat.zero_le _⟩ ?_
                exact ro_iret hx hb hr hk hR dX5_millOf_111
              · rw [if_neg c_7] at hR
                refine lv_tableOut (tgt := 112) hx hb dX5_millOf_14 (by have z0 := lv_neT c_2 (a := 0) rfl; have z1 := lv_neT c_3 (a := 1) rfl; have z2 := lv_neT c_4 (a := 2) rfl; have z3 := lv_neT c_5 (a := 3) rfl; have z4 := lv_neT c_6 (a := 4) rfl; have z5 := lv_neT c_7 (a := 5) rfl; omega) (by decide) ?_
                refine lv_bipush (v := (-2)) hx hb dX5_millOf_112 (by decide) ?_
                exact ro_iret hx hb hr hk hR dX5_millOf_114
  · rw [if_pos c_1] at hR
    refine lv_iconst (v := (-1)) hx hb dX5_millOf_11 (by decide) ?_
    exact ro_iret hx hb hr hk hR dX5_millOf_12

def mX5_houseOf (v : Nat → Nat → Int32) (a1 a2 : Int32) : Int32 := (if (mX4_hasHouse v a1) = 0 then (-1) else (if a2 = 0 then (mX5_at 10 (v 6) a1) else (if a2 = 1 then (mX5_at 10 (v 7) a1) else (if a2 = 2 then (if (mX4_isBarred v a1) = 0 then 0 else 1) else (if a2 = 3 then (mX4_standingOf v a1) else (if a2 = 4 then (mX4_troubledHours v a1 0) else (if a2 = 5 then (mX4_troubledHours v a1 1) else (-2))))))))
theorem kX5_houseOf : yX5_houseOf.cls = RX5 ∧ yX5_houseOf.cls ≠ "java/lang/invoke/MethodHandle" ∧ yX5_houseOf.cls ≠ "java/lang/invoke/VarHandle" ∧ (parseMethodDescriptor yX5_houseOf.desc).map (fun d => d.parameters.length) = some 2 := by decide +kernel
theorem iX5_houseOf_X5 : ∀ w ∈ wsX50, w ∈ wsX5_houseOf := fun w h => (List.mem_cons_of_mem _ (List.mem_append_left _ (List.mem_append_right _ h)))
theorem iX5_houseOf_X4 : ∀ w ∈ wsX40, w ∈ wsX5_houseOf := fun w h => (List.mem_cons_of_mem _ (List.mem_append_right _ h))
set_option maxHeartbeats 4000000 in
set_option maxRecDepth 100000 in
theorem MX5_houseOf (l : Launch) (D : va_G) (q : Nat → ClassId) (ad : Nat → Nat → Nat) (sn : Int32) (v : Nat → Nat → Int32) (a1 a2 : Int32)  : roM l D (tyq q) yX5_houseOf wsX5_houseOf ({ frames := 5, cells := 0, slots := 0, locals := 121 } : Room) [.ref (ad 9 0), .int a1, .int a2] (wXN q ad sn v) (some (.int (mX5_houseOf v a1 a2))) := by
  obtain ⟨R, hR⟩ : ∃ z, (mX5_houseOf v a1 a2) = z := ⟨_, rfl⟩
  rw [hR]
  unfold mX5_houseOf at hR
  refine roM.of (cc := cX5_houseOf) (maxL := 3) (ret := (some .int)) (by decide) rfl (Nat.le_of_ble_eq_true rfl) ?_
  intro p e s m below meth c ls hx hb hr hk hml hown hts hP hD hG hl
  have hl : lv_has ls 3 [(0, .ref (ad 9 0)), (1, .int a1), (2, .int a2)] := hl
  refine lv_aload_n hx hb dX5_houseOf_0 rfl (lv_at hl 0 rfl) ?_
  refine va_get (D := D) (ci := 3) (v := .ref ((ad 0) 0)) (C := RX5) (T := TX5) (N := 6) hx hb hts iX5_houseOf_X5 hown hG.1 hP 0 rfl rfl 0 (by decide) (hts (.fieldLink RX5 12 "MillComplaints" "now" "LMillComplaints$Village;") (List.mem_of_getElem? (i := 1) rfl)) (fun _ h9 => h9) rfl dX5_houseOf_1 ?_
  refine lv_iload_n hx hb dX5_houseOf_4 rfl (lv_at hl 1 rfl) ?_
  refine ro_V (v := .int (mX4_hasHouse v a1)) (rest := []) (As := [.int a1]) hx hb hml hown hts hl (MX4_hasHouse l D q (ad 0) v a1) gX5_houseOf_X4_hasHouse rfl kX4_hasHouse ⟨Nat.le_of_ble_eq_true rfl, Nat.le_of_ble_eq_true rfl⟩ rfl rfl (hP.sub (ws' := (wV q (ad 0) v)) [1, 2, 3, 4, 5, 6, 7, 8, 9, 10] rfl) (dT (hD.sub (ws' := (wV q (ad 0) v)) [1, 2, 3, 4, 5, 6, 7, 8, 9, 10] (by decide) rfl)) hG (ci := 2) rfl rfl rfl rfl (Nat.le_of_ble_eq_true rfl) dX5_houseOf_5 ⟨Nat.zero_le _, Nat.zero_le _⟩ ?_
  refine lv_if_ne (tgt := 13) hx hb dX5_houseOf_8 (by decide) (fun c_1 => ?_) (fun c_1 => ?_)
  · rw [if_neg c_1] at hR
    refine lv_iload_n hx hb dX5_houseOf_13 rfl (lv_at hl 2 rfl) ?_
    by_cases c_2 : a2 = 0
    · rw [if_pos c_2] at hR
      refine lv_tableIn (off := 38) (tgt := 52) hx hb dX5_houseOf_14 (by rw [c_2]; decide) (by rw [c_2]; decide) (by rw [c_2]; rfl) (by decide) ?_
      refine lv_aload_n hx hb dX5_houseOf_52 rfl (lv_at hl 0 rfl) ?_
      refine va_get (D := D) (ci := 3) (v := .ref ((ad 0) 0)) (C := RX5) (T := TX5) (N := 6) hx hb hts iX5_houseOf_X5 hown hG.1 hP 0 rfl rfl 0 (by decide) (hts (.fieldLink RX5 12 "MillComplaints" "now" "LMillComplaints$Village;") (List.mem_of_getElem? (i := 1) rfl)) (fun _ h9 => h9) rfl dX5_houseOf_53 ?_
      refine va_getN (D := D) (ci := 2) (v := .ref ((ad 0) 7)) (C := RX4) (T := TX4) (N := 11) hx hb hts iX5_houseOf_X4 hown hG.1 hP 1 rfl rfl 8 (by decide) (nwf_8 hG) (fun _ h9 => h9) rfl dX5_houseOf_56 ?_
      refine lv_iload_n hx hb dX5_houseOf_59 rfl (lv_at hl 1 rfl) ?_
      refine ro_S (v := .int (mX5_at 10 (v 6) a1)) (rest := []) (As := [.ref ((ad 0) 7), .int a1]) hx hb hml hown hts hl (MX5_at l D q ((ad 0) 7) 10 (v 6) a1 (by decide)) gX5_houseOf_X5_at rfl kX5_at ⟨Nat.le_of_ble_eq_true rfl, Nat.le_of_ble_eq_true rfl⟩ rfl rfl (hP.sub (ws' := (wR q ((ad 0) 7) 10 (v 6))) [8] rfl) (dT (hD.sub (ws' := (wR q ((ad 0) 7) 10 (v 6))) [8] (by decide) rfl)) hG rfl rfl (Nat.le_of_ble_eq_true rfl) dX5_houseOf_60 ⟨Nat.zero_le _, Nat.zero_le _⟩ ?_
      exact ro_iret hx hb hr hk hR dX5_houseOf_63
    · rw [if_neg c_2] at hR
      by_cases c_3 : a2 = 1
      · rw [if_pos c_3] at hR
        refine lv_tableIn (off := 50) (tgt := 64) hx hb dX5_houseOf_14 (by rw [c_3]; decide) (by rw [c_3]; decide) (by rw [c_3]; rfl) (by decide) ?_
        refine lv_aload_n hx hb dX5_houseOf_64 rfl (lv_at hl 0 rfl) ?_
        refine va_get (D := D) (ci := 3) (v := .ref ((ad 0) 0)) (C := RX5) (T := TX5) (N := 6) hx hb hts iX5_houseOf_X5 hown hG.1 hP 0 rfl rfl 0 (by decide) (hts (.fieldLink RX5 12 "MillComplaints" "now" "LMillComplaints$Village;") (List.mem_of_getElem? (i := 1) rfl)) (fun _ h9 => h9) rfl dX5_houseOf_65 ?_
        refine va_getN (D := D) (ci := 2) (v := .ref ((ad 0) 8)) (C := RX4) (T := TX4) (N := 11) hx hb hts iX5_houseOf_X4 hown hG.1 hP 1 rfl rfl 9 (by decide) (nwf_9 hG) (fun _ h9 => h9) rfl dX5_houseOf_68 ?_
        refine lv_iload_n hx hb dX5_houseOf_71 rfl (lv_at hl 1 rfl) ?_
        refine ro_S (v := .int (mX5_at 10 (v 7) a1)) (rest := []) (As := [.ref ((ad 0) 8), .int a1]) hx hb hml hown hts hl (MX5_at l D q ((ad 0) 8) 10 (v 7) a1 (by decide)) gX5_houseOf_X5_at rfl kX5_at ⟨Nat.le_of_ble_eq_true rfl, Nat.le_of_ble_eq_true rfl⟩ rfl rfl (hP.sub (ws' := (wR q ((ad 0) 8) 10 (v 7))) [9] rfl) (dT (hD.sub (ws' := (wR q ((ad 0) 8) 10 (v 7))) [9] (by decide) rfl)) hG rfl rfl (Nat.le_of_ble_eq_true rfl) dX5_houseOf_72 ⟨Nat.zero_le _, Nat.zero_le _⟩ ?_
        exact ro_iret hx hb hr hk hR dX5_houseOf_75
      · rw [if_neg c_3] at hR
        by_cases c_4 : a2 = 2
        · rw [if_pos c_4] at hR
          refine lv_tableIn (off := 62) (tgt := 76) hx hb dX5_houseOf_14 (by rw [c_4]; decide) (by rw [c_4]; decide) (by rw [c_4]; rfl) (by decide) ?_
          refine lv_aload_n hx hb dX5_houseOf_76 rfl (lv_at hl 0 rfl) ?_
          refine va_get (D := D) (ci := 3) (v := .ref ((ad 0) 0)) (C := RX5) (T := TX5) (N := 6) hx hb hts iX5_houseOf_X5 hown hG.1 hP 0 rfl rfl 0 (by decide) (hts (.fieldLink RX5 12 "MillComplaints" "now" "LMillComplaints$Village;") (List.mem_of_getElem? (i := 1) rfl)) (fun _ h9 => h9) rfl dX5_houseOf_77 ?_
          refine lv_iload_n hx hb dX5_houseOf_80 rfl (lv_at hl 1 rfl) ?_
          refine ro_V (v := .int (mX4_isBarred v a1)) (rest := []) (As := [.int a1]) hx hb hml hown hts hl (MX4_isBarred l D q (ad 0) v a1) gX5_houseOf_X4_isBarred rfl kX4_isBarred ⟨Nat.le_of_ble_eq_true rfl, Nat.le_of_ble_eq_true rfl⟩ rfl rfl (hP.sub (ws' := (wV q (ad 0) v)) [1, 2, 3, 4, 5, 6, 7, 8, 9, 10] rfl) (dT (hD.sub (ws' := (wV q (ad 0) v)) [1, 2, 3, 4, 5, 6, 7, 8, 9, 10] (by decide) rfl)) hG (ci := 2) rfl rfl rfl rfl (Nat.le_of_ble_eq_true rfl) dX5_houseOf_81 ⟨Nat.zero_le _, Nat.zero_le _⟩ ?_
          refine lv_if_eq (tgt := 91) hx hb dX5_houseOf_84 (by decide) (fun c_5 => ?_) (fun c_5 => ?_)
          · rw [if_pos c_5] at hR
            refine lv_iconst (v := 0) hx hb dX5_houseOf_91 (by decide) ?_
            exact ro_iret hx hb hr hk hR dX5_houseOf_92
          · rw [if_neg c_5] at hR
            refine lv_iconst (v := 1) hx hb dX5_houseOf_87 (by decide) ?_
            refine lv_goto (tgt := 92) hx hb dX5_houseOf_88 (by decide) ?_
            exact ro_iret hx hb hr hk hR dX5_houseOf_92
        · rw [if_neg c_4] at hR
          by_cases c_6 : a2 = 3
          · rw [if_pos c_6] at hR
            refine lv_tableIn (off := 79) (tgt := 93) hx hb dX5_houseOf_14 (by rw [c_6]; decide) (by rw [c_6]; decide) (by rw [c_6]; rfl) (by decide) ?_
            refine lv_aload_n hx hb dX5_houseOf_93 rfl (lv_at hl 0 rfl) ?_
            refine va_get (D := D) (ci := 3) (v := .ref ((ad 0) 0)) (C := RX5) (T := TX5) (N := 6) hx hb hts iX5_houseOf_X5 hown hG.1 hP 0 rfl rfl 0 (by decide) (hts (.fieldLink RX5 12 "MillComplaints" "now" "LMillComplaints$Village;") (List.mem_of_getElem? (i := 1) rfl)) (fun _ h9 => h9) rfl dX5_houseOf_94 ?_
            refine lv_iload_n hx hb dX5_houseOf_97 rfl (lv_at hl 1 rfl) ?_
            refine ro_V (v := .int (mX4_standingOf v a1)) (rest := []) (As := [.int a1]) hx hb hml hown hts hl (MX4_standingOf l D q (ad 0) v a1) gX5_houseOf_X4_standingOf rfl kX4_standingOf ⟨Nat.le_of_ble_eq_true rfl, Nat.le_of_ble_eq_true rfl⟩ rfl rfl (hP.sub (ws' := (wV q (ad 0) v)) [1, 2, 3, 4, 5, 6, 7, 8, 9, 10] rfl) (dT (hD.sub (ws' := (wV q (ad 0) v)) [1, 2, 3, 4, 5, 6, 7, 8, 9, 10] (by decide) rfl)) hG (ci := 2) rfl rfl rfl rfl (Nat.le_of_ble_eq_true rfl) dX5_houseOf_98 ⟨Nat.zero_le _, Nat.zero_le _⟩ ?_
            exact ro_iret hx hb hr hk hR dX5_houseOf_101
          · rw [if_neg c_6] at hR
            by_cases c_7 : a2 = 4
            · rw [if_pos c_7] at hR
              refine lv_tableIn (off := 88) (tgt := 102) hx hb dX5_houseOf_14 (by rw [c_7]; decide) (by rw [c_7]; decide) (by rw [c_7]; rfl) (by decide) ?_
              refine lv_aload_n hx hb dX5_houseOf_102 rfl (lv_at hl 0 rfl) ?_
              refine va_get (D := D) (ci := 3) (v := .ref ((ad 0) 0)) (C := RX5) (T := TX5) (N := 6) hx hb hts iX5_houseOf_X5 hown hG.1 hP 0 rfl rfl 0 (by decide) (hts (.fieldLink RX5 12 "MillComplaints" "now" "LMillComplaints$Village;") (List.mem_of_getElem? (i := 1) rfl)) (fun _ h9 => h9) rfl dX5_houseOf_103 ?_
              refine lv_iload_n hx hb dX5_houseOf_106 rfl (lv_at hl 1 rfl) ?_
              refine lv_iconst (v := 0) hx hb dX5_houseOf_107 (by decide) ?_
              refine ro_V (v := .int (mX4_troubledHours v a1 0)) (rest := []) (As := [.int a1, .int 0]) hx hb hml hown hts hl (MX4_troubledHours l D q (ad 0) v a1 0) gX5_houseOf_X4_troubledHours rfl kX4_troubledHours ⟨Nat.le_of_ble_eq_true rfl, Nat.le_of_ble_eq_true rfl⟩ rfl rfl (hP.sub (ws' := (wV q (ad 0) v)) [1, 2, 3, 4, 5, 6, 7, 8, 9, 10] rfl) (dT (hD.sub (ws' := (wV q (ad 0) v)) [1, 2, 3, 4, 5, 6, 7, 8, 9, 10] (by decide) rfl)) hG (ci := 2) rfl rfl rfl rfl (Nat.le_of_ble_eq_true rfl) dX5_houseOf_108 ⟨Nat.zero_le _, Nat.zero_le _⟩ ?_
              exact ro_iret hx hb hr hk hR dX5_houseOf_111
            · rw [if_neg c_7] at hR
              by_cases c_8 : a2 = 5
              · rw [if_pos c_8] at hR
                refine lv_tableIn (off := 98) (tgt := 112) hx hb dX5_houseOf_14 (by rw [c_8]; decide) (by rw [c_8]; decide) (by rw [c_8]; rfl) (by decide) ?_
                refine lv_aload_n hx hb dX5_houseOf_112 rfl (lv_at hl 0 rfl) ?_
                refine va_get (D := D) (ci := 3) (v := .ref ((ad 0) 0)) (C := RX5) (T := TX5) (N := 6) hx hb hts iX5_houseOf_X5 hown hG.1 hP 0 rfl rfl 0 (by decide) (hts (.fieldLink RX5 12 "MillComplaints" "now" "LMillComplaints$Village;") (List.mem_of_getElem? (i := 1) rfl)) (fun _ h9 => h9) rfl dX5_houseOf_113 ?_
                refine lv_iload_n hx hb dX5_houseOf_116 rfl (lv_at hl 1 rfl) ?_
                refine lv_iconst (v := 1) hx hb dX5_houseOf_117 (by decide) ?_
                refine ro_V (v := .int (mX4_troubledHours v a1 1)) (rest := []) (As := [.int a1, .int 1]) hx hb hml hown hts hl (MX4_troubledHours l D q (ad 0) v a1 1) gX5_houseOf_X4_troubledHours rfl kX4_troubledHours ⟨Nat.le_of_ble_eq_true rfl, Nat.le_of_ble_eq_true rfl⟩ rfl rfl (hP.sub (ws' := (wV q (ad 0) v)) [1, 2, 3, 4, 5, 6, 7, 8, 9, 10] rfl) (dT (hD.sub (ws' := (wV q (ad 0) v)) [1, 2, 3, 4, 5, 6, 7, 8, 9, 10] (by decide) rfl)) hG (ci := 2) rfl rfl rfl rfl (Nat.le_of_ble_eq_true rfl) dX5_houseOf_118 ⟨Nat.zero_le _, Nat.zero_le _⟩ ?_
                exact ro_iret hx hb hr hk hR dX5_houseOf_121
              · rw [if_neg c_8] at hR
                refine lv_tableOut (tgt := 122) hx hb dX5_houseOf_14 (by have z0 := lv_neT c_2 (a := 0) rfl; have z1 := lv_neT c_3 (a := 1) rfl; have z2 := lv_neT c_4 (a := 2) rfl; have z3 := lv_neT c_6 (a := 3) rfl; have z4 := lv_neT c_7 (a := 4) rfl; have z5 := lv_neT c_8 (a := 5) rfl; omega) (by decide) ?_
                refine lv_bipush (v := (-2)) hx hb dX5_houseOf_122 (by decide) ?_
                exact ro_iret hx hb hr hk hR dX5_houseOf_124
  · rw [if_pos c_1] at hR
    refine lv_iconst (v := (-1)) hx hb dX5_houseOf_11 (by decide) ?_
    exact ro_iret hx hb hr hk hR dX5_houseOf_12

def mX5_yardOf (v : Nat → Nat → Int32) (a1 a2 : Int32) : Int32 := (if (mX5_isYard a1) = 0 then (-1) else (if a2 = 0 then (mX4_millAt v a1) else (if a2 = 1 then (mX4_houseAt v a1) else (-2))))
theorem kX5_yardOf : yX5_yardOf.cls = RX5 ∧ yX5_yardOf.cls ≠ "java/lang/invoke/MethodHandle" ∧ yX5_yardOf.cls ≠ "java/lang/invoke/VarHandle" ∧ (parseMethodDescriptor yX5_yardOf.desc).map (fun d => d.parameters.length) = some 2 := by decide +kernel
theorem iX5_yardOf_X5 : ∀ w ∈ wsX50, w ∈ wsX5_yardOf := fun w h => (List.mem_cons_of_mem _ (List.mem_append_left _ (List.mem_append_right _ h)))
set_option maxHeartbeats 4000000 in
set_option maxRecDepth 100000 in
theorem MX5_yardOf (l : Launch) (D : va_G) (q : Nat → ClassId) (ad : Nat → Nat → Nat) (sn : Int32) (v : Nat → Nat → Int32) (a1 a2 : Int32)  : roM l D (tyq q) yX5_yardOf wsX5_yardOf ({ frames := 3, cells := 0, slots := 0, locals := 65 } : Room) [.ref (ad 9 0), .int a1, .int a2] (wXN q ad sn v) (some (.int (mX5_yardOf v a1 a2))) := by
  obtain ⟨R, hR⟩ : ∃ z, (mX5_yardOf v a1 a2) = z := ⟨_, rfl⟩
  rw [hR]
  unfold mX5_yardOf at hR
  refine roM.of (cc := cX5_yardOf) (maxL := 3) (ret := (some .int)) (by decide) rfl (Nat.le_of_ble_eq_true rfl) ?_
  intro p e s m below meth c ls hx hb hr hk hml hown hts hP hD hG hl
  have hl : lv_has ls 3 [(0, .ref (ad 9 0)), (1, .int a1), (2, .int a2)] := hl
  refine lv_iload_n hx hb dX5_yardOf_0 rfl (lv_at hl 1 rfl) ?_
  refine ro_S (v := .int (mX5_isYard a1)) (rest := []) (As := [.int a1]) hx hb hml hown hts hl (MX5_isYard l D q a1) gX5_yardOf_X5_isYard rfl kX5_isYard ⟨Nat.le_of_ble_eq_true rfl, Nat.le_of_ble_eq_true rfl⟩ rfl rfl (hP.sub (ws' := []) [] rfl) (dT (hD.sub (ws' := []) [] (by decide) rfl)) hG rfl rfl (Nat.le_of_ble_eq_true rfl) dX5_yardOf_1 ⟨Nat.zero_le _, Nat.zero_le _⟩ ?_
  refine lv_if_ne (tgt := 9) hx hb dX5_yardOf_4 (by decide) (fun c_1 => ?_) (fun c_1 => ?_)
  · rw [if_neg c_1] at hR
    refine lv_iload_n hx hb dX5_yardOf_9 rfl (lv_at hl 2 rfl) ?_
    by_cases c_2 : a2 = 0
    · rw [if_pos c_2] at hR
      refine lv_lookup (off := 26) (tgt := 36) hx hb dX5_yardOf_10 (by decide) (by rw [c_2]; decide) (by decide) ?_
      refine lv_aload_n hx hb dX5_yardOf_36 rfl (lv_at hl 0 rfl) ?_
      refine va_get (D := D) (ci := 3) (v := .ref ((ad 0) 0)) (C := RX5) (T := TX5) (N := 6) hx hb hts iX5_yardOf_X5 hown hG.1 hP 0 rfl rfl 0 (by decide) (hts (.fieldLink RX5 12 "MillComplaints" "now" "LMillComplaints$Village;") (List.mem_of_getElem? (i := 1) rfl)) (fun _ h9 => h9) rfl dX5_yardOf_37 ?_
      refine lv_iload_n hx hb dX5_yardOf_40 rfl (lv_at hl 1 rfl) ?_
      refine ro_V (v := .int (mX4_millAt v a1)) (rest := []) (As := [.int a1]) hx hb hml hown hts hl (MX4_millAt l D q (ad 0) v a1) gX5_yardOf_X4_millAt rfl kX4_millAt ⟨Nat.le_of_ble_eq_true rfl, Nat.le_of_ble_eq_true rfl⟩ rfl rfl (hP.sub (ws' := (wV q (ad 0) v)) [1, 2, 3, 4, 5, 6, 7, 8, 9, 10] rfl) (dT (hD.sub (ws' := (wV q (ad 0) v)) [1, 2, 3, 4, 5, 6, 7, 8, 9, 10] (by decide) rfl)) hG (ci := 2) rfl rfl rfl rfl (Nat.le_of_ble_eq_true rfl) dX5_yardOf_41 ⟨Nat.zero_le _, Nat.zero_le _⟩ ?_
      exact ro_iret hx hb hr hk hR dX5_yardOf_44
    · rw [if_neg c_2] at hR
      by_cases c_3 : a2 = 1
      · rw [if_pos c_3] at hR
        refine lv_lookup (off := 35) (tgt := 45) hx hb dX5_yardOf_10 (by decide) (by rw [c_3]; decide) (by decide) ?_
        refine lv_aload_n hx hb dX5_yardOf_45 rfl (lv_at hl 0 rfl) ?_
        refine va_get (D := D) (ci := 3) (v := .ref ((ad 0) 0)) (C := RX5) (T := TX5) (N := 6) hx hb hts iX5_yardOf_X5 hown hG.1 hP 0 rfl rfl 0 (by decide) (hts (.fieldLink RX5 12 "MillComplaints" "now" "LMillComplaints$Village;") (List.mem_of_getElem? (i := 1) rfl)) (fun _ h9 => h9) rfl dX5_yardOf_46 ?_
        refine lv_iload_n hx hb dX5_yardOf_49 rfl (lv_at hl 1 rfl) ?_
        refine ro_V (v := .int (mX4_houseAt v a1)) (rest := []) (As := [.int a1]) hx hb hml hown hts hl (MX4_houseAt l D q (ad 0) v a1) gX5_yardOf_X4_houseAt rfl kX4_houseAt ⟨Nat.le_of_ble_eq_true rfl, Nat.le_of_ble_eq_true rfl⟩ rfl rfl (hP.sub (ws' := (wV q (ad 0) v)) [1, 2, 3, 4, 5, 6, 7, 8, 9, 10] rfl) (dT (hD.sub (ws' := (wV q (ad 0) v)) [1, 2, 3, 4, 5, 6, 7, 8, 9, 10] (by decide) rfl)) hG (ci := 2) rfl rfl rfl rfl (Nat.le_of_ble_eq_true rfl) dX5_yardOf_50 ⟨Nat.zero_le _, Nat.zero_le _⟩ ?_
        exact ro_iret hx hb hr hk hR dX5_yardOf_53
      · rw [if_neg c_3] at hR
        refine lv_lookup (off := 44) (tgt := 54) hx hb dX5_yardOf_10 (by decide) (by show Op.lookupswitch.offset [(0, 26), (1, 35)] 44 _ = _; rw [lv_osw (a := 0) c_2 rfl]; rw [lv_osw (a := 1) c_3 rfl]; rfl) (by decide) ?_
        refine lv_bipush (v := (-2)) hx hb dX5_yardOf_54 (by decide) ?_
        exact ro_iret hx hb hr hk hR dX5_yardOf_56
  · rw [if_pos c_1] at hR
    refine lv_iconst (v := (-1)) hx hb dX5_yardOf_7 (by decide) ?_
    exact ro_iret hx hb hr hk hR dX5_yardOf_8

def mX5_noise (v : Nat → Nat → Int32) (a1 a2 a3 : Int32) : Int32 := (if (mX4_hasMill v a1) = 0 then (-1) else (if (mX5_isYard a2) = 0 then (-1) else (if (mX5_isHour a3) = 0 then (-1) else (mX4_noiseIn v a1 a2 a3))))
theorem kX5_noise : yX5_noise.cls = RX5 ∧ yX5_noise.cls ≠ "java/lang/invoke/MethodHandle" ∧ yX5_noise.cls ≠ "java/lang/invoke/VarHandle" ∧ (parseMethodDescriptor yX5_noise.desc).map (fun d => d.parameters.length) = some 3 := by decide +kernel
theorem iX5_noise_X5 : ∀ w ∈ wsX50, w ∈ wsX5_noise := fun w h => (List.mem_cons_of_mem _ (List.mem_append_left _ (List.mem_append_right _ h)))
set_option maxHeartbeats 4000000 in
set_option maxRecDepth 100000 in
theorem MX5_noise (l : Launch) (D : va_G) (q : Nat → ClassId) (ad : Nat → Nat → Nat) (sn : Int32) (v : Nat → Nat → Int32) (a1 a2 a3 : Int32)  : roM l D (tyq q) yX5_noise wsX5_noise ({ frames := 4, cells := 0, slots := 0, locals := 91 } : Room) [.ref (ad 9 0), .int a1, .int a2, .int a3] (wXN q ad sn v) (some (.int (mX5_noise v a1 a2 a3))) := by
  obtain ⟨R, hR⟩ : ∃ z, (mX5_noise v a1 a2 a3) = z := ⟨_, rfl⟩
  rw [hR]
  unfold mX5_noise at hR
  refine roM.of (cc := cX5_noise) (maxL := 4) (ret := (some .int)) (by decide) rfl (Nat.le_of_ble_eq_true rfl) ?_
  intro p e s m below meth c ls hx hb hr hk hml hown hts hP hD hG hl
  have hl : lv_has ls 4 [(0, .ref (ad 9 0)), (1, .int a1), (2, .int a2), (3, .int a3)] := hl
  refine lv_aload_n hx hb dX5_noise_0 rfl (lv_at hl 0 rfl) ?_
  refine va_get (D := D) (ci := 3) (v := .ref ((ad 0) 0)) (C := RX5) (T := TX5) (N := 6) hx hb hts iX5_noise_X5 hown hG.1 hP 0 rfl rfl 0 (by decide) (hts (.fieldLink RX5 12 "MillComplaints" "now" "LMillComplaints$Village;") (List.mem_of_getElem? (i := 1) rfl)) (fun _ h9 => h9) rfl dX5_noise_1 ?_
  refine lv_iload_n hx hb dX5_noise_4 rfl (lv_at hl 1 rfl) ?_
  refine ro_V (v := .int (mX4_hasMill v a1)) (rest := []) (As := [.int a1]) hx hb hml hown hts hl (MX4_hasMill l D q (ad 0) v a1) gX5_noise_X4_hasMill rfl kX4_hasMill ⟨Nat.le_of_ble_eq_true rfl, Nat.le_of_ble_eq_true rfl⟩ rfl rfl (hP.sub (ws' := (wV q (ad 0) v)) [1, 2, 3, 4, 5, 6, 7, 8, 9, 10] rfl) (dT (hD.sub (ws' := (wV q (ad 0) v)) [1, 2, 3, 4, 5, 6, 7, 8, 9, 10] (by decide) rfl)) hG (ci := 2) rfl rfl rfl rfl (Nat.le_of_ble_eq_true rfl) dX5_noise_5 ⟨Nat.zero_le _, Nat.zero_le _⟩ ?_
  refine lv_if_eq (tgt := 25) hx hb dX5_noise_8 (by decide) (fun c_1 => ?_) (fun c_1 => ?_)
  · rw [if_pos c_1] at hR
    refine lv_iconst (v := (-1)) hx hb dX5_noise_25 (by decide) ?_
    exact ro_iret hx hb hr hk hR dX5_noise_26
  · rw [if_neg c_1] at hR
    refine lv_iload_n hx hb dX5_noise_11 rfl (lv_at hl 2 rfl) ?_
    refine ro_S (v := .int (mX5_isYard a2)) (rest := []) (As := [.int a2]) hx hb hml hown hts hl (MX5_isYard l D q a2) gX5_noise_X5_isYard rfl kX5_isYard ⟨Nat.le_of_ble_eq_true rfl, Nat.le_of_ble_eq_true rfl⟩ rfl rfl (hP.sub (ws' := []) [] rfl) (dT (hD.sub (ws' := []) [] (by decide) rfl)) hG rfl rfl (Nat.le_of_ble_eq_true rfl) dX5_noise_12 ⟨Nat.zero_le _, Nat.zero_le _⟩ ?_
    refine lv_if_eq (tgt := 25) hx hb dX5_noise_15 (by decide) (fun c_2 => ?_) (fun c_2 => ?_)
    · rw [if_pos c_2] at hR
      refine lv_iconst (v := (-1)) hx hb dX5_noise_25 (by decide) ?_
      exact ro_iret hx hb hr hk hR dX5_noise_26
    · rw [if_neg c_2] at hR
      refine lv_iload_n hx hb dX5_noise_18 rfl (lv_at hl 3 rfl) ?_
      refine ro_S (v := .int (mX5_isHour a3)) (rest := []) (As := [.int a3]) hx hb hml hown hts hl (MX5_isHour l D q a3) gX5_noise_X5_isHour rfl kX5_isHour ⟨Nat.le_of_ble_eq_true rfl, Nat.le_of_ble_eq_true rfl⟩ rfl rfl (hP.sub (ws' := []) [] rfl) (dT (hD.sub (ws' := []) [] (by decide) rfl)) hG rfl rfl (Nat.le_of_ble_eq_true rfl) dX5_noise_19 ⟨Nat.zero_le _, Nat.zero_le _⟩ ?_
      refine lv_if_ne (tgt := 27) hx hb dX5_noise_22 (by decide) (fun c_3 => ?_) (fun c_3 => ?_)
      · rw [if_neg c_3] at hR
        have fc_3 := f_isHour c_3
        refine lv_aload_n hx hb dX5_noise_27 rfl (lv_at hl 0 rfl) ?_
        refine va_get (D := D) (ci := 3) (v := .ref ((ad 0) 0)) (C := RX5) (T := TX5) (N := 6) hx hb hts iX5_noise_X5 hown hG.1 hP 0 rfl rfl 0 (by decide) (hts (.fieldLink RX5 12 "MillComplaints" "now" "LMillComplaints$Village;") (List.mem_of_getElem? (i := 1) rfl)) (fun _ h9 => h9) rfl dX5_noise_28 ?_
        refine lv_iload_n hx hb dX5_noise_31 rfl (lv_at hl 1 rfl) ?_
        refine lv_iload_n hx hb dX5_noise_32 rfl (lv_at hl 2 rfl) ?_
        refine lv_iload_n hx hb dX5_noise_33 rfl (lv_at hl 3 rfl) ?_
        refine ro_V (v := .int (mX4_noiseIn v a1 a2 a3)) (rest := []) (As := [.int a1, .int a2, .int a3]) hx hb hml hown hts hl (MX4_noiseIn l D q (ad 0) v a1 a2 a3) gX5_noise_X4_noiseIn rfl kX4_noiseIn ⟨Nat.le_of_ble_eq_true rfl, Nat.le_of_ble_eq_true rfl⟩ rfl rfl (hP.sub (ws' := (wV q (ad 0) v)) [1, 2, 3, 4, 5, 6, 7, 8, 9, 10] rfl) (dT (hD.sub (ws' := (wV q (ad 0) v)) [1, 2, 3, 4, 5, 6, 7, 8, 9, 10] (by decide) rfl)) hG (ci := 2) rfl rfl rfl rfl (Nat.le_of_ble_eq_true rfl) dX5_noise_34 ⟨Nat.zero_le _, Nat.zero_le _⟩ ?_
        exact ro_iret hx hb hr hk hR dX5_noise_37
      · rw [if_pos c_3] at hR
        refine lv_iconst (v := (-1)) hx hb dX5_noise_25 (by decide) ?_
        exact ro_iret hx hb hr hk hR dX5_noise_26

def mX5_shadow (v : Nat → Nat → Int32) (a1 a2 a3 a4 : Int32) : Int32 := (if (mX4_hasMill v a1) = 0 then (-1) else (if (mX5_isYard a2) = 0 then (-1) else (if (mX5_isHour a3) = 0 then (-1) else (if a4 = 0 then (if (mX2_isMetOnTheWalk (mX5_at 4 (v 4) a1) (mX5_at 4 (v 3) a1) a2 a3) = 0 then 0 else 1) else (if a4 = 1 then (if (mX2_liesThere (mX5_at 4 (v 4) a1) (mX5_at 4 (v 3) a1) a2 a3) = 0 then 0 else 1) else (-2))))))
theorem kX5_shadow : yX5_shadow.cls = RX5 ∧ yX5_shadow.cls ≠ "java/lang/invoke/MethodHandle" ∧ yX5_shadow.cls ≠ "java/lang/invoke/VarHandle" ∧ (parseMethodDescriptor yX5_shadow.desc).map (fun d => d.parameters.length) = some 4 := by decide +kernel
theorem iX5_shadow_X5 : ∀ w ∈ wsX50, w ∈ wsX5_shadow := fun w h => (List.mem_cons_of_mem _ (List.mem_append_left _ (List.mem_append_right _ h)))
theorem iX5_shadow_X4 : ∀ w ∈ wsX40, w ∈ wsX5_shadow := fun w h => (List.mem_cons_of_mem _ (List.mem_append_right _ h))
set_option maxHeartbeats 4000000 in
set_option maxRecDepth 100000 in
theorem MX5_shadow (l : Launch) (D : va_G) (q : Nat → ClassId) (ad : Nat → Nat → Nat) (sn : Int32) (v : Nat → Nat → Int32) (a1 a2 a3 a4 : Int32)  : roM l D (tyq q) yX5_shadow wsX5_shadow ({ frames := 3, cells := 0, slots := 0, locals := 71 } : Room) [.ref (ad 9 0), .int a1, .int a2, .int a3, .int a4] (wXN q ad sn v) (some (.int (mX5_shadow v a1 a2 a3 a4))) := by
  obtain ⟨R, hR⟩ : ∃ z, (mX5_shadow v a1 a2 a3 a4) = z := ⟨_, rfl⟩
  rw [hR]
  unfold mX5_shadow at hR
  refine roM.of (cc := cX5_shadow) (maxL := 7) (ret := (some .int)) (by decide) rfl (Nat.le_of_ble_eq_true rfl) ?_
  intro p e s m below meth c ls hx hb hr hk hml hown hts hP hD hG hl
  have hl : lv_has ls 7 [(0, .ref (ad 9 0)), (1, .int a1), (2, .int a2), (3, .int a3), (4, .int a4)] := hl
  refine lv_aload_n hx hb dX5_shadow_0 rfl (lv_at hl 0 rfl) ?_
  refine va_get (D := D) (ci := 3) (v := .ref ((ad 0) 0)) (C := RX5) (T := TX5) (N := 6) hx hb hts iX5_shadow_X5 hown hG.1 hP 0 rfl rfl 0 (by decide) (hts (.fieldLink RX5 12 "MillComplaints" "now" "LMillComplaints$Village;") (List.mem_of_getElem? (i := 1) rfl)) (fun _ h9 => h9) rfl dX5_shadow_1 ?_
  refine lv_iload_n hx hb dX5_shadow_4 rfl (lv_at hl 1 rfl) ?_
  refine ro_V (v := .int (mX4_hasMill v a1)) (rest := []) (As := [.int a1]) hx hb hml hown hts hl (MX4_hasMill l D q (ad 0) v a1) gX5_shadow_X4_hasMill rfl kX4_hasMill ⟨Nat.le_of_ble_eq_true rfl, Nat.le_of_ble_eq_true rfl⟩ rfl rfl (hP.sub (ws' := (wV q (ad 0) v)) [1, 2, 3, 4, 5, 6, 7, 8, 9, 10] rfl) (dT (hD.sub (ws' := (wV q (ad 0) v)) [1, 2, 3, 4, 5, 6, 7, 8, 9, 10] (by decide) rfl)) hG (ci := 2) rfl rfl rfl rfl (Nat.le_of_ble_eq_true rfl) dX5_shadow_5 ⟨Nat.zero_le _, Nat.zero_le _⟩ ?_
  refine lv_if_eq (tgt := 25) hx hb dX5_shadow_8 (by decide) (fun c_1 => ?_) (fun c_1 => ?_)
  · rw [if_pos c_1] at hR
    refine lv_iconst (v := (-1)) hx hb dX5_shadow_25 (by decide) ?_
    exact ro_iret hx hb hr hk hR dX5_shadow_26
  · rw [if_neg c_1] at hR
    refine lv_iload_n hx hb dX5_shadow_11 rfl (lv_at hl 2 rfl) ?_
    refine ro_S (v := .int (mX5_isYard a2)) (rest := []) (As := [.int a2]) hx hb hml hown hts hl (MX5_isYard l D q a2) gX5_shadow_X5_isYard rfl kX5_isYard ⟨Nat.le_of_ble_eq_true rfl, Nat.le_of_ble_eq_true rfl⟩ rfl rfl (hP.sub (ws' := []) [] rfl) (dT (hD.sub (ws' := []) [] (by decide) rfl)) hG rfl rfl (Nat.le_of_ble_eq_true rfl) dX5_shadow_12 ⟨Nat.zero_le _, Nat.zero_le _⟩ ?_
    refine lv_if_eq (tgt := 25) hx hb dX5_shadow_15 (by decide) (fun c_2 => ?_) (fun c_2 => ?_)
    · rw [if_pos c_2] at hR
      refine lv_iconst (v := (-1)) hx hb dX5_shadow_25 (by decide) ?_
      exact ro_iret hx hb hr hk hR dX5_shadow_26
    · rw [if_neg c_2] at hR
      refine lv_iload_n hx hb dX5_shadow_18 rfl (lv_at hl 3 rfl) ?_
      refine ro_S (v := .int (mX5_isHour a3)) (rest := []) (As := [.int a3]) hx hb hml hown hts hl (MX5_isHour l D q a3) gX5_shadow_X5_isHour rfl kX5_isHour ⟨Nat.le_of_ble_eq_true rfl, Nat.le_of_ble_eq_true rfl⟩ rfl rfl (hP.sub (ws' := []) [] rfl) (dT (hD.sub (ws' := []) [] (by decide) rfl)) hG rfl rfl (Nat.le_of_ble_eq_true rfl) dX5_shadow_19 ⟨Nat.zero_le _, Nat.zero_le _⟩ ?_
      refine lv_if_ne (tgt := 27) hx hb dX5_shadow_22 (by decide) (fun c_3 => ?_) (fun c_3 => ?_)
      · rw [if_neg c_3] at hR
        have fc_3 := f_isHour c_3
        refine lv_aload_n hx hb dX5_shadow_27 rfl (lv_at hl 0 rfl) ?_
        refine va_get (D := D) (ci := 3) (v := .ref ((ad 0) 0)) (C := RX5) (T := TX5) (N := 6) hx hb hts iX5_shadow_X5 hown hG.1 hP 0 rfl rfl 0 (by decide) (hts (.fieldLink RX5 12 "MillComplaints" "now" "LMillComplaints$Village;") (List.mem_of_getElem? (i := 1) rfl)) (fun _ h9 => h9) rfl dX5_shadow_28 ?_
        refine va_getN (D := D) (ci := 2) (v := .ref ((ad 0) 5)) (C := RX4) (T := TX4) (N := 11) hx hb hts iX5_shadow_X4 hown hG.1 hP 1 rfl rfl 5 (by decide) (nwf_6 hG) (fun _ h9 => h9) rfl dX5_shadow_31 ?_
        refine lv_iload_n hx hb dX5_shadow_34 rfl (lv_at hl 1 rfl) ?_
        refine ro_S (v := .int (mX5_at 4 (v 4) a1)) (rest := []) (As := [.ref ((ad 0) 5), .int a1]) hx hb hml hown hts hl (MX5_at l D q ((ad 0) 5) 4 (v 4) a1 (by decide)) gX5_shadow_X5_at rfl kX5_at ⟨Nat.le_of_ble_eq_true rfl, Nat.le_of_ble_eq_true rfl⟩ rfl rfl (hP.sub (ws' := (wR q ((ad 0) 5) 4 (v 4))) [6] rfl) (dT (hD.sub (ws' := (wR q ((ad 0) 5) 4 (v 4))) [6] (by decide) rfl)) hG rfl rfl (Nat.le_of_ble_eq_true rfl) dX5_shadow_35 ⟨Nat.zero_le _, Nat.zero_le _⟩ ?_
        refine lv_istore (lv' := [(5, .int (mX5_at 4 (v 4) a1)), (0, .ref (ad 9 0)), (1, .int a1), (2, .int a2), (3, .int a3), (4, .int a4)]) hx hb dX5_shadow_38 hl (by decide) rfl (fun ls hl => ?_)
        refine lv_aload_n hx hb dX5_shadow_40 rfl (lv_at hl 1 rfl) ?_
        refine va_get (D := D) (ci := 3) (v := .ref ((ad 0) 0)) (C := RX5) (T := TX5) (N := 6) hx hb hts iX5_shadow_X5 hown hG.1 hP 0 rfl rfl 0 (by decide) (hts (.fieldLink RX5 12 "MillComplaints" "now" "LMillComplaints$Village;") (List.mem_of_getElem? (i := 1) rfl)) (fun _ h9 => h9) rfl dX5_shadow_41 ?_
        refine va_getN (D := D) (ci := 2) (v := .ref ((ad 0) 4)) (C := RX4) (T := TX4) (N := 11) hx hb hts iX5_shadow_X4 hown hG.1 hP 1 rfl rfl 4 (by decide) (nwf_5 hG) (fun _ h9 => h9) rfl dX5_shadow_44 ?_
        refine lv_iload_n hx hb dX5_shadow_47 rfl (lv_at hl 2 rfl) ?_
        refine ro_S (v := .int (mX5_at 4 (v 3) a1)) (rest := []) (As := [.ref ((ad 0) 4), .int a1]) hx hb hml hown hts hl (MX5_at l D q ((ad 0) 4) 4 (v 3) a1 (by decide)) gX5_shadow_X5_at rfl kX5_at ⟨Nat.le_of_ble_eq_true rfl, Nat.le_of_ble_eq_true rfl⟩ rfl rfl (hP.sub (ws' := (wR q ((ad 0) 4) 4 (v 3))) [5] rfl) (dT (hD.sub (ws' := (wR q ((ad 0) 4) 4 (v 3))) [5] (by decide) rfl)) hG rfl rfl (Nat.le_of_ble_eq_true rfl) dX5_shadow_48 ⟨Nat.zero_le _, Nat.zero_le _⟩ ?_
        refine lv_istore (lv' := [(6, .int (mX5_at 4 (v 3) a1)), (5, .int (mX5_at 4 (v 4) a1)), (0, .ref (ad 9 0)), (1, .int a1), (2, .int a2), (3, .int a3), (4, .int a4)]) hx hb dX5_shadow_51 hl (by decide) rfl (fun ls hl => ?_)
        refine lv_iload hx hb dX5_shadow_53 (lv_at hl 6 rfl) ?_
        by_cases c_4 : a4 = 0
        · rw [if_pos c_4] at hR
          refine lv_lookup (off := 25) (tgt := 80) hx hb dX5_shadow_55 (by decide) (by rw [c_4]; decide) (by decide) ?_
          refine lv_iload hx hb dX5_shadow_80 (lv_at hl 1 rfl) ?_
          refine lv_iload hx hb dX5_shadow_82 (lv_at hl 0 rfl) ?_
          refine lv_iload_n hx hb dX5_shadow_84 rfl (lv_at hl 4 rfl) ?_
          refine lv_iload_n hx hb dX5_shadow_85 rfl (lv_at hl 5 rfl) ?_
          refine ro_S (v := .int (mX2_isMetOnTheWalk (mX5_at 4 (v 4) a1) (mX5_at 4 (v 3) a1) a2 a3)) (rest := []) (As := [.int (mX5_at 4 (v 4) a1), .int (mX5_at 4 (v 3) a1), .int a2, .int a3]) hx hb hml hown hts hl (MX2_isMetOnTheWalk l D q (mX5_at 4 (v 4) a1) (mX5_at 4 (v 3) a1) a2 a3) gX5_shadow_X2_isMetOnTheWalk rfl kX2_isMetOnTheWalk ⟨Nat.le_of_ble_eq_true rfl, Nat.le_of_ble_eq_true rfl⟩ rfl rfl (hP.sub (ws' := []) [] rfl) (dT (hD.sub (ws' := []) [] (by decide) rfl)) hG rfl rfl (Nat.le_of_ble_eq_true rfl) dX5_shadow_86 ⟨Nat.zero_le _, Nat.zero_le _⟩ ?_
          refine lv_if_eq (tgt := 96) hx hb dX5_shadow_89 (by decide) (fun c_5 => ?_) (fun c_5 => ?_)
          · rw [if_pos c_5] at hR
            refine lv_iconst (v := 0) hx hb dX5_shadow_96 (by decide) ?_
            exact ro_iret hx hb hr hk hR dX5_shadow_97
          · rw [if_neg c_5] at hR
            refine lv_iconst (v := 1) hx hb dX5_shadow_92 (by decide) ?_
            refine lv_goto (tgt := 97) hx hb dX5_shadow_93 (by decide) ?_
            exact ro_iret hx hb hr hk hR dX5_shadow_97
        · rw [if_neg c_4] at hR
          by_cases c_6 : a4 = 1
          · rw [if_pos c_6] at hR
            refine lv_lookup (off := 43) (tgt := 98) hx hb dX5_shadow_55 (by decide) (by rw [c_6]; decide) (by decide) ?_
            refine lv_iload hx hb dX5_shadow_98 (lv_at hl 1 rfl) ?_
            refine lv_iload hx hb dX5_shadow_100 (lv_at hl 0 rfl) ?_
            refine lv_iload_n hx hb dX5_shadow_102 rfl (lv_at hl 4 rfl) ?_
            refine lv_iload_n hx hb dX5_shadow_103 rfl (lv_at hl 5 rfl) ?_
            refine ro_S (v := .int (mX2_liesThere (mX5_at 4 (v 4) a1) (mX5_at 4 (v 3) a1) a2 a3)) (rest := []) (As := [.int (mX5_at 4 (v 4) a1), .int (mX5_at 4 (v 3) a1), .int a2, .int a3]) hx hb hml hown hts hl (MX2_liesThere l D q (mX5_at 4 (v 4) a1) (mX5_at 4 (v 3) a1) a2 a3) gX5_shadow_X2_liesThere rfl kX2_liesThere ⟨Nat.le_of_ble_eq_true rfl, Nat.le_of_ble_eq_true rfl⟩ rfl rfl (hP.sub (ws' := []) [] rfl) (dT (hD.sub (ws' := []) [] (by decide) rfl)) hG rfl rfl (Nat.le_of_ble_eq_true rfl) dX5_shadow_104 ⟨Nat.zero_le _, Nat.zero_le _⟩ ?_
            refine lv_if_eq (tgt := 114) hx hb dX5_shadow_107 (by decide) (fun c_7 => ?_) (fun c_7 => ?_)
            · rw [if_pos c_7] at hR
              refine lv_iconst (v := 0) hx hb dX5_shadow_114 (by decide) ?_
              exact ro_iret hx hb hr hk hR dX5_shadow_115
            · rw [if_neg c_7] at hR
              refine lv_iconst (v := 1) hx hb dX5_shadow_110 (by decide) ?_
              refine lv_goto (tgt := 115) hx hb dX5_shadow_111 (by decide) ?_
              exact ro_iret hx hb hr hk hR dX5_shadow_115
          · rw [if_neg c_6] at hR
            refine lv_lookup (off := 61) (tgt := 116) hx hb dX5_shadow_55 (by decide) (by show Op.lookupswitch.offset [(0, 25), (1, 43)] 61 _ = _; rw [lv_osw (a := 0) c_4 rfl]; rw [lv_osw (a := 1) c_6 rfl]; rfl) (by decide) ?_
            refine lv_bipush (v := (-2)) hx hb dX5_shadow_116 (by decide) ?_
            exact ro_iret hx hb hr hk hR dX5_shadow_118
      · rw [if_pos c_3] at hR
        refine lv_iconst (v := (-1)) hx hb dX5_shadow_25 (by decide) ?_
        exact ro_iret hx hb hr hk hR dX5_shadow_26

def mX5_why (v : Nat → Nat → Int32) (a1 a2 a3 a4 : Int32) : Int32 := (mX4_reasonAgainst v a1 a2 a3 a4)
theorem kX5_why : yX5_why.cls = RX5 ∧ yX5_why.cls ≠ "java/lang/invoke/MethodHandle" ∧ yX5_why.cls ≠ "java/lang/invoke/VarHandle" ∧ (parseMethodDescriptor yX5_why.desc).map (fun d => d.parameters.length) = some 4 := by decide +kernel
theorem iX5_why_X5 : ∀ w ∈ wsX50, w ∈ wsX5_why := fun w h => (List.mem_cons_of_mem _ (List.mem_append_left _ (List.mem_append_right _ h)))
set_option maxHeartbeats 4000000 in
set_option maxRecDepth 100000 in
theorem MX5_why (l : Launch) (D : va_G) (q : Nat → ClassId) (ad : Nat → Nat → Nat) (sn : Int32) (v : Nat → Nat → Int32) (a1 a2 a3 a4 : Int32)  : roM l D (tyq q) yX5_why wsX5_why ({ frames := 5, cells := 0, slots := 0, locals := 120 } : Room) [.ref (ad 9 0), .int a1, .int a2, .int a3, .int a4] (wXN q ad sn v) (some (.int (mX5_why v a1 a2 a3 a4))) := by
  obtain ⟨R, hR⟩ : ∃ z, (mX5_why v a1 a2 a3 a4) = z := ⟨_, rfl⟩
  rw [hR]
  unfold mX5_why at hR
  refine roM.of (cc := cX5_why) (maxL := 5) (ret := (some .int)) (by decide) rfl (Nat.le_of_ble_eq_true rfl) ?_
  intro p e s m below meth c ls hx hb hr hk hml hown hts hP hD hG hl
  have hl : lv_has ls 5 [(0, .ref (ad 9 0)), (1, .int a1), (2, .int a2), (3, .int a3), (4, .int a4)] := hl
  refine lv_aload_n hx hb dX5_why_0 rfl (lv_at hl 0 rfl) ?_
  refine va_get (D := D) (ci := 3) (v := .ref ((ad 0) 0)) (C := RX5) (T := TX5) (N := 6) hx hb hts iX5_why_X5 hown hG.1 hP 0 rfl rfl 0 (by decide) (hts (.fieldLink RX5 12 "MillComplaints" "now" "LMillComplaints$Village;") (List.mem_of_getElem? (i := 1) rfl)) (fun _ h9 => h9) rfl dX5_why_1 ?_
  refine lv_iload_n hx hb dX5_why_4 rfl (lv_at hl 1 rfl) ?_
  refine lv_iload_n hx hb dX5_why_5 rfl (lv_at hl 2 rfl) ?_
  refine lv_iload_n hx hb dX5_why_6 rfl (lv_at hl 3 rfl) ?_
  refine lv_iload hx hb dX5_why_7 (lv_at hl 4 rfl) ?_
  refine ro_V (v := .int (mX4_reasonAgainst v a1 a2 a3 a4)) (rest := []) (As := [.int a1, .int a2, .int a3, .int a4]) hx hb hml hown hts hl (MX4_reasonAgainst l D q (ad 0) v a1 a2 a3 a4) gX5_why_X4_reasonAgainst rfl kX4_reasonAgainst ⟨Nat.le_of_ble_eq_true rfl, Nat.le_of_ble_eq_true rfl⟩ rfl rfl (hP.sub (ws' := (wV q (ad 0) v)) [1, 2, 3, 4, 5, 6, 7, 8, 9, 10] rfl) (dT (hD.sub (ws' := (wV q (ad 0) v)) [1, 2, 3, 4, 5, 6, 7, 8, 9, 10] (by decide) rfl)) hG (ci := 2) rfl rfl rfl rfl (Nat.le_of_ble_eq_true rfl) dX5_why_9 ⟨Nat.zero_le _, Nat.zero_le _⟩ ?_
  exact ro_iret hx hb hr hk hR dX5_why_12

def mX5_quietHours_17 (v : Nat → Nat → Int32) (a1 : Int32) (C : Int32 → Int32 → Int32) : Nat → Int32 → Int32 → Int32
  | 0, x3_17, x2_17 => C x3_17 x2_17
  | n_17 + 1, x3_17, x2_17 => (if (mX4_blows v x3_17) = 0 then (mX5_quietHours_17 v a1 C n_17 (x3_17 + 1) x2_17) else (if (mX4_troubledIfUntied v a1 x3_17) = 0 then (mX5_quietHours_17 v a1 C n_17 (x3_17 + 1) (x2_17 ||| (1 <<< (x3_17 &&& 31)))) else (mX5_quietHours_17 v a1 C n_17 (x3_17 + 1) x2_17)))
def mX5_quietHours (v : Nat → Nat → Int32) (a1 : Int32) : Int32 := (if (mX4_hasMill v a1) = 0 then (-1) else (mX5_quietHours_17 v a1 (fun x3_17 x2_17 => x2_17) (tr 0 24) 0 0))
theorem kX5_quietHours : yX5_quietHours.cls = RX5 ∧ yX5_quietHours.cls ≠ "java/lang/invoke/MethodHandle" ∧ yX5_quietHours.cls ≠ "java/lang/invoke/VarHandle" ∧ (parseMethodDescriptor yX5_quietHours.desc).map (fun d => d.parameters.length) = some 1 := by decide +kernel
theorem iX5_quietHours_X5 : ∀ w ∈ wsX50, w ∈ wsX5_quietHours := fun w h => (List.mem_cons_of_mem _ (List.mem_append_left _ (List.mem_append_right _ h)))
set_option maxHeartbeats 4000000 in
set_option maxRecDepth 100000 in
theorem MX5_quietHours (l : Launch) (D : va_G) (q : Nat → ClassId) (ad : Nat → Nat → Nat) (sn : Int32) (v : Nat → Nat → Int32) (a1 : Int32)  : roM l D (tyq q) yX5_quietHours wsX5_quietHours ({ frames := 5, cells := 0, slots := 0, locals := 121 } : Room) [.ref (ad 9 0), .int a1] (wXN q ad sn v) (some (.int (mX5_quietHours v a1))) := by
  obtain ⟨R, hR⟩ : ∃ z, (mX5_quietHours v a1) = z := ⟨_, rfl⟩
  rw [hR]
  unfold mX5_quietHours at hR
  refine roM.of (cc := cX5_quietHours) (maxL := 4) (ret := (some .int)) (by decide) rfl (Nat.le_of_ble_eq_true rfl) ?_
  intro p e s m below meth c ls hx hb hr hk hml hown hts hP hD hG hl
  have hl : lv_has ls 4 [(0, .ref (ad 9 0)), (1, .int a1)] := hl
  refine lv_aload_n hx hb dX5_quietHours_0 rfl (lv_at hl 0 rfl) ?_
  refine va_get (D := D) (ci := 3) (v := .ref ((ad 0) 0)) (C := RX5) (T := TX5) (N := 6) hx hb hts iX5_quietHours_X5 hown hG.1 hP 0 rfl rfl 0 (by decide) (hts (.fieldLink RX5 12 "MillComplaints" "now" "LMillComplaints$Village;") (List.mem_of_getElem? (i := 1) rfl)) (fun _ h9 => h9) rfl dX5_quietHours_1 ?_
  refine lv_iload_n hx hb dX5_quietHours_4 rfl (lv_at hl 1 rfl) ?_
  refine ro_V (v := .int (mX4_hasMill v a1)) (rest := []) (As := [.int a1]) hx hb hml hown hts hl (MX4_hasMill l D q (ad 0) v a1) gX5_quietHours_X4_hasMill rfl kX4_hasMill ⟨Nat.le_of_ble_eq_true rfl, Nat.le_of_ble_eq_true rfl⟩ rfl rfl (hP.sub (ws' := (wV q (ad 0) v)) [1, 2, 3, 4, 5, 6, 7, 8, 9, 10] rfl) (dT (hD.sub (ws' := (wV q (ad 0) v)) [1, 2, 3, 4, 5, 6, 7, 8, 9, 10] (by decide) rfl)) hG (ci := 2) rfl rfl rfl rfl (Nat.le_of_ble_eq_true rfl) dX5_quietHours_5 ⟨Nat.zero_le _, Nat.zero_le _⟩ ?_
  refine lv_if_ne (tgt := 13) hx hb dX5_quietHours_8 (by decide) (fun c_1 => ?_) (fun c_1 => ?_)
  · rw [if_neg c_1] at hR
    refine lv_iconst (v := 0) hx hb dX5_quietHours_13 (by decide) ?_
    refine lv_istore_n (lv' := [(2, .int 0), (0, .ref (ad 9 0)), (1, .int a1)]) hx hb dX5_quietHours_14 rfl hl (by decide) rfl (fun ls hl => ?_)
    refine lv_iconst (v := 0) hx hb dX5_quietHours_15 (by decide) ?_
    refine lv_istore_n (lv' := [(3, .int 0), (2, .int 0), (0, .ref (ad 9 0)), (1, .int a1)]) hx hb dX5_quietHours_16 rfl hl (by decide) rfl (fun ls hl => ?_)
    have key_17 : ∀ (n_17 : Nat) (x3_17 : Int32) (x2_17 : Int32), tr x3_17 24 = n_17 → mX5_quietHours_17 v a1 (fun x3_17 x2_17 => x2_17) n_17 x3_17 x2_17 = R → ∀ ls : Array Slot, lv_has ls 4 [(3, .int x3_17), (2, .int x2_17), (0, .ref (ad 9 0)), (1, .int a1)] → W p l e ({ frames := 5, cells := 0, slots := 0, locals := 121 } : Room) s m ([.ref (ad 9 0), .int a1] : List Value).toArray below meth c s.heap [] 0 0 (MQ below (roQ (some (.int R))) ([.ref (ad 9 0), .int a1] : List Value).toArray s 0 0 (fun _ => False)) (F0 m 17 ls []) := by
      intro n_17
      induction n_17 with
      | zero =>
        intro x3_17 x2_17 hn_17 hR ls hl
        rw [mX5_quietHours_17] at hR
        refine lv_iload_n hx hb dX5_quietHours_17 rfl (lv_at hl 0 rfl) ?_
        refine lv_bipush (v := 24) hx hb dX5_quietHours_18 (by decide) ?_
        refine lv_icmp_ge (tgt := 58) hx hb dX5_quietHours_20 (by decide) (fun c_2 => ?_) (fun c_2 => (tr0 hn_17 c_2).elim)
        refine lv_iload_n hx hb dX5_quietHours_58 rfl (lv_at hl 1 rfl) ?_
        exact ro_iret hx hb hr hk hR dX5_quietHours_59
      | succ n_17 ih_17 =>
        intro x3_17 x2_17 hn_17 hR ls hl
        rw [mX5_quietHours_17] at hR
        refine lv_iload_n hx hb dX5_quietHours_17 rfl (lv_at hl 0 rfl) ?_
        refine lv_bipush (v := 24) hx hb dX5_quietHours_18 (by decide) ?_
        refine lv_icmp_ge (tgt := 58) hx hb dX5_quietHours_20 (by decide) (fun c_2 => (trS hn_17 c_2).elim) (fun c_2 => ?_)
        refine lv_aload_n hx hb dX5_quietHours_23 rfl (lv_at hl 2 rfl) ?_
        refine va_get (D := D) (ci := 3) (v := .ref ((ad 0) 0)) (C := RX5) (T := TX5) (N := 6) hx hb hts iX5_quietHours_X5 hown hG.1 hP 0 rfl rfl 0 (by decide) (hts (.fieldLink RX5 12 "MillComplaints" "now" "LMillComplaints$Village;") (List.mem_of_getElem? (i := 1) rfl)) (fun _ h9 => h9) rfl dX5_quietHours_24 ?_
        refine lv_iload_n hx hb dX5_quietHours_27 rfl (lv_at hl 0 rfl) ?_
        refine ro_V (v := .int (mX4_blows v x3_17)) (rest := []) (As := [.int x3_17]) hx hb hml hown hts hl (MX4_blows l D q (ad 0) v x3_17) gX5_quietHours_X4_blows rfl kX4_blows ⟨Nat.le_of_ble_eq_true rfl, Nat.le_of_ble_eq_true rfl⟩ rfl rfl (hP.sub (ws' := (wV q (ad 0) v)) [1, 2, 3, 4, 5, 6, 7, 8, 9, 10] rfl) (dT (hD.sub (ws' := (wV q (ad 0) v)) [1, 2, 3, 4, 5, 6, 7, 8, 9, 10] (by decide) rfl)) hG (ci := 2) rfl rfl rfl rfl (Nat.le_of_ble_eq_true rfl) dX5_quietHours_28 ⟨Nat.zero_le _, Nat.zero_le _⟩ ?_
        refine lv_if_eq (tgt := 52) hx hb dX5_quietHours_31 (by decide) (fun c_3 => ?_) (fun c_3 => ?_)
        · rw [if_pos c_3] at hR
          refine lv_iinc (v := (x3_17 + 1)) (lv' := [(3, .int (x3_17 + 1)), (2, .int x2_17), (0, .ref (ad 9 0)), (1, .int a1)]) hx hb dX5_quietHours_52 hl (k := 0) rfl rfl (by decide) rfl (fun ls hl => ?_)
          refine lv_goto (tgt := 17) hx hb dX5_quietHours_55 (by decide) ?_
          exact ih_17 (x3_17 + 1) x2_17 (trN hn_17) hR ls (lv_sub hl [0, 1, 2, 3] rfl)
        · rw [if_neg c_3] at hR
          refine lv_aload_n hx hb dX5_quietHours_34 rfl (lv_at hl 2 rfl) ?_
          refine va_get (D := D) (ci := 3) (v := .ref ((ad 0) 0)) (C := RX5) (T := TX5) (N := 6) hx hb hts iX5_quietHours_X5 hown hG.1 hP 0 rfl rfl 0 (by decide) (hts (.fieldLink RX5 12 "MillComplaints" "now" "LMillComplaints$Village;") (List.mem_of_getElem? (i := 1) rfl)) (fun _ h9 => h9) rfl dX5_quietHours_35 ?_
          refine lv_iload_n hx hb dX5_quietHours_38 rfl (lv_at hl 3 rfl) ?_
          refine lv_iload_n hx hb dX5_quietHours_39 rfl (lv_at hl 0 rfl) ?_
          refine ro_V (v := .int (mX4_troubledIfUntied v a1 x3_17)) (rest := []) (As := [.int a1, .int x3_17]) hx hb hml hown hts hl (MX4_troubledIfUntied l D q (ad 0) v a1 x3_17) gX5_quietHours_X4_troubledIfUntied rfl kX4_troubledIfUntied ⟨Nat.le_of_ble_eq_true rfl, Nat.le_of_ble_eq_true rfl⟩ rfl rfl (hP.sub (ws' := (wV q (ad 0) v)) [1, 2, 3, 4, 5, 6, 7, 8, 9, 10] rfl) (dT (hD.sub (ws' := (wV q (ad 0) v)) [1, 2, 3, 4, 5, 6, 7, 8, 9, 10] (by decide) rfl)) hG (ci := 2) rfl rfl rfl rfl (Nat.le_of_ble_eq_true rfl) dX5_quietHours_40 ⟨Nat.zero_le _, Nat.zero_le _⟩ ?_
          refine lv_if_ne (tgt := 52) hx hb dX5_quietHours_43 (by decide) (fun c_4 => ?_) (fun c_4 => ?_)
          · rw [if_neg c_4] at hR
            refine lv_iinc (v := (x3_17 + 1)) (lv' := [(3, .int (x3_17 + 1)), (2, .int x2_17), (0, .ref (ad 9 0)), (1, .int a1)]) hx hb dX5_quietHours_52 hl (k := 0) rfl rfl (by decide) rfl (fun ls hl => ?_)
            refine lv_goto (tgt := 17) hx hb dX5_quietHours_55 (by decide) ?_
            exact ih_17 (x3_17 + 1) x2_17 (trN hn_17) hR ls (lv_sub hl [0, 1, 2, 3] rfl)
          · rw [if_pos c_4] at hR
            refine lv_iload_n hx hb dX5_quietHours_46 rfl (lv_at hl 1 rfl) ?_
            refine lv_iconst (v := 1) hx hb dX5_quietHours_47 (by decide) ?_
            refine lv_iload_n hx hb dX5_quietHours_48 rfl (lv_at hl 0 rfl) ?_
            refine lv_ishl hx hb dX5_quietHours_49 ?_
            refine lv_ior hx hb dX5_quietHours_50 ?_
            refine lv_istore_n (lv' := [(2, .int (x2_17 ||| (1 <<< (x3_17 &&& 31)))), (3, .int x3_17), (0, .ref (ad 9 0)), (1, .int a1)]) hx hb dX5_quietHours_51 rfl hl (by decide) rfl (fun ls hl => ?_)
            refine lv_iinc (v := (x3_17 + 1)) (lv' := [(3, .int (x3_17 + 1)), (2, .int (x2_17 ||| (1 <<< (x3_17 &&& 31)))), (0, .ref (ad 9 0)), (1, .int a1)]) hx hb dX5_quietHours_52 hl (k := 1) rfl rfl (by decide) rfl (fun ls hl => ?_)
            refine lv_goto (tgt := 17) hx hb dX5_quietHours_55 (by decide) ?_
            exact ih_17 (x3_17 + 1) (x2_17 ||| (1 <<< (x3_17 &&& 31))) (trN hn_17) hR ls (lv_sub hl [0, 1, 2, 3] rfl)
    exact key_17 _ 0 0 rfl hR ls hl
  · rw [if_pos c_1] at hR
    refine lv_iconst (v := (-1)) hx hb dX5_quietHours_11 (by decide) ?_
    exact ro_iret hx hb hr hk hR dX5_quietHours_12

def mX5_loudest_17 (v : Nat → Nat → Int32) (a1 : Int32) (C : Int32 → Int32 → Int32 → Int32) : Nat → Int32 → Int32 → Int32 → Int32
  | 0, x4_17, x3_17, x2_17 => C x4_17 x3_17 x2_17
  | n_17 + 1, x4_17, x3_17, x2_17 => (if (mX4_noiseOfAllMills v x4_17 a1) ≤ x3_17 then (mX5_loudest_17 v a1 C n_17 (x4_17 + 1) x3_17 x2_17) else (mX5_loudest_17 v a1 C n_17 (x4_17 + 1) (mX4_noiseOfAllMills v x4_17 a1) x4_17))
def mX5_loudest (v : Nat → Nat → Int32) (a1 : Int32) : Int32 := (if (mX5_isHour a1) = 0 then (-1) else (mX5_loudest_17 v a1 (fun x4_17 x3_17 x2_17 => x2_17) (tr 0 (v 10 0)) 0 0 (-5)))
theorem kX5_loudest : yX5_loudest.cls = RX5 ∧ yX5_loudest.cls ≠ "java/lang/invoke/MethodHandle" ∧ yX5_loudest.cls ≠ "java/lang/invoke/VarHandle" ∧ (parseMethodDescriptor yX5_loudest.desc).map (fun d => d.parameters.length) = some 1 := by decide +kernel
theorem iX5_loudest_X5 : ∀ w ∈ wsX50, w ∈ wsX5_loudest := fun w h => (List.mem_cons_of_mem _ (List.mem_append_left _ (List.mem_append_right _ h)))
theorem iX5_loudest_X4 : ∀ w ∈ wsX40, w ∈ wsX5_loudest := fun w h => (List.mem_cons_of_mem _ (List.mem_append_right _ h))
set_option maxHeartbeats 4000000 in
set_option maxRecDepth 100000 in
theorem MX5_loudest (l : Launch) (D : va_G) (q : Nat → ClassId) (ad : Nat → Nat → Nat) (sn : Int32) (v : Nat → Nat → Int32) (a1 : Int32)  : roM l D (tyq q) yX5_loudest wsX5_loudest ({ frames := 5, cells := 0, slots := 0, locals := 115 } : Room) [.ref (ad 9 0), .int a1] (wXN q ad sn v) (some (.int (mX5_loudest v a1))) := by
  obtain ⟨R, hR⟩ : ∃ z, (mX5_loudest v a1) = z := ⟨_, rfl⟩
  rw [hR]
  unfold mX5_loudest at hR
  refine roM.of (cc := cX5_loudest) (maxL := 6) (ret := (some .int)) (by decide) rfl (Nat.le_of_ble_eq_true rfl) ?_
  intro p e s m below meth c ls hx hb hr hk hml hown hts hP hD hG hl
  have hl : lv_has ls 6 [(0, .ref (ad 9 0)), (1, .int a1)] := hl
  refine lv_iload_n hx hb dX5_loudest_0 rfl (lv_at hl 1 rfl) ?_
  refine ro_S (v := .int (mX5_isHour a1)) (rest := []) (As := [.int a1]) hx hb hml hown hts hl (MX5_isHour l D q a1) gX5_loudest_X5_isHour rfl kX5_isHour ⟨Nat.le_of_ble_eq_true rfl, Nat.le_of_ble_eq_true rfl⟩ rfl rfl (hP.sub (ws' := []) [] rfl) (dT (hD.sub (ws' := []) [] (by decide) rfl)) hG rfl rfl (Nat.le_of_ble_eq_true rfl) dX5_loudest_1 ⟨Nat.zero_le _, Nat.zero_le _⟩ ?_
  refine lv_if_ne (tgt := 9) hx hb dX5_loudest_4 (by decide) (fun c_1 => ?_) (fun c_1 => ?_)
  · rw [if_neg c_1] at hR
    have fc_1 := f_isHour c_1
    refine lv_bipush (v := (-5)) hx hb dX5_loudest_9 (by decide) ?_
    refine lv_istore_n (lv' := [(2, .int (-5)), (0, .ref (ad 9 0)), (1, .int a1)]) hx hb dX5_loudest_11 rfl hl (by decide) rfl (fun ls hl => ?_)
    refine lv_iconst (v := 0) hx hb dX5_loudest_12 (by decide) ?_
    refine lv_istore_n (lv' := [(3, .int 0), (2, .int (-5)), (0, .ref (ad 9 0)), (1, .int a1)]) hx hb dX5_loudest_13 rfl hl (by decide) rfl (fun ls hl => ?_)
    refine lv_iconst (v := 0) hx hb dX5_loudest_14 (by decide) ?_
    refine lv_istore (lv' := [(4, .int 0), (3, .int 0), (2, .int (-5)), (0, .ref (ad 9 0)), (1, .int a1)]) hx hb dX5_loudest_15 hl (by decide) rfl (fun ls hl => ?_)
    have key_17 : ∀ (n_17 : Nat) (x4_17 : Int32) (x3_17 : Int32) (x2_17 : Int32), tr x4_17 (v 10 0) = n_17 → mX5_loudest_17 v a1 (fun x4_17 x3_17 x2_17 => x2_17) n_17 x4_17 x3_17 x2_17 = R → ∀ ls : Array Slot, lv_has ls 6 [(4, .int x4_17), (3, .int x3_17), (2, .int x2_17), (0, .ref (ad 9 0)), (1, .int a1)] → W p l e ({ frames := 5, cells := 0, slots := 0, locals := 115 } : Room) s m ([.ref (ad 9 0), .int a1] : List Value).toArray below meth c s.heap [] 0 0 (MQ below (roQ (some (.int R))) ([.ref (ad 9 0), .int a1] : List Value).toArray s 0 0 (fun _ => False)) (F0 m 17 ls []) := by
      intro n_17
      induction n_17 with
      | zero =>
        intro x4_17 x3_17 x2_17 hn_17 hR ls hl
        rw [mX5_loudest_17] at hR
        refine lv_iload hx hb dX5_loudest_17 (lv_at hl 0 rfl) ?_
        refine lv_aload_n hx hb dX5_loudest_19 rfl (lv_at hl 3 rfl) ?_
        refine va_get (D := D) (ci := 3) (v := .ref ((ad 0) 0)) (C := RX5) (T := TX5) (N := 6) hx hb hts iX5_loudest_X5 hown hG.1 hP 0 rfl rfl 0 (by decide) (hts (.fieldLink RX5 12 "MillComplaints" "now" "LMillComplaints$Village;") (List.mem_of_getElem? (i := 1) rfl)) (fun _ h9 => h9) rfl dX5_loudest_20 ?_
        refine va_getN (D := D) (ci := 2) (v := .int (v 10 0)) (C := RX4) (T := TX4) (N := 11) hx hb hts iX5_loudest_X4 hown hG.1 hP 1 rfl rfl 7 (by decide) (nwf_7 hG) (fun _ h9 => h9) rfl dX5_loudest_23 ?_
        refine lv_icmp_ge (tgt := 59) hx hb dX5_loudest_26 (by decide) (fun c_2 => ?_) (fun c_2 => (tr0 hn_17 c_2).elim)
        refine lv_iload_n hx hb dX5_loudest_59 rfl (lv_at hl 2 rfl) ?_
        exact ro_iret hx hb hr hk hR dX5_loudest_60
      | succ n_17 ih_17 =>
        intro x4_17 x3_17 x2_17 hn_17 hR ls hl
        rw [mX5_loudest_17] at hR
        refine lv_iload hx hb dX5_loudest_17 (lv_at hl 0 rfl) ?_
        refine lv_aload_n hx hb dX5_loudest_19 rfl (lv_at hl 3 rfl) ?_
        refine va_get (D := D) (ci := 3) (v := .ref ((ad 0) 0)) (C := RX5) (T := TX5) (N := 6) hx hb hts iX5_loudest_X5 hown hG.1 hP 0 rfl rfl 0 (by decide) (hts (.fieldLink RX5 12 "MillComplaints" "now" "LMillComplaints$Village;") (List.mem_of_getElem? (i := 1) rfl)) (fun _ h9 => h9) rfl dX5_loudest_20 ?_
        refine va_getN (D := D) (ci := 2) (v := .int (v 10 0)) (C := RX4) (T := TX4) (N := 11) hx hb hts iX5_loudest_X4 hown hG.1 hP 1 rfl rfl 7 (by decide) (nwf_7 hG) (fun _ h9 => h9) rfl dX5_loudest_23 ?_
        refine lv_icmp_ge (tgt := 59) hx hb dX5_loudest_26 (by decide) (fun c_2 => (trS hn_17 c_2).elim) (fun c_2 => ?_)
        refine lv_aload_n hx hb dX5_loudest_29 rfl (lv_at hl 3 rfl) ?_
        refine va_get (D := D) (ci := 3) (v := .ref ((ad 0) 0)) (C := RX5) (T := TX5) (N := 6) hx hb hts iX5_loudest_X5 hown hG.1 hP 0 rfl rfl 0 (by decide) (hts (.fieldLink RX5 12 "MillComplaints" "now" "LMillComplaints$Village;") (List.mem_of_getElem? (i := 1) rfl)) (fun _ h9 => h9) rfl dX5_loudest_30 ?_
        refine lv_iload hx hb dX5_loudest_33 (lv_at hl 0 rfl) ?_
        refine lv_iload_n hx hb dX5_loudest_35 rfl (lv_at hl 4 rfl) ?_
        refine ro_V (v := .int (mX4_noiseOfAllMills v x4_17 a1)) (rest := []) (As := [.int x4_17, .int a1]) hx hb hml hown hts hl (MX4_noiseOfAllMills l D q (ad 0) v x4_17 a1) gX5_loudest_X4_noiseOfAllMills rfl kX4_noiseOfAllMills ⟨Nat.le_of_ble_eq_true rfl, Nat.le_of_ble_eq_true rfl⟩ rfl rfl (hP.sub (ws' := (wV q (ad 0) v)) [1, 2, 3, 4, 5, 6, 7, 8, 9, 10] rfl) (dT (hD.sub (ws' := (wV q (ad 0) v)) [1, 2, 3, 4, 5, 6, 7, 8, 9, 10] (by decide) rfl)) hG (ci := 2) rfl rfl rfl rfl (Nat.le_of_ble_eq_true rfl) dX5_loudest_36 ⟨Nat.zero_le _, Nat.zero_le _⟩ ?_
        refine lv_istore (lv' := [(5, .int (mX4_noiseOfAllMills v x4_17 a1)), (4, .int x4_17), (3, .int x3_17), (2, .int x2_17), (0, .ref (ad 9 0)), (1, .int a1)]) hx hb dX5_loudest_39 hl (by decide) rfl (fun ls hl => ?_)
        refine lv_iload hx hb dX5_loudest_41 (lv_at hl 0 rfl) ?_
        refine lv_iload_n hx hb dX5_loudest_43 rfl (lv_at hl 2 rfl) ?_
        refine lv_icmp_le (tgt := 53) hx hb dX5_loudest_44 (by decide) (fun c_3 => ?_) (fun c_3 => ?_)
        · rw [if_pos c_3] at hR
          refine lv_iinc (v := (x4_17 + 1)) (lv' := [(4, .int (x4_17 + 1)), (5, .int (mX4_noiseOfAllMills v x4_17 a1)), (3, .int x3_17), (2, .int x2_17), (0, .ref (ad 9 0)), (1, .int a1)]) hx hb dX5_loudest_53 hl (k := 1) rfl rfl (by decide) rfl (fun ls hl => ?_)
          refine lv_goto (tgt := 17) hx hb dX5_loudest_56 (by decide) ?_
          exact ih_17 (x4_17 + 1) x3_17 x2_17 (trN hn_17) hR ls (lv_sub hl [0, 2, 3, 4, 5] rfl)
        · rw [if_neg c_3] at hR
          refine lv_iload hx hb dX5_loudest_47 (lv_at hl 0 rfl) ?_
          refine lv_istore_n (lv' := [(3, .int (mX4_noiseOfAllMills v x4_17 a1)), (5, .int (mX4_noiseOfAllMills v x4_17 a1)), (4, .int x4_17), (2, .int x2_17), (0, .ref (ad 9 0)), (1, .int a1)]) hx hb dX5_loudest_49 rfl hl (by decide) rfl (fun ls hl => ?_)
          refine lv_iload hx hb dX5_loudest_50 (lv_at hl 2 rfl) ?_
          refine lv_istore_n (lv' := [(2, .int x4_17), (3, .int (mX4_noiseOfAllMills v x4_17 a1)), (5, .int (mX4_noiseOfAllMills v x4_17 a1)), (4, .int x4_17), (0, .ref (ad 9 0)), (1, .int a1)]) hx hb dX5_loudest_52 rfl hl (by decide) rfl (fun ls hl => ?_)
          refine lv_iinc (v := (x4_17 + 1)) (lv' := [(4, .int (x4_17 + 1)), (2, .int x4_17), (3, .int (mX4_noiseOfAllMills v x4_17 a1)), (5, .int (mX4_noiseOfAllMills v x4_17 a1)), (0, .ref (ad 9 0)), (1, .int a1)]) hx hb dX5_loudest_53 hl (k := 3) rfl rfl (by decide) rfl (fun ls hl => ?_)
          refine lv_goto (tgt := 17) hx hb dX5_loudest_56 (by decide) ?_
          exact ih_17 (x4_17 + 1) (mX4_noiseOfAllMills v x4_17 a1) x4_17 (trN hn_17) hR ls (lv_sub hl [0, 2, 1, 4, 5] rfl)
    exact key_17 _ 0 0 (-5) rfl hR ls hl
  · rw [if_pos c_1] at hR
    refine lv_iconst (v := (-1)) hx hb dX5_loudest_7 (by decide) ?_
    exact ro_iret hx hb hr hk hR dX5_loudest_8

def mX5_bestTied_21 (v : Nat → Nat → Int32) (a1 : Int32) (C : Int32 → Int32 → Int32 → Int32) : Nat → Int32 → Int32 → Int32 → Int32
  | 0, x4_21, x3_21, x2_21 => C x4_21 x3_21 x2_21
  | n_21 + 1, x4_21, x3_21, x2_21 => (if (mX4_turns v a1 x4_21) = 0 then (if x2_21 = (-5) then (if x3_21 < 0 then (mX5_bestTied_21 v a1 C n_21 (x4_21 + 1) 0 x4_21) else (if 0 = x3_21 then (mX5_bestTied_21 v a1 C n_21 (x4_21 + 1) x3_21 x2_21) else (mX5_bestTied_21 v a1 C n_21 (x4_21 + 1) x3_21 x2_21))) else (if (mX4_windAt v x2_21) ≤ (mX4_windAt v x4_21) then (if x3_21 < 0 then (mX5_bestTied_21 v a1 C n_21 (x4_21 + 1) 0 x4_21) else (if 0 = x3_21 then (mX5_bestTied_21 v a1 C n_21 (x4_21 + 1) x3_21 x2_21) else (mX5_bestTied_21 v a1 C n_21 (x4_21 + 1) x3_21 x2_21))) else (if x3_21 < 0 then (mX5_bestTied_21 v a1 C n_21 (x4_21 + 1) 0 x4_21) else (if 0 = x3_21 then (mX5_bestTied_21 v a1 C n_21 (x4_21 + 1) 0 x4_21) else (mX5_bestTied_21 v a1 C n_21 (x4_21 + 1) x3_21 x2_21))))) else (if x2_21 = (-5) then (if x3_21 < (mX4_troubledIfUntied v a1 x4_21) then (mX5_bestTied_21 v a1 C n_21 (x4_21 + 1) (mX4_troubledIfUntied v a1 x4_21) x4_21) else (if (mX4_troubledIfUntied v a1 x4_21) = x3_21 then (mX5_bestTied_21 v a1 C n_21 (x4_21 + 1) x3_21 x2_21) else (mX5_bestTied_21 v a1 C n_21 (x4_21 + 1) x3_21 x2_21))) else (if (mX4_windAt v x2_21) ≤ (mX4_windAt v x4_21) then (if x3_21 < (mX4_troubledIfUntied v a1 x4_21) then (mX5_bestTied_21 v a1 C n_21 (x4_21 + 1) (mX4_troubledIfUntied v a1 x4_21) x4_21) else (if (mX4_troubledIfUntied v a1 x4_21) = x3_21 then (mX5_bestTied_21 v a1 C n_21 (x4_21 + 1) x3_21 x2_21) else (mX5_bestTied_21 v a1 C n_21 (x4_21 + 1) x3_21 x2_21))) else (if x3_21 < (mX4_troubledIfUntied v a1 x4_21) then (mX5_bestTied_21 v a1 C n_21 (x4_21 + 1) (mX4_troubledIfUntied v a1 x4_21) x4_21) else (if (mX4_troubledIfUntied v a1 x4_21) = x3_21 then (mX5_bestTied_21 v a1 C n_21 (x4_21 + 1) (mX4_troubledIfUntied v a1 x4_21) x4_21) else (mX5_bestTied_21 v a1 C n_21 (x4_21 + 1) x3_21 x2_21))))))
def mX5_bestTied (v : Nat → Nat → Int32) (a1 : Int32) : Int32 := (if (mX4_hasMill v a1) = 0 then (-1) else (mX5_bestTied_21 v a1 (fun x4_21 x3_21 x2_21 => x2_21) (tr 0 24) 0 0 (-5)))
theorem kX5_bestTied : yX5_bestTied.cls = RX5 ∧ yX5_bestTied.cls ≠ "java/lang/invoke/MethodHandle" ∧ yX5_bestTied.cls ≠ "java/lang/invoke/VarHandle" ∧ (parseMethodDescriptor yX5_bestTied.desc).map (fun d => d.parameters.length) = some 1 := by decide +kernel
theorem iX5_bestTied_X5 : ∀ w ∈ wsX50, w ∈ wsX5_bestTied := fun w h => (List.mem_cons_of_mem _ (List.mem_append_left _ (List.mem_append_right _ h)))
set_option maxHeartbeats 4000000 in
set_option maxRecDepth 100000 in
theorem MX5_bestTied (l : Launch) (D : va_G) (q : Nat → ClassId) (ad : Nat → Nat → Nat) (sn : Int32) (v : Nat → Nat → Int32) (a1 : Int32)  : roM l D (tyq q) yX5_bestTied wsX5_bestTied ({ frames := 5, cells := 0, slots := 0, locals := 121 } : Room) [.ref (ad 9 0), .int a1] (wXN q ad sn v) (some (.int (mX5_bestTied v a1))) := by
  obtain ⟨R, hR⟩ : ∃ z, (mX5_bestTied v a1) = z := ⟨_, rfl⟩
  rw [hR]
  unfold mX5_bestTied at hR
  refine roM.of (cc := cX5_bestTied) (maxL := 7) (ret := (some .int)) (by decide) rfl (Nat.le_of_ble_eq_true rfl) ?_
  intro p e s m below meth c ls hx hb hr hk hml hown hts hP hD hG hl
  have hl : lv_has ls 7 [(0, .ref (ad 9 0)), (1, .int a1)] := hl
  refine lv_aload_n hx hb dX5_bestTied_0 rfl (lv_at hl 0 rfl) ?_
  refine va_get (D := D) (ci := 3) (v := .ref ((ad 0) 0)) (C := RX5) (T := TX5) (N := 6) hx hb hts iX5_bestTied_X5 hown hG.1 hP 0 rfl rfl 0 (by decide) (hts (.fieldLink RX5 12 "MillComplaints" "now" "LMillComplaints$Village;") (List.mem_of_getElem? (i := 1) rfl)) (fun _ h9 => h9) rfl dX5_bestTied_1 ?_
  refine lv_iload_n hx hb dX5_bestTied_4 rfl (lv_at hl 1 rfl) ?_
  refine ro_V (v := .int (mX4_hasMill v a1)) (rest := []) (As := [.int a1]) hx hb hml hown hts hl (MX4_hasMill l D q (ad 0) v a1) gX5_bestTied_X4_hasMill rfl kX4_hasMill ⟨Nat.le_of_ble_eq_true rfl, Nat.le_of_ble_eq_true rfl⟩ rfl rfl (hP.sub (ws' := (wV q (ad 0) v)) [1, 2, 3, 4, 5, 6, 7, 8, 9, 10] rfl) (dT (hD.sub (ws' := (wV q (ad 0) v)) [1, 2, 3, 4, 5, 6, 7, 8, 9, 10] (by decide) rfl)) hG (ci := 2) rfl rfl rfl rfl (Nat.le_of_ble_eq_true rfl) dX5_bestTied_5 ⟨Nat.zero_le _, Nat.zero_le _⟩ ?_
  refine lv_if_ne (tgt := 13) hx hb dX5_bestTied_8 (by decide) (fun c_1 => ?_) (fun c_1 => ?_)
  · rw [if_neg c_1] at hR
    refine lv_bipush (v := (-5)) hx hb dX5_bestTied_13 (by decide) ?_
    refine lv_istore_n (lv' := [(2, .int (-5)), (0, .ref (ad 9 0)), (1, .int a1)]) hx hb dX5_bestTied_15 rfl hl (by decide) rfl (fun ls hl => ?_)
    refine lv_iconst (v := 0) hx hb dX5_bestTied_16 (by decide) ?_
    refine lv_istore_n (lv' := [(3, .int 0), (2, .int (-5)), (0, .ref (ad 9 0)), (1, .int a1)]) hx hb dX5_bestTied_17 rfl hl (by decide) rfl (fun ls hl => ?_)
    refine lv_iconst (v := 0) hx hb dX5_bestTied_18 (by decide) ?_
    refine lv_istore (lv' := [(4, .int 0), (3, .int 0), (2, .int (-5)), (0, .ref (ad 9 0)), (1, .int a1)]) hx hb dX5_bestTied_19 hl (by decide) rfl (fun ls hl => ?_)
    have key_21 : ∀ (n_21 : Nat) (x4_21 : Int32) (x3_21 : Int32) (x2_21 : Int32), tr x4_21 24 = n_21 → mX5_bestTied_21 v a1 (fun x4_21 x3_21 x2_21 => x2_21) n_21 x4_21 x3_21 x2_21 = R → ∀ ls : Array Slot, lv_has ls 7 [(4, .int x4_21), (3, .int x3_21), (2, .int x2_21), (0, .ref (ad 9 0)), (1, .int a1)] → W p l e ({ frames := 5, cells := 0, slots := 0, locals := 121 } : Room) s m ([.ref (ad 9 0), .int a1] : List Value).toArray below meth c s.heap [] 0 0 (MQ below (roQ (some (.int R))) ([.ref (ad 9 0), .int a1] : List Value).toArray s 0 0 (fun _ => False)) (F0 m 21 ls []) := by
      intro n_21
      induction n_21 with
      | zero =>
        intro x4_21 x3_21 x2_21 hn_21 hR ls hl
        rw [mX5_bestTied_21] at hR
        refine lv_iload hx hb dX5_bestTied_21 (lv_at hl 0 rfl) ?_
        refine lv_bipush (v := 24) hx hb dX5_bestTied_23 (by decide) ?_
        refine lv_icmp_ge (tgt := 119) hx hb dX5_bestTied_25 (by decide) (fun c_2 => ?_) (fun c_2 => (tr0 hn_21 c_2).elim)
        refine lv_iload_n hx hb dX5_bestTied_119 rfl (lv_at hl 2 rfl) ?_
        exact ro_iret hx hb hr hk hR dX5_bestTied_120
      | succ n_21 ih_21 =>
        intro x4_21 x3_21 x2_21 hn_21 hR ls hl
        rw [mX5_bestTied_21] at hR
        refine lv_iload hx hb dX5_bestTied_21 (lv_at hl 0 rfl) ?_
        refine lv_bipush (v := 24) hx hb dX5_bestTied_23 (by decide) ?_
        refine lv_icmp_ge (tgt := 119) hx hb dX5_bestTied_25 (by decide) (fun c_2 => (trS hn_21 c_2).elim) (fun c_2 => ?_)
        refine lv_aload_n hx hb dX5_bestTied_28 rfl (lv_at hl 3 rfl) ?_
        refine va_get (D := D) (ci := 3) (v := .ref ((ad 0) 0)) (C := RX5) (T := TX5) (N := 6) hx hb hts iX5_bestTied_X5 hown hG.1 hP 0 rfl rfl 0 (by decide) (hts (.fieldLink RX5 12 "MillComplaints" "now" "LMillComplaints$Village;") (List.mem_of_getElem? (i := 1) rfl)) (fun _ h9 => h9) rfl dX5_bestTied_29 ?_
        refine lv_iload_n hx hb dX5_bestTied_32 rfl (lv_at hl 4 rfl) ?_
        refine lv_iload hx hb dX5_bestTied_33 (lv_at hl 0 rfl) ?_
        refine ro_V (v := .int (mX4_turns v a1 x4_21)) (rest := []) (As := [.int a1, .int x4_21]) hx hb hml hown hts hl (MX4_turns l D q (ad 0) v a1 x4_21) gX5_bestTied_X4_turns rfl kX4_turns ⟨Nat.le_of_ble_eq_true rfl, Nat.le_of_ble_eq_true rfl⟩ rfl rfl (hP.sub (ws' := (wV q (ad 0) v)) [1, 2, 3, 4, 5, 6, 7, 8, 9, 10] rfl) (dT (hD.sub (ws' := (wV q (ad 0) v)) [1, 2, 3, 4, 5, 6, 7, 8, 9, 10] (by decide) rfl)) hG (ci := 2) rfl rfl rfl rfl (Nat.le_of_ble_eq_true rfl) dX5_bestTied_35 ⟨Nat.zero_le _, Nat.zero_le _⟩ ?_
        refine lv_if_eq (tgt := 54) hx hb dX5_bestTied_38 (by decide) (fun c_3 => ?_) (fun c_3 => ?_)
        · rw [if_pos c_3] at hR
          refine lv_iconst (v := 0) hx hb dX5_bestTied_54 (by decide) ?_
          refine lv_istore (lv' := [(5, .int 0), (4, .int x4_21), (3, .int x3_21), (2, .int x2_21), (0, .ref (ad 9 0)), (1, .int a1)]) hx hb dX5_bestTied_55 hl (by decide) rfl (fun ls hl => ?_)
          refine lv_iload_n hx hb dX5_bestTied_57 rfl (lv_at hl 3 rfl) ?_
          refine lv_bipush (v := (-5)) hx hb dX5_bestTied_58 (by decide) ?_
          refine lv_icmp_eq (tgt := 87) hx hb dX5_bestTied_60 (by decide) (fun c_4 => ?_) (fun c_4 => ?_)
          · rw [if_pos c_4] at hR
            refine lv_iconst (v := 0) hx hb dX5_bestTied_87 (by decide) ?_
            refine lv_istore (lv' := [(6, .int 0), (5, .int 0), (4, .int x4_21), (3, .int x3_21), (2, .int x2_21), (0, .ref (ad 9 0)), (1, .int a1)]) hx hb dX5_bestTied_88 hl (by decide) rfl (fun ls hl => ?_)
            refine lv_iload hx hb dX5_bestTied_90 (lv_at hl 1 rfl) ?_
            refine lv_iload_n hx hb dX5_bestTied_92 rfl (lv_at hl 3 rfl) ?_
            refine lv_icmp_gt (tgt := 107) hx hb dX5_bestTied_93 (by decide) (fun c_5 => ?_) (fun c_5 => ?_)
            · rw [if_pos c_5] at hR
              refine lv_iload hx hb dX5_bestTied_107 (lv_at hl 1 rfl) ?_
              refine lv_istore_n (lv' := [(3, .int 0), (6, .int 0), (5, .int 0), (4, .int x4_21), (2, .int x2_21), (0, .ref (ad 9 0)), (1, .int a1)]) hx hb dX5_bestTied_109 rfl hl (by decide) rfl (fun ls hl => ?_)
              refine lv_iload hx hb dX5_bestTied_110 (lv_at hl 3 rfl) ?_
              refine lv_istore_n (lv' := [(2, .int x4_21), (3, .int 0), (6, .int 0), (5, .int 0), (4, .int x4_21), (0, .ref (ad 9 0)), (1, .int a1)]) hx hb dX5_bestTied_112 rfl hl (by decide) rfl (fun ls hl => ?_)
              refine lv_iinc (v := (x4_21 + 1)) (lv' := [(4, .int (x4_21 + 1)), (2, .int x4_21), (3, .int 0), (6, .int 0), (5, .int 0), (0, .ref (ad 9 0)), (1, .int a1)]) hx hb dX5_bestTied_113 hl (k := 4) rfl rfl (by decide) rfl (fun ls hl => ?_)
              refine lv_goto (tgt := 21) hx hb dX5_bestTied_116 (by decide) ?_
              exact ih_21 (x4_21 + 1) 0 x4_21 (trN hn_21) hR ls (lv_sub hl [0, 2, 1, 5, 6] rfl)
            · rw [if_neg c_5] at hR
              refine lv_iload hx hb dX5_bestTied_96 (lv_at hl 1 rfl) ?_
              refine lv_iload_n hx hb dX5_bestTied_98 rfl (lv_at hl 3 rfl) ?_
              refine lv_icmp_ne (tgt := 113) hx hb dX5_bestTied_99 (by decide) (fun c_6 => ?_) (fun c_6 => ?_)
              · rw [if_neg c_6] at hR
                refine lv_iinc (v := (x4_21 + 1)) (lv' := [(4, .int (x4_21 + 1)), (6, .int 0), (5, .int 0), (3, .int x3_21), (2, .int x2_21), (0, .ref (ad 9 0)), (1, .int a1)]) hx hb dX5_bestTied_113 hl (k := 2) rfl rfl (by decide) rfl (fun ls hl => ?_)
                refine lv_goto (tgt := 21) hx hb dX5_bestTied_116 (by decide) ?_
                exact ih_21 (x4_21 + 1) x3_21 x2_21 (trN hn_21) hR ls (lv_sub hl [0, 3, 4, 5, 6] rfl)
              · rw [if_pos c_6] at hR
                refine lv_iload hx hb dX5_bestTied_102 (lv_at hl 0 rfl) ?_
                refine lv_if_eq (tgt := 113) hx hb dX5_bestTied_104 (by decide) (fun _ => ?_) (fun c_7 => absurd (by decide) c_7)
                refine lv_iinc (v := (x4_21 + 1)) (lv' := [(4, .int (x4_21 + 1)), (6, .int 0), (5, .int 0), (3, .int x3_21), (2, .int x2_21), (0, .ref (ad 9 0)), (1, .int a1)]) hx hb dX5_bestTied_113 hl (k := 2) rfl rfl (by decide) rfl (fun ls hl => ?_)
                refine lv_goto (tgt := 21) hx hb dX5_bestTied_116 (by decide) ?_
                exact ih_21 (x4_21 + 1) x3_21 x2_21 (trN hn_21) hR ls (lv_sub hl [0, 3, 4, 5, 6] rfl)
          · rw [if_neg c_4] at hR
            refine lv_aload_n hx hb dX5_bestTied_63 rfl (lv_at hl 4 rfl) ?_
            refine va_get (D := D) (ci := 3) (v := .ref ((ad 0) 0)) (C := RX5) (T := TX5) (N := 6) hx hb hts iX5_bestTied_X5 hown hG.1 hP 0 rfl rfl 0 (by decide) (hts (.fieldLink RX5 12 "MillComplaints" "now" "LMillComplaints$Village;") (List.mem_of_getElem? (i := 1) rfl)) (fun _ h9 => h9) rfl dX5_bestTied_64 ?_
            refine lv_iload hx hb dX5_bestTied_67 (lv_at hl 1 rfl) ?_
            refine ro_V (v := .int (mX4_windAt v x4_21)) (rest := []) (As := [.int x4_21]) hx hb hml hown hts hl (MX4_windAt l D q (ad 0) v x4_21) gX5_bestTied_X4_windAt rfl kX4_windAt ⟨Nat.le_of_ble_eq_true rfl, Nat.le_of_ble_eq_true rfl⟩ rfl rfl (hP.sub (ws' := (wV q (ad 0) v)) [1, 2, 3, 4, 5, 6, 7, 8, 9, 10] rfl) (dT (hD.sub (ws' := (wV q (ad 0) v)) [1, 2, 3, 4, 5, 6, 7, 8, 9, 10] (by decide) rfl)) hG (ci := 2) rfl rfl rfl rfl (Nat.le_of_ble_eq_true rfl) dX5_bestTied_69 ⟨Nat.zero_le _, Nat.zero_le _⟩ ?_
            refine lv_aload_n hx hb dX5_bestTied_72 rfl (lv_at hl 4 rfl) ?_
            refine va_get (D := D) (ci := 3) (v := .ref ((ad 0) 0)) (C := RX5) (T := TX5) (N := 6) hx hb hts iX5_bestTied_X5 hown hG.1 hP 0 rfl rfl 0 (by decide) (hts (.fieldLink RX5 12 "MillComplaints" "now" "LMillComplaints$Village;") (List.mem_of_getElem? (i := 1) rfl)) (fun _ h9 => h9) rfl dX5_bestTied_73 ?_
            refine lv_iload_n hx hb dX5_bestTied_76 rfl (lv_at hl 3 rfl) ?_
            refine ro_V (v := .int (mX4_windAt v x2_21)) (rest := [.int (mX4_windAt v x4_21)]) (As := [.int x2_21]) hx hb hml hown hts hl (MX4_windAt l D q (ad 0) v x2_21) gX5_bestTied_X4_windAt rfl kX4_windAt ⟨Nat.le_of_ble_eq_true rfl, Nat.le_of_ble_eq_true rfl⟩ rfl rfl (hP.sub (ws' := (wV q (ad 0) v)) [1, 2, 3, 4, 5, 6, 7, 8, 9, 10] rfl) (dT (hD.sub (ws' := (wV q (ad 0) v)) [1, 2, 3, 4, 5, 6, 7, 8, 9, 10] (by decide) rfl)) hG (ci := 2) rfl rfl rfl rfl (Nat.le_of_ble_eq_true rfl) dX5_bestTied_77 ⟨Nat.zero_le _, Nat.zero_le _⟩ ?_
            refine lv_icmp_ge (tgt := 87) hx hb dX5_bestTied_80 (by decide) (fun c_8 => ?_) (fun c_8 => ?_)
            · rw [if_pos c_8] at hR
              refine lv_iconst (v := 0) hx hb dX5_bestTied_87 (by decide) ?_
              refine lv_istore (lv' := [(6, .int 0), (5, .int 0), (4, .int x4_21), (3, .int x3_21), (2, .int x2_21), (0, .ref (ad 9 0)), (1, .int a1)]) hx hb dX5_bestTied_88 hl (by decide) rfl (fun ls hl => ?_)
              refine lv_iload hx hb dX5_bestTied_90 (lv_at hl 1 rfl) ?_
              refine lv_iload_n hx hb dX5_bestTied_92 rfl (lv_at hl 3 rfl) ?_
              refine lv_icmp_gt (tgt := 107) hx hb dX5_bestTied_93 (by decide) (fun c_9 => ?_) (fun c_9 => ?_)
              · rw [if_pos c_9] at hR
                refine lv_iload hx hb dX5_bestTied_107 (lv_at hl 1 rfl) ?_
                refine lv_istore_n (lv' := [(3, .int 0), (6, .int 0), (5, .int 0), (4, .int x4_21), (2, .int x2_21), (0, .ref (ad 9 0)), (1, .int a1)]) hx hb dX5_bestTied_109 rfl hl (by decide) rfl (fun ls hl => ?_)
                refine lv_iload hx hb dX5_bestTied_110 (lv_at hl 3 rfl) ?_
                refine lv_istore_n (lv' := [(2, .int x4_21), (3, .int 0), (6, .int 0), (5, .int 0), (4, .int x4_21), (0, .ref (ad 9 0)), (1, .int a1)]) hx hb dX5_bestTied_112 rfl hl (by decide) rfl (fun ls hl => ?_)
                refine lv_iinc (v := (x4_21 + 1)) (lv' := [(4, .int (x4_21 + 1)), (2, .int x4_21), (3, .int 0), (6, .int 0), (5, .int 0), (0, .ref (ad 9 0)), (1, .int a1)]) hx hb dX5_bestTied_113 hl (k := 4) rfl rfl (by decide) rfl (fun ls hl => ?_)
                refine lv_goto (tgt := 21) hx hb dX5_bestTied_116 (by decide) ?_
                exact ih_21 (x4_21 + 1) 0 x4_21 (trN hn_21) hR ls (lv_sub hl [0, 2, 1, 5, 6] rfl)
              · rw [if_neg c_9] at hR
                refine lv_iload hx hb dX5_bestTied_96 (lv_at hl 1 rfl) ?_
                refine lv_iload_n hx hb dX5_bestTied_98 rfl (lv_at hl 3 rfl) ?_
                refine lv_icmp_ne (tgt := 113) hx hb dX5_bestTied_99 (by decide) (fun c_10 => ?_) (fun c_10 => ?_)
                · rw [if_neg c_10] at hR
                  refine lv_iinc (v := (x4_21 + 1)) (lv' := [(4, .int (x4_21 + 1)), (6, .int 0), (5, .int 0), (3, .int x3_21), (2, .int x2_21), (0, .ref (ad 9 0)), (1, .int a1)]) hx hb dX5_bestTied_113 hl (k := 2) rfl rfl (by decide) rfl (fun ls hl => ?_)
                  refine lv_goto (tgt := 21) hx hb dX5_bestTied_116 (by decide) ?_
                  exact ih_21 (x4_21 + 1) x3_21 x2_21 (trN hn_21) hR ls (lv_sub hl [0, 3, 4, 5, 6] rfl)
                · rw [if_pos c_10] at hR
                  refine lv_iload hx hb dX5_bestTied_102 (lv_at hl 0 rfl) ?_
                  refine lv_if_eq (tgt := 113) hx hb dX5_bestTied_104 (by decide) (fun _ => ?_) (fun c_11 => absurd (by decide) c_11)
                  refine lv_iinc (v := (x4_21 + 1)) (lv' := [(4, .int (x4_21 + 1)), (6, .int 0), (5, .int 0), (3, .int x3_21), (2, .int x2_21), (0, .ref (ad 9 0)), (1, .int a1)]) hx hb dX5_bestTied_113 hl (k := 2) rfl rfl (by decide) rfl (fun ls hl => ?_)
                  refine lv_goto (tgt := 21) hx hb dX5_bestTied_116 (by decide) ?_
                  exact ih_21 (x4_21 + 1) x3_21 x2_21 (trN hn_21) hR ls (lv_sub hl [0, 3, 4, 5, 6] rfl)
            · rw [if_neg c_8] at hR
              refine lv_iconst (v := 1) hx hb dX5_bestTied_83 (by decide) ?_
              refine lv_goto (tgt := 88) hx hb dX5_bestTied_84 (by decide) ?_
              refine lv_istore (lv' := [(6, .int 1), (5, .int 0), (4, .int x4_21), (3, .int x3_21), (2, .int x2_21), (0, .ref (ad 9 0)), (1, .int a1)]) hx hb dX5_bestTied_88 hl (by decide) rfl (fun ls hl => ?_)
              refine lv_iload hx hb dX5_bestTied_90 (lv_at hl 1 rfl) ?_
              refine lv_iload_n hx hb dX5_bestTied_92 rfl (lv_at hl 3 rfl) ?_
              refine lv_icmp_gt (tgt := 107) hx hb dX5_bestTied_93 (by decide) (fun c_12 => ?_) (fun c_12 => ?_)
              · rw [if_pos c_12] at hR
                refine lv_iload hx hb dX5_bestTied_107 (lv_at hl 1 rfl) ?_
                refine lv_istore_n (lv' := [(3, .int 0), (6, .int 1), (5, .int 0), (4, .int x4_21), (2, .int x2_21), (0, .ref (ad 9 0)), (1, .int a1)]) hx hb dX5_bestTied_109 rfl hl (by decide) rfl (fun ls hl => ?_)
                refine lv_iload hx hb dX5_bestTied_110 (lv_at hl 3 rfl) ?_
                refine lv_istore_n (lv' := [(2, .int x4_21), (3, .int 0), (6, .int 1), (5, .int 0), (4, .int x4_21), (0, .ref (ad 9 0)), (1, .int a1)]) hx hb dX5_bestTied_112 rfl hl (by decide) rfl (fun ls hl => ?_)
                refine lv_iinc (v := (x4_21 + 1)) (lv' := [(4, .int (x4_21 + 1)), (2, .int x4_21), (3, .int 0), (6, .int 1), (5, .int 0), (0, .ref (ad 9 0)), (1, .int a1)]) hx hb dX5_bestTied_113 hl (k := 4) rfl rfl (by decide) rfl (fun ls hl => ?_)
                refine lv_goto (tgt := 21) hx hb dX5_bestTied_116 (by decide) ?_
                exact ih_21 (x4_21 + 1) 0 x4_21 (trN hn_21) hR ls (lv_sub hl [0, 2, 1, 5, 6] rfl)
              · rw [if_neg c_12] at hR
                refine lv_iload hx hb dX5_bestTied_96 (lv_at hl 1 rfl) ?_
                refine lv_iload_n hx hb dX5_bestTied_98 rfl (lv_at hl 3 rfl) ?_
                refine lv_icmp_ne (tgt := 113) hx hb dX5_bestTied_99 (by decide) (fun c_13 => ?_) (fun c_13 => ?_)
                · rw [if_neg c_13] at hR
                  refine lv_iinc (v := (x4_21 + 1)) (lv' := [(4, .int (x4_21 + 1)), (6, .int 1), (5, .int 0), (3, .int x3_21), (2, .int x2_21), (0, .ref (ad 9 0)), (1, .int a1)]) hx hb dX5_bestTied_113 hl (k := 2) rfl rfl (by decide) rfl (fun ls hl => ?_)
                  refine lv_goto (tgt := 21) hx hb dX5_bestTied_116 (by decide) ?_
                  exact ih_21 (x4_21 + 1) x3_21 x2_21 (trN hn_21) hR ls (lv_sub hl [0, 3, 4, 5, 6] rfl)
                · rw [if_pos c_13] at hR
                  refine lv_iload hx hb dX5_bestTied_102 (lv_at hl 0 rfl) ?_
                  refine lv_if_eq (tgt := 113) hx hb dX5_bestTied_104 (by decide) (fun c_14 => absurd c_14 (by decide)) (fun _ => ?_)
                  refine lv_iload hx hb dX5_bestTied_107 (lv_at hl 1 rfl) ?_
                  refine lv_istore_n (lv' := [(3, .int 0), (6, .int 1), (5, .int 0), (4, .int x4_21), (2, .int x2_21), (0, .ref (ad 9 0)), (1, .int a1)]) hx hb dX5_bestTied_109 rfl hl (by decide) rfl (fun ls hl => ?_)
                  refine lv_iload hx hb dX5_bestTied_110 (lv_at hl 3 rfl) ?_
                  refine lv_istore_n (lv' := [(2, .int x4_21), (3, .int 0), (6, .int 1), (5, .int 0), (4, .int x4_21), (0, .ref (ad 9 0)), (1, .int a1)]) hx hb dX5_bestTied_112 rfl hl (by decide) rfl (fun ls hl => ?_)
                  refine lv_iinc (v := (x4_21 + 1)) (lv' := [(4, .int (x4_21 + 1)), (2, .int x4_21), (3, .int 0), (6, .int 1), (5, .int 0), (0, .ref (ad 9 0)), (1, .int a1)]) hx hb dX5_bestTied_113 hl (k := 4) rfl rfl (by decide) rfl (fun ls hl => ?_)
                  refine lv_goto (tgt := 21) hx hb dX5_bestTied_116 (by decide) ?_
                  exact ih_21 (x4_21 + 1) 0 x4_21 (trN hn_21) hR ls (lv_sub hl [0, 2, 1, 5, 6] rfl)
        · rw [if_neg c_3] at hR
          refine lv_aload_n hx hb dX5_bestTied_41 rfl (lv_at hl 3 rfl) ?_
          refine va_get (D := D) (ci := 3) (v := .ref ((ad 0) 0)) (C := RX5) (T := TX5) (N := 6) hx hb hts iX5_bestTied_X5 hown hG.1 hP 0 rfl rfl 0 (by decide) (hts (.fieldLink RX5 12 "MillComplaints" "now" "LMillComplaints$Village;") (List.mem_of_getElem? (i := 1) rfl)) (fun _ h9 => h9) rfl dX5_bestTied_42 ?_
          refine lv_iload_n hx hb dX5_bestTied_45 rfl (lv_at hl 4 rfl) ?_
          refine lv_iload hx hb dX5_bestTied_46 (lv_at hl 0 rfl) ?_
          refine ro_V (v := .int (mX4_troubledIfUntied v a1 x4_21)) (rest := []) (As := [.int a1, .int x4_21]) hx hb hml hown hts hl (MX4_troubledIfUntied l D q (ad 0) v a1 x4_21) gX5_bestTied_X4_troubledIfUntied rfl kX4_troubledIfUntied ⟨Nat.le_of_ble_eq_true rfl, Nat.le_of_ble_eq_true rfl⟩ rfl rfl (hP.sub (ws' := (wV q (ad 0) v)) [1, 2, 3, 4, 5, 6, 7, 8, 9, 10] rfl) (dT (hD.sub (ws' := (wV q (ad 0) v)) [1, 2, 3, 4, 5, 6, 7, 8, 9, 10] (by decide) rfl)) hG (ci := 2) rfl rfl rfl rfl (Nat.le_of_ble_eq_true rfl) dX5_bestTied_48 ⟨Nat.zero_le _, Nat.zero_le _⟩ ?_
          refine lv_goto (tgt := 55) hx hb dX5_bestTied_51 (by decide) ?_
          refine lv_istore (lv' := [(5, .int (mX4_troubledIfUntied v a1 x4_21)), (4, .int x4_21), (3, .int x3_21), (2, .int x2_21), (0, .ref (ad 9 0)), (1, .int a1)]) hx hb dX5_bestTied_55 hl (by decide) rfl (fun ls hl => ?_)
          refine lv_iload_n hx hb dX5_bestTied_57 rfl (lv_at hl 3 rfl) ?_
          refine lv_bipush (v := (-5)) hx hb dX5_bestTied_58 (by decide) ?_
          refine lv_icmp_eq (tgt := 87) hx hb dX5_bestTied_60 (by decide) (fun c_15 => ?_) (fun c_15 => ?_)
          · rw [if_pos c_15] at hR
            refine lv_iconst (v := 0) hx hb dX5_bestTied_87 (by decide) ?_
            refine lv_istore (lv' := [(6, .int 0), (5, .int (mX4_troubledIfUntied v a1 x4_21)), (4, .int x4_21), (3, .int x3_21), (2, .int x2_21), (0, .ref (ad 9 0)), (1, .int a1)]) hx hb dX5_bestTied_88 hl (by decide) rfl (fun ls hl => ?_)
            refine lv_iload hx hb dX5_bestTied_90 (lv_at hl 1 rfl) ?_
            refine lv_iload_n hx hb dX5_bestTied_92 rfl (lv_at hl 3 rfl) ?_
            refine lv_icmp_gt (tgt := 107) hx hb dX5_bestTied_93 (by decide) (fun c_16 => ?_) (fun c_16 => ?_)
            · rw [if_pos c_16] at hR
              refine lv_iload hx hb dX5_bestTied_107 (lv_at hl 1 rfl) ?_
              refine lv_istore_n (lv' := [(3, .int (mX4_troubledIfUntied v a1 x4_21)), (6, .int 0), (5, .int (mX4_troubledIfUntied v a1 x4_21)), (4, .int x4_21), (2, .int x2_21), (0, .ref (ad 9 0)), (1, .int a1)]) hx hb dX5_bestTied_109 rfl hl (by decide) rfl (fun ls hl => ?_)
              refine lv_iload hx hb dX5_bestTied_110 (lv_at hl 3 rfl) ?_
              refine lv_istore_n (lv' := [(2, .int x4_21), (3, .int (mX4_troubledIfUntied v a1 x4_21)), (6, .int 0), (5, .int (mX4_troubledIfUntied v a1 x4_21)), (4, .int x4_21), (0, .ref (ad 9 0)), (1, .int a1)]) hx hb dX5_bestTied_112 rfl hl (by decide) rfl (fun ls hl => ?_)
              refine lv_iinc (v := (x4_21 + 1)) (lv' := [(4, .int (x4_21 + 1)), (2, .int x4_21), (3, .int (mX4_troubledIfUntied v a1 x4_21)), (6, .int 0), (5, .int (mX4_troubledIfUntied v a1 x4_21)), (0, .ref (ad 9 0)), (1, .int a1)]) hx hb dX5_bestTied_113 hl (k := 4) rfl rfl (by decide) rfl (fun ls hl => ?_)
              refine lv_goto (tgt := 21) hx hb dX5_bestTied_116 (by decide) ?_
              exact ih_21 (x4_21 + 1) (mX4_troubledIfUntied v a1 x4_21) x4_21 (trN hn_21) hR ls (lv_sub hl [0, 2, 1, 5, 6] rfl)
            · rw [if_neg c_16] at hR
              refine lv_iload hx hb dX5_bestTied_96 (lv_at hl 1 rfl) ?_
              refine lv_iload_n hx hb dX5_bestTied_98 rfl (lv_at hl 3 rfl) ?_
              refine lv_icmp_ne (tgt := 113) hx hb dX5_bestTied_99 (by decide) (fun c_17 => ?_) (fun c_17 => ?_)
              · rw [if_neg c_17] at hR
                refine lv_iinc (v := (x4_21 + 1)) (lv' := [(4, .int (x4_21 + 1)), (6, .int 0), (5, .int (mX4_troubledIfUntied v a1 x4_21)), (3, .int x3_21), (2, .int x2_21), (0, .ref (ad 9 0)), (1, .int a1)]) hx hb dX5_bestTied_113 hl (k := 2) rfl rfl (by decide) rfl (fun ls hl => ?_)
                refine lv_goto (tgt := 21) hx hb dX5_bestTied_116 (by decide) ?_
                exact ih_21 (x4_21 + 1) x3_21 x2_21 (trN hn_21) hR ls (lv_sub hl [0, 3, 4, 5, 6] rfl)
              · rw [if_pos c_17] at hR
                refine lv_iload hx hb dX5_bestTied_102 (lv_at hl 0 rfl) ?_
                refine lv_if_eq (tgt := 113) hx hb dX5_bestTied_104 (by decide) (fun _ => ?_) (fun c_18 => absurd (by decide) c_18)
                refine lv_iinc (v := (x4_21 + 1)) (lv' := [(4, .int (x4_21 + 1)), (6, .int 0), (5, .int (mX4_troubledIfUntied v a1 x4_21)), (3, .int x3_21), (2, .int x2_21), (0, .ref (ad 9 0)), (1, .int a1)]) hx hb dX5_bestTied_113 hl (k := 2) rfl rfl (by decide) rfl (fun ls hl => ?_)
                refine lv_goto (tgt := 21) hx hb dX5_bestTied_116 (by decide) ?_
                exact ih_21 (x4_21 + 1) x3_21 x2_21 (trN hn_21) hR ls (lv_sub hl [0, 3, 4, 5, 6] rfl)
          · rw [if_neg c_15] at hR
            refine lv_aload_n hx hb dX5_bestTied_63 rfl (lv_at hl 4 rfl) ?_
            refine va_get (D := D) (ci := 3) (v := .ref ((ad 0) 0)) (C := RX5) (T := TX5) (N := 6) hx hb hts iX5_bestTied_X5 hown hG.1 hP 0 rfl rfl 0 (by decide) (hts (.fieldLink RX5 12 "MillComplaints" "now" "LMillComplaints$Village;") (List.mem_of_getElem? (i := 1) rfl)) (fun _ h9 => h9) rfl dX5_bestTied_64 ?_
            refine lv_iload hx hb dX5_bestTied_67 (lv_at hl 1 rfl) ?_
            refine ro_V (v := .int (mX4_windAt v x4_21)) (rest := []) (As := [.int x4_21]) hx hb hml hown hts hl (MX4_windAt l D q (ad 0) v x4_21) gX5_bestTied_X4_windAt rfl kX4_windAt ⟨Nat.le_of_ble_eq_true rfl, Nat.le_of_ble_eq_true rfl⟩ rfl rfl (hP.sub (ws' := (wV q (ad 0) v)) [1, 2, 3, 4, 5, 6, 7, 8, 9, 10] rfl) (dT (hD.sub (ws' := (wV q (ad 0) v)) [1, 2, 3, 4, 5, 6, 7, 8, 9, 10] (by decide) rfl)) hG (ci := 2) rfl rfl rfl rfl (Nat.le_of_ble_eq_true rfl) dX5_bestTied_69 ⟨Nat.zero_le _, Nat.zero_le _⟩ ?_
            refine lv_aload_n hx hb dX5_bestTied_72 rfl (lv_at hl 4 rfl) ?_
            refine va_get (D := D) (ci := 3) (v := .ref ((ad 0) 0)) (C := RX5) (T := TX5) (N := 6) hx hb hts iX5_bestTied_X5 hown hG.1 hP 0 rfl rfl 0 (by decide) (hts (.fieldLink RX5 12 "MillComplaints" "now" "LMillComplaints$Village;") (List.mem_of_getElem? (i := 1) rfl)) (fun _ h9 => h9) rfl dX5_bestTied_73 ?_
            refine lv_iload_n hx hb dX5_bestTied_76 rfl (lv_at hl 3 rfl) ?_
            refine ro_V (v := .int (mX4_windAt v x2_21)) (rest := [.int (mX4_windAt v x4_21)]) (As := [.int x2_21]) hx hb hml hown hts hl (MX4_windAt l D q (ad 0) v x2_21) gX5_bestTied_X4_windAt rfl kX4_windAt ⟨Nat.le_of_ble_eq_true rfl, Nat.le_of_ble_eq_true rfl⟩ rfl rfl (hP.sub (ws' := (wV q (ad 0) v)) [1, 2, 3, 4, 5, 6, 7, 8, 9, 10] rfl) (dT (hD.sub (ws' := (wV q (ad 0) v)) [1, 2, 3, 4, 5, 6, 7, 8, 9, 10] (by decide) rfl)) hG (ci := 2) rfl rfl rfl rfl (Nat.le_of_ble_eq_true rfl) dX5_bestTied_77 ⟨Nat.zero_le _, Nat.zero_le _⟩ ?_
            refine lv_icmp_ge (tgt := 87) hx hb dX5_bestTied_80 (by decide) (fun c_19 => ?_) (fun c_19 => ?_)
            · rw [if_pos c_19] at hR
              refine lv_iconst (v := 0) hx hb dX5_bestTied_87 (by decide) ?_
              refine lv_istore (lv' := [(6, .int 0), (5, .int (mX4_troubledIfUntied v a1 x4_21)), (4, .int x4_21), (3, .int x3_21), (2, .int x2_21), (0, .ref (ad 9 0)), (1, .int a1)]) hx hb dX5_bestTied_88 hl (by decide) rfl (fun ls hl => ?_)
              refine lv_iload hx hb dX5_bestTied_90 (lv_at hl 1 rfl) ?_
              refine lv_iload_n hx hb dX5_bestTied_92 rfl (lv_at hl 3 rfl) ?_
              refine lv_icmp_gt (tgt := 107) hx hb dX5_bestTied_93 (by decide) (fun c_20 => ?_) (fun c_20 => ?_)
              · rw [if_pos c_20] at hR
                refine lv_iload hx hb dX5_bestTied_107 (lv_at hl 1 rfl) ?_
                refine lv_istore_n (lv' := [(3, .int (mX4_troubledIfUntied v a1 x4_21)), (6, .int 0), (5, .int (mX4_troubledIfUntied v a1 x4_21)), (4, .int x4_21), (2, .int x2_21), (0, .ref (ad 9 0)), (1, .int a1)]) hx hb dX5_bestTied_109 rfl hl (by decide) rfl (fun ls hl => ?_)
                refine lv_iload hx hb dX5_bestTied_110 (lv_at hl 3 rfl) ?_
                refine lv_istore_n (lv' := [(2, .int x4_21), (3, .int (mX4_troubledIfUntied v a1 x4_21)), (6, .int 0), (5, .int (mX4_troubledIfUntied v a1 x4_21)), (4, .int x4_21), (0, .ref (ad 9 0)), (1, .int a1)]) hx hb dX5_bestTied_112 rfl hl (by decide) rfl (fun ls hl => ?_)
                refine lv_iinc (v := (x4_21 + 1)) (lv' := [(4, .int (x4_21 + 1)), (2, .int x4_21), (3, .int (mX4_troubledIfUntied v a1 x4_21)), (6, .int 0), (5, .int (mX4_troubledIfUntied v a1 x4_21)), (0, .ref (ad 9 0)), (1, .int a1)]) hx hb dX5_bestTied_113 hl (k := 4) rfl rfl (by decide) rfl (fun ls hl => ?_)
                refine lv_goto (tgt := 21) hx hb dX5_bestTied_116 (by decide) ?_
                exact ih_21 (x4_21 + 1) (mX4_troubledIfUntied v a1 x4_21) x4_21 (trN hn_21) hR ls (lv_sub hl [0, 2, 1, 5, 6] rfl)
              · rw [if_neg c_20] at hR
                refine lv_iload hx hb dX5_bestTied_96 (lv_at hl 1 rfl) ?_
                refine lv_iload_n hx hb dX5_bestTied_98 rfl (lv_at hl 3 rfl) ?_
                refine lv_icmp_ne (tgt := 113) hx hb dX5_bestTied_99 (by decide) (fun c_21 => ?_) (fun c_21 => ?_)
                · rw [if_neg c_21] at hR
                  refine lv_iinc (v := (x4_21 + 1)) (lv' := [(4, .int (x4_21 + 1)), (6, .int 0), (5, .int (mX4_troubledIfUntied v a1 x4_21)), (3, .int x3_21), (2, .int x2_21), (0, .ref (ad 9 0)), (1, .int a1)]) hx hb dX5_bestTied_113 hl (k := 2) rfl rfl (by decide) rfl (fun ls hl => ?_)
                  refine lv_goto (tgt := 21) hx hb dX5_bestTied_116 (by decide) ?_
                  exact ih_21 (x4_21 + 1) x3_21 x2_21 (trN hn_21) hR ls (lv_sub hl [0, 3, 4, 5, 6] rfl)
                · rw [if_pos c_21] at hR
                  refine lv_iload hx hb dX5_bestTied_102 (lv_at hl 0 rfl) ?_
                  refine lv_if_eq (tgt := 113) hx hb dX5_bestTied_104 (by decide) (fun _ => ?_) (fun c_22 => absurd (by decide) c_22)
                  refine lv_iinc (v := (x4_21 + 1)) (lv' := [(4, .int (x4_21 + 1)), (6, .int 0), (5, .int (mX4_troubledIfUntied v a1 x4_21)), (3, .int x3_21), (2, .int x2_21), (0, .ref (ad 9 0)), (1, .int a1)]) hx hb dX5_bestTied_113 hl (k := 2) rfl rfl (by decide) rfl (fun ls hl => ?_)
                  refine lv_goto (tgt := 21) hx hb dX5_bestTied_116 (by decide) ?_
                  exact ih_21 (x4_21 + 1) x3_21 x2_21 (trN hn_21) hR ls (lv_sub hl [0, 3, 4, 5, 6] rfl)
            · rw [if_neg c_19] at hR
              refine lv_iconst (v := 1) hx hb dX5_bestTied_83 (by decide) ?_
              refine lv_goto (tgt := 88) hx hb dX5_bestTied_84 (by decide) ?_
              refine lv_istore (lv' := [(6, .int 1), (5, .int (mX4_troubledIfUntied v a1 x4_21)), (4, .int x4_21), (3, .int x3_21), (2, .int x2_21), (0, .ref (ad 9 0)), (1, .int a1)]) hx hb dX5_bestTied_88 hl (by decide) rfl (fun ls hl => ?_)
              refine lv_iload hx hb dX5_bestTied_90 (lv_at hl 1 rfl) ?_
              refine lv_iload_n hx hb dX5_bestTied_92 rfl (lv_at hl 3 rfl) ?_
              refine lv_icmp_gt (tgt := 107) hx hb dX5_bestTied_93 (by decide) (fun c_23 => ?_) (fun c_23 => ?_)
              · rw [if_pos c_23] at hR
                refine lv_iload hx hb dX5_bestTied_107 (lv_at hl 1 rfl) ?_
                refine lv_istore_n (lv' := [(3, .int (mX4_troubledIfUntied v a1 x4_21)), (6, .int 1), (5, .int (mX4_troubledIfUntied v a1 x4_21)), (4, .int x4_21), (2, .int x2_21), (0, .ref (ad 9 0)), (1, .int a1)]) hx hb dX5_bestTied_109 rfl hl (by decide) rfl (fun ls hl => ?_)
                refine lv_iload hx hb dX5_bestTied_110 (lv_at hl 3 rfl) ?_
                refine lv_istore_n (lv' := [(2, .int x4_21), (3, .int (mX4_troubledIfUntied v a1 x4_21)), (6, .int 1), (5, .int (mX4_troubledIfUntied v a1 x4_21)), (4, .int x4_21), (0, .ref (ad 9 0)), (1, .int a1)]) hx hb dX5_bestTied_112 rfl hl (by decide) rfl (fun ls hl => ?_)
                refine lv_iinc (v := (x4_21 + 1)) (lv' := [(4, .int (x4_21 + 1)), (2, .int x4_21), (3, .int (mX4_troubledIfUntied v a1 x4_21)), (6, .int 1), (5, .int (mX4_troubledIfUntied v a1 x4_21)), (0, .ref (ad 9 0)), (1, .int a1)]) hx hb dX5_bestTied_113 hl (k := 4) rfl rfl (by decide) rfl (fun ls hl => ?_)
                refine lv_goto (tgt := 21) hx hb dX5_bestTied_116 (by decide) ?_
                exact ih_21 (x4_21 + 1) (mX4_troubledIfUntied v a1 x4_21) x4_21 (trN hn_21) hR ls (lv_sub hl [0, 2, 1, 5, 6] rfl)
              · rw [if_neg c_23] at hR
                refine lv_iload hx hb dX5_bestTied_96 (lv_at hl 1 rfl) ?_
                refine lv_iload_n hx hb dX5_bestTied_98 rfl (lv_at hl 3 rfl) ?_
                refine lv_icmp_ne (tgt := 113) hx hb dX5_bestTied_99 (by decide) (fun c_24 => ?_) (fun c_24 => ?_)
                · rw [if_neg c_24] at hR
                  refine lv_iinc (v := (x4_21 + 1)) (lv' := [(4, .int (x4_21 + 1)), (6, .int 1), (5, .int (mX4_troubledIfUntied v a1 x4_21)), (3, .int x3_21), (2, .int x2_21), (0, .ref (ad 9 0)), (1, .int a1)]) hx hb dX5_bestTied_113 hl (k := 2) rfl rfl (by decide) rfl (fun ls hl => ?_)
                  refine lv_goto (tgt := 21) hx hb dX5_bestTied_116 (by decide) ?_
                  exact ih_21 (x4_21 + 1) x3_21 x2_21 (trN hn_21) hR ls (lv_sub hl [0, 3, 4, 5, 6] rfl)
                · rw [if_pos c_24] at hR
                  refine lv_iload hx hb dX5_bestTied_102 (lv_at hl 0 rfl) ?_
                  refine lv_if_eq (tgt := 113) hx hb dX5_bestTied_104 (by decide) (fun c_25 => absurd c_25 (by decide)) (fun _ => ?_)
                  refine lv_iload hx hb dX5_bestTied_107 (lv_at hl 1 rfl) ?_
                  refine lv_istore_n (lv' := [(3, .int (mX4_troubledIfUntied v a1 x4_21)), (6, .int 1), (5, .int (mX4_troubledIfUntied v a1 x4_21)), (4, .int x4_21), (2, .int x2_21), (0, .ref (ad 9 0)), (1, .int a1)]) hx hb dX5_bestTied_109 rfl hl (by decide) rfl (fun ls hl => ?_)
                  refine lv_iload hx hb dX5_bestTied_110 (lv_at hl 3 rfl) ?_
                  refine lv_istore_n (lv' := [(2, .int x4_21), (3, .int (mX4_troubledIfUntied v a1 x4_21)), (6, .int 1), (5, .int (mX4_troubledIfUntied v a1 x4_21)), (4, .int x4_21), (0, .ref (ad 9 0)), (1, .int a1)]) hx hb dX5_bestTied_112 rfl hl (by decide) rfl (fun ls hl => ?_)
                  refine lv_iinc (v := (x4_21 + 1)) (lv' := [(4, .int (x4_21 + 1)), (2, .int x4_21), (3, .int (mX4_troubledIfUntied v a1 x4_21)), (6, .int 1), (5, .int (mX4_troubledIfUntied v a1 x4_21)), (0, .ref (ad 9 0)), (1, .int a1)]) hx hb dX5_bestTied_113 hl (k := 4) rfl rfl (by decide) rfl (fun ls hl => ?_)
                  refine lv_goto (tgt := 21) hx hb dX5_bestTied_116 (by decide) ?_
                  exact ih_21 (x4_21 + 1) (mX4_troubledIfUntied v a1 x4_21) x4_21 (trN hn_21) hR ls (lv_sub hl [0, 2, 1, 5, 6] rfl)
    exact key_21 _ 0 0 (-5) rfl hR ls hl
  · rw [if_pos c_1] at hR
    refine lv_iconst (v := (-1)) hx hb dX5_bestTied_11 (by decide) ?_
    exact ro_iret hx hb hr hk hR dX5_bestTied_12

def mX5_ifVoted (v : Nat → Nat → Int32) (a1 a2 : Int32) : Int32 := (if (mX4_hasMill v a1) = 0 then (-1) else (if (mX5_isHour a2) = 0 then (-1) else (mX4_votesForUntying v a1 a2)))
theorem kX5_ifVoted : yX5_ifVoted.cls = RX5 ∧ yX5_ifVoted.cls ≠ "java/lang/invoke/MethodHandle" ∧ yX5_ifVoted.cls ≠ "java/lang/invoke/VarHandle" ∧ (parseMethodDescriptor yX5_ifVoted.desc).map (fun d => d.parameters.length) = some 2 := by decide +kernel
theorem iX5_ifVoted_X5 : ∀ w ∈ wsX50, w ∈ wsX5_ifVoted := fun w h => (List.mem_cons_of_mem _ (List.mem_append_left _ (List.mem_append_right _ h)))
set_option maxHeartbeats 4000000 in
set_option maxRecDepth 100000 in
theorem MX5_ifVoted (l : Launch) (D : va_G) (q : Nat → ClassId) (ad : Nat → Nat → Nat) (sn : Int32) (v : Nat → Nat → Int32) (a1 a2 : Int32)  : roM l D (tyq q) yX5_ifVoted wsX5_ifVoted ({ frames := 6, cells := 0, slots := 0, locals := 143 } : Room) [.ref (ad 9 0), .int a1, .int a2] (wXN q ad sn v) (some (.int (mX5_ifVoted v a1 a2))) := by
  obtain ⟨R, hR⟩ : ∃ z, (mX5_ifVoted v a1 a2) = z := ⟨_, rfl⟩
  rw [hR]
  unfold mX5_ifVoted at hR
  refine roM.of (cc := cX5_ifVoted) (maxL := 3) (ret := (some .int)) (by decide) rfl (Nat.le_of_ble_eq_true rfl) ?_
  intro p e s m below meth c ls hx hb hr hk hml hown hts hP hD hG hl
  have hl : lv_has ls 3 [(0, .ref (ad 9 0)), (1, .int a1), (2, .int a2)] := hl
  refine lv_aload_n hx hb dX5_ifVoted_0 rfl (lv_at hl 0 rfl) ?_
  refine va_get (D := D) (ci := 3) (v := .ref ((ad 0) 0)) (C := RX5) (T := TX5) (N := 6) hx hb hts iX5_ifVoted_X5 hown hG.1 hP 0 rfl rfl 0 (by decide) (hts (.fieldLink RX5 12 "MillComplaints" "now" "LMillComplaints$Village;") (List.mem_of_getElem? (i := 1) rfl)) (fun _ h9 => h9) rfl dX5_ifVoted_1 ?_
  refine lv_iload_n hx hb dX5_ifVoted_4 rfl (lv_at hl 1 rfl) ?_
  refine ro_V (v := .int (mX4_hasMill v a1)) (rest := []) (As := [.int a1]) hx hb hml hown hts hl (MX4_hasMill l D q (ad 0) v a1) gX5_ifVoted_X4_hasMill rfl kX4_hasMill ⟨Nat.le_of_ble_eq_true rfl, Nat.le_of_ble_eq_true rfl⟩ rfl rfl (hP.sub (ws' := (wV q (ad 0) v)) [1, 2, 3, 4, 5, 6, 7, 8, 9, 10] rfl) (dT (hD.sub (ws' := (wV q (ad 0) v)) [1, 2, 3, 4, 5, 6, 7, 8, 9, 10] (by decide) rfl)) hG (ci := 2) rfl rfl rfl rfl (Nat.le_of_ble_eq_true rfl) dX5_ifVoted_5 ⟨Nat.zero_le _, Nat.zero_le _⟩ ?_
  refine lv_if_eq (tgt := 18) hx hb dX5_ifVoted_8 (by decide) (fun c_1 => ?_) (fun c_1 => ?_)
  · rw [if_pos c_1] at hR
    refine lv_iconst (v := (-1)) hx hb dX5_ifVoted_18 (by decide) ?_
    exact ro_iret hx hb hr hk hR dX5_ifVoted_19
  · rw [if_neg c_1] at hR
    refine lv_iload_n hx hb dX5_ifVoted_11 rfl (lv_at hl 2 rfl) ?_
    refine ro_S (v := .int (mX5_isHour a2)) (rest := []) (As := [.int a2]) hx hb hml hown hts hl (MX5_isHour l D q a2) gX5_ifVoted_X5_isHour rfl kX5_isHour ⟨Nat.le_of_ble_eq_true rfl, Nat.le_of_ble_eq_true rfl⟩ rfl rfl (hP.sub (ws' := []) [] rfl) (dT (hD.sub (ws' := []) [] (by decide) rfl)) hG rfl rfl (Nat.le_of_ble_eq_true rfl) dX5_ifVoted_12 ⟨Nat.zero_le _, Nat.zero_le _⟩ ?_
    refine lv_if_ne (tgt := 20) hx hb dX5_ifVoted_15 (by decide) (fun c_2 => ?_) (fun c_2 => ?_)
    · rw [if_neg c_2] at hR
      have fc_2 := f_isHour c_2
      refine lv_aload_n hx hb dX5_ifVoted_20 rfl (lv_at hl 0 rfl) ?_
      refine va_get (D := D) (ci := 3) (v := .ref ((ad 0) 0)) (C := RX5) (T := TX5) (N := 6) hx hb hts iX5_ifVoted_X5 hown hG.1 hP 0 rfl rfl 0 (by decide) (hts (.fieldLink RX5 12 "MillComplaints" "now" "LMillComplaints$Village;") (List.mem_of_getElem? (i := 1) rfl)) (fun _ h9 => h9) rfl dX5_ifVoted_21 ?_
      refine lv_iload_n hx hb dX5_ifVoted_24 rfl (lv_at hl 1 rfl) ?_
      refine lv_iload_n hx hb dX5_ifVoted_25 rfl (lv_at hl 2 rfl) ?_
      refine ro_V (v := .int (mX4_votesForUntying v a1 a2)) (rest := []) (As := [.int a1, .int a2]) hx hb hml hown hts hl (MX4_votesForUntying l D q (ad 0) v a1 a2) gX5_ifVoted_X4_votesForUntying rfl kX4_votesForUntying ⟨Nat.le_of_ble_eq_true rfl, Nat.le_of_ble_eq_true rfl⟩ rfl rfl (hP.sub (ws' := (wV q (ad 0) v)) [1, 2, 3, 4, 5, 6, 7, 8, 9, 10] rfl) (dT (hD.sub (ws' := (wV q (ad 0) v)) [1, 2, 3, 4, 5, 6, 7, 8, 9, 10] (by decide) rfl)) hG (ci := 2) rfl rfl rfl rfl (Nat.le_of_ble_eq_true rfl) dX5_ifVoted_26 ⟨Nat.zero_le _, Nat.zero_le _⟩ ?_
      exact ro_iret hx hb hr hk hR dX5_ifVoted_29
    · rw [if_pos c_2] at hR
      refine lv_iconst (v := (-1)) hx hb dX5_ifVoted_18 (by decide) ?_
      exact ro_iret hx hb hr hk hR dX5_ifVoted_19
