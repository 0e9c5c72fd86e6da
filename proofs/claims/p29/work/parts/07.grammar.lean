def mX0_mayEnd (a1 : Int32) : Int32 := (if a1 = 1 then 1 else (if a1 = 15 then 1 else (if a1 = 16 then 1 else 0)))
theorem kX0_mayEnd : yX0_mayEnd.cls ≠ "java/lang/invoke/MethodHandle" ∧ yX0_mayEnd.cls ≠ "java/lang/invoke/VarHandle" ∧ (parseMethodDescriptor yX0_mayEnd.desc).map (fun d => d.parameters.length) = some 1 := by decide +kernel
set_option maxHeartbeats 4000000 in
set_option maxRecDepth 100000 in
theorem MX0_mayEnd (l : Launch) (D : va_G) (q : Nat → ClassId)  (a1 : Int32)  : roM l D (tyq q) yX0_mayEnd wsX0_mayEnd ({ frames := 0, cells := 0, slots := 0, locals := 0 } : Room) [.int a1] [] (some (.int (mX0_mayEnd a1))) := by
  obtain ⟨R, hR⟩ : ∃ z, (mX0_mayEnd a1) = z := ⟨_, rfl⟩
  rw [hR]
  unfold mX0_mayEnd at hR
  refine roM.of (cc := cX0_mayEnd) (maxL := 1) (ret := (some .boolean)) (by decide) rfl (Nat.le_of_ble_eq_true rfl) ?_
  intro p e s m below meth c ls hx hb hr hk hml hown hts hP hD hG hl
  have hl : lv_has ls 1 [(0, .int a1)] := hl
  refine lv_iload_n hx hb dX0_mayEnd_0 rfl (lv_at hl 0 rfl) ?_
  refine lv_iconst (v := 1) hx hb dX0_mayEnd_1 (by decide) ?_
  refine lv_icmp_eq (tgt := 17) hx hb dX0_mayEnd_2 (by decide) (fun c_1 => ?_) (fun c_1 => ?_)
  · rw [if_pos c_1] at hR
    refine lv_iconst (v := 1) hx hb dX0_mayEnd_17 (by decide) ?_
    refine lv_goto (tgt := 22) hx hb dX0_mayEnd_18 (by decide) ?_
    exact ro_zret hx hb hr hk (Or.inr rfl) hR dX0_mayEnd_22
  · rw [if_neg c_1] at hR
    refine lv_iload_n hx hb dX0_mayEnd_5 rfl (lv_at hl 0 rfl) ?_
    refine lv_bipush (v := 15) hx hb dX0_mayEnd_6 (by decide) ?_
    refine lv_icmp_eq (tgt := 17) hx hb dX0_mayEnd_8 (by decide) (fun c_2 => ?_) (fun c_2 => ?_)
    · rw [if_pos c_2] at hR
      refine lv_iconst (v := 1) hx hb dX0_mayEnd_17 (by decide) ?_
      refine lv_goto (tgt := 22) hx hb dX0_mayEnd_18 (by decide) ?_
      exact ro_zret hx hb hr hk (Or.inr rfl) hR dX0_mayEnd_22
    · rw [if_neg c_2] at hR
      refine lv_iload_n hx hb dX0_mayEnd_11 rfl (lv_at hl 0 rfl) ?_
      refine lv_bipush (v := 16) hx hb dX0_mayEnd_12 (by decide) ?_
      refine lv_icmp_ne (tgt := 21) hx hb dX0_mayEnd_14 (by decide) (fun c_3 => ?_) (fun c_3 => ?_)
      · rw [if_neg c_3] at hR
        refine lv_iconst (v := 0) hx hb dX0_mayEnd_21 (by decide) ?_
        exact ro_zret hx hb hr hk (Or.inl rfl) hR dX0_mayEnd_22
      · rw [if_pos c_3] at hR
        refine lv_iconst (v := 1) hx hb dX0_mayEnd_17 (by decide) ?_
        refine lv_goto (tgt := 22) hx hb dX0_mayEnd_18 (by decide) ?_
        exact ro_zret hx hb hr hk (Or.inr rfl) hR dX0_mayEnd_22

def mX0_isIn (a1 a2 a3 : Int32) : Int32 := (if a1 < a2 then 0 else (if a3 < a1 then 0 else 1))
theorem kX0_isIn : yX0_isIn.cls ≠ "java/lang/invoke/MethodHandle" ∧ yX0_isIn.cls ≠ "java/lang/invoke/VarHandle" ∧ (parseMethodDescriptor yX0_isIn.desc).map (fun d => d.parameters.length) = some 3 := by decide +kernel
set_option maxHeartbeats 4000000 in
set_option maxRecDepth 100000 in
theorem MX0_isIn (l : Launch) (D : va_G) (q : Nat → ClassId)  (a1 a2 a3 : Int32)  : roM l D (tyq q) yX0_isIn wsX0_isIn ({ frames := 0, cells := 0, slots := 0, locals := 0 } : Room) [.int a1, .int a2, .int a3] [] (some (.int (mX0_isIn a1 a2 a3))) := by
  obtain ⟨R, hR⟩ : ∃ z, (mX0_isIn a1 a2 a3) = z := ⟨_, rfl⟩
  rw [hR]
  unfold mX0_isIn at hR
  refine roM.of (cc := cX0_isIn) (maxL := 3) (ret := (some .boolean)) (by decide) rfl (Nat.le_of_ble_eq_true rfl) ?_
  intro p e s m below meth c ls hx hb hr hk hml hown hts hP hD hG hl
  have hl : lv_has ls 3 [(0, .int a1), (1, .int a2), (2, .int a3)] := hl
  refine lv_iload_n hx hb dX0_isIn_0 rfl (lv_at hl 0 rfl) ?_
  refine lv_iload_n hx hb dX0_isIn_1 rfl (lv_at hl 1 rfl) ?_
  refine lv_icmp_lt (tgt := 14) hx hb dX0_isIn_2 (by decide) (fun c_1 => ?_) (fun c_1 => ?_)
  · rw [if_pos c_1] at hR
    refine lv_iconst (v := 0) hx hb dX0_isIn_14 (by decide) ?_
    exact ro_zret hx hb hr hk (Or.inl rfl) hR dX0_isIn_15
  · rw [if_neg c_1] at hR
    refine lv_iload_n hx hb dX0_isIn_5 rfl (lv_at hl 0 rfl) ?_
    refine lv_iload_n hx hb dX0_isIn_6 rfl (lv_at hl 2 rfl) ?_
    refine lv_icmp_gt (tgt := 14) hx hb dX0_isIn_7 (by decide) (fun c_2 => ?_) (fun c_2 => ?_)
    · rw [if_pos c_2] at hR
      refine lv_iconst (v := 0) hx hb dX0_isIn_14 (by decide) ?_
      exact ro_zret hx hb hr hk (Or.inl rfl) hR dX0_isIn_15
    · rw [if_neg c_2] at hR
      refine lv_iconst (v := 1) hx hb dX0_isIn_10 (by decide) ?_
      refine lv_goto (tgt := 15) hx hb dX0_isIn_11 (by decide) ?_
      exact ro_zret hx hb hr hk (Or.inr rfl) hR dX0_isIn_15

def mX0_afterPartName (a1 : Int32) : Int32 := (if a1 = 99 then 11 else (if a1 = 104 then 3 else (if a1 = 109 then 2 else (if a1 = 119 then 6 else (-1)))))
theorem kX0_afterPartName : yX0_afterPartName.cls ≠ "java/lang/invoke/MethodHandle" ∧ yX0_afterPartName.cls ≠ "java/lang/invoke/VarHandle" ∧ (parseMethodDescriptor yX0_afterPartName.desc).map (fun d => d.parameters.length) = some 1 := by decide +kernel
set_option maxHeartbeats 4000000 in
set_option maxRecDepth 100000 in
theorem MX0_afterPartName (l : Launch) (D : va_G) (q : Nat → ClassId)  (a1 : Int32)  : roM l D (tyq q) yX0_afterPartName wsX0_afterPartName ({ frames := 0, cells := 0, slots := 0, locals := 0 } : Room) [.int a1] [] (some (.int (mX0_afterPartName a1))) := by
  obtain ⟨R, hR⟩ : ∃ z, (mX0_afterPartName a1) = z := ⟨_, rfl⟩
  rw [hR]
  unfold mX0_afterPartName at hR
  refine roM.of (cc := cX0_afterPartName) (maxL := 1) (ret := (some .int)) (by decide) rfl (Nat.le_of_ble_eq_true rfl) ?_
  intro p e s m below meth c ls hx hb hr hk hml hown hts hP hD hG hl
  have hl : lv_has ls 1 [(0, .int a1)] := hl
  refine lv_iload_n hx hb dX0_afterPartName_0 rfl (lv_at hl 0 rfl) ?_
  by_cases c_1 : a1 = 99
  · rw [if_pos c_1] at hR
    refine lv_lookup (off := 50) (tgt := 51) hx hb dX0_afterPartName_1 (by decide) (by rw [c_1]; decide) (by decide) ?_
    refine lv_bipush (v := 11) hx hb dX0_afterPartName_51 (by decide) ?_
    exact ro_iret hx hb hr hk hR dX0_afterPartName_53
  · rw [if_neg c_1] at hR
    by_cases c_2 : a1 = 104
    · rw [if_pos c_2] at hR
      refine lv_lookup (off := 45) (tgt := 46) hx hb dX0_afterPartName_1 (by decide) (by rw [c_2]; decide) (by decide) ?_
      refine lv_iconst (v := 3) hx hb dX0_afterPartName_46 (by decide) ?_
      exact ro_iret hx hb hr hk hR dX0_afterPartName_47
    · rw [if_neg c_2] at hR
      by_cases c_3 : a1 = 109
      · rw [if_pos c_3] at hR
        refine lv_lookup (off := 43) (tgt := 44) hx hb dX0_afterPartName_1 (by decide) (by rw [c_3]; decide) (by decide) ?_
        refine lv_iconst (v := 2) hx hb dX0_afterPartName_44 (by decide) ?_
        exact ro_iret hx hb hr hk hR dX0_afterPartName_45
      · rw [if_neg c_3] at hR
        by_cases c_4 : a1 = 119
        · rw [if_pos c_4] at hR
          refine lv_lookup (off := 47) (tgt := 48) hx hb dX0_afterPartName_1 (by decide) (by rw [c_4]; decide) (by decide) ?_
          refine lv_bipush (v := 6) hx hb dX0_afterPartName_48 (by decide) ?_
          exact ro_iret hx hb hr hk hR dX0_afterPartName_50
        · rw [if_neg c_4] at hR
          refine lv_lookup (off := 53) (tgt := 54) hx hb dX0_afterPartName_1 (by decide) (by show Op.lookupswitch.offset [(99, 50), (104, 45), (109, 43), (119, 47)] 53 _ = _; rw [lv_osw (a := 99) c_1 rfl]; rw [lv_osw (a := 104) c_2 rfl]; rw [lv_osw (a := 109) c_3 rfl]; rw [lv_osw (a := 119) c_4 rfl]; rfl) (by decide) ?_
          refine lv_iconst (v := (-1)) hx hb dX0_afterPartName_54 (by decide) ?_
          exact ro_iret hx hb hr hk hR dX0_afterPartName_55

def mX0_afterPart (a1 : Int32) : Int32 := (if a1 = 59 then 0 else (-1))
theorem kX0_afterPart : yX0_afterPart.cls ≠ "java/lang/invoke/MethodHandle" ∧ yX0_afterPart.cls ≠ "java/lang/invoke/VarHandle" ∧ (parseMethodDescriptor yX0_afterPart.desc).map (fun d => d.parameters.length) = some 1 := by decide +kernel
set_option maxHeartbeats 4000000 in
set_option maxRecDepth 100000 in
theorem MX0_afterPart (l : Launch) (D : va_G) (q : Nat → ClassId)  (a1 : Int32)  : roM l D (tyq q) yX0_afterPart wsX0_afterPart ({ frames := 0, cells := 0, slots := 0, locals := 0 } : Room) [.int a1] [] (some (.int (mX0_afterPart a1))) := by
  obtain ⟨R, hR⟩ : ∃ z, (mX0_afterPart a1) = z := ⟨_, rfl⟩
  rw [hR]
  unfold mX0_afterPart at hR
  refine roM.of (cc := cX0_afterPart) (maxL := 1) (ret := (some .int)) (by decide) rfl (Nat.le_of_ble_eq_true rfl) ?_
  intro p e s m below meth c ls hx hb hr hk hml hown hts hP hD hG hl
  have hl : lv_has ls 1 [(0, .int a1)] := hl
  refine lv_iload_n hx hb dX0_afterPart_0 rfl (lv_at hl 0 rfl) ?_
  refine lv_bipush (v := 59) hx hb dX0_afterPart_1 (by decide) ?_
  refine lv_icmp_ne (tgt := 10) hx hb dX0_afterPart_3 (by decide) (fun c_1 => ?_) (fun c_1 => ?_)
  · rw [if_neg c_1] at hR
    refine lv_iconst (v := (-1)) hx hb dX0_afterPart_10 (by decide) ?_
    exact ro_iret hx hb hr hk hR dX0_afterPart_11
  · rw [if_pos c_1] at hR
    refine lv_iconst (v := 0) hx hb dX0_afterPart_6 (by decide) ?_
    refine lv_goto (tgt := 11) hx hb dX0_afterPart_7 (by decide) ?_
    exact ro_iret hx hb hr hk hR dX0_afterPart_11

def mX0_afterWindHour (a1 : Int32) : Int32 := (if a1 = 61 then 10 else (-1))
theorem kX0_afterWindHour : yX0_afterWindHour.cls ≠ "java/lang/invoke/MethodHandle" ∧ yX0_afterWindHour.cls ≠ "java/lang/invoke/VarHandle" ∧ (parseMethodDescriptor yX0_afterWindHour.desc).map (fun d => d.parameters.length) = some 1 := by decide +kernel
set_option maxHeartbeats 4000000 in
set_option maxRecDepth 100000 in
theorem MX0_afterWindHour (l : Launch) (D : va_G) (q : Nat → ClassId)  (a1 : Int32)  : roM l D (tyq q) yX0_afterWindHour wsX0_afterWindHour ({ frames := 0, cells := 0, slots := 0, locals := 0 } : Room) [.int a1] [] (some (.int (mX0_afterWindHour a1))) := by
  obtain ⟨R, hR⟩ : ∃ z, (mX0_afterWindHour a1) = z := ⟨_, rfl⟩
  rw [hR]
  unfold mX0_afterWindHour at hR
  refine roM.of (cc := cX0_afterWindHour) (maxL := 1) (ret := (some .int)) (by decide) rfl (Nat.le_of_ble_eq_true rfl) ?_
  intro p e s m below meth c ls hx hb hr hk hml hown hts hP hD hG hl
  have hl : lv_has ls 1 [(0, .int a1)] := hl
  refine lv_iload_n hx hb dX0_afterWindHour_0 rfl (lv_at hl 0 rfl) ?_
  refine lv_bipush (v := 61) hx hb dX0_afterWindHour_1 (by decide) ?_
  refine lv_icmp_ne (tgt := 11) hx hb dX0_afterWindHour_3 (by decide) (fun c_1 => ?_) (fun c_1 => ?_)
  · rw [if_neg c_1] at hR
    refine lv_iconst (v := (-1)) hx hb dX0_afterWindHour_11 (by decide) ?_
    exact ro_iret hx hb hr hk hR dX0_afterWindHour_12
  · rw [if_pos c_1] at hR
    refine lv_bipush (v := 10) hx hb dX0_afterWindHour_6 (by decide) ?_
    refine lv_goto (tgt := 12) hx hb dX0_afterWindHour_8 (by decide) ?_
    exact ro_iret hx hb hr hk hR dX0_afterWindHour_12

def mX0_afterHourDigit (a1 a2 a3 a4 : Int32) : Int32 := (if a1 = 49 then a2 else (if a1 = 50 then a3 else (if (mX0_isIn a1 48 57) = 0 then (-1) else a4)))
theorem kX0_afterHourDigit : yX0_afterHourDigit.cls ≠ "java/lang/invoke/MethodHandle" ∧ yX0_afterHourDigit.cls ≠ "java/lang/invoke/VarHandle" ∧ (parseMethodDescriptor yX0_afterHourDigit.desc).map (fun d => d.parameters.length) = some 4 := by decide +kernel
set_option maxHeartbeats 4000000 in
set_option maxRecDepth 100000 in
theorem MX0_afterHourDigit (l : Launch) (D : va_G) (q : Nat → ClassId)  (a1 a2 a3 a4 : Int32)  : roM l D (tyq q) yX0_afterHourDigit wsX0_afterHourDigit ({ frames := 1, cells := 0, slots := 0, locals := 22 } : Room) [.int a1, .int a2, .int a3, .int a4] [] (some (.int (mX0_afterHourDigit a1 a2 a3 a4))) := by
  obtain ⟨R, hR⟩ : ∃ z, (mX0_afterHourDigit a1 a2 a3 a4) = z := ⟨_, rfl⟩
  rw [hR]
  unfold mX0_afterHourDigit at hR
  refine roM.of (cc := cX0_afterHourDigit) (maxL := 4) (ret := (some .int)) (by decide) rfl (Nat.le_of_ble_eq_true rfl) ?_
  intro p e s m below meth c ls hx hb hr hk hml hown hts hP hD hG hl
  have hl : lv_has ls 4 [(0, .int a1), (1, .int a2), (2, .int a3), (3, .int a4)] := hl
  refine lv_iload_n hx hb dX0_afterHourDigit_0 rfl (lv_at hl 0 rfl) ?_
  refine lv_bipush (v := 49) hx hb dX0_afterHourDigit_1 (by decide) ?_
  refine lv_icmp_ne (tgt := 8) hx hb dX0_afterHourDigit_3 (by decide) (fun c_1 => ?_) (fun c_1 => ?_)
  · rw [if_neg c_1] at hR
    refine lv_iload_n hx hb dX0_afterHourDigit_8 rfl (lv_at hl 0 rfl) ?_
    refine lv_bipush (v := 50) hx hb dX0_afterHourDigit_9 (by decide) ?_
    refine lv_icmp_ne (tgt := 16) hx hb dX0_afterHourDigit_11 (by decide) (fun c_2 => ?_) (fun c_2 => ?_)
    · rw [if_neg c_2] at hR
      refine lv_iload_n hx hb dX0_afterHourDigit_16 rfl (lv_at hl 0 rfl) ?_
      refine lv_bipush (v := 48) hx hb dX0_afterHourDigit_17 (by decide) ?_
      refine lv_bipush (v := 57) hx hb dX0_afterHourDigit_19 (by decide) ?_
      refine ro_S (v := .int (mX0_isIn a1 48 57)) (rest := []) (As := [.int a1, .int 48, .int 57]) hx hb hml hown hts hl (MX0_isIn l D q a1 48 57) gX0_afterHourDigit_X0_isIn rfl kX0_isIn ⟨Nat.le_of_ble_eq_true rfl, Nat.le_of_ble_eq_true rfl⟩ rfl rfl (hP.sub (ws' := []) [] rfl) (dT (hD.sub (ws' := []) [] (by decide) rfl)) hG rfl rfl (Nat.le_of_ble_eq_true rfl) dX0_afterHourDigit_21 ⟨Nat.zero_le _, Nat.zero_le _⟩ ?_
      refine lv_if_eq (tgt := 31) hx hb dX0_afterHourDigit_24 (by decide) (fun c_3 => ?_) (fun c_3 => ?_)
      · rw [if_pos c_3] at hR
        refine lv_iconst (v := (-1)) hx hb dX0_afterHourDigit_31 (by decide) ?_
        exact ro_iret hx hb hr hk hR dX0_afterHourDigit_32
      · rw [if_neg c_3] at hR
        refine lv_iload_n hx hb dX0_afterHourDigit_27 rfl (lv_at hl 3 rfl) ?_
        refine lv_goto (tgt := 32) hx hb dX0_afterHourDigit_28 (by decide) ?_
        exact ro_iret hx hb hr hk hR dX0_afterHourDigit_32
    · rw [if_pos c_2] at hR
      refine lv_iload_n hx hb dX0_afterHourDigit_14 rfl (lv_at hl 2 rfl) ?_
      exact ro_iret hx hb hr hk hR dX0_afterHourDigit_15
  · rw [if_pos c_1] at hR
    refine lv_iload_n hx hb dX0_afterHourDigit_6 rfl (lv_at hl 1 rfl) ?_
    exact ro_iret hx hb hr hk hR dX0_afterHourDigit_7

def mX0_after (a1 a2 : Int32) : Int32 := (if a1 = 0 then (mX0_afterPartName a2) else (if a1 = 1 then (mX0_afterPart a2) else (if a1 = 2 then (if (mX0_isIn a2 49 53) = 0 then (-1) else 3) else (if a1 = 3 then (if a2 = 64 then 4 else (-1)) else (if a1 = 4 then (if (mX0_isIn a2 97 108) = 0 then (-1) else 5) else (if a1 = 5 then (if (mX0_isIn a2 48 55) = 0 then (-1) else 1) else (if a1 = 6 then (mX0_afterHourDigit a2 7 8 9) else (if a1 = 7 then (if (mX0_isIn a2 48 57) = 0 then (mX0_afterWindHour a2) else 9) else (if a1 = 8 then (if (mX0_isIn a2 48 51) = 0 then (mX0_afterWindHour a2) else 9) else (if a1 = 9 then (mX0_afterWindHour a2) else (if a1 = 10 then (if (mX0_isIn a2 48 57) = 0 then (-1) else 1) else (if a1 = 11 then (if (mX0_isIn a2 48 57) = 0 then (-1) else 12) else (if a1 = 12 then (if (mX0_isIn a2 48 51) = 0 then (-1) else 13) else (if a1 = 13 then (if a2 = 110 then 14 else (if a2 = 115 then 14 else (-1))) else (if a1 = 14 then (mX0_afterHourDigit a2 15 16 1) else (if a1 = 15 then (if (mX0_isIn a2 48 57) = 0 then (mX0_afterPart a2) else 1) else (if a1 = 16 then (if (mX0_isIn a2 48 51) = 0 then (mX0_afterPart a2) else 1) else (-1))))))))))))))))))
theorem kX0_after : yX0_after.cls ≠ "java/lang/invoke/MethodHandle" ∧ yX0_after.cls ≠ "java/lang/invoke/VarHandle" ∧ (parseMethodDescriptor yX0_after.desc).map (fun d => d.parameters.length) = some 2 := by decide +kernel
set_option maxHeartbeats 4000000 in
set_option maxRecDepth 100000 in
theorem MX0_after (l : Launch) (D : va_G) (q : Nat → ClassId)  (a1 a2 : Int32)  : roM l D (tyq q) yX0_after wsX0_after ({ frames := 2, cells := 0, slots := 0, locals := 45 } : Room) [.int a1, .int a2] [] (some (.int (mX0_after a1 a2))) := by
  obtain ⟨R, hR⟩ : ∃ z, (mX0_after a1 a2) = z := ⟨_, rfl⟩
  rw [hR]
  unfold mX0_after at hR
  refine roM.of (cc := cX0_after) (maxL := 2) (ret := (some .int)) (by decide) rfl (Nat.le_of_ble_eq_true rfl) ?_
  intro p e s m below meth c ls hx hb hr hk hml hown hts hP hD hG hl
  have hl : lv_has ls 2 [(0, .int a1), (1, .int a2)] := hl
  refine lv_iload_n hx hb dX0_after_0 rfl (lv_at hl 0 rfl) ?_
  by_cases c_1 : a1 = 0
  · rw [if_pos c_1] at hR
    refine lv_tableIn (off := 83) (tgt := 84) hx hb dX0_after_1 (by rw [c_1]; decide) (by rw [c_1]; decide) (by rw [c_1]; rfl) (by decide) ?_
    refine lv_iload_n hx hb dX0_after_84 rfl (lv_at hl 1 rfl) ?_
    refine ro_S (v := .int (mX0_afterPartName a2)) (rest := []) (As := [.int a2]) hx hb hml hown hts hl (MX0_afterPartName l D q a2) gX0_after_X0_afterPartName rfl kX0_afterPartName ⟨Nat.le_of_ble_eq_true rfl, Nat.le_of_ble_eq_true rfl⟩ rfl rfl (hP.sub (ws' := []) [] rfl) (dT (hD.sub (ws' := []) [] (by decide) rfl)) hG rfl rfl (Nat.le_of_ble_eq_true rfl) dX0_after_85 ⟨Nat.zero_le _, Nat.zero_le _⟩ ?_
    exact ro_iret hx hb hr hk hR dX0_after_88
  · rw [if_neg c_1] at hR
    by_cases c_2 : a1 = 1
    · rw [if_pos c_2] at hR
      refine lv_tableIn (off := 88) (tgt := 89) hx hb dX0_after_1 (by rw [c_2]; decide) (by rw [c_2]; decide) (by rw [c_2]; rfl) (by decide) ?_
      refine lv_iload_n hx hb dX0_after_89 rfl (lv_at hl 1 rfl) ?_
      refine ro_S (v := .int (mX0_afterPart a2)) (rest := []) (As := [.int a2]) hx hb hml hown hts hl (MX0_afterPart l D q a2) gX0_after_X0_afterPart rfl kX0_afterPart ⟨Nat.le_of_ble_eq_true rfl, Nat.le_of_ble_eq_true rfl⟩ rfl rfl (hP.sub (ws' := []) [] rfl) (dT (hD.sub (ws' := []) [] (by decide) rfl)) hG rfl rfl (Nat.le_of_ble_eq_true rfl) dX0_after_90 ⟨Nat.zero_le _, Nat.zero_le _⟩ ?_
      exact ro_iret hx hb hr hk hR dX0_after_93
    · rw [if_neg c_2] at hR
      by_cases c_3 : a1 = 2
      · rw [if_pos c_3] at hR
        refine lv_tableIn (off := 93) (tgt := 94) hx hb dX0_after_1 (by rw [c_3]; decide) (by rw [c_3]; decide) (by rw [c_3]; rfl) (by decide) ?_
        refine lv_iload_n hx hb dX0_after_94 rfl (lv_at hl 1 rfl) ?_
        refine lv_bipush (v := 49) hx hb dX0_after_95 (by decide) ?_
        refine lv_bipush (v := 53) hx hb dX0_after_97 (by decide) ?_
        refine ro_S (v := .int (mX0_isIn a2 49 53)) (rest := []) (As := [.int a2, .int 49, .int 53]) hx hb hml hown hts hl (MX0_isIn l D q a2 49 53) gX0_after_X0_isIn rfl kX0_isIn ⟨Nat.le_of_ble_eq_true rfl, Nat.le_of_ble_eq_true rfl⟩ rfl rfl (hP.sub (ws' := []) [] rfl) (dT (hD.sub (ws' := []) [] (by decide) rfl)) hG rfl rfl (Nat.le_of_ble_eq_true rfl) dX0_after_99 ⟨Nat.zero_le _, Nat.zero_le _⟩ ?_
        refine lv_if_eq (tgt := 109) hx hb dX0_after_102 (by decide) (fun c_4 => ?_) (fun c_4 => ?_)
        · rw [if_pos c_4] at hR
          refine lv_iconst (v := (-1)) hx hb dX0_after_109 (by decide) ?_
          exact ro_iret hx hb hr hk hR dX0_after_110
        · rw [if_neg c_4] at hR
          refine lv_iconst (v := 3) hx hb dX0_after_105 (by decide) ?_
          refine lv_goto (tgt := 110) hx hb dX0_after_106 (by decide) ?_
          exact ro_iret hx hb hr hk hR dX0_after_110
      · rw [if_neg c_3] at hR
        by_cases c_5 : a1 = 3
        · rw [if_pos c_5] at hR
          refine lv_tableIn (off := 110) (tgt := 111) hx hb dX0_after_1 (by rw [c_5]; decide) (by rw [c_5]; decide) (by rw [c_5]; rfl) (by decide) ?_
          refine lv_iload_n hx hb dX0_after_111 rfl (lv_at hl 1 rfl) ?_
          refine lv_bipush (v := 64) hx hb dX0_after_112 (by decide) ?_
          refine lv_icmp_ne (tgt := 121) hx hb dX0_after_114 (by decide) (fun c_6 => ?_) (fun c_6 => ?_)
          · rw [if_neg c_6] at hR
            refine lv_iconst (v := (-1)) hx hb dX0_after_121 (by decide) ?_
            exact ro_iret hx hb hr hk hR dX0_after_122
          · rw [if_pos c_6] at hR
            refine lv_iconst (v := 4) hx hb dX0_after_117 (by decide) ?_
            refine lv_goto (tgt := 122) hx hb dX0_after_118 (by decide) ?_
            exact ro_iret hx hb hr hk hR dX0_after_122
        · rw [if_neg c_5] at hR
          by_cases c_7 : a1 = 4
          · rw [if_pos c_7] at hR
            refine lv_tableIn (off := 122) (tgt := 123) hx hb dX0_after_1 (by rw [c_7]; decide) (by rw [c_7]; decide) (by rw [c_7]; rfl) (by decide) ?_
            refine lv_iload_n hx hb dX0_after_123 rfl (lv_at hl 1 rfl) ?_
            refine lv_bipush (v := 97) hx hb dX0_after_124 (by decide) ?_
            refine lv_bipush (v := 108) hx hb dX0_after_126 (by decide) ?_
            refine ro_S (v := .int (mX0_isIn a2 97 108)) (rest := []) (As := [.int a2, .int 97, .int 108]) hx hb hml hown hts hl (MX0_isIn l D q a2 97 108) gX0_after_X0_isIn rfl kX0_isIn ⟨Nat.le_of_ble_eq_true rfl, Nat.le_of_ble_eq_true rfl⟩ rfl rfl (hP.sub (ws' := []) [] rfl) (dT (hD.sub (ws' := []) [] (by decide) rfl)) hG rfl rfl (Nat.le_of_ble_eq_true rfl) dX0_after_128 ⟨Nat.zero_le _, Nat.zero_le _⟩ ?_
            refine lv_if_eq (tgt := 138) hx hb dX0_after_131 (by decide) (fun c_8 => ?_) (fun c_8 => ?_)
            · rw [if_pos c_8] at hR
              refine lv_iconst (v := (-1)) hx hb dX0_after_138 (by decide) ?_
              exact ro_iret hx hb hr hk hR dX0_after_139
            · rw [if_neg c_8] at hR
              refine lv_iconst (v := 5) hx hb dX0_after_134 (by decide) ?_
              refine lv_goto (tgt := 139) hx hb dX0_after_135 (by decide) ?_
              exact ro_iret hx hb hr hk hR dX0_after_139
          · rw [if_neg c_7] at hR
            by_cases c_9 : a1 = 5
            · rw [if_pos c_9] at hR
              refine lv_tableIn (off := 139) (tgt := 140) hx hb dX0_after_1 (by rw [c_9]; decide) (by rw [c_9]; decide) (by rw [c_9]; rfl) (by decide) ?_
              refine lv_iload_n hx hb dX0_after_140 rfl (lv_at hl 1 rfl) ?_
              refine lv_bipush (v := 48) hx hb dX0_after_141 (by decide) ?_
              refine lv_bipush (v := 55) hx hb dX0_after_143 (by decide) ?_
              refine ro_S (v := .int (mX0_isIn a2 48 55)) (rest := []) (As := [.int a2, .int 48, .int 55]) hx hb hml hown hts hl (MX0_isIn l D q a2 48 55) gX0_after_X0_isIn rfl kX0_isIn ⟨Nat.le_of_ble_eq_true rfl, Nat.le_of_ble_eq_true rfl⟩ rfl rfl (hP.sub (ws' := []) [] rfl) (dT (hD.sub (ws' := []) [] (by decide) rfl)) hG rfl rfl (Nat.le_of_ble_eq_true rfl) dX0_after_145 ⟨Nat.zero_le _, Nat.zero_le _⟩ ?_
              refine lv_if_eq (tgt := 155) hx hb dX0_after_148 (by decide) (fun c_10 => ?_) (fun c_10 => ?_)
              · rw [if_pos c_10] at hR
                refine lv_iconst (v := (-1)) hx hb dX0_after_155 (by decide) ?_
                exact ro_iret hx hb hr hk hR dX0_after_156
              · rw [if_neg c_10] at hR
                refine lv_iconst (v := 1) hx hb dX0_after_151 (by decide) ?_
                refine lv_goto (tgt := 156) hx hb dX0_after_152 (by decide) ?_
                exact ro_iret hx hb hr hk hR dX0_after_156
            · rw [if_neg c_9] at hR
              by_cases c_11 : a1 = 6
              · rw [if_pos c_11] at hR
                refine lv_tableIn (off := 156) (tgt := 157) hx hb dX0_after_1 (by rw [c_11]; decide) (by rw [c_11]; decide) (by rw [c_11]; rfl) (by decide) ?_
                refine lv_iload_n hx hb dX0_after_157 rfl (lv_at hl 1 rfl) ?_
                refine lv_bipush (v := 7) hx hb dX0_after_158 (by decide) ?_
                refine lv_bipush (v := 8) hx hb dX0_after_160 (by decide) ?_
                refine lv_bipush (v := 9) hx hb dX0_after_162 (by decide) ?_
                refine ro_S (v := .int (mX0_afterHourDigit a2 7 8 9)) (rest := []) (As := [.int a2, .int 7, .int 8, .int 9]) hx hb hml hown hts hl (MX0_afterHourDigit l D q a2 7 8 9) gX0_after_X0_afterHourDigit rfl kX0_afterHourDigit ⟨Nat.le_of_ble_eq_true rfl, Nat.le_of_ble_eq_true rfl⟩ rfl rfl (hP.sub (ws' := []) [] rfl) (dT (hD.sub (ws' := []) [] (by decide) rfl)) hG rfl rfl (Nat.le_of_ble_eq_true rfl) dX0_after_164 ⟨Nat.zero_le _, Nat.zero_le _⟩ ?_
                exact ro_iret hx hb hr hk hR dX0_after_167
              · rw [if_neg c_11] at hR
                by_cases c_12 : a1 = 7
                · rw [if_pos c_12] at hR
                  refine lv_tableIn (off := 167) (tgt := 168) hx hb dX0_after_1 (by rw [c_12]; decide) (by rw [c_12]; decide) (by rw [c_12]; rfl) (by decide) ?_
                  refine lv_iload_n hx hb dX0_after_168 rfl (lv_at hl 1 rfl) ?_
                  refine lv_bipush (v := 48) hx hb dX0_after_169 (by decide) ?_
                  refine lv_bipush (v := 57) hx hb dX0_after_171 (by decide) ?_
                  refine ro_S (v := .int (mX0_isIn a2 48 57)) (rest := []) (As := [.int a2, .int 48, .int 57]) hx hb hml hown hts hl (MX0_isIn l D q a2 48 57) gX0_after_X0_isIn rfl kX0_isIn ⟨Nat.le_of_ble_eq_true rfl, Nat.le_of_ble_eq_true rfl⟩ rfl rfl (hP.sub (ws' := []) [] rfl) (dT (hD.sub (ws' := []) [] (by decide) rfl)) hG rfl rfl (Nat.le_of_ble_eq_true rfl) dX0_after_173 ⟨Nat.zero_le _, Nat.zero_le _⟩ ?_
                  refine lv_if_eq (tgt := 184) hx hb dX0_after_176 (by decide) (fun c_13 => ?_) (fun c_13 => ?_)
                  · rw [if_pos c_13] at hR
                    refine lv_iload_n hx hb dX0_after_184 rfl (lv_at hl 1 rfl) ?_
                    refine ro_S (v := .int (mX0_afterWindHour a2)) (rest := []) (As := [.int a2]) hx hb hml hown hts hl (MX0_afterWindHour l D q a2) gX0_after_X0_afterWindHour rfl kX0_afterWindHour ⟨Nat.le_of_ble_eq_true rfl, Nat.le_of_ble_eq_true rfl⟩ rfl rfl (hP.sub (ws' := []) [] rfl) (dT (hD.sub (ws' := []) [] (by decide) rfl)) hG rfl rfl (Nat.le_of_ble_eq_true rfl) dX0_after_185 ⟨Nat.zero_le _, Nat.zero_le _⟩ ?_
                    exact ro_iret hx hb hr hk hR dX0_after_188
                  · rw [if_neg c_13] at hR
                    refine lv_bipush (v := 9) hx hb dX0_after_179 (by decide) ?_
                    refine lv_goto (tgt := 188) hx hb dX0_after_181 (by decide) ?_
                    exact ro_iret hx hb hr hk hR dX0_after_188
                · rw [if_neg c_12] at hR
                  by_cases c_14 : a1 = 8
                  · rw [if_pos c_14] at hR
                    refine lv_tableIn (off := 188) (tgt := 189) hx hb dX0_after_1 (by rw [c_14]; decide) (by rw [c_14]; decide) (by rw [c_14]; rfl) (by decide) ?_
                    refine lv_iload_n hx hb dX0_after_189 rfl (lv_at hl 1 rfl) ?_
                    refine lv_bipush (v := 48) hx hb dX0_after_190 (by decide) ?_
                    refine lv_bipush (v := 51) hx hb dX0_after_192 (by decide) ?_
                    refine ro_S (v := .int (mX0_isIn a2 48 51)) (rest := []) (As := [.int a2, .int 48, .int 51]) hx hb hml hown hts hl (MX0_isIn l D q a2 48 51) gX0_after_X0_isIn rfl kX0_isIn ⟨Nat.le_of_ble_eq_true rfl, Nat.le_of_ble_eq_true rfl⟩ rfl rfl (hP.sub (ws' := []) [] rfl) (dT (hD.sub (ws' := []) [] (by decide) rfl)) hG rfl rfl (Nat.le_of_ble_eq_true rfl) dX0_after_194 ⟨Nat.zero_le _, Nat.zero_le _⟩ ?_
                    refine lv_if_eq (tgt := 205) hx hb dX0_after_197 (by decide) (fun c_15 => ?_) (fun c_15 => ?_)
                    · rw [if_pos c_15] at hR
                      refine lv_iload_n hx hb dX0_after_205 rfl (lv_at hl 1 rfl) ?_
                      refine ro_S (v := .int (mX0_afterWindHour a2)) (rest := []) (As := [.int a2]) hx hb hml hown hts hl (MX0_afterWindHour l D q a2) gX0_after_X0_afterWindHour rfl kX0_afterWindHour ⟨Nat.le_of_ble_eq_true rfl, Nat.le_of_ble_eq_true rfl⟩ rfl rfl (hP.sub (ws' := []) [] rfl) (dT (hD.sub (ws' := []) [] (by decide) rfl)) hG rfl rfl (Nat.le_of_ble_eq_true rfl) dX0_after_206 ⟨Nat.zero_le _, Nat.zero_le _⟩ ?_
                      exact ro_iret hx hb hr hk hR dX0_after_209
                    · rw [if_neg c_15] at hR
                      refine lv_bipush (v := 9) hx hb dX0_after_200 (by decide) ?_
                      refine lv_goto (tgt := 209) hx hb dX0_after_202 (by decide) ?_
                      exact ro_iret hx hb hr hk hR dX0_after_209
                  · rw [if_neg c_14] at hR
                    by_cases c_16 : a1 = 9
                    · rw [if_pos c_16] at hR
                      refine lv_tableIn (off := 209) (tgt := 210) hx hb dX0_after_1 (by rw [c_16]; decide) (by rw [c_16]; decide) (by rw [c_16]; rfl) (by decide) ?_
                      refine lv_iload_n hx hb dX0_after_210 rfl (lv_at hl 1 rfl) ?_
                      refine ro_S (v := .int (mX0_afterWindHour a2)) (rest := []) (As := [.int a2]) hx hb hml hown hts hl (MX0_afterWindHour l D q a2) gX0_after_X0_afterWindHour rfl kX0_afterWindHour ⟨Nat.le_of_ble_eq_true rfl, Nat.le_of_ble_eq_true rfl⟩ rfl rfl (hP.sub (ws' := []) [] rfl) (dT (hD.sub (ws' := []) [] (by decide) rfl)) hG rfl rfl (Nat.le_of_ble_eq_true rfl) dX0_after_211 ⟨Nat.zero_le _, Nat.zero_le _⟩ ?_
                      exact ro_iret hx hb hr hk hR dX0_after_214
                    · rw [if_neg c_16] at hR
                      by_cases c_17 : a1 = 10
                      · rw [if_pos c_17] at hR
                        refine lv_tableIn (off := 214) (tgt := 215) hx hb dX0_after_1 (by rw [c_17]; decide) (by rw [c_17]; decide) (by rw [c_17]; rfl) (by decide) ?_
                        refine lv_iload_n hx hb dX0_after_215 rfl (lv_at hl 1 rfl) ?_
                        refine lv_bipush (v := 48) hx hb dX0_after_216 (by decide) ?_
                        refine lv_bipush (v := 57) hx hb dX0_after_218 (by decide) ?_
                        refine ro_S (v := .int (mX0_isIn a2 48 57)) (rest := []) (As := [.int a2, .int 48, .int 57]) hx hb hml hown hts hl (MX0_isIn l D q a2 48 57) gX0_after_X0_isIn rfl kX0_isIn ⟨Nat.le_of_ble_eq_true rfl, Nat.le_of_ble_eq_true rfl⟩ rfl rfl (hP.sub (ws' := []) [] rfl) (dT (hD.sub (ws' := []) [] (by decide) rfl)) hG rfl rfl (Nat.le_of_ble_eq_true rfl) dX0_after_220 ⟨Nat.zero_le _, Nat.zero_le _⟩ ?_
                        refine lv_if_eq (tgt := 230) hx hb dX0_after_223 (by decide) (fun c_18 => ?_) (fun c_18 => ?_)
                        · rw [if_pos c_18] at hR
                          refine lv_iconst (v := (-1)) hx hb dX0_after_230 (by decide) ?_
                          exact ro_iret hx hb hr hk hR dX0_after_231
                        · rw [if_neg c_18] at hR
                          refine lv_iconst (v := 1) hx hb dX0_after_226 (by decide) ?_
                          refine lv_goto (tgt := 231) hx hb dX0_after_227 (by decide) ?_
                          exact ro_iret hx hb hr hk hR dX0_after_231
                      · rw [if_neg c_17] at hR
                        by_cases c_19 : a1 = 11
                        · rw [if_pos c_19] at hR
                          refine lv_tableIn (off := 231) (tgt := 232) hx hb dX0_after_1 (by rw [c_19]; decide) (by rw [c_19]; decide) (by rw [c_19]; rfl) (by decide) ?_
                          refine lv_iload_n hx hb dX0_after_232 rfl (lv_at hl 1 rfl) ?_
                          refine lv_bipush (v := 48) hx hb dX0_after_233 (by decide) ?_
                          refine lv_bipush (v := 57) hx hb dX0_after_235 (by decide) ?_
                          refine ro_S (v := .int (mX0_isIn a2 48 57)) (rest := []) (As := [.int a2, .int 48, .int 57]) hx hb hml hown hts hl (MX0_isIn l D q a2 48 57) gX0_after_X0_isIn rfl kX0_isIn ⟨Nat.le_of_ble_eq_true rfl, Nat.le_of_ble_eq_true rfl⟩ rfl rfl (hP.sub (ws' := []) [] rfl) (dT (hD.sub (ws' := []) [] (by decide) rfl)) hG rfl rfl (Nat.le_of_ble_eq_true rfl) dX0_after_237 ⟨Nat.zero_le _, Nat.zero_le _⟩ ?_
                          refine lv_if_eq (tgt := 248) hx hb dX0_after_240 (by decide) (fun c_20 => ?_) (fun c_20 => ?_)
                          · rw [if_pos c_20] at hR
                            refine lv_iconst (v := (-1)) hx hb dX0_after_248 (by decide) ?_
                            exact ro_iret hx hb hr hk hR dX0_after_249
                          · rw [if_neg c_20] at hR
                            refine lv_bipush (v := 12) hx hb dX0_after_243 (by decide) ?_
                            refine lv_goto (tgt := 249) hx hb dX0_after_245 (by decide) ?_
                            exact ro_iret hx hb hr hk hR dX0_after_249
                        · rw [if_neg c_19] at hR
                          by_cases c_21 : a1 = 12
                          · rw [if_pos c_21] at hR
                            refine lv_tableIn (off := 249) (tgt := 250) hx hb dX0_after_1 (by rw [c_21]; decide) (by rw [c_21]; decide) (by rw [c_21]; rfl) (by decide) ?_
                            refine lv_iload_n hx hb dX0_after_250 rfl (lv_at hl 1 rfl) ?_
                            refine lv_bipush (v := 48) hx hb dX0_after_251 (by decide) ?_
                            refine lv_bipush (v := 51) hx hb dX0_after_253 (by decide) ?_
                            refine ro_S (v := .int (mX0_isIn a2 48 51)) (rest := []) (As := [.int a2, .int 48, .int 51]) hx hb hml hown hts hl (MX0_isIn l D q a2 48 51) gX0_after_X0_isIn rfl kX0_isIn ⟨Nat.le_of_ble_eq_true rfl, Nat.le_of_ble_eq_true rfl⟩ rfl rfl (hP.sub (ws' := []) [] rfl) (dT (hD.sub (ws' := []) [] (by decide) rfl)) hG rfl rfl (Nat.le_of_ble_eq_true rfl) dX0_after_255 ⟨Nat.zero_le _, Nat.zero_le _⟩ ?_
                            refine lv_if_eq (tgt := 266) hx hb dX0_after_258 (by decide) (fun c_22 => ?_) (fun c_22 => ?_)
                            · rw [if_pos c_22] at hR
                              refine lv_iconst (v := (-1)) hx hb dX0_after_266 (by decide) ?_
                              exact ro_iret hx hb hr hk hR dX0_after_267
                            · rw [if_neg c_22] at hR
                              refine lv_bipush (v := 13) hx hb dX0_after_261 (by decide) ?_
                              refine lv_goto (tgt := 267) hx hb dX0_after_263 (by decide) ?_
                              exact ro_iret hx hb hr hk hR dX0_after_267
                          · rw [if_neg c_21] at hR
                            by_cases c_23 : a1 = 13
                            · rw [if_pos c_23] at hR
                              refine lv_tableIn (off := 267) (tgt := 268) hx hb dX0_after_1 (by rw [c_23]; decide) (by rw [c_23]; decide) (by rw [c_23]; rfl) (by decide) ?_
                              refine lv_iload_n hx hb dX0_after_268 rfl (lv_at hl 1 rfl) ?_
                              refine lv_bipush (v := 110) hx hb dX0_after_269 (by decide) ?_
                              refine lv_icmp_eq (tgt := 280) hx hb dX0_after_271 (by decide) (fun c_24 => ?_) (fun c_24 => ?_)
                              · rw [if_pos c_24] at hR
                                refine lv_bipush (v := 14) hx hb dX0_after_280 (by decide) ?_
                                refine lv_goto (tgt := 286) hx hb dX0_after_282 (by decide) ?_
                                exact ro_iret hx hb hr hk hR dX0_after_286
                              · rw [if_neg c_24] at hR
                                refine lv_iload_n hx hb dX0_after_274 rfl (lv_at hl 1 rfl) ?_
                                refine lv_bipush (v := 115) hx hb dX0_after_275 (by decide) ?_
                                refine lv_icmp_ne (tgt := 285) hx hb dX0_after_277 (by decide) (fun c_25 => ?_) (fun c_25 => ?_)
                                · rw [if_neg c_25] at hR
                                  refine lv_iconst (v := (-1)) hx hb dX0_after_285 (by decide) ?_
                                  exact ro_iret hx hb hr hk hR dX0_after_286
                                · rw [if_pos c_25] at hR
                                  refine lv_bipush (v := 14) hx hb dX0_after_280 (by decide) ?_
                                  refine lv_goto (tgt := 286) hx hb dX0_after_282 (by decide) ?_
                                  exact ro_iret hx hb hr hk hR dX0_after_286
                            · rw [if_neg c_23] at hR
                              by_cases c_26 : a1 = 14
                              · rw [if_pos c_26] at hR
                                refine lv_tableIn (off := 286) (tgt := 287) hx hb dX0_after_1 (by rw [c_26]; decide) (by rw [c_26]; decide) (by rw [c_26]; rfl) (by decide) ?_
                                refine lv_iload_n hx hb dX0_after_287 rfl (lv_at hl 1 rfl) ?_
                                refine lv_bipush (v := 15) hx hb dX0_after_288 (by decide) ?_
                                refine lv_bipush (v := 16) hx hb dX0_after_290 (by decide) ?_
                                refine lv_iconst (v := 1) hx hb dX0_after_292 (by decide) ?_
                                refine ro_S (v := .int (mX0_afterHourDigit a2 15 16 1)) (rest := []) (As := [.int a2, .int 15, .int 16, .int 1]) hx hb hml hown hts hl (MX0_afterHourDigit l D q a2 15 16 1) gX0_after_X0_afterHourDigit rfl kX0_afterHourDigit ⟨Nat.le_of_ble_eq_true rfl, Nat.le_of_ble_eq_true rfl⟩ rfl rfl (hP.sub (ws' := []) [] rfl) (dT (hD.sub (ws' := []) [] (by decide) rfl)) hG rfl rfl (Nat.le_of_ble_eq_true rfl) dX0_after_293 ⟨Nat.zero_le _, Nat.zero_le _⟩ ?_
                                exact ro_iret hx hb hr hk hR dX0_after_296
                              · rw [if_neg c_26] at hR
                                by_cases c_27 : a1 = 15
                                · rw [if_pos c_27] at hR
                                  refine lv_tableIn (off := 296) (tgt := 297) hx hb dX0_after_1 (by rw [c_27]; decide) (by rw [c_27]; decide) (by rw [c_27]; rfl) (by decide) ?_
                                  refine lv_iload_n hx hb dX0_after_297 rfl (lv_at hl 1 rfl) ?_
                                  refine lv_bipush (v := 48) hx hb dX0_after_298 (by decide) ?_
                                  refine lv_bipush (v := 57) hx hb dX0_after_300 (by decide) ?_
                                  refine ro_S (v := .int (mX0_isIn a2 48 57)) (rest := []) (As := [.int a2, .int 48, .int 57]) hx hb hml hown hts hl (MX0_isIn l D q a2 48 57) gX0_after_X0_isIn rfl kX0_isIn ⟨Nat.le_of_ble_eq_true rfl, Nat.le_of_ble_eq_true rfl⟩ rfl rfl (hP.sub (ws' := []) [] rfl) (dT (hD.sub (ws' := []) [] (by decide) rfl)) hG rfl rfl (Nat.le_of_ble_eq_true rfl) dX0_after_302 ⟨Nat.zero_le _, Nat.zero_le _⟩ ?_
                                  refine lv_if_eq (tgt := 312) hx hb dX0_after_305 (by decide) (fun c_28 => ?_) (fun c_28 => ?_)
                                  · rw [if_pos c_28] at hR
                                    refine lv_iload_n hx hb dX0_after_312 rfl (lv_at hl 1 rfl) ?_
                                    refine ro_S (v := .int (mX0_afterPart a2)) (rest := []) (As := [.int a2]) hx hb hml hown hts hl (MX0_afterPart l D q a2) gX0_after_X0_afterPart rfl kX0_afterPart ⟨Nat.le_of_ble_eq_true rfl, Nat.le_of_ble_eq_true rfl⟩ rfl rfl (hP.sub (ws' := []) [] rfl) (dT (hD.sub (ws' := []) [] (by decide) rfl)) hG rfl rfl (Nat.le_of_ble_eq_true rfl) dX0_after_313 ⟨Nat.zero_le _, Nat.zero_le _⟩ ?_
                                    exact ro_iret hx hb hr hk hR dX0_after_316
                                  · rw [if_neg c_28] at hR
                                    refine lv_iconst (v := 1) hx hb dX0_after_308 (by decide) ?_
                                    refine lv_goto (tgt := 316) hx hb dX0_after_309 (by decide) ?_
                                    exact ro_iret hx hb hr hk hR dX0_after_316
                                · rw [if_neg c_27] at hR
                                  by_cases c_29 : a1 = 16
                                  · rw [if_pos c_29] at hR
                                    refine lv_tableIn (off := 316) (tgt := 317) hx hb dX0_after_1 (by rw [c_29]; decide) (by rw [c_29]; decide) (by rw [c_29]; rfl) (by decide) ?_
                                    refine lv_iload_n hx hb dX0_after_317 rfl (lv_at hl 1 rfl) ?_
                                    refine lv_bipush (v := 48) hx hb dX0_after_318 (by decide) ?_
                                    refine lv_bipush (v := 51) hx hb dX0_after_320 (by decide) ?_
                                    refine ro_S (v := .int (mX0_isIn a2 48 51)) (rest := []) (As := [.int a2, .int 48, .int 51]) hx hb hml hown hts hl (MX0_isIn l D q a2 48 51) gX0_after_X0_isIn rfl kX0_isIn ⟨Nat.le_of_ble_eq_true rfl, Nat.le_of_ble_eq_true rfl⟩ rfl rfl (hP.sub (ws' := []) [] rfl) (dT (hD.sub (ws' := []) [] (by decide) rfl)) hG rfl rfl (Nat.le_of_ble_eq_true rfl) dX0_after_322 ⟨Nat.zero_le _, Nat.zero_le _⟩ ?_
                                    refine lv_if_eq (tgt := 332) hx hb dX0_after_325 (by decide) (fun c_30 => ?_) (fun c_30 => ?_)
                                    · rw [if_pos c_30] at hR
                                      refine lv_iload_n hx hb dX0_after_332 rfl (lv_at hl 1 rfl) ?_
                                      refine ro_S (v := .int (mX0_afterPart a2)) (rest := []) (As := [.int a2]) hx hb hml hown hts hl (MX0_afterPart l D q a2) gX0_after_X0_afterPart rfl kX0_afterPart ⟨Nat.le_of_ble_eq_true rfl, Nat.le_of_ble_eq_true rfl⟩ rfl rfl (hP.sub (ws' := []) [] rfl) (dT (hD.sub (ws' := []) [] (by decide) rfl)) hG rfl rfl (Nat.le_of_ble_eq_true rfl) dX0_after_333 ⟨Nat.zero_le _, Nat.zero_le _⟩ ?_
                                      exact ro_iret hx hb hr hk hR dX0_after_336
                                    · rw [if_neg c_30] at hR
                                      refine lv_iconst (v := 1) hx hb dX0_after_328 (by decide) ?_
                                      refine lv_goto (tgt := 336) hx hb dX0_after_329 (by decide) ?_
                                      exact ro_iret hx hb hr hk hR dX0_after_336
                                  · rw [if_neg c_29] at hR
                                    refine lv_tableOut (tgt := 337) hx hb dX0_after_1 (by have z0 := lv_neT c_1 (a := 0) rfl; have z1 := lv_neT c_2 (a := 1) rfl; have z2 := lv_neT c_3 (a := 2) rfl; have z3 := lv_neT c_5 (a := 3) rfl; have z4 := lv_neT c_7 (a := 4) rfl; have z5 := lv_neT c_9 (a := 5) rfl; have z6 := lv_neT c_11 (a := 6) rfl; have z7 := lv_neT c_12 (a := 7) rfl; have z8 := lv_neT c_14 (a := 8) rfl; have z9 := lv_neT c_16 (a := 9) rfl; have z10 := lv_neT c_17 (a := 10) rfl; have z11 := lv_neT c_19 (a := 11) rfl; have z12 := lv_neT c_21 (a := 12) rfl; have z13 := lv_neT c_23 (a := 13) rfl; have z14 := lv_neT c_26 (a := 14) rfl; have z15 := lv_neT c_27 (a := 15) rfl; have z16 := lv_neT c_29 (a := 16) rfl; omega) (by decide) ?_
                                    refine lv_iconst (v := (-1)) hx hb dX0_after_337 (by decide) ?_
                                    exact ro_iret hx hb hr hk hR dX0_after_338

def mX5_at (n : Nat) (f : Nat → Int32) (i : Int32) : Int32 := (if i < 0 then 0 else (if (nI n) ≤ i then 0 else (f (i).toNatClampNeg)))
theorem kX5_at : yX5_at.cls ≠ "java/lang/invoke/MethodHandle" ∧ yX5_at.cls ≠ "java/lang/invoke/VarHandle" ∧ (parseMethodDescriptor yX5_at.desc).map (fun d => d.parameters.length) = some 2 := by decide +kernel
set_option maxHeartbeats 4000000 in
set_option maxRecDepth 100000 in
theorem MX5_at (l : Launch) (D : va_G) (q : Nat → ClassId) (a n : Nat) (f : Nat → Int32) (i : Int32) (hn : n < 2147483648) : roM l D (tyq q) yX5_at wsX5_at ({ frames := 0, cells := 0, slots := 0, locals := 0 } : Room) [.ref a, .int i] (wR q a n f) (some (.int (mX5_at n f i))) := by
  obtain ⟨R, hR⟩ : ∃ z, (mX5_at n f i) = z := ⟨_, rfl⟩
  rw [hR]
  unfold mX5_at at hR
  refine roM.of (cc := cX5_at) (maxL := 2) (ret := (some .int)) (by decide) rfl (Nat.le_of_ble_eq_true rfl) ?_
  intro p e s m below meth c ls hx hb hr hk hml hown hts hP hD hG hl
  have hl : lv_has ls 2 [(0, .ref a), (1, .int i)] := hl
  refine lv_iload_n hx hb dX5_at_0 rfl (lv_at hl 1 rfl) ?_
  refine lv_if_lt (tgt := 16) hx hb dX5_at_1 (by decide) (fun c_1 => ?_) (fun c_1 => ?_)
  · rw [if_pos c_1] at hR
    refine lv_iconst (v := 0) hx hb dX5_at_16 (by decide) ?_
    exact ro_iret hx hb hr hk hR dX5_at_17
  · rw [if_neg c_1] at hR
    refine lv_iload_n hx hb dX5_at_4 rfl (lv_at hl 1 rfl) ?_
    refine lv_aload_n hx hb dX5_at_5 rfl (lv_at hl 0 rfl) ?_
    refine va_alen (v := (nI n)) hx hb hG.1 hP 0 0 rfl rfl rfl dX5_at_6 ?_
    refine lv_icmp_ge (tgt := 16) hx hb dX5_at_7 (by decide) (fun c_2 => ?_) (fun c_2 => ?_)
    · rw [if_pos c_2] at hR
      refine lv_iconst (v := 0) hx hb dX5_at_16 (by decide) ?_
      exact ro_iret hx hb hr hk hR dX5_at_17
    · rw [if_neg c_2] at hR
      refine lv_aload_n hx hb dX5_at_10 rfl (lv_at hl 0 rfl) ?_
      refine lv_iload_n hx hb dX5_at_11 rfl (lv_at hl 1 rfl) ?_
      refine va_iald hx hb hG.1 hP 0 0 rfl rfl (by first | exact ix_c (n := n) (by assumption) (by assumption) hn | exact ix_d (n := n) (by assumption) (by assumption) hn) dX5_at_12 ?_
      refine lv_goto (tgt := 17) hx hb dX5_at_13 (by decide) ?_
      exact ro_iret hx hb hr hk hR dX5_at_17

def mX5_put (n : Nat) (f : Nat → Int32) (i y : Int32) : (Nat → Int32) := (if i < 0 then f else (if (nI n) ≤ i then f else (lt (upd f (i : Int32).toNatClampNeg y) (fun f_3 => f_3))))
theorem kX5_put : yX5_put.cls ≠ "java/lang/invoke/MethodHandle" ∧ yX5_put.cls ≠ "java/lang/invoke/VarHandle" ∧ (parseMethodDescriptor yX5_put.desc).map (fun d => d.parameters.length) = some 3 := by decide +kernel
set_option maxHeartbeats 4000000 in
set_option maxRecDepth 100000 in
theorem MX5_put (l : Launch) (D : va_G) (q : Nat → ClassId) (a n : Nat) (f : Nat → Int32) (i y : Int32) (hn : n < 2147483648) : muM l D (tyq q) yX5_put wsX5_put ({ frames := 0, cells := 0, slots := 0, locals := 0 } : Room) [.ref a, .int i, .int y] (wR q a n f) none (wR q a n (mX5_put n f i y)) := by
  obtain ⟨R, hR⟩ : ∃ z, (mX5_put n f i y) = z := ⟨_, rfl⟩
  rw [hR]
  unfold mX5_put at hR
  refine muM.of (cc := cX5_put) (maxL := 3) (ret := none) (by decide) rfl (Nat.le_of_ble_eq_true rfl) ?_
  intro p e s m below meth c ls A hx hb hr hk hml hown hts hP hD hG hA hl
  have hS : va_S A s.heap s.heap [] := va_S.rf
  have hl : lv_has ls 3 [(0, .ref a), (1, .int i), (2, .int y)] := hl
  refine lv_iload_n hx hb dX5_put_0 rfl (lv_at hl 1 rfl) ?_
  refine lv_if_lt (tgt := 14) hx hb dX5_put_1 (by decide) (fun c_1 => ?_) (fun c_1 => ?_)
  · rw [if_pos c_1] at hR
    subst hR
    exact mu_vret hx hb hr hk hA hS hP dX5_put_14
  · rw [if_neg c_1] at hR
    refine lv_iload_n hx hb dX5_put_4 rfl (lv_at hl 1 rfl) ?_
    refine lv_aload_n hx hb dX5_put_5 rfl (lv_at hl 0 rfl) ?_
    refine va_alen (v := (nI n)) hx hb hG.1 hP 0 0 rfl rfl rfl dX5_put_6 ?_
    refine lv_icmp_ge (tgt := 14) hx hb dX5_put_7 (by decide) (fun c_2 => ?_) (fun c_2 => ?_)
    · rw [if_pos c_2] at hR
      subst hR
      exact mu_vret hx hb hr hk hA hS hP dX5_put_14
    · rw [if_neg c_2] at hR
      refine lv_aload_n hx hb dX5_put_10 rfl (lv_at hl 0 rfl) ?_
      refine lv_iload_n hx hb dX5_put_11 rfl (lv_at hl 1 rfl) ?_
      refine lv_iload_n hx hb dX5_put_12 rfl (lv_at hl 2 rfl) ?_
      refine va_iast hx hb hG.1 hP hD hS 0 0 rfl rfl (by first | exact ix_c (n := n) (by assumption) (by assumption) hn | exact ix_d (n := n) (by assumption) (by assumption) hn) dX5_put_13 (fun H locs hP hD hS => ?_)
      have hP : va_P D vwCl (wR q a n (upd f (i : Int32).toNatClampNeg y)) H := hP
      have hD : va_D A (wR q a n (upd f (i : Int32).toNatClampNeg y)) := hD
      obtain ⟨f_3, ef_3⟩ : ∃ z, z = (upd f (i : Int32).toNatClampNeg y) := ⟨_, rfl⟩
      rw [← ef_3] at hP hD
      replace hR := lt_e hR ef_3
      subst hR
      exact mu_vret hx hb hr hk hA hS hP dX5_put_14

def mX5_add (n : Nat) (f : Nat → Int32) (i y : Int32) : (Nat → Int32) := (lt (mX5_put n f i ((mX5_at n f i) + y)) (fun q_1 => q_1))
theorem kX5_add : yX5_add.cls ≠ "java/lang/invoke/MethodHandle" ∧ yX5_add.cls ≠ "java/lang/invoke/VarHandle" ∧ (parseMethodDescriptor yX5_add.desc).map (fun d => d.parameters.length) = some 3 := by decide +kernel
set_option maxHeartbeats 4000000 in
set_option maxRecDepth 100000 in
theorem MX5_add (l : Launch) (D : va_G) (q : Nat → ClassId) (a n : Nat) (f : Nat → Int32) (i y : Int32) (hn : n < 2147483648) : muM l D (tyq q) yX5_add wsX5_add ({ frames := 1, cells := 0, slots := 0, locals := 22 } : Room) [.ref a, .int i, .int y] (wR q a n f) none (wR q a n (mX5_add n f i y)) := by
  obtain ⟨R, hR⟩ : ∃ z, (mX5_add n f i y) = z := ⟨_, rfl⟩
  rw [hR]
  unfold mX5_add at hR
  refine muM.of (cc := cX5_add) (maxL := 3) (ret := none) (by decide) rfl (Nat.le_of_ble_eq_true rfl) ?_
  intro p e s m below meth c ls A hx hb hr hk hml hown hts hP hD hG hA hl
  have hS : va_S A s.heap s.heap [] := va_S.rf
  have hl : lv_has ls 3 [(0, .ref a), (1, .int i), (2, .int y)] := hl
  refine lv_aload_n hx hb dX5_add_0 rfl (lv_at hl 0 rfl) ?_
  refine lv_iload_n hx hb dX5_add_1 rfl (lv_at hl 1 rfl) ?_
  refine lv_aload_n hx hb dX5_add_2 rfl (lv_at hl 0 rfl) ?_
  refine lv_iload_n hx hb dX5_add_3 rfl (lv_at hl 1 rfl) ?_
  refine ro_S (v := .int (mX5_at n f i)) (rest := [.int i, .ref a]) (As := [.ref a, .int i]) hx hb hml hown hts hl (MX5_at l D q a n f i hn) gX5_add_X5_at rfl kX5_at ⟨Nat.le_of_ble_eq_true rfl, Nat.le_of_ble_eq_true rfl⟩ rfl rfl hP (dT hD) hG rfl rfl (Nat.le_of_ble_eq_true rfl) dX5_add_4 ⟨Nat.zero_le _, Nat.zero_le _⟩ ?_
  refine lv_iload_n hx hb dX5_add_7 rfl (lv_at hl 2 rfl) ?_
  refine lv_iadd hx hb dX5_add_8 ?_
  obtain ⟨q_1, eq_1⟩ : ∃ z, z = (mX5_put n f i ((mX5_at n f i) + y)) := ⟨_, rfl⟩
  have hM := MX5_put l D q a n f i ((mX5_at n f i) + y) hn
  rw [← eq_1] at hM
  replace hR := lt_e hR eq_1
  refine mu_S (D := D) (ws := (wR q a n f)) (ws' := (wR q a n q_1)) (rest := []) (As := [.ref a, .int i, .int ((mX5_at n f i) + y)]) hx hb hml hown hts hl hM gX5_add_X5_put rfl kX5_put ⟨Nat.le_of_ble_eq_true rfl, Nat.le_of_ble_eq_true rfl⟩ rfl rfl hP hD hS hG [0] rfl rfl (by decide) [1] rfl (by decide) rfl rfl rfl (Nat.le_of_ble_eq_true rfl) dX5_add_9 ⟨Nat.zero_le _, Nat.zero_le _⟩ (fun H locs hP hD hS => ?_)
  subst hR
  exact mu_vret hx hb hr hk hA hS hP dX5_add_12

def mX5_isHour (a1 : Int32) : Int32 := (if a1 < 0 then 0 else (if 24 ≤ a1 then 0 else 1))
theorem kX5_isHour : yX5_isHour.cls ≠ "java/lang/invoke/MethodHandle" ∧ yX5_isHour.cls ≠ "java/lang/invoke/VarHandle" ∧ (parseMethodDescriptor yX5_isHour.desc).map (fun d => d.parameters.length) = some 1 := by decide +kernel
set_option maxHeartbeats 4000000 in
set_option maxRecDepth 100000 in
theorem MX5_isHour (l : Launch) (D : va_G) (q : Nat → ClassId)  (a1 : Int32)  : roM l D (tyq q) yX5_isHour wsX5_isHour ({ frames := 0, cells := 0, slots := 0, locals := 0 } : Room) [.int a1] [] (some (.int (mX5_isHour a1))) := by
  obtain ⟨R, hR⟩ : ∃ z, (mX5_isHour a1) = z := ⟨_, rfl⟩
  rw [hR]
  unfold mX5_isHour at hR
  refine roM.of (cc := cX5_isHour) (maxL := 1) (ret := (some .boolean)) (by decide) rfl (Nat.le_of_ble_eq_true rfl) ?_
  intro p e s m below meth c ls hx hb hr hk hml hown hts hP hD hG hl
  have hl : lv_has ls 1 [(0, .int a1)] := hl
  refine lv_iload_n hx hb dX5_isHour_0 rfl (lv_at hl 0 rfl) ?_
  refine lv_if_lt (tgt := 14) hx hb dX5_isHour_1 (by decide) (fun c_1 => ?_) (fun c_1 => ?_)
  · rw [if_pos c_1] at hR
    refine lv_iconst (v := 0) hx hb dX5_isHour_14 (by decide) ?_
    exact ro_zret hx hb hr hk (Or.inl rfl) hR dX5_isHour_15
  · rw [if_neg c_1] at hR
    refine lv_iload_n hx hb dX5_isHour_4 rfl (lv_at hl 0 rfl) ?_
    refine lv_bipush (v := 24) hx hb dX5_isHour_5 (by decide) ?_
    refine lv_icmp_ge (tgt := 14) hx hb dX5_isHour_7 (by decide) (fun c_2 => ?_) (fun c_2 => ?_)
    · rw [if_pos c_2] at hR
      refine lv_iconst (v := 0) hx hb dX5_isHour_14 (by decide) ?_
      exact ro_zret hx hb hr hk (Or.inl rfl) hR dX5_isHour_15
    · rw [if_neg c_2] at hR
      refine lv_iconst (v := 1) hx hb dX5_isHour_10 (by decide) ?_
      refine lv_goto (tgt := 15) hx hb dX5_isHour_11 (by decide) ?_
      exact ro_zret hx hb hr hk (Or.inr rfl) hR dX5_isHour_15

def mX5_isYard (a1 : Int32) : Int32 := (if a1 < 0 then 0 else (if 96 ≤ a1 then 0 else 1))
theorem kX5_isYard : yX5_isYard.cls ≠ "java/lang/invoke/MethodHandle" ∧ yX5_isYard.cls ≠ "java/lang/invoke/VarHandle" ∧ (parseMethodDescriptor yX5_isYard.desc).map (fun d => d.parameters.length) = some 1 := by decide +kernel
set_option maxHeartbeats 4000000 in
set_option maxRecDepth 100000 in
theorem MX5_isYard (l : Launch) (D : va_G) (q : Nat → ClassId)  (a1 : Int32)  : roM l D (tyq q) yX5_isYard wsX5_isYard ({ frames := 0, cells := 0, slots := 0, locals := 0 } : Room) [.int a1] [] (some (.int (mX5_isYard a1))) := by
  obtain ⟨R, hR⟩ : ∃ z, (mX5_isYard a1) = z := ⟨_, rfl⟩
  rw [hR]
  unfold mX5_isYard at hR
  refine roM.of (cc := cX5_isYard) (maxL := 1) (ret := (some .boolean)) (by decide) rfl (Nat.le_of_ble_eq_true rfl) ?_
  intro p e s m below meth c ls hx hb hr hk hml hown hts hP hD hG hl
  have hl : lv_has ls 1 [(0, .int a1)] := hl
  refine lv_iload_n hx hb dX5_isYard_0 rfl (lv_at hl 0 rfl) ?_
  refine lv_if_lt (tgt := 14) hx hb dX5_isYard_1 (by decide) (fun c_1 => ?_) (fun c_1 => ?_)
  · rw [if_pos c_1] at hR
    refine lv_iconst (v := 0) hx hb dX5_isYard_14 (by decide) ?_
    exact ro_zret hx hb hr hk (Or.inl rfl) hR dX5_isYard_15
  · rw [if_neg c_1] at hR
    refine lv_iload_n hx hb dX5_isYard_4 rfl (lv_at hl 0 rfl) ?_
    refine lv_bipush (v := 96) hx hb dX5_isYard_5 (by decide) ?_
    refine lv_icmp_ge (tgt := 14) hx hb dX5_isYard_7 (by decide) (fun c_2 => ?_) (fun c_2 => ?_)
    · rw [if_pos c_2] at hR
      refine lv_iconst (v := 0) hx hb dX5_isYard_14 (by decide) ?_
      exact ro_zret hx hb hr hk (Or.inl rfl) hR dX5_isYard_15
    · rw [if_neg c_2] at hR
      refine lv_iconst (v := 1) hx hb dX5_isYard_10 (by decide) ?_
      refine lv_goto (tgt := 15) hx hb dX5_isYard_11 (by decide) ?_
      exact ro_zret hx hb hr hk (Or.inr rfl) hR dX5_isYard_15

def mX5_isVain (a1 : Int32) : Int32 := (if a1 < 4 then 0 else (if 6 < a1 then 0 else 1))
theorem kX5_isVain : yX5_isVain.cls ≠ "java/lang/invoke/MethodHandle" ∧ yX5_isVain.cls ≠ "java/lang/invoke/VarHandle" ∧ (parseMethodDescriptor yX5_isVain.desc).map (fun d => d.parameters.length) = some 1 := by decide +kernel
set_option maxHeartbeats 4000000 in
set_option maxRecDepth 100000 in
theorem MX5_isVain (l : Launch) (D : va_G) (q : Nat → ClassId)  (a1 : Int32)  : roM l D (tyq q) yX5_isVain wsX5_isVain ({ frames := 0, cells := 0, slots := 0, locals := 0 } : Room) [.int a1] [] (some (.int (mX5_isVain a1))) := by
  obtain ⟨R, hR⟩ : ∃ z, (mX5_isVain a1) = z := ⟨_, rfl⟩
  rw [hR]
  unfold mX5_isVain at hR
  refine roM.of (cc := cX5_isVain) (maxL := 1) (ret := (some .boolean)) (by decide) rfl (Nat.le_of_ble_eq_true rfl) ?_
  intro p e s m below meth c ls hx hb hr hk hml hown hts hP hD hG hl
  have hl : lv_has ls 1 [(0, .int a1)] := hl
  refine lv_iload_n hx hb dX5_isVain_0 rfl (lv_at hl 0 rfl) ?_
  refine lv_iconst (v := 4) hx hb dX5_isVain_1 (by decide) ?_
  refine lv_icmp_lt (tgt := 15) hx hb dX5_isVain_2 (by decide) (fun c_1 => ?_) (fun c_1 => ?_)
  · rw [if_pos c_1] at hR
    refine lv_iconst (v := 0) hx hb dX5_isVain_15 (by decide) ?_
    exact ro_zret hx hb hr hk (Or.inl rfl) hR dX5_isVain_16
  · rw [if_neg c_1] at hR
    refine lv_iload_n hx hb dX5_isVain_5 rfl (lv_at hl 0 rfl) ?_
    refine lv_bipush (v := 6) hx hb dX5_isVain_6 (by decide) ?_
    refine lv_icmp_gt (tgt := 15) hx hb dX5_isVain_8 (by decide) (fun c_2 => ?_) (fun c_2 => ?_)
    · rw [if_pos c_2] at hR
      refine lv_iconst (v := 0) hx hb dX5_isVain_15 (by decide) ?_
      exact ro_zret hx hb hr hk (Or.inl rfl) hR dX5_isVain_16
    · rw [if_neg c_2] at hR
      refine lv_iconst (v := 1) hx hb dX5_isVain_11 (by decide) ?_
      refine lv_goto (tgt := 16) hx hb dX5_isVain_12 (by decide) ?_
      exact ro_zret hx hb hr hk (Or.inr rfl) hR dX5_isVain_16

def mX5_distance (a1 a2 : Int32) : Int32 := (if (if 0 ≤ ((a1 - a1 / 12 * 12) - (a2 - a2 / 12 * 12)) then ((a1 - a1 / 12 * 12) - (a2 - a2 / 12 * 12)) else 0 - ((a1 - a1 / 12 * 12) - (a2 - a2 / 12 * 12))) < (if 0 ≤ ((a1 / 12) - (a2 / 12)) then ((a1 / 12) - (a2 / 12)) else 0 - ((a1 / 12) - (a2 / 12))) then (if 0 ≤ ((a1 / 12) - (a2 / 12)) then ((a1 / 12) - (a2 / 12)) else 0 - ((a1 / 12) - (a2 / 12))) else (if 0 ≤ ((a1 - a1 / 12 * 12) - (a2 - a2 / 12 * 12)) then ((a1 - a1 / 12 * 12) - (a2 - a2 / 12 * 12)) else 0 - ((a1 - a1 / 12 * 12) - (a2 - a2 / 12 * 12))))
theorem kX5_distance : yX5_distance.cls ≠ "java/lang/invoke/MethodHandle" ∧ yX5_distance.cls ≠ "java/lang/invoke/VarHandle" ∧ (parseMethodDescriptor yX5_distance.desc).map (fun d => d.parameters.length) = some 2 := by decide +kernel
set_option maxHeartbeats 4000000 in
set_option maxRecDepth 100000 in
theorem MX5_distance (l : Launch) (D : va_G) (q : Nat → ClassId)  (a1 a2 : Int32)  : roM l D (tyq q) yX5_distance wsX5_distance ({ frames := 1, cells := 0, slots := 0, locals := 21 } : Room) [.int a1, .int a2] [] (some (.int (mX5_distance a1 a2))) := by
  obtain ⟨R, hR⟩ : ∃ z, (mX5_distance a1 a2) = z := ⟨_, rfl⟩
  rw [hR]
  unfold mX5_distance at hR
  refine roM.of (cc := cX5_distance) (maxL := 4) (ret := (some .int)) (by decide) rfl (Nat.le_of_ble_eq_true rfl) ?_
  intro p e s m below meth c ls hx hb hr hk hml hown hts hP hD hG hl
  have hl : lv_has ls 4 [(0, .int a1), (1, .int a2)] := hl
  refine lv_iload_n hx hb dX5_distance_0 rfl (lv_at hl 0 rfl) ?_
  refine lv_bipush (v := 12) hx hb dX5_distance_1 (by decide) ?_
  refine lv_irem hx hb dX5_distance_3 (by decide) ?_
  refine lv_iload_n hx hb dX5_distance_4 rfl (lv_at hl 1 rfl) ?_
  refine lv_bipush (v := 12) hx hb dX5_distance_5 (by decide) ?_
  refine lv_irem hx hb dX5_distance_7 (by decide) ?_
  refine lv_isub hx hb dX5_distance_8 ?_
  refine va_mabs hx hb (hml.trans hl.1.symm) hown (hts (.methodLink RX5 271 Lib.Math.abs.name) (List.mem_of_getElem? (i := 1) rfl)) (hts (.static Lib.Math.abs.name) (List.mem_of_getElem? (i := 2) rfl)) (hts (.initialized "java/lang/Math") (List.mem_of_getElem? (i := 3) rfl)) (hts (.code Lib.Math.abs.name Lib.Math.abs.code 1 (some .int)) (List.mem_of_getElem? (i := 4) rfl)) (Nat.le_of_ble_eq_true rfl) (Nat.le_of_ble_eq_true rfl) (Nat.zero_le _) (Nat.zero_le _) dX5_distance_9 ?_
  refine lv_istore_n (lv' := [(2, .int (if 0 ≤ ((a1 - a1 / 12 * 12) - (a2 - a2 / 12 * 12)) then ((a1 - a1 / 12 * 12) - (a2 - a2 / 12 * 12)) else 0 - ((a1 - a1 / 12 * 12) - (a2 - a2 / 12 * 12)))), (0, .int a1), (1, .int a2)]) hx hb dX5_distance_12 rfl hl (by decide) rfl (fun ls hl => ?_)
  refine lv_iload_n hx hb dX5_distance_13 rfl (lv_at hl 1 rfl) ?_
  refine lv_bipush (v := 12) hx hb dX5_distance_14 (by decide) ?_
  refine lv_idiv hx hb dX5_distance_16 (by decide) ?_
  refine lv_iload_n hx hb dX5_distance_17 rfl (lv_at hl 2 rfl) ?_
  refine lv_bipush (v := 12) hx hb dX5_distance_18 (by decide) ?_
  refine lv_idiv hx hb dX5_distance_20 (by decide) ?_
  refine lv_isub hx hb dX5_distance_21 ?_
  refine va_mabs hx hb (hml.trans hl.1.symm) hown (hts (.methodLink RX5 271 Lib.Math.abs.name) (List.mem_of_getElem? (i := 1) rfl)) (hts (.static Lib.Math.abs.name) (List.mem_of_getElem? (i := 2) rfl)) (hts (.initialized "java/lang/Math") (List.mem_of_getElem? (i := 3) rfl)) (hts (.code Lib.Math.abs.name Lib.Math.abs.code 1 (some .int)) (List.mem_of_getElem? (i := 4) rfl)) (Nat.le_of_ble_eq_true rfl) (Nat.le_of_ble_eq_true rfl) (Nat.zero_le _) (Nat.zero_le _) dX5_distance_22 ?_
  refine lv_istore_n (lv' := [(3, .int (if 0 ≤ ((a1 / 12) - (a2 / 12)) then ((a1 / 12) - (a2 / 12)) else 0 - ((a1 / 12) - (a2 / 12)))), (2, .int (if 0 ≤ ((a1 - a1 / 12 * 12) - (a2 - a2 / 12 * 12)) then ((a1 - a1 / 12 * 12) - (a2 - a2 / 12 * 12)) else 0 - ((a1 - a1 / 12 * 12) - (a2 - a2 / 12 * 12)))), (0, .int a1), (1, .int a2)]) hx hb dX5_distance_25 rfl hl (by decide) rfl (fun ls hl => ?_)
  refine lv_iload_n hx hb dX5_distance_26 rfl (lv_at hl 1 rfl) ?_
  refine lv_iload_n hx hb dX5_distance_27 rfl (lv_at hl 0 rfl) ?_
  refine va_mmax hx hb (hml.trans hl.1.symm) hown (hts (.methodLink RX5 276 Lib.Math.max.name) (List.mem_of_getElem? (i := 5) rfl)) (hts (.static Lib.Math.max.name) (List.mem_of_getElem? (i := 6) rfl)) (hts (.initialized "java/lang/Math") (List.mem_of_getElem? (i := 3) rfl)) (hts (.code Lib.Math.max.name Lib.Math.max.code 2 (some .int)) (List.mem_of_getElem? (i := 7) rfl)) (Nat.le_of_ble_eq_true rfl) (Nat.le_of_ble_eq_true rfl) (Nat.zero_le _) (Nat.zero_le _) dX5_distance_28 ?_
  exact ro_iret hx hb hr hk hR dX5_distance_31
