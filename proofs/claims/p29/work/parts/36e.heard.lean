def mL_isHeard (xx : Nat → Nat → Nat → Int32) (house mill kind hour : Int32) : Int32 × (Nat → Nat → Nat → Int32) := (lt (mX5_why (xx 0) house mill kind hour) (fun r_1 => (lt (mX5_houseOf (xx 0) house 1) (fun r_2 => (lt (mX5_houseOf (xx 0) house 3) (fun r_3 => (lt (mX5_millOf (xx 0) mill 5) (fun r_4 => (lt (mX5_count xx 2) (fun r_5 => (lt (mX5_count xx 3) (fun r_6 => (lt (mX5_complain xx house mill kind hour) (fun q_7 => (if r_1 ≤ 0 then (if q_7.1 ≤ 0 then (0, q_7.2) else (if 20 < q_7.1 then (0, q_7.2) else (lt (mX5_houseOf (q_7.2 0) house 3) (fun r_11 => (if r_11 = (r_3 + 1) then (lt (mX5_millOf (q_7.2 0) mill 5) (fun r_13 => (if r_13 = (r_4 + 1) then (lt (mX5_count q_7.2 2) (fun r_15 => (if r_15 = (r_5 + 1) then (lt (mX5_millOf (q_7.2 0) mill 2) (fun r_17 => (lt (mL_has r_17 hour) (fun r_18 => (lt (mX5_count q_7.2 14) (fun r_19 => (lt ((if q_7.1 < r_19 then 0 else 1) : Int32) (fun y219_s0_20 => (if r_18 = y219_s0_20 then (lt (mX5_why (q_7.2 0) house mill kind hour) (fun r_22 => (if r_22 = 2 then (1, q_7.2) else (0, q_7.2)))) else (0, q_7.2)))))))))) else (0, q_7.2)))) else (0, q_7.2)))) else (0, q_7.2)))))) else (lt ((if r_1 ≤ 3 then 0 else 1) : Int32) (fun y76_s0_25 => (if q_7.1 = ((-10) - r_1) then (lt (mX5_houseOf (q_7.2 0) house 1) (fun r_27 => (if r_27 = (r_2 + y76_s0_25) then (lt (mX5_count q_7.2 3) (fun r_29 => (if r_29 = (r_6 + y76_s0_25) then (lt (mX5_houseOf (q_7.2 0) house 3) (fun r_31 => (if r_31 = r_3 then (lt (mX5_count q_7.2 2) (fun r_33 => (if r_33 = r_5 then (1, q_7.2) else (0, q_7.2)))) else (0, q_7.2)))) else (0, q_7.2)))) else (0, q_7.2)))) else (0, q_7.2)))))))))))))))))))
theorem kL_isHeard : yL_isHeard.cls ≠ "java/lang/invoke/MethodHandle" ∧ yL_isHeard.cls ≠ "java/lang/invoke/VarHandle" ∧ (parseMethodDescriptor yL_isHeard.desc).map (fun d => d.parameters.length) = some 5 := by decide +kernel
set_option maxHeartbeats 4000000 in
set_option maxRecDepth 100000 in
theorem ML_isHeard (l : Launch) (D : va_G) (q : Nat → ClassId) (ad : Nat → Nat → Nat) (xx : Nat → Nat → Nat → Int32) (house mill kind hour : Int32) (hrg : rgOk xx) : muM l D (tyq q) yL_isHeard wsL_isHeard ({ frames := 7, cells := 0, slots := 0, locals := 170 } : Room) [.ref (ad 9 0), .int house, .int mill, .int kind, .int hour] (wX q ad xx) (some (.int (mL_isHeard xx house mill kind hour).1)) (wX q ad (mL_isHeard xx house mill kind hour).2) := by
  obtain ⟨R, hR⟩ : ∃ z, (mL_isHeard xx house mill kind hour) = z := ⟨_, rfl⟩
  rw [hR]
  unfold mL_isHeard at hR
  refine muM.of (cc := cL_isHeard) (maxL := 13) (ret := (some .boolean)) (by decide) rfl (Nat.le_of_ble_eq_true rfl) ?_
  intro p e s m below meth c ls A hx hb hr hk hml hown hts hP hD hG hA hl
  have hS : va_S A s.heap s.heap [] := va_S.rf
  have hl : lv_has ls 13 [(0, .ref (ad 9 0)), (1, .int house), (2, .int mill), (3, .int kind), (4, .int hour)] := hl
  refine lv_aload_n hx hb dL_isHeard_0 rfl (lv_at hl 0 rfl) ?_
  refine lv_iload_n hx hb dL_isHeard_1 rfl (lv_at hl 1 rfl) ?_
  refine lv_iload_n hx hb dL_isHeard_2 rfl (lv_at hl 2 rfl) ?_
  refine lv_iload_n hx hb dL_isHeard_3 rfl (lv_at hl 3 rfl) ?_
  refine lv_iload hx hb dL_isHeard_4 (lv_at hl 4 rfl) ?_
  refine ro_V (v := .int (mX5_why (xx 0) house mill kind hour)) (rest := []) (As := [.int house, .int mill, .int kind, .int hour]) hx hb hml hown hts hl (MX5_why l D q ad (xx 9 0 0) (xx 0) house mill kind hour) gL_isHeard_X5_why rfl kX5_why ⟨Nat.le_of_ble_eq_true rfl, Nat.le_of_ble_eq_true rfl⟩ rfl rfl (hP.sub (ws' := (wXN q ad (xx 9 0 0) (xx 0))) [0, 1, 2, 3, 4, 5, 6, 7, 8, 9, 10] rfl) (dT (hD.sub (ws' := (wXN q ad (xx 9 0 0) (xx 0))) [0, 1, 2, 3, 4, 5, 6, 7, 8, 9, 10] (by decide) rfl)) hG (ci := 3) rfl rfl rfl rfl (Nat.le_of_ble_eq_true rfl) dL_isHeard_6 ⟨Nat.zero_le _, Nat.zero_le _⟩ ?_
  obtain ⟨r_1, er_1⟩ : ∃ z, z = (mX5_why (xx 0) house mill kind hour) := ⟨_, rfl⟩
  rw [← er_1]
  replace hR := lt_e hR er_1
  refine lv_istore (lv' := [(5, .int r_1), (0, .ref (ad 9 0)), (1, .int house), (2, .int mill), (3, .int kind), (4, .int hour)]) hx hb dL_isHeard_9 hl (by decide) rfl (fun ls hl => ?_)
  refine lv_aload_n hx hb dL_isHeard_11 rfl (lv_at hl 1 rfl) ?_
  refine lv_iload_n hx hb dL_isHeard_12 rfl (lv_at hl 2 rfl) ?_
  refine lv_iconst (v := 1) hx hb dL_isHeard_13 (by decide) ?_
  refine ro_V (v := .int (mX5_houseOf (xx 0) house 1)) (rest := []) (As := [.int house, .int 1]) hx hb hml hown hts hl (MX5_houseOf l D q ad (xx 9 0 0) (xx 0) house 1) gL_isHeard_X5_houseOf rfl kX5_houseOf ⟨Nat.le_of_ble_eq_true rfl, Nat.le_of_ble_eq_true rfl⟩ rfl rfl (hP.sub (ws' := (wXN q ad (xx 9 0 0) (xx 0))) [0, 1, 2, 3, 4, 5, 6, 7, 8, 9, 10] rfl) (dT (hD.sub (ws' := (wXN q ad (xx 9 0 0) (xx 0))) [0, 1, 2, 3, 4, 5, 6, 7, 8, 9, 10] (by decide) rfl)) hG (ci := 3) rfl rfl rfl rfl (Nat.le_of_ble_eq_true rfl) dL_isHeard_14 ⟨Nat.zero_le _, Nat.zero_le _⟩ ?_
  obtain ⟨r_2, er_2⟩ : ∃ z, z = (mX5_houseOf (xx 0) house 1) := ⟨_, rfl⟩
  rw [← er_2]
  replace hR := lt_e hR er_2
  refine lv_istore (lv' := [(6, .int r_2), (5, .int r_1), (0, .ref (ad 9 0)), (1, .int house), (2, .int mill), (3, .int kind), (4, .int hour)]) hx hb dL_isHeard_17 hl (by decide) rfl (fun ls hl => ?_)
  refine lv_aload_n hx hb dL_isHeard_19 rfl (lv_at hl 2 rfl) ?_
  refine lv_iload_n hx hb dL_isHeard_20 rfl (lv_at hl 3 rfl) ?_
  refine lv_iconst (v := 3) hx hb dL_isHeard_21 (by decide) ?_
  refine ro_V (v := .int (mX5_houseOf (xx 0) house 3)) (rest := []) (As := [.int house, .int 3]) hx hb hml hown hts hl (MX5_houseOf l D q ad (xx 9 0 0) (xx 0) house 3) gL_isHeard_X5_houseOf rfl kX5_houseOf ⟨Nat.le_of_ble_eq_true rfl, Nat.le_of_ble_eq_true rfl⟩ rfl rfl (hP.sub (ws' := (wXN q ad (xx 9 0 0) (xx 0))) [0, 1, 2, 3, 4, 5, 6, 7, 8, 9, 10] rfl) (dT (hD.sub (ws' := (wXN q ad (xx 9 0 0) (xx 0))) [0, 1, 2, 3, 4, 5, 6, 7, 8, 9, 10] (by decide) rfl)) hG (ci := 3) rfl rfl rfl rfl (Nat.le_of_ble_eq_true rfl) dL_isHeard_22 ⟨Nat.zero_le _, Nat.zero_le _⟩ ?_
  obtain ⟨r_3, er_3⟩ : ∃ z, z = (mX5_houseOf (xx 0) house 3) := ⟨_, rfl⟩
  rw [← er_3]
  replace hR := lt_e hR er_3
  refine lv_istore (lv' := [(7, .int r_3), (6, .int r_2), (5, .int r_1), (0, .ref (ad 9 0)), (1, .int house), (2, .int mill), (3, .int kind), (4, .int hour)]) hx hb dL_isHeard_25 hl (by decide) rfl (fun ls hl => ?_)
  refine lv_aload_n hx hb dL_isHeard_27 rfl (lv_at hl 3 rfl) ?_
  refine lv_iload_n hx hb dL_isHeard_28 rfl (lv_at hl 5 rfl) ?_
  refine lv_iconst (v := 5) hx hb dL_isHeard_29 (by decide) ?_
  refine ro_V (v := .int (mX5_millOf (xx 0) mill 5)) (rest := []) (As := [.int mill, .int 5]) hx hb hml hown hts hl (MX5_millOf l D q ad (xx 9 0 0) (xx 0) mill 5) gL_isHeard_X5_millOf rfl kX5_millOf ⟨Nat.le_of_ble_eq_true rfl, Nat.le_of_ble_eq_true rfl⟩ rfl rfl (hP.sub (ws' := (wXN q ad (xx 9 0 0) (xx 0))) [0, 1, 2, 3, 4, 5, 6, 7, 8, 9, 10] rfl) (dT (hD.sub (ws' := (wXN q ad (xx 9 0 0) (xx 0))) [0, 1, 2, 3, 4, 5, 6, 7, 8, 9, 10] (by decide) rfl)) hG (ci := 3) rfl rfl rfl rfl (Nat.le_of_ble_eq_true rfl) dL_isHeard_30 ⟨Nat.zero_le _, Nat.zero_le _⟩ ?_
  obtain ⟨r_4, er_4⟩ : ∃ z, z = (mX5_millOf (xx 0) mill 5) := ⟨_, rfl⟩
  rw [← er_4]
  replace hR := lt_e hR er_4
  refine lv_istore (lv' := [(8, .int r_4), (7, .int r_3), (6, .int r_2), (5, .int r_1), (0, .ref (ad 9 0)), (1, .int house), (2, .int mill), (3, .int kind), (4, .int hour)]) hx hb dL_isHeard_33 hl (by decide) rfl (fun ls hl => ?_)
  refine lv_aload_n hx hb dL_isHeard_35 rfl (lv_at hl 4 rfl) ?_
  refine lv_iconst (v := 2) hx hb dL_isHeard_36 (by decide) ?_
  refine ro_V (v := .int (mX5_count xx 2)) (rest := []) (As := [.int 2]) hx hb hml hown hts hl (MX5_count l D q ad xx 2) gL_isHeard_X5_count rfl kX5_count ⟨Nat.le_of_ble_eq_true rfl, Nat.le_of_ble_eq_true rfl⟩ rfl rfl hP (dT hD) hG (ci := 3) rfl rfl rfl rfl (Nat.le_of_ble_eq_true rfl) dL_isHeard_37 ⟨Nat.zero_le _, Nat.zero_le _⟩ ?_
  obtain ⟨r_5, er_5⟩ : ∃ z, z = (mX5_count xx 2) := ⟨_, rfl⟩
  rw [← er_5]
  replace hR := lt_e hR er_5
  refine lv_istore (lv' := [(9, .int r_5), (8, .int r_4), (7, .int r_3), (6, .int r_2), (5, .int r_1), (0, .ref (ad 9 0)), (1, .int house), (2, .int mill), (3, .int kind), (4, .int hour)]) hx hb dL_isHeard_40 hl (by decide) rfl (fun ls hl => ?_)
  refine lv_aload_n hx hb dL_isHeard_42 rfl (lv_at hl 5 rfl) ?_
  refine lv_iconst (v := 3) hx hb dL_isHeard_43 (by decide) ?_
  refine ro_V (v := .int (mX5_count xx 3)) (rest := []) (As := [.int 3]) hx hb hml hown hts hl (MX5_count l D q ad xx 3) gL_isHeard_X5_count rfl kX5_count ⟨Nat.le_of_ble_eq_true rfl, Nat.le_of_ble_eq_true rfl⟩ rfl rfl hP (dT hD) hG (ci := 3) rfl rfl rfl rfl (Nat.le_of_ble_eq_true rfl) dL_isHeard_44 ⟨Nat.zero_le _, Nat.zero_le _⟩ ?_
  obtain ⟨r_6, er_6⟩ : ∃ z, z = (mX5_count xx 3) := ⟨_, rfl⟩
  rw [← er_6]
  replace hR := lt_e hR er_6
  refine lv_istore (lv' := [(10, .int r_6), (9, .int r_5), (8, .int r_4), (7, .int r_3), (6, .int r_2), (5, .int r_1), (0, .ref (ad 9 0)), (1, .int house), (2, .int mill), (3, .int kind), (4, .int hour)]) hx hb dL_isHeard_47 hl (by decide) rfl (fun ls hl => ?_)
  refine lv_aload_n hx hb dL_isHeard_49 rfl (lv_at hl 6 rfl) ?_
  refine lv_iload_n hx hb dL_isHeard_50 rfl (lv_at hl 7 rfl) ?_
  refine lv_iload_n hx hb dL_isHeard_51 rfl (lv_at hl 8 rfl) ?_
  refine lv_iload_n hx hb dL_isHeard_52 rfl (lv_at hl 9 rfl) ?_
  refine lv_iload hx hb dL_isHeard_53 (lv_at hl 10 rfl) ?_
  obtain ⟨q_7, eq_7⟩ : ∃ z, z = (mX5_complain xx house mill kind hour) := ⟨_, rfl⟩
  have hM := MX5_complain l D q ad xx house mill kind hour hrg
  rw [← eq_7] at hM
  replace hR := lt_e hR eq_7
  refine mu_V (D := D) (ws := (wX q ad xx)) (ws' := (wX q ad q_7.2)) (rest := []) (As := [.int house, .int mill, .int kind, .int hour]) hx hb hml hown hts hl hM gL_isHeard_X5_complain rfl kX5_complain ⟨Nat.le_of_ble_eq_true rfl, Nat.le_of_ble_eq_true rfl⟩ rfl rfl hP hD hS hG [0, 1, 2, 3, 4, 5, 6, 7, 8, 9, 10, 11, 12, 13, 14, 15, 16, 17, 18, 19, 20, 21, 22, 23, 24, 25, 26, 27, 28, 29, 30, 31, 32, 33, 34, 35, 36, 37, 38, 39, 40, 41, 42, 43, 44, 45, 46, 47, 48, 49, 50, 51, 52, 53, 54, 55, 56, 57, 58, 59, 60, 61, 62, 63, 64, 65, 66, 67, 68, 69, 70, 71, 72, 73, 74] rfl rfl (by decide) [75, 76, 77, 78, 79, 80, 81, 82, 83, 84, 85, 86, 87, 88, 89, 90, 91, 92, 93, 94, 95, 96, 97, 98, 99, 100, 101, 102, 103, 104, 105, 106, 107, 108, 109, 110, 111, 112, 113, 114, 115, 116, 117, 118, 119, 120, 121, 122, 123, 124, 125, 126, 127, 128, 129, 130, 131, 132, 133, 134, 135, 136, 137, 138, 139, 140, 141, 142, 143, 144, 145, 146, 147, 148, 149] rfl (by decide) rfl (ci := 3) rfl rfl rfl rfl (Nat.le_of_ble_eq_true rfl) dL_isHeard_55 ⟨Nat.zero_le _, Nat.zero_le _⟩ (fun H locs hP hD hS => ?_)
  refine lv_istore (lv' := [(11, .int q_7.1), (10, .int r_6), (9, .int r_5), (8, .int r_4), (7, .int r_3), (6, .int r_2), (5, .int r_1), (0, .ref (ad 9 0)), (1, .int house), (2, .int mill), (3, .int kind), (4, .int hour)]) hx hb dL_isHeard_58 hl (by decide) rfl (fun ls hl => ?_)
  refine lv_iload hx hb dL_isHeard_60 (lv_at hl 6 rfl) ?_
  refine lv_if_le (tgt := 142) hx hb dL_isHeard_62 (by decide) (fun c_8 => ?_) (fun c_8 => ?_)
  · rw [if_pos c_8] at hR
    have tc_8 : r_1.toInt ≤ 0 := i_le.mp c_8
    refine lv_iload hx hb dL_isHeard_142 (lv_at hl 0 rfl) ?_
    refine lv_if_le (tgt := 239) hx hb dL_isHeard_144 (by decide) (fun c_9 => ?_) (fun c_9 => ?_)
    · rw [if_pos c_9] at hR
      have tc_9 : q_7.1.toInt ≤ 0 := i_le.mp c_9
      refine lv_iconst (v := 0) hx hb dL_isHeard_239 (by decide) ?_
      have h01 : (0 : Int32) = 0 ∨ (0 : Int32) = 1 := (Or.inl rfl)
      subst hR
      exact mu_zret hx hb hr hk h01 hA hS hP rfl dL_isHeard_240
    · rw [if_neg c_9] at hR
      have tc_9 : ¬ q_7.1.toInt ≤ 0 := fun z => c_9 (i_le.mpr z)
      refine lv_iload hx hb dL_isHeard_147 (lv_at hl 0 rfl) ?_
      refine lv_bipush (v := 20) hx hb dL_isHeard_149 (by decide) ?_
      refine lv_icmp_gt (tgt := 239) hx hb dL_isHeard_151 (by decide) (fun c_10 => ?_) (fun c_10 => ?_)
      · rw [if_pos c_10] at hR
        have tc_10 : 20 < q_7.1.toInt := i_lt.mp c_10
        refine lv_iconst (v := 0) hx hb dL_isHeard_239 (by decide) ?_
        have h01 : (0 : Int32) = 0 ∨ (0 : Int32) = 1 := (Or.inl rfl)
        subst hR
        exact mu_zret hx hb hr hk h01 hA hS hP rfl dL_isHeard_240
      · rw [if_neg c_10] at hR
        have tc_10 : ¬ 20 < q_7.1.toInt := fun z => c_10 (i_lt.mpr z)
        refine lv_aload_n hx hb dL_isHeard_154 rfl (lv_at hl 7 rfl) ?_
        refine lv_iload_n hx hb dL_isHeard_155 rfl (lv_at hl 8 rfl) ?_
        refine lv_iconst (v := 3) hx hb dL_isHeard_156 (by decide) ?_
        refine ro_V (v := .int (mX5_houseOf (q_7.2 0) house 3)) (rest := []) (As := [.int house, .int 3]) hx hb hml hown hts hl (MX5_houseOf l D q ad (q_7.2 9 0 0) (q_7.2 0) house 3) gL_isHeard_X5_houseOf rfl kX5_houseOf ⟨Nat.le_of_ble_eq_true rfl, Nat.le_of_ble_eq_true rfl⟩ rfl rfl (hP.sub (ws' := (wXN q ad (q_7.2 9 0 0) (q_7.2 0))) [0, 1, 2, 3, 4, 5, 6, 7, 8, 9, 10] rfl) (dT (hD.sub (ws' := (wXN q ad (q_7.2 9 0 0) (q_7.2 0))) [0, 1, 2, 3, 4, 5, 6, 7, 8, 9, 10] (by decide) rfl)) hG (ci := 3) rfl rfl rfl rfl (Nat.le_of_ble_eq_true rfl) dL_isHeard_157 ⟨Nat.zero_le _, Nat.zero_le _⟩ ?_
        obtain ⟨r_11, er_11⟩ : ∃ z, z = (mX5_houseOf (q_7.2 0) house 3) := ⟨_, rfl⟩
        rw [← er_11]
        replace hR := lt_e hR er_11
        refine lv_iload hx hb dL_isHeard_160 (lv_at hl 4 rfl) ?_
        refine lv_iconst (v := 1) hx hb dL_isHeard_162 (by decide) ?_
        refine lv_iadd hx hb dL_isHeard_163 ?_
        refine lv_icmp_ne (tgt := 239) hx hb dL_isHeard_164 (by decide) (fun c_12 => ?_) (fun c_12 => ?_)
        · rw [if_neg c_12] at hR
          have tc_12 : ¬ r_11.toInt = (r_3 + 1).toInt := fun z => c_12 (i_eq.mpr z)
          refine lv_iconst (v := 0) hx hb dL_isHeard_239 (by decide) ?_
          have h01 : (0 : Int32) = 0 ∨ (0 : Int32) = 1 := (Or.inl rfl)
          subst hR
          exact mu_zret hx hb hr hk h01 hA hS hP rfl dL_isHeard_240
        · rw [if_pos c_12] at hR
          have tc_12 : r_11.toInt = (r_3 + 1).toInt := i_eq.mp c_12
          refine lv_aload_n hx hb dL_isHeard_167 rfl (lv_at hl 7 rfl) ?_
          refine lv_iload_n hx hb dL_isHeard_168 rfl (lv_at hl 9 rfl) ?_
          refine lv_iconst (v := 5) hx hb dL_isHeard_169 (by decide) ?_
          refine ro_V (v := .int (mX5_millOf (q_7.2 0) mill 5)) (rest := []) (As := [.int mill, .int 5]) hx hb hml hown hts hl (MX5_millOf l D q ad (q_7.2 9 0 0) (q_7.2 0) mill 5) gL_isHeard_X5_millOf rfl kX5_millOf ⟨Nat.le_of_ble_eq_true rfl, Nat.le_of_ble_eq_true rfl⟩ rfl rfl (hP.sub (ws' := (wXN q ad (q_7.2 9 0 0) (q_7.2 0))) [0, 1, 2, 3, 4, 5, 6, 7, 8, 9, 10] rfl) (dT (hD.sub (ws' := (wXN q ad (q_7.2 9 0 0) (q_7.2 0))) [0, 1, 2, 3, 4, 5, 6, 7, 8, 9, 10] (by decide) rfl)) hG (ci := 3) rfl rfl rfl rfl (Nat.le_of_ble_eq_true rfl) dL_isHeard_170 ⟨Nat.zero_le _, Nat.zero_le _⟩ ?_
          obtain ⟨r_13, er_13⟩ : ∃ z, z = (mX5_millOf (q_7.2 0) mill 5) := ⟨_, rfl⟩
          rw [← er_13]
          replace hR := lt_e hR er_13
          refine lv_iload hx hb dL_isHeard_173 (lv_at hl 3 rfl) ?_
          refine lv_iconst (v := 1) hx hb dL_isHeard_175 (by decide) ?_
          refine lv_iadd hx hb dL_isHeard_176 ?_
          refine lv_icmp_ne (tgt := 239) hx hb dL_isHeard_177 (by decide) (fun c_14 => ?_) (fun c_14 => ?_)
          · rw [if_neg c_14] at hR
            have tc_14 : ¬ r_13.toInt = (r_4 + 1).toInt := fun z => c_14 (i_eq.mpr z)
            refine lv_iconst (v := 0) hx hb dL_isHeard_239 (by decide) ?_
            have h01 : (0 : Int32) = 0 ∨ (0 : Int32) = 1 := (Or.inl rfl)
            subst hR
            exact mu_zret hx hb hr hk h01 hA hS hP rfl dL_isHeard_240
          · rw [if_pos c_14] at hR
            have tc_14 : r_13.toInt = (r_4 + 1).toInt := i_eq.mp c_14
            refine lv_aload_n hx hb dL_isHeard_180 rfl (lv_at hl 7 rfl) ?_
            refine lv_iconst (v := 2) hx hb dL_isHeard_181 (by decide) ?_
            refine ro_V (v := .int (mX5_count q_7.2 2)) (rest := []) (As := [.int 2]) hx hb hml hown hts hl (MX5_count l D q ad q_7.2 2) gL_isHeard_X5_count rfl kX5_count ⟨Nat.le_of_ble_eq_true rfl, Nat.le_of_ble_eq_true rfl⟩ rfl rfl hP (dT hD) hG (ci := 3) rfl rfl rfl rfl (Nat.le_of_ble_eq_true rfl) dL_isHeard_182 ⟨Nat.zero_le _, Nat.zero_le _⟩ ?_
            obtain ⟨r_15, er_15⟩ : ∃ z, z = (mX5_count q_7.2 2) := ⟨_, rfl⟩
            rw [← er_15]
            replace hR := lt_e hR er_15
            refine lv_iload hx hb dL_isHeard_185 (lv_at hl 2 rfl) ?_
            refine lv_iconst (v := 1) hx hb dL_isHeard_187 (by decide) ?_
            refine lv_iadd hx hb dL_isHeard_188 ?_
            refine lv_icmp_ne (tgt := 239) hx hb dL_isHeard_189 (by decide) (fun c_16 => ?_) (fun c_16 => ?_)
            · rw [if_neg c_16] at hR
              have tc_16 : ¬ r_15.toInt = (r_5 + 1).toInt := fun z => c_16 (i_eq.mpr z)
              refine lv_iconst (v := 0) hx hb dL_isHeard_239 (by decide) ?_
              have h01 : (0 : Int32) = 0 ∨ (0 : Int32) = 1 := (Or.inl rfl)
              subst hR
              exact mu_zret hx hb hr hk h01 hA hS hP rfl dL_isHeard_240
            · rw [if_pos c_16] at hR
              have tc_16 : r_15.toInt = (r_5 + 1).toInt := i_eq.mp c_16
              refine lv_aload_n hx hb dL_isHeard_192 rfl (lv_at hl 7 rfl) ?_
              refine lv_iload_n hx hb dL_isHeard_193 rfl (lv_at hl 9 rfl) ?_
              refine lv_iconst (v := 2) hx hb dL_isHeard_194 (by decide) ?_
              refine ro_V (v := .int (mX5_millOf (q_7.2 0) mill 2)) (rest := []) (As := [.int mill, .int 2]) hx hb hml hown hts hl (MX5_millOf l D q ad (q_7.2 9 0 0) (q_7.2 0) mill 2) gL_isHeard_X5_millOf rfl kX5_millOf ⟨Nat.le_of_ble_eq_true rfl, Nat.le_of_ble_eq_true rfl⟩ rfl rfl (hP.sub (ws' := (wXN q ad (q_7.2 9 0 0) (q_7.2 0))) [0, 1, 2, 3, 4, 5, 6, 7, 8, 9, 10] rfl) (dT (hD.sub (ws' := (wXN q ad (q_7.2 9 0 0) (q_7.2 0))) [0, 1, 2, 3, 4, 5, 6, 7, 8, 9, 10] (by decide) rfl)) hG (ci := 3) rfl rfl rfl rfl (Nat.le_of_ble_eq_true rfl) dL_isHeard_195 ⟨Nat.zero_le _, Nat.zero_le _⟩ ?_
              obtain ⟨r_17, er_17⟩ : ∃ z, z = (mX5_millOf (q_7.2 0) mill 2) := ⟨_, rfl⟩
              rw [← er_17]
              replace hR := lt_e hR er_17
              refine lv_iload hx hb dL_isHeard_198 (lv_at hl 11 rfl) ?_
              refine ro_S (v := .int (mL_has r_17 hour)) (rest := []) (As := [.int r_17, .int hour]) hx hb hml hown hts hl (ML_has l D q r_17 hour) gL_isHeard_L_has rfl kL_has ⟨Nat.le_of_ble_eq_true rfl, Nat.le_of_ble_eq_true rfl⟩ rfl rfl (hP.sub (ws' := []) [] rfl) (dT (hD.sub (ws' := []) [] (by decide) rfl)) hG rfl rfl (Nat.le_of_ble_eq_true rfl) dL_isHeard_200 ⟨Nat.zero_le _, Nat.zero_le _⟩ ?_
              obtain ⟨r_18, er_18⟩ : ∃ z, z = (mL_has r_17 hour) := ⟨_, rfl⟩
              rw [← er_18]
              replace hR := lt_e hR er_18
              refine lv_iload hx hb dL_isHeard_203 (lv_at hl 0 rfl) ?_
              refine lv_aload_n hx hb dL_isHeard_205 rfl (lv_at hl 7 rfl) ?_
              refine lv_bipush (v := 14) hx hb dL_isHeard_206 (by decide) ?_
              refine ro_V (v := .int (mX5_count q_7.2 14)) (rest := [.int q_7.1, .int r_18]) (As := [.int 14]) hx hb hml hown hts hl (MX5_count l D q ad q_7.2 14) gL_isHeard_X5_count rfl kX5_count ⟨Nat.le_of_ble_eq_true rfl, Nat.le_of_ble_eq_true rfl⟩ rfl rfl hP (dT hD) hG (ci := 3) rfl rfl rfl rfl (Nat.le_of_ble_eq_true rfl) dL_isHeard_208 ⟨Nat.zero_le _, Nat.zero_le _⟩ ?_
              obtain ⟨r_19, er_19⟩ : ∃ z, z = (mX5_count q_7.2 14) := ⟨_, rfl⟩
              rw [← er_19]
              replace hR := lt_e hR er_19
              refine jn_1 hR (fun F_219_20 eF_219_20 hR => ?_)
              have key_219_20 : ∀ (y219_s0_20 : Int32), lt y219_s0_20 F_219_20 = R → ∀ ls : Array Slot, lv_has ls 13 [(11, .int q_7.1), (10, .int r_6), (9, .int r_5), (8, .int r_4), (7, .int r_3), (6, .int r_2), (5, .int r_1), (0, .ref (ad 9 0)), (1, .int house), (2, .int mill), (3, .int kind), (4, .int hour)] → W p l e ({ frames := 7, cells := 0, slots := 0, locals := 170 } : Room) s m ([.ref (ad 9 0), .int house, .int mill, .int kind, .int hour] : List Value).toArray below meth c H locs 0 0 (MQ below (muQ D (some (.int R.1)) (wX q ad xx) (wX q ad R.2)) ([.ref (ad 9 0), .int house, .int mill, .int kind, .int hour] : List Value).toArray s 0 0 (wAt (wX q ad xx))) (F0 m 219 ls [.int y219_s0_20, .int r_18]) := by
                intro y219_s0_20 hR ls hl
                rw [eF_219_20] at hR
                replace hR := jn_e1 hR
                refine lv_icmp_ne (tgt := 239) hx hb dL_isHeard_219 (by decide) (fun c_21 => ?_) (fun c_21 => ?_)
                · rw [if_neg c_21] at hR
                  refine lv_iconst (v := 0) hx hb dL_isHeard_239 (by decide) ?_
                  have h01 : (0 : Int32) = 0 ∨ (0 : Int32) = 1 := (Or.inl rfl)
                  subst hR
                  exact mu_zret hx hb hr hk h01 hA hS hP rfl dL_isHeard_240
                · rw [if_pos c_21] at hR
                  refine lv_aload_n hx hb dL_isHeard_222 rfl (lv_at hl 7 rfl) ?_
                  refine lv_iload_n hx hb dL_isHeard_223 rfl (lv_at hl 8 rfl) ?_
                  refine lv_iload_n hx hb dL_isHeard_224 rfl (lv_at hl 9 rfl) ?_
                  refine lv_iload_n hx hb dL_isHeard_225 rfl (lv_at hl 10 rfl) ?_
                  refine lv_iload hx hb dL_isHeard_226 (lv_at hl 11 rfl) ?_
                  refine ro_V (v := .int (mX5_why (q_7.2 0) house mill kind hour)) (rest := []) (As := [.int house, .int mill, .int kind, .int hour]) hx hb hml hown hts hl (MX5_why l D q ad (q_7.2 9 0 0) (q_7.2 0) house mill kind hour) gL_isHeard_X5_why rfl kX5_why ⟨Nat.le_of_ble_eq_true rfl, Nat.le_of_ble_eq_true rfl⟩ rfl rfl (hP.sub (ws' := (wXN q ad (q_7.2 9 0 0) (q_7.2 0))) [0, 1, 2, 3, 4, 5, 6, 7, 8, 9, 10] rfl) (dT (hD.sub (ws' := (wXN q ad (q_7.2 9 0 0) (q_7.2 0))) [0, 1, 2, 3, 4, 5, 6, 7, 8, 9, 10] (by decide) rfl)) hG (ci := 3) rfl rfl rfl rfl (Nat.le_of_ble_eq_true rfl) dL_isHeard_228 ⟨Nat.zero_le _, Nat.zero_le _⟩ ?_
                  obtain ⟨r_22, er_22⟩ : ∃ z, z = (mX5_why (q_7.2 0) house mill kind hour) := ⟨_, rfl⟩
                  rw [← er_22]
                  replace hR := lt_e hR er_22
                  refine lv_iconst (v := 2) hx hb dL_isHeard_231 (by decide) ?_
                  refine lv_icmp_ne (tgt := 239) hx hb dL_isHeard_232 (by decide) (fun c_23 => ?_) (fun c_23 => ?_)
                  · rw [if_neg c_23] at hR
                    have tc_23 : ¬ r_22.toInt = 2 := fun z => c_23 (i_eq.mpr z)
                    refine lv_iconst (v := 0) hx hb dL_isHeard_239 (by decide) ?_
                    have h01 : (0 : Int32) = 0 ∨ (0 : Int32) = 1 := (Or.inl rfl)
                    subst hR
                    exact mu_zret hx hb hr hk h01 hA hS hP rfl dL_isHeard_240
                  · rw [if_pos c_23] at hR
                    have tc_23 : r_22.toInt = 2 := i_eq.mp c_23
                    refine lv_iconst (v := 1) hx hb dL_isHeard_235 (by decide) ?_
                    refine lv_goto (tgt := 240) hx hb dL_isHeard_236 (by decide) ?_
                    have h01 : (1 : Int32) = 0 ∨ (1 : Int32) = 1 := (Or.inr rfl)
                    subst hR
                    exact mu_zret hx hb hr hk h01 hA hS hP rfl dL_isHeard_240
              refine lv_icmp_lt (tgt := 218) hx hb dL_isHeard_211 (by decide) (fun c_24 => ?_) (fun c_24 => ?_)
              · rw [if_pos c_24] at hR
                have tc_24 : q_7.1.toInt < r_19.toInt := i_lt.mp c_24
                refine lv_iconst (v := 0) hx hb dL_isHeard_218 (by decide) ?_
                exact key_219_20 0 hR ls (lv_sub hl [0, 1, 2, 3, 4, 5, 6, 7, 8, 9, 10, 11] rfl)
              · rw [if_neg c_24] at hR
                have tc_24 : ¬ q_7.1.toInt < r_19.toInt := fun z => c_24 (i_lt.mpr z)
                refine lv_iconst (v := 1) hx hb dL_isHeard_214 (by decide) ?_
                refine lv_goto (tgt := 219) hx hb dL_isHeard_215 (by decide) ?_
                exact key_219_20 1 hR ls (lv_sub hl [0, 1, 2, 3, 4, 5, 6, 7, 8, 9, 10, 11] rfl)
  · rw [if_neg c_8] at hR
    have tc_8 : ¬ r_1.toInt ≤ 0 := fun z => c_8 (i_le.mpr z)
    refine lv_iload hx hb dL_isHeard_65 (lv_at hl 6 rfl) ?_
    refine lv_iconst (v := 3) hx hb dL_isHeard_67 (by decide) ?_
    refine jn_1 hR (fun F_76_25 eF_76_25 hR => ?_)
    have key_76_25 : ∀ (y76_s0_25 : Int32), lt y76_s0_25 F_76_25 = R → ∀ ls : Array Slot, lv_has ls 13 [(11, .int q_7.1), (10, .int r_6), (9, .int r_5), (8, .int r_4), (7, .int r_3), (6, .int r_2), (5, .int r_1), (0, .ref (ad 9 0)), (1, .int house), (2, .int mill), (3, .int kind), (4, .int hour)] → W p l e ({ frames := 7, cells := 0, slots := 0, locals := 170 } : Room) s m ([.ref (ad 9 0), .int house, .int mill, .int kind, .int hour] : List Value).toArray below meth c H locs 0 0 (MQ below (muQ D (some (.int R.1)) (wX q ad xx) (wX q ad R.2)) ([.ref (ad 9 0), .int house, .int mill, .int kind, .int hour] : List Value).toArray s 0 0 (wAt (wX q ad xx))) (F0 m 76 ls [.int y76_s0_25]) := by
      intro y76_s0_25 hR ls hl
      rw [eF_76_25] at hR
      replace hR := jn_e1 hR
      refine lv_istore (lv' := [(12, .int y76_s0_25), (11, .int q_7.1), (10, .int r_6), (9, .int r_5), (8, .int r_4), (7, .int r_3), (6, .int r_2), (5, .int r_1), (0, .ref (ad 9 0)), (1, .int house), (2, .int mill), (3, .int kind), (4, .int hour)]) hx hb dL_isHeard_76 hl (by decide) rfl (fun ls hl => ?_)
      refine lv_iload hx hb dL_isHeard_78 (lv_at hl 1 rfl) ?_
      refine lv_bipush (v := (-10)) hx hb dL_isHeard_80 (by decide) ?_
      refine lv_iload hx hb dL_isHeard_82 (lv_at hl 7 rfl) ?_
      refine lv_isub hx hb dL_isHeard_84 ?_
      refine lv_icmp_ne (tgt := 140) hx hb dL_isHeard_85 (by decide) (fun c_26 => ?_) (fun c_26 => ?_)
      · rw [if_neg c_26] at hR
        have tc_26 : ¬ q_7.1.toInt = ((-10) - r_1).toInt := fun z => c_26 (i_eq.mpr z)
        refine lv_iconst (v := 0) hx hb dL_isHeard_140 (by decide) ?_
        have h01 : (0 : Int32) = 0 ∨ (0 : Int32) = 1 := (Or.inl rfl)
        subst hR
        exact mu_zret hx hb hr hk h01 hA hS hP rfl dL_isHeard_141
      · rw [if_pos c_26] at hR
        have tc_26 : q_7.1.toInt = ((-10) - r_1).toInt := i_eq.mp c_26
        refine lv_aload_n hx hb dL_isHeard_88 rfl (lv_at hl 8 rfl) ?_
        refine lv_iload_n hx hb dL_isHeard_89 rfl (lv_at hl 9 rfl) ?_
        refine lv_iconst (v := 1) hx hb dL_isHeard_90 (by decide) ?_
        refine ro_V (v := .int (mX5_houseOf (q_7.2 0) house 1)) (rest := []) (As := [.int house, .int 1]) hx hb hml hown hts hl (MX5_houseOf l D q ad (q_7.2 9 0 0) (q_7.2 0) house 1) gL_isHeard_X5_houseOf rfl kX5_houseOf ⟨Nat.le_of_ble_eq_true rfl, Nat.le_of_ble_eq_true rfl⟩ rfl rfl (hP.sub (ws' := (wXN q ad (q_7.2 9 0 0) (q_7.2 0))) [0, 1, 2, 3, 4, 5, 6, 7, 8, 9, 10] rfl) (dT (hD.sub (ws' := (wXN q ad (q_7.2 9 0 0) (q_7.2 0))) [0, 1, 2, 3, 4, 5, 6, 7, 8, 9, 10] (by decide) rfl)) hG (ci := 3) rfl rfl rfl rfl (Nat.le_of_ble_eq_true rfl) dL_isHeard_91 ⟨Nat.zero_le _, Nat.zero_le _⟩ ?_
        obtain ⟨r_27, er_27⟩ : ∃ z, z = (mX5_houseOf (q_7.2 0) house 1) := ⟨_, rfl⟩
        rw [← er_27]
        replace hR := lt_e hR er_27
        refine lv_iload hx hb dL_isHeard_94 (lv_at hl 6 rfl) ?_
        refine lv_iload hx hb dL_isHeard_96 (lv_at hl 0 rfl) ?_
        refine lv_iadd hx hb dL_isHeard_98 ?_
        refine lv_icmp_ne (tgt := 140) hx hb dL_isHeard_99 (by decide) (fun c_28 => ?_) (fun c_28 => ?_)
        · rw [if_neg c_28] at hR
          have tc_28 : ¬ r_27.toInt = (r_2 + y76_s0_25).toInt := fun z => c_28 (i_eq.mpr z)
          refine lv_iconst (v := 0) hx hb dL_isHeard_140 (by decide) ?_
          have h01 : (0 : Int32) = 0 ∨ (0 : Int32) = 1 := (Or.inl rfl)
          subst hR
          exact mu_zret hx hb hr hk h01 hA hS hP rfl dL_isHeard_141
        · rw [if_pos c_28] at hR
          have tc_28 : r_27.toInt = (r_2 + y76_s0_25).toInt := i_eq.mp c_28
          refine lv_aload_n hx hb dL_isHeard_102 rfl (lv_at hl 8 rfl) ?_
          refine lv_iconst (v := 3) hx hb dL_isHeard_103 (by decide) ?_
          refine ro_V (v := .int (mX5_count q_7.2 3)) (rest := []) (As := [.int 3]) hx hb hml hown hts hl (MX5_count l D q ad q_7.2 3) gL_isHeard_X5_count rfl kX5_count ⟨Nat.le_of_ble_eq_true rfl, Nat.le_of_ble_eq_true rfl⟩ rfl rfl hP (dT hD) hG (ci := 3) rfl rfl rfl rfl (Nat.le_of_ble_eq_true rfl) dL_isHeard_104 ⟨Nat.zero_le _, Nat.zero_le _⟩ ?_
          obtain ⟨r_29, er_29⟩ : ∃ z, z = (mX5_count q_7.2 3) := ⟨_, rfl⟩
          rw [← er_29]
          replace hR := lt_e hR er_29
          refine lv_iload hx hb dL_isHeard_107 (lv_at hl 2 rfl) ?_
          refine lv_iload hx hb dL_isHeard_109 (lv_at hl 0 rfl) ?_
          refine lv_iadd hx hb dL_isHeard_111 ?_
          refine lv_icmp_ne (tgt := 140) hx hb dL_isHeard_112 (by decide) (fun c_30 => ?_) (fun c_30 => ?_)
          · rw [if_neg c_30] at hR
            have tc_30 : ¬ r_29.toInt = (r_6 + y76_s0_25).toInt := fun z => c_30 (i_eq.mpr z)
            refine lv_iconst (v := 0) hx hb dL_isHeard_140 (by decide) ?_
            have h01 : (0 : Int32) = 0 ∨ (0 : Int32) = 1 := (Or.inl rfl)
            subst hR
            exact mu_zret hx hb hr hk h01 hA hS hP rfl dL_isHeard_141
          · rw [if_pos c_30] at hR
            have tc_30 : r_29.toInt = (r_6 + y76_s0_25).toInt := i_eq.mp c_30
            refine lv_aload_n hx hb dL_isHeard_115 rfl (lv_at hl 8 rfl) ?_
            refine lv_iload_n hx hb dL_isHeard_116 rfl (lv_at hl 9 rfl) ?_
            refine lv_iconst (v := 3) hx hb dL_isHeard_117 (by decide) ?_
            refine ro_V (v := .int (mX5_houseOf (q_7.2 0) house 3)) (rest := []) (As := [.int house, .int 3]) hx hb hml hown hts hl (MX5_houseOf l D q ad (q_7.2 9 0 0) (q_7.2 0) house 3) gL_isHeard_X5_houseOf rfl kX5_houseOf ⟨Nat.le_of_ble_eq_true rfl, Nat.le_of_ble_eq_true rfl⟩ rfl rfl (hP.sub (ws' := (wXN q ad (q_7.2 9 0 0) (q_7.2 0))) [0, 1, 2, 3, 4, 5, 6, 7, 8, 9, 10] rfl) (dT (hD.sub (ws' := (wXN q ad (q_7.2 9 0 0) (q_7.2 0))) [0, 1, 2, 3, 4, 5, 6, 7, 8, 9, 10] (by decide) rfl)) hG (ci := 3) rfl rfl rfl rfl (Nat.le_of_ble_eq_true rfl) dL_isHeard_118 ⟨Nat.zero_le _, Nat.zero_le _⟩ ?_
            obtain ⟨r_31, er_31⟩ : ∃ z, z = (mX5_houseOf (q_7.2 0) house 3) := ⟨_, rfl⟩
            rw [← er_31]
            replace hR := lt_e hR er_31
            refine lv_iload hx hb dL_isHeard_121 (lv_at hl 5 rfl) ?_
            refine lv_icmp_ne (tgt := 140) hx hb dL_isHeard_123 (by decide) (fun c_32 => ?_) (fun c_32 => ?_)
            · rw [if_neg c_32] at hR
              have tc_32 : ¬ r_31.toInt = r_3.toInt := fun z => c_32 (i_eq.mpr z)
              refine lv_iconst (v := 0) hx hb dL_isHeard_140 (by decide) ?_
              have h01 : (0 : Int32) = 0 ∨ (0 : Int32) = 1 := (Or.inl rfl)
              subst hR
              exact mu_zret hx hb hr hk h01 hA hS hP rfl dL_isHeard_141
            · rw [if_pos c_32] at hR
              have tc_32 : r_31.toInt = r_3.toInt := i_eq.mp c_32
              refine lv_aload_n hx hb dL_isHeard_126 rfl (lv_at hl 8 rfl) ?_
              refine lv_iconst (v := 2) hx hb dL_isHeard_127 (by decide) ?_
              refine ro_V (v := .int (mX5_count q_7.2 2)) (rest := []) (As := [.int 2]) hx hb hml hown hts hl (MX5_count l D q ad q_7.2 2) gL_isHeard_X5_count rfl kX5_count ⟨Nat.le_of_ble_eq_true rfl, Nat.le_of_ble_eq_true rfl⟩ rfl rfl hP (dT hD) hG (ci := 3) rfl rfl rfl rfl (Nat.le_of_ble_eq_true rfl) dL_isHeard_128 ⟨Nat.zero_le _, Nat.zero_le _⟩ ?_
              obtain ⟨r_33, er_33⟩ : ∃ z, z = (mX5_count q_7.2 2) := ⟨_, rfl⟩
              rw [← er_33]
              replace hR := lt_e hR er_33
              refine lv_iload hx hb dL_isHeard_131 (lv_at hl 3 rfl) ?_
              refine lv_icmp_ne (tgt := 140) hx hb dL_isHeard_133 (by decide) (fun c_34 => ?_) (fun c_34 => ?_)
              · rw [if_neg c_34] at hR
                have tc_34 : ¬ r_33.toInt = r_5.toInt := fun z => c_34 (i_eq.mpr z)
                refine lv_iconst (v := 0) hx hb dL_isHeard_140 (by decide) ?_
                have h01 : (0 : Int32) = 0 ∨ (0 : Int32) = 1 := (Or.inl rfl)
                subst hR
                exact mu_zret hx hb hr hk h01 hA hS hP rfl dL_isHeard_141
              · rw [if_pos c_34] at hR
                have tc_34 : r_33.toInt = r_5.toInt := i_eq.mp c_34
                refine lv_iconst (v := 1) hx hb dL_isHeard_136 (by decide) ?_
                refine lv_goto (tgt := 141) hx hb dL_isHeard_137 (by decide) ?_
                have h01 : (1 : Int32) = 0 ∨ (1 : Int32) = 1 := (Or.inr rfl)
                subst hR
                exact mu_zret hx hb hr hk h01 hA hS hP rfl dL_isHeard_141
    refine lv_icmp_le (tgt := 75) hx hb dL_isHeard_68 (by decide) (fun c_35 => ?_) (fun c_35 => ?_)
    · rw [if_pos c_35] at hR
      have tc_35 : r_1.toInt ≤ 3 := i_le.mp c_35
      refine lv_iconst (v := 0) hx hb dL_isHeard_75 (by decide) ?_
      exact key_76_25 0 hR ls (lv_sub hl [0, 1, 2, 3, 4, 5, 6, 7, 8, 9, 10, 11] rfl)
    · rw [if_neg c_35] at hR
      have tc_35 : ¬ r_1.toInt ≤ 3 := fun z => c_35 (i_le.mpr z)
      refine lv_iconst (v := 1) hx hb dL_isHeard_71 (by decide) ?_
      refine lv_goto (tgt := 76) hx hb dL_isHeard_72 (by decide) ?_
      exact key_76_25 1 hR ls (lv_sub hl [0, 1, 2, 3, 4, 5, 6, 7, 8, 9, 10, 11] rfl)

def mL_isVoted (xx : Nat → Nat → Nat → Int32) (mill hour : Int32) : Int32 × (Nat → Nat → Nat → Int32) := (lt (mX5_millOf (xx 0) mill 2) (fun r_1 => (lt (mX5_ifVoted (xx 0) mill hour) (fun r_2 => (lt (mX5_count xx 6) (fun r_3 => (lt (mX5_count xx 7) (fun r_4 => (lt (mX5_count xx 1) (fun r_5 => (lt (mX5_vote xx mill hour) (fun q_6 => (lt (mL_has r_1 hour) (fun r_7 => (if r_7 = 0 then (if q_6.1 = (-4) then (lt (mX5_count q_6.2 6) (fun r_10 => (if r_10 = r_3 then (1, q_6.2) else (0, q_6.2)))) else (0, q_6.2)) else (if r_5 = 0 then (if q_6.1 = (-4) then (lt (mX5_count q_6.2 6) (fun r_27 => (if r_27 = r_3 then (1, q_6.2) else (0, q_6.2)))) else (0, q_6.2)) else (lt ((if (2 * r_2) ≤ r_5 then 0 else 1) : Int32) (fun y97_s0_13 => (if q_6.1 = r_2 then (lt (mX5_count q_6.2 6) (fun r_15 => (if r_15 = (r_3 + 1) then (lt (mX5_count q_6.2 7) (fun r_17 => (lt ((if y97_s0_13 = 0 then 0 else 1) : Int32) (fun y137_s0_18 => (if r_17 = (r_4 + y137_s0_18) then (lt (mX5_millOf (q_6.2 0) mill 2) (fun r_20 => (lt ((if y97_s0_13 = 0 then r_1 else (r_1 - (1 <<< (hour &&& 31)))) : Int32) (fun y161_s0_21 => (if r_20 = y161_s0_21 then (1, q_6.2) else (0, q_6.2)))))) else (0, q_6.2)))))) else (0, q_6.2)))) else (0, q_6.2))))))))))))))))))))
theorem kL_isVoted : yL_isVoted.cls ≠ "java/lang/invoke/MethodHandle" ∧ yL_isVoted.cls ≠ "java/lang/invoke/VarHandle" ∧ (parseMethodDescriptor yL_isVoted.desc).map (fun d => d.parameters.length) = some 3 := by decide +kernel
set_option maxHeartbeats 4000000 in
set_option maxRecDepth 100000 in
theorem ML_isVoted (l : Launch) (D : va_G) (q : Nat → ClassId) (ad : Nat → Nat → Nat) (xx : Nat → Nat → Nat → Int32) (mill hour : Int32) (hrg : rgOk xx) : muM l D (tyq q) yL_isVoted wsL_isVoted ({ frames := 7, cells := 0, slots := 0, locals := 167 } : Room) [.ref (ad 9 0), .int mill, .int hour] (wX q ad xx) (some (.int (mL_isVoted xx mill hour).1)) (wX q ad (mL_isVoted xx mill hour).2) := by
  obtain ⟨R, hR⟩ : ∃ z, (mL_isVoted xx mill hour) = z := ⟨_, rfl⟩
  rw [hR]
  unfold mL_isVoted at hR
  refine muM.of (cc := cL_isVoted) (maxL := 10) (ret := (some .boolean)) (by decide) rfl (Nat.le_of_ble_eq_true rfl) ?_
  intro p e s m below meth c ls A hx hb hr hk hml hown hts hP hD hG hA hl
  have hS : va_S A s.heap s.heap [] := va_S.rf
  have hl : lv_has ls 10 [(0, .ref (ad 9 0)), (1, .int mill), (2, .int hour)] := hl
  refine lv_aload_n hx hb dL_isVoted_0 rfl (lv_at hl 0 rfl) ?_
  refine lv_iload_n hx hb dL_isVoted_1 rfl (lv_at hl 1 rfl) ?_
  refine lv_iconst (v := 2) hx hb dL_isVoted_2 (by decide) ?_
  refine ro_V (v := .int (mX5_millOf (xx 0) mill 2)) (rest := []) (As := [.int mill, .int 2]) hx hb hml hown hts hl (MX5_millOf l D q ad (xx 9 0 0) (xx 0) mill 2) gL_isVoted_X5_millOf rfl kX5_millOf ⟨Nat.le_of_ble_eq_true rfl, Nat.le_of_ble_eq_true rfl⟩ rfl rfl (hP.sub (ws' := (wXN q ad (xx 9 0 0) (xx 0))) [0, 1, 2, 3, 4, 5, 6, 7, 8, 9, 10] rfl) (dT (hD.sub (ws' := (wXN q ad (xx 9 0 0) (xx 0))) [0, 1, 2, 3, 4, 5, 6, 7, 8, 9, 10] (by decide) rfl)) hG (ci := 3) rfl rfl rfl rfl (Nat.le_of_ble_eq_true rfl) dL_isVoted_3 ⟨Nat.zero_le _, Nat.zero_le _⟩ ?_
  obtain ⟨r_1, er_1⟩ : ∃ z, z = (mX5_millOf (xx 0) mill 2) := ⟨_, rfl⟩
  rw [← er_1]
  replace hR := lt_e hR er_1
  refine lv_istore_n (lv' := [(3, .int r_1), (0, .ref (ad 9 0)), (1, .int mill), (2, .int hour)]) hx hb dL_isVoted_6 rfl hl (by decide) rfl (fun ls hl => ?_)
  refine lv_aload_n hx hb dL_isVoted_7 rfl (lv_at hl 1 rfl) ?_
  refine lv_iload_n hx hb dL_isVoted_8 rfl (lv_at hl 2 rfl) ?_
  refine lv_iload_n hx hb dL_isVoted_9 rfl (lv_at hl 3 rfl) ?_
  refine ro_V (v := .int (mX5_ifVoted (xx 0) mill hour)) (rest := []) (As := [.int mill, .int hour]) hx hb hml hown hts hl (MX5_ifVoted l D q ad (xx 9 0 0) (xx 0) mill hour) gL_isVoted_X5_ifVoted rfl kX5_ifVoted ⟨Nat.le_of_ble_eq_true rfl, Nat.le_of_ble_eq_true rfl⟩ rfl rfl (hP.sub (ws' := (wXN q ad (xx 9 0 0) (xx 0))) [0, 1, 2, 3, 4, 5, 6, 7, 8, 9, 10] rfl) (dT (hD.sub (ws' := (wXN q ad (xx 9 0 0) (xx 0))) [0, 1, 2, 3, 4, 5, 6, 7, 8, 9, 10] (by decide) rfl)) hG (ci := 3) rfl rfl rfl rfl (Nat.le_of_ble_eq_true rfl) dL_isVoted_10 ⟨Nat.zero_le _, Nat.zero_le _⟩ ?_
  obtain ⟨r_2, er_2⟩ : ∃ z, z = (mX5_ifVoted (xx 0) mill hour) := ⟨_, rfl⟩
  rw [← er_2]
  replace hR := lt_e hR er_2
  refine lv_istore (lv' := [(4, .int r_2), (3, .int r_1), (0, .ref (ad 9 0)), (1, .int mill), (2, .int hour)]) hx hb dL_isVoted_13 hl (by decide) rfl (fun ls hl => ?_)
  refine lv_aload_n hx hb dL_isVoted_15 rfl (lv_at hl 2 rfl) ?_
  refine lv_bipush (v := 6) hx hb dL_isVoted_16 (by decide) ?_
  refine ro_V (v := .int (mX5_count xx 6)) (rest := []) (As := [.int 6]) hx hb hml hown hts hl (MX5_count l D q ad xx 6) gL_isVoted_X5_count rfl kX5_count ⟨Nat.le_of_ble_eq_true rfl, Nat.le_of_ble_eq_true rfl⟩ rfl rfl hP (dT hD) hG (ci := 3) rfl rfl rfl rfl (Nat.le_of_ble_eq_true rfl) dL_isVoted_18 ⟨Nat.zero_le _, Nat.zero_le _⟩ ?_
  obtain ⟨r_3, er_3⟩ : ∃ z, z = (mX5_count xx 6) := ⟨_, rfl⟩
  rw [← er_3]
  replace hR := lt_e hR er_3
  refine lv_istore (lv' := [(5, .int r_3), (4, .int r_2), (3, .int r_1), (0, .ref (ad 9 0)), (1, .int mill), (2, .int hour)]) hx hb dL_isVoted_21 hl (by decide) rfl (fun ls hl => ?_)
  refine lv_aload_n hx hb dL_isVoted_23 rfl (lv_at hl 3 rfl) ?_
  refine lv_bipush (v := 7) hx hb dL_isVoted_24 (by decide) ?_
  refine ro_V (v := .int (mX5_count xx 7)) (rest := []) (As := [.int 7]) hx hb hml hown hts hl (MX5_count l D q ad xx 7) gL_isVoted_X5_count rfl kX5_count ⟨Nat.le_of_ble_eq_true rfl, Nat.le_of_ble_eq_true rfl⟩ rfl rfl hP (dT hD) hG (ci := 3) rfl rfl rfl rfl (Nat.le_of_ble_eq_true rfl) dL_isVoted_26 ⟨Nat.zero_le _, Nat.zero_le _⟩ ?_
  obtain ⟨r_4, er_4⟩ : ∃ z, z = (mX5_count xx 7) := ⟨_, rfl⟩
  rw [← er_4]
  replace hR := lt_e hR er_4
  refine lv_istore (lv' := [(6, .int r_4), (5, .int r_3), (4, .int r_2), (3, .int r_1), (0, .ref (ad 9 0)), (1, .int mill), (2, .int hour)]) hx hb dL_isVoted_29 hl (by decide) rfl (fun ls hl => ?_)
  refine lv_aload_n hx hb dL_isVoted_31 rfl (lv_at hl 4 rfl) ?_
  refine lv_iconst (v := 1) hx hb dL_isVoted_32 (by decide) ?_
  refine ro_V (v := .int (mX5_count xx 1)) (rest := []) (As := [.int 1]) hx hb hml hown hts hl (MX5_count l D q ad xx 1) gL_isVoted_X5_count rfl kX5_count ⟨Nat.le_of_ble_eq_true rfl, Nat.le_of_ble_eq_true rfl⟩ rfl rfl hP (dT hD) hG (ci := 3) rfl rfl rfl rfl (Nat.le_of_ble_eq_true rfl) dL_isVoted_33 ⟨Nat.zero_le _, Nat.zero_le _⟩ ?_
  obtain ⟨r_5, er_5⟩ : ∃ z, z = (mX5_count xx 1) := ⟨_, rfl⟩
  rw [← er_5]
  replace hR := lt_e hR er_5
  refine lv_istore (lv' := [(7, .int r_5), (6, .int r_4), (5, .int r_3), (4, .int r_2), (3, .int r_1), (0, .ref (ad 9 0)), (1, .int mill), (2, .int hour)]) hx hb dL_isVoted_36 hl (by decide) rfl (fun ls hl => ?_)
  refine lv_aload_n hx hb dL_isVoted_38 rfl (lv_at hl 5 rfl) ?_
  refine lv_iload_n hx hb dL_isVoted_39 rfl (lv_at hl 6 rfl) ?_
  refine lv_iload_n hx hb dL_isVoted_40 rfl (lv_at hl 7 rfl) ?_
  obtain ⟨q_6, eq_6⟩ : ∃ z, z = (mX5_vote xx mill hour) := ⟨_, rfl⟩
  have hM := MX5_vote l D q ad xx mill hour hrg
  rw [← eq_6] at hM
  replace hR := lt_e hR eq_6
  refine mu_V (D := D) (ws := (wX q ad xx)) (ws' := (wX q ad q_6.2)) (rest := []) (As := [.int mill, .int hour]) hx hb hml hown hts hl hM gL_isVoted_X5_vote rfl kX5_vote ⟨Nat.le_of_ble_eq_true rfl, Nat.le_of_ble_eq_true rfl⟩ rfl rfl hP hD hS hG [0, 1, 2, 3, 4, 5, 6, 7, 8, 9, 10, 11, 12, 13, 14, 15, 16, 17, 18, 19, 20, 21, 22, 23, 24, 25, 26, 27, 28, 29, 30, 31, 32, 33, 34, 35, 36, 37, 38, 39, 40, 41, 42, 43, 44, 45, 46, 47, 48, 49, 50, 51, 52, 53, 54, 55, 56, 57, 58, 59, 60, 61, 62, 63, 64, 65, 66, 67, 68, 69, 70, 71, 72, 73, 74] rfl rfl (by decide) [75, 76, 77, 78, 79, 80, 81, 82, 83, 84, 85, 86, 87, 88, 89, 90, 91, 92, 93, 94, 95, 96, 97, 98, 99, 100, 101, 102, 103, 104, 105, 106, 107, 108, 109, 110, 111, 112, 113, 114, 115, 116, 117, 118, 119, 120, 121, 122, 123, 124, 125, 126, 127, 128, 129, 130, 131, 132, 133, 134, 135, 136, 137, 138, 139, 140, 141, 142, 143, 144, 145, 146, 147, 148, 149] rfl (by decide) rfl (ci := 3) rfl rfl rfl rfl (Nat.le_of_ble_eq_true rfl) dL_isVoted_41 ⟨Nat.zero_le _, Nat.zero_le _⟩ (fun H locs hP hD hS => ?_)
  refine lv_istore (lv' := [(8, .int q_6.1), (7, .int r_5), (6, .int r_4), (5, .int r_3), (4, .int r_2), (3, .int r_1), (0, .ref (ad 9 0)), (1, .int mill), (2, .int hour)]) hx hb dL_isVoted_44 hl (by decide) rfl (fun ls hl => ?_)
  refine lv_iload_n hx hb dL_isVoted_46 rfl (lv_at hl 5 rfl) ?_
  refine lv_iload_n hx hb dL_isVoted_47 rfl (lv_at hl 8 rfl) ?_
  refine ro_S (v := .int (mL_has r_1 hour)) (rest := []) (As := [.int r_1, .int hour]) hx hb hml hown hts hl (ML_has l D q r_1 hour) gL_isVoted_L_has rfl kL_has ⟨Nat.le_of_ble_eq_true rfl, Nat.le_of_ble_eq_true rfl⟩ rfl rfl (hP.sub (ws' := []) [] rfl) (dT (hD.sub (ws' := []) [] (by decide) rfl)) hG rfl rfl (Nat.le_of_ble_eq_true rfl) dL_isVoted_48 ⟨Nat.zero_le _, Nat.zero_le _⟩ ?_
  obtain ⟨r_7, er_7⟩ : ∃ z, z = (mL_has r_1 hour) := ⟨_, rfl⟩
  rw [← er_7]
  replace hR := lt_e hR er_7
  refine lv_if_eq (tgt := 59) hx hb dL_isVoted_51 (by decide) (fun c_8 => ?_) (fun c_8 => ?_)
  · rw [if_pos c_8] at hR
    refine lv_iload hx hb dL_isVoted_59 (lv_at hl 0 rfl) ?_
    refine lv_bipush (v := (-4)) hx hb dL_isVoted_61 (by decide) ?_
    refine lv_icmp_ne (tgt := 81) hx hb dL_isVoted_63 (by decide) (fun c_9 => ?_) (fun c_9 => ?_)
    · rw [if_neg c_9] at hR
      have tc_9 : ¬ q_6.1.toInt = (-4) := fun z => c_9 (i_eq.mpr z)
      refine lv_iconst (v := 0) hx hb dL_isVoted_81 (by decide) ?_
      have h01 : (0 : Int32) = 0 ∨ (0 : Int32) = 1 := (Or.inl rfl)
      subst hR
      exact mu_zret hx hb hr hk h01 hA hS hP rfl dL_isVoted_82
    · rw [if_pos c_9] at hR
      have tc_9 : q_6.1.toInt = (-4) := i_eq.mp c_9
      refine lv_aload_n hx hb dL_isVoted_66 rfl (lv_at hl 6 rfl) ?_
      refine lv_bipush (v := 6) hx hb dL_isVoted_67 (by decide) ?_
      refine ro_V (v := .int (mX5_count q_6.2 6)) (rest := []) (As := [.int 6]) hx hb hml hown hts hl (MX5_count l D q ad q_6.2 6) gL_isVoted_X5_count rfl kX5_count ⟨Nat.le_of_ble_eq_true rfl, Nat.le_of_ble_eq_true rfl⟩ rfl rfl hP (dT hD) hG (ci := 3) rfl rfl rfl rfl (Nat.le_of_ble_eq_true rfl) dL_isVoted_69 ⟨Nat.zero_le _, Nat.zero_le _⟩ ?_
      obtain ⟨r_10, er_10⟩ : ∃ z, z = (mX5_count q_6.2 6) := ⟨_, rfl⟩
      rw [← er_10]
      replace hR := lt_e hR er_10
      refine lv_iload hx hb dL_isVoted_72 (lv_at hl 3 rfl) ?_
      refine lv_icmp_ne (tgt := 81) hx hb dL_isVoted_74 (by decide) (fun c_11 => ?_) (fun c_11 => ?_)
      · rw [if_neg c_11] at hR
        have tc_11 : ¬ r_10.toInt = r_3.toInt := fun z => c_11 (i_eq.mpr z)
        refine lv_iconst (v := 0) hx hb dL_isVoted_81 (by decide) ?_
        have h01 : (0 : Int32) = 0 ∨ (0 : Int32) = 1 := (Or.inl rfl)
        subst hR
        exact mu_zret hx hb hr hk h01 hA hS hP rfl dL_isVoted_82
      · rw [if_pos c_11] at hR
        have tc_11 : r_10.toInt = r_3.toInt := i_eq.mp c_11
        refine lv_iconst (v := 1) hx hb dL_isVoted_77 (by decide) ?_
        refine lv_goto (tgt := 82) hx hb dL_isVoted_78 (by decide) ?_
        have h01 : (1 : Int32) = 0 ∨ (1 : Int32) = 1 := (Or.inr rfl)
        subst hR
        exact mu_zret hx hb hr hk h01 hA hS hP rfl dL_isVoted_82
  · rw [if_neg c_8] at hR
    refine lv_iload hx hb dL_isVoted_54 (lv_at hl 1 rfl) ?_
    refine lv_if_ne (tgt := 83) hx hb dL_isVoted_56 (by decide) (fun c_12 => ?_) (fun c_12 => ?_)
    · rw [if_neg c_12] at hR
      have tc_12 : ¬ r_5.toInt = 0 := fun z => c_12 (i_eq.mpr z)
      refine lv_iconst (v := 2) hx hb dL_isVoted_83 (by decide) ?_
      refine lv_iload hx hb dL_isVoted_84 (lv_at hl 4 rfl) ?_
      refine lv_imul hx hb dL_isVoted_86 ?_
      refine lv_iload hx hb dL_isVoted_87 (lv_at hl 1 rfl) ?_
      refine jn_1 hR (fun F_97_13 eF_97_13 hR => ?_)
      have key_97_13 : ∀ (y97_s0_13 : Int32), lt y97_s0_13 F_97_13 = R → ∀ ls : Array Slot, lv_has ls 10 [(8, .int q_6.1), (7, .int r_5), (6, .int r_4), (5, .int r_3), (4, .int r_2), (3, .int r_1), (0, .ref (ad 9 0)), (1, .int mill), (2, .int hour)] → W p l e ({ frames := 7, cells := 0, slots := 0, locals := 167 } : Room) s m ([.ref (ad 9 0), .int mill, .int hour] : List Value).toArray below meth c H locs 0 0 (MQ below (muQ D (some (.int R.1)) (wX q ad xx) (wX q ad R.2)) ([.ref (ad 9 0), .int mill, .int hour] : List Value).toArray s 0 0 (wAt (wX q ad xx))) (F0 m 97 ls [.int y97_s0_13]) := by
        intro y97_s0_13 hR ls hl
        rw [eF_97_13] at hR
        replace hR := jn_e1 hR
        refine lv_istore (lv' := [(9, .int y97_s0_13), (8, .int q_6.1), (7, .int r_5), (6, .int r_4), (5, .int r_3), (4, .int r_2), (3, .int r_1), (0, .ref (ad 9 0)), (1, .int mill), (2, .int hour)]) hx hb dL_isVoted_97 hl (by decide) rfl (fun ls hl => ?_)
        refine lv_iload hx hb dL_isVoted_99 (lv_at hl 1 rfl) ?_
        refine lv_iload hx hb dL_isVoted_101 (lv_at hl 5 rfl) ?_
        refine lv_icmp_ne (tgt := 168) hx hb dL_isVoted_103 (by decide) (fun c_14 => ?_) (fun c_14 => ?_)
        · rw [if_neg c_14] at hR
          have tc_14 : ¬ q_6.1.toInt = r_2.toInt := fun z => c_14 (i_eq.mpr z)
          refine lv_iconst (v := 0) hx hb dL_isVoted_168 (by decide) ?_
          have h01 : (0 : Int32) = 0 ∨ (0 : Int32) = 1 := (Or.inl rfl)
          subst hR
          exact mu_zret hx hb hr hk h01 hA hS hP rfl dL_isVoted_169
        · rw [if_pos c_14] at hR
          have tc_14 : q_6.1.toInt = r_2.toInt := i_eq.mp c_14
          refine lv_aload_n hx hb dL_isVoted_106 rfl (lv_at hl 7 rfl) ?_
          refine lv_bipush (v := 6) hx hb dL_isVoted_107 (by decide) ?_
          refine ro_V (v := .int (mX5_count q_6.2 6)) (rest := []) (As := [.int 6]) hx hb hml hown hts hl (MX5_count l D q ad q_6.2 6) gL_isVoted_X5_count rfl kX5_count ⟨Nat.le_of_ble_eq_true rfl, Nat.le_of_ble_eq_true rfl⟩ rfl rfl hP (dT hD) hG (ci := 3) rfl rfl rfl rfl (Nat.le_of_ble_eq_true rfl) dL_isVoted_109 ⟨Nat.zero_le _, Nat.zero_le _⟩ ?_
          obtain ⟨r_15, er_15⟩ : ∃ z, z = (mX5_count q_6.2 6) := ⟨_, rfl⟩
          rw [← er_15]
          replace hR := lt_e hR er_15
          refine lv_iload hx hb dL_isVoted_112 (lv_at hl 4 rfl) ?_
          refine lv_iconst (v := 1) hx hb dL_isVoted_114 (by decide) ?_
          refine lv_iadd hx hb dL_isVoted_115 ?_
          refine lv_icmp_ne (tgt := 168) hx hb dL_isVoted_116 (by decide) (fun c_16 => ?_) (fun c_16 => ?_)
          · rw [if_neg c_16] at hR
            have tc_16 : ¬ r_15.toInt = (r_3 + 1).toInt := fun z => c_16 (i_eq.mpr z)
            refine lv_iconst (v := 0) hx hb dL_isVoted_168 (by decide) ?_
            have h01 : (0 : Int32) = 0 ∨ (0 : Int32) = 1 := (Or.inl rfl)
            subst hR
            exact mu_zret hx hb hr hk h01 hA hS hP rfl dL_isVoted_169
          · rw [if_pos c_16] at hR
            have tc_16 : r_15.toInt = (r_3 + 1).toInt := i_eq.mp c_16
            refine lv_aload_n hx hb dL_isVoted_119 rfl (lv_at hl 7 rfl) ?_
            refine lv_bipush (v := 7) hx hb dL_isVoted_120 (by decide) ?_
            refine ro_V (v := .int (mX5_count q_6.2 7)) (rest := []) (As := [.int 7]) hx hb hml hown hts hl (MX5_count l D q ad q_6.2 7) gL_isVoted_X5_count rfl kX5_count ⟨Nat.le_of_ble_eq_true rfl, Nat.le_of_ble_eq_true rfl⟩ rfl rfl hP (dT hD) hG (ci := 3) rfl rfl rfl rfl (Nat.le_of_ble_eq_true rfl) dL_isVoted_122 ⟨Nat.zero_le _, Nat.zero_le _⟩ ?_
            obtain ⟨r_17, er_17⟩ : ∃ z, z = (mX5_count q_6.2 7) := ⟨_, rfl⟩
            rw [← er_17]
            replace hR := lt_e hR er_17
            refine lv_iload hx hb dL_isVoted_125 (lv_at hl 3 rfl) ?_
            refine lv_iload hx hb dL_isVoted_127 (lv_at hl 0 rfl) ?_
            refine jn_1 hR (fun F_137_18 eF_137_18 hR => ?_)
            have key_137_18 : ∀ (y137_s0_18 : Int32), lt y137_s0_18 F_137_18 = R → ∀ ls : Array Slot, lv_has ls 10 [(9, .int y97_s0_13), (8, .int q_6.1), (7, .int r_5), (6, .int r_4), (5, .int r_3), (4, .int r_2), (3, .int r_1), (0, .ref (ad 9 0)), (1, .int mill), (2, .int hour)] → W p l e ({ frames := 7, cells := 0, slots := 0, locals := 167 } : Room) s m ([.ref (ad 9 0), .int mill, .int hour] : List Value).toArray below meth c H locs 0 0 (MQ below (muQ D (some (.int R.1)) (wX q ad xx) (wX q ad R.2)) ([.ref (ad 9 0), .int mill, .int hour] : List Value).toArray s 0 0 (wAt (wX q ad xx))) (F0 m 137 ls [.int y137_s0_18, .int r_4, .int r_17]) := by
              intro y137_s0_18 hR ls hl
              rw [eF_137_18] at hR
              replace hR := jn_e1 hR
              refine lv_iadd hx hb dL_isVoted_137 ?_
              refine lv_icmp_ne (tgt := 168) hx hb dL_isVoted_138 (by decide) (fun c_19 => ?_) (fun c_19 => ?_)
              · rw [if_neg c_19] at hR
                have tc_19 : ¬ r_17.toInt = (r_4 + y137_s0_18).toInt := fun z => c_19 (i_eq.mpr z)
                refine lv_iconst (v := 0) hx hb dL_isVoted_168 (by decide) ?_
                have h01 : (0 : Int32) = 0 ∨ (0 : Int32) = 1 := (Or.inl rfl)
                subst hR
                exact mu_zret hx hb hr hk h01 hA hS hP rfl dL_isVoted_169
              · rw [if_pos c_19] at hR
                have tc_19 : r_17.toInt = (r_4 + y137_s0_18).toInt := i_eq.mp c_19
                refine lv_aload_n hx hb dL_isVoted_141 rfl (lv_at hl 7 rfl) ?_
                refine lv_iload_n hx hb dL_isVoted_142 rfl (lv_at hl 8 rfl) ?_
                refine lv_iconst (v := 2) hx hb dL_isVoted_143 (by decide) ?_
                refine ro_V (v := .int (mX5_millOf (q_6.2 0) mill 2)) (rest := []) (As := [.int mill, .int 2]) hx hb hml hown hts hl (MX5_millOf l D q ad (q_6.2 9 0 0) (q_6.2 0) mill 2) gL_isVoted_X5_millOf rfl kX5_millOf ⟨Nat.le_of_ble_eq_true rfl, Nat.le_of_ble_eq_true rfl⟩ rfl rfl (hP.sub (ws' := (wXN q ad (q_6.2 9 0 0) (q_6.2 0))) [0, 1, 2, 3, 4, 5, 6, 7, 8, 9, 10] rfl) (dT (hD.sub (ws' := (wXN q ad (q_6.2 9 0 0) (q_6.2 0))) [0, 1, 2, 3, 4, 5, 6, 7, 8, 9, 10] (by decide) rfl)) hG (ci := 3) rfl rfl rfl rfl (Nat.le_of_ble_eq_true rfl) dL_isVoted_144 ⟨Nat.zero_le _, Nat.zero_le _⟩ ?_
                obtain ⟨r_20, er_20⟩ : ∃ z, z = (mX5_millOf (q_6.2 0) mill 2) := ⟨_, rfl⟩
                rw [← er_20]
                replace hR := lt_e hR er_20
                refine lv_iload hx hb dL_isVoted_147 (lv_at hl 0 rfl) ?_
                refine jn_1 hR (fun F_161_21 eF_161_21 hR => ?_)
                have key_161_21 : ∀ (y161_s0_21 : Int32), lt y161_s0_21 F_161_21 = R → ∀ ls : Array Slot, lv_has ls 10 [(9, .int y97_s0_13), (8, .int q_6.1), (7, .int r_5), (6, .int r_4), (5, .int r_3), (4, .int r_2), (3, .int r_1), (0, .ref (ad 9 0)), (1, .int mill), (2, .int hour)] → W p l e ({ frames := 7, cells := 0, slots := 0, locals := 167 } : Room) s m ([.ref (ad 9 0), .int mill, .int hour] : List Value).toArray below meth c H locs 0 0 (MQ below (muQ D (some (.int R.1)) (wX q ad xx) (wX q ad R.2)) ([.ref (ad 9 0), .int mill, .int hour] : List Value).toArray s 0 0 (wAt (wX q ad xx))) (F0 m 161 ls [.int y161_s0_21, .int r_20]) := by
                  intro y161_s0_21 hR ls hl
                  rw [eF_161_21] at hR
                  replace hR := jn_e1 hR
                  refine lv_icmp_ne (tgt := 168) hx hb dL_isVoted_161 (by decide) (fun c_22 => ?_) (fun c_22 => ?_)
                  · rw [if_neg c_22] at hR
                    have tc_22 : ¬ r_20.toInt = y161_s0_21.toInt := fun z => c_22 (i_eq.mpr z)
                    refine lv_iconst (v := 0) hx hb dL_isVoted_168 (by decide) ?_
                    have h01 : (0 : Int32) = 0 ∨ (0 : Int32) = 1 := (Or.inl rfl)
                    subst hR
                    exact mu_zret hx hb hr hk h01 hA hS hP rfl dL_isVoted_169
                  · rw [if_pos c_22] at hR
                    have tc_22 : r_20.toInt = y161_s0_21.toInt := i_eq.mp c_22
                    refine lv_iconst (v := 1) hx hb dL_isVoted_164 (by decide) ?_
                    refine lv_goto (tgt := 169) hx hb dL_isVoted_165 (by decide) ?_
                    have h01 : (1 : Int32) = 0 ∨ (1 : Int32) = 1 := (Or.inr rfl)
                    subst hR
                    exact mu_zret hx hb hr hk h01 hA hS hP rfl dL_isVoted_169
                refine lv_if_eq (tgt := 160) hx hb dL_isVoted_149 (by decide) (fun c_23 => ?_) (fun c_23 => ?_)
                · rw [if_pos c_23] at hR
                  have tc_23 : y97_s0_13.toInt = 0 := i_eq.mp c_23
                  refine lv_iload_n hx hb dL_isVoted_160 rfl (lv_at hl 6 rfl) ?_
                  exact key_161_21 r_1 hR ls (lv_sub hl [0, 1, 2, 3, 4, 5, 6, 7, 8, 9] rfl)
                · rw [if_neg c_23] at hR
                  have tc_23 : ¬ y97_s0_13.toInt = 0 := fun z => c_23 (i_eq.mpr z)
                  refine lv_iload_n hx hb dL_isVoted_152 rfl (lv_at hl 6 rfl) ?_
                  refine lv_iconst (v := 1) hx hb dL_isVoted_153 (by decide) ?_
                  refine lv_iload_n hx hb dL_isVoted_154 rfl (lv_at hl 9 rfl) ?_
                  refine lv_ishl hx hb dL_isVoted_155 ?_
                  refine lv_isub hx hb dL_isVoted_156 ?_
                  refine lv_goto (tgt := 161) hx hb dL_isVoted_157 (by decide) ?_
                  exact key_161_21 (r_1 - (1 <<< (hour &&& 31))) hR ls (lv_sub hl [0, 1, 2, 3, 4, 5, 6, 7, 8, 9] rfl)
            refine lv_if_eq (tgt := 136) hx hb dL_isVoted_129 (by decide) (fun c_24 => ?_) (fun c_24 => ?_)
            · rw [if_pos c_24] at hR
              have tc_24 : y97_s0_13.toInt = 0 := i_eq.mp c_24
              refine lv_iconst (v := 0) hx hb dL_isVoted_136 (by decide) ?_
              exact key_137_18 0 hR ls (lv_sub hl [0, 1, 2, 3, 4, 5, 6, 7, 8, 9] rfl)
            · rw [if_neg c_24] at hR
              have tc_24 : ¬ y97_s0_13.toInt = 0 := fun z => c_24 (i_eq.mpr z)
              refine lv_iconst (v := 1) hx hb dL_isVoted_132 (by decide) ?_
              refine lv_goto (tgt := 137) hx hb dL_isVoted_133 (by decide) ?_
              exact key_137_18 1 hR ls (lv_sub hl [0, 1, 2, 3, 4, 5, 6, 7, 8, 9] rfl)
      refine lv_icmp_le (tgt := 96) hx hb dL_isVoted_89 (by decide) (fun c_25 => ?_) (fun c_25 => ?_)
      · rw [if_pos c_25] at hR
        have tc_25 : (2 * r_2).toInt ≤ r_5.toInt := i_le.mp c_25
        refine lv_iconst (v := 0) hx hb dL_isVoted_96 (by decide) ?_
        exact key_97_13 0 hR ls (lv_sub hl [0, 1, 2, 3, 4, 5, 6, 7, 8] rfl)
      · rw [if_neg c_25] at hR
        have tc_25 : ¬ (2 * r_2).toInt ≤ r_5.toInt := fun z => c_25 (i_le.mpr z)
        refine lv_iconst (v := 1) hx hb dL_isVoted_92 (by decide) ?_
        refine lv_goto (tgt := 97) hx hb dL_isVoted_93 (by decide) ?_
        exact key_97_13 1 hR ls (lv_sub hl [0, 1, 2, 3, 4, 5, 6, 7, 8] rfl)
    · rw [if_pos c_12] at hR
      have tc_12 : r_5.toInt = 0 := i_eq.mp c_12
      refine lv_iload hx hb dL_isVoted_59 (lv_at hl 0 rfl) ?_
      refine lv_bipush (v := (-4)) hx hb dL_isVoted_61 (by decide) ?_
      refine lv_icmp_ne (tgt := 81) hx hb dL_isVoted_63 (by decide) (fun c_26 => ?_) (fun c_26 => ?_)
      · rw [if_neg c_26] at hR
        have tc_26 : ¬ q_6.1.toInt = (-4) := fun z => c_26 (i_eq.mpr z)
        refine lv_iconst (v := 0) hx hb dL_isVoted_81 (by decide) ?_
        have h01 : (0 : Int32) = 0 ∨ (0 : Int32) = 1 := (Or.inl rfl)
        subst hR
        exact mu_zret hx hb hr hk h01 hA hS hP rfl dL_isVoted_82
      · rw [if_pos c_26] at hR
        have tc_26 : q_6.1.toInt = (-4) := i_eq.mp c_26
        refine lv_aload_n hx hb dL_isVoted_66 rfl (lv_at hl 6 rfl) ?_
        refine lv_bipush (v := 6) hx hb dL_isVoted_67 (by decide) ?_
        refine ro_V (v := .int (mX5_count q_6.2 6)) (rest := []) (As := [.int 6]) hx hb hml hown hts hl (MX5_count l D q ad q_6.2 6) gL_isVoted_X5_count rfl kX5_count ⟨Nat.le_of_ble_eq_true rfl, Nat.le_of_ble_eq_true rfl⟩ rfl rfl hP (dT hD) hG (ci := 3) rfl rfl rfl rfl (Nat.le_of_ble_eq_true rfl) dL_isVoted_69 ⟨Nat.zero_le _, Nat.zero_le _⟩ ?_
        obtain ⟨r_27, er_27⟩ : ∃ z, z = (mX5_count q_6.2 6) := ⟨_, rfl⟩
        rw [← er_27]
        replace hR := lt_e hR er_27
        refine lv_iload hx hb dL_isVoted_72 (lv_at hl 3 rfl) ?_
        refine lv_icmp_ne (tgt := 81) hx hb dL_isVoted_74 (by decide) (fun c_28 => ?_) (fun c_28 => ?_)
        · rw [if_neg c_28] at hR
          have tc_28 : ¬ r_27.toInt = r_3.toInt := fun z => c_28 (i_eq.mpr z)
          refine lv_iconst (v := 0) hx hb dL_isVoted_81 (by decide) ?_
          have h01 : (0 : Int32) = 0 ∨ (0 : Int32) = 1 := (Or.inl rfl)
          subst hR
          exact mu_zret hx hb hr hk h01 hA hS hP rfl dL_isVoted_82
        · rw [if_pos c_28] at hR
          have tc_28 : r_27.toInt = r_3.toInt := i_eq.mp c_28
          refine lv_iconst (v := 1) hx hb dL_isVoted_77 (by decide) ?_
          refine lv_goto (tgt := 82) hx hb dL_isVoted_78 (by decide) ?_
          have h01 : (1 : Int32) = 0 ∨ (1 : Int32) = 1 := (Or.inr rfl)
          subst hR
          exact mu_zret hx hb hr hk h01 hA hS hP rfl dL_isVoted_82
theorem zL_isHeard (xx : Nat → Nat → Nat → Int32) (a b c d : Int32) : (mL_isHeard xx a b c d).1 = 0 ∨ (mL_isHeard xx a b c d).1 = 1 := by
  unfold mL_isHeard
  dsimp only [lt]
  repeat' split
  all_goals first | exact Or.inl rfl | exact Or.inr rfl
theorem zL_isVoted (xx : Nat → Nat → Nat → Int32) (a b : Int32) : (mL_isVoted xx a b).1 = 0 ∨ (mL_isVoted xx a b).1 = 1 := by
  unfold mL_isVoted
  dsimp only [lt]
  repeat' split
  all_goals first | exact Or.inl rfl | exact Or.inr rfl
