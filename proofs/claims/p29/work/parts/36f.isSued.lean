def mL_isSued_19 (r_1 : Int32) (C : Int32 → Int32 → (Int32 × (Nat → Nat → Nat → Int32))) : Nat → Int32 → Int32 → (Int32 × (Nat → Nat → Nat → Int32))
  | 0, x7_19, x6_19 => C x7_19 x6_19
  | n_19 + 1, x7_19, x6_19 => (lt (mL_has r_1 x7_19) (fun r_48 => (lt ((if r_48 = 0 then 0 else 1) : Int32) (fun y47_s0_49 => (lt (x6_19 + y47_s0_49) (fun e_50 => (mL_isSued_19 r_1 C n_19 (x7_19 + 1) e_50)))))))
def mL_isSued (xx : Nat → Nat → Nat → Int32) (mill house hour : Int32) : Int32 × (Nat → Nat → Nat → Int32) := (lt (mX5_millOf (xx 0) mill 2) (fun r_1 => (lt (mL_has r_1 hour) (fun r_2 => (mL_isSued_19 r_1 (fun x7_19 x6_19 => (lt (mX5_houseOf (xx 0) house 1) (fun r_4 => (lt (mX5_houseOf (xx 0) house 3) (fun r_5 => (lt (mX5_millOf (xx 0) mill 5) (fun r_6 => (lt (mX5_count xx 4) (fun r_7 => (lt (mX5_count xx 5) (fun r_8 => (lt (mX5_count xx 15) (fun r_9 => (lt ((if (((xx 10 0) (hour).toNatClampNeg) * x6_19) ≤ r_9 then 0 else 1) : Int32) (fun y115_s0_10 => (lt (mX5_sue xx mill house hour) (fun q_11 => (lt (setV q_11.2 10 (xx 10)) (fun xx_12 => (if 0 ≤ q_11.1 then (lt (mX5_houseOf (xx_12 0) house 3) (fun r_14 => (lt (r_5 - r_14) (fun e_15 => (if r_2 = 0 then (0, xx_12) else (lt ((if y115_s0_10 = 0 then 0 else 1) : Int32) (fun y194_s0_17 => (if q_11.1 = y194_s0_17 then (lt (mX5_count xx_12 4) (fun r_19 => (if r_19 = (r_7 + 1) then (lt (mX5_count xx_12 5) (fun r_21 => (if r_21 = (r_8 + q_11.1) then (lt (mX5_houseOf (xx_12 0) house 1) (fun r_23 => (if r_23 = (r_4 + q_11.1) then (if y115_s0_10 = 0 then (if e_15 = 0 then (lt (mX5_millOf (xx_12 0) mill 5) (fun r_27 => (if r_27 = (r_6 - e_15) then (if y115_s0_10 = 0 then (lt (mX5_millOf (xx_12 0) mill 2) (fun r_30 => (lt (mL_has r_30 hour) (fun r_31 => (if r_31 = 0 then (0, xx_12) else (1, xx_12)))))) else (1, xx_12)) else (0, xx_12)))) else (0, xx_12)) else (if e_15 ≤ 0 then (0, xx_12) else (if 3 ≤ e_15 then (0, xx_12) else (lt (mX5_millOf (xx_12 0) mill 5) (fun r_35 => (if r_35 = (r_6 - e_15) then (if y115_s0_10 = 0 then (lt (mX5_millOf (xx_12 0) mill 2) (fun r_38 => (lt (mL_has r_38 hour) (fun r_39 => (if r_39 = 0 then (0, xx_12) else (1, xx_12)))))) else (1, xx_12)) else (0, xx_12))))))) else (0, xx_12)))) else (0, xx_12)))) else (0, xx_12)))) else (0, xx_12))))))))) else (if q_11.1 = (-4) then (lt (mX5_count xx_12 4) (fun r_43 => (if r_43 = r_7 then (lt (mX5_houseOf (xx_12 0) house 3) (fun r_45 => (if r_45 = r_5 then (1, xx_12) else (0, xx_12)))) else (0, xx_12)))) else (0, xx_12)))))))))))))))))))))) (tr 0 24) 0 0)))))
theorem kL_isSued : yL_isSued.cls ≠ "java/lang/invoke/MethodHandle" ∧ yL_isSued.cls ≠ "java/lang/invoke/VarHandle" ∧ (parseMethodDescriptor yL_isSued.desc).map (fun d => d.parameters.length) = some 5 := by decide +kernel
set_option maxHeartbeats 4000000 in
set_option maxRecDepth 100000 in
theorem ML_isSued (l : Launch) (D : va_G) (q : Nat → ClassId) (ad : Nat → Nat → Nat) (xx : Nat → Nat → Nat → Int32) (mill house hour : Int32) (hrg : rgOk xx) (hhour : 0 ≤ hour.toInt ∧ hour.toInt < 24) : muM l D (tyq q) yL_isSued wsL_isSued ({ frames := 7, cells := 0, slots := 0, locals := 152 } : Room) [.ref (ad 9 0), .ref (ad 10 0), .int mill, .int house, .int hour] (wXW q ad xx) (some (.int (mL_isSued xx mill house hour).1)) (wXW q ad (mL_isSued xx mill house hour).2) := by
  obtain ⟨R, hR⟩ : ∃ z, (mL_isSued xx mill house hour) = z := ⟨_, rfl⟩
  rw [hR]
  unfold mL_isSued at hR
  refine muM.of (cc := cL_isSued) (maxL := 15) (ret := (some .boolean)) (by decide) rfl (Nat.le_of_ble_eq_true rfl) ?_
  intro p e s m below meth c ls A hx hb hr hk hml hown hts hP hD hG hA hl
  have hS : va_S A s.heap s.heap [] := va_S.rf
  have hl : lv_has ls 15 [(0, .ref (ad 9 0)), (1, .ref (ad 10 0)), (2, .int mill), (3, .int house), (4, .int hour)] := hl
  refine lv_aload_n hx hb dL_isSued_0 rfl (lv_at hl 0 rfl) ?_
  refine lv_iload_n hx hb dL_isSued_1 rfl (lv_at hl 2 rfl) ?_
  refine lv_iconst (v := 2) hx hb dL_isSued_2 (by decide) ?_
  refine ro_V (v := .int (mX5_millOf (xx 0) mill 2)) (rest := []) (As := [.int mill, .int 2]) hx hb hml hown hts hl (MX5_millOf l D q ad (xx 9 0 0) (xx 0) mill 2) gL_isSued_X5_millOf rfl kX5_millOf ⟨Nat.le_of_ble_eq_true rfl, Nat.le_of_ble_eq_true rfl⟩ rfl rfl (hP.sub (ws' := (wXN q ad (xx 9 0 0) (xx 0))) [0, 1, 2, 3, 4, 5, 6, 7, 8, 9, 10] rfl) (dT (hD.sub (ws' := (wXN q ad (xx 9 0 0) (xx 0))) [0, 1, 2, 3, 4, 5, 6, 7, 8, 9, 10] (by decide) rfl)) hG (ci := 3) rfl rfl rfl rfl (Nat.le_of_ble_eq_true rfl) dL_isSued_3 ⟨Nat.zero_le _, Nat.zero_le _⟩ ?_
  obtain ⟨r_1, er_1⟩ : ∃ z, z = (mX5_millOf (xx 0) mill 2) := ⟨_, rfl⟩
  rw [← er_1]
  replace hR := lt_e hR er_1
  refine lv_iload hx hb dL_isSued_6 (lv_at hl 4 rfl) ?_
  refine ro_S (v := .int (mL_has r_1 hour)) (rest := []) (As := [.int r_1, .int hour]) hx hb hml hown hts hl (ML_has l D q r_1 hour) gL_isSued_L_has rfl kL_has ⟨Nat.le_of_ble_eq_true rfl, Nat.le_of_ble_eq_true rfl⟩ rfl rfl (hP.sub (ws' := []) [] rfl) (dT (hD.sub (ws' := []) [] (by decide) rfl)) hG rfl rfl (Nat.le_of_ble_eq_true rfl) dL_isSued_8 ⟨Nat.zero_le _, Nat.zero_le _⟩ ?_
  obtain ⟨r_2, er_2⟩ : ∃ z, z = (mL_has r_1 hour) := ⟨_, rfl⟩
  rw [← er_2]
  replace hR := lt_e hR er_2
  refine lv_istore (lv' := [(5, .int r_2), (0, .ref (ad 9 0)), (1, .ref (ad 10 0)), (2, .int mill), (3, .int house), (4, .int hour)]) hx hb dL_isSued_11 hl (by decide) rfl (fun ls hl => ?_)
  refine lv_iconst (v := 0) hx hb dL_isSued_13 (by decide) ?_
  refine lv_istore (lv' := [(6, .int 0), (5, .int r_2), (0, .ref (ad 9 0)), (1, .ref (ad 10 0)), (2, .int mill), (3, .int house), (4, .int hour)]) hx hb dL_isSued_14 hl (by decide) rfl (fun ls hl => ?_)
  refine lv_iconst (v := 0) hx hb dL_isSued_16 (by decide) ?_
  refine lv_istore (lv' := [(7, .int 0), (6, .int 0), (5, .int r_2), (0, .ref (ad 9 0)), (1, .ref (ad 10 0)), (2, .int mill), (3, .int house), (4, .int hour)]) hx hb dL_isSued_17 hl (by decide) rfl (fun ls hl => ?_)
  have key_19 : ∀ (n_19 : Nat) (x7_19 : Int32) (x6_19 : Int32), tr x7_19 24 = n_19 → mL_isSued_19 r_1 (fun x7_19 x6_19 => (lt (mX5_houseOf (xx 0) house 1) (fun r_4 => (lt (mX5_houseOf (xx 0) house 3) (fun r_5 => (lt (mX5_millOf (xx 0) mill 5) (fun r_6 => (lt (mX5_count xx 4) (fun r_7 => (lt (mX5_count xx 5) (fun r_8 => (lt (mX5_count xx 15) (fun r_9 => (lt ((if (((xx 10 0) (hour).toNatClampNeg) * x6_19) ≤ r_9 then 0 else 1) : Int32) (fun y115_s0_10 => (lt (mX5_sue xx mill house hour) (fun q_11 => (lt (setV q_11.2 10 (xx 10)) (fun xx_12 => (if 0 ≤ q_11.1 then (lt (mX5_houseOf (xx_12 0) house 3) (fun r_14 => (lt (r_5 - r_14) (fun e_15 => (if r_2 = 0 then (0, xx_12) else (lt ((if y115_s0_10 = 0 then 0 else 1) : Int32) (fun y194_s0_17 => (if q_11.1 = y194_s0_17 then (lt (mX5_count xx_12 4) (fun r_19 => (if r_19 = (r_7 + 1) then (lt (mX5_count xx_12 5) (fun r_21 => (if r_21 = (r_8 + q_11.1) then (lt (mX5_houseOf (xx_12 0) house 1) (fun r_23 => (if r_23 = (r_4 + q_11.1) then (if y115_s0_10 = 0 then (if e_15 = 0 then (lt (mX5_millOf (xx_12 0) mill 5) (fun r_27 => (if r_27 = (r_6 - e_15) then (if y115_s0_10 = 0 then (lt (mX5_millOf (xx_12 0) mill 2) (fun r_30 => (lt (mL_has r_30 hour) (fun r_31 => (if r_31 = 0 then (0, xx_12) else (1, xx_12)))))) else (1, xx_12)) else (0, xx_12)))) else (0, xx_12)) else (if e_15 ≤ 0 then (0, xx_12) else (if 3 ≤ e_15 then (0, xx_12) else (lt (mX5_millOf (xx_12 0) mill 5) (fun r_35 => (if r_35 = (r_6 - e_15) then (if y115_s0_10 = 0 then (lt (mX5_millOf (xx_12 0) mill 2) (fun r_38 => (lt (mL_has r_38 hour) (fun r_39 => (if r_39 = 0 then (0, xx_12) else (1, xx_12)))))) else (1, xx_12)) else (0, xx_12))))))) else (0, xx_12)))) else (0, xx_12)))) else (0, xx_12)))) else (0, xx_12))))))))) else (if q_11.1 = (-4) then (lt (mX5_count xx_12 4) (fun r_43 => (if r_43 = r_7 then (lt (mX5_houseOf (xx_12 0) house 3) (fun r_45 => (if r_45 = r_5 then (1, xx_12) else (0, xx_12)))) else (0, xx_12)))) else (0, xx_12)))))))))))))))))))))) n_19 x7_19 x6_19 = R → ∀ ls : Array Slot, lv_has ls 15 [(7, .int x7_19), (6, .int x6_19), (5, .int r_2), (0, .ref (ad 9 0)), (1, .ref (ad 10 0)), (2, .int mill), (3, .int house), (4, .int hour)] → W p l e ({ frames := 7, cells := 0, slots := 0, locals := 152 } : Room) s m ([.ref (ad 9 0), .ref (ad 10 0), .int mill, .int house, .int hour] : List Value).toArray below meth c s.heap [] 0 0 (MQ below (muQ D (some (.int R.1)) (wXW q ad xx) (wXW q ad R.2)) ([.ref (ad 9 0), .ref (ad 10 0), .int mill, .int house, .int hour] : List Value).toArray s 0 0 (wAt (wXW q ad xx))) (F0 m 19 ls []) := by
    intro n_19
    induction n_19 with
    | zero =>
      intro x7_19 x6_19 hn_19 hR ls hl
      rw [mL_isSued_19] at hR
      refine lv_iload hx hb dL_isSued_19 (lv_at hl 0 rfl) ?_
      refine lv_bipush (v := 24) hx hb dL_isSued_21 (by decide) ?_
      refine lv_icmp_ge (tgt := 56) hx hb dL_isSued_23 (by decide) (fun c_3 => ?_) (fun c_3 => (tr0 hn_19 c_3).elim)
      refine lv_aload_n hx hb dL_isSued_56 rfl (lv_at hl 3 rfl) ?_
      refine lv_iload_n hx hb dL_isSued_57 rfl (lv_at hl 6 rfl) ?_
      refine lv_iconst (v := 1) hx hb dL_isSued_58 (by decide) ?_
      refine ro_V (v := .int (mX5_houseOf (xx 0) house 1)) (rest := []) (As := [.int house, .int 1]) hx hb hml hown hts hl (MX5_houseOf l D q ad (xx 9 0 0) (xx 0) house 1) gL_isSued_X5_houseOf rfl kX5_houseOf ⟨Nat.le_of_ble_eq_true rfl, Nat.le_of_ble_eq_true rfl⟩ rfl rfl (hP.sub (ws' := (wXN q ad (xx 9 0 0) (xx 0))) [0, 1, 2, 3, 4, 5, 6, 7, 8, 9, 10] rfl) (dT (hD.sub (ws' := (wXN q ad (xx 9 0 0) (xx 0))) [0, 1, 2, 3, 4, 5, 6, 7, 8, 9, 10] (by decide) rfl)) hG (ci := 3) rfl rfl rfl rfl (Nat.le_of_ble_eq_true rfl) dL_isSued_59 ⟨Nat.zero_le _, Nat.zero_le _⟩ ?_
      obtain ⟨r_4, er_4⟩ : ∃ z, z = (mX5_houseOf (xx 0) house 1) := ⟨_, rfl⟩
      rw [← er_4]
      replace hR := lt_e hR er_4
      refine lv_istore (lv' := [(7, .int r_4), (6, .int x6_19), (5, .int r_2), (0, .ref (ad 9 0)), (1, .ref (ad 10 0)), (2, .int mill), (3, .int house), (4, .int hour)]) hx hb dL_isSued_62 hl (by decide) rfl (fun ls hl => ?_)
      refine lv_aload_n hx hb dL_isSued_64 rfl (lv_at hl 3 rfl) ?_
      refine lv_iload_n hx hb dL_isSued_65 rfl (lv_at hl 6 rfl) ?_
      refine lv_iconst (v := 3) hx hb dL_isSued_66 (by decide) ?_
      refine ro_V (v := .int (mX5_houseOf (xx 0) house 3)) (rest := []) (As := [.int house, .int 3]) hx hb hml hown hts hl (MX5_houseOf l D q ad (xx 9 0 0) (xx 0) house 3) gL_isSued_X5_houseOf rfl kX5_houseOf ⟨Nat.le_of_ble_eq_true rfl, Nat.le_of_ble_eq_true rfl⟩ rfl rfl (hP.sub (ws' := (wXN q ad (xx 9 0 0) (xx 0))) [0, 1, 2, 3, 4, 5, 6, 7, 8, 9, 10] rfl) (dT (hD.sub (ws' := (wXN q ad (xx 9 0 0) (xx 0))) [0, 1, 2, 3, 4, 5, 6, 7, 8, 9, 10] (by decide) rfl)) hG (ci := 3) rfl rfl rfl rfl (Nat.le_of_ble_eq_true rfl) dL_isSued_67 ⟨Nat.zero_le _, Nat.zero_le _⟩ ?_
      obtain ⟨r_5, er_5⟩ : ∃ z, z = (mX5_houseOf (xx 0) house 3) := ⟨_, rfl⟩
      rw [← er_5]
      replace hR := lt_e hR er_5
      refine lv_istore (lv' := [(8, .int r_5), (7, .int r_4), (6, .int x6_19), (5, .int r_2), (0, .ref (ad 9 0)), (1, .ref (ad 10 0)), (2, .int mill), (3, .int house), (4, .int hour)]) hx hb dL_isSued_70 hl (by decide) rfl (fun ls hl => ?_)
      refine lv_aload_n hx hb dL_isSued_72 rfl (lv_at hl 4 rfl) ?_
      refine lv_iload_n hx hb dL_isSued_73 rfl (lv_at hl 6 rfl) ?_
      refine lv_iconst (v := 5) hx hb dL_isSued_74 (by decide) ?_
      refine ro_V (v := .int (mX5_millOf (xx 0) mill 5)) (rest := []) (As := [.int mill, .int 5]) hx hb hml hown hts hl (MX5_millOf l D q ad (xx 9 0 0) (xx 0) mill 5) gL_isSued_X5_millOf rfl kX5_millOf ⟨Nat.le_of_ble_eq_true rfl, Nat.le_of_ble_eq_true rfl⟩ rfl rfl (hP.sub (ws' := (wXN q ad (xx 9 0 0) (xx 0))) [0, 1, 2, 3, 4, 5, 6, 7, 8, 9, 10] rfl) (dT (hD.sub (ws' := (wXN q ad (xx 9 0 0) (xx 0))) [0, 1, 2, 3, 4, 5, 6, 7, 8, 9, 10] (by decide) rfl)) hG (ci := 3) rfl rfl rfl rfl (Nat.le_of_ble_eq_true rfl) dL_isSued_75 ⟨Nat.zero_le _, Nat.zero_le _⟩ ?_
      obtain ⟨r_6, er_6⟩ : ∃ z, z = (mX5_millOf (xx 0) mill 5) := ⟨_, rfl⟩
      rw [← er_6]
      replace hR := lt_e hR er_6
      refine lv_istore (lv' := [(9, .int r_6), (8, .int r_5), (7, .int r_4), (6, .int x6_19), (5, .int r_2), (0, .ref (ad 9 0)), (1, .ref (ad 10 0)), (2, .int mill), (3, .int house), (4, .int hour)]) hx hb dL_isSued_78 hl (by decide) rfl (fun ls hl => ?_)
      refine lv_aload_n hx hb dL_isSued_80 rfl (lv_at hl 5 rfl) ?_
      refine lv_iconst (v := 4) hx hb dL_isSued_81 (by decide) ?_
      refine ro_V (v := .int (mX5_count xx 4)) (rest := []) (As := [.int 4]) hx hb hml hown hts hl (MX5_count l D q ad xx 4) gL_isSued_X5_count rfl kX5_count ⟨Nat.le_of_ble_eq_true rfl, Nat.le_of_ble_eq_true rfl⟩ rfl rfl (hP.sub (ws' := (wX q ad xx)) [0, 1, 2, 3, 4, 5, 6, 7, 8, 9, 10, 11, 12, 13, 14, 15, 16, 17, 18, 19, 20, 21, 22, 23, 24, 25, 26, 27, 28, 29, 30, 31, 32, 33, 34, 35, 36, 37, 38, 39, 40, 41, 42, 43, 44, 45, 46, 47, 48, 49, 50, 51, 52, 53, 54, 55, 56, 57, 58, 59, 60, 61, 62, 63, 64, 65, 66, 67, 68, 69, 70, 71, 72, 73, 74] rfl) (dT (hD.sub (ws' := (wX q ad xx)) [0, 1, 2, 3, 4, 5, 6, 7, 8, 9, 10, 11, 12, 13, 14, 15, 16, 17, 18, 19, 20, 21, 22, 23, 24, 25, 26, 27, 28, 29, 30, 31, 32, 33, 34, 35, 36, 37, 38, 39, 40, 41, 42, 43, 44, 45, 46, 47, 48, 49, 50, 51, 52, 53, 54, 55, 56, 57, 58, 59, 60, 61, 62, 63, 64, 65, 66, 67, 68, 69, 70, 71, 72, 73, 74] (by decide) rfl)) hG (ci := 3) rfl rfl rfl rfl (Nat.le_of_ble_eq_true rfl) dL_isSued_82 ⟨Nat.zero_le _, Nat.zero_le _⟩ ?_
      obtain ⟨r_7, er_7⟩ : ∃ z, z = (mX5_count xx 4) := ⟨_, rfl⟩
      rw [← er_7]
      replace hR := lt_e hR er_7
      refine lv_istore (lv' := [(10, .int r_7), (9, .int r_6), (8, .int r_5), (7, .int r_4), (6, .int x6_19), (5, .int r_2), (0, .ref (ad 9 0)), (1, .ref (ad 10 0)), (2, .int mill), (3, .int house), (4, .int hour)]) hx hb dL_isSued_85 hl (by decide) rfl (fun ls hl => ?_)
      refine lv_aload_n hx hb dL_isSued_87 rfl (lv_at hl 6 rfl) ?_
      refine lv_iconst (v := 5) hx hb dL_isSued_88 (by decide) ?_
      refine ro_V (v := .int (mX5_count xx 5)) (rest := []) (As := [.int 5]) hx hb hml hown hts hl (MX5_count l D q ad xx 5) gL_isSued_X5_count rfl kX5_count ⟨Nat.le_of_ble_eq_true rfl, Nat.le_of_ble_eq_true rfl⟩ rfl rfl (hP.sub (ws' := (wX q ad xx)) [0, 1, 2, 3, 4, 5, 6, 7, 8, 9, 10, 11, 12, 13, 14, 15, 16, 17, 18, 19, 20, 21, 22, 23, 24, 25, 26, 27, 28, 29, 30, 31, 32, 33, 34, 35, 36, 37, 38, 39, 40, 41, 42, 43, 44, 45, 46, 47, 48, 49, 50, 51, 52, 53, 54, 55, 56, 57, 58, 59, 60, 61, 62, 63, 64, 65, 66, 67, 68, 69, 70, 71, 72, 73, 74] rfl) (dT (hD.sub (ws' := (wX q ad xx)) [0, 1, 2, 3, 4, 5, 6, 7, 8, 9, 10, 11, 12, 13, 14, 15, 16, 17, 18, 19, 20, 21, 22, 23, 24, 25, 26, 27, 28, 29, 30, 31, 32, 33, 34, 35, 36, 37, 38, 39, 40, 41, 42, 43, 44, 45, 46, 47, 48, 49, 50, 51, 52, 53, 54, 55, 56, 57, 58, 59, 60, 61, 62, 63, 64, 65, 66, 67, 68, 69, 70, 71, 72, 73, 74] (by decide) rfl)) hG (ci := 3) rfl rfl rfl rfl (Nat.le_of_ble_eq_true rfl) dL_isSued_89 ⟨Nat.zero_le _, Nat.zero_le _⟩ ?_
      obtain ⟨r_8, er_8⟩ : ∃ z, z = (mX5_count xx 5) := ⟨_, rfl⟩
      rw [← er_8]
      replace hR := lt_e hR er_8
      refine lv_istore (lv' := [(11, .int r_8), (10, .int r_7), (9, .int r_6), (8, .int r_5), (7, .int r_4), (6, .int x6_19), (5, .int r_2), (0, .ref (ad 9 0)), (1, .ref (ad 10 0)), (2, .int mill), (3, .int house), (4, .int hour)]) hx hb dL_isSued_92 hl (by decide) rfl (fun ls hl => ?_)
      refine lv_aload_n hx hb dL_isSued_94 rfl (lv_at hl 8 rfl) ?_
      refine lv_iload hx hb dL_isSued_95 (lv_at hl 11 rfl) ?_
      refine va_iald hx hb hG.1 hP 75 0 rfl rfl (ix_t (i := hour) (x := (hour).toInt) (n := 24) rfl (by omega)) dL_isSued_97 ?_
      refine lv_iload hx hb dL_isSued_98 (lv_at hl 5 rfl) ?_
      refine lv_imul hx hb dL_isSued_100 ?_
      refine lv_aload_n hx hb dL_isSued_101 rfl (lv_at hl 7 rfl) ?_
      refine lv_bipush (v := 15) hx hb dL_isSued_102 (by decide) ?_
      refine ro_V (v := .int (mX5_count xx 15)) (rest := [.int (((xx 10 0) (hour).toNatClampNeg) * x6_19)]) (As := [.int 15]) hx hb hml hown hts hl (MX5_count l D q ad xx 15) gL_isSued_X5_count rfl kX5_count ⟨Nat.le_of_ble_eq_true rfl, Nat.le_of_ble_eq_true rfl⟩ rfl rfl (hP.sub (ws' := (wX q ad xx)) [0, 1, 2, 3, 4, 5, 6, 7, 8, 9, 10, 11, 12, 13, 14, 15, 16, 17, 18, 19, 20, 21, 22, 23, 24, 25, 26, 27, 28, 29, 30, 31, 32, 33, 34, 35, 36, 37, 38, 39, 40, 41, 42, 43, 44, 45, 46, 47, 48, 49, 50, 51, 52, 53, 54, 55, 56, 57, 58, 59, 60, 61, 62, 63, 64, 65, 66, 67, 68, 69, 70, 71, 72, 73, 74] rfl) (dT (hD.sub (ws' := (wX q ad xx)) [0, 1, 2, 3, 4, 5, 6, 7, 8, 9, 10, 11, 12, 13, 14, 15, 16, 17, 18, 19, 20, 21, 22, 23, 24, 25, 26, 27, 28, 29, 30, 31, 32, 33, 34, 35, 36, 37, 38, 39, 40, 41, 42, 43, 44, 45, 46, 47, 48, 49, 50, 51, 52, 53, 54, 55, 56, 57, 58, 59, 60, 61, 62, 63, 64, 65, 66, 67, 68, 69, 70, 71, 72, 73, 74] (by decide) rfl)) hG (ci := 3) rfl rfl rfl rfl (Nat.le_of_ble_eq_true rfl) dL_isSued_104 ⟨Nat.zero_le _, Nat.zero_le _⟩ ?_
      obtain ⟨r_9, er_9⟩ : ∃ z, z = (mX5_count xx 15) := ⟨_, rfl⟩
      rw [← er_9]
      replace hR := lt_e hR er_9
      refine jn_1 hR (fun F_115_10 eF_115_10 hR => ?_)
      have key_115_10 : ∀ (y115_s0_10 : Int32), lt y115_s0_10 F_115_10 = R → ∀ ls : Array Slot, lv_has ls 15 [(11, .int r_8), (10, .int r_7), (9, .int r_6), (8, .int r_5), (7, .int r_4), (6, .int x6_19), (5, .int r_2), (0, .ref (ad 9 0)), (1, .ref (ad 10 0)), (2, .int mill), (3, .int house), (4, .int hour)] → W p l e ({ frames := 7, cells := 0, slots := 0, locals := 152 } : Room) s m ([.ref (ad 9 0), .ref (ad 10 0), .int mill, .int house, .int hour] : List Value).toArray below meth c s.heap [] 0 0 (MQ below (muQ D (some (.int R.1)) (wXW q ad xx) (wXW q ad R.2)) ([.ref (ad 9 0), .ref (ad 10 0), .int mill, .int house, .int hour] : List Value).toArray s 0 0 (wAt (wXW q ad xx))) (F0 m 115 ls [.int y115_s0_10]) := by
        intro y115_s0_10 hR ls hl
        rw [eF_115_10] at hR
        replace hR := jn_e1 hR
        refine lv_istore (lv' := [(12, .int y115_s0_10), (11, .int r_8), (10, .int r_7), (9, .int r_6), (8, .int r_5), (7, .int r_4), (6, .int x6_19), (5, .int r_2), (0, .ref (ad 9 0)), (1, .ref (ad 10 0)), (2, .int mill), (3, .int house), (4, .int hour)]) hx hb dL_isSued_115 hl (by decide) rfl (fun ls hl => ?_)
        refine lv_aload_n hx hb dL_isSued_117 rfl (lv_at hl 8 rfl) ?_
        refine lv_iload_n hx hb dL_isSued_118 rfl (lv_at hl 10 rfl) ?_
        refine lv_iload_n hx hb dL_isSued_119 rfl (lv_at hl 11 rfl) ?_
        refine lv_iload hx hb dL_isSued_120 (lv_at hl 12 rfl) ?_
        obtain ⟨q_11, eq_11⟩ : ∃ z, z = (mX5_sue xx mill house hour) := ⟨_, rfl⟩
        have hM := MX5_sue l D q ad xx mill house hour hrg
        rw [← eq_11] at hM
        replace hR := lt_e hR eq_11
        refine mu_V (D := D) (ws := (wXW q ad xx)) (ws' := (wXW q ad (setV q_11.2 10 (xx 10)))) (rest := []) (As := [.int mill, .int house, .int hour]) hx hb hml hown hts hl hM gL_isSued_X5_sue rfl kX5_sue ⟨Nat.le_of_ble_eq_true rfl, Nat.le_of_ble_eq_true rfl⟩ rfl rfl hP hD hS hG [0, 1, 2, 3, 4, 5, 6, 7, 8, 9, 10, 11, 12, 13, 14, 15, 16, 17, 18, 19, 20, 21, 22, 23, 24, 25, 26, 27, 28, 29, 30, 31, 32, 33, 34, 35, 36, 37, 38, 39, 40, 41, 42, 43, 44, 45, 46, 47, 48, 49, 50, 51, 52, 53, 54, 55, 56, 57, 58, 59, 60, 61, 62, 63, 64, 65, 66, 67, 68, 69, 70, 71, 72, 73, 74] rfl rfl (by decide) [76, 77, 78, 79, 80, 81, 82, 83, 84, 85, 86, 87, 88, 89, 90, 91, 92, 93, 94, 95, 96, 97, 98, 99, 100, 101, 102, 103, 104, 105, 106, 107, 108, 109, 110, 111, 112, 113, 114, 115, 116, 117, 118, 119, 120, 121, 122, 123, 124, 125, 126, 127, 128, 129, 130, 131, 132, 133, 134, 135, 136, 137, 138, 139, 140, 141, 142, 143, 144, 145, 146, 147, 148, 149, 150, 75] rfl (by decide) rfl (ci := 3) rfl rfl rfl rfl (Nat.le_of_ble_eq_true rfl) dL_isSued_122 ⟨Nat.zero_le _, Nat.zero_le _⟩ (fun H locs hP hD hS => ?_)
        obtain ⟨xx_12, exx_12⟩ : ∃ z, z = (setV q_11.2 10 (xx 10)) := ⟨_, rfl⟩
        rw [← exx_12] at hP hD
        replace hR := lt_e hR exx_12
        refine lv_istore (lv' := [(13, .int q_11.1), (12, .int y115_s0_10), (11, .int r_8), (10, .int r_7), (9, .int r_6), (8, .int r_5), (7, .int r_4), (6, .int x6_19), (5, .int r_2), (0, .ref (ad 9 0)), (1, .ref (ad 10 0)), (2, .int mill), (3, .int house), (4, .int hour)]) hx hb dL_isSued_125 hl (by decide) rfl (fun ls hl => ?_)
        refine lv_iload hx hb dL_isSued_127 (lv_at hl 0 rfl) ?_
        refine lv_if_ge (tgt := 166) hx hb dL_isSued_129 (by decide) (fun c_13 => ?_) (fun c_13 => ?_)
        · rw [if_pos c_13] at hR
          have tc_13 : 0 ≤ q_11.1.toInt := i_le.mp c_13
          refine lv_iload hx hb dL_isSued_166 (lv_at hl 5 rfl) ?_
          refine lv_aload_n hx hb dL_isSued_168 rfl (lv_at hl 9 rfl) ?_
          refine lv_iload_n hx hb dL_isSued_169 rfl (lv_at hl 12 rfl) ?_
          refine lv_iconst (v := 3) hx hb dL_isSued_170 (by decide) ?_
          refine ro_V (v := .int (mX5_houseOf (xx_12 0) house 3)) (rest := [.int r_5]) (As := [.int house, .int 3]) hx hb hml hown hts hl (MX5_houseOf l D q ad (xx_12 9 0 0) (xx_12 0) house 3) gL_isSued_X5_houseOf rfl kX5_houseOf ⟨Nat.le_of_ble_eq_true rfl, Nat.le_of_ble_eq_true rfl⟩ rfl rfl (hP.sub (ws' := (wXN q ad (xx_12 9 0 0) (xx_12 0))) [0, 1, 2, 3, 4, 5, 6, 7, 8, 9, 10] rfl) (dT (hD.sub (ws' := (wXN q ad (xx_12 9 0 0) (xx_12 0))) [0, 1, 2, 3, 4, 5, 6, 7, 8, 9, 10] (by decide) rfl)) hG (ci := 3) rfl rfl rfl rfl (Nat.le_of_ble_eq_true rfl) dL_isSued_171 ⟨Nat.zero_le _, Nat.zero_le _⟩ ?_
          obtain ⟨r_14, er_14⟩ : ∃ z, z = (mX5_houseOf (xx_12 0) house 3) := ⟨_, rfl⟩
          rw [← er_14]
          replace hR := lt_e hR er_14
          refine lv_isub hx hb dL_isSued_174 ?_
          obtain ⟨e_15, ee_15⟩ : ∃ z, z = (r_5 - r_14) := ⟨_, rfl⟩
          rw [← ee_15]
          replace hR := lt_e hR ee_15
          refine lv_istore (lv' := [(14, .int e_15), (13, .int q_11.1), (12, .int y115_s0_10), (11, .int r_8), (10, .int r_7), (9, .int r_6), (8, .int r_5), (7, .int r_4), (6, .int x6_19), (5, .int r_2), (0, .ref (ad 9 0)), (1, .ref (ad 10 0)), (2, .int mill), (3, .int house), (4, .int hour)]) hx hb dL_isSued_175 hl (by decide) rfl (fun ls hl => ?_)
          refine lv_iload hx hb dL_isSued_177 (lv_at hl 9 rfl) ?_
          refine lv_if_eq (tgt := 297) hx hb dL_isSued_179 (by decide) (fun c_16 => ?_) (fun c_16 => ?_)
          · rw [if_pos c_16] at hR
            refine lv_iconst (v := 0) hx hb dL_isSued_297 (by decide) ?_
            have h01 : (0 : Int32) = 0 ∨ (0 : Int32) = 1 := (Or.inl rfl)
            subst hR
            exact mu_zret hx hb hr hk h01 hA hS hP rfl dL_isSued_298
          · rw [if_neg c_16] at hR
            refine lv_iload hx hb dL_isSued_182 (lv_at hl 1 rfl) ?_
            refine lv_iload hx hb dL_isSued_184 (lv_at hl 2 rfl) ?_
            refine jn_1 hR (fun F_194_17 eF_194_17 hR => ?_)
            have key_194_17 : ∀ (y194_s0_17 : Int32), lt y194_s0_17 F_194_17 = R → ∀ ls : Array Slot, lv_has ls 15 [(14, .int e_15), (13, .int q_11.1), (12, .int y115_s0_10), (11, .int r_8), (10, .int r_7), (9, .int r_6), (8, .int r_5), (7, .int r_4), (6, .int x6_19), (5, .int r_2), (0, .ref (ad 9 0)), (1, .ref (ad 10 0)), (2, .int mill), (3, .int house), (4, .int hour)] → W p l e ({ frames := 7, cells := 0, slots := 0, locals := 152 } : Room) s m ([.ref (ad 9 0), .ref (ad 10 0), .int mill, .int house, .int hour] : List Value).toArray below meth c H locs 0 0 (MQ below (muQ D (some (.int R.1)) (wXW q ad xx) (wXW q ad R.2)) ([.ref (ad 9 0), .ref (ad 10 0), .int mill, .int house, .int hour] : List Value).toArray s 0 0 (wAt (wXW q ad xx))) (F0 m 194 ls [.int y194_s0_17, .int q_11.1]) := by
              intro y194_s0_17 hR ls hl
              rw [eF_194_17] at hR
              replace hR := jn_e1 hR
              refine lv_icmp_ne (tgt := 297) hx hb dL_isSued_194 (by decide) (fun c_18 => ?_) (fun c_18 => ?_)
              · rw [if_neg c_18] at hR
                have tc_18 : ¬ q_11.1.toInt = y194_s0_17.toInt := fun z => c_18 (i_eq.mpr z)
                refine lv_iconst (v := 0) hx hb dL_isSued_297 (by decide) ?_
                have h01 : (0 : Int32) = 0 ∨ (0 : Int32) = 1 := (Or.inl rfl)
                subst hR
                exact mu_zret hx hb hr hk h01 hA hS hP rfl dL_isSued_298
              · rw [if_pos c_18] at hR
                have tc_18 : q_11.1.toInt = y194_s0_17.toInt := i_eq.mp c_18
                refine lv_aload_n hx hb dL_isSued_197 rfl (lv_at hl 10 rfl) ?_
                refine lv_iconst (v := 4) hx hb dL_isSued_198 (by decide) ?_
                refine ro_V (v := .int (mX5_count xx_12 4)) (rest := []) (As := [.int 4]) hx hb hml hown hts hl (MX5_count l D q ad xx_12 4) gL_isSued_X5_count rfl kX5_count ⟨Nat.le_of_ble_eq_true rfl, Nat.le_of_ble_eq_true rfl⟩ rfl rfl (hP.sub (ws' := (wX q ad xx_12)) [0, 1, 2, 3, 4, 5, 6, 7, 8, 9, 10, 11, 12, 13, 14, 15, 16, 17, 18, 19, 20, 21, 22, 23, 24, 25, 26, 27, 28, 29, 30, 31, 32, 33, 34, 35, 36, 37, 38, 39, 40, 41, 42, 43, 44, 45, 46, 47, 48, 49, 50, 51, 52, 53, 54, 55, 56, 57, 58, 59, 60, 61, 62, 63, 64, 65, 66, 67, 68, 69, 70, 71, 72, 73, 74] rfl) (dT (hD.sub (ws' := (wX q ad xx_12)) [0, 1, 2, 3, 4, 5, 6, 7, 8, 9, 10, 11, 12, 13, 14, 15, 16, 17, 18, 19, 20, 21, 22, 23, 24, 25, 26, 27, 28, 29, 30, 31, 32, 33, 34, 35, 36, 37, 38, 39, 40, 41, 42, 43, 44, 45, 46, 47, 48, 49, 50, 51, 52, 53, 54, 55, 56, 57, 58, 59, 60, 61, 62, 63, 64, 65, 66, 67, 68, 69, 70, 71, 72, 73, 74] (by decide) rfl)) hG (ci := 3) rfl rfl rfl rfl (Nat.le_of_ble_eq_true rfl) dL_isSued_199 ⟨Nat.zero_le _, Nat.zero_le _⟩ ?_
                obtain ⟨r_19, er_19⟩ : ∃ z, z = (mX5_count xx_12 4) := ⟨_, rfl⟩
                rw [← er_19]
                replace hR := lt_e hR er_19
                refine lv_iload hx hb dL_isSued_202 (lv_at hl 4 rfl) ?_
                refine lv_iconst (v := 1) hx hb dL_isSued_204 (by decide) ?_
                refine lv_iadd hx hb dL_isSued_205 ?_
                refine lv_icmp_ne (tgt := 297) hx hb dL_isSued_206 (by decide) (fun c_20 => ?_) (fun c_20 => ?_)
                · rw [if_neg c_20] at hR
                  have tc_20 : ¬ r_19.toInt = (r_7 + 1).toInt := fun z => c_20 (i_eq.mpr z)
                  refine lv_iconst (v := 0) hx hb dL_isSued_297 (by decide) ?_
                  have h01 : (0 : Int32) = 0 ∨ (0 : Int32) = 1 := (Or.inl rfl)
                  subst hR
                  exact mu_zret hx hb hr hk h01 hA hS hP rfl dL_isSued_298
                · rw [if_pos c_20] at hR
                  have tc_20 : r_19.toInt = (r_7 + 1).toInt := i_eq.mp c_20
                  refine lv_aload_n hx hb dL_isSued_209 rfl (lv_at hl 10 rfl) ?_
                  refine lv_iconst (v := 5) hx hb dL_isSued_210 (by decide) ?_
                  refine ro_V (v := .int (mX5_count xx_12 5)) (rest := []) (As := [.int 5]) hx hb hml hown hts hl (MX5_count l D q ad xx_12 5) gL_isSued_X5_count rfl kX5_count ⟨Nat.le_of_ble_eq_true rfl, Nat.le_of_ble_eq_true rfl⟩ rfl rfl (hP.sub (ws' := (wX q ad xx_12)) [0, 1, 2, 3, 4, 5, 6, 7, 8, 9, 10, 11, 12, 13, 14, 15, 16, 17, 18, 19, 20, 21, 22, 23, 24, 25, 26, 27, 28, 29, 30, 31, 32, 33, 34, 35, 36, 37, 38, 39, 40, 41, 42, 43, 44, 45, 46, 47, 48, 49, 50, 51, 52, 53, 54, 55, 56, 57, 58, 59, 60, 61, 62, 63, 64, 65, 66, 67, 68, 69, 70, 71, 72, 73, 74] rfl) (dT (hD.sub (ws' := (wX q ad xx_12)) [0, 1, 2, 3, 4, 5, 6, 7, 8, 9, 10, 11, 12, 13, 14, 15, 16, 17, 18, 19, 20, 21, 22, 23, 24, 25, 26, 27, 28, 29, 30, 31, 32, 33, 34, 35, 36, 37, 38, 39, 40, 41, 42, 43, 44, 45, 46, 47, 48, 49, 50, 51, 52, 53, 54, 55, 56, 57, 58, 59, 60, 61, 62, 63, 64, 65, 66, 67, 68, 69, 70, 71, 72, 73, 74] (by decide) rfl)) hG (ci := 3) rfl rfl rfl rfl (Nat.le_of_ble_eq_true rfl) dL_isSued_211 ⟨Nat.zero_le _, Nat.zero_le _⟩ ?_
                  obtain ⟨r_21, er_21⟩ : ∃ z, z = (mX5_count xx_12 5) := ⟨_, rfl⟩
                  rw [← er_21]
                  replace hR := lt_e hR er_21
                  refine lv_iload hx hb dL_isSued_214 (lv_at hl 3 rfl) ?_
                  refine lv_iload hx hb dL_isSued_216 (lv_at hl 1 rfl) ?_
                  refine lv_iadd hx hb dL_isSued_218 ?_
                  refine lv_icmp_ne (tgt := 297) hx hb dL_isSued_219 (by decide) (fun c_22 => ?_) (fun c_22 => ?_)
                  · rw [if_neg c_22] at hR
                    have tc_22 : ¬ r_21.toInt = (r_8 + q_11.1).toInt := fun z => c_22 (i_eq.mpr z)
                    refine lv_iconst (v := 0) hx hb dL_isSued_297 (by decide) ?_
                    have h01 : (0 : Int32) = 0 ∨ (0 : Int32) = 1 := (Or.inl rfl)
                    subst hR
                    exact mu_zret hx hb hr hk h01 hA hS hP rfl dL_isSued_298
                  · rw [if_pos c_22] at hR
                    have tc_22 : r_21.toInt = (r_8 + q_11.1).toInt := i_eq.mp c_22
                    refine lv_aload_n hx hb dL_isSued_222 rfl (lv_at hl 10 rfl) ?_
                    refine lv_iload_n hx hb dL_isSued_223 rfl (lv_at hl 13 rfl) ?_
                    refine lv_iconst (v := 1) hx hb dL_isSued_224 (by decide) ?_
                    refine ro_V (v := .int (mX5_houseOf (xx_12 0) house 1)) (rest := []) (As := [.int house, .int 1]) hx hb hml hown hts hl (MX5_houseOf l D q ad (xx_12 9 0 0) (xx_12 0) house 1) gL_isSued_X5_houseOf rfl kX5_houseOf ⟨Nat.le_of_ble_eq_true rfl, Nat.le_of_ble_eq_true rfl⟩ rfl rfl (hP.sub (ws' := (wXN q ad (xx_12 9 0 0) (xx_12 0))) [0, 1, 2, 3, 4, 5, 6, 7, 8, 9, 10] rfl) (dT (hD.sub (ws' := (wXN q ad (xx_12 9 0 0) (xx_12 0))) [0, 1, 2, 3, 4, 5, 6, 7, 8, 9, 10] (by decide) rfl)) hG (ci := 3) rfl rfl rfl rfl (Nat.le_of_ble_eq_true rfl) dL_isSued_225 ⟨Nat.zero_le _, Nat.zero_le _⟩ ?_
                    obtain ⟨r_23, er_23⟩ : ∃ z, z = (mX5_houseOf (xx_12 0) house 1) := ⟨_, rfl⟩
                    rw [← er_23]
                    replace hR := lt_e hR er_23
                    refine lv_iload hx hb dL_isSued_228 (lv_at hl 7 rfl) ?_
                    refine lv_iload hx hb dL_isSued_230 (lv_at hl 1 rfl) ?_
                    refine lv_iadd hx hb dL_isSued_232 ?_
                    refine lv_icmp_ne (tgt := 297) hx hb dL_isSued_233 (by decide) (fun c_24 => ?_) (fun c_24 => ?_)
                    · rw [if_neg c_24] at hR
                      have tc_24 : ¬ r_23.toInt = (r_4 + q_11.1).toInt := fun z => c_24 (i_eq.mpr z)
                      refine lv_iconst (v := 0) hx hb dL_isSued_297 (by decide) ?_
                      have h01 : (0 : Int32) = 0 ∨ (0 : Int32) = 1 := (Or.inl rfl)
                      subst hR
                      exact mu_zret hx hb hr hk h01 hA hS hP rfl dL_isSued_298
                    · rw [if_pos c_24] at hR
                      have tc_24 : r_23.toInt = (r_4 + q_11.1).toInt := i_eq.mp c_24
                      refine lv_iload hx hb dL_isSued_236 (lv_at hl 2 rfl) ?_
                      refine lv_if_eq (tgt := 255) hx hb dL_isSued_238 (by decide) (fun c_25 => ?_) (fun c_25 => ?_)
                      · rw [if_pos c_25] at hR
                        have tc_25 : y115_s0_10.toInt = 0 := i_eq.mp c_25
                        refine lv_iload hx hb dL_isSued_255 (lv_at hl 0 rfl) ?_
                        refine lv_if_ne (tgt := 297) hx hb dL_isSued_257 (by decide) (fun c_26 => ?_) (fun c_26 => ?_)
                        · rw [if_neg c_26] at hR
                          have tc_26 : ¬ e_15.toInt = 0 := fun z => c_26 (i_eq.mpr z)
                          refine lv_iconst (v := 0) hx hb dL_isSued_297 (by decide) ?_
                          have h01 : (0 : Int32) = 0 ∨ (0 : Int32) = 1 := (Or.inl rfl)
                          subst hR
                          exact mu_zret hx hb hr hk h01 hA hS hP rfl dL_isSued_298
                        · rw [if_pos c_26] at hR
                          have tc_26 : e_15.toInt = 0 := i_eq.mp c_26
                          refine lv_aload_n hx hb dL_isSued_260 rfl (lv_at hl 10 rfl) ?_
                          refine lv_iload_n hx hb dL_isSued_261 rfl (lv_at hl 12 rfl) ?_
                          refine lv_iconst (v := 5) hx hb dL_isSued_262 (by decide) ?_
                          refine ro_V (v := .int (mX5_millOf (xx_12 0) mill 5)) (rest := []) (As := [.int mill, .int 5]) hx hb hml hown hts hl (MX5_millOf l D q ad (xx_12 9 0 0) (xx_12 0) mill 5) gL_isSued_X5_millOf rfl kX5_millOf ⟨Nat.le_of_ble_eq_true rfl, Nat.le_of_ble_eq_true rfl⟩ rfl rfl (hP.sub (ws' := (wXN q ad (xx_12 9 0 0) (xx_12 0))) [0, 1, 2, 3, 4, 5, 6, 7, 8, 9, 10] rfl) (dT (hD.sub (ws' := (wXN q ad (xx_12 9 0 0) (xx_12 0))) [0, 1, 2, 3, 4, 5, 6, 7, 8, 9, 10] (by decide) rfl)) hG (ci := 3) rfl rfl rfl rfl (Nat.le_of_ble_eq_true rfl) dL_isSued_263 ⟨Nat.zero_le _, Nat.zero_le _⟩ ?_
                          obtain ⟨r_27, er_27⟩ : ∃ z, z = (mX5_millOf (xx_12 0) mill 5) := ⟨_, rfl⟩
                          rw [← er_27]
                          replace hR := lt_e hR er_27
                          refine lv_iload hx hb dL_isSued_266 (lv_at hl 5 rfl) ?_
                          refine lv_iload hx hb dL_isSued_268 (lv_at hl 0 rfl) ?_
                          refine lv_isub hx hb dL_isSued_270 ?_
                          refine lv_icmp_ne (tgt := 297) hx hb dL_isSued_271 (by decide) (fun c_28 => ?_) (fun c_28 => ?_)
                          · rw [if_neg c_28] at hR
                            have tc_28 : ¬ r_27.toInt = (r_6 - e_15).toInt := fun z => c_28 (i_eq.mpr z)
                            refine lv_iconst (v := 0) hx hb dL_isSued_297 (by decide) ?_
                            have h01 : (0 : Int32) = 0 ∨ (0 : Int32) = 1 := (Or.inl rfl)
                            subst hR
                            exact mu_zret hx hb hr hk h01 hA hS hP rfl dL_isSued_298
                          · rw [if_pos c_28] at hR
                            have tc_28 : r_27.toInt = (r_6 - e_15).toInt := i_eq.mp c_28
                            refine lv_iload hx hb dL_isSued_274 (lv_at hl 2 rfl) ?_
                            refine lv_if_ne (tgt := 293) hx hb dL_isSued_276 (by decide) (fun c_29 => ?_) (fun c_29 => ?_)
                            · rw [if_neg c_29] at hR
                              have tc_29 : ¬ y115_s0_10.toInt = 0 := fun z => c_29 (i_eq.mpr z)
                              refine lv_iconst (v := 1) hx hb dL_isSued_293 (by decide) ?_
                              refine lv_goto (tgt := 298) hx hb dL_isSued_294 (by decide) ?_
                              have h01 : (1 : Int32) = 0 ∨ (1 : Int32) = 1 := (Or.inr rfl)
                              subst hR
                              exact mu_zret hx hb hr hk h01 hA hS hP rfl dL_isSued_298
                            · rw [if_pos c_29] at hR
                              have tc_29 : y115_s0_10.toInt = 0 := i_eq.mp c_29
                              refine lv_aload_n hx hb dL_isSued_279 rfl (lv_at hl 10 rfl) ?_
                              refine lv_iload_n hx hb dL_isSued_280 rfl (lv_at hl 12 rfl) ?_
                              refine lv_iconst (v := 2) hx hb dL_isSued_281 (by decide) ?_
                              refine ro_V (v := .int (mX5_millOf (xx_12 0) mill 2)) (rest := []) (As := [.int mill, .int 2]) hx hb hml hown hts hl (MX5_millOf l D q ad (xx_12 9 0 0) (xx_12 0) mill 2) gL_isSued_X5_millOf rfl kX5_millOf ⟨Nat.le_of_ble_eq_true rfl, Nat.le_of_ble_eq_true rfl⟩ rfl rfl (hP.sub (ws' := (wXN q ad (xx_12 9 0 0) (xx_12 0))) [0, 1, 2, 3, 4, 5, 6, 7, 8, 9, 10] rfl) (dT (hD.sub (ws' := (wXN q ad (xx_12 9 0 0) (xx_12 0))) [0, 1, 2, 3, 4, 5, 6, 7, 8, 9, 10] (by decide) rfl)) hG (ci := 3) rfl rfl rfl rfl (Nat.le_of_ble_eq_true rfl) dL_isSued_282 ⟨Nat.zero_le _, Nat.zero_le _⟩ ?_
                              obtain ⟨r_30, er_30⟩ : ∃ z, z = (mX5_millOf (xx_12 0) mill 2) := ⟨_, rfl⟩
                              rw [← er_30]
                              replace hR := lt_e hR er_30
                              refine lv_iload hx hb dL_isSued_285 (lv_at hl 14 rfl) ?_
                              refine ro_S (v := .int (mL_has r_30 hour)) (rest := []) (As := [.int r_30, .int hour]) hx hb hml hown hts hl (ML_has l D q r_30 hour) gL_isSued_L_has rfl kL_has ⟨Nat.le_of_ble_eq_true rfl, Nat.le_of_ble_eq_true rfl⟩ rfl rfl (hP.sub (ws' := []) [] rfl) (dT (hD.sub (ws' := []) [] (by decide) rfl)) hG rfl rfl (Nat.le_of_ble_eq_true rfl) dL_isSued_287 ⟨Nat.zero_le _, Nat.zero_le _⟩ ?_
                              obtain ⟨r_31, er_31⟩ : ∃ z, z = (mL_has r_30 hour) := ⟨_, rfl⟩
                              rw [← er_31]
                              replace hR := lt_e hR er_31
                              refine lv_if_eq (tgt := 297) hx hb dL_isSued_290 (by decide) (fun c_32 => ?_) (fun c_32 => ?_)
                              · rw [if_pos c_32] at hR
                                refine lv_iconst (v := 0) hx hb dL_isSued_297 (by decide) ?_
                                have h01 : (0 : Int32) = 0 ∨ (0 : Int32) = 1 := (Or.inl rfl)
                                subst hR
                                exact mu_zret hx hb hr hk h01 hA hS hP rfl dL_isSued_298
                              · rw [if_neg c_32] at hR
                                refine lv_iconst (v := 1) hx hb dL_isSued_293 (by decide) ?_
                                refine lv_goto (tgt := 298) hx hb dL_isSued_294 (by decide) ?_
                                have h01 : (1 : Int32) = 0 ∨ (1 : Int32) = 1 := (Or.inr rfl)
                                subst hR
                                exact mu_zret hx hb hr hk h01 hA hS hP rfl dL_isSued_298
                      · rw [if_neg c_25] at hR
                        have tc_25 : ¬ y115_s0_10.toInt = 0 := fun z => c_25 (i_eq.mpr z)
                        refine lv_iload hx hb dL_isSued_241 (lv_at hl 0 rfl) ?_
                        refine lv_if_le (tgt := 297) hx hb dL_isSued_243 (by decide) (fun c_33 => ?_) (fun c_33 => ?_)
                        · rw [if_pos c_33] at hR
                          have tc_33 : e_15.toInt ≤ 0 := i_le.mp c_33
                          refine lv_iconst (v := 0) hx hb dL_isSued_297 (by decide) ?_
                          have h01 : (0 : Int32) = 0 ∨ (0 : Int32) = 1 := (Or.inl rfl)
                          subst hR
                          exact mu_zret hx hb hr hk h01 hA hS hP rfl dL_isSued_298
                        · rw [if_neg c_33] at hR
                          have tc_33 : ¬ e_15.toInt ≤ 0 := fun z => c_33 (i_le.mpr z)
                          refine lv_iload hx hb dL_isSued_246 (lv_at hl 0 rfl) ?_
                          refine lv_iconst (v := 3) hx hb dL_isSued_248 (by decide) ?_
                          refine lv_icmp_ge (tgt := 297) hx hb dL_isSued_249 (by decide) (fun c_34 => ?_) (fun c_34 => ?_)
                          · rw [if_pos c_34] at hR
                            have tc_34 : 3 ≤ e_15.toInt := i_le.mp c_34
                            refine lv_iconst (v := 0) hx hb dL_isSued_297 (by decide) ?_
                            have h01 : (0 : Int32) = 0 ∨ (0 : Int32) = 1 := (Or.inl rfl)
                            subst hR
                            exact mu_zret hx hb hr hk h01 hA hS hP rfl dL_isSued_298
                          · rw [if_neg c_34] at hR
                            have tc_34 : ¬ 3 ≤ e_15.toInt := fun z => c_34 (i_le.mpr z)
                            refine lv_goto (tgt := 260) hx hb dL_isSued_252 (by decide) ?_
                            refine lv_aload_n hx hb dL_isSued_260 rfl (lv_at hl 10 rfl) ?_
                            refine lv_iload_n hx hb dL_isSued_261 rfl (lv_at hl 12 rfl) ?_
                            refine lv_iconst (v := 5) hx hb dL_isSued_262 (by decide) ?_
                            refine ro_V (v := .int (mX5_millOf (xx_12 0) mill 5)) (rest := []) (As := [.int mill, .int 5]) hx hb hml hown hts hl (MX5_millOf l D q ad (xx_12 9 0 0) (xx_12 0) mill 5) gL_isSued_X5_millOf rfl kX5_millOf ⟨Nat.le_of_ble_eq_true rfl, Nat.le_of_ble_eq_true rfl⟩ rfl rfl (hP.sub (ws' := (wXN q ad (xx_12 9 0 0) (xx_12 0))) [0, 1, 2, 3, 4, 5, 6, 7, 8, 9, 10] rfl) (dT (hD.sub (ws' := (wXN q ad (xx_12 9 0 0) (xx_12 0))) [0, 1, 2, 3, 4, 5, 6, 7, 8, 9, 10] (by decide) rfl)) hG (ci := 3) rfl rfl rfl rfl (Nat.le_of_ble_eq_true rfl) dL_isSued_263 ⟨Nat.zero_le _, Nat.zero_le _⟩ ?_
                            obtain ⟨r_35, er_35⟩ : ∃ z, z = (mX5_millOf (xx_12 0) mill 5) := ⟨_, rfl⟩
                            rw [← er_35]
                            replace hR := lt_e hR er_35
                            refine lv_iload hx hb dL_isSued_266 (lv_at hl 5 rfl) ?_
                            refine lv_iload hx hb dL_isSued_268 (lv_at hl 0 rfl) ?_
                            refine lv_isub hx hb dL_isSued_270 ?_
                            refine lv_icmp_ne (tgt := 297) hx hb dL_isSued_271 (by decide) (fun c_36 => ?_) (fun c_36 => ?_)
                            · rw [if_neg c_36] at hR
                              have tc_36 : ¬ r_35.toInt = (r_6 - e_15).toInt := fun z => c_36 (i_eq.mpr z)
                              refine lv_iconst (v := 0) hx hb dL_isSued_297 (by decide) ?_
                              have h01 : (0 : Int32) = 0 ∨ (0 : Int32) = 1 := (Or.inl rfl)
                              subst hR
                              exact mu_zret hx hb hr hk h01 hA hS hP rfl dL_isSued_298
                            · rw [if_pos c_36] at hR
                              have tc_36 : r_35.toInt = (r_6 - e_15).toInt := i_eq.mp c_36
                              refine lv_iload hx hb dL_isSued_274 (lv_at hl 2 rfl) ?_
                              refine lv_if_ne (tgt := 293) hx hb dL_isSued_276 (by decide) (fun c_37 => ?_) (fun c_37 => ?_)
                              · rw [if_neg c_37] at hR
                                have tc_37 : ¬ y115_s0_10.toInt = 0 := fun z => c_37 (i_eq.mpr z)
                                refine lv_iconst (v := 1) hx hb dL_isSued_293 (by decide) ?_
                                refine lv_goto (tgt := 298) hx hb dL_isSued_294 (by decide) ?_
                                have h01 : (1 : Int32) = 0 ∨ (1 : Int32) = 1 := (Or.inr rfl)
                                subst hR
                                exact mu_zret hx hb hr hk h01 hA hS hP rfl dL_isSued_298
                              · rw [if_pos c_37] at hR
                                have tc_37 : y115_s0_10.toInt = 0 := i_eq.mp c_37
                                refine lv_aload_n hx hb dL_isSued_279 rfl (lv_at hl 10 rfl) ?_
                                refine lv_iload_n hx hb dL_isSued_280 rfl (lv_at hl 12 rfl) ?_
                                refine lv_iconst (v := 2) hx hb dL_isSued_281 (by decide) ?_
                                refine ro_V (v := .int (mX5_millOf (xx_12 0) mill 2)) (rest := []) (As := [.int mill, .int 2]) hx hb hml hown hts hl (MX5_millOf l D q ad (xx_12 9 0 0) (xx_12 0) mill 2) gL_isSued_X5_millOf rfl kX5_millOf ⟨Nat.le_of_ble_eq_true rfl, Nat.le_of_ble_eq_true rfl⟩ rfl rfl (hP.sub (ws' := (wXN q ad (xx_12 9 0 0) (xx_12 0))) [0, 1, 2, 3, 4, 5, 6, 7, 8, 9, 10] rfl) (dT (hD.sub (ws' := (wXN q ad (xx_12 9 0 0) (xx_12 0))) [0, 1, 2, 3, 4, 5, 6, 7, 8, 9, 10] (by decide) rfl)) hG (ci := 3) rfl rfl rfl rfl (Nat.le_of_ble_eq_true rfl) dL_isSued_282 ⟨Nat.zero_le _, Nat.zero_le _⟩ ?_
                                obtain ⟨r_38, er_38⟩ : ∃ z, z = (mX5_millOf (xx_12 0) mill 2) := ⟨_, rfl⟩
                                rw [← er_38]
                                replace hR := lt_e hR er_38
                                refine lv_iload hx hb dL_isSued_285 (lv_at hl 14 rfl) ?_
                                refine ro_S (v := .int (mL_has r_38 hour)) (rest := []) (As := [.int r_38, .int hour]) hx hb hml hown hts hl (ML_has l D q r_38 hour) gL_isSued_L_has rfl kL_has ⟨Nat.le_of_ble_eq_true rfl, Nat.le_of_ble_eq_true rfl⟩ rfl rfl (hP.sub (ws' := []) [] rfl) (dT (hD.sub (ws' := []) [] (by decide) rfl)) hG rfl rfl (Nat.le_of_ble_eq_true rfl) dL_isSued_287 ⟨Nat.zero_le _, Nat.zero_le _⟩ ?_
                                obtain ⟨r_39, er_39⟩ : ∃ z, z = (mL_has r_38 hour) := ⟨_, rfl⟩
                                rw [← er_39]
                                replace hR := lt_e hR er_39
                                refine lv_if_eq (tgt := 297) hx hb dL_isSued_290 (by decide) (fun c_40 => ?_) (fun c_40 => ?_)
                                · rw [if_pos c_40] at hR
                                  refine lv_iconst (v := 0) hx hb dL_isSued_297 (by decide) ?_
                                  have h01 : (0 : Int32) = 0 ∨ (0 : Int32) = 1 := (Or.inl rfl)
                                  subst hR
                                  exact mu_zret hx hb hr hk h01 hA hS hP rfl dL_isSued_298
                                · rw [if_neg c_40] at hR
                                  refine lv_iconst (v := 1) hx hb dL_isSued_293 (by decide) ?_
                                  refine lv_goto (tgt := 298) hx hb dL_isSued_294 (by decide) ?_
                                  have h01 : (1 : Int32) = 0 ∨ (1 : Int32) = 1 := (Or.inr rfl)
                                  subst hR
                                  exact mu_zret hx hb hr hk h01 hA hS hP rfl dL_isSued_298
            refine lv_if_eq (tgt := 193) hx hb dL_isSued_186 (by decide) (fun c_41 => ?_) (fun c_41 => ?_)
            · rw [if_pos c_41] at hR
              have tc_41 : y115_s0_10.toInt = 0 := i_eq.mp c_41
              refine lv_iconst (v := 0) hx hb dL_isSued_193 (by decide) ?_
              exact key_194_17 0 hR ls (lv_sub hl [0, 1, 2, 3, 4, 5, 6, 7, 8, 9, 10, 11, 12, 13, 14] rfl)
            · rw [if_neg c_41] at hR
              have tc_41 : ¬ y115_s0_10.toInt = 0 := fun z => c_41 (i_eq.mpr z)
              refine lv_iconst (v := 1) hx hb dL_isSued_189 (by decide) ?_
              refine lv_goto (tgt := 194) hx hb dL_isSued_190 (by decide) ?_
              exact key_194_17 1 hR ls (lv_sub hl [0, 1, 2, 3, 4, 5, 6, 7, 8, 9, 10, 11, 12, 13, 14] rfl)
        · rw [if_neg c_13] at hR
          have tc_13 : ¬ 0 ≤ q_11.1.toInt := fun z => c_13 (i_le.mpr z)
          refine lv_iload hx hb dL_isSued_132 (lv_at hl 0 rfl) ?_
          refine lv_bipush (v := (-4)) hx hb dL_isSued_134 (by decide) ?_
          refine lv_icmp_ne (tgt := 164) hx hb dL_isSued_136 (by decide) (fun c_42 => ?_) (fun c_42 => ?_)
          · rw [if_neg c_42] at hR
            have tc_42 : ¬ q_11.1.toInt = (-4) := fun z => c_42 (i_eq.mpr z)
            refine lv_iconst (v := 0) hx hb dL_isSued_164 (by decide) ?_
            have h01 : (0 : Int32) = 0 ∨ (0 : Int32) = 1 := (Or.inl rfl)
            subst hR
            exact mu_zret hx hb hr hk h01 hA hS hP rfl dL_isSued_165
          · rw [if_pos c_42] at hR
            have tc_42 : q_11.1.toInt = (-4) := i_eq.mp c_42
            refine lv_aload_n hx hb dL_isSued_139 rfl (lv_at hl 9 rfl) ?_
            refine lv_iconst (v := 4) hx hb dL_isSued_140 (by decide) ?_
            refine ro_V (v := .int (mX5_count xx_12 4)) (rest := []) (As := [.int 4]) hx hb hml hown hts hl (MX5_count l D q ad xx_12 4) gL_isSued_X5_count rfl kX5_count ⟨Nat.le_of_ble_eq_true rfl, Nat.le_of_ble_eq_true rfl⟩ rfl rfl (hP.sub (ws' := (wX q ad xx_12)) [0, 1, 2, 3, 4, 5, 6, 7, 8, 9, 10, 11, 12, 13, 14, 15, 16, 17, 18, 19, 20, 21, 22, 23, 24, 25, 26, 27, 28, 29, 30, 31, 32, 33, 34, 35, 36, 37, 38, 39, 40, 41, 42, 43, 44, 45, 46, 47, 48, 49, 50, 51, 52, 53, 54, 55, 56, 57, 58, 59, 60, 61, 62, 63, 64, 65, 66, 67, 68, 69, 70, 71, 72, 73, 74] rfl) (dT (hD.sub (ws' := (wX q ad xx_12)) [0, 1, 2, 3, 4, 5, 6, 7, 8, 9, 10, 11, 12, 13, 14, 15, 16, 17, 18, 19, 20, 21, 22, 23, 24, 25, 26, 27, 28, 29, 30, 31, 32, 33, 34, 35, 36, 37, 38, 39, 40, 41, 42, 43, 44, 45, 46, 47, 48, 49, 50, 51, 52, 53, 54, 55, 56, 57, 58, 59, 60, 61, 62, 63, 64, 65, 66, 67, 68, 69, 70, 71, 72, 73, 74] (by decide) rfl)) hG (ci := 3) rfl rfl rfl rfl (Nat.le_of_ble_eq_true rfl) dL_isSued_141 ⟨Nat.zero_le _, Nat.zero_le _⟩ ?_
            obtain ⟨r_43, er_43⟩ : ∃ z, z = (mX5_count xx_12 4) := ⟨_, rfl⟩
            rw [← er_43]
            replace hR := lt_e hR er_43
            refine lv_iload hx hb dL_isSued_144 (lv_at hl 3 rfl) ?_
            refine lv_icmp_ne (tgt := 164) hx hb dL_isSued_146 (by decide) (fun c_44 => ?_) (fun c_44 => ?_)
            · rw [if_neg c_44] at hR
              have tc_44 : ¬ r_43.toInt = r_7.toInt := fun z => c_44 (i_eq.mpr z)
              refine lv_iconst (v := 0) hx hb dL_isSued_164 (by decide) ?_
              have h01 : (0 : Int32) = 0 ∨ (0 : Int32) = 1 := (Or.inl rfl)
              subst hR
              exact mu_zret hx hb hr hk h01 hA hS hP rfl dL_isSued_165
            · rw [if_pos c_44] at hR
              have tc_44 : r_43.toInt = r_7.toInt := i_eq.mp c_44
              refine lv_aload_n hx hb dL_isSued_149 rfl (lv_at hl 9 rfl) ?_
              refine lv_iload_n hx hb dL_isSued_150 rfl (lv_at hl 12 rfl) ?_
              refine lv_iconst (v := 3) hx hb dL_isSued_151 (by decide) ?_
              refine ro_V (v := .int (mX5_houseOf (xx_12 0) house 3)) (rest := []) (As := [.int house, .int 3]) hx hb hml hown hts hl (MX5_houseOf l D q ad (xx_12 9 0 0) (xx_12 0) house 3) gL_isSued_X5_houseOf rfl kX5_houseOf ⟨Nat.le_of_ble_eq_true rfl, Nat.le_of_ble_eq_true rfl⟩ rfl rfl (hP.sub (ws' := (wXN q ad (xx_12 9 0 0) (xx_12 0))) [0, 1, 2, 3, 4, 5, 6, 7, 8, 9, 10] rfl) (dT (hD.sub (ws' := (wXN q ad (xx_12 9 0 0) (xx_12 0))) [0, 1, 2, 3, 4, 5, 6, 7, 8, 9, 10] (by decide) rfl)) hG (ci := 3) rfl rfl rfl rfl (Nat.le_of_ble_eq_true rfl) dL_isSued_152 ⟨Nat.zero_le _, Nat.zero_le _⟩ ?_
              obtain ⟨r_45, er_45⟩ : ∃ z, z = (mX5_houseOf (xx_12 0) house 3) := ⟨_, rfl⟩
              rw [← er_45]
              replace hR := lt_e hR er_45
              refine lv_iload hx hb dL_isSued_155 (lv_at hl 5 rfl) ?_
              refine lv_icmp_ne (tgt := 164) hx hb dL_isSued_157 (by decide) (fun c_46 => ?_) (fun c_46 => ?_)
              · rw [if_neg c_46] at hR
                have tc_46 : ¬ r_45.toInt = r_5.toInt := fun z => c_46 (i_eq.mpr z)
                refine lv_iconst (v := 0) hx hb dL_isSued_164 (by decide) ?_
                have h01 : (0 : Int32) = 0 ∨ (0 : Int32) = 1 := (Or.inl rfl)
                subst hR
                exact mu_zret hx hb hr hk h01 hA hS hP rfl dL_isSued_165
              · rw [if_pos c_46] at hR
                have tc_46 : r_45.toInt = r_5.toInt := i_eq.mp c_46
                refine lv_iconst (v := 1) hx hb dL_isSued_160 (by decide) ?_
                refine lv_goto (tgt := 165) hx hb dL_isSued_161 (by decide) ?_
                have h01 : (1 : Int32) = 0 ∨ (1 : Int32) = 1 := (Or.inr rfl)
                subst hR
                exact mu_zret hx hb hr hk h01 hA hS hP rfl dL_isSued_165
      refine lv_icmp_le (tgt := 114) hx hb dL_isSued_107 (by decide) (fun c_47 => ?_) (fun c_47 => ?_)
      · rw [if_pos c_47] at hR
        have tc_47 : (((xx 10 0) (hour).toNatClampNeg) * x6_19).toInt ≤ r_9.toInt := i_le.mp c_47
        refine lv_iconst (v := 0) hx hb dL_isSued_114 (by decide) ?_
        exact key_115_10 0 hR ls (lv_sub hl [0, 1, 2, 3, 4, 5, 6, 7, 8, 9, 10, 11] rfl)
      · rw [if_neg c_47] at hR
        have tc_47 : ¬ (((xx 10 0) (hour).toNatClampNeg) * x6_19).toInt ≤ r_9.toInt := fun z => c_47 (i_le.mpr z)
        refine lv_iconst (v := 1) hx hb dL_isSued_110 (by decide) ?_
        refine lv_goto (tgt := 115) hx hb dL_isSued_111 (by decide) ?_
        exact key_115_10 1 hR ls (lv_sub hl [0, 1, 2, 3, 4, 5, 6, 7, 8, 9, 10, 11] rfl)
    | succ n_19 ih_19 =>
      intro x7_19 x6_19 hn_19 hR ls hl
      rw [mL_isSued_19] at hR
      refine lv_iload hx hb dL_isSued_19 (lv_at hl 0 rfl) ?_
      refine lv_bipush (v := 24) hx hb dL_isSued_21 (by decide) ?_
      refine lv_icmp_ge (tgt := 56) hx hb dL_isSued_23 (by decide) (fun c_3 => (trS hn_19 c_3).elim) (fun c_3 => ?_)
      refine lv_iload hx hb dL_isSued_26 (lv_at hl 1 rfl) ?_
      refine lv_aload_n hx hb dL_isSued_28 rfl (lv_at hl 3 rfl) ?_
      refine lv_iload_n hx hb dL_isSued_29 rfl (lv_at hl 5 rfl) ?_
      refine lv_iconst (v := 2) hx hb dL_isSued_30 (by decide) ?_
      refine ro_V (v := .int (mX5_millOf (xx 0) mill 2)) (rest := [.int x6_19]) (As := [.int mill, .int 2]) hx hb hml hown hts hl (MX5_millOf l D q ad (xx 9 0 0) (xx 0) mill 2) gL_isSued_X5_millOf rfl kX5_millOf ⟨Nat.le_of_ble_eq_true rfl, Nat.le_of_ble_eq_true rfl⟩ rfl rfl (hP.sub (ws' := (wXN q ad (xx 9 0 0) (xx 0))) [0, 1, 2, 3, 4, 5, 6, 7, 8, 9, 10] rfl) (dT (hD.sub (ws' := (wXN q ad (xx 9 0 0) (xx 0))) [0, 1, 2, 3, 4, 5, 6, 7, 8, 9, 10] (by decide) rfl)) hG (ci := 3) rfl rfl rfl rfl (Nat.le_of_ble_eq_true rfl) dL_isSued_31 ⟨Nat.zero_le _, Nat.zero_le _⟩ ?_
      rw [← er_1]
      refine lv_iload hx hb dL_isSued_34 (lv_at hl 0 rfl) ?_
      refine ro_S (v := .int (mL_has r_1 x7_19)) (rest := [.int x6_19]) (As := [.int r_1, .int x7_19]) hx hb hml hown hts hl (ML_has l D q r_1 x7_19) gL_isSued_L_has rfl kL_has ⟨Nat.le_of_ble_eq_true rfl, Nat.le_of_ble_eq_true rfl⟩ rfl rfl (hP.sub (ws' := []) [] rfl) (dT (hD.sub (ws' := []) [] (by decide) rfl)) hG rfl rfl (Nat.le_of_ble_eq_true rfl) dL_isSued_36 ⟨Nat.zero_le _, Nat.zero_le _⟩ ?_
      obtain ⟨r_48, er_48⟩ : ∃ z, z = (mL_has r_1 x7_19) := ⟨_, rfl⟩
      rw [← er_48]
      replace hR := lt_e hR er_48
      refine jn_1 hR (fun F_47_49 eF_47_49 hR => ?_)
      have key_47_49 : ∀ (y47_s0_49 : Int32), lt y47_s0_49 F_47_49 = R → ∀ ls : Array Slot, lv_has ls 15 [(7, .int x7_19), (6, .int x6_19), (5, .int r_2), (0, .ref (ad 9 0)), (1, .ref (ad 10 0)), (2, .int mill), (3, .int house), (4, .int hour)] → W p l e ({ frames := 7, cells := 0, slots := 0, locals := 152 } : Room) s m ([.ref (ad 9 0), .ref (ad 10 0), .int mill, .int house, .int hour] : List Value).toArray below meth c s.heap [] 0 0 (MQ below (muQ D (some (.int R.1)) (wXW q ad xx) (wXW q ad R.2)) ([.ref (ad 9 0), .ref (ad 10 0), .int mill, .int house, .int hour] : List Value).toArray s 0 0 (wAt (wXW q ad xx))) (F0 m 47 ls [.int y47_s0_49, .int x6_19]) := by
        intro y47_s0_49 hR ls hl
        rw [eF_47_49] at hR
        replace hR := jn_e1 hR
        refine lv_iadd hx hb dL_isSued_47 ?_
        obtain ⟨e_50, ee_50⟩ : ∃ z, z = (x6_19 + y47_s0_49) := ⟨_, rfl⟩
        rw [← ee_50]
        replace hR := lt_e hR ee_50
        refine lv_istore (lv' := [(6, .int e_50), (7, .int x7_19), (5, .int r_2), (0, .ref (ad 9 0)), (1, .ref (ad 10 0)), (2, .int mill), (3, .int house), (4, .int hour)]) hx hb dL_isSued_48 hl (by decide) rfl (fun ls hl => ?_)
        refine lv_iinc (v := (x7_19 + 1)) (lv' := [(7, .int (x7_19 + 1)), (6, .int e_50), (5, .int r_2), (0, .ref (ad 9 0)), (1, .ref (ad 10 0)), (2, .int mill), (3, .int house), (4, .int hour)]) hx hb dL_isSued_50 hl (k := 1) rfl rfl (by decide) rfl (fun ls hl => ?_)
        refine lv_goto (tgt := 19) hx hb dL_isSued_53 (by decide) ?_
        exact ih_19 (x7_19 + 1) e_50 (trN hn_19) hR ls (lv_sub hl [0, 1, 2, 3, 4, 5, 6, 7] rfl)
      refine lv_if_eq (tgt := 46) hx hb dL_isSued_39 (by decide) (fun c_51 => ?_) (fun c_51 => ?_)
      · rw [if_pos c_51] at hR
        refine lv_iconst (v := 0) hx hb dL_isSued_46 (by decide) ?_
        exact key_47_49 0 hR ls (lv_sub hl [0, 1, 2, 3, 4, 5, 6, 7] rfl)
      · rw [if_neg c_51] at hR
        refine lv_iconst (v := 1) hx hb dL_isSued_42 (by decide) ?_
        refine lv_goto (tgt := 47) hx hb dL_isSued_43 (by decide) ?_
        exact key_47_49 1 hR ls (lv_sub hl [0, 1, 2, 3, 4, 5, 6, 7] rfl)
  exact key_19 _ 0 0 rfl hR ls hl
