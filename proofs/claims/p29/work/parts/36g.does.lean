def mL_does_297 (r_33 : Int32) (C : (Nat → Nat → Nat → Int32) → Int32 → Int32 → (Int32 × (Nat → Nat → Nat → Int32))) : Nat → (Nat → Nat → Nat → Int32) → Int32 → Int32 → (Int32 × (Nat → Nat → Nat → Int32))
  | 0, xx_297, x15_297, x14_297 => C xx_297 x15_297 x14_297
  | n_297 + 1, xx_297, x15_297, x14_297 => (lt ((if ((xx_297 10 0) (x15_297).toNatClampNeg) = r_33 then 0 else 1) : Int32) (fun y320_s0_40 => (lt (x14_297 + y320_s0_40) (fun e_41 => (lt (setV xx_297 10 (setA (xx_297 10) 0 (upd (xx_297 10 0) (x15_297 : Int32).toNatClampNeg r_33))) (fun xx_42 => (mL_does_297 r_33 C n_297 xx_42 (x15_297 + 1) e_41)))))))
def mL_does (xx : Nat → Nat → Nat → Int32) (v0 x0 : Int32) : Int32 × (Nat → Nat → Nat → Int32) := (lt (mX5_count xx 0) (fun r_1 => (lt (mX5_count xx 1) (fun r_2 => (lt (mL_low x0 96) (fun r_3 => (lt (mX5_yardOf (xx 0) r_3 0) (fun r_4 => (lt ((if 0 ≤ r_4 then 1 else (if (mX5_yardOf (xx 0) r_3 1) < 0 then 0 else 1)) : Int32) (fun y47_s0_5 => (lt (mL_low (x0 >>> (4 &&& 31)) 24) (fun r_6 => (lt ((if r_1 = 0 then 0 else (mL_low (v0 >>> (5 &&& 31)) r_1)) : Int32) (fun y76_s0_7 => (lt ((if r_2 = 0 then 0 else (mL_low (v0 >>> (8 &&& 31)) r_2)) : Int32) (fun y96_s0_8 => (lt (mL_low v0 18) (fun r_9 => (if r_9 = 0 then (lt (mL_low (x0 >>> (7 &&& 31)) 5) (fun r_11 => (lt (mX5_mill xx (1 + r_11) r_3) (fun q_12 => (lt (setV q_12.2 10 (xx 10)) (fun xx_13 => (lt ((if y47_s0_5 = 0 then (if r_1 = 4 then (-3) else r_1) else (-4)) : Int32) (fun y207_s0_14 => (if q_12.1 = y207_s0_14 then (1, xx_13) else (0, xx_13)))))))))) else (if r_9 = 1 then (lt (mL_low (x0 >>> (7 &&& 31)) 5) (fun r_11 => (lt (mX5_mill xx (1 + r_11) r_3) (fun q_12 => (lt (setV q_12.2 10 (xx 10)) (fun xx_13 => (lt ((if y47_s0_5 = 0 then (if r_1 = 4 then (-3) else r_1) else (-4)) : Int32) (fun y207_s0_14 => (if q_12.1 = y207_s0_14 then (1, xx_13) else (0, xx_13)))))))))) else (if r_9 = 2 then (lt (mX5_house xx r_3) (fun q_20 => (lt (setV q_20.2 10 (xx 10)) (fun xx_21 => (lt ((if y47_s0_5 = 0 then (if r_2 = 10 then (-3) else r_2) else (-4)) : Int32) (fun y246_s0_22 => (if q_20.1 = y246_s0_22 then (1, xx_21) else (0, xx_21)))))))) else (if r_9 = 3 then (lt (mX5_house xx r_3) (fun q_20 => (lt (setV q_20.2 10 (xx 10)) (fun xx_21 => (lt ((if y47_s0_5 = 0 then (if r_2 = 10 then (-3) else r_2) else (-4)) : Int32) (fun y246_s0_22 => (if q_20.1 = y246_s0_22 then (1, xx_21) else (0, xx_21)))))))) else (if r_9 = 4 then (lt (mX5_house xx r_3) (fun q_20 => (lt (setV q_20.2 10 (xx 10)) (fun xx_21 => (lt ((if y47_s0_5 = 0 then (if r_2 = 10 then (-3) else r_2) else (-4)) : Int32) (fun y246_s0_22 => (if q_20.1 = y246_s0_22 then (1, xx_21) else (0, xx_21)))))))) else (if r_9 = 5 then (lt (mL_low x0 24) (fun r_29 => (lt (mL_low (x0 >>> (5 &&& 31)) (24 - r_29)) (fun r_31 => (lt (r_29 + r_31) (fun e_32 => (lt (mL_low (x0 >>> (10 &&& 31)) 10) (fun r_33 => (mL_does_297 r_33 (fun xx_297 x15_297 x14_297 => (lt (mX5_wind xx_297 r_29 e_32 r_33) (fun q_35 => (lt (setV q_35.2 10 (xx_297 10)) (fun xx_36 => (lt ((if x14_297 = 0 then (-5) else x14_297) : Int32) (fun y357_s0_37 => (if q_35.1 = y357_s0_37 then (1, xx_36) else (0, xx_36))))))))) (tq r_29 e_32) xx r_29 0))))))))) else (if r_9 = 6 then (lt (mL_low x0 24) (fun r_29 => (lt (mL_low (x0 >>> (5 &&& 31)) (24 - r_29)) (fun r_31 => (lt (r_29 + r_31) (fun e_32 => (lt (mL_low (x0 >>> (10 &&& 31)) 10) (fun r_33 => (mL_does_297 r_33 (fun xx_297 x15_297 x14_297 => (lt (mX5_wind xx_297 r_29 e_32 r_33) (fun q_35 => (lt (setV q_35.2 10 (xx_297 10)) (fun xx_36 => (lt ((if x14_297 = 0 then (-5) else x14_297) : Int32) (fun y357_s0_37 => (if q_35.1 = y357_s0_37 then (1, xx_36) else (0, xx_36))))))))) (tq r_29 e_32) xx r_29 0))))))))) else (if r_9 = 7 then (lt (mL_low (v0 >>> (5 &&& 31)) 4) (fun r_46 => (lt ((if 2 ≤ r_46 then (if r_46 = 2 then (1 + (mL_low x0 4)) else (mL_low x0 60)) else (mL_low x0 21)) : Int32) (fun y412_s0_47 => (lt (mX5_count xx (12 + r_46)) (fun r_48 => (lt (mX5_set xx r_46 y412_s0_47) (fun q_49 => (lt (setV q_49.2 10 (xx 10)) (fun xx_50 => (lt ((if r_48 = y412_s0_47 then (-5) else r_48) : Int32) (fun y447_s0_51 => (if q_49.1 = y447_s0_51 then (lt (mX5_count xx_50 (12 + r_46)) (fun r_53 => (if r_53 = y412_s0_47 then (1, xx_50) else (0, xx_50)))) else (0, xx_50)))))))))))))) else (if r_9 = 8 then (if r_1 = 0 then (1, xx) else (if r_2 = 0 then (1, xx) else (lt (mL_isSued xx y76_s0_7 y96_s0_8 r_6) (fun q_61 => (if q_61.1 = 0 then (0, q_61.2) else (1, q_61.2)))))) else (if r_9 = 9 then (if r_1 = 0 then (1, xx) else (if r_2 = 0 then (1, xx) else (lt (mL_isSued xx y76_s0_7 y96_s0_8 r_6) (fun q_61 => (if q_61.1 = 0 then (0, q_61.2) else (1, q_61.2)))))) else (if r_9 = 10 then (if r_1 = 0 then (lt (mX5_vote xx 0 r_6) (fun q_68 => (lt (setV q_68.2 10 (xx 10)) (fun xx_69 => (if q_68.1 = (-1) then (1, xx_69) else (0, xx_69)))))) else (lt (mL_isVoted xx y76_s0_7 r_6) (fun q_66 => (lt (setV q_66.2 10 (xx 10)) (fun xx_67 => (q_66.1, xx_67)))))) else (if r_9 = 11 then (if r_1 = 0 then (lt (mX5_vote xx 0 r_6) (fun q_68 => (lt (setV q_68.2 10 (xx 10)) (fun xx_69 => (if q_68.1 = (-1) then (1, xx_69) else (0, xx_69)))))) else (lt (mL_isVoted xx y76_s0_7 r_6) (fun q_66 => (lt (setV q_66.2 10 (xx 10)) (fun xx_67 => (q_66.1, xx_67)))))) else (if r_1 = 0 then (lt (mX5_complain xx 0 0 0 0) (fun q_73 => (lt (setV q_73.2 10 (xx 10)) (fun xx_74 => (if q_73.1 = (-1) then (1, xx_74) else (0, xx_74)))))) else (if r_2 = 0 then (lt (mX5_complain xx 0 0 0 0) (fun q_79 => (lt (setV q_79.2 10 (xx 10)) (fun xx_80 => (if q_79.1 = (-1) then (1, xx_80) else (0, xx_80)))))) else (lt (mL_isHeard xx y96_s0_8 y76_s0_7 ((x0 >>> (9 &&& 31)) &&& 1) r_6) (fun q_77 => (lt (setV q_77.2 10 (xx 10)) (fun xx_78 => (q_77.1, xx_78)))))))))))))))))))))))))))))))))))))
theorem kL_does : yL_does.cls ≠ "java/lang/invoke/MethodHandle" ∧ yL_does.cls ≠ "java/lang/invoke/VarHandle" ∧ (parseMethodDescriptor yL_does.desc).map (fun d => d.parameters.length) = some 4 := by decide +kernel
set_option maxHeartbeats 4000000 in
set_option maxRecDepth 100000 in
theorem ML_does (l : Launch) (D : va_G) (q : Nat → ClassId) (ad : Nat → Nat → Nat) (xx : Nat → Nat → Nat → Int32) (v0 x0 : Int32) (z : Nat → Nat) (hrg : rgOk xx) : muMK l D (tyq q) yL_does wsL_does ({ frames := 8, cells := 0, slots := 0, locals := 202 } : Room) [.ref (ad 9 0), .ref (ad 10 0), .int v0, .int x0] (wXW q ad xx) z (some (.int (mL_does xx v0 x0).1)) (wXW q ad (mL_does xx v0 x0).2) := by
  obtain ⟨R, hR⟩ : ∃ z, (mL_does xx v0 x0) = z := ⟨_, rfl⟩
  rw [hR]
  unfold mL_does at hR
  refine muMK.of (cc := cL_does) (maxL := 18) (ret := (some .boolean)) (by decide) rfl (Nat.le_of_ble_eq_true rfl) ?_
  intro p e s m below meth c ls A hx hb hr hk hml hown hts hP hD hG hA hK hl
  have hS : va_S A s.heap s.heap [] := va_S.rf
  have hl : lv_has ls 18 [(0, .ref (ad 9 0)), (1, .ref (ad 10 0)), (2, .int v0), (3, .int x0)] := hl
  refine lv_aload_n hx hb dL_does_0 rfl (lv_at hl 0 rfl) ?_
  refine lv_iconst (v := 0) hx hb dL_does_1 (by decide) ?_
  refine ro_V (v := .int (mX5_count xx 0)) (rest := []) (As := [.int 0]) hx hb hml hown hts hl (MX5_count l D q ad xx 0) gL_does_X5_count rfl kX5_count ⟨Nat.le_of_ble_eq_true rfl, Nat.le_of_ble_eq_true rfl⟩ rfl rfl (hP.sub (ws' := (wX q ad xx)) [0, 1, 2, 3, 4, 5, 6, 7, 8, 9, 10, 11, 12, 13, 14, 15, 16, 17, 18, 19, 20, 21, 22, 23, 24, 25, 26, 27, 28, 29, 30, 31, 32, 33, 34, 35, 36, 37, 38, 39, 40, 41, 42, 43, 44, 45, 46, 47, 48, 49, 50, 51, 52, 53, 54, 55, 56, 57, 58, 59, 60, 61, 62, 63, 64, 65, 66, 67, 68, 69, 70, 71, 72, 73, 74] rfl) (dT (hD.sub (ws' := (wX q ad xx)) [0, 1, 2, 3, 4, 5, 6, 7, 8, 9, 10, 11, 12, 13, 14, 15, 16, 17, 18, 19, 20, 21, 22, 23, 24, 25, 26, 27, 28, 29, 30, 31, 32, 33, 34, 35, 36, 37, 38, 39, 40, 41, 42, 43, 44, 45, 46, 47, 48, 49, 50, 51, 52, 53, 54, 55, 56, 57, 58, 59, 60, 61, 62, 63, 64, 65, 66, 67, 68, 69, 70, 71, 72, 73, 74] (by decide) rfl)) hG (ci := 3) rfl rfl rfl rfl (Nat.le_of_ble_eq_true rfl) dL_does_2 ⟨Nat.zero_le _, Nat.zero_le _⟩ ?_
  obtain ⟨r_1, er_1⟩ : ∃ z, z = (mX5_count xx 0) := ⟨_, rfl⟩
  rw [← er_1]
  replace hR := lt_e hR er_1
  refine lv_istore (lv' := [(4, .int r_1), (0, .ref (ad 9 0)), (1, .ref (ad 10 0)), (2, .int v0), (3, .int x0)]) hx hb dL_does_5 hl (by decide) rfl (fun ls hl => ?_)
  refine lv_aload_n hx hb dL_does_7 rfl (lv_at hl 1 rfl) ?_
  refine lv_iconst (v := 1) hx hb dL_does_8 (by decide) ?_
  refine ro_V (v := .int (mX5_count xx 1)) (rest := []) (As := [.int 1]) hx hb hml hown hts hl (MX5_count l D q ad xx 1) gL_does_X5_count rfl kX5_count ⟨Nat.le_of_ble_eq_true rfl, Nat.le_of_ble_eq_true rfl⟩ rfl rfl (hP.sub (ws' := (wX q ad xx)) [0, 1, 2, 3, 4, 5, 6, 7, 8, 9, 10, 11, 12, 13, 14, 15, 16, 17, 18, 19, 20, 21, 22, 23, 24, 25, 26, 27, 28, 29, 30, 31, 32, 33, 34, 35, 36, 37, 38, 39, 40, 41, 42, 43, 44, 45, 46, 47, 48, 49, 50, 51, 52, 53, 54, 55, 56, 57, 58, 59, 60, 61, 62, 63, 64, 65, 66, 67, 68, 69, 70, 71, 72, 73, 74] rfl) (dT (hD.sub (ws' := (wX q ad xx)) [0, 1, 2, 3, 4, 5, 6, 7, 8, 9, 10, 11, 12, 13, 14, 15, 16, 17, 18, 19, 20, 21, 22, 23, 24, 25, 26, 27, 28, 29, 30, 31, 32, 33, 34, 35, 36, 37, 38, 39, 40, 41, 42, 43, 44, 45, 46, 47, 48, 49, 50, 51, 52, 53, 54, 55, 56, 57, 58, 59, 60, 61, 62, 63, 64, 65, 66, 67, 68, 69, 70, 71, 72, 73, 74] (by decide) rfl)) hG (ci := 3) rfl rfl rfl rfl (Nat.le_of_ble_eq_true rfl) dL_does_9 ⟨Nat.zero_le _, Nat.zero_le _⟩ ?_
  obtain ⟨r_2, er_2⟩ : ∃ z, z = (mX5_count xx 1) := ⟨_, rfl⟩
  rw [← er_2]
  replace hR := lt_e hR er_2
  refine lv_istore (lv' := [(5, .int r_2), (4, .int r_1), (0, .ref (ad 9 0)), (1, .ref (ad 10 0)), (2, .int v0), (3, .int x0)]) hx hb dL_does_12 hl (by decide) rfl (fun ls hl => ?_)
  refine lv_iload_n hx hb dL_does_14 rfl (lv_at hl 5 rfl) ?_
  refine lv_bipush (v := 96) hx hb dL_does_15 (by decide) ?_
  refine ro_S (v := .int (mL_low x0 96)) (rest := []) (As := [.int x0, .int 96]) hx hb hml hown hts hl (ML_low l D q x0 96 (by decide)) gL_does_L_low rfl kL_low ⟨Nat.le_of_ble_eq_true rfl, Nat.le_of_ble_eq_true rfl⟩ rfl rfl (hP.sub (ws' := []) [] rfl) (dT (hD.sub (ws' := []) [] (by decide) rfl)) hG rfl rfl (Nat.le_of_ble_eq_true rfl) dL_does_17 ⟨Nat.zero_le _, Nat.zero_le _⟩ ?_
  obtain ⟨r_3, er_3⟩ : ∃ z, z = (mL_low x0 96) := ⟨_, rfl⟩
  have b0_r_3 := b_low x0 96 (k := 96) rfl (by decide)
  rw [← er_3] at b0_r_3
  rw [← er_3]
  replace hR := lt_e hR er_3
  refine lv_istore (lv' := [(6, .int r_3), (5, .int r_2), (4, .int r_1), (0, .ref (ad 9 0)), (1, .ref (ad 10 0)), (2, .int v0), (3, .int x0)]) hx hb dL_does_20 hl (by decide) rfl (fun ls hl => ?_)
  refine lv_aload_n hx hb dL_does_22 rfl (lv_at hl 3 rfl) ?_
  refine lv_iload hx hb dL_does_23 (lv_at hl 0 rfl) ?_
  refine lv_iconst (v := 0) hx hb dL_does_25 (by decide) ?_
  refine ro_V (v := .int (mX5_yardOf (xx 0) r_3 0)) (rest := []) (As := [.int r_3, .int 0]) hx hb hml hown hts hl (MX5_yardOf l D q ad (xx 9 0 0) (xx 0) r_3 0) gL_does_X5_yardOf rfl kX5_yardOf ⟨Nat.le_of_ble_eq_true rfl, Nat.le_of_ble_eq_true rfl⟩ rfl rfl (hP.sub (ws' := (wXN q ad (xx 9 0 0) (xx 0))) [0, 1, 2, 3, 4, 5, 6, 7, 8, 9, 10] rfl) (dT (hD.sub (ws' := (wXN q ad (xx 9 0 0) (xx 0))) [0, 1, 2, 3, 4, 5, 6, 7, 8, 9, 10] (by decide) rfl)) hG (ci := 3) rfl rfl rfl rfl (Nat.le_of_ble_eq_true rfl) dL_does_26 ⟨Nat.zero_le _, Nat.zero_le _⟩ ?_
  obtain ⟨r_4, er_4⟩ : ∃ z, z = (mX5_yardOf (xx 0) r_3 0) := ⟨_, rfl⟩
  rw [← er_4]
  replace hR := lt_e hR er_4
  refine jn_1 hR (fun F_47_5 eF_47_5 hR => ?_)
  have key_47_5 : ∀ (y47_s0_5 : Int32), lt y47_s0_5 F_47_5 = R → ∀ ls : Array Slot, lv_has ls 18 [(6, .int r_3), (5, .int r_2), (4, .int r_1), (0, .ref (ad 9 0)), (1, .ref (ad 10 0)), (2, .int v0), (3, .int x0)] → W p l e ({ frames := 8, cells := 0, slots := 0, locals := 202 } : Room) s m ([.ref (ad 9 0), .ref (ad 10 0), .int v0, .int x0] : List Value).toArray below meth c s.heap [] 0 0 (MQ below (muQ D (some (.int R.1)) (wXW q ad xx) (wXW q ad R.2)) ([.ref (ad 9 0), .ref (ad 10 0), .int v0, .int x0] : List Value).toArray s 0 0 (wAt (wXW q ad xx))) (F0 m 47 ls [.int y47_s0_5]) := by
    intro y47_s0_5 hR ls hl
    rw [eF_47_5] at hR
    replace hR := jn_e1 hR
    refine lv_istore (lv' := [(7, .int y47_s0_5), (6, .int r_3), (5, .int r_2), (4, .int r_1), (0, .ref (ad 9 0)), (1, .ref (ad 10 0)), (2, .int v0), (3, .int x0)]) hx hb dL_does_47 hl (by decide) rfl (fun ls hl => ?_)
    refine lv_iload_n hx hb dL_does_49 rfl (lv_at hl 7 rfl) ?_
    refine lv_iconst (v := 4) hx hb dL_does_50 (by decide) ?_
    refine lv_ishr hx hb dL_does_51 ?_
    refine lv_bipush (v := 24) hx hb dL_does_52 (by decide) ?_
    refine ro_S (v := .int (mL_low (x0 >>> (4 &&& 31)) 24)) (rest := []) (As := [.int (x0 >>> (4 &&& 31)), .int 24]) hx hb hml hown hts hl (ML_low l D q (x0 >>> (4 &&& 31)) 24 (by decide)) gL_does_L_low rfl kL_low ⟨Nat.le_of_ble_eq_true rfl, Nat.le_of_ble_eq_true rfl⟩ rfl rfl (hP.sub (ws' := []) [] rfl) (dT (hD.sub (ws' := []) [] (by decide) rfl)) hG rfl rfl (Nat.le_of_ble_eq_true rfl) dL_does_54 ⟨Nat.zero_le _, Nat.zero_le _⟩ ?_
    obtain ⟨r_6, er_6⟩ : ∃ z, z = (mL_low (x0 >>> (4 &&& 31)) 24) := ⟨_, rfl⟩
    have b0_r_6 := b_low (x0 >>> (4 &&& 31)) 24 (k := 24) rfl (by decide)
    rw [← er_6] at b0_r_6
    rw [← er_6]
    replace hR := lt_e hR er_6
    refine lv_istore (lv' := [(8, .int r_6), (7, .int y47_s0_5), (6, .int r_3), (5, .int r_2), (4, .int r_1), (0, .ref (ad 9 0)), (1, .ref (ad 10 0)), (2, .int v0), (3, .int x0)]) hx hb dL_does_57 hl (by decide) rfl (fun ls hl => ?_)
    refine lv_iload hx hb dL_does_59 (lv_at hl 4 rfl) ?_
    refine jn_1 hR (fun F_76_7 eF_76_7 hR => ?_)
    have key_76_7 : ∀ (y76_s0_7 : Int32), lt y76_s0_7 F_76_7 = R → ∀ ls : Array Slot, lv_has ls 18 [(8, .int r_6), (7, .int y47_s0_5), (6, .int r_3), (5, .int r_2), (4, .int r_1), (0, .ref (ad 9 0)), (1, .ref (ad 10 0)), (2, .int v0), (3, .int x0)] → W p l e ({ frames := 8, cells := 0, slots := 0, locals := 202 } : Room) s m ([.ref (ad 9 0), .ref (ad 10 0), .int v0, .int x0] : List Value).toArray below meth c s.heap [] 0 0 (MQ below (muQ D (some (.int R.1)) (wXW q ad xx) (wXW q ad R.2)) ([.ref (ad 9 0), .ref (ad 10 0), .int v0, .int x0] : List Value).toArray s 0 0 (wAt (wXW q ad xx))) (F0 m 76 ls [.int y76_s0_7]) := by
      intro y76_s0_7 hR ls hl
      rw [eF_76_7] at hR
      replace hR := jn_e1 hR
      refine lv_istore (lv' := [(9, .int y76_s0_7), (8, .int r_6), (7, .int y47_s0_5), (6, .int r_3), (5, .int r_2), (4, .int r_1), (0, .ref (ad 9 0)), (1, .ref (ad 10 0)), (2, .int v0), (3, .int x0)]) hx hb dL_does_76 hl (by decide) rfl (fun ls hl => ?_)
      refine lv_iload hx hb dL_does_78 (lv_at hl 4 rfl) ?_
      refine jn_1 hR (fun F_96_8 eF_96_8 hR => ?_)
      have key_96_8 : ∀ (y96_s0_8 : Int32), lt y96_s0_8 F_96_8 = R → ∀ ls : Array Slot, lv_has ls 18 [(9, .int y76_s0_7), (8, .int r_6), (7, .int y47_s0_5), (6, .int r_3), (5, .int r_2), (4, .int r_1), (0, .ref (ad 9 0)), (1, .ref (ad 10 0)), (2, .int v0), (3, .int x0)] → W p l e ({ frames := 8, cells := 0, slots := 0, locals := 202 } : Room) s m ([.ref (ad 9 0), .ref (ad 10 0), .int v0, .int x0] : List Value).toArray below meth c s.heap [] 0 0 (MQ below (muQ D (some (.int R.1)) (wXW q ad xx) (wXW q ad R.2)) ([.ref (ad 9 0), .ref (ad 10 0), .int v0, .int x0] : List Value).toArray s 0 0 (wAt (wXW q ad xx))) (F0 m 96 ls [.int y96_s0_8]) := by
        intro y96_s0_8 hR ls hl
        rw [eF_96_8] at hR
        replace hR := jn_e1 hR
        refine lv_istore (lv' := [(10, .int y96_s0_8), (9, .int y76_s0_7), (8, .int r_6), (7, .int y47_s0_5), (6, .int r_3), (5, .int r_2), (4, .int r_1), (0, .ref (ad 9 0)), (1, .ref (ad 10 0)), (2, .int v0), (3, .int x0)]) hx hb dL_does_96 hl (by decide) rfl (fun ls hl => ?_)
        refine lv_iload_n hx hb dL_does_98 rfl (lv_at hl 9 rfl) ?_
        refine lv_bipush (v := 18) hx hb dL_does_99 (by decide) ?_
        refine ro_S (v := .int (mL_low v0 18)) (rest := []) (As := [.int v0, .int 18]) hx hb hml hown hts hl (ML_low l D q v0 18 (by decide)) gL_does_L_low rfl kL_low ⟨Nat.le_of_ble_eq_true rfl, Nat.le_of_ble_eq_true rfl⟩ rfl rfl (hP.sub (ws' := []) [] rfl) (dT (hD.sub (ws' := []) [] (by decide) rfl)) hG rfl rfl (Nat.le_of_ble_eq_true rfl) dL_does_101 ⟨Nat.zero_le _, Nat.zero_le _⟩ ?_
        obtain ⟨r_9, er_9⟩ : ∃ z, z = (mL_low v0 18) := ⟨_, rfl⟩
        have b0_r_9 := b_low v0 18 (k := 18) rfl (by decide)
        rw [← er_9] at b0_r_9
        rw [← er_9]
        replace hR := lt_e hR er_9
        by_cases c_10 : r_9 = 0
        · rw [if_pos c_10] at hR
          have tc_10 : r_9.toInt = 0 := i_eq.mp c_10
          refine lv_tableIn (off := 64) (tgt := 168) hx hb dL_does_104 (by rw [c_10]; decide) (by rw [c_10]; decide) (by rw [c_10]; rfl) (by decide) ?_
          refine lv_aload_n hx hb dL_does_168 rfl (lv_at hl 7 rfl) ?_
          refine lv_iconst (v := 1) hx hb dL_does_169 (by decide) ?_
          refine lv_iload_n hx hb dL_does_170 rfl (lv_at hl 10 rfl) ?_
          refine lv_bipush (v := 7) hx hb dL_does_171 (by decide) ?_
          refine lv_ishr hx hb dL_does_173 ?_
          refine lv_iconst (v := 5) hx hb dL_does_174 (by decide) ?_
          refine ro_S (v := .int (mL_low (x0 >>> (7 &&& 31)) 5)) (rest := [.int 1, .ref (ad 9 0)]) (As := [.int (x0 >>> (7 &&& 31)), .int 5]) hx hb hml hown hts hl (ML_low l D q (x0 >>> (7 &&& 31)) 5 (by decide)) gL_does_L_low rfl kL_low ⟨Nat.le_of_ble_eq_true rfl, Nat.le_of_ble_eq_true rfl⟩ rfl rfl (hP.sub (ws' := []) [] rfl) (dT (hD.sub (ws' := []) [] (by decide) rfl)) hG rfl rfl (Nat.le_of_ble_eq_true rfl) dL_does_175 ⟨Nat.zero_le _, Nat.zero_le _⟩ ?_
          obtain ⟨r_11, er_11⟩ : ∃ z, z = (mL_low (x0 >>> (7 &&& 31)) 5) := ⟨_, rfl⟩
          have b0_r_11 := b_low (x0 >>> (7 &&& 31)) 5 (k := 5) rfl (by decide)
          rw [← er_11] at b0_r_11
          rw [← er_11]
          replace hR := lt_e hR er_11
          refine lv_iadd hx hb dL_does_178 ?_
          refine lv_iload hx hb dL_does_179 (lv_at hl 4 rfl) ?_
          obtain ⟨q_12, eq_12⟩ : ∃ z, z = (mX5_mill xx (1 + r_11) r_3) := ⟨_, rfl⟩
          have hM := MX5_mill l D q ad xx (1 + r_11) r_3 hrg
          rw [← eq_12] at hM
          replace hR := lt_e hR eq_12
          refine mu_V (D := D) (ws := (wXW q ad xx)) (ws' := (wXW q ad (setV q_12.2 10 (xx 10)))) (rest := []) (As := [.int (1 + r_11), .int r_3]) hx hb hml hown hts hl hM gL_does_X5_mill rfl kX5_mill ⟨Nat.le_of_ble_eq_true rfl, Nat.le_of_ble_eq_true rfl⟩ rfl rfl hP hD hS hG [0, 1, 2, 3, 4, 5, 6, 7, 8, 9, 10, 11, 12, 13, 14, 15, 16, 17, 18, 19, 20, 21, 22, 23, 24, 25, 26, 27, 28, 29, 30, 31, 32, 33, 34, 35, 36, 37, 38, 39, 40, 41, 42, 43, 44, 45, 46, 47, 48, 49, 50, 51, 52, 53, 54, 55, 56, 57, 58, 59, 60, 61, 62, 63, 64, 65, 66, 67, 68, 69, 70, 71, 72, 73, 74] rfl rfl (by decide) [76, 77, 78, 79, 80, 81, 82, 83, 84, 85, 86, 87, 88, 89, 90, 91, 92, 93, 94, 95, 96, 97, 98, 99, 100, 101, 102, 103, 104, 105, 106, 107, 108, 109, 110, 111, 112, 113, 114, 115, 116, 117, 118, 119, 120, 121, 122, 123, 124, 125, 126, 127, 128, 129, 130, 131, 132, 133, 134, 135, 136, 137, 138, 139, 140, 141, 142, 143, 144, 145, 146, 147, 148, 149, 150, 75] rfl (by decide) rfl (ci := 3) rfl rfl rfl rfl (Nat.le_of_ble_eq_true rfl) dL_does_181 ⟨Nat.zero_le _, Nat.zero_le _⟩ (fun H locs hP hD hS => ?_)
          obtain ⟨xx_13, exx_13⟩ : ∃ z, z = (setV q_12.2 10 (xx 10)) := ⟨_, rfl⟩
          rw [← exx_13] at hP hD
          replace hR := lt_e hR exx_13
          refine lv_iload hx hb dL_does_184 (lv_at hl 3 rfl) ?_
          refine jn_1 hR (fun F_207_14 eF_207_14 hR => ?_)
          have key_207_14 : ∀ (y207_s0_14 : Int32), lt y207_s0_14 F_207_14 = R → ∀ ls : Array Slot, lv_has ls 18 [(10, .int y96_s0_8), (9, .int y76_s0_7), (8, .int r_6), (7, .int y47_s0_5), (6, .int r_3), (5, .int r_2), (4, .int r_1), (0, .ref (ad 9 0)), (1, .ref (ad 10 0)), (2, .int v0), (3, .int x0)] → W p l e ({ frames := 8, cells := 0, slots := 0, locals := 202 } : Room) s m ([.ref (ad 9 0), .ref (ad 10 0), .int v0, .int x0] : List Value).toArray below meth c H locs 0 0 (MQ below (muQ D (some (.int R.1)) (wXW q ad xx) (wXW q ad R.2)) ([.ref (ad 9 0), .ref (ad 10 0), .int v0, .int x0] : List Value).toArray s 0 0 (wAt (wXW q ad xx))) (F0 m 207 ls [.int y207_s0_14, .int q_12.1]) := by
            intro y207_s0_14 hR ls hl
            rw [eF_207_14] at hR
            replace hR := jn_e1 hR
            refine lv_icmp_ne (tgt := 214) hx hb dL_does_207 (by decide) (fun c_15 => ?_) (fun c_15 => ?_)
            · rw [if_neg c_15] at hR
              have tc_15 : ¬ q_12.1.toInt = y207_s0_14.toInt := fun z => c_15 (i_eq.mpr z)
              refine lv_iconst (v := 0) hx hb dL_does_214 (by decide) ?_
              have h01 : (0 : Int32) = 0 ∨ (0 : Int32) = 1 := (Or.inl rfl)
              subst hR
              exact mu_zret hx hb hr hk h01 hA hS hP rfl dL_does_215
            · rw [if_pos c_15] at hR
              have tc_15 : q_12.1.toInt = y207_s0_14.toInt := i_eq.mp c_15
              refine lv_iconst (v := 1) hx hb dL_does_210 (by decide) ?_
              refine lv_goto (tgt := 215) hx hb dL_does_211 (by decide) ?_
              have h01 : (1 : Int32) = 0 ∨ (1 : Int32) = 1 := (Or.inr rfl)
              subst hR
              exact mu_zret hx hb hr hk h01 hA hS hP rfl dL_does_215
          refine lv_if_eq (tgt := 194) hx hb dL_does_186 (by decide) (fun c_16 => ?_) (fun c_16 => ?_)
          · rw [if_pos c_16] at hR
            have tc_16 : y47_s0_5.toInt = 0 := i_eq.mp c_16
            refine lv_iload hx hb dL_does_194 (lv_at hl 6 rfl) ?_
            refine lv_iconst (v := 4) hx hb dL_does_196 (by decide) ?_
            refine lv_icmp_ne (tgt := 205) hx hb dL_does_197 (by decide) (fun c_17 => ?_) (fun c_17 => ?_)
            · rw [if_neg c_17] at hR
              have tc_17 : ¬ r_1.toInt = 4 := fun z => c_17 (i_eq.mpr z)
              refine lv_iload hx hb dL_does_205 (lv_at hl 6 rfl) ?_
              exact key_207_14 r_1 hR ls (lv_sub hl [0, 1, 2, 3, 4, 5, 6, 7, 8, 9, 10] rfl)
            · rw [if_pos c_17] at hR
              have tc_17 : r_1.toInt = 4 := i_eq.mp c_17
              refine lv_bipush (v := (-3)) hx hb dL_does_200 (by decide) ?_
              refine lv_goto (tgt := 207) hx hb dL_does_202 (by decide) ?_
              exact key_207_14 (-3) hR ls (lv_sub hl [0, 1, 2, 3, 4, 5, 6, 7, 8, 9, 10] rfl)
          · rw [if_neg c_16] at hR
            have tc_16 : ¬ y47_s0_5.toInt = 0 := fun z => c_16 (i_eq.mpr z)
            refine lv_bipush (v := (-4)) hx hb dL_does_189 (by decide) ?_
            refine lv_goto (tgt := 207) hx hb dL_does_191 (by decide) ?_
            exact key_207_14 (-4) hR ls (lv_sub hl [0, 1, 2, 3, 4, 5, 6, 7, 8, 9, 10] rfl)
        · rw [if_neg c_10] at hR
          by_cases c_18 : r_9 = 1
          · rw [if_pos c_18] at hR
            have tc_18 : r_9.toInt = 1 := i_eq.mp c_18
            refine lv_tableIn (off := 64) (tgt := 168) hx hb dL_does_104 (by rw [c_18]; decide) (by rw [c_18]; decide) (by rw [c_18]; rfl) (by decide) ?_
            refine lv_aload_n hx hb dL_does_168 rfl (lv_at hl 7 rfl) ?_
            refine lv_iconst (v := 1) hx hb dL_does_169 (by decide) ?_
            refine lv_iload_n hx hb dL_does_170 rfl (lv_at hl 10 rfl) ?_
            refine lv_bipush (v := 7) hx hb dL_does_171 (by decide) ?_
            refine lv_ishr hx hb dL_does_173 ?_
            refine lv_iconst (v := 5) hx hb dL_does_174 (by decide) ?_
            refine ro_S (v := .int (mL_low (x0 >>> (7 &&& 31)) 5)) (rest := [.int 1, .ref (ad 9 0)]) (As := [.int (x0 >>> (7 &&& 31)), .int 5]) hx hb hml hown hts hl (ML_low l D q (x0 >>> (7 &&& 31)) 5 (by decide)) gL_does_L_low rfl kL_low ⟨Nat.le_of_ble_eq_true rfl, Nat.le_of_ble_eq_true rfl⟩ rfl rfl (hP.sub (ws' := []) [] rfl) (dT (hD.sub (ws' := []) [] (by decide) rfl)) hG rfl rfl (Nat.le_of_ble_eq_true rfl) dL_does_175 ⟨Nat.zero_le _, Nat.zero_le _⟩ ?_
            obtain ⟨r_11, er_11⟩ : ∃ z, z = (mL_low (x0 >>> (7 &&& 31)) 5) := ⟨_, rfl⟩
            have b0_r_11 := b_low (x0 >>> (7 &&& 31)) 5 (k := 5) rfl (by decide)
            rw [← er_11] at b0_r_11
            rw [← er_11]
            replace hR := lt_e hR er_11
            refine lv_iadd hx hb dL_does_178 ?_
            refine lv_iload hx hb dL_does_179 (lv_at hl 4 rfl) ?_
            obtain ⟨q_12, eq_12⟩ : ∃ z, z = (mX5_mill xx (1 + r_11) r_3) := ⟨_, rfl⟩
            have hM := MX5_mill l D q ad xx (1 + r_11) r_3 hrg
            rw [← eq_12] at hM
            replace hR := lt_e hR eq_12
            refine mu_V (D := D) (ws := (wXW q ad xx)) (ws' := (wXW q ad (setV q_12.2 10 (xx 10)))) (rest := []) (As := [.int (1 + r_11), .int r_3]) hx hb hml hown hts hl hM gL_does_X5_mill rfl kX5_mill ⟨Nat.le_of_ble_eq_true rfl, Nat.le_of_ble_eq_true rfl⟩ rfl rfl hP hD hS hG [0, 1, 2, 3, 4, 5, 6, 7, 8, 9, 10, 11, 12, 13, 14, 15, 16, 17, 18, 19, 20, 21, 22, 23, 24, 25, 26, 27, 28, 29, 30, 31, 32, 33, 34, 35, 36, 37, 38, 39, 40, 41, 42, 43, 44, 45, 46, 47, 48, 49, 50, 51, 52, 53, 54, 55, 56, 57, 58, 59, 60, 61, 62, 63, 64, 65, 66, 67, 68, 69, 70, 71, 72, 73, 74] rfl rfl (by decide) [76, 77, 78, 79, 80, 81, 82, 83, 84, 85, 86, 87, 88, 89, 90, 91, 92, 93, 94, 95, 96, 97, 98, 99, 100, 101, 102, 103, 104, 105, 106, 107, 108, 109, 110, 111, 112, 113, 114, 115, 116, 117, 118, 119, 120, 121, 122, 123, 124, 125, 126, 127, 128, 129, 130, 131, 132, 133, 134, 135, 136, 137, 138, 139, 140, 141, 142, 143, 144, 145, 146, 147, 148, 149, 150, 75] rfl (by decide) rfl (ci := 3) rfl rfl rfl rfl (Nat.le_of_ble_eq_true rfl) dL_does_181 ⟨Nat.zero_le _, Nat.zero_le _⟩ (fun H locs hP hD hS => ?_)
            obtain ⟨xx_13, exx_13⟩ : ∃ z, z = (setV q_12.2 10 (xx 10)) := ⟨_, rfl⟩
            rw [← exx_13] at hP hD
            replace hR := lt_e hR exx_13
            refine lv_iload hx hb dL_does_184 (lv_at hl 3 rfl) ?_
            refine jn_1 hR (fun F_207_14 eF_207_14 hR => ?_)
            have key_207_14 : ∀ (y207_s0_14 : Int32), lt y207_s0_14 F_207_14 = R → ∀ ls : Array Slot, lv_has ls 18 [(10, .int y96_s0_8), (9, .int y76_s0_7), (8, .int r_6), (7, .int y47_s0_5), (6, .int r_3), (5, .int r_2), (4, .int r_1), (0, .ref (ad 9 0)), (1, .ref (ad 10 0)), (2, .int v0), (3, .int x0)] → W p l e ({ frames := 8, cells := 0, slots := 0, locals := 202 } : Room) s m ([.ref (ad 9 0), .ref (ad 10 0), .int v0, .int x0] : List Value).toArray below meth c H locs 0 0 (MQ below (muQ D (some (.int R.1)) (wXW q ad xx) (wXW q ad R.2)) ([.ref (ad 9 0), .ref (ad 10 0), .int v0, .int x0] : List Value).toArray s 0 0 (wAt (wXW q ad xx))) (F0 m 207 ls [.int y207_s0_14, .int q_12.1]) := by
              intro y207_s0_14 hR ls hl
              rw [eF_207_14] at hR
              replace hR := jn_e1 hR
              refine lv_icmp_ne (tgt := 214) hx hb dL_does_207 (by decide) (fun c_15 => ?_) (fun c_15 => ?_)
              · rw [if_neg c_15] at hR
                have tc_15 : ¬ q_12.1.toInt = y207_s0_14.toInt := fun z => c_15 (i_eq.mpr z)
                refine lv_iconst (v := 0) hx hb dL_does_214 (by decide) ?_
                have h01 : (0 : Int32) = 0 ∨ (0 : Int32) = 1 := (Or.inl rfl)
                subst hR
                exact mu_zret hx hb hr hk h01 hA hS hP rfl dL_does_215
              · rw [if_pos c_15] at hR
                have tc_15 : q_12.1.toInt = y207_s0_14.toInt := i_eq.mp c_15
                refine lv_iconst (v := 1) hx hb dL_does_210 (by decide) ?_
                refine lv_goto (tgt := 215) hx hb dL_does_211 (by decide) ?_
                have h01 : (1 : Int32) = 0 ∨ (1 : Int32) = 1 := (Or.inr rfl)
                subst hR
                exact mu_zret hx hb hr hk h01 hA hS hP rfl dL_does_215
            refine lv_if_eq (tgt := 194) hx hb dL_does_186 (by decide) (fun c_16 => ?_) (fun c_16 => ?_)
            · rw [if_pos c_16] at hR
              have tc_16 : y47_s0_5.toInt = 0 := i_eq.mp c_16
              refine lv_iload hx hb dL_does_194 (lv_at hl 6 rfl) ?_
              refine lv_iconst (v := 4) hx hb dL_does_196 (by decide) ?_
              refine lv_icmp_ne (tgt := 205) hx hb dL_does_197 (by decide) (fun c_17 => ?_) (fun c_17 => ?_)
              · rw [if_neg c_17] at hR
                have tc_17 : ¬ r_1.toInt = 4 := fun z => c_17 (i_eq.mpr z)
                refine lv_iload hx hb dL_does_205 (lv_at hl 6 rfl) ?_
                exact key_207_14 r_1 hR ls (lv_sub hl [0, 1, 2, 3, 4, 5, 6, 7, 8, 9, 10] rfl)
              · rw [if_pos c_17] at hR
                have tc_17 : r_1.toInt = 4 := i_eq.mp c_17
                refine lv_bipush (v := (-3)) hx hb dL_does_200 (by decide) ?_
                refine lv_goto (tgt := 207) hx hb dL_does_202 (by decide) ?_
                exact key_207_14 (-3) hR ls (lv_sub hl [0, 1, 2, 3, 4, 5, 6, 7, 8, 9, 10] rfl)
            · rw [if_neg c_16] at hR
              have tc_16 : ¬ y47_s0_5.toInt = 0 := fun z => c_16 (i_eq.mpr z)
              refine lv_bipush (v := (-4)) hx hb dL_does_189 (by decide) ?_
              refine lv_goto (tgt := 207) hx hb dL_does_191 (by decide) ?_
              exact key_207_14 (-4) hR ls (lv_sub hl [0, 1, 2, 3, 4, 5, 6, 7, 8, 9, 10] rfl)
          · rw [if_neg c_18] at hR
            by_cases c_19 : r_9 = 2
            · rw [if_pos c_19] at hR
              have tc_19 : r_9.toInt = 2 := i_eq.mp c_19
              refine lv_tableIn (off := 112) (tgt := 216) hx hb dL_does_104 (by rw [c_19]; decide) (by rw [c_19]; decide) (by rw [c_19]; rfl) (by decide) ?_
              refine lv_aload_n hx hb dL_does_216 rfl (lv_at hl 7 rfl) ?_
              refine lv_iload hx hb dL_does_217 (lv_at hl 4 rfl) ?_
              obtain ⟨q_20, eq_20⟩ : ∃ z, z = (mX5_house xx r_3) := ⟨_, rfl⟩
              have hM := MX5_house l D q ad xx r_3 hrg
              rw [← eq_20] at hM
              replace hR := lt_e hR eq_20
              refine mu_V (D := D) (ws := (wXW q ad xx)) (ws' := (wXW q ad (setV q_20.2 10 (xx 10)))) (rest := []) (As := [.int r_3]) hx hb hml hown hts hl hM gL_does_X5_house rfl kX5_house ⟨Nat.le_of_ble_eq_true rfl, Nat.le_of_ble_eq_true rfl⟩ rfl rfl hP hD hS hG [0, 1, 2, 3, 4, 5, 6, 7, 8, 9, 10, 11, 12, 13, 14, 15, 16, 17, 18, 19, 20, 21, 22, 23, 24, 25, 26, 27, 28, 29, 30, 31, 32, 33, 34, 35, 36, 37, 38, 39, 40, 41, 42, 43, 44, 45, 46, 47, 48, 49, 50, 51, 52, 53, 54, 55, 56, 57, 58, 59, 60, 61, 62, 63, 64, 65, 66, 67, 68, 69, 70, 71, 72, 73, 74] rfl rfl (by decide) [76, 77, 78, 79, 80, 81, 82, 83, 84, 85, 86, 87, 88, 89, 90, 91, 92, 93, 94, 95, 96, 97, 98, 99, 100, 101, 102, 103, 104, 105, 106, 107, 108, 109, 110, 111, 112, 113, 114, 115, 116, 117, 118, 119, 120, 121, 122, 123, 124, 125, 126, 127, 128, 129, 130, 131, 132, 133, 134, 135, 136, 137, 138, 139, 140, 141, 142, 143, 144, 145, 146, 147, 148, 149, 150, 75] rfl (by decide) rfl (ci := 3) rfl rfl rfl rfl (Nat.le_of_ble_eq_true rfl) dL_does_219 ⟨Nat.zero_le _, Nat.zero_le _⟩ (fun H locs hP hD hS => ?_)
              obtain ⟨xx_21, exx_21⟩ : ∃ z, z = (setV q_20.2 10 (xx 10)) := ⟨_, rfl⟩
              rw [← exx_21] at hP hD
              replace hR := lt_e hR exx_21
              refine lv_iload hx hb dL_does_222 (lv_at hl 3 rfl) ?_
              refine jn_1 hR (fun F_246_22 eF_246_22 hR => ?_)
              have key_246_22 : ∀ (y246_s0_22 : Int32), lt y246_s0_22 F_246_22 = R → ∀ ls : Array Slot, lv_has ls 18 [(10, .int y96_s0_8), (9, .int y76_s0_7), (8, .int r_6), (7, .int y47_s0_5), (6, .int r_3), (5, .int r_2), (4, .int r_1), (0, .ref (ad 9 0)), (1, .ref (ad 10 0)), (2, .int v0), (3, .int x0)] → W p l e ({ frames := 8, cells := 0, slots := 0, locals := 202 } : Room) s m ([.ref (ad 9 0), .ref (ad 10 0), .int v0, .int x0] : List Value).toArray below meth c H locs 0 0 (MQ below (muQ D (some (.int R.1)) (wXW q ad xx) (wXW q ad R.2)) ([.ref (ad 9 0), .ref (ad 10 0), .int v0, .int x0] : List Value).toArray s 0 0 (wAt (wXW q ad xx))) (F0 m 246 ls [.int y246_s0_22, .int q_20.1]) := by
                intro y246_s0_22 hR ls hl
                rw [eF_246_22] at hR
                replace hR := jn_e1 hR
                refine lv_icmp_ne (tgt := 253) hx hb dL_does_246 (by decide) (fun c_23 => ?_) (fun c_23 => ?_)
                · rw [if_neg c_23] at hR
                  have tc_23 : ¬ q_20.1.toInt = y246_s0_22.toInt := fun z => c_23 (i_eq.mpr z)
                  refine lv_iconst (v := 0) hx hb dL_does_253 (by decide) ?_
                  have h01 : (0 : Int32) = 0 ∨ (0 : Int32) = 1 := (Or.inl rfl)
                  subst hR
                  exact mu_zret hx hb hr hk h01 hA hS hP rfl dL_does_254
                · rw [if_pos c_23] at hR
                  have tc_23 : q_20.1.toInt = y246_s0_22.toInt := i_eq.mp c_23
                  refine lv_iconst (v := 1) hx hb dL_does_249 (by decide) ?_
                  refine lv_goto (tgt := 254) hx hb dL_does_250 (by decide) ?_
                  have h01 : (1 : Int32) = 0 ∨ (1 : Int32) = 1 := (Or.inr rfl)
                  subst hR
                  exact mu_zret hx hb hr hk h01 hA hS hP rfl dL_does_254
              refine lv_if_eq (tgt := 232) hx hb dL_does_224 (by decide) (fun c_24 => ?_) (fun c_24 => ?_)
              · rw [if_pos c_24] at hR
                have tc_24 : y47_s0_5.toInt = 0 := i_eq.mp c_24
                refine lv_iload hx hb dL_does_232 (lv_at hl 5 rfl) ?_
                refine lv_bipush (v := 10) hx hb dL_does_234 (by decide) ?_
                refine lv_icmp_ne (tgt := 244) hx hb dL_does_236 (by decide) (fun c_25 => ?_) (fun c_25 => ?_)
                · rw [if_neg c_25] at hR
                  have tc_25 : ¬ r_2.toInt = 10 := fun z => c_25 (i_eq.mpr z)
                  refine lv_iload hx hb dL_does_244 (lv_at hl 5 rfl) ?_
                  exact key_246_22 r_2 hR ls (lv_sub hl [0, 1, 2, 3, 4, 5, 6, 7, 8, 9, 10] rfl)
                · rw [if_pos c_25] at hR
                  have tc_25 : r_2.toInt = 10 := i_eq.mp c_25
                  refine lv_bipush (v := (-3)) hx hb dL_does_239 (by decide) ?_
                  refine lv_goto (tgt := 246) hx hb dL_does_241 (by decide) ?_
                  exact key_246_22 (-3) hR ls (lv_sub hl [0, 1, 2, 3, 4, 5, 6, 7, 8, 9, 10] rfl)
              · rw [if_neg c_24] at hR
                have tc_24 : ¬ y47_s0_5.toInt = 0 := fun z => c_24 (i_eq.mpr z)
                refine lv_bipush (v := (-4)) hx hb dL_does_227 (by decide) ?_
                refine lv_goto (tgt := 246) hx hb dL_does_229 (by decide) ?_
                exact key_246_22 (-4) hR ls (lv_sub hl [0, 1, 2, 3, 4, 5, 6, 7, 8, 9, 10] rfl)
            · rw [if_neg c_19] at hR
              by_cases c_26 : r_9 = 3
              · rw [if_pos c_26] at hR
                have tc_26 : r_9.toInt = 3 := i_eq.mp c_26
                refine lv_tableIn (off := 112) (tgt := 216) hx hb dL_does_104 (by rw [c_26]; decide) (by rw [c_26]; decide) (by rw [c_26]; rfl) (by decide) ?_
                refine lv_aload_n hx hb dL_does_216 rfl (lv_at hl 7 rfl) ?_
                refine lv_iload hx hb dL_does_217 (lv_at hl 4 rfl) ?_
                obtain ⟨q_20, eq_20⟩ : ∃ z, z = (mX5_house xx r_3) := ⟨_, rfl⟩
                have hM := MX5_house l D q ad xx r_3 hrg
                rw [← eq_20] at hM
                replace hR := lt_e hR eq_20
                refine mu_V (D := D) (ws := (wXW q ad xx)) (ws' := (wXW q ad (setV q_20.2 10 (xx 10)))) (rest := []) (As := [.int r_3]) hx hb hml hown hts hl hM gL_does_X5_house rfl kX5_house ⟨Nat.le_of_ble_eq_true rfl, Nat.le_of_ble_eq_true rfl⟩ rfl rfl hP hD hS hG [0, 1, 2, 3, 4, 5, 6, 7, 8, 9, 10, 11, 12, 13, 14, 15, 16, 17, 18, 19, 20, 21, 22, 23, 24, 25, 26, 27, 28, 29, 30, 31, 32, 33, 34, 35, 36, 37, 38, 39, 40, 41, 42, 43, 44, 45, 46, 47, 48, 49, 50, 51, 52, 53, 54, 55, 56, 57, 58, 59, 60, 61, 62, 63, 64, 65, 66, 67, 68, 69, 70, 71, 72, 73, 74] rfl rfl (by decide) [76, 77, 78, 79, 80, 81, 82, 83, 84, 85, 86, 87, 88, 89, 90, 91, 92, 93, 94, 95, 96, 97, 98, 99, 100, 101, 102, 103, 104, 105, 106, 107, 108, 109, 110, 111, 112, 113, 114, 115, 116, 117, 118, 119, 120, 121, 122, 123, 124, 125, 126, 127, 128, 129, 130, 131, 132, 133, 134, 135, 136, 137, 138, 139, 140, 141, 142, 143, 144, 145, 146, 147, 148, 149, 150, 75] rfl (by decide) rfl (ci := 3) rfl rfl rfl rfl (Nat.le_of_ble_eq_true rfl) dL_does_219 ⟨Nat.zero_le _, Nat.zero_le _⟩ (fun H locs hP hD hS => ?_)
                obtain ⟨xx_21, exx_21⟩ : ∃ z, z = (setV q_20.2 10 (xx 10)) := ⟨_, rfl⟩
                rw [← exx_21] at hP hD
                replace hR := lt_e hR exx_21
                refine lv_iload hx hb dL_does_222 (lv_at hl 3 rfl) ?_
                refine jn_1 hR (fun F_246_22 eF_246_22 hR => ?_)
                have key_246_22 : ∀ (y246_s0_22 : Int32), lt y246_s0_22 F_246_22 = R → ∀ ls : Array Slot, lv_has ls 18 [(10, .int y96_s0_8), (9, .int y76_s0_7), (8, .int r_6), (7, .int y47_s0_5), (6, .int r_3), (5, .int r_2), (4, .int r_1), (0, .ref (ad 9 0)), (1, .ref (ad 10 0)), (2, .int v0), (3, .int x0)] → W p l e ({ frames := 8, cells := 0, slots := 0, locals := 202 } : Room) s m ([.ref (ad 9 0), .ref (ad 10 0), .int v0, .int x0] : List Value).toArray below meth c H locs 0 0 (MQ below (muQ D (some (.int R.1)) (wXW q ad xx) (wXW q ad R.2)) ([.ref (ad 9 0), .ref (ad 10 0), .int v0, .int x0] : List Value).toArray s 0 0 (wAt (wXW q ad xx))) (F0 m 246 ls [.int y246_s0_22, .int q_20.1]) := by
                  intro y246_s0_22 hR ls hl
                  rw [eF_246_22] at hR
                  replace hR := jn_e1 hR
                  refine lv_icmp_ne (tgt := 253) hx hb dL_does_246 (by decide) (fun c_23 => ?_) (fun c_23 => ?_)
                  · rw [if_neg c_23] at hR
                    have tc_23 : ¬ q_20.1.toInt = y246_s0_22.toInt := fun z => c_23 (i_eq.mpr z)
                    refine lv_iconst (v := 0) hx hb dL_does_253 (by decide) ?_
                    have h01 : (0 : Int32) = 0 ∨ (0 : Int32) = 1 := (Or.inl rfl)
                    subst hR
                    exact mu_zret hx hb hr hk h01 hA hS hP rfl dL_does_254
                  · rw [if_pos c_23] at hR
                    have tc_23 : q_20.1.toInt = y246_s0_22.toInt := i_eq.mp c_23
                    refine lv_iconst (v := 1) hx hb dL_does_249 (by decide) ?_
                    refine lv_goto (tgt := 254) hx hb dL_does_250 (by decide) ?_
                    have h01 : (1 : Int32) = 0 ∨ (1 : Int32) = 1 := (Or.inr rfl)
                    subst hR
                    exact mu_zret hx hb hr hk h01 hA hS hP rfl dL_does_254
                refine lv_if_eq (tgt := 232) hx hb dL_does_224 (by decide) (fun c_24 => ?_) (fun c_24 => ?_)
                · rw [if_pos c_24] at hR
                  have tc_24 : y47_s0_5.toInt = 0 := i_eq.mp c_24
                  refine lv_iload hx hb dL_does_232 (lv_at hl 5 rfl) ?_
                  refine lv_bipush (v := 10) hx hb dL_does_234 (by decide) ?_
                  refine lv_icmp_ne (tgt := 244) hx hb dL_does_236 (by decide) (fun c_25 => ?_) (fun c_25 => ?_)
                  · rw [if_neg c_25] at hR
                    have tc_25 : ¬ r_2.toInt = 10 := fun z => c_25 (i_eq.mpr z)
                    refine lv_iload hx hb dL_does_244 (lv_at hl 5 rfl) ?_
                    exact key_246_22 r_2 hR ls (lv_sub hl [0, 1, 2, 3, 4, 5, 6, 7, 8, 9, 10] rfl)
                  · rw [if_pos c_25] at hR
                    have tc_25 : r_2.toInt = 10 := i_eq.mp c_25
                    refine lv_bipush (v := (-3)) hx hb dL_does_239 (by decide) ?_
                    refine lv_goto (tgt := 246) hx hb dL_does_241 (by decide) ?_
                    exact key_246_22 (-3) hR ls (lv_sub hl [0, 1, 2, 3, 4, 5, 6, 7, 8, 9, 10] rfl)
                · rw [if_neg c_24] at hR
                  have tc_24 : ¬ y47_s0_5.toInt = 0 := fun z => c_24 (i_eq.mpr z)
                  refine lv_bipush (v := (-4)) hx hb dL_does_227 (by decide) ?_
                  refine lv_goto (tgt := 246) hx hb dL_does_229 (by decide) ?_
                  exact key_246_22 (-4) hR ls (lv_sub hl [0, 1, 2, 3, 4, 5, 6, 7, 8, 9, 10] rfl)
              · rw [if_neg c_26] at hR
                by_cases c_27 : r_9 = 4
                · rw [if_pos c_27] at hR
                  have tc_27 : r_9.toInt = 4 := i_eq.mp c_27
                  refine lv_tableIn (off := 112) (tgt := 216) hx hb dL_does_104 (by rw [c_27]; decide) (by rw [c_27]; decide) (by rw [c_27]; rfl) (by decide) ?_
                  refine lv_aload_n hx hb dL_does_216 rfl (lv_at hl 7 rfl) ?_
                  refine lv_iload hx hb dL_does_217 (lv_at hl 4 rfl) ?_
                  obtain ⟨q_20, eq_20⟩ : ∃ z, z = (mX5_house xx r_3) := ⟨_, rfl⟩
                  have hM := MX5_house l D q ad xx r_3 hrg
                  rw [← eq_20] at hM
                  replace hR := lt_e hR eq_20
                  refine mu_V (D := D) (ws := (wXW q ad xx)) (ws' := (wXW q ad (setV q_20.2 10 (xx 10)))) (rest := []) (As := [.int r_3]) hx hb hml hown hts hl hM gL_does_X5_house rfl kX5_house ⟨Nat.le_of_ble_eq_true rfl, Nat.le_of_ble_eq_true rfl⟩ rfl rfl hP hD hS hG [0, 1, 2, 3, 4, 5, 6, 7, 8, 9, 10, 11, 12, 13, 14, 15, 16, 17, 18, 19, 20, 21, 22, 23, 24, 25, 26, 27, 28, 29, 30, 31, 32, 33, 34, 35, 36, 37, 38, 39, 40, 41, 42, 43, 44, 45, 46, 47, 48, 49, 50, 51, 52, 53, 54, 55, 56, 57, 58, 59, 60, 61, 62, 63, 64, 65, 66, 67, 68, 69, 70, 71, 72, 73, 74] rfl rfl (by decide) [76, 77, 78, 79, 80, 81, 82, 83, 84, 85, 86, 87, 88, 89, 90, 91, 92, 93, 94, 95, 96, 97, 98, 99, 100, 101, 102, 103, 104, 105, 106, 107, 108, 109, 110, 111, 112, 113, 114, 115, 116, 117, 118, 119, 120, 121, 122, 123, 124, 125, 126, 127, 128, 129, 130, 131, 132, 133, 134, 135, 136, 137, 138, 139, 140, 141, 142, 143, 144, 145, 146, 147, 148, 149, 150, 75] rfl (by decide) rfl (ci := 3) rfl rfl rfl rfl (Nat.le_of_ble_eq_true rfl) dL_does_219 ⟨Nat.zero_le _, Nat.zero_le _⟩ (fun H locs hP hD hS => ?_)
                  obtain ⟨xx_21, exx_21⟩ : ∃ z, z = (setV q_20.2 10 (xx 10)) := ⟨_, rfl⟩
                  rw [← exx_21] at hP hD
                  replace hR := lt_e hR exx_21
                  refine lv_iload hx hb dL_does_222 (lv_at hl 3 rfl) ?_
                  refine jn_1 hR (fun F_246_22 eF_246_22 hR => ?_)
                  have key_246_22 : ∀ (y246_s0_22 : Int32), lt y246_s0_22 F_246_22 = R → ∀ ls : Array Slot, lv_has ls 18 [(10, .int y96_s0_8), (9, .int y76_s0_7), (8, .int r_6), (7, .int y47_s0_5), (6, .int r_3), (5, .int r_2), (4, .int r_1), (0, .ref (ad 9 0)), (1, .ref (ad 10 0)), (2, .int v0), (3, .int x0)] → W p l e ({ frames := 8, cells := 0, slots := 0, locals := 202 } : Room) s m ([.ref (ad 9 0), .ref (ad 10 0), .int v0, .int x0] : List Value).toArray below meth c H locs 0 0 (MQ below (muQ D (some (.int R.1)) (wXW q ad xx) (wXW q ad R.2)) ([.ref (ad 9 0), .ref (ad 10 0), .int v0, .int x0] : List Value).toArray s 0 0 (wAt (wXW q ad xx))) (F0 m 246 ls [.int y246_s0_22, .int q_20.1]) := by
                    intro y246_s0_22 hR ls hl
                    rw [eF_246_22] at hR
                    replace hR := jn_e1 hR
                    refine lv_icmp_ne (tgt := 253) hx hb dL_does_246 (by decide) (fun c_23 => ?_) (fun c_23 => ?_)
                    · rw [if_neg c_23] at hR
                      have tc_23 : ¬ q_20.1.toInt = y246_s0_22.toInt := fun z => c_23 (i_eq.mpr z)
                      refine lv_iconst (v := 0) hx hb dL_does_253 (by decide) ?_
                      have h01 : (0 : Int32) = 0 ∨ (0 : Int32) = 1 := (Or.inl rfl)
                      subst hR
                      exact mu_zret hx hb hr hk h01 hA hS hP rfl dL_does_254
                    · rw [if_pos c_23] at hR
                      have tc_23 : q_20.1.toInt = y246_s0_22.toInt := i_eq.mp c_23
                      refine lv_iconst (v := 1) hx hb dL_does_249 (by decide) ?_
                      refine lv_goto (tgt := 254) hx hb dL_does_250 (by decide) ?_
                      have h01 : (1 : Int32) = 0 ∨ (1 : Int32) = 1 := (Or.inr rfl)
                      subst hR
                      exact mu_zret hx hb hr hk h01 hA hS hP rfl dL_does_254
                  refine lv_if_eq (tgt := 232) hx hb dL_does_224 (by decide) (fun c_24 => ?_) (fun c_24 => ?_)
                  · rw [if_pos c_24] at hR
                    have tc_24 : y47_s0_5.toInt = 0 := i_eq.mp c_24
                    refine lv_iload hx hb dL_does_232 (lv_at hl 5 rfl) ?_
                    refine lv_bipush (v := 10) hx hb dL_does_234 (by decide) ?_
                    refine lv_icmp_ne (tgt := 244) hx hb dL_does_236 (by decide) (fun c_25 => ?_) (fun c_25 => ?_)
                    · rw [if_neg c_25] at hR
                      have tc_25 : ¬ r_2.toInt = 10 := fun z => c_25 (i_eq.mpr z)
                      refine lv_iload hx hb dL_does_244 (lv_at hl 5 rfl) ?_
                      exact key_246_22 r_2 hR ls (lv_sub hl [0, 1, 2, 3, 4, 5, 6, 7, 8, 9, 10] rfl)
                    · rw [if_pos c_25] at hR
                      have tc_25 : r_2.toInt = 10 := i_eq.mp c_25
                      refine lv_bipush (v := (-3)) hx hb dL_does_239 (by decide) ?_
                      refine lv_goto (tgt := 246) hx hb dL_does_241 (by decide) ?_
                      exact key_246_22 (-3) hR ls (lv_sub hl [0, 1, 2, 3, 4, 5, 6, 7, 8, 9, 10] rfl)
                  · rw [if_neg c_24] at hR
                    have tc_24 : ¬ y47_s0_5.toInt = 0 := fun z => c_24 (i_eq.mpr z)
                    refine lv_bipush (v := (-4)) hx hb dL_does_227 (by decide) ?_
                    refine lv_goto (tgt := 246) hx hb dL_does_229 (by decide) ?_
                    exact key_246_22 (-4) hR ls (lv_sub hl [0, 1, 2, 3, 4, 5, 6, 7, 8, 9, 10] rfl)
                · rw [if_neg c_27] at hR
                  by_cases c_28 : r_9 = 5
                  · rw [if_pos c_28] at hR
                    have tc_28 : r_9.toInt = 5 := i_eq.mp c_28
                    refine lv_tableIn (off := 151) (tgt := 255) hx hb dL_does_104 (by rw [c_28]; decide) (by rw [c_28]; decide) (by rw [c_28]; rfl) (by decide) ?_
                    refine lv_iload_n hx hb dL_does_255 rfl (lv_at hl 10 rfl) ?_
                    refine lv_bipush (v := 24) hx hb dL_does_256 (by decide) ?_
                    refine ro_S (v := .int (mL_low x0 24)) (rest := []) (As := [.int x0, .int 24]) hx hb hml hown hts hl (ML_low l D q x0 24 (by decide)) gL_does_L_low rfl kL_low ⟨Nat.le_of_ble_eq_true rfl, Nat.le_of_ble_eq_true rfl⟩ rfl rfl (hP.sub (ws' := []) [] rfl) (dT (hD.sub (ws' := []) [] (by decide) rfl)) hG rfl rfl (Nat.le_of_ble_eq_true rfl) dL_does_258 ⟨Nat.zero_le _, Nat.zero_le _⟩ ?_
                    obtain ⟨r_29, er_29⟩ : ∃ z, z = (mL_low x0 24) := ⟨_, rfl⟩
                    have b0_r_29 := b_low x0 24 (k := 24) rfl (by decide)
                    rw [← er_29] at b0_r_29
                    rw [← er_29]
                    replace hR := lt_e hR er_29
                    refine lv_istore (lv' := [(11, .int r_29), (10, .int y96_s0_8), (9, .int y76_s0_7), (8, .int r_6), (7, .int y47_s0_5), (6, .int r_3), (5, .int r_2), (4, .int r_1), (0, .ref (ad 9 0)), (1, .ref (ad 10 0)), (2, .int v0), (3, .int x0)]) hx hb dL_does_261 hl (by decide) rfl (fun ls hl => ?_)
                    refine lv_iload hx hb dL_does_263 (lv_at hl 0 rfl) ?_
                    refine lv_iload_n hx hb dL_does_265 rfl (lv_at hl 11 rfl) ?_
                    refine lv_iconst (v := 5) hx hb dL_does_266 (by decide) ?_
                    refine lv_ishr hx hb dL_does_267 ?_
                    refine lv_bipush (v := 24) hx hb dL_does_268 (by decide) ?_
                    refine lv_iload hx hb dL_does_270 (lv_at hl 0 rfl) ?_
                    refine lv_isub hx hb dL_does_272 ?_
                    have u_30 : ((24 - r_29)).toInt = (24 - (r_29).toInt) := (ti_sub (show (24 : Int32).toInt = 24 from rfl) rfl (by omega))
                    refine ro_S (v := .int (mL_low (x0 >>> (5 &&& 31)) (24 - r_29))) (rest := [.int r_29]) (As := [.int (x0 >>> (5 &&& 31)), .int (24 - r_29)]) hx hb hml hown hts hl (ML_low l D q (x0 >>> (5 &&& 31)) (24 - r_29) (lw_ne (k := (24 - (r_29).toInt)) (ti_sub (show (24 : Int32).toInt = 24 from rfl) rfl (by omega)) (by omega))) gL_does_L_low rfl kL_low ⟨Nat.le_of_ble_eq_true rfl, Nat.le_of_ble_eq_true rfl⟩ rfl rfl (hP.sub (ws' := []) [] rfl) (dT (hD.sub (ws' := []) [] (by decide) rfl)) hG rfl rfl (Nat.le_of_ble_eq_true rfl) dL_does_273 ⟨Nat.zero_le _, Nat.zero_le _⟩ ?_
                    obtain ⟨r_31, er_31⟩ : ∃ z, z = (mL_low (x0 >>> (5 &&& 31)) (24 - r_29)) := ⟨_, rfl⟩
                    have b0_r_31 := b_low (x0 >>> (5 &&& 31)) (24 - r_29) (k := (24 - (r_29).toInt)) (ti_sub (show (24 : Int32).toInt = 24 from rfl) rfl (by omega)) (by omega)
                    rw [← er_31] at b0_r_31
                    rw [← er_31]
                    replace hR := lt_e hR er_31
                    refine lv_iadd hx hb dL_does_276 ?_
                    obtain ⟨e_32, ee_32⟩ : ∃ z, z = (r_29 + r_31) := ⟨_, rfl⟩
                    rw [← ee_32]
                    replace hR := lt_e hR ee_32
                    have ue_32 : e_32.toInt = ((r_29).toInt + (r_31).toInt) := by rw [ee_32]; exact (ti_add rfl rfl (by omega))
                    refine lv_istore (lv' := [(12, .int e_32), (11, .int r_29), (10, .int y96_s0_8), (9, .int y76_s0_7), (8, .int r_6), (7, .int y47_s0_5), (6, .int r_3), (5, .int r_2), (4, .int r_1), (0, .ref (ad 9 0)), (1, .ref (ad 10 0)), (2, .int v0), (3, .int x0)]) hx hb dL_does_277 hl (by decide) rfl (fun ls hl => ?_)
                    refine lv_iload_n hx hb dL_does_279 rfl (lv_at hl 12 rfl) ?_
                    refine lv_bipush (v := 10) hx hb dL_does_280 (by decide) ?_
                    refine lv_ishr hx hb dL_does_282 ?_
                    refine lv_bipush (v := 10) hx hb dL_does_283 (by decide) ?_
                    refine ro_S (v := .int (mL_low (x0 >>> (10 &&& 31)) 10)) (rest := []) (As := [.int (x0 >>> (10 &&& 31)), .int 10]) hx hb hml hown hts hl (ML_low l D q (x0 >>> (10 &&& 31)) 10 (by decide)) gL_does_L_low rfl kL_low ⟨Nat.le_of_ble_eq_true rfl, Nat.le_of_ble_eq_true rfl⟩ rfl rfl (hP.sub (ws' := []) [] rfl) (dT (hD.sub (ws' := []) [] (by decide) rfl)) hG rfl rfl (Nat.le_of_ble_eq_true rfl) dL_does_285 ⟨Nat.zero_le _, Nat.zero_le _⟩ ?_
                    obtain ⟨r_33, er_33⟩ : ∃ z, z = (mL_low (x0 >>> (10 &&& 31)) 10) := ⟨_, rfl⟩
                    have b0_r_33 := b_low (x0 >>> (10 &&& 31)) 10 (k := 10) rfl (by decide)
                    rw [← er_33] at b0_r_33
                    rw [← er_33]
                    replace hR := lt_e hR er_33
                    refine lv_istore (lv' := [(13, .int r_33), (12, .int e_32), (11, .int r_29), (10, .int y96_s0_8), (9, .int y76_s0_7), (8, .int r_6), (7, .int y47_s0_5), (6, .int r_3), (5, .int r_2), (4, .int r_1), (0, .ref (ad 9 0)), (1, .ref (ad 10 0)), (2, .int v0), (3, .int x0)]) hx hb dL_does_288 hl (by decide) rfl (fun ls hl => ?_)
                    refine lv_iconst (v := 0) hx hb dL_does_290 (by decide) ?_
                    refine lv_istore (lv' := [(14, .int 0), (13, .int r_33), (12, .int e_32), (11, .int r_29), (10, .int y96_s0_8), (9, .int y76_s0_7), (8, .int r_6), (7, .int y47_s0_5), (6, .int r_3), (5, .int r_2), (4, .int r_1), (0, .ref (ad 9 0)), (1, .ref (ad 10 0)), (2, .int v0), (3, .int x0)]) hx hb dL_does_291 hl (by decide) rfl (fun ls hl => ?_)
                    refine lv_iload hx hb dL_does_293 (lv_at hl 3 rfl) ?_
                    refine lv_istore (lv' := [(15, .int r_29), (14, .int 0), (13, .int r_33), (12, .int e_32), (11, .int r_29), (10, .int y96_s0_8), (9, .int y76_s0_7), (8, .int r_6), (7, .int y47_s0_5), (6, .int r_3), (5, .int r_2), (4, .int r_1), (0, .ref (ad 9 0)), (1, .ref (ad 10 0)), (2, .int v0), (3, .int x0)]) hx hb dL_does_295 hl (by decide) rfl (fun ls hl => ?_)
                    have key_297 : ∀ (n_297 : Nat) (xx_297 : Nat → Nat → Nat → Int32) (x15_297 : Int32) (x14_297 : Int32) (H : Heap) (locs : List Loc) , tq x15_297 e_32 = n_297 → rgOk xx_297 → 0 ≤ x15_297.toInt → mL_does_297 r_33 (fun xx_297 x15_297 x14_297 => (lt (mX5_wind xx_297 r_29 e_32 r_33) (fun q_35 => (lt (setV q_35.2 10 (xx_297 10)) (fun xx_36 => (lt ((if x14_297 = 0 then (-5) else x14_297) : Int32) (fun y357_s0_37 => (if q_35.1 = y357_s0_37 then (1, xx_36) else (0, xx_36))))))))) n_297 xx_297 x15_297 x14_297 = R → va_P D vwCl (wXW q ad xx_297) H → va_D A (wXW q ad xx_297) → va_S A s.heap H locs → ∀ ls : Array Slot, lv_has ls 18 [(15, .int x15_297), (14, .int x14_297), (13, .int r_33), (12, .int e_32), (11, .int r_29), (10, .int y96_s0_8), (9, .int y76_s0_7), (8, .int r_6), (7, .int y47_s0_5), (6, .int r_3), (5, .int r_2), (4, .int r_1), (0, .ref (ad 9 0)), (1, .ref (ad 10 0)), (2, .int v0), (3, .int x0)] → W p l e ({ frames := 8, cells := 0, slots := 0, locals := 202 } : Room) s m ([.ref (ad 9 0), .ref (ad 10 0), .int v0, .int x0] : List Value).toArray below meth c H locs 0 0 (MQ below (muQ D (some (.int R.1)) (wXW q ad xx) (wXW q ad R.2)) ([.ref (ad 9 0), .ref (ad 10 0), .int v0, .int x0] : List Value).toArray s 0 0 (wAt (wXW q ad xx))) (F0 m 297 ls []) := by
                      intro n_297
                      induction n_297 with
                      | zero =>
                        intro xx_297 x15_297 x14_297 H locs hn_297 hrg_297 hk_297 hR hP hD hS ls hl
                        rw [mL_does_297] at hR
                        refine lv_iload hx hb dL_does_297 (lv_at hl 0 rfl) ?_
                        refine lv_iload hx hb dL_does_299 (lv_at hl 3 rfl) ?_
                        refine lv_icmp_gt (tgt := 335) hx hb dL_does_301 (by decide) (fun c_34 => ?_) (fun c_34 => (tq0 hn_297 c_34).elim)
                        refine lv_aload_n hx hb dL_does_335 rfl (lv_at hl 12 rfl) ?_
                        refine lv_iload hx hb dL_does_336 (lv_at hl 4 rfl) ?_
                        refine lv_iload hx hb dL_does_338 (lv_at hl 3 rfl) ?_
                        refine lv_iload hx hb dL_does_340 (lv_at hl 2 rfl) ?_
                        obtain ⟨q_35, eq_35⟩ : ∃ z, z = (mX5_wind xx_297 r_29 e_32 r_33) := ⟨_, rfl⟩
                        have hM := MX5_wind l D q ad xx_297 r_29 e_32 r_33 hrg_297
                        rw [← eq_35] at hM
                        replace hR := lt_e hR eq_35
                        refine mu_V (D := D) (ws := (wXW q ad xx_297)) (ws' := (wXW q ad (setV q_35.2 10 (xx_297 10)))) (rest := []) (As := [.int r_29, .int e_32, .int r_33]) hx hb hml hown hts hl hM gL_does_X5_wind rfl kX5_wind ⟨Nat.le_of_ble_eq_true rfl, Nat.le_of_ble_eq_true rfl⟩ rfl rfl hP hD hS hG [0, 1, 2, 3, 4, 5, 6, 7, 8, 9, 10, 11, 12, 13, 14, 15, 16, 17, 18, 19, 20, 21, 22, 23, 24, 25, 26, 27, 28, 29, 30, 31, 32, 33, 34, 35, 36, 37, 38, 39, 40, 41, 42, 43, 44, 45, 46, 47, 48, 49, 50, 51, 52, 53, 54, 55, 56, 57, 58, 59, 60, 61, 62, 63, 64, 65, 66, 67, 68, 69, 70, 71, 72, 73, 74] rfl rfl (by decide) [76, 77, 78, 79, 80, 81, 82, 83, 84, 85, 86, 87, 88, 89, 90, 91, 92, 93, 94, 95, 96, 97, 98, 99, 100, 101, 102, 103, 104, 105, 106, 107, 108, 109, 110, 111, 112, 113, 114, 115, 116, 117, 118, 119, 120, 121, 122, 123, 124, 125, 126, 127, 128, 129, 130, 131, 132, 133, 134, 135, 136, 137, 138, 139, 140, 141, 142, 143, 144, 145, 146, 147, 148, 149, 150, 75] rfl (by decide) rfl (ci := 3) rfl rfl rfl rfl (Nat.le_of_ble_eq_true rfl) dL_does_342 ⟨Nat.zero_le _, Nat.zero_le _⟩ (fun H locs hP hD hS => ?_)
                        obtain ⟨xx_36, exx_36⟩ : ∃ z, z = (setV q_35.2 10 (xx_297 10)) := ⟨_, rfl⟩
                        rw [← exx_36] at hP hD
                        replace hR := lt_e hR exx_36
                        refine lv_iload hx hb dL_does_345 (lv_at hl 1 rfl) ?_
                        refine jn_1 hR (fun F_357_37 eF_357_37 hR => ?_)
                        have key_357_37 : ∀ (y357_s0_37 : Int32), lt y357_s0_37 F_357_37 = R → ∀ ls : Array Slot, lv_has ls 18 [(15, .int x15_297), (14, .int x14_297), (13, .int r_33), (12, .int e_32), (11, .int r_29), (10, .int y96_s0_8), (9, .int y76_s0_7), (8, .int r_6), (7, .int y47_s0_5), (6, .int r_3), (5, .int r_2), (4, .int r_1), (0, .ref (ad 9 0)), (1, .ref (ad 10 0)), (2, .int v0), (3, .int x0)] → W p l e ({ frames := 8, cells := 0, slots := 0, locals := 202 } : Room) s m ([.ref (ad 9 0), .ref (ad 10 0), .int v0, .int x0] : List Value).toArray below meth c H locs 0 0 (MQ below (muQ D (some (.int R.1)) (wXW q ad xx) (wXW q ad R.2)) ([.ref (ad 9 0), .ref (ad 10 0), .int v0, .int x0] : List Value).toArray s 0 0 (wAt (wXW q ad xx))) (F0 m 357 ls [.int y357_s0_37, .int q_35.1]) := by
                          intro y357_s0_37 hR ls hl
                          rw [eF_357_37] at hR
                          replace hR := jn_e1 hR
                          refine lv_icmp_ne (tgt := 364) hx hb dL_does_357 (by decide) (fun c_38 => ?_) (fun c_38 => ?_)
                          · rw [if_neg c_38] at hR
                            have tc_38 : ¬ q_35.1.toInt = y357_s0_37.toInt := fun z => c_38 (i_eq.mpr z)
                            refine lv_iconst (v := 0) hx hb dL_does_364 (by decide) ?_
                            have h01 : (0 : Int32) = 0 ∨ (0 : Int32) = 1 := (Or.inl rfl)
                            subst hR
                            exact mu_zret hx hb hr hk h01 hA hS hP rfl dL_does_365
                          · rw [if_pos c_38] at hR
                            have tc_38 : q_35.1.toInt = y357_s0_37.toInt := i_eq.mp c_38
                            refine lv_iconst (v := 1) hx hb dL_does_360 (by decide) ?_
                            refine lv_goto (tgt := 365) hx hb dL_does_361 (by decide) ?_
                            have h01 : (1 : Int32) = 0 ∨ (1 : Int32) = 1 := (Or.inr rfl)
                            subst hR
                            exact mu_zret hx hb hr hk h01 hA hS hP rfl dL_does_365
                        refine lv_if_ne (tgt := 355) hx hb dL_does_347 (by decide) (fun c_39 => ?_) (fun c_39 => ?_)
                        · rw [if_neg c_39] at hR
                          have tc_39 : ¬ x14_297.toInt = 0 := fun z => c_39 (i_eq.mpr z)
                          refine lv_iload hx hb dL_does_355 (lv_at hl 1 rfl) ?_
                          exact key_357_37 x14_297 hR ls (lv_sub hl [0, 1, 2, 3, 4, 5, 6, 7, 8, 9, 10, 11, 12, 13, 14, 15] rfl)
                        · rw [if_pos c_39] at hR
                          have tc_39 : x14_297.toInt = 0 := i_eq.mp c_39
                          refine lv_bipush (v := (-5)) hx hb dL_does_350 (by decide) ?_
                          refine lv_goto (tgt := 357) hx hb dL_does_352 (by decide) ?_
                          exact key_357_37 (-5) hR ls (lv_sub hl [0, 1, 2, 3, 4, 5, 6, 7, 8, 9, 10, 11, 12, 13, 14, 15] rfl)
                      | succ n_297 ih_297 =>
                        intro xx_297 x15_297 x14_297 H locs hn_297 hrg_297 hk_297 hR hP hD hS ls hl
                        rw [mL_does_297] at hR
                        refine lv_iload hx hb dL_does_297 (lv_at hl 0 rfl) ?_
                        refine lv_iload hx hb dL_does_299 (lv_at hl 3 rfl) ?_
                        refine lv_icmp_gt (tgt := 335) hx hb dL_does_301 (by decide) (fun c_34 => (tqS hn_297 c_34).elim) (fun c_34 => ?_)
                        have hle_c_34 := kq_le c_34
                        refine lv_iload hx hb dL_does_304 (lv_at hl 1 rfl) ?_
                        refine lv_aload_n hx hb dL_does_306 rfl (lv_at hl 13 rfl) ?_
                        refine lv_iload hx hb dL_does_307 (lv_at hl 0 rfl) ?_
                        refine va_iald hx hb hG.1 hP 75 0 rfl rfl (ix_t (i := x15_297) (x := (x15_297).toInt) (n := 24) rfl (by omega)) dL_does_309 ?_
                        refine lv_iload hx hb dL_does_310 (lv_at hl 2 rfl) ?_
                        refine jn_1 hR (fun F_320_40 eF_320_40 hR => ?_)
                        have key_320_40 : ∀ (y320_s0_40 : Int32), lt y320_s0_40 F_320_40 = R → ∀ ls : Array Slot, lv_has ls 18 [(15, .int x15_297), (14, .int x14_297), (13, .int r_33), (12, .int e_32), (11, .int r_29), (10, .int y96_s0_8), (9, .int y76_s0_7), (8, .int r_6), (7, .int y47_s0_5), (6, .int r_3), (5, .int r_2), (4, .int r_1), (0, .ref (ad 9 0)), (1, .ref (ad 10 0)), (2, .int v0), (3, .int x0)] → W p l e ({ frames := 8, cells := 0, slots := 0, locals := 202 } : Room) s m ([.ref (ad 9 0), .ref (ad 10 0), .int v0, .int x0] : List Value).toArray below meth c H locs 0 0 (MQ below (muQ D (some (.int R.1)) (wXW q ad xx) (wXW q ad R.2)) ([.ref (ad 9 0), .ref (ad 10 0), .int v0, .int x0] : List Value).toArray s 0 0 (wAt (wXW q ad xx))) (F0 m 320 ls [.int y320_s0_40, .int x14_297]) := by
                          intro y320_s0_40 hR ls hl
                          rw [eF_320_40] at hR
                          replace hR := jn_e1 hR
                          refine lv_iadd hx hb dL_does_320 ?_
                          obtain ⟨e_41, ee_41⟩ : ∃ z, z = (x14_297 + y320_s0_40) := ⟨_, rfl⟩
                          rw [← ee_41]
                          replace hR := lt_e hR ee_41
                          refine lv_istore (lv' := [(14, .int e_41), (15, .int x15_297), (13, .int r_33), (12, .int e_32), (11, .int r_29), (10, .int y96_s0_8), (9, .int y76_s0_7), (8, .int r_6), (7, .int y47_s0_5), (6, .int r_3), (5, .int r_2), (4, .int r_1), (0, .ref (ad 9 0)), (1, .ref (ad 10 0)), (2, .int v0), (3, .int x0)]) hx hb dL_does_321 hl (by decide) rfl (fun ls hl => ?_)
                          refine lv_aload_n hx hb dL_does_323 rfl (lv_at hl 13 rfl) ?_
                          refine lv_iload hx hb dL_does_324 (lv_at hl 1 rfl) ?_
                          refine lv_iload hx hb dL_does_326 (lv_at hl 2 rfl) ?_
                          refine va_iast hx hb hG.1 hP hD hS 75 0 rfl rfl (ix_t (i := x15_297) (x := (x15_297).toInt) (n := 24) rfl (by omega)) dL_does_328 (fun H locs hP hD hS => ?_)
                          have hP : va_P D vwCl (wXW q ad (setV xx_297 10 (setA (xx_297 10) 0 (upd (xx_297 10 0) (x15_297 : Int32).toNatClampNeg r_33)))) H := hP
                          have hD : va_D A (wXW q ad (setV xx_297 10 (setA (xx_297 10) 0 (upd (xx_297 10 0) (x15_297 : Int32).toNatClampNeg r_33)))) := hD
                          obtain ⟨xx_42, exx_42⟩ : ∃ z, z = (setV xx_297 10 (setA (xx_297 10) 0 (upd (xx_297 10 0) (x15_297 : Int32).toNatClampNeg r_33))) := ⟨_, rfl⟩
                          rw [← exx_42] at hP hD
                          replace hR := lt_e hR exx_42
                          refine lv_iinc (v := (x15_297 + 1)) (lv' := [(15, .int (x15_297 + 1)), (14, .int e_41), (13, .int r_33), (12, .int e_32), (11, .int r_29), (10, .int y96_s0_8), (9, .int y76_s0_7), (8, .int r_6), (7, .int y47_s0_5), (6, .int r_3), (5, .int r_2), (4, .int r_1), (0, .ref (ad 9 0)), (1, .ref (ad 10 0)), (2, .int v0), (3, .int x0)]) hx hb dL_does_329 hl (k := 1) rfl rfl (by decide) rfl (fun ls hl => ?_)
                          refine lv_goto (tgt := 297) hx hb dL_does_332 (by decide) ?_
                          exact ih_297 xx_42 (x15_297 + 1) e_41 _ _ (tqN hn_297 (by omega)) (by rw [exx_42]; exact hrg_297) (by rw [kq_up c_34 (by omega)]; omega) hR hP hD hS ls (lv_sub hl [0, 1, 2, 3, 4, 5, 6, 7, 8, 9, 10, 11, 12, 13, 14, 15] rfl)
                        refine lv_icmp_ne (tgt := 319) hx hb dL_does_312 (by decide) (fun c_43 => ?_) (fun c_43 => ?_)
                        · rw [if_neg c_43] at hR
                          have tc_43 : ¬ ((xx_297 10 0) (x15_297).toNatClampNeg).toInt = r_33.toInt := fun z => c_43 (i_eq.mpr z)
                          refine lv_iconst (v := 1) hx hb dL_does_319 (by decide) ?_
                          exact key_320_40 1 hR ls (lv_sub hl [0, 1, 2, 3, 4, 5, 6, 7, 8, 9, 10, 11, 12, 13, 14, 15] rfl)
                        · rw [if_pos c_43] at hR
                          have tc_43 : ((xx_297 10 0) (x15_297).toNatClampNeg).toInt = r_33.toInt := i_eq.mp c_43
                          refine lv_iconst (v := 0) hx hb dL_does_315 (by decide) ?_
                          refine lv_goto (tgt := 320) hx hb dL_does_316 (by decide) ?_
                          exact key_320_40 0 hR ls (lv_sub hl [0, 1, 2, 3, 4, 5, 6, 7, 8, 9, 10, 11, 12, 13, 14, 15] rfl)
                    exact key_297 _ xx r_29 0 _ _ rfl hrg (by omega) hR hP hD hS ls hl
                  · rw [if_neg c_28] at hR
                    by_cases c_44 : r_9 = 6
                    · rw [if_pos c_44] at hR
                      have tc_44 : r_9.toInt = 6 := i_eq.mp c_44
                      refine lv_tableIn (off := 151) (tgt := 255) hx hb dL_does_104 (by rw [c_44]; decide) (by rw [c_44]; decide) (by rw [c_44]; rfl) (by decide) ?_
                      refine lv_iload_n hx hb dL_does_255 rfl (lv_at hl 10 rfl) ?_
                      refine lv_bipush (v := 24) hx hb dL_does_256 (by decide) ?_
                      refine ro_S (v := .int (mL_low x0 24)) (rest := []) (As := [.int x0, .int 24]) hx hb hml hown hts hl (ML_low l D q x0 24 (by decide)) gL_does_L_low rfl kL_low ⟨Nat.le_of_ble_eq_true rfl, Nat.le_of_ble_eq_true rfl⟩ rfl rfl (hP.sub (ws' := []) [] rfl) (dT (hD.sub (ws' := []) [] (by decide) rfl)) hG rfl rfl (Nat.le_of_ble_eq_true rfl) dL_does_258 ⟨Nat.zero_le _, Nat.zero_le _⟩ ?_
                      obtain ⟨r_29, er_29⟩ : ∃ z, z = (mL_low x0 24) := ⟨_, rfl⟩
                      have b0_r_29 := b_low x0 24 (k := 24) rfl (by decide)
                      rw [← er_29] at b0_r_29
                      rw [← er_29]
                      replace hR := lt_e hR er_29
                      refine lv_istore (lv' := [(11, .int r_29), (10, .int y96_s0_8), (9, .int y76_s0_7), (8, .int r_6), (7, .int y47_s0_5), (6, .int r_3), (5, .int r_2), (4, .int r_1), (0, .ref (ad 9 0)), (1, .ref (ad 10 0)), (2, .int v0), (3, .int x0)]) hx hb dL_does_261 hl (by decide) rfl (fun ls hl => ?_)
                      refine lv_iload hx hb dL_does_263 (lv_at hl 0 rfl) ?_
                      refine lv_iload_n hx hb dL_does_265 rfl (lv_at hl 11 rfl) ?_
                      refine lv_iconst (v := 5) hx hb dL_does_266 (by decide) ?_
                      refine lv_ishr hx hb dL_does_267 ?_
                      refine lv_bipush (v := 24) hx hb dL_does_268 (by decide) ?_
                      refine lv_iload hx hb dL_does_270 (lv_at hl 0 rfl) ?_
                      refine lv_isub hx hb dL_does_272 ?_
                      have u_30 : ((24 - r_29)).toInt = (24 - (r_29).toInt) := (ti_sub (show (24 : Int32).toInt = 24 from rfl) rfl (by omega))
                      refine ro_S (v := .int (mL_low (x0 >>> (5 &&& 31)) (24 - r_29))) (rest := [.int r_29]) (As := [.int (x0 >>> (5 &&& 31)), .int (24 - r_29)]) hx hb hml hown hts hl (ML_low l D q (x0 >>> (5 &&& 31)) (24 - r_29) (lw_ne (k := (24 - (r_29).toInt)) (ti_sub (show (24 : Int32).toInt = 24 from rfl) rfl (by omega)) (by omega))) gL_does_L_low rfl kL_low ⟨Nat.le_of_ble_eq_true rfl, Nat.le_of_ble_eq_true rfl⟩ rfl rfl (hP.sub (ws' := []) [] rfl) (dT (hD.sub (ws' := []) [] (by decide) rfl)) hG rfl rfl (Nat.le_of_ble_eq_true rfl) dL_does_273 ⟨Nat.zero_le _, Nat.zero_le _⟩ ?_
                      obtain ⟨r_31, er_31⟩ : ∃ z, z = (mL_low (x0 >>> (5 &&& 31)) (24 - r_29)) := ⟨_, rfl⟩
                      have b0_r_31 := b_low (x0 >>> (5 &&& 31)) (24 - r_29) (k := (24 - (r_29).toInt)) (ti_sub (show (24 : Int32).toInt = 24 from rfl) rfl (by omega)) (by omega)
                      rw [← er_31] at b0_r_31
                      rw [← er_31]
                      replace hR := lt_e hR er_31
                      refine lv_iadd hx hb dL_does_276 ?_
                      obtain ⟨e_32, ee_32⟩ : ∃ z, z = (r_29 + r_31) := ⟨_, rfl⟩
                      rw [← ee_32]
                      replace hR := lt_e hR ee_32
                      have ue_32 : e_32.toInt = ((r_29).toInt + (r_31).toInt) := by rw [ee_32]; exact (ti_add rfl rfl (by omega))
                      refine lv_istore (lv' := [(12, .int e_32), (11, .int r_29), (10, .int y96_s0_8), (9, .int y76_s0_7), (8, .int r_6), (7, .int y47_s0_5), (6, .int r_3), (5, .int r_2), (4, .int r_1), (0, .ref (ad 9 0)), (1, .ref (ad 10 0)), (2, .int v0), (3, .int x0)]) hx hb dL_does_277 hl (by decide) rfl (fun ls hl => ?_)
                      refine lv_iload_n hx hb dL_does_279 rfl (lv_at hl 12 rfl) ?_
                      refine lv_bipush (v := 10) hx hb dL_does_280 (by decide) ?_
                      refine lv_ishr hx hb dL_does_282 ?_
                      refine lv_bipush (v := 10) hx hb dL_does_283 (by decide) ?_
                      refine ro_S (v := .int (mL_low (x0 >>> (10 &&& 31)) 10)) (rest := []) (As := [.int (x0 >>> (10 &&& 31)), .int 10]) hx hb hml hown hts hl (ML_low l D q (x0 >>> (10 &&& 31)) 10 (by decide)) gL_does_L_low rfl kL_low ⟨Nat.le_of_ble_eq_true rfl, Nat.le_of_ble_eq_true rfl⟩ rfl rfl (hP.sub (ws' := []) [] rfl) (dT (hD.sub (ws' := []) [] (by decide) rfl)) hG rfl rfl (Nat.le_of_ble_eq_true rfl) dL_does_285 ⟨Nat.zero_le _, Nat.zero_le _⟩ ?_
                      obtain ⟨r_33, er_33⟩ : ∃ z, z = (mL_low (x0 >>> (10 &&& 31)) 10) := ⟨_, rfl⟩
                      have b0_r_33 := b_low (x0 >>> (10 &&& 31)) 10 (k := 10) rfl (by decide)
                      rw [← er_33] at b0_r_33
                      rw [← er_33]
                      replace hR := lt_e hR er_33
                      refine lv_istore (lv' := [(13, .int r_33), (12, .int e_32), (11, .int r_29), (10, .int y96_s0_8), (9, .int y76_s0_7), (8, .int r_6), (7, .int y47_s0_5), (6, .int r_3), (5, .int r_2), (4, .int r_1), (0, .ref (ad 9 0)), (1, .ref (ad 10 0)), (2, .int v0), (3, .int x0)]) hx hb dL_does_288 hl (by decide) rfl (fun ls hl => ?_)
                      refine lv_iconst (v := 0) hx hb dL_does_290 (by decide) ?_
                      refine lv_istore (lv' := [(14, .int 0), (13, .int r_33), (12, .int e_32), (11, .int r_29), (10, .int y96_s0_8), (9, .int y76_s0_7), (8, .int r_6), (7, .int y47_s0_5), (6, .int r_3), (5, .int r_2), (4, .int r_1), (0, .ref (ad 9 0)), (1, .ref (ad 10 0)), (2, .int v0), (3, .int x0)]) hx hb dL_does_291 hl (by decide) rfl (fun ls hl => ?_)
                      refine lv_iload hx hb dL_does_293 (lv_at hl 3 rfl) ?_
                      refine lv_istore (lv' := [(15, .int r_29), (14, .int 0), (13, .int r_33), (12, .int e_32), (11, .int r_29), (10, .int y96_s0_8), (9, .int y76_s0_7), (8, .int r_6), (7, .int y47_s0_5), (6, .int r_3), (5, .int r_2), (4, .int r_1), (0, .ref (ad 9 0)), (1, .ref (ad 10 0)), (2, .int v0), (3, .int x0)]) hx hb dL_does_295 hl (by decide) rfl (fun ls hl => ?_)
                      have key_297 : ∀ (n_297 : Nat) (xx_297 : Nat → Nat → Nat → Int32) (x15_297 : Int32) (x14_297 : Int32) (H : Heap) (locs : List Loc) , tq x15_297 e_32 = n_297 → rgOk xx_297 → 0 ≤ x15_297.toInt → mL_does_297 r_33 (fun xx_297 x15_297 x14_297 => (lt (mX5_wind xx_297 r_29 e_32 r_33) (fun q_35 => (lt (setV q_35.2 10 (xx_297 10)) (fun xx_36 => (lt ((if x14_297 = 0 then (-5) else x14_297) : Int32) (fun y357_s0_37 => (if q_35.1 = y357_s0_37 then (1, xx_36) else (0, xx_36))))))))) n_297 xx_297 x15_297 x14_297 = R → va_P D vwCl (wXW q ad xx_297) H → va_D A (wXW q ad xx_297) → va_S A s.heap H locs → ∀ ls : Array Slot, lv_has ls 18 [(15, .int x15_297), (14, .int x14_297), (13, .int r_33), (12, .int e_32), (11, .int r_29), (10, .int y96_s0_8), (9, .int y76_s0_7), (8, .int r_6), (7, .int y47_s0_5), (6, .int r_3), (5, .int r_2), (4, .int r_1), (0, .ref (ad 9 0)), (1, .ref (ad 10 0)), (2, .int v0), (3, .int x0)] → W p l e ({ frames := 8, cells := 0, slots := 0, locals := 202 } : Room) s m ([.ref (ad 9 0), .ref (ad 10 0), .int v0, .int x0] : List Value).toArray below meth c H locs 0 0 (MQ below (muQ D (some (.int R.1)) (wXW q ad xx) (wXW q ad R.2)) ([.ref (ad 9 0), .ref (ad 10 0), .int v0, .int x0] : List Value).toArray s 0 0 (wAt (wXW q ad xx))) (F0 m 297 ls []) := by
                        intro n_297
                        induction n_297 with
                        | zero =>
                          intro xx_297 x15_297 x14_297 H locs hn_297 hrg_297 hk_297 hR hP hD hS ls hl
                          rw [mL_does_297] at hR
                          refine lv_iload hx hb dL_does_297 (lv_at hl 0 rfl) ?_
                          refine lv_iload hx hb dL_does_299 (lv_at hl 3 rfl) ?_
                          refine lv_icmp_gt (tgt := 335) hx hb dL_does_301 (by decide) (fun c_34 => ?_) (fun c_34 => (tq0 hn_297 c_34).elim)
                          refine lv_aload_n hx hb dL_does_335 rfl (lv_at hl 12 rfl) ?_
                          refine lv_iload hx hb dL_does_336 (lv_at hl 4 rfl) ?_
                          refine lv_iload hx hb dL_does_338 (lv_at hl 3 rfl) ?_
                          refine lv_iload hx hb dL_does_340 (lv_at hl 2 rfl) ?_
                          obtain ⟨q_35, eq_35⟩ : ∃ z, z = (mX5_wind xx_297 r_29 e_32 r_33) := ⟨_, rfl⟩
                          have hM := MX5_wind l D q ad xx_297 r_29 e_32 r_33 hrg_297
                          rw [← eq_35] at hM
                          replace hR := lt_e hR eq_35
                          refine mu_V (D := D) (ws := (wXW q ad xx_297)) (ws' := (wXW q ad (setV q_35.2 10 (xx_297 10)))) (rest := []) (As := [.int r_29, .int e_32, .int r_33]) hx hb hml hown hts hl hM gL_does_X5_wind rfl kX5_wind ⟨Nat.le_of_ble_eq_true rfl, Nat.le_of_ble_eq_true rfl⟩ rfl rfl hP hD hS hG [0, 1, 2, 3, 4, 5, 6, 7, 8, 9, 10, 11, 12, 13, 14, 15, 16, 17, 18, 19, 20, 21, 22, 23, 24, 25, 26, 27, 28, 29, 30, 31, 32, 33, 34, 35, 36, 37, 38, 39, 40, 41, 42, 43, 44, 45, 46, 47, 48, 49, 50, 51, 52, 53, 54, 55, 56, 57, 58, 59, 60, 61, 62, 63, 64, 65, 66, 67, 68, 69, 70, 71, 72, 73, 74] rfl rfl (by decide) [76, 77, 78, 79, 80, 81, 82, 83, 84, 85, 86, 87, 88, 89, 90, 91, 92, 93, 94, 95, 96, 97, 98, 99, 100, 101, 102, 103, 104, 105, 106, 107, 108, 109, 110, 111, 112, 113, 114, 115, 116, 117, 118, 119, 120, 121, 122, 123, 124, 125, 126, 127, 128, 129, 130, 131, 132, 133, 134, 135, 136, 137, 138, 139, 140, 141, 142, 143, 144, 145, 146, 147, 148, 149, 150, 75] rfl (by decide) rfl (ci := 3) rfl rfl rfl rfl (Nat.le_of_ble_eq_true rfl) dL_does_342 ⟨Nat.zero_le _, Nat.zero_le _⟩ (fun H locs hP hD hS => ?_)
                          obtain ⟨xx_36, exx_36⟩ : ∃ z, z = (setV q_35.2 10 (xx_297 10)) := ⟨_, rfl⟩
                          rw [← exx_36] at hP hD
                          replace hR := lt_e hR exx_36
                          refine lv_iload hx hb dL_does_345 (lv_at hl 1 rfl) ?_
                          refine jn_1 hR (fun F_357_37 eF_357_37 hR => ?_)
                          have key_357_37 : ∀ (y357_s0_37 : Int32), lt y357_s0_37 F_357_37 = R → ∀ ls : Array Slot, lv_has ls 18 [(15, .int x15_297), (14, .int x14_297), (13, .int r_33), (12, .int e_32), (11, .int r_29), (10, .int y96_s0_8), (9, .int y76_s0_7), (8, .int r_6), (7, .int y47_s0_5), (6, .int r_3), (5, .int r_2), (4, .int r_1), (0, .ref (ad 9 0)), (1, .ref (ad 10 0)), (2, .int v0), (3, .int x0)] → W p l e ({ frames := 8, cells := 0, slots := 0, locals := 202 } : Room) s m ([.ref (ad 9 0), .ref (ad 10 0), .int v0, .int x0] : List Value).toArray below meth c H locs 0 0 (MQ below (muQ D (some (.int R.1)) (wXW q ad xx) (wXW q ad R.2)) ([.ref (ad 9 0), .ref (ad 10 0), .int v0, .int x0] : List Value).toArray s 0 0 (wAt (wXW q ad xx))) (F0 m 357 ls [.int y357_s0_37, .int q_35.1]) := by
                            intro y357_s0_37 hR ls hl
                            rw [eF_357_37] at hR
                            replace hR := jn_e1 hR
                            refine lv_icmp_ne (tgt := 364) hx hb dL_does_357 (by decide) (fun c_38 => ?_) (fun c_38 => ?_)
                            · rw [if_neg c_38] at hR
                              have tc_38 : ¬ q_35.1.toInt = y357_s0_37.toInt := fun z => c_38 (i_eq.mpr z)
                              refine lv_iconst (v := 0) hx hb dL_does_364 (by decide) ?_
                              have h01 : (0 : Int32) = 0 ∨ (0 : Int32) = 1 := (Or.inl rfl)
                              subst hR
                              exact mu_zret hx hb hr hk h01 hA hS hP rfl dL_does_365
                            · rw [if_pos c_38] at hR
                              have tc_38 : q_35.1.toInt = y357_s0_37.toInt := i_eq.mp c_38
                              refine lv_iconst (v := 1) hx hb dL_does_360 (by decide) ?_
                              refine lv_goto (tgt := 365) hx hb dL_does_361 (by decide) ?_
                              have h01 : (1 : Int32) = 0 ∨ (1 : Int32) = 1 := (Or.inr rfl)
                              subst hR
                              exact mu_zret hx hb hr hk h01 hA hS hP rfl dL_does_365
                          refine lv_if_ne (tgt := 355) hx hb dL_does_347 (by decide) (fun c_39 => ?_) (fun c_39 => ?_)
                          · rw [if_neg c_39] at hR
                            have tc_39 : ¬ x14_297.toInt = 0 := fun z => c_39 (i_eq.mpr z)
                            refine lv_iload hx hb dL_does_355 (lv_at hl 1 rfl) ?_
                            exact key_357_37 x14_297 hR ls (lv_sub hl [0, 1, 2, 3, 4, 5, 6, 7, 8, 9, 10, 11, 12, 13, 14, 15] rfl)
                          · rw [if_pos c_39] at hR
                            have tc_39 : x14_297.toInt = 0 := i_eq.mp c_39
                            refine lv_bipush (v := (-5)) hx hb dL_does_350 (by decide) ?_
                            refine lv_goto (tgt := 357) hx hb dL_does_352 (by decide) ?_
                            exact key_357_37 (-5) hR ls (lv_sub hl [0, 1, 2, 3, 4, 5, 6, 7, 8, 9, 10, 11, 12, 13, 14, 15] rfl)
                        | succ n_297 ih_297 =>
                          intro xx_297 x15_297 x14_297 H locs hn_297 hrg_297 hk_297 hR hP hD hS ls hl
                          rw [mL_does_297] at hR
                          refine lv_iload hx hb dL_does_297 (lv_at hl 0 rfl) ?_
                          refine lv_iload hx hb dL_does_299 (lv_at hl 3 rfl) ?_
                          refine lv_icmp_gt (tgt := 335) hx hb dL_does_301 (by decide) (fun c_34 => (tqS hn_297 c_34).elim) (fun c_34 => ?_)
                          have hle_c_34 := kq_le c_34
                          refine lv_iload hx hb dL_does_304 (lv_at hl 1 rfl) ?_
                          refine lv_aload_n hx hb dL_does_306 rfl (lv_at hl 13 rfl) ?_
                          refine lv_iload hx hb dL_does_307 (lv_at hl 0 rfl) ?_
                          refine va_iald hx hb hG.1 hP 75 0 rfl rfl (ix_t (i := x15_297) (x := (x15_297).toInt) (n := 24) rfl (by omega)) dL_does_309 ?_
                          refine lv_iload hx hb dL_does_310 (lv_at hl 2 rfl) ?_
                          refine jn_1 hR (fun F_320_40 eF_320_40 hR => ?_)
                          have key_320_40 : ∀ (y320_s0_40 : Int32), lt y320_s0_40 F_320_40 = R → ∀ ls : Array Slot, lv_has ls 18 [(15, .int x15_297), (14, .int x14_297), (13, .int r_33), (12, .int e_32), (11, .int r_29), (10, .int y96_s0_8), (9, .int y76_s0_7), (8, .int r_6), (7, .int y47_s0_5), (6, .int r_3), (5, .int r_2), (4, .int r_1), (0, .ref (ad 9 0)), (1, .ref (ad 10 0)), (2, .int v0), (3, .int x0)] → W p l e ({ frames := 8, cells := 0, slots := 0, locals := 202 } : Room) s m ([.ref (ad 9 0), .ref (ad 10 0), .int v0, .int x0] : List Value).toArray below meth c H locs 0 0 (MQ below (muQ D (some (.int R.1)) (wXW q ad xx) (wXW q ad R.2)) ([.ref (ad 9 0), .ref (ad 10 0), .int v0, .int x0] : List Value).toArray s 0 0 (wAt (wXW q ad xx))) (F0 m 320 ls [.int y320_s0_40, .int x14_297]) := by
                            intro y320_s0_40 hR ls hl
                            rw [eF_320_40] at hR
                            replace hR := jn_e1 hR
                            refine lv_iadd hx hb dL_does_320 ?_
                            obtain ⟨e_41, ee_41⟩ : ∃ z, z = (x14_297 + y320_s0_40) := ⟨_, rfl⟩
                            rw [← ee_41]
                            replace hR := lt_e hR ee_41
                            refine lv_istore (lv' := [(14, .int e_41), (15, .int x15_297), (13, .int r_33), (12, .int e_32), (11, .int r_29), (10, .int y96_s0_8), (9, .int y76_s0_7), (8, .int r_6), (7, .int y47_s0_5), (6, .int r_3), (5, .int r_2), (4, .int r_1), (0, .ref (ad 9 0)), (1, .ref (ad 10 0)), (2, .int v0), (3, .int x0)]) hx hb dL_does_321 hl (by decide) rfl (fun ls hl => ?_)
                            refine lv_aload_n hx hb dL_does_323 rfl (lv_at hl 13 rfl) ?_
                            refine lv_iload hx hb dL_does_324 (lv_at hl 1 rfl) ?_
                            refine lv_iload hx hb dL_does_326 (lv_at hl 2 rfl) ?_
                            refine va_iast hx hb hG.1 hP hD hS 75 0 rfl rfl (ix_t (i := x15_297) (x := (x15_297).toInt) (n := 24) rfl (by omega)) dL_does_328 (fun H locs hP hD hS => ?_)
                            have hP : va_P D vwCl (wXW q ad (setV xx_297 10 (setA (xx_297 10) 0 (upd (xx_297 10 0) (x15_297 : Int32).toNatClampNeg r_33)))) H := hP
                            have hD : va_D A (wXW q ad (setV xx_297 10 (setA (xx_297 10) 0 (upd (xx_297 10 0) (x15_297 : Int32).toNatClampNeg r_33)))) := hD
                            obtain ⟨xx_42, exx_42⟩ : ∃ z, z = (setV xx_297 10 (setA (xx_297 10) 0 (upd (xx_297 10 0) (x15_297 : Int32).toNatClampNeg r_33))) := ⟨_, rfl⟩
                            rw [← exx_42] at hP hD
                            replace hR := lt_e hR exx_42
                            refine lv_iinc (v := (x15_297 + 1)) (lv' := [(15, .int (x15_297 + 1)), (14, .int e_41), (13, .int r_33), (12, .int e_32), (11, .int r_29), (10, .int y96_s0_8), (9, .int y76_s0_7), (8, .int r_6), (7, .int y47_s0_5), (6, .int r_3), (5, .int r_2), (4, .int r_1), (0, .ref (ad 9 0)), (1, .ref (ad 10 0)), (2, .int v0), (3, .int x0)]) hx hb dL_does_329 hl (k := 1) rfl rfl (by decide) rfl (fun ls hl => ?_)
                            refine lv_goto (tgt := 297) hx hb dL_does_332 (by decide) ?_
                            exact ih_297 xx_42 (x15_297 + 1) e_41 _ _ (tqN hn_297 (by omega)) (by rw [exx_42]; exact hrg_297) (by rw [kq_up c_34 (by omega)]; omega) hR hP hD hS ls (lv_sub hl [0, 1, 2, 3, 4, 5, 6, 7, 8, 9, 10, 11, 12, 13, 14, 15] rfl)
                          refine lv_icmp_ne (tgt := 319) hx hb dL_does_312 (by decide) (fun c_43 => ?_) (fun c_43 => ?_)
                          · rw [if_neg c_43] at hR
                            have tc_43 : ¬ ((xx_297 10 0) (x15_297).toNatClampNeg).toInt = r_33.toInt := fun z => c_43 (i_eq.mpr z)
                            refine lv_iconst (v := 1) hx hb dL_does_319 (by decide) ?_
                            exact key_320_40 1 hR ls (lv_sub hl [0, 1, 2, 3, 4, 5, 6, 7, 8, 9, 10, 11, 12, 13, 14, 15] rfl)
                          · rw [if_pos c_43] at hR
                            have tc_43 : ((xx_297 10 0) (x15_297).toNatClampNeg).toInt = r_33.toInt := i_eq.mp c_43
                            refine lv_iconst (v := 0) hx hb dL_does_315 (by decide) ?_
                            refine lv_goto (tgt := 320) hx hb dL_does_316 (by decide) ?_
                            exact key_320_40 0 hR ls (lv_sub hl [0, 1, 2, 3, 4, 5, 6, 7, 8, 9, 10, 11, 12, 13, 14, 15] rfl)
                      exact key_297 _ xx r_29 0 _ _ rfl hrg (by omega) hR hP hD hS ls hl
                    · rw [if_neg c_44] at hR
                      by_cases c_45 : r_9 = 7
                      · rw [if_pos c_45] at hR
                        have tc_45 : r_9.toInt = 7 := i_eq.mp c_45
                        refine lv_tableIn (off := 262) (tgt := 366) hx hb dL_does_104 (by rw [c_45]; decide) (by rw [c_45]; decide) (by rw [c_45]; rfl) (by decide) ?_
                        refine lv_iload_n hx hb dL_does_366 rfl (lv_at hl 9 rfl) ?_
                        refine lv_iconst (v := 5) hx hb dL_does_367 (by decide) ?_
                        refine lv_ishr hx hb dL_does_368 ?_
                        refine lv_iconst (v := 4) hx hb dL_does_369 (by decide) ?_
                        refine ro_S (v := .int (mL_low (v0 >>> (5 &&& 31)) 4)) (rest := []) (As := [.int (v0 >>> (5 &&& 31)), .int 4]) hx hb hml hown hts hl (ML_low l D q (v0 >>> (5 &&& 31)) 4 (by decide)) gL_does_L_low rfl kL_low ⟨Nat.le_of_ble_eq_true rfl, Nat.le_of_ble_eq_true rfl⟩ rfl rfl (hP.sub (ws' := []) [] rfl) (dT (hD.sub (ws' := []) [] (by decide) rfl)) hG rfl rfl (Nat.le_of_ble_eq_true rfl) dL_does_370 ⟨Nat.zero_le _, Nat.zero_le _⟩ ?_
                        obtain ⟨r_46, er_46⟩ : ∃ z, z = (mL_low (v0 >>> (5 &&& 31)) 4) := ⟨_, rfl⟩
                        have b0_r_46 := b_low (v0 >>> (5 &&& 31)) 4 (k := 4) rfl (by decide)
                        rw [← er_46] at b0_r_46
                        rw [← er_46]
                        replace hR := lt_e hR er_46
                        refine lv_istore (lv' := [(15, .int r_46), (10, .int y96_s0_8), (9, .int y76_s0_7), (8, .int r_6), (7, .int y47_s0_5), (6, .int r_3), (5, .int r_2), (4, .int r_1), (0, .ref (ad 9 0)), (1, .ref (ad 10 0)), (2, .int v0), (3, .int x0)]) hx hb dL_does_373 hl (by decide) rfl (fun ls hl => ?_)
                        refine lv_iload hx hb dL_does_375 (lv_at hl 0 rfl) ?_
                        refine lv_iconst (v := 2) hx hb dL_does_377 (by decide) ?_
                        refine jn_1 hR (fun F_412_47 eF_412_47 hR => ?_)
                        have key_412_47 : ∀ (y412_s0_47 : Int32), lt y412_s0_47 F_412_47 = R → ∀ ls : Array Slot, lv_has ls 18 [(15, .int r_46), (10, .int y96_s0_8), (9, .int y76_s0_7), (8, .int r_6), (7, .int y47_s0_5), (6, .int r_3), (5, .int r_2), (4, .int r_1), (0, .ref (ad 9 0)), (1, .ref (ad 10 0)), (2, .int v0), (3, .int x0)] → W p l e ({ frames := 8, cells := 0, slots := 0, locals := 202 } : Room) s m ([.ref (ad 9 0), .ref (ad 10 0), .int v0, .int x0] : List Value).toArray below meth c s.heap [] 0 0 (MQ below (muQ D (some (.int R.1)) (wXW q ad xx) (wXW q ad R.2)) ([.ref (ad 9 0), .ref (ad 10 0), .int v0, .int x0] : List Value).toArray s 0 0 (wAt (wXW q ad xx))) (F0 m 412 ls [.int y412_s0_47]) := by
                          intro y412_s0_47 hR ls hl
                          rw [eF_412_47] at hR
                          replace hR := jn_e1 hR
                          refine lv_istore (lv' := [(16, .int y412_s0_47), (15, .int r_46), (10, .int y96_s0_8), (9, .int y76_s0_7), (8, .int r_6), (7, .int y47_s0_5), (6, .int r_3), (5, .int r_2), (4, .int r_1), (0, .ref (ad 9 0)), (1, .ref (ad 10 0)), (2, .int v0), (3, .int x0)]) hx hb dL_does_412 hl (by decide) rfl (fun ls hl => ?_)
                          refine lv_aload_n hx hb dL_does_414 rfl (lv_at hl 9 rfl) ?_
                          refine lv_bipush (v := 12) hx hb dL_does_415 (by decide) ?_
                          refine lv_iload hx hb dL_does_417 (lv_at hl 1 rfl) ?_
                          refine lv_iadd hx hb dL_does_419 ?_
                          refine ro_V (v := .int (mX5_count xx (12 + r_46))) (rest := []) (As := [.int (12 + r_46)]) hx hb hml hown hts hl (MX5_count l D q ad xx (12 + r_46)) gL_does_X5_count rfl kX5_count ⟨Nat.le_of_ble_eq_true rfl, Nat.le_of_ble_eq_true rfl⟩ rfl rfl (hP.sub (ws' := (wX q ad xx)) [0, 1, 2, 3, 4, 5, 6, 7, 8, 9, 10, 11, 12, 13, 14, 15, 16, 17, 18, 19, 20, 21, 22, 23, 24, 25, 26, 27, 28, 29, 30, 31, 32, 33, 34, 35, 36, 37, 38, 39, 40, 41, 42, 43, 44, 45, 46, 47, 48, 49, 50, 51, 52, 53, 54, 55, 56, 57, 58, 59, 60, 61, 62, 63, 64, 65, 66, 67, 68, 69, 70, 71, 72, 73, 74] rfl) (dT (hD.sub (ws' := (wX q ad xx)) [0, 1, 2, 3, 4, 5, 6, 7, 8, 9, 10, 11, 12, 13, 14, 15, 16, 17, 18, 19, 20, 21, 22, 23, 24, 25, 26, 27, 28, 29, 30, 31, 32, 33, 34, 35, 36, 37, 38, 39, 40, 41, 42, 43, 44, 45, 46, 47, 48, 49, 50, 51, 52, 53, 54, 55, 56, 57, 58, 59, 60, 61, 62, 63, 64, 65, 66, 67, 68, 69, 70, 71, 72, 73, 74] (by decide) rfl)) hG (ci := 3) rfl rfl rfl rfl (Nat.le_of_ble_eq_true rfl) dL_does_420 ⟨Nat.zero_le _, Nat.zero_le _⟩ ?_
                          obtain ⟨r_48, er_48⟩ : ∃ z, z = (mX5_count xx (12 + r_46)) := ⟨_, rfl⟩
                          rw [← er_48]
                          replace hR := lt_e hR er_48
                          refine lv_istore (lv' := [(17, .int r_48), (16, .int y412_s0_47), (15, .int r_46), (10, .int y96_s0_8), (9, .int y76_s0_7), (8, .int r_6), (7, .int y47_s0_5), (6, .int r_3), (5, .int r_2), (4, .int r_1), (0, .ref (ad 9 0)), (1, .ref (ad 10 0)), (2, .int v0), (3, .int x0)]) hx hb dL_does_423 hl (by decide) rfl (fun ls hl => ?_)
                          refine lv_aload_n hx hb dL_does_425 rfl (lv_at hl 10 rfl) ?_
                          refine lv_iload hx hb dL_does_426 (lv_at hl 2 rfl) ?_
                          refine lv_iload hx hb dL_does_428 (lv_at hl 1 rfl) ?_
                          obtain ⟨q_49, eq_49⟩ : ∃ z, z = (mX5_set xx r_46 y412_s0_47) := ⟨_, rfl⟩
                          have hM := MX5_set l D q ad xx r_46 y412_s0_47 (by assumption) hrg
                          rw [← eq_49] at hM
                          replace hR := lt_e hR eq_49
                          refine mu_VK (D := D) (ws := (wXW q ad xx)) (ws' := (wXW q ad (setV q_49.2 10 (xx 10)))) (rest := []) (As := [.int r_46, .int y412_s0_47]) hx hb hml hown hts hl hM gL_does_X5_set rfl kX5_set ⟨Nat.le_of_ble_eq_true rfl, Nat.le_of_ble_eq_true rfl⟩ rfl rfl hP hD hS hG hK [0, 1, 2, 3, 4, 5, 6, 7, 8, 9, 10, 11, 12, 13, 14, 15, 16, 17, 18, 19, 20, 21, 22, 23, 24, 25, 26, 27, 28, 29, 30, 31, 32, 33, 34, 35, 36, 37, 38, 39, 40, 41, 42, 43, 44, 45, 46, 47, 48, 49, 50, 51, 52, 53, 54, 55, 56, 57, 58, 59, 60, 61, 62, 63, 64, 65, 66, 67, 68, 69, 70, 71, 72, 73, 74] rfl rfl (by decide) [76, 77, 78, 79, 80, 81, 82, 83, 84, 85, 86, 87, 88, 89, 90, 91, 92, 93, 94, 95, 96, 97, 98, 99, 100, 101, 102, 103, 104, 105, 106, 107, 108, 109, 110, 111, 112, 113, 114, 115, 116, 117, 118, 119, 120, 121, 122, 123, 124, 125, 126, 127, 128, 129, 130, 131, 132, 133, 134, 135, 136, 137, 138, 139, 140, 141, 142, 143, 144, 145, 146, 147, 148, 149, 150, 75] rfl (by decide) rfl (ci := 3) rfl rfl rfl rfl (Nat.le_of_ble_eq_true rfl) dL_does_430 ⟨Nat.zero_le _, Nat.zero_le _⟩ (fun H locs hP hD hS => ?_)
                          obtain ⟨xx_50, exx_50⟩ : ∃ z, z = (setV q_49.2 10 (xx 10)) := ⟨_, rfl⟩
                          rw [← exx_50] at hP hD
                          replace hR := lt_e hR exx_50
                          refine lv_iload hx hb dL_does_433 (lv_at hl 0 rfl) ?_
                          refine lv_iload hx hb dL_does_435 (lv_at hl 1 rfl) ?_
                          refine jn_1 hR (fun F_447_51 eF_447_51 hR => ?_)
                          have key_447_51 : ∀ (y447_s0_51 : Int32), lt y447_s0_51 F_447_51 = R → ∀ ls : Array Slot, lv_has ls 18 [(17, .int r_48), (16, .int y412_s0_47), (15, .int r_46), (10, .int y96_s0_8), (9, .int y76_s0_7), (8, .int r_6), (7, .int y47_s0_5), (6, .int r_3), (5, .int r_2), (4, .int r_1), (0, .ref (ad 9 0)), (1, .ref (ad 10 0)), (2, .int v0), (3, .int x0)] → W p l e ({ frames := 8, cells := 0, slots := 0, locals := 202 } : Room) s m ([.ref (ad 9 0), .ref (ad 10 0), .int v0, .int x0] : List Value).toArray below meth c H locs 0 0 (MQ below (muQ D (some (.int R.1)) (wXW q ad xx) (wXW q ad R.2)) ([.ref (ad 9 0), .ref (ad 10 0), .int v0, .int x0] : List Value).toArray s 0 0 (wAt (wXW q ad xx))) (F0 m 447 ls [.int y447_s0_51, .int q_49.1]) := by
                            intro y447_s0_51 hR ls hl
                            rw [eF_447_51] at hR
                            replace hR := jn_e1 hR
                            refine lv_icmp_ne (tgt := 468) hx hb dL_does_447 (by decide) (fun c_52 => ?_) (fun c_52 => ?_)
                            · rw [if_neg c_52] at hR
                              have tc_52 : ¬ q_49.1.toInt = y447_s0_51.toInt := fun z => c_52 (i_eq.mpr z)
                              refine lv_iconst (v := 0) hx hb dL_does_468 (by decide) ?_
                              have h01 : (0 : Int32) = 0 ∨ (0 : Int32) = 1 := (Or.inl rfl)
                              subst hR
                              exact mu_zret hx hb hr hk h01 hA hS hP rfl dL_does_469
                            · rw [if_pos c_52] at hR
                              have tc_52 : q_49.1.toInt = y447_s0_51.toInt := i_eq.mp c_52
                              refine lv_aload_n hx hb dL_does_450 rfl (lv_at hl 10 rfl) ?_
                              refine lv_bipush (v := 12) hx hb dL_does_451 (by decide) ?_
                              refine lv_iload hx hb dL_does_453 (lv_at hl 2 rfl) ?_
                              refine lv_iadd hx hb dL_does_455 ?_
                              refine ro_V (v := .int (mX5_count xx_50 (12 + r_46))) (rest := []) (As := [.int (12 + r_46)]) hx hb hml hown hts hl (MX5_count l D q ad xx_50 (12 + r_46)) gL_does_X5_count rfl kX5_count ⟨Nat.le_of_ble_eq_true rfl, Nat.le_of_ble_eq_true rfl⟩ rfl rfl (hP.sub (ws' := (wX q ad xx_50)) [0, 1, 2, 3, 4, 5, 6, 7, 8, 9, 10, 11, 12, 13, 14, 15, 16, 17, 18, 19, 20, 21, 22, 23, 24, 25, 26, 27, 28, 29, 30, 31, 32, 33, 34, 35, 36, 37, 38, 39, 40, 41, 42, 43, 44, 45, 46, 47, 48, 49, 50, 51, 52, 53, 54, 55, 56, 57, 58, 59, 60, 61, 62, 63, 64, 65, 66, 67, 68, 69, 70, 71, 72, 73, 74] rfl) (dT (hD.sub (ws' := (wX q ad xx_50)) [0, 1, 2, 3, 4, 5, 6, 7, 8, 9, 10, 11, 12, 13, 14, 15, 16, 17, 18, 19, 20, 21, 22, 23, 24, 25, 26, 27, 28, 29, 30, 31, 32, 33, 34, 35, 36, 37, 38, 39, 40, 41, 42, 43, 44, 45, 46, 47, 48, 49, 50, 51, 52, 53, 54, 55, 56, 57, 58, 59, 60, 61, 62, 63, 64, 65, 66, 67, 68, 69, 70, 71, 72, 73, 74] (by decide) rfl)) hG (ci := 3) rfl rfl rfl rfl (Nat.le_of_ble_eq_true rfl) dL_does_456 ⟨Nat.zero_le _, Nat.zero_le _⟩ ?_
                              obtain ⟨r_53, er_53⟩ : ∃ z, z = (mX5_count xx_50 (12 + r_46)) := ⟨_, rfl⟩
                              rw [← er_53]
                              replace hR := lt_e hR er_53
                              refine lv_iload hx hb dL_does_459 (lv_at hl 1 rfl) ?_
                              refine lv_icmp_ne (tgt := 468) hx hb dL_does_461 (by decide) (fun c_54 => ?_) (fun c_54 => ?_)
                              · rw [if_neg c_54] at hR
                                have tc_54 : ¬ r_53.toInt = y412_s0_47.toInt := fun z => c_54 (i_eq.mpr z)
                                refine lv_iconst (v := 0) hx hb dL_does_468 (by decide) ?_
                                have h01 : (0 : Int32) = 0 ∨ (0 : Int32) = 1 := (Or.inl rfl)
                                subst hR
                                exact mu_zret hx hb hr hk h01 hA hS hP rfl dL_does_469
                              · rw [if_pos c_54] at hR
                                have tc_54 : r_53.toInt = y412_s0_47.toInt := i_eq.mp c_54
                                refine lv_iconst (v := 1) hx hb dL_does_464 (by decide) ?_
                                refine lv_goto (tgt := 469) hx hb dL_does_465 (by decide) ?_
                                have h01 : (1 : Int32) = 0 ∨ (1 : Int32) = 1 := (Or.inr rfl)
                                subst hR
                                exact mu_zret hx hb hr hk h01 hA hS hP rfl dL_does_469
                          refine lv_icmp_ne (tgt := 445) hx hb dL_does_437 (by decide) (fun c_55 => ?_) (fun c_55 => ?_)
                          · rw [if_neg c_55] at hR
                            have tc_55 : ¬ r_48.toInt = y412_s0_47.toInt := fun z => c_55 (i_eq.mpr z)
                            refine lv_iload hx hb dL_does_445 (lv_at hl 0 rfl) ?_
                            exact key_447_51 r_48 hR ls (lv_sub hl [0, 1, 2, 3, 4, 5, 6, 7, 8, 9, 10, 11, 12, 13] rfl)
                          · rw [if_pos c_55] at hR
                            have tc_55 : r_48.toInt = y412_s0_47.toInt := i_eq.mp c_55
                            refine lv_bipush (v := (-5)) hx hb dL_does_440 (by decide) ?_
                            refine lv_goto (tgt := 447) hx hb dL_does_442 (by decide) ?_
                            exact key_447_51 (-5) hR ls (lv_sub hl [0, 1, 2, 3, 4, 5, 6, 7, 8, 9, 10, 11, 12, 13] rfl)
                        refine lv_icmp_ge (tgt := 390) hx hb dL_does_378 (by decide) (fun c_56 => ?_) (fun c_56 => ?_)
                        · rw [if_pos c_56] at hR
                          have tc_56 : 2 ≤ r_46.toInt := i_le.mp c_56
                          refine lv_iload hx hb dL_does_390 (lv_at hl 0 rfl) ?_
                          refine lv_iconst (v := 2) hx hb dL_does_392 (by decide) ?_
                          refine lv_icmp_ne (tgt := 406) hx hb dL_does_393 (by decide) (fun c_57 => ?_) (fun c_57 => ?_)
                          · rw [if_neg c_57] at hR
                            have tc_57 : ¬ r_46.toInt = 2 := fun z => c_57 (i_eq.mpr z)
                            refine lv_iload_n hx hb dL_does_406 rfl (lv_at hl 11 rfl) ?_
                            refine lv_bipush (v := 60) hx hb dL_does_407 (by decide) ?_
                            refine ro_S (v := .int (mL_low x0 60)) (rest := []) (As := [.int x0, .int 60]) hx hb hml hown hts hl (ML_low l D q x0 60 (by decide)) gL_does_L_low rfl kL_low ⟨Nat.le_of_ble_eq_true rfl, Nat.le_of_ble_eq_true rfl⟩ rfl rfl (hP.sub (ws' := []) [] rfl) (dT (hD.sub (ws' := []) [] (by decide) rfl)) hG rfl rfl (Nat.le_of_ble_eq_true rfl) dL_does_409 ⟨Nat.zero_le _, Nat.zero_le _⟩ ?_
                            exact key_412_47 (mL_low x0 60) hR ls (lv_sub hl [0, 1, 2, 3, 4, 5, 6, 7, 8, 9, 10, 11] rfl)
                          · rw [if_pos c_57] at hR
                            have tc_57 : r_46.toInt = 2 := i_eq.mp c_57
                            refine lv_iconst (v := 1) hx hb dL_does_396 (by decide) ?_
                            refine lv_iload_n hx hb dL_does_397 rfl (lv_at hl 11 rfl) ?_
                            refine lv_iconst (v := 4) hx hb dL_does_398 (by decide) ?_
                            refine ro_S (v := .int (mL_low x0 4)) (rest := [.int 1]) (As := [.int x0, .int 4]) hx hb hml hown hts hl (ML_low l D q x0 4 (by decide)) gL_does_L_low rfl kL_low ⟨Nat.le_of_ble_eq_true rfl, Nat.le_of_ble_eq_true rfl⟩ rfl rfl (hP.sub (ws' := []) [] rfl) (dT (hD.sub (ws' := []) [] (by decide) rfl)) hG rfl rfl (Nat.le_of_ble_eq_true rfl) dL_does_399 ⟨Nat.zero_le _, Nat.zero_le _⟩ ?_
                            refine lv_iadd hx hb dL_does_402 ?_
                            refine lv_goto (tgt := 412) hx hb dL_does_403 (by decide) ?_
                            exact key_412_47 (1 + (mL_low x0 4)) hR ls (lv_sub hl [0, 1, 2, 3, 4, 5, 6, 7, 8, 9, 10, 11] rfl)
                        · rw [if_neg c_56] at hR
                          have tc_56 : ¬ 2 ≤ r_46.toInt := fun z => c_56 (i_le.mpr z)
                          refine lv_iload_n hx hb dL_does_381 rfl (lv_at hl 11 rfl) ?_
                          refine lv_bipush (v := 21) hx hb dL_does_382 (by decide) ?_
                          refine ro_S (v := .int (mL_low x0 21)) (rest := []) (As := [.int x0, .int 21]) hx hb hml hown hts hl (ML_low l D q x0 21 (by decide)) gL_does_L_low rfl kL_low ⟨Nat.le_of_ble_eq_true rfl, Nat.le_of_ble_eq_true rfl⟩ rfl rfl (hP.sub (ws' := []) [] rfl) (dT (hD.sub (ws' := []) [] (by decide) rfl)) hG rfl rfl (Nat.le_of_ble_eq_true rfl) dL_does_384 ⟨Nat.zero_le _, Nat.zero_le _⟩ ?_
                          refine lv_goto (tgt := 412) hx hb dL_does_387 (by decide) ?_
                          exact key_412_47 (mL_low x0 21) hR ls (lv_sub hl [0, 1, 2, 3, 4, 5, 6, 7, 8, 9, 10, 11] rfl)
                      · rw [if_neg c_45] at hR
                        by_cases c_58 : r_9 = 8
                        · rw [if_pos c_58] at hR
                          have tc_58 : r_9.toInt = 8 := i_eq.mp c_58
                          refine lv_tableIn (off := 366) (tgt := 470) hx hb dL_does_104 (by rw [c_58]; decide) (by rw [c_58]; decide) (by rw [c_58]; rfl) (by decide) ?_
                          refine lv_iload hx hb dL_does_470 (lv_at hl 6 rfl) ?_
                          refine lv_if_eq (tgt := 494) hx hb dL_does_472 (by decide) (fun c_59 => ?_) (fun c_59 => ?_)
                          · rw [if_pos c_59] at hR
                            have tc_59 : r_1.toInt = 0 := i_eq.mp c_59
                            refine lv_iconst (v := 1) hx hb dL_does_494 (by decide) ?_
                            refine lv_goto (tgt := 499) hx hb dL_does_495 (by decide) ?_
                            have h01 : (1 : Int32) = 0 ∨ (1 : Int32) = 1 := (Or.inr rfl)
                            subst hR
                            exact mu_zret hx hb hr hk h01 hA hS hP rfl dL_does_499
                          · rw [if_neg c_59] at hR
                            have tc_59 : ¬ r_1.toInt = 0 := fun z => c_59 (i_eq.mpr z)
                            refine lv_iload hx hb dL_does_475 (lv_at hl 5 rfl) ?_
                            refine lv_if_eq (tgt := 494) hx hb dL_does_477 (by decide) (fun c_60 => ?_) (fun c_60 => ?_)
                            · rw [if_pos c_60] at hR
                              have tc_60 : r_2.toInt = 0 := i_eq.mp c_60
                              refine lv_iconst (v := 1) hx hb dL_does_494 (by decide) ?_
                              refine lv_goto (tgt := 499) hx hb dL_does_495 (by decide) ?_
                              have h01 : (1 : Int32) = 0 ∨ (1 : Int32) = 1 := (Or.inr rfl)
                              subst hR
                              exact mu_zret hx hb hr hk h01 hA hS hP rfl dL_does_499
                            · rw [if_neg c_60] at hR
                              have tc_60 : ¬ r_2.toInt = 0 := fun z => c_60 (i_eq.mpr z)
                              refine lv_aload_n hx hb dL_does_480 rfl (lv_at hl 7 rfl) ?_
                              refine lv_aload_n hx hb dL_does_481 rfl (lv_at hl 8 rfl) ?_
                              refine lv_iload hx hb dL_does_482 (lv_at hl 1 rfl) ?_
                              refine lv_iload hx hb dL_does_484 (lv_at hl 0 rfl) ?_
                              refine lv_iload hx hb dL_does_486 (lv_at hl 2 rfl) ?_
                              obtain ⟨q_61, eq_61⟩ : ∃ z, z = (mL_isSued xx y76_s0_7 y96_s0_8 r_6) := ⟨_, rfl⟩
                              have hM := ML_isSued l D q ad xx y76_s0_7 y96_s0_8 r_6 hrg (rg_t (i := r_6) (x := (r_6).toInt) rfl (by omega))
                              rw [← eq_61] at hM
                              replace hR := lt_e hR eq_61
                              refine mu_S (D := D) (ws := (wXW q ad xx)) (ws' := (wXW q ad q_61.2)) (rest := []) (As := [.ref (ad 9 0), .ref (ad 10 0), .int y76_s0_7, .int y96_s0_8, .int r_6]) hx hb hml hown hts hl hM gL_does_L_isSued rfl kL_isSued ⟨Nat.le_of_ble_eq_true rfl, Nat.le_of_ble_eq_true rfl⟩ rfl rfl hP hD hS hG [0, 1, 2, 3, 4, 5, 6, 7, 8, 9, 10, 11, 12, 13, 14, 15, 16, 17, 18, 19, 20, 21, 22, 23, 24, 25, 26, 27, 28, 29, 30, 31, 32, 33, 34, 35, 36, 37, 38, 39, 40, 41, 42, 43, 44, 45, 46, 47, 48, 49, 50, 51, 52, 53, 54, 55, 56, 57, 58, 59, 60, 61, 62, 63, 64, 65, 66, 67, 68, 69, 70, 71, 72, 73, 74, 75] rfl rfl (by decide) [76, 77, 78, 79, 80, 81, 82, 83, 84, 85, 86, 87, 88, 89, 90, 91, 92, 93, 94, 95, 96, 97, 98, 99, 100, 101, 102, 103, 104, 105, 106, 107, 108, 109, 110, 111, 112, 113, 114, 115, 116, 117, 118, 119, 120, 121, 122, 123, 124, 125, 126, 127, 128, 129, 130, 131, 132, 133, 134, 135, 136, 137, 138, 139, 140, 141, 142, 143, 144, 145, 146, 147, 148, 149, 150, 151] rfl (by decide) rfl rfl rfl (Nat.le_of_ble_eq_true rfl) dL_does_488 ⟨Nat.zero_le _, Nat.zero_le _⟩ (fun H locs hP hD hS => ?_)
                              refine lv_if_eq (tgt := 498) hx hb dL_does_491 (by decide) (fun c_62 => ?_) (fun c_62 => ?_)
                              · rw [if_pos c_62] at hR
                                have tc_62 : q_61.1.toInt = 0 := i_eq.mp c_62
                                refine lv_iconst (v := 0) hx hb dL_does_498 (by decide) ?_
                                have h01 : (0 : Int32) = 0 ∨ (0 : Int32) = 1 := (Or.inl rfl)
                                subst hR
                                exact mu_zret hx hb hr hk h01 hA hS hP rfl dL_does_499
                              · rw [if_neg c_62] at hR
                                have tc_62 : ¬ q_61.1.toInt = 0 := fun z => c_62 (i_eq.mpr z)
                                refine lv_iconst (v := 1) hx hb dL_does_494 (by decide) ?_
                                refine lv_goto (tgt := 499) hx hb dL_does_495 (by decide) ?_
                                have h01 : (1 : Int32) = 0 ∨ (1 : Int32) = 1 := (Or.inr rfl)
                                subst hR
                                exact mu_zret hx hb hr hk h01 hA hS hP rfl dL_does_499
                        · rw [if_neg c_58] at hR
                          by_cases c_63 : r_9 = 9
                          · rw [if_pos c_63] at hR
                            have tc_63 : r_9.toInt = 9 := i_eq.mp c_63
                            refine lv_tableIn (off := 366) (tgt := 470) hx hb dL_does_104 (by rw [c_63]; decide) (by rw [c_63]; decide) (by rw [c_63]; rfl) (by decide) ?_
                            refine lv_iload hx hb dL_does_470 (lv_at hl 6 rfl) ?_
                            refine lv_if_eq (tgt := 494) hx hb dL_does_472 (by decide) (fun c_59 => ?_) (fun c_59 => ?_)
                            · rw [if_pos c_59] at hR
                              have tc_59 : r_1.toInt = 0 := i_eq.mp c_59
                              refine lv_iconst (v := 1) hx hb dL_does_494 (by decide) ?_
                              refine lv_goto (tgt := 499) hx hb dL_does_495 (by decide) ?_
                              have h01 : (1 : Int32) = 0 ∨ (1 : Int32) = 1 := (Or.inr rfl)
                              subst hR
                              exact mu_zret hx hb hr hk h01 hA hS hP rfl dL_does_499
                            · rw [if_neg c_59] at hR
                              have tc_59 : ¬ r_1.toInt = 0 := fun z => c_59 (i_eq.mpr z)
                              refine lv_iload hx hb dL_does_475 (lv_at hl 5 rfl) ?_
                              refine lv_if_eq (tgt := 494) hx hb dL_does_477 (by decide) (fun c_60 => ?_) (fun c_60 => ?_)
                              · rw [if_pos c_60] at hR
                                have tc_60 : r_2.toInt = 0 := i_eq.mp c_60
                                refine lv_iconst (v := 1) hx hb dL_does_494 (by decide) ?_
                                refine lv_goto (tgt := 499) hx hb dL_does_495 (by decide) ?_
                                have h01 : (1 : Int32) = 0 ∨ (1 : Int32) = 1 := (Or.inr rfl)
                                subst hR
                                exact mu_zret hx hb hr hk h01 hA hS hP rfl dL_does_499
                              · rw [if_neg c_60] at hR
                                have tc_60 : ¬ r_2.toInt = 0 := fun z => c_60 (i_eq.mpr z)
                                refine lv_aload_n hx hb dL_does_480 rfl (lv_at hl 7 rfl) ?_
                                refine lv_aload_n hx hb dL_does_481 rfl (lv_at hl 8 rfl) ?_
                                refine lv_iload hx hb dL_does_482 (lv_at hl 1 rfl) ?_
                                refine lv_iload hx hb dL_does_484 (lv_at hl 0 rfl) ?_
                                refine lv_iload hx hb dL_does_486 (lv_at hl 2 rfl) ?_
                                obtain ⟨q_61, eq_61⟩ : ∃ z, z = (mL_isSued xx y76_s0_7 y96_s0_8 r_6) := ⟨_, rfl⟩
                                have hM := ML_isSued l D q ad xx y76_s0_7 y96_s0_8 r_6 hrg (rg_t (i := r_6) (x := (r_6).toInt) rfl (by omega))
                                rw [← eq_61] at hM
                                replace hR := lt_e hR eq_61
                                refine mu_S (D := D) (ws := (wXW q ad xx)) (ws' := (wXW q ad q_61.2)) (rest := []) (As := [.ref (ad 9 0), .ref (ad 10 0), .int y76_s0_7, .int y96_s0_8, .int r_6]) hx hb hml hown hts hl hM gL_does_L_isSued rfl kL_isSued ⟨Nat.le_of_ble_eq_true rfl, Nat.le_of_ble_eq_true rfl⟩ rfl rfl hP hD hS hG [0, 1, 2, 3, 4, 5, 6, 7, 8, 9, 10, 11, 12, 13, 14, 15, 16, 17, 18, 19, 20, 21, 22, 23, 24, 25, 26, 27, 28, 29, 30, 31, 32, 33, 34, 35, 36, 37, 38, 39, 40, 41, 42, 43, 44, 45, 46, 47, 48, 49, 50, 51, 52, 53, 54, 55, 56, 57, 58, 59, 60, 61, 62, 63, 64, 65, 66, 67, 68, 69, 70, 71, 72, 73, 74, 75] rfl rfl (by decide) [76, 77, 78, 79, 80, 81, 82, 83, 84, 85, 86, 87, 88, 89, 90, 91, 92, 93, 94, 95, 96, 97, 98, 99, 100, 101, 102, 103, 104, 105, 106, 107, 108, 109, 110, 111, 112, 113, 114, 115, 116, 117, 118, 119, 120, 121, 122, 123, 124, 125, 126, 127, 128, 129, 130, 131, 132, 133, 134, 135, 136, 137, 138, 139, 140, 141, 142, 143, 144, 145, 146, 147, 148, 149, 150, 151] rfl (by decide) rfl rfl rfl (Nat.le_of_ble_eq_true rfl) dL_does_488 ⟨Nat.zero_le _, Nat.zero_le _⟩ (fun H locs hP hD hS => ?_)
                                refine lv_if_eq (tgt := 498) hx hb dL_does_491 (by decide) (fun c_62 => ?_) (fun c_62 => ?_)
                                · rw [if_pos c_62] at hR
                                  have tc_62 : q_61.1.toInt = 0 := i_eq.mp c_62
                                  refine lv_iconst (v := 0) hx hb dL_does_498 (by decide) ?_
                                  have h01 : (0 : Int32) = 0 ∨ (0 : Int32) = 1 := (Or.inl rfl)
                                  subst hR
                                  exact mu_zret hx hb hr hk h01 hA hS hP rfl dL_does_499
                                · rw [if_neg c_62] at hR
                                  have tc_62 : ¬ q_61.1.toInt = 0 := fun z => c_62 (i_eq.mpr z)
                                  refine lv_iconst (v := 1) hx hb dL_does_494 (by decide) ?_
                                  refine lv_goto (tgt := 499) hx hb dL_does_495 (by decide) ?_
                                  have h01 : (1 : Int32) = 0 ∨ (1 : Int32) = 1 := (Or.inr rfl)
                                  subst hR
                                  exact mu_zret hx hb hr hk h01 hA hS hP rfl dL_does_499
                          · rw [if_neg c_63] at hR
                            by_cases c_64 : r_9 = 10
                            · rw [if_pos c_64] at hR
                              have tc_64 : r_9.toInt = 10 := i_eq.mp c_64
                              refine lv_tableIn (off := 396) (tgt := 500) hx hb dL_does_104 (by rw [c_64]; decide) (by rw [c_64]; decide) (by rw [c_64]; rfl) (by decide) ?_
                              refine lv_iload hx hb dL_does_500 (lv_at hl 6 rfl) ?_
                              refine lv_if_ne (tgt := 524) hx hb dL_does_502 (by decide) (fun c_65 => ?_) (fun c_65 => ?_)
                              · rw [if_neg c_65] at hR
                                have tc_65 : ¬ r_1.toInt = 0 := fun z => c_65 (i_eq.mpr z)
                                refine lv_aload_n hx hb dL_does_524 rfl (lv_at hl 7 rfl) ?_
                                refine lv_iload hx hb dL_does_525 (lv_at hl 1 rfl) ?_
                                refine lv_iload hx hb dL_does_527 (lv_at hl 2 rfl) ?_
                                obtain ⟨q_66, eq_66⟩ : ∃ z, z = (mL_isVoted xx y76_s0_7 r_6) := ⟨_, rfl⟩
                                have hM := ML_isVoted l D q ad xx y76_s0_7 r_6 hrg
                                rw [← eq_66] at hM
                                replace hR := lt_e hR eq_66
                                refine mu_S (D := D) (ws := (wXW q ad xx)) (ws' := (wXW q ad (setV q_66.2 10 (xx 10)))) (rest := []) (As := [.ref (ad 9 0), .int y76_s0_7, .int r_6]) hx hb hml hown hts hl hM gL_does_L_isVoted rfl kL_isVoted ⟨Nat.le_of_ble_eq_true rfl, Nat.le_of_ble_eq_true rfl⟩ rfl rfl hP hD hS hG [0, 1, 2, 3, 4, 5, 6, 7, 8, 9, 10, 11, 12, 13, 14, 15, 16, 17, 18, 19, 20, 21, 22, 23, 24, 25, 26, 27, 28, 29, 30, 31, 32, 33, 34, 35, 36, 37, 38, 39, 40, 41, 42, 43, 44, 45, 46, 47, 48, 49, 50, 51, 52, 53, 54, 55, 56, 57, 58, 59, 60, 61, 62, 63, 64, 65, 66, 67, 68, 69, 70, 71, 72, 73, 74] rfl rfl (by decide) [76, 77, 78, 79, 80, 81, 82, 83, 84, 85, 86, 87, 88, 89, 90, 91, 92, 93, 94, 95, 96, 97, 98, 99, 100, 101, 102, 103, 104, 105, 106, 107, 108, 109, 110, 111, 112, 113, 114, 115, 116, 117, 118, 119, 120, 121, 122, 123, 124, 125, 126, 127, 128, 129, 130, 131, 132, 133, 134, 135, 136, 137, 138, 139, 140, 141, 142, 143, 144, 145, 146, 147, 148, 149, 150, 75] rfl (by decide) rfl rfl rfl (Nat.le_of_ble_eq_true rfl) dL_does_529 ⟨Nat.zero_le _, Nat.zero_le _⟩ (fun H locs hP hD hS => ?_)
                                obtain ⟨xx_67, exx_67⟩ : ∃ z, z = (setV q_66.2 10 (xx 10)) := ⟨_, rfl⟩
                                rw [← exx_67] at hP hD
                                replace hR := lt_e hR exx_67
                                have h01 := (show q_66.1 = 0 ∨ q_66.1 = 1 from by rw [eq_66]; exact zL_isVoted _ _ _)
                                subst hR
                                exact mu_zret hx hb hr hk h01 hA hS hP rfl dL_does_532
                              · rw [if_pos c_65] at hR
                                have tc_65 : r_1.toInt = 0 := i_eq.mp c_65
                                refine lv_aload_n hx hb dL_does_505 rfl (lv_at hl 7 rfl) ?_
                                refine lv_iconst (v := 0) hx hb dL_does_506 (by decide) ?_
                                refine lv_iload hx hb dL_does_507 (lv_at hl 2 rfl) ?_
                                obtain ⟨q_68, eq_68⟩ : ∃ z, z = (mX5_vote xx 0 r_6) := ⟨_, rfl⟩
                                have hM := MX5_vote l D q ad xx 0 r_6 hrg
                                rw [← eq_68] at hM
                                replace hR := lt_e hR eq_68
                                refine mu_V (D := D) (ws := (wXW q ad xx)) (ws' := (wXW q ad (setV q_68.2 10 (xx 10)))) (rest := []) (As := [.int 0, .int r_6]) hx hb hml hown hts hl hM gL_does_X5_vote rfl kX5_vote ⟨Nat.le_of_ble_eq_true rfl, Nat.le_of_ble_eq_true rfl⟩ rfl rfl hP hD hS hG [0, 1, 2, 3, 4, 5, 6, 7, 8, 9, 10, 11, 12, 13, 14, 15, 16, 17, 18, 19, 20, 21, 22, 23, 24, 25, 26, 27, 28, 29, 30, 31, 32, 33, 34, 35, 36, 37, 38, 39, 40, 41, 42, 43, 44, 45, 46, 47, 48, 49, 50, 51, 52, 53, 54, 55, 56, 57, 58, 59, 60, 61, 62, 63, 64, 65, 66, 67, 68, 69, 70, 71, 72, 73, 74] rfl rfl (by decide) [76, 77, 78, 79, 80, 81, 82, 83, 84, 85, 86, 87, 88, 89, 90, 91, 92, 93, 94, 95, 96, 97, 98, 99, 100, 101, 102, 103, 104, 105, 106, 107, 108, 109, 110, 111, 112, 113, 114, 115, 116, 117, 118, 119, 120, 121, 122, 123, 124, 125, 126, 127, 128, 129, 130, 131, 132, 133, 134, 135, 136, 137, 138, 139, 140, 141, 142, 143, 144, 145, 146, 147, 148, 149, 150, 75] rfl (by decide) rfl (ci := 3) rfl rfl rfl rfl (Nat.le_of_ble_eq_true rfl) dL_does_509 ⟨Nat.zero_le _, Nat.zero_le _⟩ (fun H locs hP hD hS => ?_)
                                obtain ⟨xx_69, exx_69⟩ : ∃ z, z = (setV q_68.2 10 (xx 10)) := ⟨_, rfl⟩
                                rw [← exx_69] at hP hD
                                replace hR := lt_e hR exx_69
                                refine lv_iconst (v := (-1)) hx hb dL_does_512 (by decide) ?_
                                refine lv_icmp_ne (tgt := 520) hx hb dL_does_513 (by decide) (fun c_70 => ?_) (fun c_70 => ?_)
                                · rw [if_neg c_70] at hR
                                  have tc_70 : ¬ q_68.1.toInt = (-1) := fun z => c_70 (i_eq.mpr z)
                                  refine lv_iconst (v := 0) hx hb dL_does_520 (by decide) ?_
                                  refine lv_goto (tgt := 532) hx hb dL_does_521 (by decide) ?_
                                  have h01 : (0 : Int32) = 0 ∨ (0 : Int32) = 1 := (Or.inl rfl)
                                  subst hR
                                  exact mu_zret hx hb hr hk h01 hA hS hP rfl dL_does_532
                                · rw [if_pos c_70] at hR
                                  have tc_70 : q_68.1.toInt = (-1) := i_eq.mp c_70
                                  refine lv_iconst (v := 1) hx hb dL_does_516 (by decide) ?_
                                  refine lv_goto (tgt := 532) hx hb dL_does_517 (by decide) ?_
                                  have h01 : (1 : Int32) = 0 ∨ (1 : Int32) = 1 := (Or.inr rfl)
                                  subst hR
                                  exact mu_zret hx hb hr hk h01 hA hS hP rfl dL_does_532
                            · rw [if_neg c_64] at hR
                              by_cases c_71 : r_9 = 11
                              · rw [if_pos c_71] at hR
                                have tc_71 : r_9.toInt = 11 := i_eq.mp c_71
                                refine lv_tableIn (off := 396) (tgt := 500) hx hb dL_does_104 (by rw [c_71]; decide) (by rw [c_71]; decide) (by rw [c_71]; rfl) (by decide) ?_
                                refine lv_iload hx hb dL_does_500 (lv_at hl 6 rfl) ?_
                                refine lv_if_ne (tgt := 524) hx hb dL_does_502 (by decide) (fun c_65 => ?_) (fun c_65 => ?_)
                                · rw [if_neg c_65] at hR
                                  have tc_65 : ¬ r_1.toInt = 0 := fun z => c_65 (i_eq.mpr z)
                                  refine lv_aload_n hx hb dL_does_524 rfl (lv_at hl 7 rfl) ?_
                                  refine lv_iload hx hb dL_does_525 (lv_at hl 1 rfl) ?_
                                  refine lv_iload hx hb dL_does_527 (lv_at hl 2 rfl) ?_
                                  obtain ⟨q_66, eq_66⟩ : ∃ z, z = (mL_isVoted xx y76_s0_7 r_6) := ⟨_, rfl⟩
                                  have hM := ML_isVoted l D q ad xx y76_s0_7 r_6 hrg
                                  rw [← eq_66] at hM
                                  replace hR := lt_e hR eq_66
                                  refine mu_S (D := D) (ws := (wXW q ad xx)) (ws' := (wXW q ad (setV q_66.2 10 (xx 10)))) (rest := []) (As := [.ref (ad 9 0), .int y76_s0_7, .int r_6]) hx hb hml hown hts hl hM gL_does_L_isVoted rfl kL_isVoted ⟨Nat.le_of_ble_eq_true rfl, Nat.le_of_ble_eq_true rfl⟩ rfl rfl hP hD hS hG [0, 1, 2, 3, 4, 5, 6, 7, 8, 9, 10, 11, 12, 13, 14, 15, 16, 17, 18, 19, 20, 21, 22, 23, 24, 25, 26, 27, 28, 29, 30, 31, 32, 33, 34, 35, 36, 37, 38, 39, 40, 41, 42, 43, 44, 45, 46, 47, 48, 49, 50, 51, 52, 53, 54, 55, 56, 57, 58, 59, 60, 61, 62, 63, 64, 65, 66, 67, 68, 69, 70, 71, 72, 73, 74] rfl rfl (by decide) [76, 77, 78, 79, 80, 81, 82, 83, 84, 85, 86, 87, 88, 89, 90, 91, 92, 93, 94, 95, 96, 97, 98, 99, 100, 101, 102, 103, 104, 105, 106, 107, 108, 109, 110, 111, 112, 113, 114, 115, 116, 117, 118, 119, 120, 121, 122, 123, 124, 125, 126, 127, 128, 129, 130, 131, 132, 133, 134, 135, 136, 137, 138, 139, 140, 141, 142, 143, 144, 145, 146, 147, 148, 149, 150, 75] rfl (by decide) rfl rfl rfl (Nat.le_of_ble_eq_true rfl) dL_does_529 ⟨Nat.zero_le _, Nat.zero_le _⟩ (fun H locs hP hD hS => ?_)
                                  obtain ⟨xx_67, exx_67⟩ : ∃ z, z = (setV q_66.2 10 (xx 10)) := ⟨_, rfl⟩
                                  rw [← exx_67] at hP hD
                                  replace hR := lt_e hR exx_67
                                  have h01 := (show q_66.1 = 0 ∨ q_66.1 = 1 from by rw [eq_66]; exact zL_isVoted _ _ _)
                                  subst hR
                                  exact mu_zret hx hb hr hk h01 hA hS hP rfl dL_does_532
                                · rw [if_pos c_65] at hR
                                  have tc_65 : r_1.toInt = 0 := i_eq.mp c_65
                                  refine lv_aload_n hx hb dL_does_505 rfl (lv_at hl 7 rfl) ?_
                                  refine lv_iconst (v := 0) hx hb dL_does_506 (by decide) ?_
                                  refine lv_iload hx hb dL_does_507 (lv_at hl 2 rfl) ?_
                                  obtain ⟨q_68, eq_68⟩ : ∃ z, z = (mX5_vote xx 0 r_6) := ⟨_, rfl⟩
                                  have hM := MX5_vote l D q ad xx 0 r_6 hrg
                                  rw [← eq_68] at hM
                                  replace hR := lt_e hR eq_68
                                  refine mu_V (D := D) (ws := (wXW q ad xx)) (ws' := (wXW q ad (setV q_68.2 10 (xx 10)))) (rest := []) (As := [.int 0, .int r_6]) hx hb hml hown hts hl hM gL_does_X5_vote rfl kX5_vote ⟨Nat.le_of_ble_eq_true rfl, Nat.le_of_ble_eq_true rfl⟩ rfl rfl hP hD hS hG [0, 1, 2, 3, 4, 5, 6, 7, 8, 9, 10, 11, 12, 13, 14, 15, 16, 17, 18, 19, 20, 21, 22, 23, 24, 25, 26, 27, 28, 29, 30, 31, 32, 33, 34, 35, 36, 37, 38, 39, 40, 41, 42, 43, 44, 45, 46, 47, 48, 49, 50, 51, 52, 53, 54, 55, 56, 57, 58, 59, 60, 61, 62, 63, 64, 65, 66, 67, 68, 69, 70, 71, 72, 73, 74] rfl rfl (by decide) [76, 77, 78, 79, 80, 81, 82, 83, 84, 85, 86, 87, 88, 89, 90, 91, 92, 93, 94, 95, 96, 97, 98, 99, 100, 101, 102, 103, 104, 105, 106, 107, 108, 109, 110, 111, 112, 113, 114, 115, 116, 117, 118, 119, 120, 121, 122, 123, 124, 125, 126, 127, 128, 129, 130, 131, 132, 133, 134, 135, 136, 137, 138, 139, 140, 141, 142, 143, 144, 145, 146, 147, 148, 149, 150, 75] rfl (by decide) rfl (ci := 3) rfl rfl rfl rfl (Nat.le_of_ble_eq_true rfl) dL_does_509 ⟨Nat.zero_le _, Nat.zero_le _⟩ (fun H locs hP hD hS => ?_)
                                  obtain ⟨xx_69, exx_69⟩ : ∃ z, z = (setV q_68.2 10 (xx 10)) := ⟨_, rfl⟩
                                  rw [← exx_69] at hP hD
                                  replace hR := lt_e hR exx_69
                                  refine lv_iconst (v := (-1)) hx hb dL_does_512 (by decide) ?_
                                  refine lv_icmp_ne (tgt := 520) hx hb dL_does_513 (by decide) (fun c_70 => ?_) (fun c_70 => ?_)
                                  · rw [if_neg c_70] at hR
                                    have tc_70 : ¬ q_68.1.toInt = (-1) := fun z => c_70 (i_eq.mpr z)
                                    refine lv_iconst (v := 0) hx hb dL_does_520 (by decide) ?_
                                    refine lv_goto (tgt := 532) hx hb dL_does_521 (by decide) ?_
                                    have h01 : (0 : Int32) = 0 ∨ (0 : Int32) = 1 := (Or.inl rfl)
                                    subst hR
                                    exact mu_zret hx hb hr hk h01 hA hS hP rfl dL_does_532
                                  · rw [if_pos c_70] at hR
                                    have tc_70 : q_68.1.toInt = (-1) := i_eq.mp c_70
                                    refine lv_iconst (v := 1) hx hb dL_does_516 (by decide) ?_
                                    refine lv_goto (tgt := 532) hx hb dL_does_517 (by decide) ?_
                                    have h01 : (1 : Int32) = 0 ∨ (1 : Int32) = 1 := (Or.inr rfl)
                                    subst hR
                                    exact mu_zret hx hb hr hk h01 hA hS hP rfl dL_does_532
                              · rw [if_neg c_71] at hR
                                refine lv_tableOut (tgt := 533) hx hb dL_does_104 (by have z0 := lv_neT c_10 (a := 0) rfl; have z1 := lv_neT c_18 (a := 1) rfl; have z2 := lv_neT c_19 (a := 2) rfl; have z3 := lv_neT c_26 (a := 3) rfl; have z4 := lv_neT c_27 (a := 4) rfl; have z5 := lv_neT c_28 (a := 5) rfl; have z6 := lv_neT c_44 (a := 6) rfl; have z7 := lv_neT c_45 (a := 7) rfl; have z8 := lv_neT c_58 (a := 8) rfl; have z9 := lv_neT c_63 (a := 9) rfl; have z10 := lv_neT c_64 (a := 10) rfl; have z11 := lv_neT c_71 (a := 11) rfl; omega) (by decide) ?_
                                refine lv_iload hx hb dL_does_533 (lv_at hl 6 rfl) ?_
                                refine lv_if_eq (tgt := 543) hx hb dL_does_535 (by decide) (fun c_72 => ?_) (fun c_72 => ?_)
                                · rw [if_pos c_72] at hR
                                  have tc_72 : r_1.toInt = 0 := i_eq.mp c_72
                                  refine lv_aload_n hx hb dL_does_543 rfl (lv_at hl 7 rfl) ?_
                                  refine lv_iconst (v := 0) hx hb dL_does_544 (by decide) ?_
                                  refine lv_iconst (v := 0) hx hb dL_does_545 (by decide) ?_
                                  refine lv_iconst (v := 0) hx hb dL_does_546 (by decide) ?_
                                  refine lv_iconst (v := 0) hx hb dL_does_547 (by decide) ?_
                                  obtain ⟨q_73, eq_73⟩ : ∃ z, z = (mX5_complain xx 0 0 0 0) := ⟨_, rfl⟩
                                  have hM := MX5_complain l D q ad xx 0 0 0 0 hrg
                                  rw [← eq_73] at hM
                                  replace hR := lt_e hR eq_73
                                  refine mu_V (D := D) (ws := (wXW q ad xx)) (ws' := (wXW q ad (setV q_73.2 10 (xx 10)))) (rest := []) (As := [.int 0, .int 0, .int 0, .int 0]) hx hb hml hown hts hl hM gL_does_X5_complain rfl kX5_complain ⟨Nat.le_of_ble_eq_true rfl, Nat.le_of_ble_eq_true rfl⟩ rfl rfl hP hD hS hG [0, 1, 2, 3, 4, 5, 6, 7, 8, 9, 10, 11, 12, 13, 14, 15, 16, 17, 18, 19, 20, 21, 22, 23, 24, 25, 26, 27, 28, 29, 30, 31, 32, 33, 34, 35, 36, 37, 38, 39, 40, 41, 42, 43, 44, 45, 46, 47, 48, 49, 50, 51, 52, 53, 54, 55, 56, 57, 58, 59, 60, 61, 62, 63, 64, 65, 66, 67, 68, 69, 70, 71, 72, 73, 74] rfl rfl (by decide) [76, 77, 78, 79, 80, 81, 82, 83, 84, 85, 86, 87, 88, 89, 90, 91, 92, 93, 94, 95, 96, 97, 98, 99, 100, 101, 102, 103, 104, 105, 106, 107, 108, 109, 110, 111, 112, 113, 114, 115, 116, 117, 118, 119, 120, 121, 122, 123, 124, 125, 126, 127, 128, 129, 130, 131, 132, 133, 134, 135, 136, 137, 138, 139, 140, 141, 142, 143, 144, 145, 146, 147, 148, 149, 150, 75] rfl (by decide) rfl (ci := 3) rfl rfl rfl rfl (Nat.le_of_ble_eq_true rfl) dL_does_548 ⟨Nat.zero_le _, Nat.zero_le _⟩ (fun H locs hP hD hS => ?_)
                                  obtain ⟨xx_74, exx_74⟩ : ∃ z, z = (setV q_73.2 10 (xx 10)) := ⟨_, rfl⟩
                                  rw [← exx_74] at hP hD
                                  replace hR := lt_e hR exx_74
                                  refine lv_iconst (v := (-1)) hx hb dL_does_551 (by decide) ?_
                                  refine lv_icmp_ne (tgt := 559) hx hb dL_does_552 (by decide) (fun c_75 => ?_) (fun c_75 => ?_)
                                  · rw [if_neg c_75] at hR
                                    have tc_75 : ¬ q_73.1.toInt = (-1) := fun z => c_75 (i_eq.mpr z)
                                    refine lv_iconst (v := 0) hx hb dL_does_559 (by decide) ?_
                                    refine lv_goto (tgt := 579) hx hb dL_does_560 (by decide) ?_
                                    have h01 : (0 : Int32) = 0 ∨ (0 : Int32) = 1 := (Or.inl rfl)
                                    subst hR
                                    exact mu_zret hx hb hr hk h01 hA hS hP rfl dL_does_579
                                  · rw [if_pos c_75] at hR
                                    have tc_75 : q_73.1.toInt = (-1) := i_eq.mp c_75
                                    refine lv_iconst (v := 1) hx hb dL_does_555 (by decide) ?_
                                    refine lv_goto (tgt := 579) hx hb dL_does_556 (by decide) ?_
                                    have h01 : (1 : Int32) = 0 ∨ (1 : Int32) = 1 := (Or.inr rfl)
                                    subst hR
                                    exact mu_zret hx hb hr hk h01 hA hS hP rfl dL_does_579
                                · rw [if_neg c_72] at hR
                                  have tc_72 : ¬ r_1.toInt = 0 := fun z => c_72 (i_eq.mpr z)
                                  refine lv_iload hx hb dL_does_538 (lv_at hl 5 rfl) ?_
                                  refine lv_if_ne (tgt := 563) hx hb dL_does_540 (by decide) (fun c_76 => ?_) (fun c_76 => ?_)
                                  · rw [if_neg c_76] at hR
                                    have tc_76 : ¬ r_2.toInt = 0 := fun z => c_76 (i_eq.mpr z)
                                    refine lv_aload_n hx hb dL_does_563 rfl (lv_at hl 7 rfl) ?_
                                    refine lv_iload hx hb dL_does_564 (lv_at hl 0 rfl) ?_
                                    refine lv_iload hx hb dL_does_566 (lv_at hl 1 rfl) ?_
                                    refine lv_iload_n hx hb dL_does_568 rfl (lv_at hl 10 rfl) ?_
                                    refine lv_bipush (v := 9) hx hb dL_does_569 (by decide) ?_
                                    refine lv_ishr hx hb dL_does_571 ?_
                                    refine lv_iconst (v := 1) hx hb dL_does_572 (by decide) ?_
                                    refine lv_iand hx hb dL_does_573 ?_
                                    refine lv_iload hx hb dL_does_574 (lv_at hl 2 rfl) ?_
                                    obtain ⟨q_77, eq_77⟩ : ∃ z, z = (mL_isHeard xx y96_s0_8 y76_s0_7 ((x0 >>> (9 &&& 31)) &&& 1) r_6) := ⟨_, rfl⟩
                                    have hM := ML_isHeard l D q ad xx y96_s0_8 y76_s0_7 ((x0 >>> (9 &&& 31)) &&& 1) r_6 hrg
                                    rw [← eq_77] at hM
                                    replace hR := lt_e hR eq_77
                                    refine mu_S (D := D) (ws := (wXW q ad xx)) (ws' := (wXW q ad (setV q_77.2 10 (xx 10)))) (rest := []) (As := [.ref (ad 9 0), .int y96_s0_8, .int y76_s0_7, .int ((x0 >>> (9 &&& 31)) &&& 1), .int r_6]) hx hb hml hown hts hl hM gL_does_L_isHeard rfl kL_isHeard ⟨Nat.le_of_ble_eq_true rfl, Nat.le_of_ble_eq_true rfl⟩ rfl rfl hP hD hS hG [0, 1, 2, 3, 4, 5, 6, 7, 8, 9, 10, 11, 12, 13, 14, 15, 16, 17, 18, 19, 20, 21, 22, 23, 24, 25, 26, 27, 28, 29, 30, 31, 32, 33, 34, 35, 36, 37, 38, 39, 40, 41, 42, 43, 44, 45, 46, 47, 48, 49, 50, 51, 52, 53, 54, 55, 56, 57, 58, 59, 60, 61, 62, 63, 64, 65, 66, 67, 68, 69, 70, 71, 72, 73, 74] rfl rfl (by decide) [76, 77, 78, 79, 80, 81, 82, 83, 84, 85, 86, 87, 88, 89, 90, 91, 92, 93, 94, 95, 96, 97, 98, 99, 100, 101, 102, 103, 104, 105, 106, 107, 108, 109, 110, 111, 112, 113, 114, 115, 116, 117, 118, 119, 120, 121, 122, 123, 124, 125, 126, 127, 128, 129, 130, 131, 132, 133, 134, 135, 136, 137, 138, 139, 140, 141, 142, 143, 144, 145, 146, 147, 148, 149, 150, 75] rfl (by decide) rfl rfl rfl (Nat.le_of_ble_eq_true rfl) dL_does_576 ⟨Nat.zero_le _, Nat.zero_le _⟩ (fun H locs hP hD hS => ?_)
                                    obtain ⟨xx_78, exx_78⟩ : ∃ z, z = (setV q_77.2 10 (xx 10)) := ⟨_, rfl⟩
                                    rw [← exx_78] at hP hD
                                    replace hR := lt_e hR exx_78
                                    have h01 := (show q_77.1 = 0 ∨ q_77.1 = 1 from by rw [eq_77]; exact zL_isHeard _ _ _ _ _)
                                    subst hR
                                    exact mu_zret hx hb hr hk h01 hA hS hP rfl dL_does_579
                                  · rw [if_pos c_76] at hR
                                    have tc_76 : r_2.toInt = 0 := i_eq.mp c_76
                                    refine lv_aload_n hx hb dL_does_543 rfl (lv_at hl 7 rfl) ?_
                                    refine lv_iconst (v := 0) hx hb dL_does_544 (by decide) ?_
                                    refine lv_iconst (v := 0) hx hb dL_does_545 (by decide) ?_
                                    refine lv_iconst (v := 0) hx hb dL_does_546 (by decide) ?_
                                    refine lv_iconst (v := 0) hx hb dL_does_547 (by decide) ?_
                                    obtain ⟨q_79, eq_79⟩ : ∃ z, z = (mX5_complain xx 0 0 0 0) := ⟨_, rfl⟩
                                    have hM := MX5_complain l D q ad xx 0 0 0 0 hrg
                                    rw [← eq_79] at hM
                                    replace hR := lt_e hR eq_79
                                    refine mu_V (D := D) (ws := (wXW q ad xx)) (ws' := (wXW q ad (setV q_79.2 10 (xx 10)))) (rest := []) (As := [.int 0, .int 0, .int 0, .int 0]) hx hb hml hown hts hl hM gL_does_X5_complain rfl kX5_complain ⟨Nat.le_of_ble_eq_true rfl, Nat.le_of_ble_eq_true rfl⟩ rfl rfl hP hD hS hG [0, 1, 2, 3, 4, 5, 6, 7, 8, 9, 10, 11, 12, 13, 14, 15, 16, 17, 18, 19, 20, 21, 22, 23, 24, 25, 26, 27, 28, 29, 30, 31, 32, 33, 34, 35, 36, 37, 38, 39, 40, 41, 42, 43, 44, 45, 46, 47, 48, 49, 50, 51, 52, 53, 54, 55, 56, 57, 58, 59, 60, 61, 62, 63, 64, 65, 66, 67, 68, 69, 70, 71, 72, 73, 74] rfl rfl (by decide) [76, 77, 78, 79, 80, 81, 82, 83, 84, 85, 86, 87, 88, 89, 90, 91, 92, 93, 94, 95, 96, 97, 98, 99, 100, 101, 102, 103, 104, 105, 106, 107, 108, 109, 110, 111, 112, 113, 114, 115, 116, 117, 118, 119, 120, 121, 122, 123, 124, 125, 126, 127, 128, 129, 130, 131, 132, 133, 134, 135, 136, 137, 138, 139, 140, 141, 142, 143, 144, 145, 146, 147, 148, 149, 150, 75] rfl (by decide) rfl (ci := 3) rfl rfl rfl rfl (Nat.le_of_ble_eq_true rfl) dL_does_548 ⟨Nat.zero_le _, Nat.zero_le _⟩ (fun H locs hP hD hS => ?_)
                                    obtain ⟨xx_80, exx_80⟩ : ∃ z, z = (setV q_79.2 10 (xx 10)) := ⟨_, rfl⟩
                                    rw [← exx_80] at hP hD
                                    replace hR := lt_e hR exx_80
                                    refine lv_iconst (v := (-1)) hx hb dL_does_551 (by decide) ?_
                                    refine lv_icmp_ne (tgt := 559) hx hb dL_does_552 (by decide) (fun c_81 => ?_) (fun c_81 => ?_)
                                    · rw [if_neg c_81] at hR
                                      have tc_81 : ¬ q_79.1.toInt = (-1) := fun z => c_81 (i_eq.mpr z)
                                      refine lv_iconst (v := 0) hx hb dL_does_559 (by decide) ?_
                                      refine lv_goto (tgt := 579) hx hb dL_does_560 (by decide) ?_
                                      have h01 : (0 : Int32) = 0 ∨ (0 : Int32) = 1 := (Or.inl rfl)
                                      subst hR
                                      exact mu_zret hx hb hr hk h01 hA hS hP rfl dL_does_579
                                    · rw [if_pos c_81] at hR
                                      have tc_81 : q_79.1.toInt = (-1) := i_eq.mp c_81
                                      refine lv_iconst (v := 1) hx hb dL_does_555 (by decide) ?_
                                      refine lv_goto (tgt := 579) hx hb dL_does_556 (by decide) ?_
                                      have h01 : (1 : Int32) = 0 ∨ (1 : Int32) = 1 := (Or.inr rfl)
                                      subst hR
                                      exact mu_zret hx hb hr hk h01 hA hS hP rfl dL_does_579
      refine lv_if_ne (tgt := 87) hx hb dL_does_80 (by decide) (fun c_82 => ?_) (fun c_82 => ?_)
      · rw [if_neg c_82] at hR
        have tc_82 : ¬ r_2.toInt = 0 := fun z => c_82 (i_eq.mpr z)
        refine lv_iload_n hx hb dL_does_87 rfl (lv_at hl 8 rfl) ?_
        refine lv_bipush (v := 8) hx hb dL_does_88 (by decide) ?_
        refine lv_ishr hx hb dL_does_90 ?_
        refine lv_iload hx hb dL_does_91 (lv_at hl 4 rfl) ?_
        refine ro_S (v := .int (mL_low (v0 >>> (8 &&& 31)) r_2)) (rest := []) (As := [.int (v0 >>> (8 &&& 31)), .int r_2]) hx hb hml hown hts hl (ML_low l D q (v0 >>> (8 &&& 31)) r_2 (by assumption)) gL_does_L_low rfl kL_low ⟨Nat.le_of_ble_eq_true rfl, Nat.le_of_ble_eq_true rfl⟩ rfl rfl (hP.sub (ws' := []) [] rfl) (dT (hD.sub (ws' := []) [] (by decide) rfl)) hG rfl rfl (Nat.le_of_ble_eq_true rfl) dL_does_93 ⟨Nat.zero_le _, Nat.zero_le _⟩ ?_
        exact key_96_8 (mL_low (v0 >>> (8 &&& 31)) r_2) hR ls (lv_sub hl [0, 1, 2, 3, 4, 5, 6, 7, 8, 9] rfl)
      · rw [if_pos c_82] at hR
        have tc_82 : r_2.toInt = 0 := i_eq.mp c_82
        refine lv_iconst (v := 0) hx hb dL_does_83 (by decide) ?_
        refine lv_goto (tgt := 96) hx hb dL_does_84 (by decide) ?_
        exact key_96_8 0 hR ls (lv_sub hl [0, 1, 2, 3, 4, 5, 6, 7, 8, 9] rfl)
    refine lv_if_ne (tgt := 68) hx hb dL_does_61 (by decide) (fun c_83 => ?_) (fun c_83 => ?_)
    · rw [if_neg c_83] at hR
      have tc_83 : ¬ r_1.toInt = 0 := fun z => c_83 (i_eq.mpr z)
      refine lv_iload_n hx hb dL_does_68 rfl (lv_at hl 7 rfl) ?_
      refine lv_iconst (v := 5) hx hb dL_does_69 (by decide) ?_
      refine lv_ishr hx hb dL_does_70 ?_
      refine lv_iload hx hb dL_does_71 (lv_at hl 4 rfl) ?_
      refine ro_S (v := .int (mL_low (v0 >>> (5 &&& 31)) r_1)) (rest := []) (As := [.int (v0 >>> (5 &&& 31)), .int r_1]) hx hb hml hown hts hl (ML_low l D q (v0 >>> (5 &&& 31)) r_1 (by assumption)) gL_does_L_low rfl kL_low ⟨Nat.le_of_ble_eq_true rfl, Nat.le_of_ble_eq_true rfl⟩ rfl rfl (hP.sub (ws' := []) [] rfl) (dT (hD.sub (ws' := []) [] (by decide) rfl)) hG rfl rfl (Nat.le_of_ble_eq_true rfl) dL_does_73 ⟨Nat.zero_le _, Nat.zero_le _⟩ ?_
      exact key_76_7 (mL_low (v0 >>> (5 &&& 31)) r_1) hR ls (lv_sub hl [0, 1, 2, 3, 4, 5, 6, 7, 8] rfl)
    · rw [if_pos c_83] at hR
      have tc_83 : r_1.toInt = 0 := i_eq.mp c_83
      refine lv_iconst (v := 0) hx hb dL_does_64 (by decide) ?_
      refine lv_goto (tgt := 76) hx hb dL_does_65 (by decide) ?_
      exact key_76_7 0 hR ls (lv_sub hl [0, 1, 2, 3, 4, 5, 6, 7, 8] rfl)
  refine lv_if_ge (tgt := 42) hx hb dL_does_29 (by decide) (fun c_84 => ?_) (fun c_84 => ?_)
  · rw [if_pos c_84] at hR
    have tc_84 : 0 ≤ r_4.toInt := i_le.mp c_84
    refine lv_iconst (v := 1) hx hb dL_does_42 (by decide) ?_
    refine lv_goto (tgt := 47) hx hb dL_does_43 (by decide) ?_
    exact key_47_5 1 hR ls (lv_sub hl [0, 1, 2, 3, 4, 5, 6] rfl)
  · rw [if_neg c_84] at hR
    have tc_84 : ¬ 0 ≤ r_4.toInt := fun z => c_84 (i_le.mpr z)
    refine lv_aload_n hx hb dL_does_32 rfl (lv_at hl 3 rfl) ?_
    refine lv_iload hx hb dL_does_33 (lv_at hl 0 rfl) ?_
    refine lv_iconst (v := 1) hx hb dL_does_35 (by decide) ?_
    refine ro_V (v := .int (mX5_yardOf (xx 0) r_3 1)) (rest := []) (As := [.int r_3, .int 1]) hx hb hml hown hts hl (MX5_yardOf l D q ad (xx 9 0 0) (xx 0) r_3 1) gL_does_X5_yardOf rfl kX5_yardOf ⟨Nat.le_of_ble_eq_true rfl, Nat.le_of_ble_eq_true rfl⟩ rfl rfl (hP.sub (ws' := (wXN q ad (xx 9 0 0) (xx 0))) [0, 1, 2, 3, 4, 5, 6, 7, 8, 9, 10] rfl) (dT (hD.sub (ws' := (wXN q ad (xx 9 0 0) (xx 0))) [0, 1, 2, 3, 4, 5, 6, 7, 8, 9, 10] (by decide) rfl)) hG (ci := 3) rfl rfl rfl rfl (Nat.le_of_ble_eq_true rfl) dL_does_36 ⟨Nat.zero_le _, Nat.zero_le _⟩ ?_
    refine lv_if_lt (tgt := 46) hx hb dL_does_39 (by decide) (fun c_85 => ?_) (fun c_85 => ?_)
    · rw [if_pos c_85] at hR
      have tc_85 : (mX5_yardOf (xx 0) r_3 1).toInt < 0 := i_lt.mp c_85
      refine lv_iconst (v := 0) hx hb dL_does_46 (by decide) ?_
      exact key_47_5 0 hR ls (lv_sub hl [0, 1, 2, 3, 4, 5, 6] rfl)
    · rw [if_neg c_85] at hR
      have tc_85 : ¬ (mX5_yardOf (xx 0) r_3 1).toInt < 0 := fun z => c_85 (i_lt.mpr z)
      refine lv_iconst (v := 1) hx hb dL_does_42 (by decide) ?_
      refine lv_goto (tgt := 47) hx hb dL_does_43 (by decide) ?_
      exact key_47_5 1 hR ls (lv_sub hl [0, 1, 2, 3, 4, 5, 6] rfl)
