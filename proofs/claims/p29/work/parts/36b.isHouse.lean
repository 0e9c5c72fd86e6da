def mL_isHouse_92 (xx : Nat → Nat → Nat → Int32) (house : Int32) (mill : Int32) (r_1 : Int32) (y23_s0_3 : Int32) (r_4 : Int32) (y87_s0_8 : Int32) (C : Int32 → Int32) : Nat → Int32 → Int32
  | 0, x9_92 => C x9_92
  | n_92 + 1, x9_92 => (lt (x9_92 / 2) (fun e_18 => (lt ((if e_18 < 6 then 1 else (if e_18 ≤ 21 then 0 else 1)) : Int32) (fun y124_s0_19 => (lt ((if y124_s0_19 = 0 then (mX5_count xx 12) else (mX5_count xx 13)) : Int32) (fun y155_s0_20 => (lt ((if ((2 * ((xx 10 0) (e_18).toNatClampNeg)) - y87_s0_8) ≤ y155_s0_20 then 0 else 1) : Int32) (fun y163_s0_21 => (lt ((if (x9_92 - x9_92 / 2 * 2) = 0 then y163_s0_21 else (if (mX5_shadow (xx 0) mill r_1 e_18 0) = 1 then 1 else 0)) : Int32) (fun y196_s0_22 => (lt ((if e_18 ≤ 5 then 0 else (if 19 ≤ e_18 then 0 else 1)) : Int32) (fun y216_s0_23 => (lt ((if y23_s0_3 = 0 then (if (mL_has r_4 e_18) = 0 then (if 2 ≤ ((xx 10 0) (e_18).toNatClampNeg) then (if y196_s0_22 = 0 then (if (x9_92 - x9_92 / 2 * 2) = 0 then 5 else (if y216_s0_23 = 0 then 5 else 6)) else 0) else 4) else 3) else 1) : Int32) (fun y280_s0_24 => (lt (mX5_why (xx 0) house mill (x9_92 - x9_92 / 2 * 2) e_18) (fun r_25 => (if r_25 = y280_s0_24 then (mL_isHouse_92 xx house mill r_1 y23_s0_3 r_4 y87_s0_8 C n_92 (x9_92 + 1)) else (if r_25 = 2 then (if y23_s0_3 = 0 then (mL_isHouse_92 xx house mill r_1 y23_s0_3 r_4 y87_s0_8 C n_92 (x9_92 + 1)) else 0) else 0))))))))))))))))))
def mL_isHouse (xx : Nat → Nat → Nat → Int32) (house mill : Int32) : Int32 := (lt (mX5_houseOf (xx 0) house 0) (fun r_1 => (lt (mX5_houseOf (xx 0) house 1) (fun r_2 => (lt ((if r_2 ≤ 2 then 0 else 1) : Int32) (fun y23_s0_3 => (lt (mX5_millOf (xx 0) mill 2) (fun r_4 => (lt (mX5_millOf (xx 0) mill 1) (fun r_5 => (lt (mL_size ((r_1 - r_1 / 12 * 12) - (r_5 - r_5 / 12 * 12))) (fun r_6 => (lt (mL_size ((r_1 / 12) - (r_5 / 12))) (fun r_7 => (lt ((if r_6 ≤ r_7 then r_7 else r_6) : Int32) (fun y87_s0_8 => (mL_isHouse_92 xx house mill r_1 y23_s0_3 r_4 y87_s0_8 (fun x9_92 => (lt (mX5_houseOf (xx 0) house 2) (fun r_10 => (lt ((if y23_s0_3 = 0 then 0 else 1) : Int32) (fun y338_s0_11 => (if r_10 = y338_s0_11 then (lt (mX5_yardOf (xx 0) r_1 1) (fun r_13 => (if r_13 = house then (lt (mX5_yardOf (xx 0) r_1 0) (fun r_15 => (if r_15 = (-5) then 1 else 0))) else 0))) else 0)))))) (tr 0 48) 0)))))))))))))))))
theorem kL_isHouse : yL_isHouse.cls ≠ "java/lang/invoke/MethodHandle" ∧ yL_isHouse.cls ≠ "java/lang/invoke/VarHandle" ∧ (parseMethodDescriptor yL_isHouse.desc).map (fun d => d.parameters.length) = some 4 := by decide +kernel
set_option maxHeartbeats 4000000 in
set_option maxRecDepth 100000 in
theorem ML_isHouse (l : Launch) (D : va_G) (q : Nat → ClassId) (ad : Nat → Nat → Nat) (xx : Nat → Nat → Nat → Int32) (house mill : Int32)  : roM l D (tyq q) yL_isHouse wsL_isHouse ({ frames := 7, cells := 0, slots := 0, locals := 152 } : Room) [.ref (ad 9 0), .ref (ad 10 0), .int house, .int mill] (wXW q ad xx) (some (.int (mL_isHouse xx house mill))) := by
  obtain ⟨R, hR⟩ : ∃ z, (mL_isHouse xx house mill) = z := ⟨_, rfl⟩
  rw [hR]
  unfold mL_isHouse at hR
  refine roM.of (cc := cL_isHouse) (maxL := 17) (ret := (some .boolean)) (by decide) rfl (Nat.le_of_ble_eq_true rfl) ?_
  intro p e s m below meth c ls hx hb hr hk hml hown hts hP hD hG hl
  have hl : lv_has ls 17 [(0, .ref (ad 9 0)), (1, .ref (ad 10 0)), (2, .int house), (3, .int mill)] := hl
  refine lv_aload_n hx hb dL_isHouse_0 rfl (lv_at hl 0 rfl) ?_
  refine lv_iload_n hx hb dL_isHouse_1 rfl (lv_at hl 2 rfl) ?_
  refine lv_iconst (v := 0) hx hb dL_isHouse_2 (by decide) ?_
  refine ro_V (v := .int (mX5_houseOf (xx 0) house 0)) (rest := []) (As := [.int house, .int 0]) hx hb hml hown hts hl (MX5_houseOf l D q ad (xx 9 0 0) (xx 0) house 0) gL_isHouse_X5_houseOf rfl kX5_houseOf ⟨Nat.le_of_ble_eq_true rfl, Nat.le_of_ble_eq_true rfl⟩ rfl rfl (hP.sub (ws' := (wXN q ad (xx 9 0 0) (xx 0))) [0, 1, 2, 3, 4, 5, 6, 7, 8, 9, 10] rfl) (dT (hD.sub (ws' := (wXN q ad (xx 9 0 0) (xx 0))) [0, 1, 2, 3, 4, 5, 6, 7, 8, 9, 10] (by decide) rfl)) hG (ci := 3) rfl rfl rfl rfl (Nat.le_of_ble_eq_true rfl) dL_isHouse_3 ⟨Nat.zero_le _, Nat.zero_le _⟩ ?_
  obtain ⟨r_1, er_1⟩ : ∃ z, z = (mX5_houseOf (xx 0) house 0) := ⟨_, rfl⟩
  rw [← er_1]
  replace hR := lt_e hR er_1
  refine lv_istore (lv' := [(4, .int r_1), (0, .ref (ad 9 0)), (1, .ref (ad 10 0)), (2, .int house), (3, .int mill)]) hx hb dL_isHouse_6 hl (by decide) rfl (fun ls hl => ?_)
  refine lv_aload_n hx hb dL_isHouse_8 rfl (lv_at hl 1 rfl) ?_
  refine lv_iload_n hx hb dL_isHouse_9 rfl (lv_at hl 3 rfl) ?_
  refine lv_iconst (v := 1) hx hb dL_isHouse_10 (by decide) ?_
  refine ro_V (v := .int (mX5_houseOf (xx 0) house 1)) (rest := []) (As := [.int house, .int 1]) hx hb hml hown hts hl (MX5_houseOf l D q ad (xx 9 0 0) (xx 0) house 1) gL_isHouse_X5_houseOf rfl kX5_houseOf ⟨Nat.le_of_ble_eq_true rfl, Nat.le_of_ble_eq_true rfl⟩ rfl rfl (hP.sub (ws' := (wXN q ad (xx 9 0 0) (xx 0))) [0, 1, 2, 3, 4, 5, 6, 7, 8, 9, 10] rfl) (dT (hD.sub (ws' := (wXN q ad (xx 9 0 0) (xx 0))) [0, 1, 2, 3, 4, 5, 6, 7, 8, 9, 10] (by decide) rfl)) hG (ci := 3) rfl rfl rfl rfl (Nat.le_of_ble_eq_true rfl) dL_isHouse_11 ⟨Nat.zero_le _, Nat.zero_le _⟩ ?_
  obtain ⟨r_2, er_2⟩ : ∃ z, z = (mX5_houseOf (xx 0) house 1) := ⟨_, rfl⟩
  rw [← er_2]
  replace hR := lt_e hR er_2
  refine lv_iconst (v := 2) hx hb dL_isHouse_14 (by decide) ?_
  refine jn_1 hR (fun F_23_3 eF_23_3 hR => ?_)
  have key_23_3 : ∀ (y23_s0_3 : Int32), lt y23_s0_3 F_23_3 = R → ∀ ls : Array Slot, lv_has ls 17 [(4, .int r_1), (0, .ref (ad 9 0)), (1, .ref (ad 10 0)), (2, .int house), (3, .int mill)] → W p l e ({ frames := 7, cells := 0, slots := 0, locals := 152 } : Room) s m ([.ref (ad 9 0), .ref (ad 10 0), .int house, .int mill] : List Value).toArray below meth c s.heap [] 0 0 (MQ below (roQ (some (.int R))) ([.ref (ad 9 0), .ref (ad 10 0), .int house, .int mill] : List Value).toArray s 0 0 (fun _ => False)) (F0 m 23 ls [.int y23_s0_3]) := by
    intro y23_s0_3 hR ls hl
    rw [eF_23_3] at hR
    replace hR := jn_e1 hR
    refine lv_istore (lv' := [(5, .int y23_s0_3), (4, .int r_1), (0, .ref (ad 9 0)), (1, .ref (ad 10 0)), (2, .int house), (3, .int mill)]) hx hb dL_isHouse_23 hl (by decide) rfl (fun ls hl => ?_)
    refine lv_aload_n hx hb dL_isHouse_25 rfl (lv_at hl 2 rfl) ?_
    refine lv_iload_n hx hb dL_isHouse_26 rfl (lv_at hl 5 rfl) ?_
    refine lv_iconst (v := 2) hx hb dL_isHouse_27 (by decide) ?_
    refine ro_V (v := .int (mX5_millOf (xx 0) mill 2)) (rest := []) (As := [.int mill, .int 2]) hx hb hml hown hts hl (MX5_millOf l D q ad (xx 9 0 0) (xx 0) mill 2) gL_isHouse_X5_millOf rfl kX5_millOf ⟨Nat.le_of_ble_eq_true rfl, Nat.le_of_ble_eq_true rfl⟩ rfl rfl (hP.sub (ws' := (wXN q ad (xx 9 0 0) (xx 0))) [0, 1, 2, 3, 4, 5, 6, 7, 8, 9, 10] rfl) (dT (hD.sub (ws' := (wXN q ad (xx 9 0 0) (xx 0))) [0, 1, 2, 3, 4, 5, 6, 7, 8, 9, 10] (by decide) rfl)) hG (ci := 3) rfl rfl rfl rfl (Nat.le_of_ble_eq_true rfl) dL_isHouse_28 ⟨Nat.zero_le _, Nat.zero_le _⟩ ?_
    obtain ⟨r_4, er_4⟩ : ∃ z, z = (mX5_millOf (xx 0) mill 2) := ⟨_, rfl⟩
    rw [← er_4]
    replace hR := lt_e hR er_4
    refine lv_istore (lv' := [(6, .int r_4), (5, .int y23_s0_3), (4, .int r_1), (0, .ref (ad 9 0)), (1, .ref (ad 10 0)), (2, .int house), (3, .int mill)]) hx hb dL_isHouse_31 hl (by decide) rfl (fun ls hl => ?_)
    refine lv_iload hx hb dL_isHouse_33 (lv_at hl 2 rfl) ?_
    refine lv_bipush (v := 12) hx hb dL_isHouse_35 (by decide) ?_
    refine lv_irem hx hb dL_isHouse_37 (by decide) ?_
    refine lv_aload_n hx hb dL_isHouse_38 rfl (lv_at hl 3 rfl) ?_
    refine lv_iload_n hx hb dL_isHouse_39 rfl (lv_at hl 6 rfl) ?_
    refine lv_iconst (v := 1) hx hb dL_isHouse_40 (by decide) ?_
    refine ro_V (v := .int (mX5_millOf (xx 0) mill 1)) (rest := [.int (r_1 - r_1 / 12 * 12)]) (As := [.int mill, .int 1]) hx hb hml hown hts hl (MX5_millOf l D q ad (xx 9 0 0) (xx 0) mill 1) gL_isHouse_X5_millOf rfl kX5_millOf ⟨Nat.le_of_ble_eq_true rfl, Nat.le_of_ble_eq_true rfl⟩ rfl rfl (hP.sub (ws' := (wXN q ad (xx 9 0 0) (xx 0))) [0, 1, 2, 3, 4, 5, 6, 7, 8, 9, 10] rfl) (dT (hD.sub (ws' := (wXN q ad (xx 9 0 0) (xx 0))) [0, 1, 2, 3, 4, 5, 6, 7, 8, 9, 10] (by decide) rfl)) hG (ci := 3) rfl rfl rfl rfl (Nat.le_of_ble_eq_true rfl) dL_isHouse_41 ⟨Nat.zero_le _, Nat.zero_le _⟩ ?_
    obtain ⟨r_5, er_5⟩ : ∃ z, z = (mX5_millOf (xx 0) mill 1) := ⟨_, rfl⟩
    rw [← er_5]
    replace hR := lt_e hR er_5
    refine lv_bipush (v := 12) hx hb dL_isHouse_44 (by decide) ?_
    refine lv_irem hx hb dL_isHouse_46 (by decide) ?_
    refine lv_isub hx hb dL_isHouse_47 ?_
    refine ro_S (v := .int (mL_size ((r_1 - r_1 / 12 * 12) - (r_5 - r_5 / 12 * 12)))) (rest := []) (As := [.int ((r_1 - r_1 / 12 * 12) - (r_5 - r_5 / 12 * 12))]) hx hb hml hown hts hl (ML_size l D q ((r_1 - r_1 / 12 * 12) - (r_5 - r_5 / 12 * 12))) gL_isHouse_L_size rfl kL_size ⟨Nat.le_of_ble_eq_true rfl, Nat.le_of_ble_eq_true rfl⟩ rfl rfl (hP.sub (ws' := []) [] rfl) (dT (hD.sub (ws' := []) [] (by decide) rfl)) hG rfl rfl (Nat.le_of_ble_eq_true rfl) dL_isHouse_48 ⟨Nat.zero_le _, Nat.zero_le _⟩ ?_
    obtain ⟨r_6, er_6⟩ : ∃ z, z = (mL_size ((r_1 - r_1 / 12 * 12) - (r_5 - r_5 / 12 * 12))) := ⟨_, rfl⟩
    rw [← er_6]
    replace hR := lt_e hR er_6
    refine lv_istore (lv' := [(7, .int r_6), (6, .int r_4), (5, .int y23_s0_3), (4, .int r_1), (0, .ref (ad 9 0)), (1, .ref (ad 10 0)), (2, .int house), (3, .int mill)]) hx hb dL_isHouse_51 hl (by decide) rfl (fun ls hl => ?_)
    refine lv_iload hx hb dL_isHouse_53 (lv_at hl 3 rfl) ?_
    refine lv_bipush (v := 12) hx hb dL_isHouse_55 (by decide) ?_
    refine lv_idiv hx hb dL_isHouse_57 (by decide) ?_
    refine lv_aload_n hx hb dL_isHouse_58 rfl (lv_at hl 4 rfl) ?_
    refine lv_iload_n hx hb dL_isHouse_59 rfl (lv_at hl 7 rfl) ?_
    refine lv_iconst (v := 1) hx hb dL_isHouse_60 (by decide) ?_
    refine ro_V (v := .int (mX5_millOf (xx 0) mill 1)) (rest := [.int (r_1 / 12)]) (As := [.int mill, .int 1]) hx hb hml hown hts hl (MX5_millOf l D q ad (xx 9 0 0) (xx 0) mill 1) gL_isHouse_X5_millOf rfl kX5_millOf ⟨Nat.le_of_ble_eq_true rfl, Nat.le_of_ble_eq_true rfl⟩ rfl rfl (hP.sub (ws' := (wXN q ad (xx 9 0 0) (xx 0))) [0, 1, 2, 3, 4, 5, 6, 7, 8, 9, 10] rfl) (dT (hD.sub (ws' := (wXN q ad (xx 9 0 0) (xx 0))) [0, 1, 2, 3, 4, 5, 6, 7, 8, 9, 10] (by decide) rfl)) hG (ci := 3) rfl rfl rfl rfl (Nat.le_of_ble_eq_true rfl) dL_isHouse_61 ⟨Nat.zero_le _, Nat.zero_le _⟩ ?_
    rw [← er_5]
    refine lv_bipush (v := 12) hx hb dL_isHouse_64 (by decide) ?_
    refine lv_idiv hx hb dL_isHouse_66 (by decide) ?_
    refine lv_isub hx hb dL_isHouse_67 ?_
    refine ro_S (v := .int (mL_size ((r_1 / 12) - (r_5 / 12)))) (rest := []) (As := [.int ((r_1 / 12) - (r_5 / 12))]) hx hb hml hown hts hl (ML_size l D q ((r_1 / 12) - (r_5 / 12))) gL_isHouse_L_size rfl kL_size ⟨Nat.le_of_ble_eq_true rfl, Nat.le_of_ble_eq_true rfl⟩ rfl rfl (hP.sub (ws' := []) [] rfl) (dT (hD.sub (ws' := []) [] (by decide) rfl)) hG rfl rfl (Nat.le_of_ble_eq_true rfl) dL_isHouse_68 ⟨Nat.zero_le _, Nat.zero_le _⟩ ?_
    obtain ⟨r_7, er_7⟩ : ∃ z, z = (mL_size ((r_1 / 12) - (r_5 / 12))) := ⟨_, rfl⟩
    rw [← er_7]
    replace hR := lt_e hR er_7
    refine lv_istore (lv' := [(8, .int r_7), (7, .int r_6), (6, .int r_4), (5, .int y23_s0_3), (4, .int r_1), (0, .ref (ad 9 0)), (1, .ref (ad 10 0)), (2, .int house), (3, .int mill)]) hx hb dL_isHouse_71 hl (by decide) rfl (fun ls hl => ?_)
    refine lv_iload hx hb dL_isHouse_73 (lv_at hl 1 rfl) ?_
    refine lv_iload hx hb dL_isHouse_75 (lv_at hl 0 rfl) ?_
    refine jn_1 hR (fun F_87_8 eF_87_8 hR => ?_)
    have key_87_8 : ∀ (y87_s0_8 : Int32), lt y87_s0_8 F_87_8 = R → ∀ ls : Array Slot, lv_has ls 17 [(8, .int r_7), (7, .int r_6), (6, .int r_4), (5, .int y23_s0_3), (4, .int r_1), (0, .ref (ad 9 0)), (1, .ref (ad 10 0)), (2, .int house), (3, .int mill)] → W p l e ({ frames := 7, cells := 0, slots := 0, locals := 152 } : Room) s m ([.ref (ad 9 0), .ref (ad 10 0), .int house, .int mill] : List Value).toArray below meth c s.heap [] 0 0 (MQ below (roQ (some (.int R))) ([.ref (ad 9 0), .ref (ad 10 0), .int house, .int mill] : List Value).toArray s 0 0 (fun _ => False)) (F0 m 87 ls [.int y87_s0_8]) := by
      intro y87_s0_8 hR ls hl
      rw [eF_87_8] at hR
      replace hR := jn_e1 hR
      refine lv_istore (lv' := [(7, .int y87_s0_8), (8, .int r_7), (6, .int r_4), (5, .int y23_s0_3), (4, .int r_1), (0, .ref (ad 9 0)), (1, .ref (ad 10 0)), (2, .int house), (3, .int mill)]) hx hb dL_isHouse_87 hl (by decide) rfl (fun ls hl => ?_)
      refine lv_iconst (v := 0) hx hb dL_isHouse_89 (by decide) ?_
      refine lv_istore (lv' := [(9, .int 0), (7, .int y87_s0_8), (8, .int r_7), (6, .int r_4), (5, .int y23_s0_3), (4, .int r_1), (0, .ref (ad 9 0)), (1, .ref (ad 10 0)), (2, .int house), (3, .int mill)]) hx hb dL_isHouse_90 hl (by decide) rfl (fun ls hl => ?_)
      have key_92 : ∀ (n_92 : Nat) (x9_92 : Int32), tr x9_92 48 = n_92 → 0 ≤ x9_92.toInt → mL_isHouse_92 xx house mill r_1 y23_s0_3 r_4 y87_s0_8 (fun x9_92 => (lt (mX5_houseOf (xx 0) house 2) (fun r_10 => (lt ((if y23_s0_3 = 0 then 0 else 1) : Int32) (fun y338_s0_11 => (if r_10 = y338_s0_11 then (lt (mX5_yardOf (xx 0) r_1 1) (fun r_13 => (if r_13 = house then (lt (mX5_yardOf (xx 0) r_1 0) (fun r_15 => (if r_15 = (-5) then 1 else 0))) else 0))) else 0)))))) n_92 x9_92 = R → ∀ ls : Array Slot, lv_has ls 17 [(9, .int x9_92), (7, .int y87_s0_8), (8, .int r_7), (6, .int r_4), (5, .int y23_s0_3), (4, .int r_1), (0, .ref (ad 9 0)), (1, .ref (ad 10 0)), (2, .int house), (3, .int mill)] → W p l e ({ frames := 7, cells := 0, slots := 0, locals := 152 } : Room) s m ([.ref (ad 9 0), .ref (ad 10 0), .int house, .int mill] : List Value).toArray below meth c s.heap [] 0 0 (MQ below (roQ (some (.int R))) ([.ref (ad 9 0), .ref (ad 10 0), .int house, .int mill] : List Value).toArray s 0 0 (fun _ => False)) (F0 m 92 ls []) := by
        intro n_92
        induction n_92 with
        | zero =>
          intro x9_92 hn_92 hk_92 hR ls hl
          rw [mL_isHouse_92] at hR
          refine lv_iload hx hb dL_isHouse_92 (lv_at hl 0 rfl) ?_
          refine lv_bipush (v := 48) hx hb dL_isHouse_94 (by decide) ?_
          refine lv_icmp_ge (tgt := 322) hx hb dL_isHouse_96 (by decide) (fun c_9 => ?_) (fun c_9 => (tr0 hn_92 c_9).elim)
          refine lv_aload_n hx hb dL_isHouse_322 rfl (lv_at hl 6 rfl) ?_
          refine lv_iload_n hx hb dL_isHouse_323 rfl (lv_at hl 8 rfl) ?_
          refine lv_iconst (v := 2) hx hb dL_isHouse_324 (by decide) ?_
          refine ro_V (v := .int (mX5_houseOf (xx 0) house 2)) (rest := []) (As := [.int house, .int 2]) hx hb hml hown hts hl (MX5_houseOf l D q ad (xx 9 0 0) (xx 0) house 2) gL_isHouse_X5_houseOf rfl kX5_houseOf ⟨Nat.le_of_ble_eq_true rfl, Nat.le_of_ble_eq_true rfl⟩ rfl rfl (hP.sub (ws' := (wXN q ad (xx 9 0 0) (xx 0))) [0, 1, 2, 3, 4, 5, 6, 7, 8, 9, 10] rfl) (dT (hD.sub (ws' := (wXN q ad (xx 9 0 0) (xx 0))) [0, 1, 2, 3, 4, 5, 6, 7, 8, 9, 10] (by decide) rfl)) hG (ci := 3) rfl rfl rfl rfl (Nat.le_of_ble_eq_true rfl) dL_isHouse_325 ⟨Nat.zero_le _, Nat.zero_le _⟩ ?_
          obtain ⟨r_10, er_10⟩ : ∃ z, z = (mX5_houseOf (xx 0) house 2) := ⟨_, rfl⟩
          rw [← er_10]
          replace hR := lt_e hR er_10
          refine lv_iload hx hb dL_isHouse_328 (lv_at hl 4 rfl) ?_
          refine jn_1 hR (fun F_338_11 eF_338_11 hR => ?_)
          have key_338_11 : ∀ (y338_s0_11 : Int32), lt y338_s0_11 F_338_11 = R → ∀ ls : Array Slot, lv_has ls 17 [(9, .int x9_92), (7, .int y87_s0_8), (8, .int r_7), (6, .int r_4), (5, .int y23_s0_3), (4, .int r_1), (0, .ref (ad 9 0)), (1, .ref (ad 10 0)), (2, .int house), (3, .int mill)] → W p l e ({ frames := 7, cells := 0, slots := 0, locals := 152 } : Room) s m ([.ref (ad 9 0), .ref (ad 10 0), .int house, .int mill] : List Value).toArray below meth c s.heap [] 0 0 (MQ below (roQ (some (.int R))) ([.ref (ad 9 0), .ref (ad 10 0), .int house, .int mill] : List Value).toArray s 0 0 (fun _ => False)) (F0 m 338 ls [.int y338_s0_11, .int r_10]) := by
            intro y338_s0_11 hR ls hl
            rw [eF_338_11] at hR
            replace hR := jn_e1 hR
            refine lv_icmp_ne (tgt := 368) hx hb dL_isHouse_338 (by decide) (fun c_12 => ?_) (fun c_12 => ?_)
            · rw [if_neg c_12] at hR
              have tc_12 : ¬ r_10.toInt = y338_s0_11.toInt := fun z => c_12 (i_eq.mpr z)
              refine lv_iconst (v := 0) hx hb dL_isHouse_368 (by decide) ?_
              exact ro_zret hx hb hr hk (Or.inl rfl) hR dL_isHouse_369
            · rw [if_pos c_12] at hR
              have tc_12 : r_10.toInt = y338_s0_11.toInt := i_eq.mp c_12
              refine lv_aload_n hx hb dL_isHouse_341 rfl (lv_at hl 6 rfl) ?_
              refine lv_iload hx hb dL_isHouse_342 (lv_at hl 5 rfl) ?_
              refine lv_iconst (v := 1) hx hb dL_isHouse_344 (by decide) ?_
              refine ro_V (v := .int (mX5_yardOf (xx 0) r_1 1)) (rest := []) (As := [.int r_1, .int 1]) hx hb hml hown hts hl (MX5_yardOf l D q ad (xx 9 0 0) (xx 0) r_1 1) gL_isHouse_X5_yardOf rfl kX5_yardOf ⟨Nat.le_of_ble_eq_true rfl, Nat.le_of_ble_eq_true rfl⟩ rfl rfl (hP.sub (ws' := (wXN q ad (xx 9 0 0) (xx 0))) [0, 1, 2, 3, 4, 5, 6, 7, 8, 9, 10] rfl) (dT (hD.sub (ws' := (wXN q ad (xx 9 0 0) (xx 0))) [0, 1, 2, 3, 4, 5, 6, 7, 8, 9, 10] (by decide) rfl)) hG (ci := 3) rfl rfl rfl rfl (Nat.le_of_ble_eq_true rfl) dL_isHouse_345 ⟨Nat.zero_le _, Nat.zero_le _⟩ ?_
              obtain ⟨r_13, er_13⟩ : ∃ z, z = (mX5_yardOf (xx 0) r_1 1) := ⟨_, rfl⟩
              rw [← er_13]
              replace hR := lt_e hR er_13
              refine lv_iload_n hx hb dL_isHouse_348 rfl (lv_at hl 8 rfl) ?_
              refine lv_icmp_ne (tgt := 368) hx hb dL_isHouse_349 (by decide) (fun c_14 => ?_) (fun c_14 => ?_)
              · rw [if_neg c_14] at hR
                have tc_14 : ¬ r_13.toInt = house.toInt := fun z => c_14 (i_eq.mpr z)
                refine lv_iconst (v := 0) hx hb dL_isHouse_368 (by decide) ?_
                exact ro_zret hx hb hr hk (Or.inl rfl) hR dL_isHouse_369
              · rw [if_pos c_14] at hR
                have tc_14 : r_13.toInt = house.toInt := i_eq.mp c_14
                refine lv_aload_n hx hb dL_isHouse_352 rfl (lv_at hl 6 rfl) ?_
                refine lv_iload hx hb dL_isHouse_353 (lv_at hl 5 rfl) ?_
                refine lv_iconst (v := 0) hx hb dL_isHouse_355 (by decide) ?_
                refine ro_V (v := .int (mX5_yardOf (xx 0) r_1 0)) (rest := []) (As := [.int r_1, .int 0]) hx hb hml hown hts hl (MX5_yardOf l D q ad (xx 9 0 0) (xx 0) r_1 0) gL_isHouse_X5_yardOf rfl kX5_yardOf ⟨Nat.le_of_ble_eq_true rfl, Nat.le_of_ble_eq_true rfl⟩ rfl rfl (hP.sub (ws' := (wXN q ad (xx 9 0 0) (xx 0))) [0, 1, 2, 3, 4, 5, 6, 7, 8, 9, 10] rfl) (dT (hD.sub (ws' := (wXN q ad (xx 9 0 0) (xx 0))) [0, 1, 2, 3, 4, 5, 6, 7, 8, 9, 10] (by decide) rfl)) hG (ci := 3) rfl rfl rfl rfl (Nat.le_of_ble_eq_true rfl) dL_isHouse_356 ⟨Nat.zero_le _, Nat.zero_le _⟩ ?_
                obtain ⟨r_15, er_15⟩ : ∃ z, z = (mX5_yardOf (xx 0) r_1 0) := ⟨_, rfl⟩
                rw [← er_15]
                replace hR := lt_e hR er_15
                refine lv_bipush (v := (-5)) hx hb dL_isHouse_359 (by decide) ?_
                refine lv_icmp_ne (tgt := 368) hx hb dL_isHouse_361 (by decide) (fun c_16 => ?_) (fun c_16 => ?_)
                · rw [if_neg c_16] at hR
                  have tc_16 : ¬ r_15.toInt = (-5) := fun z => c_16 (i_eq.mpr z)
                  refine lv_iconst (v := 0) hx hb dL_isHouse_368 (by decide) ?_
                  exact ro_zret hx hb hr hk (Or.inl rfl) hR dL_isHouse_369
                · rw [if_pos c_16] at hR
                  have tc_16 : r_15.toInt = (-5) := i_eq.mp c_16
                  refine lv_iconst (v := 1) hx hb dL_isHouse_364 (by decide) ?_
                  refine lv_goto (tgt := 369) hx hb dL_isHouse_365 (by decide) ?_
                  exact ro_zret hx hb hr hk (Or.inr rfl) hR dL_isHouse_369
          refine lv_if_eq (tgt := 337) hx hb dL_isHouse_330 (by decide) (fun c_17 => ?_) (fun c_17 => ?_)
          · rw [if_pos c_17] at hR
            have tc_17 : y23_s0_3.toInt = 0 := i_eq.mp c_17
            refine lv_iconst (v := 0) hx hb dL_isHouse_337 (by decide) ?_
            exact key_338_11 0 hR ls (lv_sub hl [0, 1, 2, 3, 4, 5, 6, 7, 8, 9] rfl)
          · rw [if_neg c_17] at hR
            have tc_17 : ¬ y23_s0_3.toInt = 0 := fun z => c_17 (i_eq.mpr z)
            refine lv_iconst (v := 1) hx hb dL_isHouse_333 (by decide) ?_
            refine lv_goto (tgt := 338) hx hb dL_isHouse_334 (by decide) ?_
            exact key_338_11 1 hR ls (lv_sub hl [0, 1, 2, 3, 4, 5, 6, 7, 8, 9] rfl)
        | succ n_92 ih_92 =>
          intro x9_92 hn_92 hk_92 hR ls hl
          rw [mL_isHouse_92] at hR
          refine lv_iload hx hb dL_isHouse_92 (lv_at hl 0 rfl) ?_
          refine lv_bipush (v := 48) hx hb dL_isHouse_94 (by decide) ?_
          refine lv_icmp_ge (tgt := 322) hx hb dL_isHouse_96 (by decide) (fun c_9 => (trS hn_92 c_9).elim) (fun c_9 => ?_)
          have hlt_c_9 : x9_92.toInt < 48 := k_lt c_9
          refine lv_iload hx hb dL_isHouse_99 (lv_at hl 0 rfl) ?_
          refine lv_iconst (v := 2) hx hb dL_isHouse_101 (by decide) ?_
          refine lv_idiv hx hb dL_isHouse_102 (by decide) ?_
          obtain ⟨e_18, ee_18⟩ : ∃ z, z = (x9_92 / 2) := ⟨_, rfl⟩
          rw [← ee_18]
          replace hR := lt_e hR ee_18
          have ue_18 : e_18.toInt = ((x9_92).toInt / 2) := by rw [ee_18]; exact (ti_div rfl (d := 2) rfl (by omega) (by omega))
          refine lv_istore (lv' := [(10, .int e_18), (9, .int x9_92), (7, .int y87_s0_8), (8, .int r_7), (6, .int r_4), (5, .int y23_s0_3), (4, .int r_1), (0, .ref (ad 9 0)), (1, .ref (ad 10 0)), (2, .int house), (3, .int mill)]) hx hb dL_isHouse_103 hl (by decide) rfl (fun ls hl => ?_)
          refine lv_iload hx hb dL_isHouse_105 (lv_at hl 0 rfl) ?_
          refine lv_bipush (v := 6) hx hb dL_isHouse_107 (by decide) ?_
          refine jn_1 hR (fun F_124_19 eF_124_19 hR => ?_)
          have key_124_19 : ∀ (y124_s0_19 : Int32), lt y124_s0_19 F_124_19 = R → ∀ ls : Array Slot, lv_has ls 17 [(10, .int e_18), (9, .int x9_92), (7, .int y87_s0_8), (8, .int r_7), (6, .int r_4), (5, .int y23_s0_3), (4, .int r_1), (0, .ref (ad 9 0)), (1, .ref (ad 10 0)), (2, .int house), (3, .int mill)] → W p l e ({ frames := 7, cells := 0, slots := 0, locals := 152 } : Room) s m ([.ref (ad 9 0), .ref (ad 10 0), .int house, .int mill] : List Value).toArray below meth c s.heap [] 0 0 (MQ below (roQ (some (.int R))) ([.ref (ad 9 0), .ref (ad 10 0), .int house, .int mill] : List Value).toArray s 0 0 (fun _ => False)) (F0 m 124 ls [.int y124_s0_19]) := by
            intro y124_s0_19 hR ls hl
            rw [eF_124_19] at hR
            replace hR := jn_e1 hR
            refine lv_istore (lv' := [(11, .int y124_s0_19), (10, .int e_18), (9, .int x9_92), (7, .int y87_s0_8), (8, .int r_7), (6, .int r_4), (5, .int y23_s0_3), (4, .int r_1), (0, .ref (ad 9 0)), (1, .ref (ad 10 0)), (2, .int house), (3, .int mill)]) hx hb dL_isHouse_124 hl (by decide) rfl (fun ls hl => ?_)
            refine lv_iconst (v := 2) hx hb dL_isHouse_126 (by decide) ?_
            refine lv_aload_n hx hb dL_isHouse_127 rfl (lv_at hl 9 rfl) ?_
            refine lv_iload hx hb dL_isHouse_128 (lv_at hl 1 rfl) ?_
            refine va_iald hx hb hG.1 hP 75 0 rfl rfl (ix_t (i := e_18) (x := (e_18).toInt) (n := 24) rfl (by omega)) dL_isHouse_130 ?_
            refine lv_imul hx hb dL_isHouse_131 ?_
            refine lv_iload hx hb dL_isHouse_132 (lv_at hl 3 rfl) ?_
            refine lv_isub hx hb dL_isHouse_134 ?_
            refine lv_iload hx hb dL_isHouse_135 (lv_at hl 0 rfl) ?_
            refine jn_1 hR (fun F_155_20 eF_155_20 hR => ?_)
            have key_155_20 : ∀ (y155_s0_20 : Int32), lt y155_s0_20 F_155_20 = R → ∀ ls : Array Slot, lv_has ls 17 [(11, .int y124_s0_19), (10, .int e_18), (9, .int x9_92), (7, .int y87_s0_8), (8, .int r_7), (6, .int r_4), (5, .int y23_s0_3), (4, .int r_1), (0, .ref (ad 9 0)), (1, .ref (ad 10 0)), (2, .int house), (3, .int mill)] → W p l e ({ frames := 7, cells := 0, slots := 0, locals := 152 } : Room) s m ([.ref (ad 9 0), .ref (ad 10 0), .int house, .int mill] : List Value).toArray below meth c s.heap [] 0 0 (MQ below (roQ (some (.int R))) ([.ref (ad 9 0), .ref (ad 10 0), .int house, .int mill] : List Value).toArray s 0 0 (fun _ => False)) (F0 m 155 ls [.int y155_s0_20, .int ((2 * ((xx 10 0) (e_18).toNatClampNeg)) - y87_s0_8)]) := by
              intro y155_s0_20 hR ls hl
              rw [eF_155_20] at hR
              replace hR := jn_e1 hR
              refine jn_1 hR (fun F_163_21 eF_163_21 hR => ?_)
              have key_163_21 : ∀ (y163_s0_21 : Int32), lt y163_s0_21 F_163_21 = R → ∀ ls : Array Slot, lv_has ls 17 [(11, .int y124_s0_19), (10, .int e_18), (9, .int x9_92), (7, .int y87_s0_8), (8, .int r_7), (6, .int r_4), (5, .int y23_s0_3), (4, .int r_1), (0, .ref (ad 9 0)), (1, .ref (ad 10 0)), (2, .int house), (3, .int mill)] → W p l e ({ frames := 7, cells := 0, slots := 0, locals := 152 } : Room) s m ([.ref (ad 9 0), .ref (ad 10 0), .int house, .int mill] : List Value).toArray below meth c s.heap [] 0 0 (MQ below (roQ (some (.int R))) ([.ref (ad 9 0), .ref (ad 10 0), .int house, .int mill] : List Value).toArray s 0 0 (fun _ => False)) (F0 m 163 ls [.int y163_s0_21]) := by
                intro y163_s0_21 hR ls hl
                rw [eF_163_21] at hR
                replace hR := jn_e1 hR
                refine lv_istore (lv' := [(12, .int y163_s0_21), (11, .int y124_s0_19), (10, .int e_18), (9, .int x9_92), (7, .int y87_s0_8), (8, .int r_7), (6, .int r_4), (5, .int y23_s0_3), (4, .int r_1), (0, .ref (ad 9 0)), (1, .ref (ad 10 0)), (2, .int house), (3, .int mill)]) hx hb dL_isHouse_163 hl (by decide) rfl (fun ls hl => ?_)
                refine lv_iload hx hb dL_isHouse_165 (lv_at hl 3 rfl) ?_
                refine lv_iconst (v := 2) hx hb dL_isHouse_167 (by decide) ?_
                refine lv_irem hx hb dL_isHouse_168 (by decide) ?_
                refine jn_1 hR (fun F_196_22 eF_196_22 hR => ?_)
                have key_196_22 : ∀ (y196_s0_22 : Int32), lt y196_s0_22 F_196_22 = R → ∀ ls : Array Slot, lv_has ls 17 [(12, .int y163_s0_21), (11, .int y124_s0_19), (10, .int e_18), (9, .int x9_92), (7, .int y87_s0_8), (8, .int r_7), (6, .int r_4), (5, .int y23_s0_3), (4, .int r_1), (0, .ref (ad 9 0)), (1, .ref (ad 10 0)), (2, .int house), (3, .int mill)] → W p l e ({ frames := 7, cells := 0, slots := 0, locals := 152 } : Room) s m ([.ref (ad 9 0), .ref (ad 10 0), .int house, .int mill] : List Value).toArray below meth c s.heap [] 0 0 (MQ below (roQ (some (.int R))) ([.ref (ad 9 0), .ref (ad 10 0), .int house, .int mill] : List Value).toArray s 0 0 (fun _ => False)) (F0 m 196 ls [.int y196_s0_22]) := by
                  intro y196_s0_22 hR ls hl
                  rw [eF_196_22] at hR
                  replace hR := jn_e1 hR
                  refine lv_istore (lv' := [(13, .int y196_s0_22), (12, .int y163_s0_21), (11, .int y124_s0_19), (10, .int e_18), (9, .int x9_92), (7, .int y87_s0_8), (8, .int r_7), (6, .int r_4), (5, .int y23_s0_3), (4, .int r_1), (0, .ref (ad 9 0)), (1, .ref (ad 10 0)), (2, .int house), (3, .int mill)]) hx hb dL_isHouse_196 hl (by decide) rfl (fun ls hl => ?_)
                  refine lv_iload hx hb dL_isHouse_198 (lv_at hl 3 rfl) ?_
                  refine lv_iconst (v := 5) hx hb dL_isHouse_200 (by decide) ?_
                  refine jn_1 hR (fun F_216_23 eF_216_23 hR => ?_)
                  have key_216_23 : ∀ (y216_s0_23 : Int32), lt y216_s0_23 F_216_23 = R → ∀ ls : Array Slot, lv_has ls 17 [(13, .int y196_s0_22), (12, .int y163_s0_21), (11, .int y124_s0_19), (10, .int e_18), (9, .int x9_92), (7, .int y87_s0_8), (8, .int r_7), (6, .int r_4), (5, .int y23_s0_3), (4, .int r_1), (0, .ref (ad 9 0)), (1, .ref (ad 10 0)), (2, .int house), (3, .int mill)] → W p l e ({ frames := 7, cells := 0, slots := 0, locals := 152 } : Room) s m ([.ref (ad 9 0), .ref (ad 10 0), .int house, .int mill] : List Value).toArray below meth c s.heap [] 0 0 (MQ below (roQ (some (.int R))) ([.ref (ad 9 0), .ref (ad 10 0), .int house, .int mill] : List Value).toArray s 0 0 (fun _ => False)) (F0 m 216 ls [.int y216_s0_23]) := by
                    intro y216_s0_23 hR ls hl
                    rw [eF_216_23] at hR
                    replace hR := jn_e1 hR
                    refine lv_istore (lv' := [(14, .int y216_s0_23), (13, .int y196_s0_22), (12, .int y163_s0_21), (11, .int y124_s0_19), (10, .int e_18), (9, .int x9_92), (7, .int y87_s0_8), (8, .int r_7), (6, .int r_4), (5, .int y23_s0_3), (4, .int r_1), (0, .ref (ad 9 0)), (1, .ref (ad 10 0)), (2, .int house), (3, .int mill)]) hx hb dL_isHouse_216 hl (by decide) rfl (fun ls hl => ?_)
                    refine lv_iload hx hb dL_isHouse_218 (lv_at hl 9 rfl) ?_
                    refine jn_1 hR (fun F_280_24 eF_280_24 hR => ?_)
                    have key_280_24 : ∀ (y280_s0_24 : Int32), lt y280_s0_24 F_280_24 = R → ∀ ls : Array Slot, lv_has ls 17 [(14, .int y216_s0_23), (13, .int y196_s0_22), (12, .int y163_s0_21), (11, .int y124_s0_19), (10, .int e_18), (9, .int x9_92), (7, .int y87_s0_8), (8, .int r_7), (6, .int r_4), (5, .int y23_s0_3), (4, .int r_1), (0, .ref (ad 9 0)), (1, .ref (ad 10 0)), (2, .int house), (3, .int mill)] → W p l e ({ frames := 7, cells := 0, slots := 0, locals := 152 } : Room) s m ([.ref (ad 9 0), .ref (ad 10 0), .int house, .int mill] : List Value).toArray below meth c s.heap [] 0 0 (MQ below (roQ (some (.int R))) ([.ref (ad 9 0), .ref (ad 10 0), .int house, .int mill] : List Value).toArray s 0 0 (fun _ => False)) (F0 m 280 ls [.int y280_s0_24]) := by
                      intro y280_s0_24 hR ls hl
                      rw [eF_280_24] at hR
                      replace hR := jn_e1 hR
                      refine lv_istore (lv' := [(15, .int y280_s0_24), (14, .int y216_s0_23), (13, .int y196_s0_22), (12, .int y163_s0_21), (11, .int y124_s0_19), (10, .int e_18), (9, .int x9_92), (7, .int y87_s0_8), (8, .int r_7), (6, .int r_4), (5, .int y23_s0_3), (4, .int r_1), (0, .ref (ad 9 0)), (1, .ref (ad 10 0)), (2, .int house), (3, .int mill)]) hx hb dL_isHouse_280 hl (by decide) rfl (fun ls hl => ?_)
                      refine lv_aload_n hx hb dL_isHouse_282 rfl (lv_at hl 12 rfl) ?_
                      refine lv_iload_n hx hb dL_isHouse_283 rfl (lv_at hl 14 rfl) ?_
                      refine lv_iload_n hx hb dL_isHouse_284 rfl (lv_at hl 15 rfl) ?_
                      refine lv_iload hx hb dL_isHouse_285 (lv_at hl 6 rfl) ?_
                      refine lv_iconst (v := 2) hx hb dL_isHouse_287 (by decide) ?_
                      refine lv_irem hx hb dL_isHouse_288 (by decide) ?_
                      refine lv_iload hx hb dL_isHouse_289 (lv_at hl 5 rfl) ?_
                      refine ro_V (v := .int (mX5_why (xx 0) house mill (x9_92 - x9_92 / 2 * 2) e_18)) (rest := []) (As := [.int house, .int mill, .int (x9_92 - x9_92 / 2 * 2), .int e_18]) hx hb hml hown hts hl (MX5_why l D q ad (xx 9 0 0) (xx 0) house mill (x9_92 - x9_92 / 2 * 2) e_18) gL_isHouse_X5_why rfl kX5_why ⟨Nat.le_of_ble_eq_true rfl, Nat.le_of_ble_eq_true rfl⟩ rfl rfl (hP.sub (ws' := (wXN q ad (xx 9 0 0) (xx 0))) [0, 1, 2, 3, 4, 5, 6, 7, 8, 9, 10] rfl) (dT (hD.sub (ws' := (wXN q ad (xx 9 0 0) (xx 0))) [0, 1, 2, 3, 4, 5, 6, 7, 8, 9, 10] (by decide) rfl)) hG (ci := 3) rfl rfl rfl rfl (Nat.le_of_ble_eq_true rfl) dL_isHouse_291 ⟨Nat.zero_le _, Nat.zero_le _⟩ ?_
                      obtain ⟨r_25, er_25⟩ : ∃ z, z = (mX5_why (xx 0) house mill (x9_92 - x9_92 / 2 * 2) e_18) := ⟨_, rfl⟩
                      rw [← er_25]
                      replace hR := lt_e hR er_25
                      refine lv_istore (lv' := [(16, .int r_25), (15, .int y280_s0_24), (14, .int y216_s0_23), (13, .int y196_s0_22), (12, .int y163_s0_21), (11, .int y124_s0_19), (10, .int e_18), (9, .int x9_92), (7, .int y87_s0_8), (8, .int r_7), (6, .int r_4), (5, .int y23_s0_3), (4, .int r_1), (0, .ref (ad 9 0)), (1, .ref (ad 10 0)), (2, .int house), (3, .int mill)]) hx hb dL_isHouse_294 hl (by decide) rfl (fun ls hl => ?_)
                      refine lv_iload hx hb dL_isHouse_296 (lv_at hl 0 rfl) ?_
                      refine lv_iload hx hb dL_isHouse_298 (lv_at hl 1 rfl) ?_
                      refine lv_icmp_eq (tgt := 316) hx hb dL_isHouse_300 (by decide) (fun c_26 => ?_) (fun c_26 => ?_)
                      · rw [if_pos c_26] at hR
                        have tc_26 : r_25.toInt = y280_s0_24.toInt := i_eq.mp c_26
                        refine lv_iinc (v := (x9_92 + 1)) (lv' := [(9, .int (x9_92 + 1)), (16, .int r_25), (15, .int y280_s0_24), (14, .int y216_s0_23), (13, .int y196_s0_22), (12, .int y163_s0_21), (11, .int y124_s0_19), (10, .int e_18), (7, .int y87_s0_8), (8, .int r_7), (6, .int r_4), (5, .int y23_s0_3), (4, .int r_1), (0, .ref (ad 9 0)), (1, .ref (ad 10 0)), (2, .int house), (3, .int mill)]) hx hb dL_isHouse_316 hl (k := 7) rfl rfl (by decide) rfl (fun ls hl => ?_)
                        refine lv_goto (tgt := 92) hx hb dL_isHouse_319 (by decide) ?_
                        exact ih_92 (x9_92 + 1) (trN hn_92) (k_up hk_92 c_9) hR ls (lv_sub hl [0, 8, 9, 10, 11, 12, 13, 14, 15, 16] rfl)
                      · rw [if_neg c_26] at hR
                        have tc_26 : ¬ r_25.toInt = y280_s0_24.toInt := fun z => c_26 (i_eq.mpr z)
                        refine lv_iload hx hb dL_isHouse_303 (lv_at hl 0 rfl) ?_
                        refine lv_iconst (v := 2) hx hb dL_isHouse_305 (by decide) ?_
                        refine lv_icmp_ne (tgt := 314) hx hb dL_isHouse_306 (by decide) (fun c_27 => ?_) (fun c_27 => ?_)
                        · rw [if_neg c_27] at hR
                          have tc_27 : ¬ r_25.toInt = 2 := fun z => c_27 (i_eq.mpr z)
                          refine lv_iconst (v := 0) hx hb dL_isHouse_314 (by decide) ?_
                          exact ro_zret hx hb hr hk (Or.inl rfl) hR dL_isHouse_315
                        · rw [if_pos c_27] at hR
                          have tc_27 : r_25.toInt = 2 := i_eq.mp c_27
                          refine lv_iload hx hb dL_isHouse_309 (lv_at hl 11 rfl) ?_
                          refine lv_if_eq (tgt := 316) hx hb dL_isHouse_311 (by decide) (fun c_28 => ?_) (fun c_28 => ?_)
                          · rw [if_pos c_28] at hR
                            have tc_28 : y23_s0_3.toInt = 0 := i_eq.mp c_28
                            refine lv_iinc (v := (x9_92 + 1)) (lv' := [(9, .int (x9_92 + 1)), (16, .int r_25), (15, .int y280_s0_24), (14, .int y216_s0_23), (13, .int y196_s0_22), (12, .int y163_s0_21), (11, .int y124_s0_19), (10, .int e_18), (7, .int y87_s0_8), (8, .int r_7), (6, .int r_4), (5, .int y23_s0_3), (4, .int r_1), (0, .ref (ad 9 0)), (1, .ref (ad 10 0)), (2, .int house), (3, .int mill)]) hx hb dL_isHouse_316 hl (k := 7) rfl rfl (by decide) rfl (fun ls hl => ?_)
                            refine lv_goto (tgt := 92) hx hb dL_isHouse_319 (by decide) ?_
                            exact ih_92 (x9_92 + 1) (trN hn_92) (k_up hk_92 c_9) hR ls (lv_sub hl [0, 8, 9, 10, 11, 12, 13, 14, 15, 16] rfl)
                          · rw [if_neg c_28] at hR
                            have tc_28 : ¬ y23_s0_3.toInt = 0 := fun z => c_28 (i_eq.mpr z)
                            refine lv_iconst (v := 0) hx hb dL_isHouse_314 (by decide) ?_
                            exact ro_zret hx hb hr hk (Or.inl rfl) hR dL_isHouse_315
                    refine lv_if_eq (tgt := 227) hx hb dL_isHouse_220 (by decide) (fun c_29 => ?_) (fun c_29 => ?_)
                    · rw [if_pos c_29] at hR
                      have tc_29 : y23_s0_3.toInt = 0 := i_eq.mp c_29
                      refine lv_iload hx hb dL_isHouse_227 (lv_at hl 8 rfl) ?_
                      refine lv_iload hx hb dL_isHouse_229 (lv_at hl 4 rfl) ?_
                      refine ro_S (v := .int (mL_has r_4 e_18)) (rest := []) (As := [.int r_4, .int e_18]) hx hb hml hown hts hl (ML_has l D q r_4 e_18) gL_isHouse_L_has rfl kL_has ⟨Nat.le_of_ble_eq_true rfl, Nat.le_of_ble_eq_true rfl⟩ rfl rfl (hP.sub (ws' := []) [] rfl) (dT (hD.sub (ws' := []) [] (by decide) rfl)) hG rfl rfl (Nat.le_of_ble_eq_true rfl) dL_isHouse_231 ⟨Nat.zero_le _, Nat.zero_le _⟩ ?_
                      refine lv_if_eq (tgt := 241) hx hb dL_isHouse_234 (by decide) (fun c_30 => ?_) (fun c_30 => ?_)
                      · rw [if_pos c_30] at hR
                        refine lv_aload_n hx hb dL_isHouse_241 rfl (lv_at hl 12 rfl) ?_
                        refine lv_iload hx hb dL_isHouse_242 (lv_at hl 4 rfl) ?_
                        refine va_iald hx hb hG.1 hP 75 0 rfl rfl (ix_t (i := e_18) (x := (e_18).toInt) (n := 24) rfl (by omega)) dL_isHouse_244 ?_
                        refine lv_iconst (v := 2) hx hb dL_isHouse_245 (by decide) ?_
                        refine lv_icmp_ge (tgt := 253) hx hb dL_isHouse_246 (by decide) (fun c_31 => ?_) (fun c_31 => ?_)
                        · rw [if_pos c_31] at hR
                          have tc_31 : 2 ≤ ((xx 10 0) (e_18).toNatClampNeg).toInt := i_le.mp c_31
                          refine lv_iload hx hb dL_isHouse_253 (lv_at hl 1 rfl) ?_
                          refine lv_if_eq (tgt := 262) hx hb dL_isHouse_255 (by decide) (fun c_32 => ?_) (fun c_32 => ?_)
                          · rw [if_pos c_32] at hR
                            have tc_32 : y196_s0_22.toInt = 0 := i_eq.mp c_32
                            refine lv_iload hx hb dL_isHouse_262 (lv_at hl 5 rfl) ?_
                            refine lv_iconst (v := 2) hx hb dL_isHouse_264 (by decide) ?_
                            refine lv_irem hx hb dL_isHouse_265 (by decide) ?_
                            refine lv_if_eq (tgt := 274) hx hb dL_isHouse_266 (by decide) (fun c_33 => ?_) (fun c_33 => ?_)
                            · rw [if_pos c_33] at hR
                              have tc_33 : (x9_92 - x9_92 / 2 * 2).toInt = 0 := i_eq.mp c_33
                              refine lv_iconst (v := 5) hx hb dL_isHouse_274 (by decide) ?_
                              refine lv_goto (tgt := 280) hx hb dL_isHouse_275 (by decide) ?_
                              exact key_280_24 5 hR ls (lv_sub hl [0, 1, 2, 3, 4, 5, 6, 7, 8, 9, 10, 11, 12, 13, 14] rfl)
                            · rw [if_neg c_33] at hR
                              have tc_33 : ¬ (x9_92 - x9_92 / 2 * 2).toInt = 0 := fun z => c_33 (i_eq.mpr z)
                              refine lv_iload hx hb dL_isHouse_269 (lv_at hl 0 rfl) ?_
                              refine lv_if_ne (tgt := 278) hx hb dL_isHouse_271 (by decide) (fun c_34 => ?_) (fun c_34 => ?_)
                              · rw [if_neg c_34] at hR
                                have tc_34 : ¬ y216_s0_23.toInt = 0 := fun z => c_34 (i_eq.mpr z)
                                refine lv_bipush (v := 6) hx hb dL_isHouse_278 (by decide) ?_
                                exact key_280_24 6 hR ls (lv_sub hl [0, 1, 2, 3, 4, 5, 6, 7, 8, 9, 10, 11, 12, 13, 14] rfl)
                              · rw [if_pos c_34] at hR
                                have tc_34 : y216_s0_23.toInt = 0 := i_eq.mp c_34
                                refine lv_iconst (v := 5) hx hb dL_isHouse_274 (by decide) ?_
                                refine lv_goto (tgt := 280) hx hb dL_isHouse_275 (by decide) ?_
                                exact key_280_24 5 hR ls (lv_sub hl [0, 1, 2, 3, 4, 5, 6, 7, 8, 9, 10, 11, 12, 13, 14] rfl)
                          · rw [if_neg c_32] at hR
                            have tc_32 : ¬ y196_s0_22.toInt = 0 := fun z => c_32 (i_eq.mpr z)
                            refine lv_iconst (v := 0) hx hb dL_isHouse_258 (by decide) ?_
                            refine lv_goto (tgt := 280) hx hb dL_isHouse_259 (by decide) ?_
                            exact key_280_24 0 hR ls (lv_sub hl [0, 1, 2, 3, 4, 5, 6, 7, 8, 9, 10, 11, 12, 13, 14] rfl)
                        · rw [if_neg c_31] at hR
                          have tc_31 : ¬ 2 ≤ ((xx 10 0) (e_18).toNatClampNeg).toInt := fun z => c_31 (i_le.mpr z)
                          refine lv_iconst (v := 4) hx hb dL_isHouse_249 (by decide) ?_
                          refine lv_goto (tgt := 280) hx hb dL_isHouse_250 (by decide) ?_
                          exact key_280_24 4 hR ls (lv_sub hl [0, 1, 2, 3, 4, 5, 6, 7, 8, 9, 10, 11, 12, 13, 14] rfl)
                      · rw [if_neg c_30] at hR
                        refine lv_iconst (v := 3) hx hb dL_isHouse_237 (by decide) ?_
                        refine lv_goto (tgt := 280) hx hb dL_isHouse_238 (by decide) ?_
                        exact key_280_24 3 hR ls (lv_sub hl [0, 1, 2, 3, 4, 5, 6, 7, 8, 9, 10, 11, 12, 13, 14] rfl)
                    · rw [if_neg c_29] at hR
                      have tc_29 : ¬ y23_s0_3.toInt = 0 := fun z => c_29 (i_eq.mpr z)
                      refine lv_iconst (v := 1) hx hb dL_isHouse_223 (by decide) ?_
                      refine lv_goto (tgt := 280) hx hb dL_isHouse_224 (by decide) ?_
                      exact key_280_24 1 hR ls (lv_sub hl [0, 1, 2, 3, 4, 5, 6, 7, 8, 9, 10, 11, 12, 13, 14] rfl)
                  refine lv_icmp_le (tgt := 215) hx hb dL_isHouse_201 (by decide) (fun c_35 => ?_) (fun c_35 => ?_)
                  · rw [if_pos c_35] at hR
                    have tc_35 : e_18.toInt ≤ 5 := i_le.mp c_35
                    refine lv_iconst (v := 0) hx hb dL_isHouse_215 (by decide) ?_
                    exact key_216_23 0 hR ls (lv_sub hl [0, 1, 2, 3, 4, 5, 6, 7, 8, 9, 10, 11, 12, 13] rfl)
                  · rw [if_neg c_35] at hR
                    have tc_35 : ¬ e_18.toInt ≤ 5 := fun z => c_35 (i_le.mpr z)
                    refine lv_iload hx hb dL_isHouse_204 (lv_at hl 3 rfl) ?_
                    refine lv_bipush (v := 19) hx hb dL_isHouse_206 (by decide) ?_
                    refine lv_icmp_ge (tgt := 215) hx hb dL_isHouse_208 (by decide) (fun c_36 => ?_) (fun c_36 => ?_)
                    · rw [if_pos c_36] at hR
                      have tc_36 : 19 ≤ e_18.toInt := i_le.mp c_36
                      refine lv_iconst (v := 0) hx hb dL_isHouse_215 (by decide) ?_
                      exact key_216_23 0 hR ls (lv_sub hl [0, 1, 2, 3, 4, 5, 6, 7, 8, 9, 10, 11, 12, 13] rfl)
                    · rw [if_neg c_36] at hR
                      have tc_36 : ¬ 19 ≤ e_18.toInt := fun z => c_36 (i_le.mpr z)
                      refine lv_iconst (v := 1) hx hb dL_isHouse_211 (by decide) ?_
                      refine lv_goto (tgt := 216) hx hb dL_isHouse_212 (by decide) ?_
                      exact key_216_23 1 hR ls (lv_sub hl [0, 1, 2, 3, 4, 5, 6, 7, 8, 9, 10, 11, 12, 13] rfl)
                refine lv_if_ne (tgt := 177) hx hb dL_isHouse_169 (by decide) (fun c_37 => ?_) (fun c_37 => ?_)
                · rw [if_neg c_37] at hR
                  have tc_37 : ¬ (x9_92 - x9_92 / 2 * 2).toInt = 0 := fun z => c_37 (i_eq.mpr z)
                  refine lv_aload_n hx hb dL_isHouse_177 rfl (lv_at hl 9 rfl) ?_
                  refine lv_iload_n hx hb dL_isHouse_178 rfl (lv_at hl 12 rfl) ?_
                  refine lv_iload hx hb dL_isHouse_179 (lv_at hl 8 rfl) ?_
                  refine lv_iload hx hb dL_isHouse_181 (lv_at hl 2 rfl) ?_
                  refine lv_iconst (v := 0) hx hb dL_isHouse_183 (by decide) ?_
                  refine ro_V (v := .int (mX5_shadow (xx 0) mill r_1 e_18 0)) (rest := []) (As := [.int mill, .int r_1, .int e_18, .int 0]) hx hb hml hown hts hl (MX5_shadow l D q ad (xx 9 0 0) (xx 0) mill r_1 e_18 0) gL_isHouse_X5_shadow rfl kX5_shadow ⟨Nat.le_of_ble_eq_true rfl, Nat.le_of_ble_eq_true rfl⟩ rfl rfl (hP.sub (ws' := (wXN q ad (xx 9 0 0) (xx 0))) [0, 1, 2, 3, 4, 5, 6, 7, 8, 9, 10] rfl) (dT (hD.sub (ws' := (wXN q ad (xx 9 0 0) (xx 0))) [0, 1, 2, 3, 4, 5, 6, 7, 8, 9, 10] (by decide) rfl)) hG (ci := 3) rfl rfl rfl rfl (Nat.le_of_ble_eq_true rfl) dL_isHouse_184 ⟨Nat.zero_le _, Nat.zero_le _⟩ ?_
                  refine lv_iconst (v := 1) hx hb dL_isHouse_187 (by decide) ?_
                  refine lv_icmp_ne (tgt := 195) hx hb dL_isHouse_188 (by decide) (fun c_38 => ?_) (fun c_38 => ?_)
                  · rw [if_neg c_38] at hR
                    have tc_38 : ¬ (mX5_shadow (xx 0) mill r_1 e_18 0).toInt = 1 := fun z => c_38 (i_eq.mpr z)
                    refine lv_iconst (v := 0) hx hb dL_isHouse_195 (by decide) ?_
                    exact key_196_22 0 hR ls (lv_sub hl [0, 1, 2, 3, 4, 5, 6, 7, 8, 9, 10, 11, 12] rfl)
                  · rw [if_pos c_38] at hR
                    have tc_38 : (mX5_shadow (xx 0) mill r_1 e_18 0).toInt = 1 := i_eq.mp c_38
                    refine lv_iconst (v := 1) hx hb dL_isHouse_191 (by decide) ?_
                    refine lv_goto (tgt := 196) hx hb dL_isHouse_192 (by decide) ?_
                    exact key_196_22 1 hR ls (lv_sub hl [0, 1, 2, 3, 4, 5, 6, 7, 8, 9, 10, 11, 12] rfl)
                · rw [if_pos c_37] at hR
                  have tc_37 : (x9_92 - x9_92 / 2 * 2).toInt = 0 := i_eq.mp c_37
                  refine lv_iload hx hb dL_isHouse_172 (lv_at hl 0 rfl) ?_
                  refine lv_goto (tgt := 196) hx hb dL_isHouse_174 (by decide) ?_
                  exact key_196_22 y163_s0_21 hR ls (lv_sub hl [0, 1, 2, 3, 4, 5, 6, 7, 8, 9, 10, 11, 12] rfl)
              refine lv_icmp_le (tgt := 162) hx hb dL_isHouse_155 (by decide) (fun c_39 => ?_) (fun c_39 => ?_)
              · rw [if_pos c_39] at hR
                have tc_39 : ((2 * ((xx 10 0) (e_18).toNatClampNeg)) - y87_s0_8).toInt ≤ y155_s0_20.toInt := i_le.mp c_39
                refine lv_iconst (v := 0) hx hb dL_isHouse_162 (by decide) ?_
                exact key_163_21 0 hR ls (lv_sub hl [0, 1, 2, 3, 4, 5, 6, 7, 8, 9, 10, 11] rfl)
              · rw [if_neg c_39] at hR
                have tc_39 : ¬ ((2 * ((xx 10 0) (e_18).toNatClampNeg)) - y87_s0_8).toInt ≤ y155_s0_20.toInt := fun z => c_39 (i_le.mpr z)
                refine lv_iconst (v := 1) hx hb dL_isHouse_158 (by decide) ?_
                refine lv_goto (tgt := 163) hx hb dL_isHouse_159 (by decide) ?_
                exact key_163_21 1 hR ls (lv_sub hl [0, 1, 2, 3, 4, 5, 6, 7, 8, 9, 10, 11] rfl)
            refine lv_if_eq (tgt := 149) hx hb dL_isHouse_137 (by decide) (fun c_40 => ?_) (fun c_40 => ?_)
            · rw [if_pos c_40] at hR
              have tc_40 : y124_s0_19.toInt = 0 := i_eq.mp c_40
              refine lv_aload_n hx hb dL_isHouse_149 rfl (lv_at hl 8 rfl) ?_
              refine lv_bipush (v := 12) hx hb dL_isHouse_150 (by decide) ?_
              refine ro_V (v := .int (mX5_count xx 12)) (rest := [.int ((2 * ((xx 10 0) (e_18).toNatClampNeg)) - y87_s0_8)]) (As := [.int 12]) hx hb hml hown hts hl (MX5_count l D q ad xx 12) gL_isHouse_X5_count rfl kX5_count ⟨Nat.le_of_ble_eq_true rfl, Nat.le_of_ble_eq_true rfl⟩ rfl rfl (hP.sub (ws' := (wX q ad xx)) [0, 1, 2, 3, 4, 5, 6, 7, 8, 9, 10, 11, 12, 13, 14, 15, 16, 17, 18, 19, 20, 21, 22, 23, 24, 25, 26, 27, 28, 29, 30, 31, 32, 33, 34, 35, 36, 37, 38, 39, 40, 41, 42, 43, 44, 45, 46, 47, 48, 49, 50, 51, 52, 53, 54, 55, 56, 57, 58, 59, 60, 61, 62, 63, 64, 65, 66, 67, 68, 69, 70, 71, 72, 73, 74] rfl) (dT (hD.sub (ws' := (wX q ad xx)) [0, 1, 2, 3, 4, 5, 6, 7, 8, 9, 10, 11, 12, 13, 14, 15, 16, 17, 18, 19, 20, 21, 22, 23, 24, 25, 26, 27, 28, 29, 30, 31, 32, 33, 34, 35, 36, 37, 38, 39, 40, 41, 42, 43, 44, 45, 46, 47, 48, 49, 50, 51, 52, 53, 54, 55, 56, 57, 58, 59, 60, 61, 62, 63, 64, 65, 66, 67, 68, 69, 70, 71, 72, 73, 74] (by decide) rfl)) hG (ci := 3) rfl rfl rfl rfl (Nat.le_of_ble_eq_true rfl) dL_isHouse_152 ⟨Nat.zero_le _, Nat.zero_le _⟩ ?_
              exact key_155_20 (mX5_count xx 12) hR ls (lv_sub hl [0, 1, 2, 3, 4, 5, 6, 7, 8, 9, 10, 11] rfl)
            · rw [if_neg c_40] at hR
              have tc_40 : ¬ y124_s0_19.toInt = 0 := fun z => c_40 (i_eq.mpr z)
              refine lv_aload_n hx hb dL_isHouse_140 rfl (lv_at hl 8 rfl) ?_
              refine lv_bipush (v := 13) hx hb dL_isHouse_141 (by decide) ?_
              refine ro_V (v := .int (mX5_count xx 13)) (rest := [.int ((2 * ((xx 10 0) (e_18).toNatClampNeg)) - y87_s0_8)]) (As := [.int 13]) hx hb hml hown hts hl (MX5_count l D q ad xx 13) gL_isHouse_X5_count rfl kX5_count ⟨Nat.le_of_ble_eq_true rfl, Nat.le_of_ble_eq_true rfl⟩ rfl rfl (hP.sub (ws' := (wX q ad xx)) [0, 1, 2, 3, 4, 5, 6, 7, 8, 9, 10, 11, 12, 13, 14, 15, 16, 17, 18, 19, 20, 21, 22, 23, 24, 25, 26, 27, 28, 29, 30, 31, 32, 33, 34, 35, 36, 37, 38, 39, 40, 41, 42, 43, 44, 45, 46, 47, 48, 49, 50, 51, 52, 53, 54, 55, 56, 57, 58, 59, 60, 61, 62, 63, 64, 65, 66, 67, 68, 69, 70, 71, 72, 73, 74] rfl) (dT (hD.sub (ws' := (wX q ad xx)) [0, 1, 2, 3, 4, 5, 6, 7, 8, 9, 10, 11, 12, 13, 14, 15, 16, 17, 18, 19, 20, 21, 22, 23, 24, 25, 26, 27, 28, 29, 30, 31, 32, 33, 34, 35, 36, 37, 38, 39, 40, 41, 42, 43, 44, 45, 46, 47, 48, 49, 50, 51, 52, 53, 54, 55, 56, 57, 58, 59, 60, 61, 62, 63, 64, 65, 66, 67, 68, 69, 70, 71, 72, 73, 74] (by decide) rfl)) hG (ci := 3) rfl rfl rfl rfl (Nat.le_of_ble_eq_true rfl) dL_isHouse_143 ⟨Nat.zero_le _, Nat.zero_le _⟩ ?_
              refine lv_goto (tgt := 155) hx hb dL_isHouse_146 (by decide) ?_
              exact key_155_20 (mX5_count xx 13) hR ls (lv_sub hl [0, 1, 2, 3, 4, 5, 6, 7, 8, 9, 10, 11] rfl)
          refine lv_icmp_lt (tgt := 119) hx hb dL_isHouse_109 (by decide) (fun c_41 => ?_) (fun c_41 => ?_)
          · rw [if_pos c_41] at hR
            have tc_41 : e_18.toInt < 6 := i_lt.mp c_41
            refine lv_iconst (v := 1) hx hb dL_isHouse_119 (by decide) ?_
            refine lv_goto (tgt := 124) hx hb dL_isHouse_120 (by decide) ?_
            exact key_124_19 1 hR ls (lv_sub hl [0, 1, 2, 3, 4, 5, 6, 7, 8, 9, 10] rfl)
          · rw [if_neg c_41] at hR
            have tc_41 : ¬ e_18.toInt < 6 := fun z => c_41 (i_lt.mpr z)
            refine lv_iload hx hb dL_isHouse_112 (lv_at hl 0 rfl) ?_
            refine lv_bipush (v := 21) hx hb dL_isHouse_114 (by decide) ?_
            refine lv_icmp_le (tgt := 123) hx hb dL_isHouse_116 (by decide) (fun c_42 => ?_) (fun c_42 => ?_)
            · rw [if_pos c_42] at hR
              have tc_42 : e_18.toInt ≤ 21 := i_le.mp c_42
              refine lv_iconst (v := 0) hx hb dL_isHouse_123 (by decide) ?_
              exact key_124_19 0 hR ls (lv_sub hl [0, 1, 2, 3, 4, 5, 6, 7, 8, 9, 10] rfl)
            · rw [if_neg c_42] at hR
              have tc_42 : ¬ e_18.toInt ≤ 21 := fun z => c_42 (i_le.mpr z)
              refine lv_iconst (v := 1) hx hb dL_isHouse_119 (by decide) ?_
              refine lv_goto (tgt := 124) hx hb dL_isHouse_120 (by decide) ?_
              exact key_124_19 1 hR ls (lv_sub hl [0, 1, 2, 3, 4, 5, 6, 7, 8, 9, 10] rfl)
      exact key_92 _ 0 rfl (by decide) hR ls hl
    refine lv_icmp_le (tgt := 85) hx hb dL_isHouse_77 (by decide) (fun c_43 => ?_) (fun c_43 => ?_)
    · rw [if_pos c_43] at hR
      have tc_43 : r_6.toInt ≤ r_7.toInt := i_le.mp c_43
      refine lv_iload hx hb dL_isHouse_85 (lv_at hl 0 rfl) ?_
      exact key_87_8 r_7 hR ls (lv_sub hl [0, 1, 2, 3, 4, 5, 6, 7, 8] rfl)
    · rw [if_neg c_43] at hR
      have tc_43 : ¬ r_6.toInt ≤ r_7.toInt := fun z => c_43 (i_le.mpr z)
      refine lv_iload hx hb dL_isHouse_80 (lv_at hl 1 rfl) ?_
      refine lv_goto (tgt := 87) hx hb dL_isHouse_82 (by decide) ?_
      exact key_87_8 r_6 hR ls (lv_sub hl [0, 1, 2, 3, 4, 5, 6, 7, 8] rfl)
  refine lv_icmp_le (tgt := 22) hx hb dL_isHouse_15 (by decide) (fun c_44 => ?_) (fun c_44 => ?_)
  · rw [if_pos c_44] at hR
    have tc_44 : r_2.toInt ≤ 2 := i_le.mp c_44
    refine lv_iconst (v := 0) hx hb dL_isHouse_22 (by decide) ?_
    exact key_23_3 0 hR ls (lv_sub hl [0, 1, 2, 3, 4] rfl)
  · rw [if_neg c_44] at hR
    have tc_44 : ¬ r_2.toInt ≤ 2 := fun z => c_44 (i_le.mpr z)
    refine lv_iconst (v := 1) hx hb dL_isHouse_18 (by decide) ?_
    refine lv_goto (tgt := 23) hx hb dL_isHouse_19 (by decide) ?_
    exact key_23_3 1 hR ls (lv_sub hl [0, 1, 2, 3, 4] rfl)
