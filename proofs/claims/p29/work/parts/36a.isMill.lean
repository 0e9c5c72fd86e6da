def mL_isMill_85 (xx : Nat → Nat → Nat → Int32) (mill : Int32) (yard : Int32) (r_1 : Int32) (r_3 : Int32) (e_4 : Int32) (e_5 : Int32) (y80_s0_8 : Int32) (C : Int32 → Int32 → Int32 → Int32) : Nat → Int32 → Int32 → Int32 → Int32
  | 0, x12_85, x8_85, x7_85 => C x12_85 x8_85 x7_85
  | n_85 + 1, x12_85, x8_85, x7_85 => (lt (mL_has r_1 x12_85) (fun r_20 => (lt ((if r_20 = 0 then (if ((xx 10 0) (x12_85).toNatClampNeg) ≤ 1 then 0 else 1) else 0) : Int32) (fun y115_s0_21 => (lt ((if y115_s0_21 = 0 then 0 else (if (2 * ((xx 10 0) (x12_85).toNatClampNeg)) ≤ y80_s0_8 then 0 else ((2 * ((xx 10 0) (x12_85).toNatClampNeg)) - y80_s0_8))) : Int32) (fun y146_s0_22 => (lt (mL_size (x12_85 - 12)) (fun r_23 => (lt ((if 12 ≤ x12_85 then (if x12_85 ≤ 12 then 0 else 1) else (-1)) : Int32) (fun y181_s0_24 => (lt ((if x12_85 ≤ 9 then 0 else (if 15 ≤ x12_85 then 0 else (-1))) : Int32) (fun y202_s0_25 => (lt ((if x12_85 ≤ 5 then 0 else (if 19 ≤ x12_85 then 0 else (if y80_s0_8 ≤ 0 then 0 else (if (((r_3 * r_23) + 1) / 2) < y80_s0_8 then 0 else (if e_4 = (y181_s0_24 * y80_s0_8) then (if e_5 = (y202_s0_25 * y80_s0_8) then 1 else 0) else 0))))) : Int32) (fun y261_s0_26 => (lt (mX5_noise (xx 0) mill yard x12_85) (fun r_27 => (if r_27 = y146_s0_22 then (lt (mX5_shadow (xx 0) mill yard x12_85 0) (fun r_29 => (lt ((if y261_s0_26 = 0 then 0 else 1) : Int32) (fun y295_s0_30 => (if r_29 = y295_s0_30 then (lt (mX5_shadow (xx 0) mill yard x12_85 1) (fun r_32 => (lt ((if y261_s0_26 = 0 then 0 else 1) : Int32) (fun y317_s0_33 => (if r_32 = y317_s0_33 then (lt ((if y115_s0_21 = 0 then 0 else (1 <<< (x12_85 &&& 31))) : Int32) (fun y337_s0_35 => (lt (x7_85 ||| y337_s0_35) (fun e_36 => (lt ((if y115_s0_21 = 0 then 0 else ((xx 10 0) (x12_85).toNatClampNeg)) : Int32) (fun y355_s0_37 => (lt (x8_85 + y355_s0_37) (fun e_38 => (mL_isMill_85 xx mill yard r_1 r_3 e_4 e_5 y80_s0_8 C n_85 (x12_85 + 1) e_38 e_36))))))))) else 0))))) else 0))))) else 0)))))))))))))))))
def mL_isMill (xx : Nat → Nat → Nat → Int32) (mill yard : Int32) : Int32 := (lt (mX5_millOf (xx 0) mill 2) (fun r_1 => (lt (mX5_millOf (xx 0) mill 1) (fun r_2 => (lt (mX5_millOf (xx 0) mill 0) (fun r_3 => (lt ((yard - yard / 12 * 12) - (r_2 - r_2 / 12 * 12)) (fun e_4 => (lt ((yard / 12) - (r_2 / 12)) (fun e_5 => (lt (mL_size e_4) (fun r_6 => (lt (mL_size e_5) (fun r_7 => (lt ((if r_6 ≤ r_7 then (mL_size e_5) else (mL_size e_4)) : Int32) (fun y80_s0_8 => (mL_isMill_85 xx mill yard r_1 r_3 e_4 e_5 y80_s0_8 (fun x12_85 x8_85 x7_85 => (lt (mX5_millOf (xx 0) mill 3) (fun r_10 => (if r_10 = x7_85 then (lt (mX5_millOf (xx 0) mill 4) (fun r_12 => (if r_12 = x8_85 then (lt (mX5_yardOf (xx 0) r_2 0) (fun r_14 => (if r_14 = mill then (lt (mX5_yardOf (xx 0) r_2 1) (fun r_16 => (if r_16 = (-5) then (if r_3 ≤ 0 then 0 else (if 6 ≤ r_3 then 0 else 1)) else 0))) else 0))) else 0))) else 0)))) (tr 0 24) 0 0 0)))))))))))))))))
theorem kL_isMill : yL_isMill.cls ≠ "java/lang/invoke/MethodHandle" ∧ yL_isMill.cls ≠ "java/lang/invoke/VarHandle" ∧ (parseMethodDescriptor yL_isMill.desc).map (fun d => d.parameters.length) = some 4 := by decide +kernel
set_option maxHeartbeats 4000000 in
set_option maxRecDepth 100000 in
theorem ML_isMill (l : Launch) (D : va_G) (q : Nat → ClassId) (ad : Nat → Nat → Nat) (xx : Nat → Nat → Nat → Int32) (mill yard : Int32)  : roM l D (tyq q) yL_isMill wsL_isMill ({ frames := 6, cells := 0, slots := 0, locals := 131 } : Room) [.ref (ad 9 0), .ref (ad 10 0), .int mill, .int yard] (wXW q ad xx) (some (.int (mL_isMill xx mill yard))) := by
  obtain ⟨R, hR⟩ : ∃ z, (mL_isMill xx mill yard) = z := ⟨_, rfl⟩
  rw [hR]
  unfold mL_isMill at hR
  refine roM.of (cc := cL_isMill) (maxL := 19) (ret := (some .boolean)) (by decide) rfl (Nat.le_of_ble_eq_true rfl) ?_
  intro p e s m below meth c ls hx hb hr hk hml hown hts hP hD hG hl
  have hl : lv_has ls 19 [(0, .ref (ad 9 0)), (1, .ref (ad 10 0)), (2, .int mill), (3, .int yard)] := hl
  refine lv_aload_n hx hb dL_isMill_0 rfl (lv_at hl 0 rfl) ?_
  refine lv_iload_n hx hb dL_isMill_1 rfl (lv_at hl 2 rfl) ?_
  refine lv_iconst (v := 2) hx hb dL_isMill_2 (by decide) ?_
  refine ro_V (v := .int (mX5_millOf (xx 0) mill 2)) (rest := []) (As := [.int mill, .int 2]) hx hb hml hown hts hl (MX5_millOf l D q ad (xx 9 0 0) (xx 0) mill 2) gL_isMill_X5_millOf rfl kX5_millOf ⟨Nat.le_of_ble_eq_true rfl, Nat.le_of_ble_eq_true rfl⟩ rfl rfl (hP.sub (ws' := (wXN q ad (xx 9 0 0) (xx 0))) [0, 1, 2, 3, 4, 5, 6, 7, 8, 9, 10] rfl) (dT (hD.sub (ws' := (wXN q ad (xx 9 0 0) (xx 0))) [0, 1, 2, 3, 4, 5, 6, 7, 8, 9, 10] (by decide) rfl)) hG (ci := 3) rfl rfl rfl rfl (Nat.le_of_ble_eq_true rfl) dL_isMill_3 ⟨Nat.zero_le _, Nat.zero_le _⟩ ?_
  obtain ⟨r_1, er_1⟩ : ∃ z, z = (mX5_millOf (xx 0) mill 2) := ⟨_, rfl⟩
  rw [← er_1]
  replace hR := lt_e hR er_1
  refine lv_istore (lv' := [(4, .int r_1), (0, .ref (ad 9 0)), (1, .ref (ad 10 0)), (2, .int mill), (3, .int yard)]) hx hb dL_isMill_6 hl (by decide) rfl (fun ls hl => ?_)
  refine lv_aload_n hx hb dL_isMill_8 rfl (lv_at hl 1 rfl) ?_
  refine lv_iload_n hx hb dL_isMill_9 rfl (lv_at hl 3 rfl) ?_
  refine lv_iconst (v := 1) hx hb dL_isMill_10 (by decide) ?_
  refine ro_V (v := .int (mX5_millOf (xx 0) mill 1)) (rest := []) (As := [.int mill, .int 1]) hx hb hml hown hts hl (MX5_millOf l D q ad (xx 9 0 0) (xx 0) mill 1) gL_isMill_X5_millOf rfl kX5_millOf ⟨Nat.le_of_ble_eq_true rfl, Nat.le_of_ble_eq_true rfl⟩ rfl rfl (hP.sub (ws' := (wXN q ad (xx 9 0 0) (xx 0))) [0, 1, 2, 3, 4, 5, 6, 7, 8, 9, 10] rfl) (dT (hD.sub (ws' := (wXN q ad (xx 9 0 0) (xx 0))) [0, 1, 2, 3, 4, 5, 6, 7, 8, 9, 10] (by decide) rfl)) hG (ci := 3) rfl rfl rfl rfl (Nat.le_of_ble_eq_true rfl) dL_isMill_11 ⟨Nat.zero_le _, Nat.zero_le _⟩ ?_
  obtain ⟨r_2, er_2⟩ : ∃ z, z = (mX5_millOf (xx 0) mill 1) := ⟨_, rfl⟩
  rw [← er_2]
  replace hR := lt_e hR er_2
  refine lv_istore (lv' := [(5, .int r_2), (4, .int r_1), (0, .ref (ad 9 0)), (1, .ref (ad 10 0)), (2, .int mill), (3, .int yard)]) hx hb dL_isMill_14 hl (by decide) rfl (fun ls hl => ?_)
  refine lv_aload_n hx hb dL_isMill_16 rfl (lv_at hl 2 rfl) ?_
  refine lv_iload_n hx hb dL_isMill_17 rfl (lv_at hl 4 rfl) ?_
  refine lv_iconst (v := 0) hx hb dL_isMill_18 (by decide) ?_
  refine ro_V (v := .int (mX5_millOf (xx 0) mill 0)) (rest := []) (As := [.int mill, .int 0]) hx hb hml hown hts hl (MX5_millOf l D q ad (xx 9 0 0) (xx 0) mill 0) gL_isMill_X5_millOf rfl kX5_millOf ⟨Nat.le_of_ble_eq_true rfl, Nat.le_of_ble_eq_true rfl⟩ rfl rfl (hP.sub (ws' := (wXN q ad (xx 9 0 0) (xx 0))) [0, 1, 2, 3, 4, 5, 6, 7, 8, 9, 10] rfl) (dT (hD.sub (ws' := (wXN q ad (xx 9 0 0) (xx 0))) [0, 1, 2, 3, 4, 5, 6, 7, 8, 9, 10] (by decide) rfl)) hG (ci := 3) rfl rfl rfl rfl (Nat.le_of_ble_eq_true rfl) dL_isMill_19 ⟨Nat.zero_le _, Nat.zero_le _⟩ ?_
  obtain ⟨r_3, er_3⟩ : ∃ z, z = (mX5_millOf (xx 0) mill 0) := ⟨_, rfl⟩
  rw [← er_3]
  replace hR := lt_e hR er_3
  refine lv_istore (lv' := [(6, .int r_3), (5, .int r_2), (4, .int r_1), (0, .ref (ad 9 0)), (1, .ref (ad 10 0)), (2, .int mill), (3, .int yard)]) hx hb dL_isMill_22 hl (by decide) rfl (fun ls hl => ?_)
  refine lv_iconst (v := 0) hx hb dL_isMill_24 (by decide) ?_
  refine lv_istore (lv' := [(7, .int 0), (6, .int r_3), (5, .int r_2), (4, .int r_1), (0, .ref (ad 9 0)), (1, .ref (ad 10 0)), (2, .int mill), (3, .int yard)]) hx hb dL_isMill_25 hl (by decide) rfl (fun ls hl => ?_)
  refine lv_iconst (v := 0) hx hb dL_isMill_27 (by decide) ?_
  refine lv_istore (lv' := [(8, .int 0), (7, .int 0), (6, .int r_3), (5, .int r_2), (4, .int r_1), (0, .ref (ad 9 0)), (1, .ref (ad 10 0)), (2, .int mill), (3, .int yard)]) hx hb dL_isMill_28 hl (by decide) rfl (fun ls hl => ?_)
  refine lv_iload_n hx hb dL_isMill_30 rfl (lv_at hl 8 rfl) ?_
  refine lv_bipush (v := 12) hx hb dL_isMill_31 (by decide) ?_
  refine lv_irem hx hb dL_isMill_33 (by decide) ?_
  refine lv_iload hx hb dL_isMill_34 (lv_at hl 3 rfl) ?_
  refine lv_bipush (v := 12) hx hb dL_isMill_36 (by decide) ?_
  refine lv_irem hx hb dL_isMill_38 (by decide) ?_
  refine lv_isub hx hb dL_isMill_39 ?_
  obtain ⟨e_4, ee_4⟩ : ∃ z, z = ((yard - yard / 12 * 12) - (r_2 - r_2 / 12 * 12)) := ⟨_, rfl⟩
  rw [← ee_4]
  replace hR := lt_e hR ee_4
  refine lv_istore (lv' := [(9, .int e_4), (8, .int 0), (7, .int 0), (6, .int r_3), (5, .int r_2), (4, .int r_1), (0, .ref (ad 9 0)), (1, .ref (ad 10 0)), (2, .int mill), (3, .int yard)]) hx hb dL_isMill_40 hl (by decide) rfl (fun ls hl => ?_)
  refine lv_iload_n hx hb dL_isMill_42 rfl (lv_at hl 9 rfl) ?_
  refine lv_bipush (v := 12) hx hb dL_isMill_43 (by decide) ?_
  refine lv_idiv hx hb dL_isMill_45 (by decide) ?_
  refine lv_iload hx hb dL_isMill_46 (lv_at hl 4 rfl) ?_
  refine lv_bipush (v := 12) hx hb dL_isMill_48 (by decide) ?_
  refine lv_idiv hx hb dL_isMill_50 (by decide) ?_
  refine lv_isub hx hb dL_isMill_51 ?_
  obtain ⟨e_5, ee_5⟩ : ∃ z, z = ((yard / 12) - (r_2 / 12)) := ⟨_, rfl⟩
  rw [← ee_5]
  replace hR := lt_e hR ee_5
  refine lv_istore (lv' := [(10, .int e_5), (9, .int e_4), (8, .int 0), (7, .int 0), (6, .int r_3), (5, .int r_2), (4, .int r_1), (0, .ref (ad 9 0)), (1, .ref (ad 10 0)), (2, .int mill), (3, .int yard)]) hx hb dL_isMill_52 hl (by decide) rfl (fun ls hl => ?_)
  refine lv_iload hx hb dL_isMill_54 (lv_at hl 1 rfl) ?_
  refine ro_S (v := .int (mL_size e_4)) (rest := []) (As := [.int e_4]) hx hb hml hown hts hl (ML_size l D q e_4) gL_isMill_L_size rfl kL_size ⟨Nat.le_of_ble_eq_true rfl, Nat.le_of_ble_eq_true rfl⟩ rfl rfl (hP.sub (ws' := []) [] rfl) (dT (hD.sub (ws' := []) [] (by decide) rfl)) hG rfl rfl (Nat.le_of_ble_eq_true rfl) dL_isMill_56 ⟨Nat.zero_le _, Nat.zero_le _⟩ ?_
  obtain ⟨r_6, er_6⟩ : ∃ z, z = (mL_size e_4) := ⟨_, rfl⟩
  rw [← er_6]
  replace hR := lt_e hR er_6
  refine lv_iload hx hb dL_isMill_59 (lv_at hl 0 rfl) ?_
  refine ro_S (v := .int (mL_size e_5)) (rest := [.int r_6]) (As := [.int e_5]) hx hb hml hown hts hl (ML_size l D q e_5) gL_isMill_L_size rfl kL_size ⟨Nat.le_of_ble_eq_true rfl, Nat.le_of_ble_eq_true rfl⟩ rfl rfl (hP.sub (ws' := []) [] rfl) (dT (hD.sub (ws' := []) [] (by decide) rfl)) hG rfl rfl (Nat.le_of_ble_eq_true rfl) dL_isMill_61 ⟨Nat.zero_le _, Nat.zero_le _⟩ ?_
  obtain ⟨r_7, er_7⟩ : ∃ z, z = (mL_size e_5) := ⟨_, rfl⟩
  rw [← er_7]
  replace hR := lt_e hR er_7
  refine jn_1 hR (fun F_80_8 eF_80_8 hR => ?_)
  have key_80_8 : ∀ (y80_s0_8 : Int32), lt y80_s0_8 F_80_8 = R → ∀ ls : Array Slot, lv_has ls 19 [(10, .int e_5), (9, .int e_4), (8, .int 0), (7, .int 0), (6, .int r_3), (5, .int r_2), (4, .int r_1), (0, .ref (ad 9 0)), (1, .ref (ad 10 0)), (2, .int mill), (3, .int yard)] → W p l e ({ frames := 6, cells := 0, slots := 0, locals := 131 } : Room) s m ([.ref (ad 9 0), .ref (ad 10 0), .int mill, .int yard] : List Value).toArray below meth c s.heap [] 0 0 (MQ below (roQ (some (.int R))) ([.ref (ad 9 0), .ref (ad 10 0), .int mill, .int yard] : List Value).toArray s 0 0 (fun _ => False)) (F0 m 80 ls [.int y80_s0_8]) := by
    intro y80_s0_8 hR ls hl
    rw [eF_80_8] at hR
    replace hR := jn_e1 hR
    refine lv_istore (lv' := [(11, .int y80_s0_8), (10, .int e_5), (9, .int e_4), (8, .int 0), (7, .int 0), (6, .int r_3), (5, .int r_2), (4, .int r_1), (0, .ref (ad 9 0)), (1, .ref (ad 10 0)), (2, .int mill), (3, .int yard)]) hx hb dL_isMill_80 hl (by decide) rfl (fun ls hl => ?_)
    refine lv_iconst (v := 0) hx hb dL_isMill_82 (by decide) ?_
    refine lv_istore (lv' := [(12, .int 0), (11, .int y80_s0_8), (10, .int e_5), (9, .int e_4), (8, .int 0), (7, .int 0), (6, .int r_3), (5, .int r_2), (4, .int r_1), (0, .ref (ad 9 0)), (1, .ref (ad 10 0)), (2, .int mill), (3, .int yard)]) hx hb dL_isMill_83 hl (by decide) rfl (fun ls hl => ?_)
    have key_85 : ∀ (n_85 : Nat) (x12_85 : Int32) (x8_85 : Int32) (x7_85 : Int32), tr x12_85 24 = n_85 → 0 ≤ x12_85.toInt → mL_isMill_85 xx mill yard r_1 r_3 e_4 e_5 y80_s0_8 (fun x12_85 x8_85 x7_85 => (lt (mX5_millOf (xx 0) mill 3) (fun r_10 => (if r_10 = x7_85 then (lt (mX5_millOf (xx 0) mill 4) (fun r_12 => (if r_12 = x8_85 then (lt (mX5_yardOf (xx 0) r_2 0) (fun r_14 => (if r_14 = mill then (lt (mX5_yardOf (xx 0) r_2 1) (fun r_16 => (if r_16 = (-5) then (if r_3 ≤ 0 then 0 else (if 6 ≤ r_3 then 0 else 1)) else 0))) else 0))) else 0))) else 0)))) n_85 x12_85 x8_85 x7_85 = R → ∀ ls : Array Slot, lv_has ls 19 [(12, .int x12_85), (11, .int y80_s0_8), (10, .int e_5), (9, .int e_4), (8, .int x8_85), (7, .int x7_85), (6, .int r_3), (5, .int r_2), (4, .int r_1), (0, .ref (ad 9 0)), (1, .ref (ad 10 0)), (2, .int mill), (3, .int yard)] → W p l e ({ frames := 6, cells := 0, slots := 0, locals := 131 } : Room) s m ([.ref (ad 9 0), .ref (ad 10 0), .int mill, .int yard] : List Value).toArray below meth c s.heap [] 0 0 (MQ below (roQ (some (.int R))) ([.ref (ad 9 0), .ref (ad 10 0), .int mill, .int yard] : List Value).toArray s 0 0 (fun _ => False)) (F0 m 85 ls []) := by
      intro n_85
      induction n_85 with
      | zero =>
        intro x12_85 x8_85 x7_85 hn_85 hk_85 hR ls hl
        rw [mL_isMill_85] at hR
        refine lv_iload hx hb dL_isMill_85 (lv_at hl 0 rfl) ?_
        refine lv_bipush (v := 24) hx hb dL_isMill_87 (by decide) ?_
        refine lv_icmp_ge (tgt := 364) hx hb dL_isMill_89 (by decide) (fun c_9 => ?_) (fun c_9 => (tr0 hn_85 c_9).elim)
        refine lv_aload_n hx hb dL_isMill_364 rfl (lv_at hl 9 rfl) ?_
        refine lv_iload_n hx hb dL_isMill_365 rfl (lv_at hl 11 rfl) ?_
        refine lv_iconst (v := 3) hx hb dL_isMill_366 (by decide) ?_
        refine ro_V (v := .int (mX5_millOf (xx 0) mill 3)) (rest := []) (As := [.int mill, .int 3]) hx hb hml hown hts hl (MX5_millOf l D q ad (xx 9 0 0) (xx 0) mill 3) gL_isMill_X5_millOf rfl kX5_millOf ⟨Nat.le_of_ble_eq_true rfl, Nat.le_of_ble_eq_true rfl⟩ rfl rfl (hP.sub (ws' := (wXN q ad (xx 9 0 0) (xx 0))) [0, 1, 2, 3, 4, 5, 6, 7, 8, 9, 10] rfl) (dT (hD.sub (ws' := (wXN q ad (xx 9 0 0) (xx 0))) [0, 1, 2, 3, 4, 5, 6, 7, 8, 9, 10] (by decide) rfl)) hG (ci := 3) rfl rfl rfl rfl (Nat.le_of_ble_eq_true rfl) dL_isMill_367 ⟨Nat.zero_le _, Nat.zero_le _⟩ ?_
        obtain ⟨r_10, er_10⟩ : ∃ z, z = (mX5_millOf (xx 0) mill 3) := ⟨_, rfl⟩
        rw [← er_10]
        replace hR := lt_e hR er_10
        refine lv_iload hx hb dL_isMill_370 (lv_at hl 5 rfl) ?_
        refine lv_icmp_ne (tgt := 425) hx hb dL_isMill_372 (by decide) (fun c_11 => ?_) (fun c_11 => ?_)
        · rw [if_neg c_11] at hR
          have tc_11 : ¬ r_10.toInt = x7_85.toInt := fun z => c_11 (i_eq.mpr z)
          refine lv_iconst (v := 0) hx hb dL_isMill_425 (by decide) ?_
          exact ro_zret hx hb hr hk (Or.inl rfl) hR dL_isMill_426
        · rw [if_pos c_11] at hR
          have tc_11 : r_10.toInt = x7_85.toInt := i_eq.mp c_11
          refine lv_aload_n hx hb dL_isMill_375 rfl (lv_at hl 9 rfl) ?_
          refine lv_iload_n hx hb dL_isMill_376 rfl (lv_at hl 11 rfl) ?_
          refine lv_iconst (v := 4) hx hb dL_isMill_377 (by decide) ?_
          refine ro_V (v := .int (mX5_millOf (xx 0) mill 4)) (rest := []) (As := [.int mill, .int 4]) hx hb hml hown hts hl (MX5_millOf l D q ad (xx 9 0 0) (xx 0) mill 4) gL_isMill_X5_millOf rfl kX5_millOf ⟨Nat.le_of_ble_eq_true rfl, Nat.le_of_ble_eq_true rfl⟩ rfl rfl (hP.sub (ws' := (wXN q ad (xx 9 0 0) (xx 0))) [0, 1, 2, 3, 4, 5, 6, 7, 8, 9, 10] rfl) (dT (hD.sub (ws' := (wXN q ad (xx 9 0 0) (xx 0))) [0, 1, 2, 3, 4, 5, 6, 7, 8, 9, 10] (by decide) rfl)) hG (ci := 3) rfl rfl rfl rfl (Nat.le_of_ble_eq_true rfl) dL_isMill_378 ⟨Nat.zero_le _, Nat.zero_le _⟩ ?_
          obtain ⟨r_12, er_12⟩ : ∃ z, z = (mX5_millOf (xx 0) mill 4) := ⟨_, rfl⟩
          rw [← er_12]
          replace hR := lt_e hR er_12
          refine lv_iload hx hb dL_isMill_381 (lv_at hl 4 rfl) ?_
          refine lv_icmp_ne (tgt := 425) hx hb dL_isMill_383 (by decide) (fun c_13 => ?_) (fun c_13 => ?_)
          · rw [if_neg c_13] at hR
            have tc_13 : ¬ r_12.toInt = x8_85.toInt := fun z => c_13 (i_eq.mpr z)
            refine lv_iconst (v := 0) hx hb dL_isMill_425 (by decide) ?_
            exact ro_zret hx hb hr hk (Or.inl rfl) hR dL_isMill_426
          · rw [if_pos c_13] at hR
            have tc_13 : r_12.toInt = x8_85.toInt := i_eq.mp c_13
            refine lv_aload_n hx hb dL_isMill_386 rfl (lv_at hl 9 rfl) ?_
            refine lv_iload hx hb dL_isMill_387 (lv_at hl 7 rfl) ?_
            refine lv_iconst (v := 0) hx hb dL_isMill_389 (by decide) ?_
            refine ro_V (v := .int (mX5_yardOf (xx 0) r_2 0)) (rest := []) (As := [.int r_2, .int 0]) hx hb hml hown hts hl (MX5_yardOf l D q ad (xx 9 0 0) (xx 0) r_2 0) gL_isMill_X5_yardOf rfl kX5_yardOf ⟨Nat.le_of_ble_eq_true rfl, Nat.le_of_ble_eq_true rfl⟩ rfl rfl (hP.sub (ws' := (wXN q ad (xx 9 0 0) (xx 0))) [0, 1, 2, 3, 4, 5, 6, 7, 8, 9, 10] rfl) (dT (hD.sub (ws' := (wXN q ad (xx 9 0 0) (xx 0))) [0, 1, 2, 3, 4, 5, 6, 7, 8, 9, 10] (by decide) rfl)) hG (ci := 3) rfl rfl rfl rfl (Nat.le_of_ble_eq_true rfl) dL_isMill_390 ⟨Nat.zero_le _, Nat.zero_le _⟩ ?_
            obtain ⟨r_14, er_14⟩ : ∃ z, z = (mX5_yardOf (xx 0) r_2 0) := ⟨_, rfl⟩
            rw [← er_14]
            replace hR := lt_e hR er_14
            refine lv_iload_n hx hb dL_isMill_393 rfl (lv_at hl 11 rfl) ?_
            refine lv_icmp_ne (tgt := 425) hx hb dL_isMill_394 (by decide) (fun c_15 => ?_) (fun c_15 => ?_)
            · rw [if_neg c_15] at hR
              have tc_15 : ¬ r_14.toInt = mill.toInt := fun z => c_15 (i_eq.mpr z)
              refine lv_iconst (v := 0) hx hb dL_isMill_425 (by decide) ?_
              exact ro_zret hx hb hr hk (Or.inl rfl) hR dL_isMill_426
            · rw [if_pos c_15] at hR
              have tc_15 : r_14.toInt = mill.toInt := i_eq.mp c_15
              refine lv_aload_n hx hb dL_isMill_397 rfl (lv_at hl 9 rfl) ?_
              refine lv_iload hx hb dL_isMill_398 (lv_at hl 7 rfl) ?_
              refine lv_iconst (v := 1) hx hb dL_isMill_400 (by decide) ?_
              refine ro_V (v := .int (mX5_yardOf (xx 0) r_2 1)) (rest := []) (As := [.int r_2, .int 1]) hx hb hml hown hts hl (MX5_yardOf l D q ad (xx 9 0 0) (xx 0) r_2 1) gL_isMill_X5_yardOf rfl kX5_yardOf ⟨Nat.le_of_ble_eq_true rfl, Nat.le_of_ble_eq_true rfl⟩ rfl rfl (hP.sub (ws' := (wXN q ad (xx 9 0 0) (xx 0))) [0, 1, 2, 3, 4, 5, 6, 7, 8, 9, 10] rfl) (dT (hD.sub (ws' := (wXN q ad (xx 9 0 0) (xx 0))) [0, 1, 2, 3, 4, 5, 6, 7, 8, 9, 10] (by decide) rfl)) hG (ci := 3) rfl rfl rfl rfl (Nat.le_of_ble_eq_true rfl) dL_isMill_401 ⟨Nat.zero_le _, Nat.zero_le _⟩ ?_
              obtain ⟨r_16, er_16⟩ : ∃ z, z = (mX5_yardOf (xx 0) r_2 1) := ⟨_, rfl⟩
              rw [← er_16]
              replace hR := lt_e hR er_16
              refine lv_bipush (v := (-5)) hx hb dL_isMill_404 (by decide) ?_
              refine lv_icmp_ne (tgt := 425) hx hb dL_isMill_406 (by decide) (fun c_17 => ?_) (fun c_17 => ?_)
              · rw [if_neg c_17] at hR
                have tc_17 : ¬ r_16.toInt = (-5) := fun z => c_17 (i_eq.mpr z)
                refine lv_iconst (v := 0) hx hb dL_isMill_425 (by decide) ?_
                exact ro_zret hx hb hr hk (Or.inl rfl) hR dL_isMill_426
              · rw [if_pos c_17] at hR
                have tc_17 : r_16.toInt = (-5) := i_eq.mp c_17
                refine lv_iload hx hb dL_isMill_409 (lv_at hl 6 rfl) ?_
                refine lv_if_le (tgt := 425) hx hb dL_isMill_411 (by decide) (fun c_18 => ?_) (fun c_18 => ?_)
                · rw [if_pos c_18] at hR
                  have tc_18 : r_3.toInt ≤ 0 := i_le.mp c_18
                  refine lv_iconst (v := 0) hx hb dL_isMill_425 (by decide) ?_
                  exact ro_zret hx hb hr hk (Or.inl rfl) hR dL_isMill_426
                · rw [if_neg c_18] at hR
                  have tc_18 : ¬ r_3.toInt ≤ 0 := fun z => c_18 (i_le.mpr z)
                  refine lv_iload hx hb dL_isMill_414 (lv_at hl 6 rfl) ?_
                  refine lv_bipush (v := 6) hx hb dL_isMill_416 (by decide) ?_
                  refine lv_icmp_ge (tgt := 425) hx hb dL_isMill_418 (by decide) (fun c_19 => ?_) (fun c_19 => ?_)
                  · rw [if_pos c_19] at hR
                    have tc_19 : 6 ≤ r_3.toInt := i_le.mp c_19
                    refine lv_iconst (v := 0) hx hb dL_isMill_425 (by decide) ?_
                    exact ro_zret hx hb hr hk (Or.inl rfl) hR dL_isMill_426
                  · rw [if_neg c_19] at hR
                    have tc_19 : ¬ 6 ≤ r_3.toInt := fun z => c_19 (i_le.mpr z)
                    refine lv_iconst (v := 1) hx hb dL_isMill_421 (by decide) ?_
                    refine lv_goto (tgt := 426) hx hb dL_isMill_422 (by decide) ?_
                    exact ro_zret hx hb hr hk (Or.inr rfl) hR dL_isMill_426
      | succ n_85 ih_85 =>
        intro x12_85 x8_85 x7_85 hn_85 hk_85 hR ls hl
        rw [mL_isMill_85] at hR
        refine lv_iload hx hb dL_isMill_85 (lv_at hl 0 rfl) ?_
        refine lv_bipush (v := 24) hx hb dL_isMill_87 (by decide) ?_
        refine lv_icmp_ge (tgt := 364) hx hb dL_isMill_89 (by decide) (fun c_9 => (trS hn_85 c_9).elim) (fun c_9 => ?_)
        have hlt_c_9 : x12_85.toInt < 24 := k_lt c_9
        refine lv_iload hx hb dL_isMill_92 (lv_at hl 8 rfl) ?_
        refine lv_iload hx hb dL_isMill_94 (lv_at hl 0 rfl) ?_
        refine ro_S (v := .int (mL_has r_1 x12_85)) (rest := []) (As := [.int r_1, .int x12_85]) hx hb hml hown hts hl (ML_has l D q r_1 x12_85) gL_isMill_L_has rfl kL_has ⟨Nat.le_of_ble_eq_true rfl, Nat.le_of_ble_eq_true rfl⟩ rfl rfl (hP.sub (ws' := []) [] rfl) (dT (hD.sub (ws' := []) [] (by decide) rfl)) hG rfl rfl (Nat.le_of_ble_eq_true rfl) dL_isMill_96 ⟨Nat.zero_le _, Nat.zero_le _⟩ ?_
        obtain ⟨r_20, er_20⟩ : ∃ z, z = (mL_has r_1 x12_85) := ⟨_, rfl⟩
        rw [← er_20]
        replace hR := lt_e hR er_20
        refine jn_1 hR (fun F_115_21 eF_115_21 hR => ?_)
        have key_115_21 : ∀ (y115_s0_21 : Int32), lt y115_s0_21 F_115_21 = R → ∀ ls : Array Slot, lv_has ls 19 [(12, .int x12_85), (11, .int y80_s0_8), (10, .int e_5), (9, .int e_4), (8, .int x8_85), (7, .int x7_85), (6, .int r_3), (5, .int r_2), (4, .int r_1), (0, .ref (ad 9 0)), (1, .ref (ad 10 0)), (2, .int mill), (3, .int yard)] → W p l e ({ frames := 6, cells := 0, slots := 0, locals := 131 } : Room) s m ([.ref (ad 9 0), .ref (ad 10 0), .int mill, .int yard] : List Value).toArray below meth c s.heap [] 0 0 (MQ below (roQ (some (.int R))) ([.ref (ad 9 0), .ref (ad 10 0), .int mill, .int yard] : List Value).toArray s 0 0 (fun _ => False)) (F0 m 115 ls [.int y115_s0_21]) := by
          intro y115_s0_21 hR ls hl
          rw [eF_115_21] at hR
          replace hR := jn_e1 hR
          refine lv_istore (lv' := [(13, .int y115_s0_21), (12, .int x12_85), (11, .int y80_s0_8), (10, .int e_5), (9, .int e_4), (8, .int x8_85), (7, .int x7_85), (6, .int r_3), (5, .int r_2), (4, .int r_1), (0, .ref (ad 9 0)), (1, .ref (ad 10 0)), (2, .int mill), (3, .int yard)]) hx hb dL_isMill_115 hl (by decide) rfl (fun ls hl => ?_)
          refine lv_iload hx hb dL_isMill_117 (lv_at hl 0 rfl) ?_
          refine jn_1 hR (fun F_146_22 eF_146_22 hR => ?_)
          have key_146_22 : ∀ (y146_s0_22 : Int32), lt y146_s0_22 F_146_22 = R → ∀ ls : Array Slot, lv_has ls 19 [(13, .int y115_s0_21), (12, .int x12_85), (11, .int y80_s0_8), (10, .int e_5), (9, .int e_4), (8, .int x8_85), (7, .int x7_85), (6, .int r_3), (5, .int r_2), (4, .int r_1), (0, .ref (ad 9 0)), (1, .ref (ad 10 0)), (2, .int mill), (3, .int yard)] → W p l e ({ frames := 6, cells := 0, slots := 0, locals := 131 } : Room) s m ([.ref (ad 9 0), .ref (ad 10 0), .int mill, .int yard] : List Value).toArray below meth c s.heap [] 0 0 (MQ below (roQ (some (.int R))) ([.ref (ad 9 0), .ref (ad 10 0), .int mill, .int yard] : List Value).toArray s 0 0 (fun _ => False)) (F0 m 146 ls [.int y146_s0_22]) := by
            intro y146_s0_22 hR ls hl
            rw [eF_146_22] at hR
            replace hR := jn_e1 hR
            refine lv_istore (lv' := [(14, .int y146_s0_22), (13, .int y115_s0_21), (12, .int x12_85), (11, .int y80_s0_8), (10, .int e_5), (9, .int e_4), (8, .int x8_85), (7, .int x7_85), (6, .int r_3), (5, .int r_2), (4, .int r_1), (0, .ref (ad 9 0)), (1, .ref (ad 10 0)), (2, .int mill), (3, .int yard)]) hx hb dL_isMill_146 hl (by decide) rfl (fun ls hl => ?_)
            refine lv_iload hx hb dL_isMill_148 (lv_at hl 2 rfl) ?_
            refine lv_bipush (v := 12) hx hb dL_isMill_150 (by decide) ?_
            refine lv_isub hx hb dL_isMill_152 ?_
            refine ro_S (v := .int (mL_size (x12_85 - 12))) (rest := []) (As := [.int (x12_85 - 12)]) hx hb hml hown hts hl (ML_size l D q (x12_85 - 12)) gL_isMill_L_size rfl kL_size ⟨Nat.le_of_ble_eq_true rfl, Nat.le_of_ble_eq_true rfl⟩ rfl rfl (hP.sub (ws' := []) [] rfl) (dT (hD.sub (ws' := []) [] (by decide) rfl)) hG rfl rfl (Nat.le_of_ble_eq_true rfl) dL_isMill_153 ⟨Nat.zero_le _, Nat.zero_le _⟩ ?_
            obtain ⟨r_23, er_23⟩ : ∃ z, z = (mL_size (x12_85 - 12)) := ⟨_, rfl⟩
            rw [← er_23]
            replace hR := lt_e hR er_23
            refine lv_istore (lv' := [(15, .int r_23), (14, .int y146_s0_22), (13, .int y115_s0_21), (12, .int x12_85), (11, .int y80_s0_8), (10, .int e_5), (9, .int e_4), (8, .int x8_85), (7, .int x7_85), (6, .int r_3), (5, .int r_2), (4, .int r_1), (0, .ref (ad 9 0)), (1, .ref (ad 10 0)), (2, .int mill), (3, .int yard)]) hx hb dL_isMill_156 hl (by decide) rfl (fun ls hl => ?_)
            refine lv_iload hx hb dL_isMill_158 (lv_at hl 3 rfl) ?_
            refine lv_bipush (v := 12) hx hb dL_isMill_160 (by decide) ?_
            refine jn_1 hR (fun F_181_24 eF_181_24 hR => ?_)
            have key_181_24 : ∀ (y181_s0_24 : Int32), lt y181_s0_24 F_181_24 = R → ∀ ls : Array Slot, lv_has ls 19 [(15, .int r_23), (14, .int y146_s0_22), (13, .int y115_s0_21), (12, .int x12_85), (11, .int y80_s0_8), (10, .int e_5), (9, .int e_4), (8, .int x8_85), (7, .int x7_85), (6, .int r_3), (5, .int r_2), (4, .int r_1), (0, .ref (ad 9 0)), (1, .ref (ad 10 0)), (2, .int mill), (3, .int yard)] → W p l e ({ frames := 6, cells := 0, slots := 0, locals := 131 } : Room) s m ([.ref (ad 9 0), .ref (ad 10 0), .int mill, .int yard] : List Value).toArray below meth c s.heap [] 0 0 (MQ below (roQ (some (.int R))) ([.ref (ad 9 0), .ref (ad 10 0), .int mill, .int yard] : List Value).toArray s 0 0 (fun _ => False)) (F0 m 181 ls [.int y181_s0_24]) := by
              intro y181_s0_24 hR ls hl
              rw [eF_181_24] at hR
              replace hR := jn_e1 hR
              refine lv_istore (lv' := [(16, .int y181_s0_24), (15, .int r_23), (14, .int y146_s0_22), (13, .int y115_s0_21), (12, .int x12_85), (11, .int y80_s0_8), (10, .int e_5), (9, .int e_4), (8, .int x8_85), (7, .int x7_85), (6, .int r_3), (5, .int r_2), (4, .int r_1), (0, .ref (ad 9 0)), (1, .ref (ad 10 0)), (2, .int mill), (3, .int yard)]) hx hb dL_isMill_181 hl (by decide) rfl (fun ls hl => ?_)
              refine lv_iload hx hb dL_isMill_183 (lv_at hl 4 rfl) ?_
              refine lv_bipush (v := 9) hx hb dL_isMill_185 (by decide) ?_
              refine jn_1 hR (fun F_202_25 eF_202_25 hR => ?_)
              have key_202_25 : ∀ (y202_s0_25 : Int32), lt y202_s0_25 F_202_25 = R → ∀ ls : Array Slot, lv_has ls 19 [(16, .int y181_s0_24), (15, .int r_23), (14, .int y146_s0_22), (13, .int y115_s0_21), (12, .int x12_85), (11, .int y80_s0_8), (10, .int e_5), (9, .int e_4), (8, .int x8_85), (7, .int x7_85), (6, .int r_3), (5, .int r_2), (4, .int r_1), (0, .ref (ad 9 0)), (1, .ref (ad 10 0)), (2, .int mill), (3, .int yard)] → W p l e ({ frames := 6, cells := 0, slots := 0, locals := 131 } : Room) s m ([.ref (ad 9 0), .ref (ad 10 0), .int mill, .int yard] : List Value).toArray below meth c s.heap [] 0 0 (MQ below (roQ (some (.int R))) ([.ref (ad 9 0), .ref (ad 10 0), .int mill, .int yard] : List Value).toArray s 0 0 (fun _ => False)) (F0 m 202 ls [.int y202_s0_25]) := by
                intro y202_s0_25 hR ls hl
                rw [eF_202_25] at hR
                replace hR := jn_e1 hR
                refine lv_istore (lv' := [(17, .int y202_s0_25), (16, .int y181_s0_24), (15, .int r_23), (14, .int y146_s0_22), (13, .int y115_s0_21), (12, .int x12_85), (11, .int y80_s0_8), (10, .int e_5), (9, .int e_4), (8, .int x8_85), (7, .int x7_85), (6, .int r_3), (5, .int r_2), (4, .int r_1), (0, .ref (ad 9 0)), (1, .ref (ad 10 0)), (2, .int mill), (3, .int yard)]) hx hb dL_isMill_202 hl (by decide) rfl (fun ls hl => ?_)
                refine lv_iload hx hb dL_isMill_204 (lv_at hl 5 rfl) ?_
                refine lv_iconst (v := 5) hx hb dL_isMill_206 (by decide) ?_
                refine jn_1 hR (fun F_261_26 eF_261_26 hR => ?_)
                have key_261_26 : ∀ (y261_s0_26 : Int32), lt y261_s0_26 F_261_26 = R → ∀ ls : Array Slot, lv_has ls 19 [(17, .int y202_s0_25), (16, .int y181_s0_24), (15, .int r_23), (14, .int y146_s0_22), (13, .int y115_s0_21), (12, .int x12_85), (11, .int y80_s0_8), (10, .int e_5), (9, .int e_4), (8, .int x8_85), (7, .int x7_85), (6, .int r_3), (5, .int r_2), (4, .int r_1), (0, .ref (ad 9 0)), (1, .ref (ad 10 0)), (2, .int mill), (3, .int yard)] → W p l e ({ frames := 6, cells := 0, slots := 0, locals := 131 } : Room) s m ([.ref (ad 9 0), .ref (ad 10 0), .int mill, .int yard] : List Value).toArray below meth c s.heap [] 0 0 (MQ below (roQ (some (.int R))) ([.ref (ad 9 0), .ref (ad 10 0), .int mill, .int yard] : List Value).toArray s 0 0 (fun _ => False)) (F0 m 261 ls [.int y261_s0_26]) := by
                  intro y261_s0_26 hR ls hl
                  rw [eF_261_26] at hR
                  replace hR := jn_e1 hR
                  refine lv_istore (lv' := [(18, .int y261_s0_26), (17, .int y202_s0_25), (16, .int y181_s0_24), (15, .int r_23), (14, .int y146_s0_22), (13, .int y115_s0_21), (12, .int x12_85), (11, .int y80_s0_8), (10, .int e_5), (9, .int e_4), (8, .int x8_85), (7, .int x7_85), (6, .int r_3), (5, .int r_2), (4, .int r_1), (0, .ref (ad 9 0)), (1, .ref (ad 10 0)), (2, .int mill), (3, .int yard)]) hx hb dL_isMill_261 hl (by decide) rfl (fun ls hl => ?_)
                  refine lv_aload_n hx hb dL_isMill_263 rfl (lv_at hl 15 rfl) ?_
                  refine lv_iload_n hx hb dL_isMill_264 rfl (lv_at hl 17 rfl) ?_
                  refine lv_iload_n hx hb dL_isMill_265 rfl (lv_at hl 18 rfl) ?_
                  refine lv_iload hx hb dL_isMill_266 (lv_at hl 6 rfl) ?_
                  refine ro_V (v := .int (mX5_noise (xx 0) mill yard x12_85)) (rest := []) (As := [.int mill, .int yard, .int x12_85]) hx hb hml hown hts hl (MX5_noise l D q ad (xx 9 0 0) (xx 0) mill yard x12_85) gL_isMill_X5_noise rfl kX5_noise ⟨Nat.le_of_ble_eq_true rfl, Nat.le_of_ble_eq_true rfl⟩ rfl rfl (hP.sub (ws' := (wXN q ad (xx 9 0 0) (xx 0))) [0, 1, 2, 3, 4, 5, 6, 7, 8, 9, 10] rfl) (dT (hD.sub (ws' := (wXN q ad (xx 9 0 0) (xx 0))) [0, 1, 2, 3, 4, 5, 6, 7, 8, 9, 10] (by decide) rfl)) hG (ci := 3) rfl rfl rfl rfl (Nat.le_of_ble_eq_true rfl) dL_isMill_268 ⟨Nat.zero_le _, Nat.zero_le _⟩ ?_
                  obtain ⟨r_27, er_27⟩ : ∃ z, z = (mX5_noise (xx 0) mill yard x12_85) := ⟨_, rfl⟩
                  rw [← er_27]
                  replace hR := lt_e hR er_27
                  refine lv_iload hx hb dL_isMill_271 (lv_at hl 4 rfl) ?_
                  refine lv_icmp_ne (tgt := 320) hx hb dL_isMill_273 (by decide) (fun c_28 => ?_) (fun c_28 => ?_)
                  · rw [if_neg c_28] at hR
                    have tc_28 : ¬ r_27.toInt = y146_s0_22.toInt := fun z => c_28 (i_eq.mpr z)
                    refine lv_iconst (v := 0) hx hb dL_isMill_320 (by decide) ?_
                    exact ro_zret hx hb hr hk (Or.inl rfl) hR dL_isMill_321
                  · rw [if_pos c_28] at hR
                    have tc_28 : r_27.toInt = y146_s0_22.toInt := i_eq.mp c_28
                    refine lv_aload_n hx hb dL_isMill_276 rfl (lv_at hl 15 rfl) ?_
                    refine lv_iload_n hx hb dL_isMill_277 rfl (lv_at hl 17 rfl) ?_
                    refine lv_iload_n hx hb dL_isMill_278 rfl (lv_at hl 18 rfl) ?_
                    refine lv_iload hx hb dL_isMill_279 (lv_at hl 6 rfl) ?_
                    refine lv_iconst (v := 0) hx hb dL_isMill_281 (by decide) ?_
                    refine ro_V (v := .int (mX5_shadow (xx 0) mill yard x12_85 0)) (rest := []) (As := [.int mill, .int yard, .int x12_85, .int 0]) hx hb hml hown hts hl (MX5_shadow l D q ad (xx 9 0 0) (xx 0) mill yard x12_85 0) gL_isMill_X5_shadow rfl kX5_shadow ⟨Nat.le_of_ble_eq_true rfl, Nat.le_of_ble_eq_true rfl⟩ rfl rfl (hP.sub (ws' := (wXN q ad (xx 9 0 0) (xx 0))) [0, 1, 2, 3, 4, 5, 6, 7, 8, 9, 10] rfl) (dT (hD.sub (ws' := (wXN q ad (xx 9 0 0) (xx 0))) [0, 1, 2, 3, 4, 5, 6, 7, 8, 9, 10] (by decide) rfl)) hG (ci := 3) rfl rfl rfl rfl (Nat.le_of_ble_eq_true rfl) dL_isMill_282 ⟨Nat.zero_le _, Nat.zero_le _⟩ ?_
                    obtain ⟨r_29, er_29⟩ : ∃ z, z = (mX5_shadow (xx 0) mill yard x12_85 0) := ⟨_, rfl⟩
                    rw [← er_29]
                    replace hR := lt_e hR er_29
                    refine lv_iload hx hb dL_isMill_285 (lv_at hl 0 rfl) ?_
                    refine jn_1 hR (fun F_295_30 eF_295_30 hR => ?_)
                    have key_295_30 : ∀ (y295_s0_30 : Int32), lt y295_s0_30 F_295_30 = R → ∀ ls : Array Slot, lv_has ls 19 [(18, .int y261_s0_26), (17, .int y202_s0_25), (16, .int y181_s0_24), (15, .int r_23), (14, .int y146_s0_22), (13, .int y115_s0_21), (12, .int x12_85), (11, .int y80_s0_8), (10, .int e_5), (9, .int e_4), (8, .int x8_85), (7, .int x7_85), (6, .int r_3), (5, .int r_2), (4, .int r_1), (0, .ref (ad 9 0)), (1, .ref (ad 10 0)), (2, .int mill), (3, .int yard)] → W p l e ({ frames := 6, cells := 0, slots := 0, locals := 131 } : Room) s m ([.ref (ad 9 0), .ref (ad 10 0), .int mill, .int yard] : List Value).toArray below meth c s.heap [] 0 0 (MQ below (roQ (some (.int R))) ([.ref (ad 9 0), .ref (ad 10 0), .int mill, .int yard] : List Value).toArray s 0 0 (fun _ => False)) (F0 m 295 ls [.int y295_s0_30, .int r_29]) := by
                      intro y295_s0_30 hR ls hl
                      rw [eF_295_30] at hR
                      replace hR := jn_e1 hR
                      refine lv_icmp_ne (tgt := 320) hx hb dL_isMill_295 (by decide) (fun c_31 => ?_) (fun c_31 => ?_)
                      · rw [if_neg c_31] at hR
                        have tc_31 : ¬ r_29.toInt = y295_s0_30.toInt := fun z => c_31 (i_eq.mpr z)
                        refine lv_iconst (v := 0) hx hb dL_isMill_320 (by decide) ?_
                        exact ro_zret hx hb hr hk (Or.inl rfl) hR dL_isMill_321
                      · rw [if_pos c_31] at hR
                        have tc_31 : r_29.toInt = y295_s0_30.toInt := i_eq.mp c_31
                        refine lv_aload_n hx hb dL_isMill_298 rfl (lv_at hl 15 rfl) ?_
                        refine lv_iload_n hx hb dL_isMill_299 rfl (lv_at hl 17 rfl) ?_
                        refine lv_iload_n hx hb dL_isMill_300 rfl (lv_at hl 18 rfl) ?_
                        refine lv_iload hx hb dL_isMill_301 (lv_at hl 6 rfl) ?_
                        refine lv_iconst (v := 1) hx hb dL_isMill_303 (by decide) ?_
                        refine ro_V (v := .int (mX5_shadow (xx 0) mill yard x12_85 1)) (rest := []) (As := [.int mill, .int yard, .int x12_85, .int 1]) hx hb hml hown hts hl (MX5_shadow l D q ad (xx 9 0 0) (xx 0) mill yard x12_85 1) gL_isMill_X5_shadow rfl kX5_shadow ⟨Nat.le_of_ble_eq_true rfl, Nat.le_of_ble_eq_true rfl⟩ rfl rfl (hP.sub (ws' := (wXN q ad (xx 9 0 0) (xx 0))) [0, 1, 2, 3, 4, 5, 6, 7, 8, 9, 10] rfl) (dT (hD.sub (ws' := (wXN q ad (xx 9 0 0) (xx 0))) [0, 1, 2, 3, 4, 5, 6, 7, 8, 9, 10] (by decide) rfl)) hG (ci := 3) rfl rfl rfl rfl (Nat.le_of_ble_eq_true rfl) dL_isMill_304 ⟨Nat.zero_le _, Nat.zero_le _⟩ ?_
                        obtain ⟨r_32, er_32⟩ : ∃ z, z = (mX5_shadow (xx 0) mill yard x12_85 1) := ⟨_, rfl⟩
                        rw [← er_32]
                        replace hR := lt_e hR er_32
                        refine lv_iload hx hb dL_isMill_307 (lv_at hl 0 rfl) ?_
                        refine jn_1 hR (fun F_317_33 eF_317_33 hR => ?_)
                        have key_317_33 : ∀ (y317_s0_33 : Int32), lt y317_s0_33 F_317_33 = R → ∀ ls : Array Slot, lv_has ls 19 [(18, .int y261_s0_26), (17, .int y202_s0_25), (16, .int y181_s0_24), (15, .int r_23), (14, .int y146_s0_22), (13, .int y115_s0_21), (12, .int x12_85), (11, .int y80_s0_8), (10, .int e_5), (9, .int e_4), (8, .int x8_85), (7, .int x7_85), (6, .int r_3), (5, .int r_2), (4, .int r_1), (0, .ref (ad 9 0)), (1, .ref (ad 10 0)), (2, .int mill), (3, .int yard)] → W p l e ({ frames := 6, cells := 0, slots := 0, locals := 131 } : Room) s m ([.ref (ad 9 0), .ref (ad 10 0), .int mill, .int yard] : List Value).toArray below meth c s.heap [] 0 0 (MQ below (roQ (some (.int R))) ([.ref (ad 9 0), .ref (ad 10 0), .int mill, .int yard] : List Value).toArray s 0 0 (fun _ => False)) (F0 m 317 ls [.int y317_s0_33, .int r_32]) := by
                          intro y317_s0_33 hR ls hl
                          rw [eF_317_33] at hR
                          replace hR := jn_e1 hR
                          refine lv_icmp_eq (tgt := 322) hx hb dL_isMill_317 (by decide) (fun c_34 => ?_) (fun c_34 => ?_)
                          · rw [if_pos c_34] at hR
                            have tc_34 : r_32.toInt = y317_s0_33.toInt := i_eq.mp c_34
                            refine lv_iload hx hb dL_isMill_322 (lv_at hl 11 rfl) ?_
                            refine lv_iload hx hb dL_isMill_324 (lv_at hl 5 rfl) ?_
                            refine jn_1 hR (fun F_337_35 eF_337_35 hR => ?_)
                            have key_337_35 : ∀ (y337_s0_35 : Int32), lt y337_s0_35 F_337_35 = R → ∀ ls : Array Slot, lv_has ls 19 [(18, .int y261_s0_26), (17, .int y202_s0_25), (16, .int y181_s0_24), (15, .int r_23), (14, .int y146_s0_22), (13, .int y115_s0_21), (12, .int x12_85), (11, .int y80_s0_8), (10, .int e_5), (9, .int e_4), (8, .int x8_85), (7, .int x7_85), (6, .int r_3), (5, .int r_2), (4, .int r_1), (0, .ref (ad 9 0)), (1, .ref (ad 10 0)), (2, .int mill), (3, .int yard)] → W p l e ({ frames := 6, cells := 0, slots := 0, locals := 131 } : Room) s m ([.ref (ad 9 0), .ref (ad 10 0), .int mill, .int yard] : List Value).toArray below meth c s.heap [] 0 0 (MQ below (roQ (some (.int R))) ([.ref (ad 9 0), .ref (ad 10 0), .int mill, .int yard] : List Value).toArray s 0 0 (fun _ => False)) (F0 m 337 ls [.int y337_s0_35, .int x7_85]) := by
                              intro y337_s0_35 hR ls hl
                              rw [eF_337_35] at hR
                              replace hR := jn_e1 hR
                              refine lv_ior hx hb dL_isMill_337 ?_
                              obtain ⟨e_36, ee_36⟩ : ∃ z, z = (x7_85 ||| y337_s0_35) := ⟨_, rfl⟩
                              rw [← ee_36]
                              replace hR := lt_e hR ee_36
                              refine lv_istore (lv' := [(7, .int e_36), (18, .int y261_s0_26), (17, .int y202_s0_25), (16, .int y181_s0_24), (15, .int r_23), (14, .int y146_s0_22), (13, .int y115_s0_21), (12, .int x12_85), (11, .int y80_s0_8), (10, .int e_5), (9, .int e_4), (8, .int x8_85), (6, .int r_3), (5, .int r_2), (4, .int r_1), (0, .ref (ad 9 0)), (1, .ref (ad 10 0)), (2, .int mill), (3, .int yard)]) hx hb dL_isMill_338 hl (by decide) rfl (fun ls hl => ?_)
                              refine lv_iload hx hb dL_isMill_340 (lv_at hl 11 rfl) ?_
                              refine lv_iload hx hb dL_isMill_342 (lv_at hl 6 rfl) ?_
                              refine jn_1 hR (fun F_355_37 eF_355_37 hR => ?_)
                              have key_355_37 : ∀ (y355_s0_37 : Int32), lt y355_s0_37 F_355_37 = R → ∀ ls : Array Slot, lv_has ls 19 [(7, .int e_36), (18, .int y261_s0_26), (17, .int y202_s0_25), (16, .int y181_s0_24), (15, .int r_23), (14, .int y146_s0_22), (13, .int y115_s0_21), (12, .int x12_85), (11, .int y80_s0_8), (10, .int e_5), (9, .int e_4), (8, .int x8_85), (6, .int r_3), (5, .int r_2), (4, .int r_1), (0, .ref (ad 9 0)), (1, .ref (ad 10 0)), (2, .int mill), (3, .int yard)] → W p l e ({ frames := 6, cells := 0, slots := 0, locals := 131 } : Room) s m ([.ref (ad 9 0), .ref (ad 10 0), .int mill, .int yard] : List Value).toArray below meth c s.heap [] 0 0 (MQ below (roQ (some (.int R))) ([.ref (ad 9 0), .ref (ad 10 0), .int mill, .int yard] : List Value).toArray s 0 0 (fun _ => False)) (F0 m 355 ls [.int y355_s0_37, .int x8_85]) := by
                                intro y355_s0_37 hR ls hl
                                rw [eF_355_37] at hR
                                replace hR := jn_e1 hR
                                refine lv_iadd hx hb dL_isMill_355 ?_
                                obtain ⟨e_38, ee_38⟩ : ∃ z, z = (x8_85 + y355_s0_37) := ⟨_, rfl⟩
                                rw [← ee_38]
                                replace hR := lt_e hR ee_38
                                refine lv_istore (lv' := [(8, .int e_38), (7, .int e_36), (18, .int y261_s0_26), (17, .int y202_s0_25), (16, .int y181_s0_24), (15, .int r_23), (14, .int y146_s0_22), (13, .int y115_s0_21), (12, .int x12_85), (11, .int y80_s0_8), (10, .int e_5), (9, .int e_4), (6, .int r_3), (5, .int r_2), (4, .int r_1), (0, .ref (ad 9 0)), (1, .ref (ad 10 0)), (2, .int mill), (3, .int yard)]) hx hb dL_isMill_356 hl (by decide) rfl (fun ls hl => ?_)
                                refine lv_iinc (v := (x12_85 + 1)) (lv' := [(12, .int (x12_85 + 1)), (8, .int e_38), (7, .int e_36), (18, .int y261_s0_26), (17, .int y202_s0_25), (16, .int y181_s0_24), (15, .int r_23), (14, .int y146_s0_22), (13, .int y115_s0_21), (11, .int y80_s0_8), (10, .int e_5), (9, .int e_4), (6, .int r_3), (5, .int r_2), (4, .int r_1), (0, .ref (ad 9 0)), (1, .ref (ad 10 0)), (2, .int mill), (3, .int yard)]) hx hb dL_isMill_358 hl (k := 8) rfl rfl (by decide) rfl (fun ls hl => ?_)
                                refine lv_goto (tgt := 85) hx hb dL_isMill_361 (by decide) ?_
                                exact ih_85 (x12_85 + 1) e_38 e_36 (trN hn_85) (k_up hk_85 c_9) hR ls (lv_sub hl [0, 9, 10, 11, 1, 2, 12, 13, 14, 15, 16, 17, 18] rfl)
                              refine lv_if_eq (tgt := 354) hx hb dL_isMill_344 (by decide) (fun c_39 => ?_) (fun c_39 => ?_)
                              · rw [if_pos c_39] at hR
                                have tc_39 : y115_s0_21.toInt = 0 := i_eq.mp c_39
                                refine lv_iconst (v := 0) hx hb dL_isMill_354 (by decide) ?_
                                exact key_355_37 0 hR ls (lv_sub hl [0, 1, 2, 3, 4, 5, 6, 7, 8, 9, 10, 11, 12, 13, 14, 15, 16, 17, 18] rfl)
                              · rw [if_neg c_39] at hR
                                have tc_39 : ¬ y115_s0_21.toInt = 0 := fun z => c_39 (i_eq.mpr z)
                                refine lv_aload_n hx hb dL_isMill_347 rfl (lv_at hl 16 rfl) ?_
                                refine lv_iload hx hb dL_isMill_348 (lv_at hl 7 rfl) ?_
                                refine va_iald hx hb hG.1 hP 75 0 rfl rfl (ix_t (i := x12_85) (x := (x12_85).toInt) (n := 24) rfl (by omega)) dL_isMill_350 ?_
                                refine lv_goto (tgt := 355) hx hb dL_isMill_351 (by decide) ?_
                                exact key_355_37 ((xx 10 0) (x12_85).toNatClampNeg) hR ls (lv_sub hl [0, 1, 2, 3, 4, 5, 6, 7, 8, 9, 10, 11, 12, 13, 14, 15, 16, 17, 18] rfl)
                            refine lv_if_eq (tgt := 336) hx hb dL_isMill_326 (by decide) (fun c_40 => ?_) (fun c_40 => ?_)
                            · rw [if_pos c_40] at hR
                              have tc_40 : y115_s0_21.toInt = 0 := i_eq.mp c_40
                              refine lv_iconst (v := 0) hx hb dL_isMill_336 (by decide) ?_
                              exact key_337_35 0 hR ls (lv_sub hl [0, 1, 2, 3, 4, 5, 6, 7, 8, 9, 10, 11, 12, 13, 14, 15, 16, 17, 18] rfl)
                            · rw [if_neg c_40] at hR
                              have tc_40 : ¬ y115_s0_21.toInt = 0 := fun z => c_40 (i_eq.mpr z)
                              refine lv_iconst (v := 1) hx hb dL_isMill_329 (by decide) ?_
                              refine lv_iload hx hb dL_isMill_330 (lv_at hl 6 rfl) ?_
                              refine lv_ishl hx hb dL_isMill_332 ?_
                              refine lv_goto (tgt := 337) hx hb dL_isMill_333 (by decide) ?_
                              exact key_337_35 (1 <<< (x12_85 &&& 31)) hR ls (lv_sub hl [0, 1, 2, 3, 4, 5, 6, 7, 8, 9, 10, 11, 12, 13, 14, 15, 16, 17, 18] rfl)
                          · rw [if_neg c_34] at hR
                            have tc_34 : ¬ r_32.toInt = y317_s0_33.toInt := fun z => c_34 (i_eq.mpr z)
                            refine lv_iconst (v := 0) hx hb dL_isMill_320 (by decide) ?_
                            exact ro_zret hx hb hr hk (Or.inl rfl) hR dL_isMill_321
                        refine lv_if_eq (tgt := 316) hx hb dL_isMill_309 (by decide) (fun c_41 => ?_) (fun c_41 => ?_)
                        · rw [if_pos c_41] at hR
                          have tc_41 : y261_s0_26.toInt = 0 := i_eq.mp c_41
                          refine lv_iconst (v := 0) hx hb dL_isMill_316 (by decide) ?_
                          exact key_317_33 0 hR ls (lv_sub hl [0, 1, 2, 3, 4, 5, 6, 7, 8, 9, 10, 11, 12, 13, 14, 15, 16, 17, 18] rfl)
                        · rw [if_neg c_41] at hR
                          have tc_41 : ¬ y261_s0_26.toInt = 0 := fun z => c_41 (i_eq.mpr z)
                          refine lv_iconst (v := 1) hx hb dL_isMill_312 (by decide) ?_
                          refine lv_goto (tgt := 317) hx hb dL_isMill_313 (by decide) ?_
                          exact key_317_33 1 hR ls (lv_sub hl [0, 1, 2, 3, 4, 5, 6, 7, 8, 9, 10, 11, 12, 13, 14, 15, 16, 17, 18] rfl)
                    refine lv_if_eq (tgt := 294) hx hb dL_isMill_287 (by decide) (fun c_42 => ?_) (fun c_42 => ?_)
                    · rw [if_pos c_42] at hR
                      have tc_42 : y261_s0_26.toInt = 0 := i_eq.mp c_42
                      refine lv_iconst (v := 0) hx hb dL_isMill_294 (by decide) ?_
                      exact key_295_30 0 hR ls (lv_sub hl [0, 1, 2, 3, 4, 5, 6, 7, 8, 9, 10, 11, 12, 13, 14, 15, 16, 17, 18] rfl)
                    · rw [if_neg c_42] at hR
                      have tc_42 : ¬ y261_s0_26.toInt = 0 := fun z => c_42 (i_eq.mpr z)
                      refine lv_iconst (v := 1) hx hb dL_isMill_290 (by decide) ?_
                      refine lv_goto (tgt := 295) hx hb dL_isMill_291 (by decide) ?_
                      exact key_295_30 1 hR ls (lv_sub hl [0, 1, 2, 3, 4, 5, 6, 7, 8, 9, 10, 11, 12, 13, 14, 15, 16, 17, 18] rfl)
                refine lv_icmp_le (tgt := 260) hx hb dL_isMill_207 (by decide) (fun c_43 => ?_) (fun c_43 => ?_)
                · rw [if_pos c_43] at hR
                  have tc_43 : x12_85.toInt ≤ 5 := i_le.mp c_43
                  refine lv_iconst (v := 0) hx hb dL_isMill_260 (by decide) ?_
                  exact key_261_26 0 hR ls (lv_sub hl [0, 1, 2, 3, 4, 5, 6, 7, 8, 9, 10, 11, 12, 13, 14, 15, 16, 17] rfl)
                · rw [if_neg c_43] at hR
                  have tc_43 : ¬ x12_85.toInt ≤ 5 := fun z => c_43 (i_le.mpr z)
                  refine lv_iload hx hb dL_isMill_210 (lv_at hl 5 rfl) ?_
                  refine lv_bipush (v := 19) hx hb dL_isMill_212 (by decide) ?_
                  refine lv_icmp_ge (tgt := 260) hx hb dL_isMill_214 (by decide) (fun c_44 => ?_) (fun c_44 => ?_)
                  · rw [if_pos c_44] at hR
                    have tc_44 : 19 ≤ x12_85.toInt := i_le.mp c_44
                    refine lv_iconst (v := 0) hx hb dL_isMill_260 (by decide) ?_
                    exact key_261_26 0 hR ls (lv_sub hl [0, 1, 2, 3, 4, 5, 6, 7, 8, 9, 10, 11, 12, 13, 14, 15, 16, 17] rfl)
                  · rw [if_neg c_44] at hR
                    have tc_44 : ¬ 19 ≤ x12_85.toInt := fun z => c_44 (i_le.mpr z)
                    refine lv_iload hx hb dL_isMill_217 (lv_at hl 6 rfl) ?_
                    refine lv_if_le (tgt := 260) hx hb dL_isMill_219 (by decide) (fun c_45 => ?_) (fun c_45 => ?_)
                    · rw [if_pos c_45] at hR
                      have tc_45 : y80_s0_8.toInt ≤ 0 := i_le.mp c_45
                      refine lv_iconst (v := 0) hx hb dL_isMill_260 (by decide) ?_
                      exact key_261_26 0 hR ls (lv_sub hl [0, 1, 2, 3, 4, 5, 6, 7, 8, 9, 10, 11, 12, 13, 14, 15, 16, 17] rfl)
                    · rw [if_neg c_45] at hR
                      have tc_45 : ¬ y80_s0_8.toInt ≤ 0 := fun z => c_45 (i_le.mpr z)
                      refine lv_iload hx hb dL_isMill_222 (lv_at hl 6 rfl) ?_
                      refine lv_iload hx hb dL_isMill_224 (lv_at hl 11 rfl) ?_
                      refine lv_iload hx hb dL_isMill_226 (lv_at hl 2 rfl) ?_
                      refine lv_imul hx hb dL_isMill_228 ?_
                      refine lv_iconst (v := 1) hx hb dL_isMill_229 (by decide) ?_
                      refine lv_iadd hx hb dL_isMill_230 ?_
                      refine lv_iconst (v := 2) hx hb dL_isMill_231 (by decide) ?_
                      refine lv_idiv hx hb dL_isMill_232 (by decide) ?_
                      refine lv_icmp_gt (tgt := 260) hx hb dL_isMill_233 (by decide) (fun c_46 => ?_) (fun c_46 => ?_)
                      · rw [if_pos c_46] at hR
                        have tc_46 : (((r_3 * r_23) + 1) / 2).toInt < y80_s0_8.toInt := i_lt.mp c_46
                        refine lv_iconst (v := 0) hx hb dL_isMill_260 (by decide) ?_
                        exact key_261_26 0 hR ls (lv_sub hl [0, 1, 2, 3, 4, 5, 6, 7, 8, 9, 10, 11, 12, 13, 14, 15, 16, 17] rfl)
                      · rw [if_neg c_46] at hR
                        have tc_46 : ¬ (((r_3 * r_23) + 1) / 2).toInt < y80_s0_8.toInt := fun z => c_46 (i_lt.mpr z)
                        refine lv_iload hx hb dL_isMill_236 (lv_at hl 8 rfl) ?_
                        refine lv_iload hx hb dL_isMill_238 (lv_at hl 1 rfl) ?_
                        refine lv_iload hx hb dL_isMill_240 (lv_at hl 6 rfl) ?_
                        refine lv_imul hx hb dL_isMill_242 ?_
                        refine lv_icmp_ne (tgt := 260) hx hb dL_isMill_243 (by decide) (fun c_47 => ?_) (fun c_47 => ?_)
                        · rw [if_neg c_47] at hR
                          have tc_47 : ¬ e_4.toInt = (y181_s0_24 * y80_s0_8).toInt := fun z => c_47 (i_eq.mpr z)
                          refine lv_iconst (v := 0) hx hb dL_isMill_260 (by decide) ?_
                          exact key_261_26 0 hR ls (lv_sub hl [0, 1, 2, 3, 4, 5, 6, 7, 8, 9, 10, 11, 12, 13, 14, 15, 16, 17] rfl)
                        · rw [if_pos c_47] at hR
                          have tc_47 : e_4.toInt = (y181_s0_24 * y80_s0_8).toInt := i_eq.mp c_47
                          refine lv_iload hx hb dL_isMill_246 (lv_at hl 7 rfl) ?_
                          refine lv_iload hx hb dL_isMill_248 (lv_at hl 0 rfl) ?_
                          refine lv_iload hx hb dL_isMill_250 (lv_at hl 6 rfl) ?_
                          refine lv_imul hx hb dL_isMill_252 ?_
                          refine lv_icmp_ne (tgt := 260) hx hb dL_isMill_253 (by decide) (fun c_48 => ?_) (fun c_48 => ?_)
                          · rw [if_neg c_48] at hR
                            have tc_48 : ¬ e_5.toInt = (y202_s0_25 * y80_s0_8).toInt := fun z => c_48 (i_eq.mpr z)
                            refine lv_iconst (v := 0) hx hb dL_isMill_260 (by decide) ?_
                            exact key_261_26 0 hR ls (lv_sub hl [0, 1, 2, 3, 4, 5, 6, 7, 8, 9, 10, 11, 12, 13, 14, 15, 16, 17] rfl)
                          · rw [if_pos c_48] at hR
                            have tc_48 : e_5.toInt = (y202_s0_25 * y80_s0_8).toInt := i_eq.mp c_48
                            refine lv_iconst (v := 1) hx hb dL_isMill_256 (by decide) ?_
                            refine lv_goto (tgt := 261) hx hb dL_isMill_257 (by decide) ?_
                            exact key_261_26 1 hR ls (lv_sub hl [0, 1, 2, 3, 4, 5, 6, 7, 8, 9, 10, 11, 12, 13, 14, 15, 16, 17] rfl)
              refine lv_icmp_le (tgt := 201) hx hb dL_isMill_187 (by decide) (fun c_49 => ?_) (fun c_49 => ?_)
              · rw [if_pos c_49] at hR
                have tc_49 : x12_85.toInt ≤ 9 := i_le.mp c_49
                refine lv_iconst (v := 0) hx hb dL_isMill_201 (by decide) ?_
                exact key_202_25 0 hR ls (lv_sub hl [0, 1, 2, 3, 4, 5, 6, 7, 8, 9, 10, 11, 12, 13, 14, 15, 16] rfl)
              · rw [if_neg c_49] at hR
                have tc_49 : ¬ x12_85.toInt ≤ 9 := fun z => c_49 (i_le.mpr z)
                refine lv_iload hx hb dL_isMill_190 (lv_at hl 4 rfl) ?_
                refine lv_bipush (v := 15) hx hb dL_isMill_192 (by decide) ?_
                refine lv_icmp_ge (tgt := 201) hx hb dL_isMill_194 (by decide) (fun c_50 => ?_) (fun c_50 => ?_)
                · rw [if_pos c_50] at hR
                  have tc_50 : 15 ≤ x12_85.toInt := i_le.mp c_50
                  refine lv_iconst (v := 0) hx hb dL_isMill_201 (by decide) ?_
                  exact key_202_25 0 hR ls (lv_sub hl [0, 1, 2, 3, 4, 5, 6, 7, 8, 9, 10, 11, 12, 13, 14, 15, 16] rfl)
                · rw [if_neg c_50] at hR
                  have tc_50 : ¬ 15 ≤ x12_85.toInt := fun z => c_50 (i_le.mpr z)
                  refine lv_iconst (v := (-1)) hx hb dL_isMill_197 (by decide) ?_
                  refine lv_goto (tgt := 202) hx hb dL_isMill_198 (by decide) ?_
                  exact key_202_25 (-1) hR ls (lv_sub hl [0, 1, 2, 3, 4, 5, 6, 7, 8, 9, 10, 11, 12, 13, 14, 15, 16] rfl)
            refine lv_icmp_ge (tgt := 169) hx hb dL_isMill_162 (by decide) (fun c_51 => ?_) (fun c_51 => ?_)
            · rw [if_pos c_51] at hR
              have tc_51 : 12 ≤ x12_85.toInt := i_le.mp c_51
              refine lv_iload hx hb dL_isMill_169 (lv_at hl 3 rfl) ?_
              refine lv_bipush (v := 12) hx hb dL_isMill_171 (by decide) ?_
              refine lv_icmp_le (tgt := 180) hx hb dL_isMill_173 (by decide) (fun c_52 => ?_) (fun c_52 => ?_)
              · rw [if_pos c_52] at hR
                have tc_52 : x12_85.toInt ≤ 12 := i_le.mp c_52
                refine lv_iconst (v := 0) hx hb dL_isMill_180 (by decide) ?_
                exact key_181_24 0 hR ls (lv_sub hl [0, 1, 2, 3, 4, 5, 6, 7, 8, 9, 10, 11, 12, 13, 14, 15] rfl)
              · rw [if_neg c_52] at hR
                have tc_52 : ¬ x12_85.toInt ≤ 12 := fun z => c_52 (i_le.mpr z)
                refine lv_iconst (v := 1) hx hb dL_isMill_176 (by decide) ?_
                refine lv_goto (tgt := 181) hx hb dL_isMill_177 (by decide) ?_
                exact key_181_24 1 hR ls (lv_sub hl [0, 1, 2, 3, 4, 5, 6, 7, 8, 9, 10, 11, 12, 13, 14, 15] rfl)
            · rw [if_neg c_51] at hR
              have tc_51 : ¬ 12 ≤ x12_85.toInt := fun z => c_51 (i_le.mpr z)
              refine lv_iconst (v := (-1)) hx hb dL_isMill_165 (by decide) ?_
              refine lv_goto (tgt := 181) hx hb dL_isMill_166 (by decide) ?_
              exact key_181_24 (-1) hR ls (lv_sub hl [0, 1, 2, 3, 4, 5, 6, 7, 8, 9, 10, 11, 12, 13, 14, 15] rfl)
          refine lv_if_eq (tgt := 145) hx hb dL_isMill_119 (by decide) (fun c_53 => ?_) (fun c_53 => ?_)
          · rw [if_pos c_53] at hR
            have tc_53 : y115_s0_21.toInt = 0 := i_eq.mp c_53
            refine lv_iconst (v := 0) hx hb dL_isMill_145 (by decide) ?_
            exact key_146_22 0 hR ls (lv_sub hl [0, 1, 2, 3, 4, 5, 6, 7, 8, 9, 10, 11, 12, 13] rfl)
          · rw [if_neg c_53] at hR
            have tc_53 : ¬ y115_s0_21.toInt = 0 := fun z => c_53 (i_eq.mpr z)
            refine lv_iconst (v := 2) hx hb dL_isMill_122 (by decide) ?_
            refine lv_aload_n hx hb dL_isMill_123 rfl (lv_at hl 11 rfl) ?_
            refine lv_iload hx hb dL_isMill_124 (lv_at hl 1 rfl) ?_
            refine va_iald hx hb hG.1 hP 75 0 rfl rfl (ix_t (i := x12_85) (x := (x12_85).toInt) (n := 24) rfl (by omega)) dL_isMill_126 ?_
            refine lv_imul hx hb dL_isMill_127 ?_
            refine lv_iload hx hb dL_isMill_128 (lv_at hl 2 rfl) ?_
            refine lv_icmp_le (tgt := 145) hx hb dL_isMill_130 (by decide) (fun c_54 => ?_) (fun c_54 => ?_)
            · rw [if_pos c_54] at hR
              have tc_54 : (2 * ((xx 10 0) (x12_85).toNatClampNeg)).toInt ≤ y80_s0_8.toInt := i_le.mp c_54
              refine lv_iconst (v := 0) hx hb dL_isMill_145 (by decide) ?_
              exact key_146_22 0 hR ls (lv_sub hl [0, 1, 2, 3, 4, 5, 6, 7, 8, 9, 10, 11, 12, 13] rfl)
            · rw [if_neg c_54] at hR
              have tc_54 : ¬ (2 * ((xx 10 0) (x12_85).toNatClampNeg)).toInt ≤ y80_s0_8.toInt := fun z => c_54 (i_le.mpr z)
              refine lv_iconst (v := 2) hx hb dL_isMill_133 (by decide) ?_
              refine lv_aload_n hx hb dL_isMill_134 rfl (lv_at hl 11 rfl) ?_
              refine lv_iload hx hb dL_isMill_135 (lv_at hl 1 rfl) ?_
              refine va_iald hx hb hG.1 hP 75 0 rfl rfl (ix_t (i := x12_85) (x := (x12_85).toInt) (n := 24) rfl (by omega)) dL_isMill_137 ?_
              refine lv_imul hx hb dL_isMill_138 ?_
              refine lv_iload hx hb dL_isMill_139 (lv_at hl 2 rfl) ?_
              refine lv_isub hx hb dL_isMill_141 ?_
              refine lv_goto (tgt := 146) hx hb dL_isMill_142 (by decide) ?_
              exact key_146_22 ((2 * ((xx 10 0) (x12_85).toNatClampNeg)) - y80_s0_8) hR ls (lv_sub hl [0, 1, 2, 3, 4, 5, 6, 7, 8, 9, 10, 11, 12, 13] rfl)
        refine lv_if_ne (tgt := 114) hx hb dL_isMill_99 (by decide) (fun c_55 => ?_) (fun c_55 => ?_)
        · rw [if_neg c_55] at hR
          refine lv_iconst (v := 0) hx hb dL_isMill_114 (by decide) ?_
          exact key_115_21 0 hR ls (lv_sub hl [0, 1, 2, 3, 4, 5, 6, 7, 8, 9, 10, 11, 12] rfl)
        · rw [if_pos c_55] at hR
          refine lv_aload_n hx hb dL_isMill_102 rfl (lv_at hl 10 rfl) ?_
          refine lv_iload hx hb dL_isMill_103 (lv_at hl 0 rfl) ?_
          refine va_iald hx hb hG.1 hP 75 0 rfl rfl (ix_t (i := x12_85) (x := (x12_85).toInt) (n := 24) rfl (by omega)) dL_isMill_105 ?_
          refine lv_iconst (v := 1) hx hb dL_isMill_106 (by decide) ?_
          refine lv_icmp_le (tgt := 114) hx hb dL_isMill_107 (by decide) (fun c_56 => ?_) (fun c_56 => ?_)
          · rw [if_pos c_56] at hR
            have tc_56 : ((xx 10 0) (x12_85).toNatClampNeg).toInt ≤ 1 := i_le.mp c_56
            refine lv_iconst (v := 0) hx hb dL_isMill_114 (by decide) ?_
            exact key_115_21 0 hR ls (lv_sub hl [0, 1, 2, 3, 4, 5, 6, 7, 8, 9, 10, 11, 12] rfl)
          · rw [if_neg c_56] at hR
            have tc_56 : ¬ ((xx 10 0) (x12_85).toNatClampNeg).toInt ≤ 1 := fun z => c_56 (i_le.mpr z)
            refine lv_iconst (v := 1) hx hb dL_isMill_110 (by decide) ?_
            refine lv_goto (tgt := 115) hx hb dL_isMill_111 (by decide) ?_
            exact key_115_21 1 hR ls (lv_sub hl [0, 1, 2, 3, 4, 5, 6, 7, 8, 9, 10, 11, 12] rfl)
    exact key_85 _ 0 0 0 rfl (by decide) hR ls hl
  refine lv_icmp_le (tgt := 75) hx hb dL_isMill_64 (by decide) (fun c_57 => ?_) (fun c_57 => ?_)
  · rw [if_pos c_57] at hR
    have tc_57 : r_6.toInt ≤ r_7.toInt := i_le.mp c_57
    refine lv_iload hx hb dL_isMill_75 (lv_at hl 0 rfl) ?_
    refine ro_S (v := .int (mL_size e_5)) (rest := []) (As := [.int e_5]) hx hb hml hown hts hl (ML_size l D q e_5) gL_isMill_L_size rfl kL_size ⟨Nat.le_of_ble_eq_true rfl, Nat.le_of_ble_eq_true rfl⟩ rfl rfl (hP.sub (ws' := []) [] rfl) (dT (hD.sub (ws' := []) [] (by decide) rfl)) hG rfl rfl (Nat.le_of_ble_eq_true rfl) dL_isMill_77 ⟨Nat.zero_le _, Nat.zero_le _⟩ ?_
    exact key_80_8 (mL_size e_5) hR ls (lv_sub hl [0, 1, 2, 3, 4, 5, 6, 7, 8, 9, 10] rfl)
  · rw [if_neg c_57] at hR
    have tc_57 : ¬ r_6.toInt ≤ r_7.toInt := fun z => c_57 (i_le.mpr z)
    refine lv_iload hx hb dL_isMill_67 (lv_at hl 1 rfl) ?_
    refine ro_S (v := .int (mL_size e_4)) (rest := []) (As := [.int e_4]) hx hb hml hown hts hl (ML_size l D q e_4) gL_isMill_L_size rfl kL_size ⟨Nat.le_of_ble_eq_true rfl, Nat.le_of_ble_eq_true rfl⟩ rfl rfl (hP.sub (ws' := []) [] rfl) (dT (hD.sub (ws' := []) [] (by decide) rfl)) hG rfl rfl (Nat.le_of_ble_eq_true rfl) dL_isMill_69 ⟨Nat.zero_le _, Nat.zero_le _⟩ ?_
    refine lv_goto (tgt := 80) hx hb dL_isMill_72 (by decide) ?_
    exact key_80_8 (mL_size e_4) hR ls (lv_sub hl [0, 1, 2, 3, 4, 5, 6, 7, 8, 9, 10] rfl)
