def mL_areHours_197 (xx : Nat → Nat → Nat → Int32) (x8_27 : Int32) (x13_184 : Int32) (C : Int32 → Int32 → Int32) : Nat → Int32 → Int32 → Int32
  | 0, x15_197, x14_197 => C x15_197 x14_197
  | n_197 + 1, x15_197, x14_197 => (lt (mX5_houseOf (xx 0) x13_184 0) (fun r_26 => (lt (mX5_noise (xx 0) x15_197 r_26 x8_27) (fun r_27 => (lt (x14_197 + r_27) (fun e_28 => (mL_areHours_197 xx x8_27 x13_184 C n_197 (x15_197 + 1) e_28)))))))
def mL_areHours_184 (xx : Nat → Nat → Nat → Int32) (x8_27 : Int32) (C : Int32 → Int32 → Int32 → Int32) : Nat → Int32 → Int32 → Int32 → Int32
  | 0, x13_184, x12_184, x11_184 => C x13_184 x12_184 x11_184
  | n_184 + 1, x13_184, x12_184, x11_184 => (mL_areHours_197 xx x8_27 x13_184 (fun x15_197 x14_197 => (lt ((if x14_197 ≤ x12_184 then x11_184 else x13_184) : Int32) (fun y247_s0_22 => (lt ((if x14_197 ≤ x12_184 then x12_184 else x14_197) : Int32) (fun y263_s0_23 => (mL_areHours_184 xx x8_27 C n_184 (x13_184 + 1) y263_s0_23 y247_s0_22)))))) (tr 0 (mX5_count xx 0)) 0 0)
def mL_areHours_27 (xx : Nat → Nat → Nat → Int32) (mill : Int32) (r_1 : Int32) (r_2 : Int32) (C : Int32 → Int32 → Int32 → Int32 → Int32) : Nat → Int32 → Int32 → Int32 → Int32 → Int32
  | 0, x8_27, x5_27, x4_27, x3_27 => C x8_27 x5_27 x4_27 x3_27
  | n_27 + 1, x8_27, x5_27, x4_27, x3_27 => (lt (mX5_ifVoted (xx 0) mill x8_27) (fun r_8 => (if r_8 < 0 then 0 else (if r_1 < r_8 then 0 else (if 2 ≤ ((xx 10 0) (x8_27).toNatClampNeg) then (lt ((if ((xx 10 0) (x8_27).toNatClampNeg) ≤ 1 then 0 else (if r_8 = r_1 then (1 <<< (x8_27 &&& 31)) else 0)) : Int32) (fun y96_s0_12 => (lt (x3_27 ||| y96_s0_12) (fun e_13 => (lt (mL_has r_2 x8_27) (fun r_14 => (lt ((if r_14 = 0 then 0 else (r_1 - r_8)) : Int32) (fun y117_s0_15 => (lt ((if x5_27 < y117_s0_15 then x8_27 else (if y117_s0_15 = x5_27 then (if x4_27 < 0 then x4_27 else (if ((xx 10 0) (x4_27).toNatClampNeg) ≤ ((xx 10 0) (x8_27).toNatClampNeg) then x4_27 else x8_27)) else x4_27)) : Int32) (fun y156_s0_16 => (lt ((if y117_s0_15 ≤ x5_27 then x5_27 else y117_s0_15) : Int32) (fun y172_s0_17 => (mL_areHours_184 xx x8_27 (fun x13_184 x12_184 x11_184 => (lt (mX5_loudest (xx 0) x8_27) (fun r_19 => (if r_19 = x11_184 then (mL_areHours_27 xx mill r_1 r_2 C n_27 (x8_27 + 1) y172_s0_17 y156_s0_16 e_13) else 0)))) (tr 0 r_1) 0 0 (-5)))))))))))))) else (if r_8 = r_1 then (lt ((if ((xx 10 0) (x8_27).toNatClampNeg) ≤ 1 then 0 else (if r_8 = r_1 then (1 <<< (x8_27 &&& 31)) else 0)) : Int32) (fun y96_s0_38 => (lt (x3_27 ||| y96_s0_38) (fun e_39 => (lt (mL_has r_2 x8_27) (fun r_40 => (lt ((if r_40 = 0 then 0 else (r_1 - r_8)) : Int32) (fun y117_s0_41 => (lt ((if x5_27 < y117_s0_41 then x8_27 else (if y117_s0_41 = x5_27 then (if x4_27 < 0 then x4_27 else (if ((xx 10 0) (x4_27).toNatClampNeg) ≤ ((xx 10 0) (x8_27).toNatClampNeg) then x4_27 else x8_27)) else x4_27)) : Int32) (fun y156_s0_42 => (lt ((if y117_s0_41 ≤ x5_27 then x5_27 else y117_s0_41) : Int32) (fun y172_s0_43 => (mL_areHours_184 xx x8_27 (fun x13_184 x12_184 x11_184 => (lt (mX5_loudest (xx 0) x8_27) (fun r_45 => (if r_45 = x11_184 then (mL_areHours_27 xx mill r_1 r_2 C n_27 (x8_27 + 1) y172_s0_43 y156_s0_42 e_39) else 0)))) (tr 0 r_1) 0 0 (-5)))))))))))))) else 0))))))
def mL_areHours (xx : Nat → Nat → Nat → Int32) (mill : Int32) : Int32 := (lt (mX5_count xx 1) (fun r_1 => (lt (mX5_millOf (xx 0) mill 3) (fun r_2 => (mL_areHours_27 xx mill r_1 r_2 (fun x8_27 x5_27 x4_27 x3_27 => (lt (mX5_quietHours (xx 0) mill) (fun r_4 => (if r_4 = x3_27 then (lt (mX5_bestTied (xx 0) mill) (fun r_6 => (if r_6 = x4_27 then 1 else 0))) else 0)))) (tr 0 24) 0 0 (-5) 0)))))
theorem kL_areHours : yL_areHours.cls ≠ "java/lang/invoke/MethodHandle" ∧ yL_areHours.cls ≠ "java/lang/invoke/VarHandle" ∧ (parseMethodDescriptor yL_areHours.desc).map (fun d => d.parameters.length) = some 3 := by decide +kernel
set_option maxHeartbeats 4000000 in
set_option maxRecDepth 100000 in
theorem ML_areHours (l : Launch) (D : va_G) (q : Nat → ClassId) (ad : Nat → Nat → Nat) (xx : Nat → Nat → Nat → Int32) (mill : Int32)  : roM l D (tyq q) yL_areHours wsL_areHours ({ frames := 7, cells := 0, slots := 0, locals := 165 } : Room) [.ref (ad 9 0), .ref (ad 10 0), .int mill] (wXW q ad xx) (some (.int (mL_areHours xx mill))) := by
  obtain ⟨R, hR⟩ : ∃ z, (mL_areHours xx mill) = z := ⟨_, rfl⟩
  rw [hR]
  unfold mL_areHours at hR
  refine roM.of (cc := cL_areHours) (maxL := 16) (ret := (some .boolean)) (by decide) rfl (Nat.le_of_ble_eq_true rfl) ?_
  intro p e s m below meth c ls hx hb hr hk hml hown hts hP hD hG hl
  have hl : lv_has ls 16 [(0, .ref (ad 9 0)), (1, .ref (ad 10 0)), (2, .int mill)] := hl
  refine lv_iconst (v := 0) hx hb dL_areHours_0 (by decide) ?_
  refine lv_istore_n (lv' := [(3, .int 0), (0, .ref (ad 9 0)), (1, .ref (ad 10 0)), (2, .int mill)]) hx hb dL_areHours_1 rfl hl (by decide) rfl (fun ls hl => ?_)
  refine lv_bipush (v := (-5)) hx hb dL_areHours_2 (by decide) ?_
  refine lv_istore (lv' := [(4, .int (-5)), (3, .int 0), (0, .ref (ad 9 0)), (1, .ref (ad 10 0)), (2, .int mill)]) hx hb dL_areHours_4 hl (by decide) rfl (fun ls hl => ?_)
  refine lv_iconst (v := 0) hx hb dL_areHours_6 (by decide) ?_
  refine lv_istore (lv' := [(5, .int 0), (4, .int (-5)), (3, .int 0), (0, .ref (ad 9 0)), (1, .ref (ad 10 0)), (2, .int mill)]) hx hb dL_areHours_7 hl (by decide) rfl (fun ls hl => ?_)
  refine lv_aload_n hx hb dL_areHours_9 rfl (lv_at hl 3 rfl) ?_
  refine lv_iconst (v := 1) hx hb dL_areHours_10 (by decide) ?_
  refine ro_V (v := .int (mX5_count xx 1)) (rest := []) (As := [.int 1]) hx hb hml hown hts hl (MX5_count l D q ad xx 1) gL_areHours_X5_count rfl kX5_count ⟨Nat.le_of_ble_eq_true rfl, Nat.le_of_ble_eq_true rfl⟩ rfl rfl (hP.sub (ws' := (wX q ad xx)) [0, 1, 2, 3, 4, 5, 6, 7, 8, 9, 10, 11, 12, 13, 14, 15, 16, 17, 18, 19, 20, 21, 22, 23, 24, 25, 26, 27, 28, 29, 30, 31, 32, 33, 34, 35, 36, 37, 38, 39, 40, 41, 42, 43, 44, 45, 46, 47, 48, 49, 50, 51, 52, 53, 54, 55, 56, 57, 58, 59, 60, 61, 62, 63, 64, 65, 66, 67, 68, 69, 70, 71, 72, 73, 74] rfl) (dT (hD.sub (ws' := (wX q ad xx)) [0, 1, 2, 3, 4, 5, 6, 7, 8, 9, 10, 11, 12, 13, 14, 15, 16, 17, 18, 19, 20, 21, 22, 23, 24, 25, 26, 27, 28, 29, 30, 31, 32, 33, 34, 35, 36, 37, 38, 39, 40, 41, 42, 43, 44, 45, 46, 47, 48, 49, 50, 51, 52, 53, 54, 55, 56, 57, 58, 59, 60, 61, 62, 63, 64, 65, 66, 67, 68, 69, 70, 71, 72, 73, 74] (by decide) rfl)) hG (ci := 3) rfl rfl rfl rfl (Nat.le_of_ble_eq_true rfl) dL_areHours_11 ⟨Nat.zero_le _, Nat.zero_le _⟩ ?_
  obtain ⟨r_1, er_1⟩ : ∃ z, z = (mX5_count xx 1) := ⟨_, rfl⟩
  rw [← er_1]
  replace hR := lt_e hR er_1
  refine lv_istore (lv' := [(6, .int r_1), (5, .int 0), (4, .int (-5)), (3, .int 0), (0, .ref (ad 9 0)), (1, .ref (ad 10 0)), (2, .int mill)]) hx hb dL_areHours_14 hl (by decide) rfl (fun ls hl => ?_)
  refine lv_aload_n hx hb dL_areHours_16 rfl (lv_at hl 4 rfl) ?_
  refine lv_iload_n hx hb dL_areHours_17 rfl (lv_at hl 6 rfl) ?_
  refine lv_iconst (v := 3) hx hb dL_areHours_18 (by decide) ?_
  refine ro_V (v := .int (mX5_millOf (xx 0) mill 3)) (rest := []) (As := [.int mill, .int 3]) hx hb hml hown hts hl (MX5_millOf l D q ad (xx 9 0 0) (xx 0) mill 3) gL_areHours_X5_millOf rfl kX5_millOf ⟨Nat.le_of_ble_eq_true rfl, Nat.le_of_ble_eq_true rfl⟩ rfl rfl (hP.sub (ws' := (wXN q ad (xx 9 0 0) (xx 0))) [0, 1, 2, 3, 4, 5, 6, 7, 8, 9, 10] rfl) (dT (hD.sub (ws' := (wXN q ad (xx 9 0 0) (xx 0))) [0, 1, 2, 3, 4, 5, 6, 7, 8, 9, 10] (by decide) rfl)) hG (ci := 3) rfl rfl rfl rfl (Nat.le_of_ble_eq_true rfl) dL_areHours_19 ⟨Nat.zero_le _, Nat.zero_le _⟩ ?_
  obtain ⟨r_2, er_2⟩ : ∃ z, z = (mX5_millOf (xx 0) mill 3) := ⟨_, rfl⟩
  rw [← er_2]
  replace hR := lt_e hR er_2
  refine lv_istore (lv' := [(7, .int r_2), (6, .int r_1), (5, .int 0), (4, .int (-5)), (3, .int 0), (0, .ref (ad 9 0)), (1, .ref (ad 10 0)), (2, .int mill)]) hx hb dL_areHours_22 hl (by decide) rfl (fun ls hl => ?_)
  refine lv_iconst (v := 0) hx hb dL_areHours_24 (by decide) ?_
  refine lv_istore (lv' := [(8, .int 0), (7, .int r_2), (6, .int r_1), (5, .int 0), (4, .int (-5)), (3, .int 0), (0, .ref (ad 9 0)), (1, .ref (ad 10 0)), (2, .int mill)]) hx hb dL_areHours_25 hl (by decide) rfl (fun ls hl => ?_)
  have key_27 : ∀ (n_27 : Nat) (x8_27 : Int32) (x5_27 : Int32) (x4_27 : Int32) (x3_27 : Int32), tr x8_27 24 = n_27 → 0 ≤ x8_27.toInt → (x4_27.toInt = -5 ∨ (0 ≤ x4_27.toInt ∧ x4_27.toInt < 24)) → mL_areHours_27 xx mill r_1 r_2 (fun x8_27 x5_27 x4_27 x3_27 => (lt (mX5_quietHours (xx 0) mill) (fun r_4 => (if r_4 = x3_27 then (lt (mX5_bestTied (xx 0) mill) (fun r_6 => (if r_6 = x4_27 then 1 else 0))) else 0)))) n_27 x8_27 x5_27 x4_27 x3_27 = R → ∀ ls : Array Slot, lv_has ls 16 [(8, .int x8_27), (7, .int r_2), (6, .int r_1), (5, .int x5_27), (4, .int x4_27), (3, .int x3_27), (0, .ref (ad 9 0)), (1, .ref (ad 10 0)), (2, .int mill)] → W p l e ({ frames := 7, cells := 0, slots := 0, locals := 165 } : Room) s m ([.ref (ad 9 0), .ref (ad 10 0), .int mill] : List Value).toArray below meth c s.heap [] 0 0 (MQ below (roQ (some (.int R))) ([.ref (ad 9 0), .ref (ad 10 0), .int mill] : List Value).toArray s 0 0 (fun _ => False)) (F0 m 27 ls []) := by
    intro n_27
    induction n_27 with
    | zero =>
      intro x8_27 x5_27 x4_27 x3_27 hn_27 hk_27 hb_27 hR ls hl
      rw [mL_areHours_27] at hR
      refine lv_iload hx hb dL_areHours_27 (lv_at hl 0 rfl) ?_
      refine lv_bipush (v := 24) hx hb dL_areHours_29 (by decide) ?_
      refine lv_icmp_ge (tgt := 290) hx hb dL_areHours_31 (by decide) (fun c_3 => ?_) (fun c_3 => (tr0 hn_27 c_3).elim)
      refine lv_aload_n hx hb dL_areHours_290 rfl (lv_at hl 6 rfl) ?_
      refine lv_iload_n hx hb dL_areHours_291 rfl (lv_at hl 8 rfl) ?_
      refine ro_V (v := .int (mX5_quietHours (xx 0) mill)) (rest := []) (As := [.int mill]) hx hb hml hown hts hl (MX5_quietHours l D q ad (xx 9 0 0) (xx 0) mill) gL_areHours_X5_quietHours rfl kX5_quietHours ⟨Nat.le_of_ble_eq_true rfl, Nat.le_of_ble_eq_true rfl⟩ rfl rfl (hP.sub (ws' := (wXN q ad (xx 9 0 0) (xx 0))) [0, 1, 2, 3, 4, 5, 6, 7, 8, 9, 10] rfl) (dT (hD.sub (ws' := (wXN q ad (xx 9 0 0) (xx 0))) [0, 1, 2, 3, 4, 5, 6, 7, 8, 9, 10] (by decide) rfl)) hG (ci := 3) rfl rfl rfl rfl (Nat.le_of_ble_eq_true rfl) dL_areHours_292 ⟨Nat.zero_le _, Nat.zero_le _⟩ ?_
      obtain ⟨r_4, er_4⟩ : ∃ z, z = (mX5_quietHours (xx 0) mill) := ⟨_, rfl⟩
      rw [← er_4]
      replace hR := lt_e hR er_4
      refine lv_iload_n hx hb dL_areHours_295 rfl (lv_at hl 5 rfl) ?_
      refine lv_icmp_ne (tgt := 313) hx hb dL_areHours_296 (by decide) (fun c_5 => ?_) (fun c_5 => ?_)
      · rw [if_neg c_5] at hR
        have tc_5 : ¬ r_4.toInt = x3_27.toInt := fun z => c_5 (i_eq.mpr z)
        refine lv_iconst (v := 0) hx hb dL_areHours_313 (by decide) ?_
        exact ro_zret hx hb hr hk (Or.inl rfl) hR dL_areHours_314
      · rw [if_pos c_5] at hR
        have tc_5 : r_4.toInt = x3_27.toInt := i_eq.mp c_5
        refine lv_aload_n hx hb dL_areHours_299 rfl (lv_at hl 6 rfl) ?_
        refine lv_iload_n hx hb dL_areHours_300 rfl (lv_at hl 8 rfl) ?_
        refine ro_V (v := .int (mX5_bestTied (xx 0) mill)) (rest := []) (As := [.int mill]) hx hb hml hown hts hl (MX5_bestTied l D q ad (xx 9 0 0) (xx 0) mill) gL_areHours_X5_bestTied rfl kX5_bestTied ⟨Nat.le_of_ble_eq_true rfl, Nat.le_of_ble_eq_true rfl⟩ rfl rfl (hP.sub (ws' := (wXN q ad (xx 9 0 0) (xx 0))) [0, 1, 2, 3, 4, 5, 6, 7, 8, 9, 10] rfl) (dT (hD.sub (ws' := (wXN q ad (xx 9 0 0) (xx 0))) [0, 1, 2, 3, 4, 5, 6, 7, 8, 9, 10] (by decide) rfl)) hG (ci := 3) rfl rfl rfl rfl (Nat.le_of_ble_eq_true rfl) dL_areHours_301 ⟨Nat.zero_le _, Nat.zero_le _⟩ ?_
        obtain ⟨r_6, er_6⟩ : ∃ z, z = (mX5_bestTied (xx 0) mill) := ⟨_, rfl⟩
        rw [← er_6]
        replace hR := lt_e hR er_6
        refine lv_iload hx hb dL_areHours_304 (lv_at hl 4 rfl) ?_
        refine lv_icmp_ne (tgt := 313) hx hb dL_areHours_306 (by decide) (fun c_7 => ?_) (fun c_7 => ?_)
        · rw [if_neg c_7] at hR
          have tc_7 : ¬ r_6.toInt = x4_27.toInt := fun z => c_7 (i_eq.mpr z)
          refine lv_iconst (v := 0) hx hb dL_areHours_313 (by decide) ?_
          exact ro_zret hx hb hr hk (Or.inl rfl) hR dL_areHours_314
        · rw [if_pos c_7] at hR
          have tc_7 : r_6.toInt = x4_27.toInt := i_eq.mp c_7
          refine lv_iconst (v := 1) hx hb dL_areHours_309 (by decide) ?_
          refine lv_goto (tgt := 314) hx hb dL_areHours_310 (by decide) ?_
          exact ro_zret hx hb hr hk (Or.inr rfl) hR dL_areHours_314
    | succ n_27 ih_27 =>
      intro x8_27 x5_27 x4_27 x3_27 hn_27 hk_27 hb_27 hR ls hl
      rw [mL_areHours_27] at hR
      refine lv_iload hx hb dL_areHours_27 (lv_at hl 0 rfl) ?_
      refine lv_bipush (v := 24) hx hb dL_areHours_29 (by decide) ?_
      refine lv_icmp_ge (tgt := 290) hx hb dL_areHours_31 (by decide) (fun c_3 => (trS hn_27 c_3).elim) (fun c_3 => ?_)
      have hlt_c_3 : x8_27.toInt < 24 := k_lt c_3
      refine lv_aload_n hx hb dL_areHours_34 rfl (lv_at hl 6 rfl) ?_
      refine lv_iload_n hx hb dL_areHours_35 rfl (lv_at hl 8 rfl) ?_
      refine lv_iload hx hb dL_areHours_36 (lv_at hl 0 rfl) ?_
      refine ro_V (v := .int (mX5_ifVoted (xx 0) mill x8_27)) (rest := []) (As := [.int mill, .int x8_27]) hx hb hml hown hts hl (MX5_ifVoted l D q ad (xx 9 0 0) (xx 0) mill x8_27) gL_areHours_X5_ifVoted rfl kX5_ifVoted ⟨Nat.le_of_ble_eq_true rfl, Nat.le_of_ble_eq_true rfl⟩ rfl rfl (hP.sub (ws' := (wXN q ad (xx 9 0 0) (xx 0))) [0, 1, 2, 3, 4, 5, 6, 7, 8, 9, 10] rfl) (dT (hD.sub (ws' := (wXN q ad (xx 9 0 0) (xx 0))) [0, 1, 2, 3, 4, 5, 6, 7, 8, 9, 10] (by decide) rfl)) hG (ci := 3) rfl rfl rfl rfl (Nat.le_of_ble_eq_true rfl) dL_areHours_38 ⟨Nat.zero_le _, Nat.zero_le _⟩ ?_
      obtain ⟨r_8, er_8⟩ : ∃ z, z = (mX5_ifVoted (xx 0) mill x8_27) := ⟨_, rfl⟩
      rw [← er_8]
      replace hR := lt_e hR er_8
      refine lv_istore (lv' := [(9, .int r_8), (8, .int x8_27), (7, .int r_2), (6, .int r_1), (5, .int x5_27), (4, .int x4_27), (3, .int x3_27), (0, .ref (ad 9 0)), (1, .ref (ad 10 0)), (2, .int mill)]) hx hb dL_areHours_41 hl (by decide) rfl (fun ls hl => ?_)
      refine lv_iload hx hb dL_areHours_43 (lv_at hl 0 rfl) ?_
      refine lv_if_lt (tgt := 70) hx hb dL_areHours_45 (by decide) (fun c_9 => ?_) (fun c_9 => ?_)
      · rw [if_pos c_9] at hR
        have tc_9 : r_8.toInt < 0 := i_lt.mp c_9
        refine lv_iconst (v := 0) hx hb dL_areHours_70 (by decide) ?_
        exact ro_zret hx hb hr hk (Or.inl rfl) hR dL_areHours_71
      · rw [if_neg c_9] at hR
        have tc_9 : ¬ r_8.toInt < 0 := fun z => c_9 (i_lt.mpr z)
        refine lv_iload hx hb dL_areHours_48 (lv_at hl 0 rfl) ?_
        refine lv_iload hx hb dL_areHours_50 (lv_at hl 3 rfl) ?_
        refine lv_icmp_gt (tgt := 70) hx hb dL_areHours_52 (by decide) (fun c_10 => ?_) (fun c_10 => ?_)
        · rw [if_pos c_10] at hR
          have tc_10 : r_1.toInt < r_8.toInt := i_lt.mp c_10
          refine lv_iconst (v := 0) hx hb dL_areHours_70 (by decide) ?_
          exact ro_zret hx hb hr hk (Or.inl rfl) hR dL_areHours_71
        · rw [if_neg c_10] at hR
          have tc_10 : ¬ r_1.toInt < r_8.toInt := fun z => c_10 (i_lt.mpr z)
          refine lv_aload_n hx hb dL_areHours_55 rfl (lv_at hl 8 rfl) ?_
          refine lv_iload hx hb dL_areHours_56 (lv_at hl 1 rfl) ?_
          refine va_iald hx hb hG.1 hP 75 0 rfl rfl (ix_t (i := x8_27) (x := (x8_27).toInt) (n := 24) rfl (by omega)) dL_areHours_58 ?_
          refine lv_iconst (v := 2) hx hb dL_areHours_59 (by decide) ?_
          refine lv_icmp_ge (tgt := 72) hx hb dL_areHours_60 (by decide) (fun c_11 => ?_) (fun c_11 => ?_)
          · rw [if_pos c_11] at hR
            have tc_11 : 2 ≤ ((xx 10 0) (x8_27).toNatClampNeg).toInt := i_le.mp c_11
            refine lv_iload_n hx hb dL_areHours_72 rfl (lv_at hl 6 rfl) ?_
            refine lv_aload_n hx hb dL_areHours_73 rfl (lv_at hl 8 rfl) ?_
            refine lv_iload hx hb dL_areHours_74 (lv_at hl 1 rfl) ?_
            refine va_iald hx hb hG.1 hP 75 0 rfl rfl (ix_t (i := x8_27) (x := (x8_27).toInt) (n := 24) rfl (by omega)) dL_areHours_76 ?_
            refine lv_iconst (v := 1) hx hb dL_areHours_77 (by decide) ?_
            refine jn_1 hR (fun F_96_12 eF_96_12 hR => ?_)
            have key_96_12 : ∀ (y96_s0_12 : Int32), lt y96_s0_12 F_96_12 = R → ∀ ls : Array Slot, lv_has ls 16 [(9, .int r_8), (8, .int x8_27), (7, .int r_2), (6, .int r_1), (5, .int x5_27), (4, .int x4_27), (3, .int x3_27), (0, .ref (ad 9 0)), (1, .ref (ad 10 0)), (2, .int mill)] → W p l e ({ frames := 7, cells := 0, slots := 0, locals := 165 } : Room) s m ([.ref (ad 9 0), .ref (ad 10 0), .int mill] : List Value).toArray below meth c s.heap [] 0 0 (MQ below (roQ (some (.int R))) ([.ref (ad 9 0), .ref (ad 10 0), .int mill] : List Value).toArray s 0 0 (fun _ => False)) (F0 m 96 ls [.int y96_s0_12, .int x3_27]) := by
              intro y96_s0_12 hR ls hl
              rw [eF_96_12] at hR
              replace hR := jn_e1 hR
              refine lv_ior hx hb dL_areHours_96 ?_
              obtain ⟨e_13, ee_13⟩ : ∃ z, z = (x3_27 ||| y96_s0_12) := ⟨_, rfl⟩
              rw [← ee_13]
              replace hR := lt_e hR ee_13
              refine lv_istore_n (lv' := [(3, .int e_13), (9, .int r_8), (8, .int x8_27), (7, .int r_2), (6, .int r_1), (5, .int x5_27), (4, .int x4_27), (0, .ref (ad 9 0)), (1, .ref (ad 10 0)), (2, .int mill)]) hx hb dL_areHours_97 rfl hl (by decide) rfl (fun ls hl => ?_)
              refine lv_iload hx hb dL_areHours_98 (lv_at hl 3 rfl) ?_
              refine lv_iload hx hb dL_areHours_100 (lv_at hl 2 rfl) ?_
              refine ro_S (v := .int (mL_has r_2 x8_27)) (rest := []) (As := [.int r_2, .int x8_27]) hx hb hml hown hts hl (ML_has l D q r_2 x8_27) gL_areHours_L_has rfl kL_has ⟨Nat.le_of_ble_eq_true rfl, Nat.le_of_ble_eq_true rfl⟩ rfl rfl (hP.sub (ws' := []) [] rfl) (dT (hD.sub (ws' := []) [] (by decide) rfl)) hG rfl rfl (Nat.le_of_ble_eq_true rfl) dL_areHours_102 ⟨Nat.zero_le _, Nat.zero_le _⟩ ?_
              obtain ⟨r_14, er_14⟩ : ∃ z, z = (mL_has r_2 x8_27) := ⟨_, rfl⟩
              rw [← er_14]
              replace hR := lt_e hR er_14
              refine jn_1 hR (fun F_117_15 eF_117_15 hR => ?_)
              have key_117_15 : ∀ (y117_s0_15 : Int32), lt y117_s0_15 F_117_15 = R → ∀ ls : Array Slot, lv_has ls 16 [(3, .int e_13), (9, .int r_8), (8, .int x8_27), (7, .int r_2), (6, .int r_1), (5, .int x5_27), (4, .int x4_27), (0, .ref (ad 9 0)), (1, .ref (ad 10 0)), (2, .int mill)] → W p l e ({ frames := 7, cells := 0, slots := 0, locals := 165 } : Room) s m ([.ref (ad 9 0), .ref (ad 10 0), .int mill] : List Value).toArray below meth c s.heap [] 0 0 (MQ below (roQ (some (.int R))) ([.ref (ad 9 0), .ref (ad 10 0), .int mill] : List Value).toArray s 0 0 (fun _ => False)) (F0 m 117 ls [.int y117_s0_15]) := by
                intro y117_s0_15 hR ls hl
                rw [eF_117_15] at hR
                replace hR := jn_e1 hR
                refine lv_istore (lv' := [(10, .int y117_s0_15), (3, .int e_13), (9, .int r_8), (8, .int x8_27), (7, .int r_2), (6, .int r_1), (5, .int x5_27), (4, .int x4_27), (0, .ref (ad 9 0)), (1, .ref (ad 10 0)), (2, .int mill)]) hx hb dL_areHours_117 hl (by decide) rfl (fun ls hl => ?_)
                refine lv_iload hx hb dL_areHours_119 (lv_at hl 0 rfl) ?_
                refine lv_iload hx hb dL_areHours_121 (lv_at hl 6 rfl) ?_
                refine jn_1 hR (fun F_156_16 eF_156_16 hR => ?_)
                have key_156_16 : ∀ (y156_s0_16 : Int32), (y156_s0_16.toInt = -5 ∨ (0 ≤ y156_s0_16.toInt ∧ y156_s0_16.toInt < 24)) → lt y156_s0_16 F_156_16 = R → ∀ ls : Array Slot, lv_has ls 16 [(10, .int y117_s0_15), (3, .int e_13), (9, .int r_8), (8, .int x8_27), (7, .int r_2), (6, .int r_1), (5, .int x5_27), (4, .int x4_27), (0, .ref (ad 9 0)), (1, .ref (ad 10 0)), (2, .int mill)] → W p l e ({ frames := 7, cells := 0, slots := 0, locals := 165 } : Room) s m ([.ref (ad 9 0), .ref (ad 10 0), .int mill] : List Value).toArray below meth c s.heap [] 0 0 (MQ below (roQ (some (.int R))) ([.ref (ad 9 0), .ref (ad 10 0), .int mill] : List Value).toArray s 0 0 (fun _ => False)) (F0 m 156 ls [.int y156_s0_16]) := by
                  intro y156_s0_16 hj_y156_s0_16 hR ls hl
                  rw [eF_156_16] at hR
                  replace hR := jn_e1 hR
                  refine lv_istore (lv' := [(4, .int y156_s0_16), (10, .int y117_s0_15), (3, .int e_13), (9, .int r_8), (8, .int x8_27), (7, .int r_2), (6, .int r_1), (5, .int x5_27), (0, .ref (ad 9 0)), (1, .ref (ad 10 0)), (2, .int mill)]) hx hb dL_areHours_156 hl (by decide) rfl (fun ls hl => ?_)
                  refine lv_iload hx hb dL_areHours_158 (lv_at hl 1 rfl) ?_
                  refine lv_iload hx hb dL_areHours_160 (lv_at hl 7 rfl) ?_
                  refine jn_1 hR (fun F_172_17 eF_172_17 hR => ?_)
                  have key_172_17 : ∀ (y172_s0_17 : Int32), lt y172_s0_17 F_172_17 = R → ∀ ls : Array Slot, lv_has ls 16 [(4, .int y156_s0_16), (10, .int y117_s0_15), (3, .int e_13), (9, .int r_8), (8, .int x8_27), (7, .int r_2), (6, .int r_1), (5, .int x5_27), (0, .ref (ad 9 0)), (1, .ref (ad 10 0)), (2, .int mill)] → W p l e ({ frames := 7, cells := 0, slots := 0, locals := 165 } : Room) s m ([.ref (ad 9 0), .ref (ad 10 0), .int mill] : List Value).toArray below meth c s.heap [] 0 0 (MQ below (roQ (some (.int R))) ([.ref (ad 9 0), .ref (ad 10 0), .int mill] : List Value).toArray s 0 0 (fun _ => False)) (F0 m 172 ls [.int y172_s0_17]) := by
                    intro y172_s0_17 hR ls hl
                    rw [eF_172_17] at hR
                    replace hR := jn_e1 hR
                    refine lv_istore (lv' := [(5, .int y172_s0_17), (4, .int y156_s0_16), (10, .int y117_s0_15), (3, .int e_13), (9, .int r_8), (8, .int x8_27), (7, .int r_2), (6, .int r_1), (0, .ref (ad 9 0)), (1, .ref (ad 10 0)), (2, .int mill)]) hx hb dL_areHours_172 hl (by decide) rfl (fun ls hl => ?_)
                    refine lv_bipush (v := (-5)) hx hb dL_areHours_174 (by decide) ?_
                    refine lv_istore (lv' := [(11, .int (-5)), (5, .int y172_s0_17), (4, .int y156_s0_16), (10, .int y117_s0_15), (3, .int e_13), (9, .int r_8), (8, .int x8_27), (7, .int r_2), (6, .int r_1), (0, .ref (ad 9 0)), (1, .ref (ad 10 0)), (2, .int mill)]) hx hb dL_areHours_176 hl (by decide) rfl (fun ls hl => ?_)
                    refine lv_iconst (v := 0) hx hb dL_areHours_178 (by decide) ?_
                    refine lv_istore (lv' := [(12, .int 0), (11, .int (-5)), (5, .int y172_s0_17), (4, .int y156_s0_16), (10, .int y117_s0_15), (3, .int e_13), (9, .int r_8), (8, .int x8_27), (7, .int r_2), (6, .int r_1), (0, .ref (ad 9 0)), (1, .ref (ad 10 0)), (2, .int mill)]) hx hb dL_areHours_179 hl (by decide) rfl (fun ls hl => ?_)
                    refine lv_iconst (v := 0) hx hb dL_areHours_181 (by decide) ?_
                    refine lv_istore (lv' := [(13, .int 0), (12, .int 0), (11, .int (-5)), (5, .int y172_s0_17), (4, .int y156_s0_16), (10, .int y117_s0_15), (3, .int e_13), (9, .int r_8), (8, .int x8_27), (7, .int r_2), (6, .int r_1), (0, .ref (ad 9 0)), (1, .ref (ad 10 0)), (2, .int mill)]) hx hb dL_areHours_182 hl (by decide) rfl (fun ls hl => ?_)
                    have key_184 : ∀ (n_184 : Nat) (x13_184 : Int32) (x12_184 : Int32) (x11_184 : Int32), tr x13_184 r_1 = n_184 → mL_areHours_184 xx x8_27 (fun x13_184 x12_184 x11_184 => (lt (mX5_loudest (xx 0) x8_27) (fun r_19 => (if r_19 = x11_184 then (mL_areHours_27 xx mill r_1 r_2 (fun x8_27 x5_27 x4_27 x3_27 => (lt (mX5_quietHours (xx 0) mill) (fun r_4 => (if r_4 = x3_27 then (lt (mX5_bestTied (xx 0) mill) (fun r_6 => (if r_6 = x4_27 then 1 else 0))) else 0)))) n_27 (x8_27 + 1) y172_s0_17 y156_s0_16 e_13) else 0)))) n_184 x13_184 x12_184 x11_184 = R → ∀ ls : Array Slot, lv_has ls 16 [(13, .int x13_184), (12, .int x12_184), (11, .int x11_184), (5, .int y172_s0_17), (4, .int y156_s0_16), (10, .int y117_s0_15), (3, .int e_13), (9, .int r_8), (8, .int x8_27), (7, .int r_2), (6, .int r_1), (0, .ref (ad 9 0)), (1, .ref (ad 10 0)), (2, .int mill)] → W p l e ({ frames := 7, cells := 0, slots := 0, locals := 165 } : Room) s m ([.ref (ad 9 0), .ref (ad 10 0), .int mill] : List Value).toArray below meth c s.heap [] 0 0 (MQ below (roQ (some (.int R))) ([.ref (ad 9 0), .ref (ad 10 0), .int mill] : List Value).toArray s 0 0 (fun _ => False)) (F0 m 184 ls []) := by
                      intro n_184
                      induction n_184 with
                      | zero =>
                        intro x13_184 x12_184 x11_184 hn_184 hR ls hl
                        rw [mL_areHours_184] at hR
                        refine lv_iload hx hb dL_areHours_184 (lv_at hl 0 rfl) ?_
                        refine lv_iload hx hb dL_areHours_186 (lv_at hl 10 rfl) ?_
                        refine lv_icmp_ge (tgt := 271) hx hb dL_areHours_188 (by decide) (fun c_18 => ?_) (fun c_18 => (tr0 hn_184 c_18).elim)
                        refine lv_aload_n hx hb dL_areHours_271 rfl (lv_at hl 11 rfl) ?_
                        refine lv_iload hx hb dL_areHours_272 (lv_at hl 8 rfl) ?_
                        refine ro_V (v := .int (mX5_loudest (xx 0) x8_27)) (rest := []) (As := [.int x8_27]) hx hb hml hown hts hl (MX5_loudest l D q ad (xx 9 0 0) (xx 0) x8_27) gL_areHours_X5_loudest rfl kX5_loudest ⟨Nat.le_of_ble_eq_true rfl, Nat.le_of_ble_eq_true rfl⟩ rfl rfl (hP.sub (ws' := (wXN q ad (xx 9 0 0) (xx 0))) [0, 1, 2, 3, 4, 5, 6, 7, 8, 9, 10] rfl) (dT (hD.sub (ws' := (wXN q ad (xx 9 0 0) (xx 0))) [0, 1, 2, 3, 4, 5, 6, 7, 8, 9, 10] (by decide) rfl)) hG (ci := 3) rfl rfl rfl rfl (Nat.le_of_ble_eq_true rfl) dL_areHours_274 ⟨Nat.zero_le _, Nat.zero_le _⟩ ?_
                        obtain ⟨r_19, er_19⟩ : ∃ z, z = (mX5_loudest (xx 0) x8_27) := ⟨_, rfl⟩
                        rw [← er_19]
                        replace hR := lt_e hR er_19
                        refine lv_iload hx hb dL_areHours_277 (lv_at hl 2 rfl) ?_
                        refine lv_icmp_eq (tgt := 284) hx hb dL_areHours_279 (by decide) (fun c_20 => ?_) (fun c_20 => ?_)
                        · rw [if_pos c_20] at hR
                          have tc_20 : r_19.toInt = x11_184.toInt := i_eq.mp c_20
                          refine lv_iinc (v := (x8_27 + 1)) (lv' := [(8, .int (x8_27 + 1)), (13, .int x13_184), (12, .int x12_184), (11, .int x11_184), (5, .int y172_s0_17), (4, .int y156_s0_16), (10, .int y117_s0_15), (3, .int e_13), (9, .int r_8), (7, .int r_2), (6, .int r_1), (0, .ref (ad 9 0)), (1, .ref (ad 10 0)), (2, .int mill)]) hx hb dL_areHours_284 hl (k := 8) rfl rfl (by decide) rfl (fun ls hl => ?_)
                          refine lv_goto (tgt := 27) hx hb dL_areHours_287 (by decide) ?_
                          exact ih_27 (x8_27 + 1) y172_s0_17 y156_s0_16 e_13 (trN hn_27) (k_up hk_27 c_3) (by omega) hR ls (lv_sub hl [0, 9, 10, 4, 5, 7, 11, 12, 13] rfl)
                        · rw [if_neg c_20] at hR
                          have tc_20 : ¬ r_19.toInt = x11_184.toInt := fun z => c_20 (i_eq.mpr z)
                          refine lv_iconst (v := 0) hx hb dL_areHours_282 (by decide) ?_
                          exact ro_zret hx hb hr hk (Or.inl rfl) hR dL_areHours_283
                      | succ n_184 ih_184 =>
                        intro x13_184 x12_184 x11_184 hn_184 hR ls hl
                        rw [mL_areHours_184] at hR
                        refine lv_iload hx hb dL_areHours_184 (lv_at hl 0 rfl) ?_
                        refine lv_iload hx hb dL_areHours_186 (lv_at hl 10 rfl) ?_
                        refine lv_icmp_ge (tgt := 271) hx hb dL_areHours_188 (by decide) (fun c_18 => (trS hn_184 c_18).elim) (fun c_18 => ?_)
                        refine lv_iconst (v := 0) hx hb dL_areHours_191 (by decide) ?_
                        refine lv_istore (lv' := [(14, .int 0), (13, .int x13_184), (12, .int x12_184), (11, .int x11_184), (5, .int y172_s0_17), (4, .int y156_s0_16), (10, .int y117_s0_15), (3, .int e_13), (9, .int r_8), (8, .int x8_27), (7, .int r_2), (6, .int r_1), (0, .ref (ad 9 0)), (1, .ref (ad 10 0)), (2, .int mill)]) hx hb dL_areHours_192 hl (by decide) rfl (fun ls hl => ?_)
                        refine lv_iconst (v := 0) hx hb dL_areHours_194 (by decide) ?_
                        refine lv_istore (lv' := [(15, .int 0), (14, .int 0), (13, .int x13_184), (12, .int x12_184), (11, .int x11_184), (5, .int y172_s0_17), (4, .int y156_s0_16), (10, .int y117_s0_15), (3, .int e_13), (9, .int r_8), (8, .int x8_27), (7, .int r_2), (6, .int r_1), (0, .ref (ad 9 0)), (1, .ref (ad 10 0)), (2, .int mill)]) hx hb dL_areHours_195 hl (by decide) rfl (fun ls hl => ?_)
                        have key_197 : ∀ (n_197 : Nat) (x15_197 : Int32) (x14_197 : Int32), tr x15_197 (mX5_count xx 0) = n_197 → mL_areHours_197 xx x8_27 x13_184 (fun x15_197 x14_197 => (lt ((if x14_197 ≤ x12_184 then x11_184 else x13_184) : Int32) (fun y247_s0_22 => (lt ((if x14_197 ≤ x12_184 then x12_184 else x14_197) : Int32) (fun y263_s0_23 => (mL_areHours_184 xx x8_27 (fun x13_184 x12_184 x11_184 => (lt (mX5_loudest (xx 0) x8_27) (fun r_19 => (if r_19 = x11_184 then (mL_areHours_27 xx mill r_1 r_2 (fun x8_27 x5_27 x4_27 x3_27 => (lt (mX5_quietHours (xx 0) mill) (fun r_4 => (if r_4 = x3_27 then (lt (mX5_bestTied (xx 0) mill) (fun r_6 => (if r_6 = x4_27 then 1 else 0))) else 0)))) n_27 (x8_27 + 1) y172_s0_17 y156_s0_16 e_13) else 0)))) n_184 (x13_184 + 1) y263_s0_23 y247_s0_22)))))) n_197 x15_197 x14_197 = R → ∀ ls : Array Slot, lv_has ls 16 [(15, .int x15_197), (14, .int x14_197), (13, .int x13_184), (12, .int x12_184), (11, .int x11_184), (5, .int y172_s0_17), (4, .int y156_s0_16), (10, .int y117_s0_15), (3, .int e_13), (9, .int r_8), (8, .int x8_27), (7, .int r_2), (6, .int r_1), (0, .ref (ad 9 0)), (1, .ref (ad 10 0)), (2, .int mill)] → W p l e ({ frames := 7, cells := 0, slots := 0, locals := 165 } : Room) s m ([.ref (ad 9 0), .ref (ad 10 0), .int mill] : List Value).toArray below meth c s.heap [] 0 0 (MQ below (roQ (some (.int R))) ([.ref (ad 9 0), .ref (ad 10 0), .int mill] : List Value).toArray s 0 0 (fun _ => False)) (F0 m 197 ls []) := by
                          intro n_197
                          induction n_197 with
                          | zero =>
                            intro x15_197 x14_197 hn_197 hR ls hl
                            rw [mL_areHours_197] at hR
                            refine lv_iload hx hb dL_areHours_197 (lv_at hl 0 rfl) ?_
                            refine lv_aload_n hx hb dL_areHours_199 rfl (lv_at hl 13 rfl) ?_
                            refine lv_iconst (v := 0) hx hb dL_areHours_200 (by decide) ?_
                            refine ro_V (v := .int (mX5_count xx 0)) (rest := [.int x15_197]) (As := [.int 0]) hx hb hml hown hts hl (MX5_count l D q ad xx 0) gL_areHours_X5_count rfl kX5_count ⟨Nat.le_of_ble_eq_true rfl, Nat.le_of_ble_eq_true rfl⟩ rfl rfl (hP.sub (ws' := (wX q ad xx)) [0, 1, 2, 3, 4, 5, 6, 7, 8, 9, 10, 11, 12, 13, 14, 15, 16, 17, 18, 19, 20, 21, 22, 23, 24, 25, 26, 27, 28, 29, 30, 31, 32, 33, 34, 35, 36, 37, 38, 39, 40, 41, 42, 43, 44, 45, 46, 47, 48, 49, 50, 51, 52, 53, 54, 55, 56, 57, 58, 59, 60, 61, 62, 63, 64, 65, 66, 67, 68, 69, 70, 71, 72, 73, 74] rfl) (dT (hD.sub (ws' := (wX q ad xx)) [0, 1, 2, 3, 4, 5, 6, 7, 8, 9, 10, 11, 12, 13, 14, 15, 16, 17, 18, 19, 20, 21, 22, 23, 24, 25, 26, 27, 28, 29, 30, 31, 32, 33, 34, 35, 36, 37, 38, 39, 40, 41, 42, 43, 44, 45, 46, 47, 48, 49, 50, 51, 52, 53, 54, 55, 56, 57, 58, 59, 60, 61, 62, 63, 64, 65, 66, 67, 68, 69, 70, 71, 72, 73, 74] (by decide) rfl)) hG (ci := 3) rfl rfl rfl rfl (Nat.le_of_ble_eq_true rfl) dL_areHours_201 ⟨Nat.zero_le _, Nat.zero_le _⟩ ?_
                            refine lv_icmp_ge (tgt := 233) hx hb dL_areHours_204 (by decide) (fun c_21 => ?_) (fun c_21 => (tr0 hn_197 c_21).elim)
                            refine lv_iload hx hb dL_areHours_233 (lv_at hl 1 rfl) ?_
                            refine lv_iload hx hb dL_areHours_235 (lv_at hl 3 rfl) ?_
                            refine jn_1 hR (fun F_247_22 eF_247_22 hR => ?_)
                            have key_247_22 : ∀ (y247_s0_22 : Int32), lt y247_s0_22 F_247_22 = R → ∀ ls : Array Slot, lv_has ls 16 [(15, .int x15_197), (14, .int x14_197), (13, .int x13_184), (12, .int x12_184), (11, .int x11_184), (5, .int y172_s0_17), (4, .int y156_s0_16), (10, .int y117_s0_15), (3, .int e_13), (9, .int r_8), (8, .int x8_27), (7, .int r_2), (6, .int r_1), (0, .ref (ad 9 0)), (1, .ref (ad 10 0)), (2, .int mill)] → W p l e ({ frames := 7, cells := 0, slots := 0, locals := 165 } : Room) s m ([.ref (ad 9 0), .ref (ad 10 0), .int mill] : List Value).toArray below meth c s.heap [] 0 0 (MQ below (roQ (some (.int R))) ([.ref (ad 9 0), .ref (ad 10 0), .int mill] : List Value).toArray s 0 0 (fun _ => False)) (F0 m 247 ls [.int y247_s0_22]) := by
                              intro y247_s0_22 hR ls hl
                              rw [eF_247_22] at hR
                              replace hR := jn_e1 hR
                              refine lv_istore (lv' := [(11, .int y247_s0_22), (15, .int x15_197), (14, .int x14_197), (13, .int x13_184), (12, .int x12_184), (5, .int y172_s0_17), (4, .int y156_s0_16), (10, .int y117_s0_15), (3, .int e_13), (9, .int r_8), (8, .int x8_27), (7, .int r_2), (6, .int r_1), (0, .ref (ad 9 0)), (1, .ref (ad 10 0)), (2, .int mill)]) hx hb dL_areHours_247 hl (by decide) rfl (fun ls hl => ?_)
                              refine lv_iload hx hb dL_areHours_249 (lv_at hl 2 rfl) ?_
                              refine lv_iload hx hb dL_areHours_251 (lv_at hl 4 rfl) ?_
                              refine jn_1 hR (fun F_263_23 eF_263_23 hR => ?_)
                              have key_263_23 : ∀ (y263_s0_23 : Int32), lt y263_s0_23 F_263_23 = R → ∀ ls : Array Slot, lv_has ls 16 [(11, .int y247_s0_22), (15, .int x15_197), (14, .int x14_197), (13, .int x13_184), (12, .int x12_184), (5, .int y172_s0_17), (4, .int y156_s0_16), (10, .int y117_s0_15), (3, .int e_13), (9, .int r_8), (8, .int x8_27), (7, .int r_2), (6, .int r_1), (0, .ref (ad 9 0)), (1, .ref (ad 10 0)), (2, .int mill)] → W p l e ({ frames := 7, cells := 0, slots := 0, locals := 165 } : Room) s m ([.ref (ad 9 0), .ref (ad 10 0), .int mill] : List Value).toArray below meth c s.heap [] 0 0 (MQ below (roQ (some (.int R))) ([.ref (ad 9 0), .ref (ad 10 0), .int mill] : List Value).toArray s 0 0 (fun _ => False)) (F0 m 263 ls [.int y263_s0_23]) := by
                                intro y263_s0_23 hR ls hl
                                rw [eF_263_23] at hR
                                replace hR := jn_e1 hR
                                refine lv_istore (lv' := [(12, .int y263_s0_23), (11, .int y247_s0_22), (15, .int x15_197), (14, .int x14_197), (13, .int x13_184), (5, .int y172_s0_17), (4, .int y156_s0_16), (10, .int y117_s0_15), (3, .int e_13), (9, .int r_8), (8, .int x8_27), (7, .int r_2), (6, .int r_1), (0, .ref (ad 9 0)), (1, .ref (ad 10 0)), (2, .int mill)]) hx hb dL_areHours_263 hl (by decide) rfl (fun ls hl => ?_)
                                refine lv_iinc (v := (x13_184 + 1)) (lv' := [(13, .int (x13_184 + 1)), (12, .int y263_s0_23), (11, .int y247_s0_22), (15, .int x15_197), (14, .int x14_197), (5, .int y172_s0_17), (4, .int y156_s0_16), (10, .int y117_s0_15), (3, .int e_13), (9, .int r_8), (8, .int x8_27), (7, .int r_2), (6, .int r_1), (0, .ref (ad 9 0)), (1, .ref (ad 10 0)), (2, .int mill)]) hx hb dL_areHours_265 hl (k := 4) rfl rfl (by decide) rfl (fun ls hl => ?_)
                                refine lv_goto (tgt := 184) hx hb dL_areHours_268 (by decide) ?_
                                exact ih_184 (x13_184 + 1) y263_s0_23 y247_s0_22 (trN hn_184) hR ls (lv_sub hl [0, 1, 2, 5, 6, 7, 8, 9, 10, 11, 12, 13, 14, 15] rfl)
                              refine lv_icmp_le (tgt := 261) hx hb dL_areHours_253 (by decide) (fun c_24 => ?_) (fun c_24 => ?_)
                              · rw [if_pos c_24] at hR
                                have tc_24 : x14_197.toInt ≤ x12_184.toInt := i_le.mp c_24
                                refine lv_iload hx hb dL_areHours_261 (lv_at hl 4 rfl) ?_
                                exact key_263_23 x12_184 hR ls (lv_sub hl [0, 1, 2, 3, 4, 5, 6, 7, 8, 9, 10, 11, 12, 13, 14, 15] rfl)
                              · rw [if_neg c_24] at hR
                                have tc_24 : ¬ x14_197.toInt ≤ x12_184.toInt := fun z => c_24 (i_le.mpr z)
                                refine lv_iload hx hb dL_areHours_256 (lv_at hl 2 rfl) ?_
                                refine lv_goto (tgt := 263) hx hb dL_areHours_258 (by decide) ?_
                                exact key_263_23 x14_197 hR ls (lv_sub hl [0, 1, 2, 3, 4, 5, 6, 7, 8, 9, 10, 11, 12, 13, 14, 15] rfl)
                            refine lv_icmp_le (tgt := 245) hx hb dL_areHours_237 (by decide) (fun c_25 => ?_) (fun c_25 => ?_)
                            · rw [if_pos c_25] at hR
                              have tc_25 : x14_197.toInt ≤ x12_184.toInt := i_le.mp c_25
                              refine lv_iload hx hb dL_areHours_245 (lv_at hl 4 rfl) ?_
                              exact key_247_22 x11_184 hR ls (lv_sub hl [0, 1, 2, 3, 4, 5, 6, 7, 8, 9, 10, 11, 12, 13, 14, 15] rfl)
                            · rw [if_neg c_25] at hR
                              have tc_25 : ¬ x14_197.toInt ≤ x12_184.toInt := fun z => c_25 (i_le.mpr z)
                              refine lv_iload hx hb dL_areHours_240 (lv_at hl 2 rfl) ?_
                              refine lv_goto (tgt := 247) hx hb dL_areHours_242 (by decide) ?_
                              exact key_247_22 x13_184 hR ls (lv_sub hl [0, 1, 2, 3, 4, 5, 6, 7, 8, 9, 10, 11, 12, 13, 14, 15] rfl)
                          | succ n_197 ih_197 =>
                            intro x15_197 x14_197 hn_197 hR ls hl
                            rw [mL_areHours_197] at hR
                            refine lv_iload hx hb dL_areHours_197 (lv_at hl 0 rfl) ?_
                            refine lv_aload_n hx hb dL_areHours_199 rfl (lv_at hl 13 rfl) ?_
                            refine lv_iconst (v := 0) hx hb dL_areHours_200 (by decide) ?_
                            refine ro_V (v := .int (mX5_count xx 0)) (rest := [.int x15_197]) (As := [.int 0]) hx hb hml hown hts hl (MX5_count l D q ad xx 0) gL_areHours_X5_count rfl kX5_count ⟨Nat.le_of_ble_eq_true rfl, Nat.le_of_ble_eq_true rfl⟩ rfl rfl (hP.sub (ws' := (wX q ad xx)) [0, 1, 2, 3, 4, 5, 6, 7, 8, 9, 10, 11, 12, 13, 14, 15, 16, 17, 18, 19, 20, 21, 22, 23, 24, 25, 26, 27, 28, 29, 30, 31, 32, 33, 34, 35, 36, 37, 38, 39, 40, 41, 42, 43, 44, 45, 46, 47, 48, 49, 50, 51, 52, 53, 54, 55, 56, 57, 58, 59, 60, 61, 62, 63, 64, 65, 66, 67, 68, 69, 70, 71, 72, 73, 74] rfl) (dT (hD.sub (ws' := (wX q ad xx)) [0, 1, 2, 3, 4, 5, 6, 7, 8, 9, 10, 11, 12, 13, 14, 15, 16, 17, 18, 19, 20, 21, 22, 23, 24, 25, 26, 27, 28, 29, 30, 31, 32, 33, 34, 35, 36, 37, 38, 39, 40, 41, 42, 43, 44, 45, 46, 47, 48, 49, 50, 51, 52, 53, 54, 55, 56, 57, 58, 59, 60, 61, 62, 63, 64, 65, 66, 67, 68, 69, 70, 71, 72, 73, 74] (by decide) rfl)) hG (ci := 3) rfl rfl rfl rfl (Nat.le_of_ble_eq_true rfl) dL_areHours_201 ⟨Nat.zero_le _, Nat.zero_le _⟩ ?_
                            refine lv_icmp_ge (tgt := 233) hx hb dL_areHours_204 (by decide) (fun c_21 => (trS hn_197 c_21).elim) (fun c_21 => ?_)
                            refine lv_iload hx hb dL_areHours_207 (lv_at hl 1 rfl) ?_
                            refine lv_aload_n hx hb dL_areHours_209 rfl (lv_at hl 13 rfl) ?_
                            refine lv_iload hx hb dL_areHours_210 (lv_at hl 0 rfl) ?_
                            refine lv_aload_n hx hb dL_areHours_212 rfl (lv_at hl 13 rfl) ?_
                            refine lv_iload hx hb dL_areHours_213 (lv_at hl 2 rfl) ?_
                            refine lv_iconst (v := 0) hx hb dL_areHours_215 (by decide) ?_
                            refine ro_V (v := .int (mX5_houseOf (xx 0) x13_184 0)) (rest := [.int x15_197, .ref (ad 9 0), .int x14_197]) (As := [.int x13_184, .int 0]) hx hb hml hown hts hl (MX5_houseOf l D q ad (xx 9 0 0) (xx 0) x13_184 0) gL_areHours_X5_houseOf rfl kX5_houseOf ⟨Nat.le_of_ble_eq_true rfl, Nat.le_of_ble_eq_true rfl⟩ rfl rfl (hP.sub (ws' := (wXN q ad (xx 9 0 0) (xx 0))) [0, 1, 2, 3, 4, 5, 6, 7, 8, 9, 10] rfl) (dT (hD.sub (ws' := (wXN q ad (xx 9 0 0) (xx 0))) [0, 1, 2, 3, 4, 5, 6, 7, 8, 9, 10] (by decide) rfl)) hG (ci := 3) rfl rfl rfl rfl (Nat.le_of_ble_eq_true rfl) dL_areHours_216 ⟨Nat.zero_le _, Nat.zero_le _⟩ ?_
                            obtain ⟨r_26, er_26⟩ : ∃ z, z = (mX5_houseOf (xx 0) x13_184 0) := ⟨_, rfl⟩
                            rw [← er_26]
                            replace hR := lt_e hR er_26
                            refine lv_iload hx hb dL_areHours_219 (lv_at hl 10 rfl) ?_
                            refine ro_V (v := .int (mX5_noise (xx 0) x15_197 r_26 x8_27)) (rest := [.int x14_197]) (As := [.int x15_197, .int r_26, .int x8_27]) hx hb hml hown hts hl (MX5_noise l D q ad (xx 9 0 0) (xx 0) x15_197 r_26 x8_27) gL_areHours_X5_noise rfl kX5_noise ⟨Nat.le_of_ble_eq_true rfl, Nat.le_of_ble_eq_true rfl⟩ rfl rfl (hP.sub (ws' := (wXN q ad (xx 9 0 0) (xx 0))) [0, 1, 2, 3, 4, 5, 6, 7, 8, 9, 10] rfl) (dT (hD.sub (ws' := (wXN q ad (xx 9 0 0) (xx 0))) [0, 1, 2, 3, 4, 5, 6, 7, 8, 9, 10] (by decide) rfl)) hG (ci := 3) rfl rfl rfl rfl (Nat.le_of_ble_eq_true rfl) dL_areHours_221 ⟨Nat.zero_le _, Nat.zero_le _⟩ ?_
                            obtain ⟨r_27, er_27⟩ : ∃ z, z = (mX5_noise (xx 0) x15_197 r_26 x8_27) := ⟨_, rfl⟩
                            rw [← er_27]
                            replace hR := lt_e hR er_27
                            refine lv_iadd hx hb dL_areHours_224 ?_
                            obtain ⟨e_28, ee_28⟩ : ∃ z, z = (x14_197 + r_27) := ⟨_, rfl⟩
                            rw [← ee_28]
                            replace hR := lt_e hR ee_28
                            refine lv_istore (lv' := [(14, .int e_28), (15, .int x15_197), (13, .int x13_184), (12, .int x12_184), (11, .int x11_184), (5, .int y172_s0_17), (4, .int y156_s0_16), (10, .int y117_s0_15), (3, .int e_13), (9, .int r_8), (8, .int x8_27), (7, .int r_2), (6, .int r_1), (0, .ref (ad 9 0)), (1, .ref (ad 10 0)), (2, .int mill)]) hx hb dL_areHours_225 hl (by decide) rfl (fun ls hl => ?_)
                            refine lv_iinc (v := (x15_197 + 1)) (lv' := [(15, .int (x15_197 + 1)), (14, .int e_28), (13, .int x13_184), (12, .int x12_184), (11, .int x11_184), (5, .int y172_s0_17), (4, .int y156_s0_16), (10, .int y117_s0_15), (3, .int e_13), (9, .int r_8), (8, .int x8_27), (7, .int r_2), (6, .int r_1), (0, .ref (ad 9 0)), (1, .ref (ad 10 0)), (2, .int mill)]) hx hb dL_areHours_227 hl (k := 1) rfl rfl (by decide) rfl (fun ls hl => ?_)
                            refine lv_goto (tgt := 197) hx hb dL_areHours_230 (by decide) ?_
                            exact ih_197 (x15_197 + 1) e_28 (trN hn_197) hR ls (lv_sub hl [0, 1, 2, 3, 4, 5, 6, 7, 8, 9, 10, 11, 12, 13, 14, 15] rfl)
                        exact key_197 _ 0 0 rfl hR ls hl
                    exact key_184 _ 0 0 (-5) rfl hR ls hl
                  refine lv_icmp_le (tgt := 170) hx hb dL_areHours_162 (by decide) (fun c_29 => ?_) (fun c_29 => ?_)
                  · rw [if_pos c_29] at hR
                    have tc_29 : y117_s0_15.toInt ≤ x5_27.toInt := i_le.mp c_29
                    refine lv_iload hx hb dL_areHours_170 (lv_at hl 7 rfl) ?_
                    exact key_172_17 x5_27 hR ls (lv_sub hl [0, 1, 2, 3, 4, 5, 6, 7, 8, 9, 10] rfl)
                  · rw [if_neg c_29] at hR
                    have tc_29 : ¬ y117_s0_15.toInt ≤ x5_27.toInt := fun z => c_29 (i_le.mpr z)
                    refine lv_iload hx hb dL_areHours_165 (lv_at hl 1 rfl) ?_
                    refine lv_goto (tgt := 172) hx hb dL_areHours_167 (by decide) ?_
                    exact key_172_17 y117_s0_15 hR ls (lv_sub hl [0, 1, 2, 3, 4, 5, 6, 7, 8, 9, 10] rfl)
                refine lv_icmp_gt (tgt := 149) hx hb dL_areHours_123 (by decide) (fun c_30 => ?_) (fun c_30 => ?_)
                · rw [if_pos c_30] at hR
                  have tc_30 : x5_27.toInt < y117_s0_15.toInt := i_lt.mp c_30
                  refine lv_iload hx hb dL_areHours_149 (lv_at hl 3 rfl) ?_
                  refine lv_goto (tgt := 156) hx hb dL_areHours_151 (by decide) ?_
                  exact key_156_16 x8_27 (by first | omega | decide) hR ls (lv_sub hl [0, 1, 2, 3, 4, 5, 6, 7, 8, 9, 10] rfl)
                · rw [if_neg c_30] at hR
                  have tc_30 : ¬ x5_27.toInt < y117_s0_15.toInt := fun z => c_30 (i_lt.mpr z)
                  refine lv_iload hx hb dL_areHours_126 (lv_at hl 0 rfl) ?_
                  refine lv_iload hx hb dL_areHours_128 (lv_at hl 6 rfl) ?_
                  refine lv_icmp_ne (tgt := 154) hx hb dL_areHours_130 (by decide) (fun c_31 => ?_) (fun c_31 => ?_)
                  · rw [if_neg c_31] at hR
                    have tc_31 : ¬ y117_s0_15.toInt = x5_27.toInt := fun z => c_31 (i_eq.mpr z)
                    refine lv_iload hx hb dL_areHours_154 (lv_at hl 7 rfl) ?_
                    exact key_156_16 x4_27 (by first | omega | decide) hR ls (lv_sub hl [0, 1, 2, 3, 4, 5, 6, 7, 8, 9, 10] rfl)
                  · rw [if_pos c_31] at hR
                    have tc_31 : y117_s0_15.toInt = x5_27.toInt := i_eq.mp c_31
                    refine lv_iload hx hb dL_areHours_133 (lv_at hl 7 rfl) ?_
                    refine lv_if_lt (tgt := 154) hx hb dL_areHours_135 (by decide) (fun c_32 => ?_) (fun c_32 => ?_)
                    · rw [if_pos c_32] at hR
                      have tc_32 : x4_27.toInt < 0 := i_lt.mp c_32
                      refine lv_iload hx hb dL_areHours_154 (lv_at hl 7 rfl) ?_
                      exact key_156_16 x4_27 (by first | omega | decide) hR ls (lv_sub hl [0, 1, 2, 3, 4, 5, 6, 7, 8, 9, 10] rfl)
                    · rw [if_neg c_32] at hR
                      have tc_32 : ¬ x4_27.toInt < 0 := fun z => c_32 (i_lt.mpr z)
                      refine lv_aload_n hx hb dL_areHours_138 rfl (lv_at hl 9 rfl) ?_
                      refine lv_iload hx hb dL_areHours_139 (lv_at hl 3 rfl) ?_
                      refine va_iald hx hb hG.1 hP 75 0 rfl rfl (ix_t (i := x8_27) (x := (x8_27).toInt) (n := 24) rfl (by omega)) dL_areHours_141 ?_
                      refine lv_aload_n hx hb dL_areHours_142 rfl (lv_at hl 9 rfl) ?_
                      refine lv_iload hx hb dL_areHours_143 (lv_at hl 7 rfl) ?_
                      refine va_iald hx hb hG.1 hP 75 0 rfl rfl (ix_t (i := x4_27) (x := (x4_27).toInt) (n := 24) rfl (by omega)) dL_areHours_145 ?_
                      refine lv_icmp_ge (tgt := 154) hx hb dL_areHours_146 (by decide) (fun c_33 => ?_) (fun c_33 => ?_)
                      · rw [if_pos c_33] at hR
                        have tc_33 : ((xx 10 0) (x4_27).toNatClampNeg).toInt ≤ ((xx 10 0) (x8_27).toNatClampNeg).toInt := i_le.mp c_33
                        refine lv_iload hx hb dL_areHours_154 (lv_at hl 7 rfl) ?_
                        exact key_156_16 x4_27 (by first | omega | decide) hR ls (lv_sub hl [0, 1, 2, 3, 4, 5, 6, 7, 8, 9, 10] rfl)
                      · rw [if_neg c_33] at hR
                        have tc_33 : ¬ ((xx 10 0) (x4_27).toNatClampNeg).toInt ≤ ((xx 10 0) (x8_27).toNatClampNeg).toInt := fun z => c_33 (i_le.mpr z)
                        refine lv_iload hx hb dL_areHours_149 (lv_at hl 3 rfl) ?_
                        refine lv_goto (tgt := 156) hx hb dL_areHours_151 (by decide) ?_
                        exact key_156_16 x8_27 (by first | omega | decide) hR ls (lv_sub hl [0, 1, 2, 3, 4, 5, 6, 7, 8, 9, 10] rfl)
              refine lv_if_eq (tgt := 116) hx hb dL_areHours_105 (by decide) (fun c_34 => ?_) (fun c_34 => ?_)
              · rw [if_pos c_34] at hR
                refine lv_iconst (v := 0) hx hb dL_areHours_116 (by decide) ?_
                exact key_117_15 0 hR ls (lv_sub hl [0, 1, 2, 3, 4, 5, 6, 7, 8, 9] rfl)
              · rw [if_neg c_34] at hR
                refine lv_iload hx hb dL_areHours_108 (lv_at hl 4 rfl) ?_
                refine lv_iload hx hb dL_areHours_110 (lv_at hl 1 rfl) ?_
                refine lv_isub hx hb dL_areHours_112 ?_
                refine lv_goto (tgt := 117) hx hb dL_areHours_113 (by decide) ?_
                exact key_117_15 (r_1 - r_8) hR ls (lv_sub hl [0, 1, 2, 3, 4, 5, 6, 7, 8, 9] rfl)
            refine lv_icmp_le (tgt := 95) hx hb dL_areHours_78 (by decide) (fun c_35 => ?_) (fun c_35 => ?_)
            · rw [if_pos c_35] at hR
              have tc_35 : ((xx 10 0) (x8_27).toNatClampNeg).toInt ≤ 1 := i_le.mp c_35
              refine lv_iconst (v := 0) hx hb dL_areHours_95 (by decide) ?_
              exact key_96_12 0 hR ls (lv_sub hl [0, 1, 2, 3, 4, 5, 6, 7, 8, 9] rfl)
            · rw [if_neg c_35] at hR
              have tc_35 : ¬ ((xx 10 0) (x8_27).toNatClampNeg).toInt ≤ 1 := fun z => c_35 (i_le.mpr z)
              refine lv_iload hx hb dL_areHours_81 (lv_at hl 0 rfl) ?_
              refine lv_iload hx hb dL_areHours_83 (lv_at hl 3 rfl) ?_
              refine lv_icmp_ne (tgt := 95) hx hb dL_areHours_85 (by decide) (fun c_36 => ?_) (fun c_36 => ?_)
              · rw [if_neg c_36] at hR
                have tc_36 : ¬ r_8.toInt = r_1.toInt := fun z => c_36 (i_eq.mpr z)
                refine lv_iconst (v := 0) hx hb dL_areHours_95 (by decide) ?_
                exact key_96_12 0 hR ls (lv_sub hl [0, 1, 2, 3, 4, 5, 6, 7, 8, 9] rfl)
              · rw [if_pos c_36] at hR
                have tc_36 : r_8.toInt = r_1.toInt := i_eq.mp c_36
                refine lv_iconst (v := 1) hx hb dL_areHours_88 (by decide) ?_
                refine lv_iload hx hb dL_areHours_89 (lv_at hl 1 rfl) ?_
                refine lv_ishl hx hb dL_areHours_91 ?_
                refine lv_goto (tgt := 96) hx hb dL_areHours_92 (by decide) ?_
                exact key_96_12 (1 <<< (x8_27 &&& 31)) hR ls (lv_sub hl [0, 1, 2, 3, 4, 5, 6, 7, 8, 9] rfl)
          · rw [if_neg c_11] at hR
            have tc_11 : ¬ 2 ≤ ((xx 10 0) (x8_27).toNatClampNeg).toInt := fun z => c_11 (i_le.mpr z)
            refine lv_iload hx hb dL_areHours_63 (lv_at hl 0 rfl) ?_
            refine lv_iload hx hb dL_areHours_65 (lv_at hl 3 rfl) ?_
            refine lv_icmp_eq (tgt := 72) hx hb dL_areHours_67 (by decide) (fun c_37 => ?_) (fun c_37 => ?_)
            · rw [if_pos c_37] at hR
              have tc_37 : r_8.toInt = r_1.toInt := i_eq.mp c_37
              refine lv_iload_n hx hb dL_areHours_72 rfl (lv_at hl 6 rfl) ?_
              refine lv_aload_n hx hb dL_areHours_73 rfl (lv_at hl 8 rfl) ?_
              refine lv_iload hx hb dL_areHours_74 (lv_at hl 1 rfl) ?_
              refine va_iald hx hb hG.1 hP 75 0 rfl rfl (ix_t (i := x8_27) (x := (x8_27).toInt) (n := 24) rfl (by omega)) dL_areHours_76 ?_
              refine lv_iconst (v := 1) hx hb dL_areHours_77 (by decide) ?_
              refine jn_1 hR (fun F_96_38 eF_96_38 hR => ?_)
              have key_96_38 : ∀ (y96_s0_38 : Int32), lt y96_s0_38 F_96_38 = R → ∀ ls : Array Slot, lv_has ls 16 [(9, .int r_8), (8, .int x8_27), (7, .int r_2), (6, .int r_1), (5, .int x5_27), (4, .int x4_27), (3, .int x3_27), (0, .ref (ad 9 0)), (1, .ref (ad 10 0)), (2, .int mill)] → W p l e ({ frames := 7, cells := 0, slots := 0, locals := 165 } : Room) s m ([.ref (ad 9 0), .ref (ad 10 0), .int mill] : List Value).toArray below meth c s.heap [] 0 0 (MQ below (roQ (some (.int R))) ([.ref (ad 9 0), .ref (ad 10 0), .int mill] : List Value).toArray s 0 0 (fun _ => False)) (F0 m 96 ls [.int y96_s0_38, .int x3_27]) := by
                intro y96_s0_38 hR ls hl
                rw [eF_96_38] at hR
                replace hR := jn_e1 hR
                refine lv_ior hx hb dL_areHours_96 ?_
                obtain ⟨e_39, ee_39⟩ : ∃ z, z = (x3_27 ||| y96_s0_38) := ⟨_, rfl⟩
                rw [← ee_39]
                replace hR := lt_e hR ee_39
                refine lv_istore_n (lv' := [(3, .int e_39), (9, .int r_8), (8, .int x8_27), (7, .int r_2), (6, .int r_1), (5, .int x5_27), (4, .int x4_27), (0, .ref (ad 9 0)), (1, .ref (ad 10 0)), (2, .int mill)]) hx hb dL_areHours_97 rfl hl (by decide) rfl (fun ls hl => ?_)
                refine lv_iload hx hb dL_areHours_98 (lv_at hl 3 rfl) ?_
                refine lv_iload hx hb dL_areHours_100 (lv_at hl 2 rfl) ?_
                refine ro_S (v := .int (mL_has r_2 x8_27)) (rest := []) (As := [.int r_2, .int x8_27]) hx hb hml hown hts hl (ML_has l D q r_2 x8_27) gL_areHours_L_has rfl kL_has ⟨Nat.le_of_ble_eq_true rfl, Nat.le_of_ble_eq_true rfl⟩ rfl rfl (hP.sub (ws' := []) [] rfl) (dT (hD.sub (ws' := []) [] (by decide) rfl)) hG rfl rfl (Nat.le_of_ble_eq_true rfl) dL_areHours_102 ⟨Nat.zero_le _, Nat.zero_le _⟩ ?_
                obtain ⟨r_40, er_40⟩ : ∃ z, z = (mL_has r_2 x8_27) := ⟨_, rfl⟩
                rw [← er_40]
                replace hR := lt_e hR er_40
                refine jn_1 hR (fun F_117_41 eF_117_41 hR => ?_)
                have key_117_41 : ∀ (y117_s0_41 : Int32), lt y117_s0_41 F_117_41 = R → ∀ ls : Array Slot, lv_has ls 16 [(3, .int e_39), (9, .int r_8), (8, .int x8_27), (7, .int r_2), (6, .int r_1), (5, .int x5_27), (4, .int x4_27), (0, .ref (ad 9 0)), (1, .ref (ad 10 0)), (2, .int mill)] → W p l e ({ frames := 7, cells := 0, slots := 0, locals := 165 } : Room) s m ([.ref (ad 9 0), .ref (ad 10 0), .int mill] : List Value).toArray below meth c s.heap [] 0 0 (MQ below (roQ (some (.int R))) ([.ref (ad 9 0), .ref (ad 10 0), .int mill] : List Value).toArray s 0 0 (fun _ => False)) (F0 m 117 ls [.int y117_s0_41]) := by
                  intro y117_s0_41 hR ls hl
                  rw [eF_117_41] at hR
                  replace hR := jn_e1 hR
                  refine lv_istore (lv' := [(10, .int y117_s0_41), (3, .int e_39), (9, .int r_8), (8, .int x8_27), (7, .int r_2), (6, .int r_1), (5, .int x5_27), (4, .int x4_27), (0, .ref (ad 9 0)), (1, .ref (ad 10 0)), (2, .int mill)]) hx hb dL_areHours_117 hl (by decide) rfl (fun ls hl => ?_)
                  refine lv_iload hx hb dL_areHours_119 (lv_at hl 0 rfl) ?_
                  refine lv_iload hx hb dL_areHours_121 (lv_at hl 6 rfl) ?_
                  refine jn_1 hR (fun F_156_42 eF_156_42 hR => ?_)
                  have key_156_42 : ∀ (y156_s0_42 : Int32), (y156_s0_42.toInt = -5 ∨ (0 ≤ y156_s0_42.toInt ∧ y156_s0_42.toInt < 24)) → lt y156_s0_42 F_156_42 = R → ∀ ls : Array Slot, lv_has ls 16 [(10, .int y117_s0_41), (3, .int e_39), (9, .int r_8), (8, .int x8_27), (7, .int r_2), (6, .int r_1), (5, .int x5_27), (4, .int x4_27), (0, .ref (ad 9 0)), (1, .ref (ad 10 0)), (2, .int mill)] → W p l e ({ frames := 7, cells := 0, slots := 0, locals := 165 } : Room) s m ([.ref (ad 9 0), .ref (ad 10 0), .int mill] : List Value).toArray below meth c s.heap [] 0 0 (MQ below (roQ (some (.int R))) ([.ref (ad 9 0), .ref (ad 10 0), .int mill] : List Value).toArray s 0 0 (fun _ => False)) (F0 m 156 ls [.int y156_s0_42]) := by
                    intro y156_s0_42 hj_y156_s0_42 hR ls hl
                    rw [eF_156_42] at hR
                    replace hR := jn_e1 hR
                    refine lv_istore (lv' := [(4, .int y156_s0_42), (10, .int y117_s0_41), (3, .int e_39), (9, .int r_8), (8, .int x8_27), (7, .int r_2), (6, .int r_1), (5, .int x5_27), (0, .ref (ad 9 0)), (1, .ref (ad 10 0)), (2, .int mill)]) hx hb dL_areHours_156 hl (by decide) rfl (fun ls hl => ?_)
                    refine lv_iload hx hb dL_areHours_158 (lv_at hl 1 rfl) ?_
                    refine lv_iload hx hb dL_areHours_160 (lv_at hl 7 rfl) ?_
                    refine jn_1 hR (fun F_172_43 eF_172_43 hR => ?_)
                    have key_172_43 : ∀ (y172_s0_43 : Int32), lt y172_s0_43 F_172_43 = R → ∀ ls : Array Slot, lv_has ls 16 [(4, .int y156_s0_42), (10, .int y117_s0_41), (3, .int e_39), (9, .int r_8), (8, .int x8_27), (7, .int r_2), (6, .int r_1), (5, .int x5_27), (0, .ref (ad 9 0)), (1, .ref (ad 10 0)), (2, .int mill)] → W p l e ({ frames := 7, cells := 0, slots := 0, locals := 165 } : Room) s m ([.ref (ad 9 0), .ref (ad 10 0), .int mill] : List Value).toArray below meth c s.heap [] 0 0 (MQ below (roQ (some (.int R))) ([.ref (ad 9 0), .ref (ad 10 0), .int mill] : List Value).toArray s 0 0 (fun _ => False)) (F0 m 172 ls [.int y172_s0_43]) := by
                      intro y172_s0_43 hR ls hl
                      rw [eF_172_43] at hR
                      replace hR := jn_e1 hR
                      refine lv_istore (lv' := [(5, .int y172_s0_43), (4, .int y156_s0_42), (10, .int y117_s0_41), (3, .int e_39), (9, .int r_8), (8, .int x8_27), (7, .int r_2), (6, .int r_1), (0, .ref (ad 9 0)), (1, .ref (ad 10 0)), (2, .int mill)]) hx hb dL_areHours_172 hl (by decide) rfl (fun ls hl => ?_)
                      refine lv_bipush (v := (-5)) hx hb dL_areHours_174 (by decide) ?_
                      refine lv_istore (lv' := [(11, .int (-5)), (5, .int y172_s0_43), (4, .int y156_s0_42), (10, .int y117_s0_41), (3, .int e_39), (9, .int r_8), (8, .int x8_27), (7, .int r_2), (6, .int r_1), (0, .ref (ad 9 0)), (1, .ref (ad 10 0)), (2, .int mill)]) hx hb dL_areHours_176 hl (by decide) rfl (fun ls hl => ?_)
                      refine lv_iconst (v := 0) hx hb dL_areHours_178 (by decide) ?_
                      refine lv_istore (lv' := [(12, .int 0), (11, .int (-5)), (5, .int y172_s0_43), (4, .int y156_s0_42), (10, .int y117_s0_41), (3, .int e_39), (9, .int r_8), (8, .int x8_27), (7, .int r_2), (6, .int r_1), (0, .ref (ad 9 0)), (1, .ref (ad 10 0)), (2, .int mill)]) hx hb dL_areHours_179 hl (by decide) rfl (fun ls hl => ?_)
                      refine lv_iconst (v := 0) hx hb dL_areHours_181 (by decide) ?_
                      refine lv_istore (lv' := [(13, .int 0), (12, .int 0), (11, .int (-5)), (5, .int y172_s0_43), (4, .int y156_s0_42), (10, .int y117_s0_41), (3, .int e_39), (9, .int r_8), (8, .int x8_27), (7, .int r_2), (6, .int r_1), (0, .ref (ad 9 0)), (1, .ref (ad 10 0)), (2, .int mill)]) hx hb dL_areHours_182 hl (by decide) rfl (fun ls hl => ?_)
                      have key_184 : ∀ (n_184 : Nat) (x13_184 : Int32) (x12_184 : Int32) (x11_184 : Int32), tr x13_184 r_1 = n_184 → mL_areHours_184 xx x8_27 (fun x13_184 x12_184 x11_184 => (lt (mX5_loudest (xx 0) x8_27) (fun r_45 => (if r_45 = x11_184 then (mL_areHours_27 xx mill r_1 r_2 (fun x8_27 x5_27 x4_27 x3_27 => (lt (mX5_quietHours (xx 0) mill) (fun r_4 => (if r_4 = x3_27 then (lt (mX5_bestTied (xx 0) mill) (fun r_6 => (if r_6 = x4_27 then 1 else 0))) else 0)))) n_27 (x8_27 + 1) y172_s0_43 y156_s0_42 e_39) else 0)))) n_184 x13_184 x12_184 x11_184 = R → ∀ ls : Array Slot, lv_has ls 16 [(13, .int x13_184), (12, .int x12_184), (11, .int x11_184), (5, .int y172_s0_43), (4, .int y156_s0_42), (10, .int y117_s0_41), (3, .int e_39), (9, .int r_8), (8, .int x8_27), (7, .int r_2), (6, .int r_1), (0, .ref (ad 9 0)), (1, .ref (ad 10 0)), (2, .int mill)] → W p l e ({ frames := 7, cells := 0, slots := 0, locals := 165 } : Room) s m ([.ref (ad 9 0), .ref (ad 10 0), .int mill] : List Value).toArray below meth c s.heap [] 0 0 (MQ below (roQ (some (.int R))) ([.ref (ad 9 0), .ref (ad 10 0), .int mill] : List Value).toArray s 0 0 (fun _ => False)) (F0 m 184 ls []) := by
                        intro n_184
                        induction n_184 with
                        | zero =>
                          intro x13_184 x12_184 x11_184 hn_184 hR ls hl
                          rw [mL_areHours_184] at hR
                          refine lv_iload hx hb dL_areHours_184 (lv_at hl 0 rfl) ?_
                          refine lv_iload hx hb dL_areHours_186 (lv_at hl 10 rfl) ?_
                          refine lv_icmp_ge (tgt := 271) hx hb dL_areHours_188 (by decide) (fun c_44 => ?_) (fun c_44 => (tr0 hn_184 c_44).elim)
                          refine lv_aload_n hx hb dL_areHours_271 rfl (lv_at hl 11 rfl) ?_
                          refine lv_iload hx hb dL_areHours_272 (lv_at hl 8 rfl) ?_
                          refine ro_V (v := .int (mX5_loudest (xx 0) x8_27)) (rest := []) (As := [.int x8_27]) hx hb hml hown hts hl (MX5_loudest l D q ad (xx 9 0 0) (xx 0) x8_27) gL_areHours_X5_loudest rfl kX5_loudest ⟨Nat.le_of_ble_eq_true rfl, Nat.le_of_ble_eq_true rfl⟩ rfl rfl (hP.sub (ws' := (wXN q ad (xx 9 0 0) (xx 0))) [0, 1, 2, 3, 4, 5, 6, 7, 8, 9, 10] rfl) (dT (hD.sub (ws' := (wXN q ad (xx 9 0 0) (xx 0))) [0, 1, 2, 3, 4, 5, 6, 7, 8, 9, 10] (by decide) rfl)) hG (ci := 3) rfl rfl rfl rfl (Nat.le_of_ble_eq_true rfl) dL_areHours_274 ⟨Nat.zero_le _, Nat.zero_le _⟩ ?_
                          obtain ⟨r_45, er_45⟩ : ∃ z, z = (mX5_loudest (xx 0) x8_27) := ⟨_, rfl⟩
                          rw [← er_45]
                          replace hR := lt_e hR er_45
                          refine lv_iload hx hb dL_areHours_277 (lv_at hl 2 rfl) ?_
                          refine lv_icmp_eq (tgt := 284) hx hb dL_areHours_279 (by decide) (fun c_46 => ?_) (fun c_46 => ?_)
                          · rw [if_pos c_46] at hR
                            have tc_46 : r_45.toInt = x11_184.toInt := i_eq.mp c_46
                            refine lv_iinc (v := (x8_27 + 1)) (lv' := [(8, .int (x8_27 + 1)), (13, .int x13_184), (12, .int x12_184), (11, .int x11_184), (5, .int y172_s0_43), (4, .int y156_s0_42), (10, .int y117_s0_41), (3, .int e_39), (9, .int r_8), (7, .int r_2), (6, .int r_1), (0, .ref (ad 9 0)), (1, .ref (ad 10 0)), (2, .int mill)]) hx hb dL_areHours_284 hl (k := 8) rfl rfl (by decide) rfl (fun ls hl => ?_)
                            refine lv_goto (tgt := 27) hx hb dL_areHours_287 (by decide) ?_
                            exact ih_27 (x8_27 + 1) y172_s0_43 y156_s0_42 e_39 (trN hn_27) (k_up hk_27 c_3) (by omega) hR ls (lv_sub hl [0, 9, 10, 4, 5, 7, 11, 12, 13] rfl)
                          · rw [if_neg c_46] at hR
                            have tc_46 : ¬ r_45.toInt = x11_184.toInt := fun z => c_46 (i_eq.mpr z)
                            refine lv_iconst (v := 0) hx hb dL_areHours_282 (by decide) ?_
                            exact ro_zret hx hb hr hk (Or.inl rfl) hR dL_areHours_283
                        | succ n_184 ih_184 =>
                          intro x13_184 x12_184 x11_184 hn_184 hR ls hl
                          rw [mL_areHours_184] at hR
                          refine lv_iload hx hb dL_areHours_184 (lv_at hl 0 rfl) ?_
                          refine lv_iload hx hb dL_areHours_186 (lv_at hl 10 rfl) ?_
                          refine lv_icmp_ge (tgt := 271) hx hb dL_areHours_188 (by decide) (fun c_44 => (trS hn_184 c_44).elim) (fun c_44 => ?_)
                          refine lv_iconst (v := 0) hx hb dL_areHours_191 (by decide) ?_
                          refine lv_istore (lv' := [(14, .int 0), (13, .int x13_184), (12, .int x12_184), (11, .int x11_184), (5, .int y172_s0_43), (4, .int y156_s0_42), (10, .int y117_s0_41), (3, .int e_39), (9, .int r_8), (8, .int x8_27), (7, .int r_2), (6, .int r_1), (0, .ref (ad 9 0)), (1, .ref (ad 10 0)), (2, .int mill)]) hx hb dL_areHours_192 hl (by decide) rfl (fun ls hl => ?_)
                          refine lv_iconst (v := 0) hx hb dL_areHours_194 (by decide) ?_
                          refine lv_istore (lv' := [(15, .int 0), (14, .int 0), (13, .int x13_184), (12, .int x12_184), (11, .int x11_184), (5, .int y172_s0_43), (4, .int y156_s0_42), (10, .int y117_s0_41), (3, .int e_39), (9, .int r_8), (8, .int x8_27), (7, .int r_2), (6, .int r_1), (0, .ref (ad 9 0)), (1, .ref (ad 10 0)), (2, .int mill)]) hx hb dL_areHours_195 hl (by decide) rfl (fun ls hl => ?_)
                          have key_197 : ∀ (n_197 : Nat) (x15_197 : Int32) (x14_197 : Int32), tr x15_197 (mX5_count xx 0) = n_197 → mL_areHours_197 xx x8_27 x13_184 (fun x15_197 x14_197 => (lt ((if x14_197 ≤ x12_184 then x11_184 else x13_184) : Int32) (fun y247_s0_48 => (lt ((if x14_197 ≤ x12_184 then x12_184 else x14_197) : Int32) (fun y263_s0_49 => (mL_areHours_184 xx x8_27 (fun x13_184 x12_184 x11_184 => (lt (mX5_loudest (xx 0) x8_27) (fun r_45 => (if r_45 = x11_184 then (mL_areHours_27 xx mill r_1 r_2 (fun x8_27 x5_27 x4_27 x3_27 => (lt (mX5_quietHours (xx 0) mill) (fun r_4 => (if r_4 = x3_27 then (lt (mX5_bestTied (xx 0) mill) (fun r_6 => (if r_6 = x4_27 then 1 else 0))) else 0)))) n_27 (x8_27 + 1) y172_s0_43 y156_s0_42 e_39) else 0)))) n_184 (x13_184 + 1) y263_s0_49 y247_s0_48)))))) n_197 x15_197 x14_197 = R → ∀ ls : Array Slot, lv_has ls 16 [(15, .int x15_197), (14, .int x14_197), (13, .int x13_184), (12, .int x12_184), (11, .int x11_184), (5, .int y172_s0_43), (4, .int y156_s0_42), (10, .int y117_s0_41), (3, .int e_39), (9, .int r_8), (8, .int x8_27), (7, .int r_2), (6, .int r_1), (0, .ref (ad 9 0)), (1, .ref (ad 10 0)), (2, .int mill)] → W p l e ({ frames := 7, cells := 0, slots := 0, locals := 165 } : Room) s m ([.ref (ad 9 0), .ref (ad 10 0), .int mill] : List Value).toArray below meth c s.heap [] 0 0 (MQ below (roQ (some (.int R))) ([.ref (ad 9 0), .ref (ad 10 0), .int mill] : List Value).toArray s 0 0 (fun _ => False)) (F0 m 197 ls []) := by
                            intro n_197
                            induction n_197 with
                            | zero =>
                              intro x15_197 x14_197 hn_197 hR ls hl
                              rw [mL_areHours_197] at hR
                              refine lv_iload hx hb dL_areHours_197 (lv_at hl 0 rfl) ?_
                              refine lv_aload_n hx hb dL_areHours_199 rfl (lv_at hl 13 rfl) ?_
                              refine lv_iconst (v := 0) hx hb dL_areHours_200 (by decide) ?_
                              refine ro_V (v := .int (mX5_count xx 0)) (rest := [.int x15_197]) (As := [.int 0]) hx hb hml hown hts hl (MX5_count l D q ad xx 0) gL_areHours_X5_count rfl kX5_count ⟨Nat.le_of_ble_eq_true rfl, Nat.le_of_ble_eq_true rfl⟩ rfl rfl (hP.sub (ws' := (wX q ad xx)) [0, 1, 2, 3, 4, 5, 6, 7, 8, 9, 10, 11, 12, 13, 14, 15, 16, 17, 18, 19, 20, 21, 22, 23, 24, 25, 26, 27, 28, 29, 30, 31, 32, 33, 34, 35, 36, 37, 38, 39, 40, 41, 42, 43, 44, 45, 46, 47, 48, 49, 50, 51, 52, 53, 54, 55, 56, 57, 58, 59, 60, 61, 62, 63, 64, 65, 66, 67, 68, 69, 70, 71, 72, 73, 74] rfl) (dT (hD.sub (ws' := (wX q ad xx)) [0, 1, 2, 3, 4, 5, 6, 7, 8, 9, 10, 11, 12, 13, 14, 15, 16, 17, 18, 19, 20, 21, 22, 23, 24, 25, 26, 27, 28, 29, 30, 31, 32, 33, 34, 35, 36, 37, 38, 39, 40, 41, 42, 43, 44, 45, 46, 47, 48, 49, 50, 51, 52, 53, 54, 55, 56, 57, 58, 59, 60, 61, 62, 63, 64, 65, 66, 67, 68, 69, 70, 71, 72, 73, 74] (by decide) rfl)) hG (ci := 3) rfl rfl rfl rfl (Nat.le_of_ble_eq_true rfl) dL_areHours_201 ⟨Nat.zero_le _, Nat.zero_le _⟩ ?_
                              refine lv_icmp_ge (tgt := 233) hx hb dL_areHours_204 (by decide) (fun c_47 => ?_) (fun c_47 => (tr0 hn_197 c_47).elim)
                              refine lv_iload hx hb dL_areHours_233 (lv_at hl 1 rfl) ?_
                              refine lv_iload hx hb dL_areHours_235 (lv_at hl 3 rfl) ?_
                              refine jn_1 hR (fun F_247_48 eF_247_48 hR => ?_)
                              have key_247_48 : ∀ (y247_s0_48 : Int32), lt y247_s0_48 F_247_48 = R → ∀ ls : Array Slot, lv_has ls 16 [(15, .int x15_197), (14, .int x14_197), (13, .int x13_184), (12, .int x12_184), (11, .int x11_184), (5, .int y172_s0_43), (4, .int y156_s0_42), (10, .int y117_s0_41), (3, .int e_39), (9, .int r_8), (8, .int x8_27), (7, .int r_2), (6, .int r_1), (0, .ref (ad 9 0)), (1, .ref (ad 10 0)), (2, .int mill)] → W p l e ({ frames := 7, cells := 0, slots := 0, locals := 165 } : Room) s m ([.ref (ad 9 0), .ref (ad 10 0), .int mill] : List Value).toArray below meth c s.heap [] 0 0 (MQ below (roQ (some (.int R))) ([.ref (ad 9 0), .ref (ad 10 0), .int mill] : List Value).toArray s 0 0 (fun _ => False)) (F0 m 247 ls [.int y247_s0_48]) := by
                                intro y247_s0_48 hR ls hl
                                rw [eF_247_48] at hR
                                replace hR := jn_e1 hR
                                refine lv_istore (lv' := [(11, .int y247_s0_48), (15, .int x15_197), (14, .int x14_197), (13, .int x13_184), (12, .int x12_184), (5, .int y172_s0_43), (4, .int y156_s0_42), (10, .int y117_s0_41), (3, .int e_39), (9, .int r_8), (8, .int x8_27), (7, .int r_2), (6, .int r_1), (0, .ref (ad 9 0)), (1, .ref (ad 10 0)), (2, .int mill)]) hx hb dL_areHours_247 hl (by decide) rfl (fun ls hl => ?_)
                                refine lv_iload hx hb dL_areHours_249 (lv_at hl 2 rfl) ?_
                                refine lv_iload hx hb dL_areHours_251 (lv_at hl 4 rfl) ?_
                                refine jn_1 hR (fun F_263_49 eF_263_49 hR => ?_)
                                have key_263_49 : ∀ (y263_s0_49 : Int32), lt y263_s0_49 F_263_49 = R → ∀ ls : Array Slot, lv_has ls 16 [(11, .int y247_s0_48), (15, .int x15_197), (14, .int x14_197), (13, .int x13_184), (12, .int x12_184), (5, .int y172_s0_43), (4, .int y156_s0_42), (10, .int y117_s0_41), (3, .int e_39), (9, .int r_8), (8, .int x8_27), (7, .int r_2), (6, .int r_1), (0, .ref (ad 9 0)), (1, .ref (ad 10 0)), (2, .int mill)] → W p l e ({ frames := 7, cells := 0, slots := 0, locals := 165 } : Room) s m ([.ref (ad 9 0), .ref (ad 10 0), .int mill] : List Value).toArray below meth c s.heap [] 0 0 (MQ below (roQ (some (.int R))) ([.ref (ad 9 0), .ref (ad 10 0), .int mill] : List Value).toArray s 0 0 (fun _ => False)) (F0 m 263 ls [.int y263_s0_49]) := by
                                  intro y263_s0_49 hR ls hl
                                  rw [eF_263_49] at hR
                                  replace hR := jn_e1 hR
                                  refine lv_istore (lv' := [(12, .int y263_s0_49), (11, .int y247_s0_48), (15, .int x15_197), (14, .int x14_197), (13, .int x13_184), (5, .int y172_s0_43), (4, .int y156_s0_42), (10, .int y117_s0_41), (3, .int e_39), (9, .int r_8), (8, .int x8_27), (7, .int r_2), (6, .int r_1), (0, .ref (ad 9 0)), (1, .ref (ad 10 0)), (2, .int mill)]) hx hb dL_areHours_263 hl (by decide) rfl (fun ls hl => ?_)
                                  refine lv_iinc (v := (x13_184 + 1)) (lv' := [(13, .int (x13_184 + 1)), (12, .int y263_s0_49), (11, .int y247_s0_48), (15, .int x15_197), (14, .int x14_197), (5, .int y172_s0_43), (4, .int y156_s0_42), (10, .int y117_s0_41), (3, .int e_39), (9, .int r_8), (8, .int x8_27), (7, .int r_2), (6, .int r_1), (0, .ref (ad 9 0)), (1, .ref (ad 10 0)), (2, .int mill)]) hx hb dL_areHours_265 hl (k := 4) rfl rfl (by decide) rfl (fun ls hl => ?_)
                                  refine lv_goto (tgt := 184) hx hb dL_areHours_268 (by decide) ?_
                                  exact ih_184 (x13_184 + 1) y263_s0_49 y247_s0_48 (trN hn_184) hR ls (lv_sub hl [0, 1, 2, 5, 6, 7, 8, 9, 10, 11, 12, 13, 14, 15] rfl)
                                refine lv_icmp_le (tgt := 261) hx hb dL_areHours_253 (by decide) (fun c_50 => ?_) (fun c_50 => ?_)
                                · rw [if_pos c_50] at hR
                                  have tc_50 : x14_197.toInt ≤ x12_184.toInt := i_le.mp c_50
                                  refine lv_iload hx hb dL_areHours_261 (lv_at hl 4 rfl) ?_
                                  exact key_263_49 x12_184 hR ls (lv_sub hl [0, 1, 2, 3, 4, 5, 6, 7, 8, 9, 10, 11, 12, 13, 14, 15] rfl)
                                · rw [if_neg c_50] at hR
                                  have tc_50 : ¬ x14_197.toInt ≤ x12_184.toInt := fun z => c_50 (i_le.mpr z)
                                  refine lv_iload hx hb dL_areHours_256 (lv_at hl 2 rfl) ?_
                                  refine lv_goto (tgt := 263) hx hb dL_areHours_258 (by decide) ?_
                                  exact key_263_49 x14_197 hR ls (lv_sub hl [0, 1, 2, 3, 4, 5, 6, 7, 8, 9, 10, 11, 12, 13, 14, 15] rfl)
                              refine lv_icmp_le (tgt := 245) hx hb dL_areHours_237 (by decide) (fun c_51 => ?_) (fun c_51 => ?_)
                              · rw [if_pos c_51] at hR
                                have tc_51 : x14_197.toInt ≤ x12_184.toInt := i_le.mp c_51
                                refine lv_iload hx hb dL_areHours_245 (lv_at hl 4 rfl) ?_
                                exact key_247_48 x11_184 hR ls (lv_sub hl [0, 1, 2, 3, 4, 5, 6, 7, 8, 9, 10, 11, 12, 13, 14, 15] rfl)
                              · rw [if_neg c_51] at hR
                                have tc_51 : ¬ x14_197.toInt ≤ x12_184.toInt := fun z => c_51 (i_le.mpr z)
                                refine lv_iload hx hb dL_areHours_240 (lv_at hl 2 rfl) ?_
                                refine lv_goto (tgt := 247) hx hb dL_areHours_242 (by decide) ?_
                                exact key_247_48 x13_184 hR ls (lv_sub hl [0, 1, 2, 3, 4, 5, 6, 7, 8, 9, 10, 11, 12, 13, 14, 15] rfl)
                            | succ n_197 ih_197 =>
                              intro x15_197 x14_197 hn_197 hR ls hl
                              rw [mL_areHours_197] at hR
                              refine lv_iload hx hb dL_areHours_197 (lv_at hl 0 rfl) ?_
                              refine lv_aload_n hx hb dL_areHours_199 rfl (lv_at hl 13 rfl) ?_
                              refine lv_iconst (v := 0) hx hb dL_areHours_200 (by decide) ?_
                              refine ro_V (v := .int (mX5_count xx 0)) (rest := [.int x15_197]) (As := [.int 0]) hx hb hml hown hts hl (MX5_count l D q ad xx 0) gL_areHours_X5_count rfl kX5_count ⟨Nat.le_of_ble_eq_true rfl, Nat.le_of_ble_eq_true rfl⟩ rfl rfl (hP.sub (ws' := (wX q ad xx)) [0, 1, 2, 3, 4, 5, 6, 7, 8, 9, 10, 11, 12, 13, 14, 15, 16, 17, 18, 19, 20, 21, 22, 23, 24, 25, 26, 27, 28, 29, 30, 31, 32, 33, 34, 35, 36, 37, 38, 39, 40, 41, 42, 43, 44, 45, 46, 47, 48, 49, 50, 51, 52, 53, 54, 55, 56, 57, 58, 59, 60, 61, 62, 63, 64, 65, 66, 67, 68, 69, 70, 71, 72, 73, 74] rfl) (dT (hD.sub (ws' := (wX q ad xx)) [0, 1, 2, 3, 4, 5, 6, 7, 8, 9, 10, 11, 12, 13, 14, 15, 16, 17, 18, 19, 20, 21, 22, 23, 24, 25, 26, 27, 28, 29, 30, 31, 32, 33, 34, 35, 36, 37, 38, 39, 40, 41, 42, 43, 44, 45, 46, 47, 48, 49, 50, 51, 52, 53, 54, 55, 56, 57, 58, 59, 60, 61, 62, 63, 64, 65, 66, 67, 68, 69, 70, 71, 72, 73, 74] (by decide) rfl)) hG (ci := 3) rfl rfl rfl rfl (Nat.le_of_ble_eq_true rfl) dL_areHours_201 ⟨Nat.zero_le _, Nat.zero_le _⟩ ?_
                              refine lv_icmp_ge (tgt := 233) hx hb dL_areHours_204 (by decide) (fun c_47 => (trS hn_197 c_47).elim) (fun c_47 => ?_)
                              refine lv_iload hx hb dL_areHours_207 (lv_at hl 1 rfl) ?_
                              refine lv_aload_n hx hb dL_areHours_209 rfl (lv_at hl 13 rfl) ?_
                              refine lv_iload hx hb dL_areHours_210 (lv_at hl 0 rfl) ?_
                              refine lv_aload_n hx hb dL_areHours_212 rfl (lv_at hl 13 rfl) ?_
                              refine lv_iload hx hb dL_areHours_213 (lv_at hl 2 rfl) ?_
                              refine lv_iconst (v := 0) hx hb dL_areHours_215 (by decide) ?_
                              refine ro_V (v := .int (mX5_houseOf (xx 0) x13_184 0)) (rest := [.int x15_197, .ref (ad 9 0), .int x14_197]) (As := [.int x13_184, .int 0]) hx hb hml hown hts hl (MX5_houseOf l D q ad (xx 9 0 0) (xx 0) x13_184 0) gL_areHours_X5_houseOf rfl kX5_houseOf ⟨Nat.le_of_ble_eq_true rfl, Nat.le_of_ble_eq_true rfl⟩ rfl rfl (hP.sub (ws' := (wXN q ad (xx 9 0 0) (xx 0))) [0, 1, 2, 3, 4, 5, 6, 7, 8, 9, 10] rfl) (dT (hD.sub (ws' := (wXN q ad (xx 9 0 0) (xx 0))) [0, 1, 2, 3, 4, 5, 6, 7, 8, 9, 10] (by decide) rfl)) hG (ci := 3) rfl rfl rfl rfl (Nat.le_of_ble_eq_true rfl) dL_areHours_216 ⟨Nat.zero_le _, Nat.zero_le _⟩ ?_
                              obtain ⟨r_52, er_52⟩ : ∃ z, z = (mX5_houseOf (xx 0) x13_184 0) := ⟨_, rfl⟩
                              rw [← er_52]
                              replace hR := lt_e hR er_52
                              refine lv_iload hx hb dL_areHours_219 (lv_at hl 10 rfl) ?_
                              refine ro_V (v := .int (mX5_noise (xx 0) x15_197 r_52 x8_27)) (rest := [.int x14_197]) (As := [.int x15_197, .int r_52, .int x8_27]) hx hb hml hown hts hl (MX5_noise l D q ad (xx 9 0 0) (xx 0) x15_197 r_52 x8_27) gL_areHours_X5_noise rfl kX5_noise ⟨Nat.le_of_ble_eq_true rfl, Nat.le_of_ble_eq_true rfl⟩ rfl rfl (hP.sub (ws' := (wXN q ad (xx 9 0 0) (xx 0))) [0, 1, 2, 3, 4, 5, 6, 7, 8, 9, 10] rfl) (dT (hD.sub (ws' := (wXN q ad (xx 9 0 0) (xx 0))) [0, 1, 2, 3, 4, 5, 6, 7, 8, 9, 10] (by decide) rfl)) hG (ci := 3) rfl rfl rfl rfl (Nat.le_of_ble_eq_true rfl) dL_areHours_221 ⟨Nat.zero_le _, Nat.zero_le _⟩ ?_
                              obtain ⟨r_53, er_53⟩ : ∃ z, z = (mX5_noise (xx 0) x15_197 r_52 x8_27) := ⟨_, rfl⟩
                              rw [← er_53]
                              replace hR := lt_e hR er_53
                              refine lv_iadd hx hb dL_areHours_224 ?_
                              obtain ⟨e_54, ee_54⟩ : ∃ z, z = (x14_197 + r_53) := ⟨_, rfl⟩
                              rw [← ee_54]
                              replace hR := lt_e hR ee_54
                              refine lv_istore (lv' := [(14, .int e_54), (15, .int x15_197), (13, .int x13_184), (12, .int x12_184), (11, .int x11_184), (5, .int y172_s0_43), (4, .int y156_s0_42), (10, .int y117_s0_41), (3, .int e_39), (9, .int r_8), (8, .int x8_27), (7, .int r_2), (6, .int r_1), (0, .ref (ad 9 0)), (1, .ref (ad 10 0)), (2, .int mill)]) hx hb dL_areHours_225 hl (by decide) rfl (fun ls hl => ?_)
                              refine lv_iinc (v := (x15_197 + 1)) (lv' := [(15, .int (x15_197 + 1)), (14, .int e_54), (13, .int x13_184), (12, .int x12_184), (11, .int x11_184), (5, .int y172_s0_43), (4, .int y156_s0_42), (10, .int y117_s0_41), (3, .int e_39), (9, .int r_8), (8, .int x8_27), (7, .int r_2), (6, .int r_1), (0, .ref (ad 9 0)), (1, .ref (ad 10 0)), (2, .int mill)]) hx hb dL_areHours_227 hl (k := 1) rfl rfl (by decide) rfl (fun ls hl => ?_)
                              refine lv_goto (tgt := 197) hx hb dL_areHours_230 (by decide) ?_
                              exact ih_197 (x15_197 + 1) e_54 (trN hn_197) hR ls (lv_sub hl [0, 1, 2, 3, 4, 5, 6, 7, 8, 9, 10, 11, 12, 13, 14, 15] rfl)
                          exact key_197 _ 0 0 rfl hR ls hl
                      exact key_184 _ 0 0 (-5) rfl hR ls hl
                    refine lv_icmp_le (tgt := 170) hx hb dL_areHours_162 (by decide) (fun c_55 => ?_) (fun c_55 => ?_)
                    · rw [if_pos c_55] at hR
                      have tc_55 : y117_s0_41.toInt ≤ x5_27.toInt := i_le.mp c_55
                      refine lv_iload hx hb dL_areHours_170 (lv_at hl 7 rfl) ?_
                      exact key_172_43 x5_27 hR ls (lv_sub hl [0, 1, 2, 3, 4, 5, 6, 7, 8, 9, 10] rfl)
                    · rw [if_neg c_55] at hR
                      have tc_55 : ¬ y117_s0_41.toInt ≤ x5_27.toInt := fun z => c_55 (i_le.mpr z)
                      refine lv_iload hx hb dL_areHours_165 (lv_at hl 1 rfl) ?_
                      refine lv_goto (tgt := 172) hx hb dL_areHours_167 (by decide) ?_
                      exact key_172_43 y117_s0_41 hR ls (lv_sub hl [0, 1, 2, 3, 4, 5, 6, 7, 8, 9, 10] rfl)
                  refine lv_icmp_gt (tgt := 149) hx hb dL_areHours_123 (by decide) (fun c_56 => ?_) (fun c_56 => ?_)
                  · rw [if_pos c_56] at hR
                    have tc_56 : x5_27.toInt < y117_s0_41.toInt := i_lt.mp c_56
                    refine lv_iload hx hb dL_areHours_149 (lv_at hl 3 rfl) ?_
                    refine lv_goto (tgt := 156) hx hb dL_areHours_151 (by decide) ?_
                    exact key_156_42 x8_27 (by first | omega | decide) hR ls (lv_sub hl [0, 1, 2, 3, 4, 5, 6, 7, 8, 9, 10] rfl)
                  · rw [if_neg c_56] at hR
                    have tc_56 : ¬ x5_27.toInt < y117_s0_41.toInt := fun z => c_56 (i_lt.mpr z)
                    refine lv_iload hx hb dL_areHours_126 (lv_at hl 0 rfl) ?_
                    refine lv_iload hx hb dL_areHours_128 (lv_at hl 6 rfl) ?_
                    refine lv_icmp_ne (tgt := 154) hx hb dL_areHours_130 (by decide) (fun c_57 => ?_) (fun c_57 => ?_)
                    · rw [if_neg c_57] at hR
                      have tc_57 : ¬ y117_s0_41.toInt = x5_27.toInt := fun z => c_57 (i_eq.mpr z)
                      refine lv_iload hx hb dL_areHours_154 (lv_at hl 7 rfl) ?_
                      exact key_156_42 x4_27 (by first | omega | decide) hR ls (lv_sub hl [0, 1, 2, 3, 4, 5, 6, 7, 8, 9, 10] rfl)
                    · rw [if_pos c_57] at hR
                      have tc_57 : y117_s0_41.toInt = x5_27.toInt := i_eq.mp c_57
                      refine lv_iload hx hb dL_areHours_133 (lv_at hl 7 rfl) ?_
                      refine lv_if_lt (tgt := 154) hx hb dL_areHours_135 (by decide) (fun c_58 => ?_) (fun c_58 => ?_)
                      · rw [if_pos c_58] at hR
                        have tc_58 : x4_27.toInt < 0 := i_lt.mp c_58
                        refine lv_iload hx hb dL_areHours_154 (lv_at hl 7 rfl) ?_
                        exact key_156_42 x4_27 (by first | omega | decide) hR ls (lv_sub hl [0, 1, 2, 3, 4, 5, 6, 7, 8, 9, 10] rfl)
                      · rw [if_neg c_58] at hR
                        have tc_58 : ¬ x4_27.toInt < 0 := fun z => c_58 (i_lt.mpr z)
                        refine lv_aload_n hx hb dL_areHours_138 rfl (lv_at hl 9 rfl) ?_
                        refine lv_iload hx hb dL_areHours_139 (lv_at hl 3 rfl) ?_
                        refine va_iald hx hb hG.1 hP 75 0 rfl rfl (ix_t (i := x8_27) (x := (x8_27).toInt) (n := 24) rfl (by omega)) dL_areHours_141 ?_
                        refine lv_aload_n hx hb dL_areHours_142 rfl (lv_at hl 9 rfl) ?_
                        refine lv_iload hx hb dL_areHours_143 (lv_at hl 7 rfl) ?_
                        refine va_iald hx hb hG.1 hP 75 0 rfl rfl (ix_t (i := x4_27) (x := (x4_27).toInt) (n := 24) rfl (by omega)) dL_areHours_145 ?_
                        refine lv_icmp_ge (tgt := 154) hx hb dL_areHours_146 (by decide) (fun c_59 => ?_) (fun c_59 => ?_)
                        · rw [if_pos c_59] at hR
                          have tc_59 : ((xx 10 0) (x4_27).toNatClampNeg).toInt ≤ ((xx 10 0) (x8_27).toNatClampNeg).toInt := i_le.mp c_59
                          refine lv_iload hx hb dL_areHours_154 (lv_at hl 7 rfl) ?_
                          exact key_156_42 x4_27 (by first | omega | decide) hR ls (lv_sub hl [0, 1, 2, 3, 4, 5, 6, 7, 8, 9, 10] rfl)
                        · rw [if_neg c_59] at hR
                          have tc_59 : ¬ ((xx 10 0) (x4_27).toNatClampNeg).toInt ≤ ((xx 10 0) (x8_27).toNatClampNeg).toInt := fun z => c_59 (i_le.mpr z)
                          refine lv_iload hx hb dL_areHours_149 (lv_at hl 3 rfl) ?_
                          refine lv_goto (tgt := 156) hx hb dL_areHours_151 (by decide) ?_
                          exact key_156_42 x8_27 (by first | omega | decide) hR ls (lv_sub hl [0, 1, 2, 3, 4, 5, 6, 7, 8, 9, 10] rfl)
                refine lv_if_eq (tgt := 116) hx hb dL_areHours_105 (by decide) (fun c_60 => ?_) (fun c_60 => ?_)
                · rw [if_pos c_60] at hR
                  refine lv_iconst (v := 0) hx hb dL_areHours_116 (by decide) ?_
                  exact key_117_41 0 hR ls (lv_sub hl [0, 1, 2, 3, 4, 5, 6, 7, 8, 9] rfl)
                · rw [if_neg c_60] at hR
                  refine lv_iload hx hb dL_areHours_108 (lv_at hl 4 rfl) ?_
                  refine lv_iload hx hb dL_areHours_110 (lv_at hl 1 rfl) ?_
                  refine lv_isub hx hb dL_areHours_112 ?_
                  refine lv_goto (tgt := 117) hx hb dL_areHours_113 (by decide) ?_
                  exact key_117_41 (r_1 - r_8) hR ls (lv_sub hl [0, 1, 2, 3, 4, 5, 6, 7, 8, 9] rfl)
              refine lv_icmp_le (tgt := 95) hx hb dL_areHours_78 (by decide) (fun c_61 => ?_) (fun c_61 => ?_)
              · rw [if_pos c_61] at hR
                have tc_61 : ((xx 10 0) (x8_27).toNatClampNeg).toInt ≤ 1 := i_le.mp c_61
                refine lv_iconst (v := 0) hx hb dL_areHours_95 (by decide) ?_
                exact key_96_38 0 hR ls (lv_sub hl [0, 1, 2, 3, 4, 5, 6, 7, 8, 9] rfl)
              · rw [if_neg c_61] at hR
                have tc_61 : ¬ ((xx 10 0) (x8_27).toNatClampNeg).toInt ≤ 1 := fun z => c_61 (i_le.mpr z)
                refine lv_iload hx hb dL_areHours_81 (lv_at hl 0 rfl) ?_
                refine lv_iload hx hb dL_areHours_83 (lv_at hl 3 rfl) ?_
                refine lv_icmp_ne (tgt := 95) hx hb dL_areHours_85 (by decide) (fun c_62 => ?_) (fun c_62 => ?_)
                · rw [if_neg c_62] at hR
                  have tc_62 : ¬ r_8.toInt = r_1.toInt := fun z => c_62 (i_eq.mpr z)
                  refine lv_iconst (v := 0) hx hb dL_areHours_95 (by decide) ?_
                  exact key_96_38 0 hR ls (lv_sub hl [0, 1, 2, 3, 4, 5, 6, 7, 8, 9] rfl)
                · rw [if_pos c_62] at hR
                  have tc_62 : r_8.toInt = r_1.toInt := i_eq.mp c_62
                  refine lv_iconst (v := 1) hx hb dL_areHours_88 (by decide) ?_
                  refine lv_iload hx hb dL_areHours_89 (lv_at hl 1 rfl) ?_
                  refine lv_ishl hx hb dL_areHours_91 ?_
                  refine lv_goto (tgt := 96) hx hb dL_areHours_92 (by decide) ?_
                  exact key_96_38 (1 <<< (x8_27 &&& 31)) hR ls (lv_sub hl [0, 1, 2, 3, 4, 5, 6, 7, 8, 9] rfl)
            · rw [if_neg c_37] at hR
              have tc_37 : ¬ r_8.toInt = r_1.toInt := fun z => c_37 (i_eq.mpr z)
              refine lv_iconst (v := 0) hx hb dL_areHours_70 (by decide) ?_
              exact ro_zret hx hb hr hk (Or.inl rfl) hR dL_areHours_71
  exact key_27 _ 0 0 (-5) 0 rfl (by decide) (Or.inl rfl) hR ls hl
