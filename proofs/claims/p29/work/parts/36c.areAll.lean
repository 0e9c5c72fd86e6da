def mL_areAll_123 (xx : Nat → Nat → Nat → Int32) (C : Int32 → Int32 → Int32) : Nat → Int32 → Int32 → Int32
  | 0, x7_123, x5_123 => C x7_123 x5_123
  | n_123 + 1, x7_123, x5_123 => (if 10 ≤ x7_123 then (C x7_123 x5_123) else (lt (mX5_houseOf (xx 0) x7_123 3) (fun r_23 => (lt (x5_123 + r_23) (fun e_24 => (mL_areAll_123 xx C n_123 (x7_123 + 1) e_24))))))
def mL_areAll_57 (xx : Nat → Nat → Nat → Int32) (x7_16 : Int32) (C : Int32 → Int32 → Int32 → Int32) : Nat → Int32 → Int32 → Int32 → Int32
  | 0, x8_57, x6_57, x3_57 => C x8_57 x6_57 x3_57
  | n_57 + 1, x8_57, x6_57, x3_57 => (lt (mX5_millOf (xx 0) x7_16 2) (fun r_31 => (lt (mL_has r_31 x8_57) (fun r_32 => (lt ((if r_32 = 0 then 0 else 1) : Int32) (fun y85_s0_33 => (lt (x3_57 + y85_s0_33) (fun e_34 => (lt ((if ((xx 10 0) (x8_57).toNatClampNeg) ≤ 1 then 0 else ((xx 10 0) (x8_57).toNatClampNeg)) : Int32) (fun y105_s0_35 => (lt (x6_57 + y105_s0_35) (fun e_36 => (mL_areAll_57 xx x7_16 C n_57 (x8_57 + 1) e_36 e_34)))))))))))))
def mL_areAll_16 (xx : Nat → Nat → Nat → Int32) (C : Int32 → Int32 → Int32 → Int32 → Int32 → Int32) : Nat → Int32 → Int32 → Int32 → Int32 → Int32 → Int32
  | 0, x7_16, x6_16, x4_16, x3_16, x2_16 => C x7_16 x6_16 x4_16 x3_16 x2_16
  | n_16 + 1, x7_16, x6_16, x4_16, x3_16, x2_16 => (if 4 ≤ x7_16 then (C x7_16 x6_16 x4_16 x3_16 x2_16) else (lt (mX5_millOf (xx 0) x7_16 5) (fun r_26 => (lt (x2_16 + r_26) (fun e_27 => (lt (mX5_millOf (xx 0) x7_16 4) (fun r_28 => (lt (x4_16 + r_28) (fun e_29 => (mL_areAll_57 xx x7_16 (fun x8_57 x6_57 x3_57 => (mL_areAll_16 xx C n_16 (x7_16 + 1) x6_57 e_29 x3_57 e_27)) (tr 0 24) 0 x6_16 x3_16))))))))))
def mL_areAll (xx : Nat → Nat → Nat → Int32) : Int32 := (mL_areAll_16 xx (fun x7_16 x6_16 x4_16 x3_16 x2_16 => (mL_areAll_123 xx (fun x7_123 x5_123 => (if x2_16 = x5_123 then (lt (mX5_count xx 2) (fun r_4 => (if r_4 < x5_123 then 0 else (lt (mX5_count xx 8) (fun r_6 => (if r_6 = x3_16 then (lt (mX5_count xx 9) (fun r_8 => (if r_8 = x4_16 then (lt (mX5_count xx 5) (fun r_10 => (lt (mX5_count xx 4) (fun r_11 => (if r_11 < r_10 then 0 else (lt (mX5_count xx 7) (fun r_13 => (lt (mX5_count xx 6) (fun r_14 => (if r_14 < r_13 then 0 else (lt ((if x6_16 = 0 then FP.fconst1 else (FP.fdiv (FP.i2f x4_16) (FP.i2f x6_16))) : UInt32) (fun y243_s0_16 => (if (Op.cmpValue (FP.fcmp (mX5_ground (xx 0)) y243_s0_16) .l) = 0 then (lt (mX5_count xx 0) (fun r_18 => (lt (mX5_millOf (xx 0) r_18 0) (fun r_19 => (if r_19 = (-1) then 1 else 0))))) else 0))))))))))))) else 0))) else 0)))))) else 0)) (tr 0 (mX5_count xx 1)) 0 0)) (tr 0 (mX5_count xx 0)) 0 0 0 0 0)
theorem kL_areAll : yL_areAll.cls ≠ "java/lang/invoke/MethodHandle" ∧ yL_areAll.cls ≠ "java/lang/invoke/VarHandle" ∧ (parseMethodDescriptor yL_areAll.desc).map (fun d => d.parameters.length) = some 2 := by decide +kernel
set_option maxHeartbeats 4000000 in
set_option maxRecDepth 100000 in
theorem ML_areAll (l : Launch) (D : va_G) (q : Nat → ClassId) (ad : Nat → Nat → Nat) (xx : Nat → Nat → Nat → Int32)   : roM l D (tyq q) yL_areAll wsL_areAll ({ frames := 7, cells := 0, slots := 0, locals := 152 } : Room) [.ref (ad 9 0), .ref (ad 10 0)] (wXW q ad xx) (some (.int (mL_areAll xx))) := by
  obtain ⟨R, hR⟩ : ∃ z, (mL_areAll xx) = z := ⟨_, rfl⟩
  rw [hR]
  unfold mL_areAll at hR
  refine roM.of (cc := cL_areAll) (maxL := 9) (ret := (some .boolean)) (by decide) rfl (Nat.le_of_ble_eq_true rfl) ?_
  intro p e s m below meth c ls hx hb hr hk hml hown hts hP hD hG hl
  have hl : lv_has ls 9 [(0, .ref (ad 9 0)), (1, .ref (ad 10 0))] := hl
  refine lv_iconst (v := 0) hx hb dL_areAll_0 (by decide) ?_
  refine lv_istore_n (lv' := [(2, .int 0), (0, .ref (ad 9 0)), (1, .ref (ad 10 0))]) hx hb dL_areAll_1 rfl hl (by decide) rfl (fun ls hl => ?_)
  refine lv_iconst (v := 0) hx hb dL_areAll_2 (by decide) ?_
  refine lv_istore_n (lv' := [(3, .int 0), (2, .int 0), (0, .ref (ad 9 0)), (1, .ref (ad 10 0))]) hx hb dL_areAll_3 rfl hl (by decide) rfl (fun ls hl => ?_)
  refine lv_iconst (v := 0) hx hb dL_areAll_4 (by decide) ?_
  refine lv_istore (lv' := [(4, .int 0), (3, .int 0), (2, .int 0), (0, .ref (ad 9 0)), (1, .ref (ad 10 0))]) hx hb dL_areAll_5 hl (by decide) rfl (fun ls hl => ?_)
  refine lv_iconst (v := 0) hx hb dL_areAll_7 (by decide) ?_
  refine lv_istore (lv' := [(5, .int 0), (4, .int 0), (3, .int 0), (2, .int 0), (0, .ref (ad 9 0)), (1, .ref (ad 10 0))]) hx hb dL_areAll_8 hl (by decide) rfl (fun ls hl => ?_)
  refine lv_iconst (v := 0) hx hb dL_areAll_10 (by decide) ?_
  refine lv_istore (lv' := [(6, .int 0), (5, .int 0), (4, .int 0), (3, .int 0), (2, .int 0), (0, .ref (ad 9 0)), (1, .ref (ad 10 0))]) hx hb dL_areAll_11 hl (by decide) rfl (fun ls hl => ?_)
  refine lv_iconst (v := 0) hx hb dL_areAll_13 (by decide) ?_
  refine lv_istore (lv' := [(7, .int 0), (6, .int 0), (5, .int 0), (4, .int 0), (3, .int 0), (2, .int 0), (0, .ref (ad 9 0)), (1, .ref (ad 10 0))]) hx hb dL_areAll_14 hl (by decide) rfl (fun ls hl => ?_)
  obtain ⟨C_16, eC_16⟩ : ∃ z : Int32 → Int32 → Int32 → Int32 → Int32 → Int32, z = (fun x7_16 x6_16 x4_16 x3_16 x2_16 => (mL_areAll_123 xx (fun x7_123 x5_123 => (if x2_16 = x5_123 then (lt (mX5_count xx 2) (fun r_4 => (if r_4 < x5_123 then 0 else (lt (mX5_count xx 8) (fun r_6 => (if r_6 = x3_16 then (lt (mX5_count xx 9) (fun r_8 => (if r_8 = x4_16 then (lt (mX5_count xx 5) (fun r_10 => (lt (mX5_count xx 4) (fun r_11 => (if r_11 < r_10 then 0 else (lt (mX5_count xx 7) (fun r_13 => (lt (mX5_count xx 6) (fun r_14 => (if r_14 < r_13 then 0 else (lt ((if x6_16 = 0 then FP.fconst1 else (FP.fdiv (FP.i2f x4_16) (FP.i2f x6_16))) : UInt32) (fun y243_s0_16 => (if (Op.cmpValue (FP.fcmp (mX5_ground (xx 0)) y243_s0_16) .l) = 0 then (lt (mX5_count xx 0) (fun r_18 => (lt (mX5_millOf (xx 0) r_18 0) (fun r_19 => (if r_19 = (-1) then 1 else 0))))) else 0))))))))))))) else 0))) else 0)))))) else 0)) (tr 0 (mX5_count xx 1)) 0 0)) := ⟨_, rfl⟩
  replace hR : mL_areAll_16 xx C_16 (tr 0 (mX5_count xx 0)) 0 0 0 0 0 = R := by rw [eC_16]; exact hR
  have kx_16 : ∀ (x7_16 : Int32) (x6_16 : Int32) (x4_16 : Int32) (x3_16 : Int32) (x2_16 : Int32), C_16 x7_16 x6_16 x4_16 x3_16 x2_16 = R → ∀ ls : Array Slot, lv_has ls 9 [(7, .int x7_16), (6, .int x6_16), (5, .int 0), (4, .int x4_16), (3, .int x3_16), (2, .int x2_16), (0, .ref (ad 9 0)), (1, .ref (ad 10 0))] → W p l e ({ frames := 7, cells := 0, slots := 0, locals := 152 } : Room) s m ([.ref (ad 9 0), .ref (ad 10 0)] : List Value).toArray below meth c s.heap [] 0 0 (MQ below (roQ (some (.int R))) ([.ref (ad 9 0), .ref (ad 10 0)] : List Value).toArray s 0 0 (fun _ => False)) (F0 m 120 ls []) := by
    intro x7_16 x6_16 x4_16 x3_16 x2_16 hR ls hl
    replace hR := cx_5 eC_16 hR
    refine lv_iconst (v := 0) hx hb dL_areAll_120 (by decide) ?_
    refine lv_istore (lv' := [(7, .int 0), (6, .int x6_16), (5, .int 0), (4, .int x4_16), (3, .int x3_16), (2, .int x2_16), (0, .ref (ad 9 0)), (1, .ref (ad 10 0))]) hx hb dL_areAll_121 hl (by decide) rfl (fun ls hl => ?_)
    obtain ⟨C_123, eC_123⟩ : ∃ z : Int32 → Int32 → Int32, z = (fun x7_123 x5_123 => (if x2_16 = x5_123 then (lt (mX5_count xx 2) (fun r_4 => (if r_4 < x5_123 then 0 else (lt (mX5_count xx 8) (fun r_6 => (if r_6 = x3_16 then (lt (mX5_count xx 9) (fun r_8 => (if r_8 = x4_16 then (lt (mX5_count xx 5) (fun r_10 => (lt (mX5_count xx 4) (fun r_11 => (if r_11 < r_10 then 0 else (lt (mX5_count xx 7) (fun r_13 => (lt (mX5_count xx 6) (fun r_14 => (if r_14 < r_13 then 0 else (lt ((if x6_16 = 0 then FP.fconst1 else (FP.fdiv (FP.i2f x4_16) (FP.i2f x6_16))) : UInt32) (fun y243_s0_16 => (if (Op.cmpValue (FP.fcmp (mX5_ground (xx 0)) y243_s0_16) .l) = 0 then (lt (mX5_count xx 0) (fun r_18 => (lt (mX5_millOf (xx 0) r_18 0) (fun r_19 => (if r_19 = (-1) then 1 else 0))))) else 0))))))))))))) else 0))) else 0)))))) else 0)) := ⟨_, rfl⟩
    replace hR : mL_areAll_123 xx C_123 (tr 0 (mX5_count xx 1)) 0 0 = R := by rw [eC_123]; exact hR
    have kx_123 : ∀ (x7_123 : Int32) (x5_123 : Int32), C_123 x7_123 x5_123 = R → ∀ ls : Array Slot, lv_has ls 9 [(7, .int x7_123), (6, .int x6_16), (5, .int x5_123), (4, .int x4_16), (3, .int x3_16), (2, .int x2_16), (0, .ref (ad 9 0)), (1, .ref (ad 10 0))] → W p l e ({ frames := 7, cells := 0, slots := 0, locals := 152 } : Room) s m ([.ref (ad 9 0), .ref (ad 10 0)] : List Value).toArray below meth c s.heap [] 0 0 (MQ below (roQ (some (.int R))) ([.ref (ad 9 0), .ref (ad 10 0)] : List Value).toArray s 0 0 (fun _ => False)) (F0 m 158 ls []) := by
      intro x7_123 x5_123 hR ls hl
      replace hR := cx_2 eC_123 hR
      refine lv_iload_n hx hb dL_areAll_158 rfl (lv_at hl 5 rfl) ?_
      refine lv_iload hx hb dL_areAll_159 (lv_at hl 2 rfl) ?_
      refine lv_icmp_ne (tgt := 265) hx hb dL_areAll_161 (by decide) (fun c_3 => ?_) (fun c_3 => ?_)
      · rw [if_neg c_3] at hR
        have tc_3 : ¬ x2_16.toInt = x5_123.toInt := fun z => c_3 (i_eq.mpr z)
        refine lv_iconst (v := 0) hx hb dL_areAll_265 (by decide) ?_
        exact ro_zret hx hb hr hk (Or.inl rfl) hR dL_areAll_266
      · rw [if_pos c_3] at hR
        have tc_3 : x2_16.toInt = x5_123.toInt := i_eq.mp c_3
        refine lv_iload hx hb dL_areAll_164 (lv_at hl 2 rfl) ?_
        refine lv_aload_n hx hb dL_areAll_166 rfl (lv_at hl 6 rfl) ?_
        refine lv_iconst (v := 2) hx hb dL_areAll_167 (by decide) ?_
        refine ro_V (v := .int (mX5_count xx 2)) (rest := [.int x5_123]) (As := [.int 2]) hx hb hml hown hts hl (MX5_count l D q ad xx 2) gL_areAll_X5_count rfl kX5_count ⟨Nat.le_of_ble_eq_true rfl, Nat.le_of_ble_eq_true rfl⟩ rfl rfl (hP.sub (ws' := (wX q ad xx)) [0, 1, 2, 3, 4, 5, 6, 7, 8, 9, 10, 11, 12, 13, 14, 15, 16, 17, 18, 19, 20, 21, 22, 23, 24, 25, 26, 27, 28, 29, 30, 31, 32, 33, 34, 35, 36, 37, 38, 39, 40, 41, 42, 43, 44, 45, 46, 47, 48, 49, 50, 51, 52, 53, 54, 55, 56, 57, 58, 59, 60, 61, 62, 63, 64, 65, 66, 67, 68, 69, 70, 71, 72, 73, 74] rfl) (dT (hD.sub (ws' := (wX q ad xx)) [0, 1, 2, 3, 4, 5, 6, 7, 8, 9, 10, 11, 12, 13, 14, 15, 16, 17, 18, 19, 20, 21, 22, 23, 24, 25, 26, 27, 28, 29, 30, 31, 32, 33, 34, 35, 36, 37, 38, 39, 40, 41, 42, 43, 44, 45, 46, 47, 48, 49, 50, 51, 52, 53, 54, 55, 56, 57, 58, 59, 60, 61, 62, 63, 64, 65, 66, 67, 68, 69, 70, 71, 72, 73, 74] (by decide) rfl)) hG (ci := 3) rfl rfl rfl rfl (Nat.le_of_ble_eq_true rfl) dL_areAll_168 ⟨Nat.zero_le _, Nat.zero_le _⟩ ?_
        obtain ⟨r_4, er_4⟩ : ∃ z, z = (mX5_count xx 2) := ⟨_, rfl⟩
        rw [← er_4]
        replace hR := lt_e hR er_4
        refine lv_icmp_gt (tgt := 265) hx hb dL_areAll_171 (by decide) (fun c_5 => ?_) (fun c_5 => ?_)
        · rw [if_pos c_5] at hR
          have tc_5 : r_4.toInt < x5_123.toInt := i_lt.mp c_5
          refine lv_iconst (v := 0) hx hb dL_areAll_265 (by decide) ?_
          exact ro_zret hx hb hr hk (Or.inl rfl) hR dL_areAll_266
        · rw [if_neg c_5] at hR
          have tc_5 : ¬ r_4.toInt < x5_123.toInt := fun z => c_5 (i_lt.mpr z)
          refine lv_aload_n hx hb dL_areAll_174 rfl (lv_at hl 6 rfl) ?_
          refine lv_bipush (v := 8) hx hb dL_areAll_175 (by decide) ?_
          refine ro_V (v := .int (mX5_count xx 8)) (rest := []) (As := [.int 8]) hx hb hml hown hts hl (MX5_count l D q ad xx 8) gL_areAll_X5_count rfl kX5_count ⟨Nat.le_of_ble_eq_true rfl, Nat.le_of_ble_eq_true rfl⟩ rfl rfl (hP.sub (ws' := (wX q ad xx)) [0, 1, 2, 3, 4, 5, 6, 7, 8, 9, 10, 11, 12, 13, 14, 15, 16, 17, 18, 19, 20, 21, 22, 23, 24, 25, 26, 27, 28, 29, 30, 31, 32, 33, 34, 35, 36, 37, 38, 39, 40, 41, 42, 43, 44, 45, 46, 47, 48, 49, 50, 51, 52, 53, 54, 55, 56, 57, 58, 59, 60, 61, 62, 63, 64, 65, 66, 67, 68, 69, 70, 71, 72, 73, 74] rfl) (dT (hD.sub (ws' := (wX q ad xx)) [0, 1, 2, 3, 4, 5, 6, 7, 8, 9, 10, 11, 12, 13, 14, 15, 16, 17, 18, 19, 20, 21, 22, 23, 24, 25, 26, 27, 28, 29, 30, 31, 32, 33, 34, 35, 36, 37, 38, 39, 40, 41, 42, 43, 44, 45, 46, 47, 48, 49, 50, 51, 52, 53, 54, 55, 56, 57, 58, 59, 60, 61, 62, 63, 64, 65, 66, 67, 68, 69, 70, 71, 72, 73, 74] (by decide) rfl)) hG (ci := 3) rfl rfl rfl rfl (Nat.le_of_ble_eq_true rfl) dL_areAll_177 ⟨Nat.zero_le _, Nat.zero_le _⟩ ?_
          obtain ⟨r_6, er_6⟩ : ∃ z, z = (mX5_count xx 8) := ⟨_, rfl⟩
          rw [← er_6]
          replace hR := lt_e hR er_6
          refine lv_iload_n hx hb dL_areAll_180 rfl (lv_at hl 4 rfl) ?_
          refine lv_icmp_ne (tgt := 265) hx hb dL_areAll_181 (by decide) (fun c_7 => ?_) (fun c_7 => ?_)
          · rw [if_neg c_7] at hR
            have tc_7 : ¬ r_6.toInt = x3_16.toInt := fun z => c_7 (i_eq.mpr z)
            refine lv_iconst (v := 0) hx hb dL_areAll_265 (by decide) ?_
            exact ro_zret hx hb hr hk (Or.inl rfl) hR dL_areAll_266
          · rw [if_pos c_7] at hR
            have tc_7 : r_6.toInt = x3_16.toInt := i_eq.mp c_7
            refine lv_aload_n hx hb dL_areAll_184 rfl (lv_at hl 6 rfl) ?_
            refine lv_bipush (v := 9) hx hb dL_areAll_185 (by decide) ?_
            refine ro_V (v := .int (mX5_count xx 9)) (rest := []) (As := [.int 9]) hx hb hml hown hts hl (MX5_count l D q ad xx 9) gL_areAll_X5_count rfl kX5_count ⟨Nat.le_of_ble_eq_true rfl, Nat.le_of_ble_eq_true rfl⟩ rfl rfl (hP.sub (ws' := (wX q ad xx)) [0, 1, 2, 3, 4, 5, 6, 7, 8, 9, 10, 11, 12, 13, 14, 15, 16, 17, 18, 19, 20, 21, 22, 23, 24, 25, 26, 27, 28, 29, 30, 31, 32, 33, 34, 35, 36, 37, 38, 39, 40, 41, 42, 43, 44, 45, 46, 47, 48, 49, 50, 51, 52, 53, 54, 55, 56, 57, 58, 59, 60, 61, 62, 63, 64, 65, 66, 67, 68, 69, 70, 71, 72, 73, 74] rfl) (dT (hD.sub (ws' := (wX q ad xx)) [0, 1, 2, 3, 4, 5, 6, 7, 8, 9, 10, 11, 12, 13, 14, 15, 16, 17, 18, 19, 20, 21, 22, 23, 24, 25, 26, 27, 28, 29, 30, 31, 32, 33, 34, 35, 36, 37, 38, 39, 40, 41, 42, 43, 44, 45, 46, 47, 48, 49, 50, 51, 52, 53, 54, 55, 56, 57, 58, 59, 60, 61, 62, 63, 64, 65, 66, 67, 68, 69, 70, 71, 72, 73, 74] (by decide) rfl)) hG (ci := 3) rfl rfl rfl rfl (Nat.le_of_ble_eq_true rfl) dL_areAll_187 ⟨Nat.zero_le _, Nat.zero_le _⟩ ?_
            obtain ⟨r_8, er_8⟩ : ∃ z, z = (mX5_count xx 9) := ⟨_, rfl⟩
            rw [← er_8]
            replace hR := lt_e hR er_8
            refine lv_iload hx hb dL_areAll_190 (lv_at hl 3 rfl) ?_
            refine lv_icmp_ne (tgt := 265) hx hb dL_areAll_192 (by decide) (fun c_9 => ?_) (fun c_9 => ?_)
            · rw [if_neg c_9] at hR
              have tc_9 : ¬ r_8.toInt = x4_16.toInt := fun z => c_9 (i_eq.mpr z)
              refine lv_iconst (v := 0) hx hb dL_areAll_265 (by decide) ?_
              exact ro_zret hx hb hr hk (Or.inl rfl) hR dL_areAll_266
            · rw [if_pos c_9] at hR
              have tc_9 : r_8.toInt = x4_16.toInt := i_eq.mp c_9
              refine lv_aload_n hx hb dL_areAll_195 rfl (lv_at hl 6 rfl) ?_
              refine lv_iconst (v := 5) hx hb dL_areAll_196 (by decide) ?_
              refine ro_V (v := .int (mX5_count xx 5)) (rest := []) (As := [.int 5]) hx hb hml hown hts hl (MX5_count l D q ad xx 5) gL_areAll_X5_count rfl kX5_count ⟨Nat.le_of_ble_eq_true rfl, Nat.le_of_ble_eq_true rfl⟩ rfl rfl (hP.sub (ws' := (wX q ad xx)) [0, 1, 2, 3, 4, 5, 6, 7, 8, 9, 10, 11, 12, 13, 14, 15, 16, 17, 18, 19, 20, 21, 22, 23, 24, 25, 26, 27, 28, 29, 30, 31, 32, 33, 34, 35, 36, 37, 38, 39, 40, 41, 42, 43, 44, 45, 46, 47, 48, 49, 50, 51, 52, 53, 54, 55, 56, 57, 58, 59, 60, 61, 62, 63, 64, 65, 66, 67, 68, 69, 70, 71, 72, 73, 74] rfl) (dT (hD.sub (ws' := (wX q ad xx)) [0, 1, 2, 3, 4, 5, 6, 7, 8, 9, 10, 11, 12, 13, 14, 15, 16, 17, 18, 19, 20, 21, 22, 23, 24, 25, 26, 27, 28, 29, 30, 31, 32, 33, 34, 35, 36, 37, 38, 39, 40, 41, 42, 43, 44, 45, 46, 47, 48, 49, 50, 51, 52, 53, 54, 55, 56, 57, 58, 59, 60, 61, 62, 63, 64, 65, 66, 67, 68, 69, 70, 71, 72, 73, 74] (by decide) rfl)) hG (ci := 3) rfl rfl rfl rfl (Nat.le_of_ble_eq_true rfl) dL_areAll_197 ⟨Nat.zero_le _, Nat.zero_le _⟩ ?_
              obtain ⟨r_10, er_10⟩ : ∃ z, z = (mX5_count xx 5) := ⟨_, rfl⟩
              rw [← er_10]
              replace hR := lt_e hR er_10
              refine lv_aload_n hx hb dL_areAll_200 rfl (lv_at hl 6 rfl) ?_
              refine lv_iconst (v := 4) hx hb dL_areAll_201 (by decide) ?_
              refine ro_V (v := .int (mX5_count xx 4)) (rest := [.int r_10]) (As := [.int 4]) hx hb hml hown hts hl (MX5_count l D q ad xx 4) gL_areAll_X5_count rfl kX5_count ⟨Nat.le_of_ble_eq_true rfl, Nat.le_of_ble_eq_true rfl⟩ rfl rfl (hP.sub (ws' := (wX q ad xx)) [0, 1, 2, 3, 4, 5, 6, 7, 8, 9, 10, 11, 12, 13, 14, 15, 16, 17, 18, 19, 20, 21, 22, 23, 24, 25, 26, 27, 28, 29, 30, 31, 32, 33, 34, 35, 36, 37, 38, 39, 40, 41, 42, 43, 44, 45, 46, 47, 48, 49, 50, 51, 52, 53, 54, 55, 56, 57, 58, 59, 60, 61, 62, 63, 64, 65, 66, 67, 68, 69, 70, 71, 72, 73, 74] rfl) (dT (hD.sub (ws' := (wX q ad xx)) [0, 1, 2, 3, 4, 5, 6, 7, 8, 9, 10, 11, 12, 13, 14, 15, 16, 17, 18, 19, 20, 21, 22, 23, 24, 25, 26, 27, 28, 29, 30, 31, 32, 33, 34, 35, 36, 37, 38, 39, 40, 41, 42, 43, 44, 45, 46, 47, 48, 49, 50, 51, 52, 53, 54, 55, 56, 57, 58, 59, 60, 61, 62, 63, 64, 65, 66, 67, 68, 69, 70, 71, 72, 73, 74] (by decide) rfl)) hG (ci := 3) rfl rfl rfl rfl (Nat.le_of_ble_eq_true rfl) dL_areAll_202 ⟨Nat.zero_le _, Nat.zero_le _⟩ ?_
              obtain ⟨r_11, er_11⟩ : ∃ z, z = (mX5_count xx 4) := ⟨_, rfl⟩
              rw [← er_11]
              replace hR := lt_e hR er_11
              refine lv_icmp_gt (tgt := 265) hx hb dL_areAll_205 (by decide) (fun c_12 => ?_) (fun c_12 => ?_)
              · rw [if_pos c_12] at hR
                have tc_12 : r_11.toInt < r_10.toInt := i_lt.mp c_12
                refine lv_iconst (v := 0) hx hb dL_areAll_265 (by decide) ?_
                exact ro_zret hx hb hr hk (Or.inl rfl) hR dL_areAll_266
              · rw [if_neg c_12] at hR
                have tc_12 : ¬ r_11.toInt < r_10.toInt := fun z => c_12 (i_lt.mpr z)
                refine lv_aload_n hx hb dL_areAll_208 rfl (lv_at hl 6 rfl) ?_
                refine lv_bipush (v := 7) hx hb dL_areAll_209 (by decide) ?_
                refine ro_V (v := .int (mX5_count xx 7)) (rest := []) (As := [.int 7]) hx hb hml hown hts hl (MX5_count l D q ad xx 7) gL_areAll_X5_count rfl kX5_count ⟨Nat.le_of_ble_eq_true rfl, Nat.le_of_ble_eq_true rfl⟩ rfl rfl (hP.sub (ws' := (wX q ad xx)) [0, 1, 2, 3, 4, 5, 6, 7, 8, 9, 10, 11, 12, 13, 14, 15, 16, 17, 18, 19, 20, 21, 22, 23, 24, 25, 26, 27, 28, 29, 30, 31, 32, 33, 34, 35, 36, 37, 38, 39, 40, 41, 42, 43, 44, 45, 46, 47, 48, 49, 50, 51, 52, 53, 54, 55, 56, 57, 58, 59, 60, 61, 62, 63, 64, 65, 66, 67, 68, 69, 70, 71, 72, 73, 74] rfl) (dT (hD.sub (ws' := (wX q ad xx)) [0, 1, 2, 3, 4, 5, 6, 7, 8, 9, 10, 11, 12, 13, 14, 15, 16, 17, 18, 19, 20, 21, 22, 23, 24, 25, 26, 27, 28, 29, 30, 31, 32, 33, 34, 35, 36, 37, 38, 39, 40, 41, 42, 43, 44, 45, 46, 47, 48, 49, 50, 51, 52, 53, 54, 55, 56, 57, 58, 59, 60, 61, 62, 63, 64, 65, 66, 67, 68, 69, 70, 71, 72, 73, 74] (by decide) rfl)) hG (ci := 3) rfl rfl rfl rfl (Nat.le_of_ble_eq_true rfl) dL_areAll_211 ⟨Nat.zero_le _, Nat.zero_le _⟩ ?_
                obtain ⟨r_13, er_13⟩ : ∃ z, z = (mX5_count xx 7) := ⟨_, rfl⟩
                rw [← er_13]
                replace hR := lt_e hR er_13
                refine lv_aload_n hx hb dL_areAll_214 rfl (lv_at hl 6 rfl) ?_
                refine lv_bipush (v := 6) hx hb dL_areAll_215 (by decide) ?_
                refine ro_V (v := .int (mX5_count xx 6)) (rest := [.int r_13]) (As := [.int 6]) hx hb hml hown hts hl (MX5_count l D q ad xx 6) gL_areAll_X5_count rfl kX5_count ⟨Nat.le_of_ble_eq_true rfl, Nat.le_of_ble_eq_true rfl⟩ rfl rfl (hP.sub (ws' := (wX q ad xx)) [0, 1, 2, 3, 4, 5, 6, 7, 8, 9, 10, 11, 12, 13, 14, 15, 16, 17, 18, 19, 20, 21, 22, 23, 24, 25, 26, 27, 28, 29, 30, 31, 32, 33, 34, 35, 36, 37, 38, 39, 40, 41, 42, 43, 44, 45, 46, 47, 48, 49, 50, 51, 52, 53, 54, 55, 56, 57, 58, 59, 60, 61, 62, 63, 64, 65, 66, 67, 68, 69, 70, 71, 72, 73, 74] rfl) (dT (hD.sub (ws' := (wX q ad xx)) [0, 1, 2, 3, 4, 5, 6, 7, 8, 9, 10, 11, 12, 13, 14, 15, 16, 17, 18, 19, 20, 21, 22, 23, 24, 25, 26, 27, 28, 29, 30, 31, 32, 33, 34, 35, 36, 37, 38, 39, 40, 41, 42, 43, 44, 45, 46, 47, 48, 49, 50, 51, 52, 53, 54, 55, 56, 57, 58, 59, 60, 61, 62, 63, 64, 65, 66, 67, 68, 69, 70, 71, 72, 73, 74] (by decide) rfl)) hG (ci := 3) rfl rfl rfl rfl (Nat.le_of_ble_eq_true rfl) dL_areAll_217 ⟨Nat.zero_le _, Nat.zero_le _⟩ ?_
                obtain ⟨r_14, er_14⟩ : ∃ z, z = (mX5_count xx 6) := ⟨_, rfl⟩
                rw [← er_14]
                replace hR := lt_e hR er_14
                refine lv_icmp_gt (tgt := 265) hx hb dL_areAll_220 (by decide) (fun c_15 => ?_) (fun c_15 => ?_)
                · rw [if_pos c_15] at hR
                  have tc_15 : r_14.toInt < r_13.toInt := i_lt.mp c_15
                  refine lv_iconst (v := 0) hx hb dL_areAll_265 (by decide) ?_
                  exact ro_zret hx hb hr hk (Or.inl rfl) hR dL_areAll_266
                · rw [if_neg c_15] at hR
                  have tc_15 : ¬ r_14.toInt < r_13.toInt := fun z => c_15 (i_lt.mpr z)
                  refine lv_aload_n hx hb dL_areAll_223 rfl (lv_at hl 6 rfl) ?_
                  refine ro_V (v := .float (mX5_ground (xx 0))) (rest := []) (As := []) hx hb hml hown hts hl (MX5_ground l D q ad (xx 9 0 0) (xx 0)) gL_areAll_X5_ground rfl kX5_ground ⟨Nat.le_of_ble_eq_true rfl, Nat.le_of_ble_eq_true rfl⟩ rfl rfl (hP.sub (ws' := (wXN q ad (xx 9 0 0) (xx 0))) [0, 1, 2, 3, 4, 5, 6, 7, 8, 9, 10] rfl) (dT (hD.sub (ws' := (wXN q ad (xx 9 0 0) (xx 0))) [0, 1, 2, 3, 4, 5, 6, 7, 8, 9, 10] (by decide) rfl)) hG (ci := 3) rfl rfl rfl rfl (Nat.le_of_ble_eq_true rfl) dL_areAll_224 ⟨Nat.zero_le _, Nat.zero_le _⟩ ?_
                  refine lv_iload hx hb dL_areAll_227 (lv_at hl 1 rfl) ?_
                  refine jn_1 hR (fun F_243_16 eF_243_16 hR => ?_)
                  have key_243_16 : ∀ (y243_s0_16 : UInt32), lt y243_s0_16 F_243_16 = R → ∀ ls : Array Slot, lv_has ls 9 [(7, .int x7_123), (6, .int x6_16), (5, .int x5_123), (4, .int x4_16), (3, .int x3_16), (2, .int x2_16), (0, .ref (ad 9 0)), (1, .ref (ad 10 0))] → W p l e ({ frames := 7, cells := 0, slots := 0, locals := 152 } : Room) s m ([.ref (ad 9 0), .ref (ad 10 0)] : List Value).toArray below meth c s.heap [] 0 0 (MQ below (roQ (some (.int R))) ([.ref (ad 9 0), .ref (ad 10 0)] : List Value).toArray s 0 0 (fun _ => False)) (F0 m 243 ls [.float y243_s0_16, .float (mX5_ground (xx 0))]) := by
                    intro y243_s0_16 hR ls hl
                    rw [eF_243_16] at hR
                    replace hR := jn_e1 hR
                    refine lv_fcmp hx hb dL_areAll_243 ?_
                    refine lv_if_ne (tgt := 265) hx hb dL_areAll_244 (by decide) (fun c_17 => ?_) (fun c_17 => ?_)
                    · rw [if_neg c_17] at hR
                      have tc_17 : ¬ (Op.cmpValue (FP.fcmp (mX5_ground (xx 0)) y243_s0_16) .l).toInt = 0 := fun z => c_17 (i_eq.mpr z)
                      refine lv_iconst (v := 0) hx hb dL_areAll_265 (by decide) ?_
                      exact ro_zret hx hb hr hk (Or.inl rfl) hR dL_areAll_266
                    · rw [if_pos c_17] at hR
                      have tc_17 : (Op.cmpValue (FP.fcmp (mX5_ground (xx 0)) y243_s0_16) .l).toInt = 0 := i_eq.mp c_17
                      refine lv_aload_n hx hb dL_areAll_247 rfl (lv_at hl 6 rfl) ?_
                      refine lv_aload_n hx hb dL_areAll_248 rfl (lv_at hl 6 rfl) ?_
                      refine lv_iconst (v := 0) hx hb dL_areAll_249 (by decide) ?_
                      refine ro_V (v := .int (mX5_count xx 0)) (rest := [.ref (ad 9 0)]) (As := [.int 0]) hx hb hml hown hts hl (MX5_count l D q ad xx 0) gL_areAll_X5_count rfl kX5_count ⟨Nat.le_of_ble_eq_true rfl, Nat.le_of_ble_eq_true rfl⟩ rfl rfl (hP.sub (ws' := (wX q ad xx)) [0, 1, 2, 3, 4, 5, 6, 7, 8, 9, 10, 11, 12, 13, 14, 15, 16, 17, 18, 19, 20, 21, 22, 23, 24, 25, 26, 27, 28, 29, 30, 31, 32, 33, 34, 35, 36, 37, 38, 39, 40, 41, 42, 43, 44, 45, 46, 47, 48, 49, 50, 51, 52, 53, 54, 55, 56, 57, 58, 59, 60, 61, 62, 63, 64, 65, 66, 67, 68, 69, 70, 71, 72, 73, 74] rfl) (dT (hD.sub (ws' := (wX q ad xx)) [0, 1, 2, 3, 4, 5, 6, 7, 8, 9, 10, 11, 12, 13, 14, 15, 16, 17, 18, 19, 20, 21, 22, 23, 24, 25, 26, 27, 28, 29, 30, 31, 32, 33, 34, 35, 36, 37, 38, 39, 40, 41, 42, 43, 44, 45, 46, 47, 48, 49, 50, 51, 52, 53, 54, 55, 56, 57, 58, 59, 60, 61, 62, 63, 64, 65, 66, 67, 68, 69, 70, 71, 72, 73, 74] (by decide) rfl)) hG (ci := 3) rfl rfl rfl rfl (Nat.le_of_ble_eq_true rfl) dL_areAll_250 ⟨Nat.zero_le _, Nat.zero_le _⟩ ?_
                      obtain ⟨r_18, er_18⟩ : ∃ z, z = (mX5_count xx 0) := ⟨_, rfl⟩
                      rw [← er_18]
                      replace hR := lt_e hR er_18
                      refine lv_iconst (v := 0) hx hb dL_areAll_253 (by decide) ?_
                      refine ro_V (v := .int (mX5_millOf (xx 0) r_18 0)) (rest := []) (As := [.int r_18, .int 0]) hx hb hml hown hts hl (MX5_millOf l D q ad (xx 9 0 0) (xx 0) r_18 0) gL_areAll_X5_millOf rfl kX5_millOf ⟨Nat.le_of_ble_eq_true rfl, Nat.le_of_ble_eq_true rfl⟩ rfl rfl (hP.sub (ws' := (wXN q ad (xx 9 0 0) (xx 0))) [0, 1, 2, 3, 4, 5, 6, 7, 8, 9, 10] rfl) (dT (hD.sub (ws' := (wXN q ad (xx 9 0 0) (xx 0))) [0, 1, 2, 3, 4, 5, 6, 7, 8, 9, 10] (by decide) rfl)) hG (ci := 3) rfl rfl rfl rfl (Nat.le_of_ble_eq_true rfl) dL_areAll_254 ⟨Nat.zero_le _, Nat.zero_le _⟩ ?_
                      obtain ⟨r_19, er_19⟩ : ∃ z, z = (mX5_millOf (xx 0) r_18 0) := ⟨_, rfl⟩
                      rw [← er_19]
                      replace hR := lt_e hR er_19
                      refine lv_iconst (v := (-1)) hx hb dL_areAll_257 (by decide) ?_
                      refine lv_icmp_ne (tgt := 265) hx hb dL_areAll_258 (by decide) (fun c_20 => ?_) (fun c_20 => ?_)
                      · rw [if_neg c_20] at hR
                        have tc_20 : ¬ r_19.toInt = (-1) := fun z => c_20 (i_eq.mpr z)
                        refine lv_iconst (v := 0) hx hb dL_areAll_265 (by decide) ?_
                        exact ro_zret hx hb hr hk (Or.inl rfl) hR dL_areAll_266
                      · rw [if_pos c_20] at hR
                        have tc_20 : r_19.toInt = (-1) := i_eq.mp c_20
                        refine lv_iconst (v := 1) hx hb dL_areAll_261 (by decide) ?_
                        refine lv_goto (tgt := 266) hx hb dL_areAll_262 (by decide) ?_
                        exact ro_zret hx hb hr hk (Or.inr rfl) hR dL_areAll_266
                  refine lv_if_ne (tgt := 236) hx hb dL_areAll_229 (by decide) (fun c_21 => ?_) (fun c_21 => ?_)
                  · rw [if_neg c_21] at hR
                    have tc_21 : ¬ x6_16.toInt = 0 := fun z => c_21 (i_eq.mpr z)
                    refine lv_iload hx hb dL_areAll_236 (lv_at hl 3 rfl) ?_
                    refine lv_i2f hx hb dL_areAll_238 ?_
                    refine lv_iload hx hb dL_areAll_239 (lv_at hl 1 rfl) ?_
                    refine lv_i2f hx hb dL_areAll_241 ?_
                    refine lv_fdiv hx hb dL_areAll_242 (fd_ok (by assumption) _) ?_
                    exact key_243_16 (FP.fdiv (FP.i2f x4_16) (FP.i2f x6_16)) hR ls (lv_sub hl [0, 1, 2, 3, 4, 5, 6, 7] rfl)
                  · rw [if_pos c_21] at hR
                    have tc_21 : x6_16.toInt = 0 := i_eq.mp c_21
                    refine lv_fconst1 hx hb dL_areAll_232 ?_
                    refine lv_goto (tgt := 243) hx hb dL_areAll_233 (by decide) ?_
                    exact key_243_16 FP.fconst1 hR ls (lv_sub hl [0, 1, 2, 3, 4, 5, 6, 7] rfl)
    have key_123 : ∀ (n_123 : Nat) (x7_123 : Int32) (x5_123 : Int32), tr x7_123 (mX5_count xx 1) = n_123 → mL_areAll_123 xx C_123 n_123 x7_123 x5_123 = R → ∀ ls : Array Slot, lv_has ls 9 [(7, .int x7_123), (6, .int x6_16), (5, .int x5_123), (4, .int x4_16), (3, .int x3_16), (2, .int x2_16), (0, .ref (ad 9 0)), (1, .ref (ad 10 0))] → W p l e ({ frames := 7, cells := 0, slots := 0, locals := 152 } : Room) s m ([.ref (ad 9 0), .ref (ad 10 0)] : List Value).toArray below meth c s.heap [] 0 0 (MQ below (roQ (some (.int R))) ([.ref (ad 9 0), .ref (ad 10 0)] : List Value).toArray s 0 0 (fun _ => False)) (F0 m 123 ls []) := by
      intro n_123
      induction n_123 with
      | zero =>
        intro x7_123 x5_123 hn_123 hR ls hl
        rw [mL_areAll_123] at hR
        refine lv_iload hx hb dL_areAll_123 (lv_at hl 0 rfl) ?_
        refine lv_aload_n hx hb dL_areAll_125 rfl (lv_at hl 6 rfl) ?_
        refine lv_iconst (v := 1) hx hb dL_areAll_126 (by decide) ?_
        refine ro_V (v := .int (mX5_count xx 1)) (rest := [.int x7_123]) (As := [.int 1]) hx hb hml hown hts hl (MX5_count l D q ad xx 1) gL_areAll_X5_count rfl kX5_count ⟨Nat.le_of_ble_eq_true rfl, Nat.le_of_ble_eq_true rfl⟩ rfl rfl (hP.sub (ws' := (wX q ad xx)) [0, 1, 2, 3, 4, 5, 6, 7, 8, 9, 10, 11, 12, 13, 14, 15, 16, 17, 18, 19, 20, 21, 22, 23, 24, 25, 26, 27, 28, 29, 30, 31, 32, 33, 34, 35, 36, 37, 38, 39, 40, 41, 42, 43, 44, 45, 46, 47, 48, 49, 50, 51, 52, 53, 54, 55, 56, 57, 58, 59, 60, 61, 62, 63, 64, 65, 66, 67, 68, 69, 70, 71, 72, 73, 74] rfl) (dT (hD.sub (ws' := (wX q ad xx)) [0, 1, 2, 3, 4, 5, 6, 7, 8, 9, 10, 11, 12, 13, 14, 15, 16, 17, 18, 19, 20, 21, 22, 23, 24, 25, 26, 27, 28, 29, 30, 31, 32, 33, 34, 35, 36, 37, 38, 39, 40, 41, 42, 43, 44, 45, 46, 47, 48, 49, 50, 51, 52, 53, 54, 55, 56, 57, 58, 59, 60, 61, 62, 63, 64, 65, 66, 67, 68, 69, 70, 71, 72, 73, 74] (by decide) rfl)) hG (ci := 3) rfl rfl rfl rfl (Nat.le_of_ble_eq_true rfl) dL_areAll_127 ⟨Nat.zero_le _, Nat.zero_le _⟩ ?_
        refine lv_icmp_ge (tgt := 158) hx hb dL_areAll_130 (by decide) (fun c_2 => ?_) (fun c_2 => (tr0 hn_123 c_2).elim)
        exact kx_123 x7_123 x5_123 hR ls (lv_sub hl [0, 1, 2, 3, 4, 5, 6, 7] rfl)
      | succ n_123 ih_123 =>
        intro x7_123 x5_123 hn_123 hR ls hl
        rw [mL_areAll_123] at hR
        refine lv_iload hx hb dL_areAll_123 (lv_at hl 0 rfl) ?_
        refine lv_aload_n hx hb dL_areAll_125 rfl (lv_at hl 6 rfl) ?_
        refine lv_iconst (v := 1) hx hb dL_areAll_126 (by decide) ?_
        refine ro_V (v := .int (mX5_count xx 1)) (rest := [.int x7_123]) (As := [.int 1]) hx hb hml hown hts hl (MX5_count l D q ad xx 1) gL_areAll_X5_count rfl kX5_count ⟨Nat.le_of_ble_eq_true rfl, Nat.le_of_ble_eq_true rfl⟩ rfl rfl (hP.sub (ws' := (wX q ad xx)) [0, 1, 2, 3, 4, 5, 6, 7, 8, 9, 10, 11, 12, 13, 14, 15, 16, 17, 18, 19, 20, 21, 22, 23, 24, 25, 26, 27, 28, 29, 30, 31, 32, 33, 34, 35, 36, 37, 38, 39, 40, 41, 42, 43, 44, 45, 46, 47, 48, 49, 50, 51, 52, 53, 54, 55, 56, 57, 58, 59, 60, 61, 62, 63, 64, 65, 66, 67, 68, 69, 70, 71, 72, 73, 74] rfl) (dT (hD.sub (ws' := (wX q ad xx)) [0, 1, 2, 3, 4, 5, 6, 7, 8, 9, 10, 11, 12, 13, 14, 15, 16, 17, 18, 19, 20, 21, 22, 23, 24, 25, 26, 27, 28, 29, 30, 31, 32, 33, 34, 35, 36, 37, 38, 39, 40, 41, 42, 43, 44, 45, 46, 47, 48, 49, 50, 51, 52, 53, 54, 55, 56, 57, 58, 59, 60, 61, 62, 63, 64, 65, 66, 67, 68, 69, 70, 71, 72, 73, 74] (by decide) rfl)) hG (ci := 3) rfl rfl rfl rfl (Nat.le_of_ble_eq_true rfl) dL_areAll_127 ⟨Nat.zero_le _, Nat.zero_le _⟩ ?_
        refine lv_icmp_ge (tgt := 158) hx hb dL_areAll_130 (by decide) (fun c_2 => (trS hn_123 c_2).elim) (fun c_2 => ?_)
        refine lv_iload hx hb dL_areAll_133 (lv_at hl 0 rfl) ?_
        refine lv_bipush (v := 10) hx hb dL_areAll_135 (by decide) ?_
        refine lv_icmp_ge (tgt := 158) hx hb dL_areAll_137 (by decide) (fun c_22 => ?_) (fun c_22 => ?_)
        · rw [if_pos c_22] at hR
          have tc_22 : 10 ≤ x7_123.toInt := i_le.mp c_22
          exact kx_123 x7_123 x5_123 hR ls (lv_sub hl [0, 1, 2, 3, 4, 5, 6, 7] rfl)
        · rw [if_neg c_22] at hR
          have tc_22 : ¬ 10 ≤ x7_123.toInt := fun z => c_22 (i_le.mpr z)
          refine lv_iload hx hb dL_areAll_140 (lv_at hl 2 rfl) ?_
          refine lv_aload_n hx hb dL_areAll_142 rfl (lv_at hl 6 rfl) ?_
          refine lv_iload hx hb dL_areAll_143 (lv_at hl 0 rfl) ?_
          refine lv_iconst (v := 3) hx hb dL_areAll_145 (by decide) ?_
          refine ro_V (v := .int (mX5_houseOf (xx 0) x7_123 3)) (rest := [.int x5_123]) (As := [.int x7_123, .int 3]) hx hb hml hown hts hl (MX5_houseOf l D q ad (xx 9 0 0) (xx 0) x7_123 3) gL_areAll_X5_houseOf rfl kX5_houseOf ⟨Nat.le_of_ble_eq_true rfl, Nat.le_of_ble_eq_true rfl⟩ rfl rfl (hP.sub (ws' := (wXN q ad (xx 9 0 0) (xx 0))) [0, 1, 2, 3, 4, 5, 6, 7, 8, 9, 10] rfl) (dT (hD.sub (ws' := (wXN q ad (xx 9 0 0) (xx 0))) [0, 1, 2, 3, 4, 5, 6, 7, 8, 9, 10] (by decide) rfl)) hG (ci := 3) rfl rfl rfl rfl (Nat.le_of_ble_eq_true rfl) dL_areAll_146 ⟨Nat.zero_le _, Nat.zero_le _⟩ ?_
          obtain ⟨r_23, er_23⟩ : ∃ z, z = (mX5_houseOf (xx 0) x7_123 3) := ⟨_, rfl⟩
          rw [← er_23]
          replace hR := lt_e hR er_23
          refine lv_iadd hx hb dL_areAll_149 ?_
          obtain ⟨e_24, ee_24⟩ : ∃ z, z = (x5_123 + r_23) := ⟨_, rfl⟩
          rw [← ee_24]
          replace hR := lt_e hR ee_24
          refine lv_istore (lv' := [(5, .int e_24), (7, .int x7_123), (6, .int x6_16), (4, .int x4_16), (3, .int x3_16), (2, .int x2_16), (0, .ref (ad 9 0)), (1, .ref (ad 10 0))]) hx hb dL_areAll_150 hl (by decide) rfl (fun ls hl => ?_)
          refine lv_iinc (v := (x7_123 + 1)) (lv' := [(7, .int (x7_123 + 1)), (5, .int e_24), (6, .int x6_16), (4, .int x4_16), (3, .int x3_16), (2, .int x2_16), (0, .ref (ad 9 0)), (1, .ref (ad 10 0))]) hx hb dL_areAll_152 hl (k := 1) rfl rfl (by decide) rfl (fun ls hl => ?_)
          refine lv_goto (tgt := 123) hx hb dL_areAll_155 (by decide) ?_
          exact ih_123 (x7_123 + 1) e_24 (trN hn_123) hR ls (lv_sub hl [0, 2, 1, 3, 4, 5, 6, 7] rfl)
    exact key_123 _ 0 0 rfl hR ls hl
  have key_16 : ∀ (n_16 : Nat) (x7_16 : Int32) (x6_16 : Int32) (x4_16 : Int32) (x3_16 : Int32) (x2_16 : Int32), tr x7_16 (mX5_count xx 0) = n_16 → mL_areAll_16 xx C_16 n_16 x7_16 x6_16 x4_16 x3_16 x2_16 = R → ∀ ls : Array Slot, lv_has ls 9 [(7, .int x7_16), (6, .int x6_16), (5, .int 0), (4, .int x4_16), (3, .int x3_16), (2, .int x2_16), (0, .ref (ad 9 0)), (1, .ref (ad 10 0))] → W p l e ({ frames := 7, cells := 0, slots := 0, locals := 152 } : Room) s m ([.ref (ad 9 0), .ref (ad 10 0)] : List Value).toArray below meth c s.heap [] 0 0 (MQ below (roQ (some (.int R))) ([.ref (ad 9 0), .ref (ad 10 0)] : List Value).toArray s 0 0 (fun _ => False)) (F0 m 16 ls []) := by
    intro n_16
    induction n_16 with
    | zero =>
      intro x7_16 x6_16 x4_16 x3_16 x2_16 hn_16 hR ls hl
      rw [mL_areAll_16] at hR
      refine lv_iload hx hb dL_areAll_16 (lv_at hl 0 rfl) ?_
      refine lv_aload_n hx hb dL_areAll_18 rfl (lv_at hl 6 rfl) ?_
      refine lv_iconst (v := 0) hx hb dL_areAll_19 (by decide) ?_
      refine ro_V (v := .int (mX5_count xx 0)) (rest := [.int x7_16]) (As := [.int 0]) hx hb hml hown hts hl (MX5_count l D q ad xx 0) gL_areAll_X5_count rfl kX5_count ⟨Nat.le_of_ble_eq_true rfl, Nat.le_of_ble_eq_true rfl⟩ rfl rfl (hP.sub (ws' := (wX q ad xx)) [0, 1, 2, 3, 4, 5, 6, 7, 8, 9, 10, 11, 12, 13, 14, 15, 16, 17, 18, 19, 20, 21, 22, 23, 24, 25, 26, 27, 28, 29, 30, 31, 32, 33, 34, 35, 36, 37, 38, 39, 40, 41, 42, 43, 44, 45, 46, 47, 48, 49, 50, 51, 52, 53, 54, 55, 56, 57, 58, 59, 60, 61, 62, 63, 64, 65, 66, 67, 68, 69, 70, 71, 72, 73, 74] rfl) (dT (hD.sub (ws' := (wX q ad xx)) [0, 1, 2, 3, 4, 5, 6, 7, 8, 9, 10, 11, 12, 13, 14, 15, 16, 17, 18, 19, 20, 21, 22, 23, 24, 25, 26, 27, 28, 29, 30, 31, 32, 33, 34, 35, 36, 37, 38, 39, 40, 41, 42, 43, 44, 45, 46, 47, 48, 49, 50, 51, 52, 53, 54, 55, 56, 57, 58, 59, 60, 61, 62, 63, 64, 65, 66, 67, 68, 69, 70, 71, 72, 73, 74] (by decide) rfl)) hG (ci := 3) rfl rfl rfl rfl (Nat.le_of_ble_eq_true rfl) dL_areAll_20 ⟨Nat.zero_le _, Nat.zero_le _⟩ ?_
      refine lv_icmp_ge (tgt := 120) hx hb dL_areAll_23 (by decide) (fun c_1 => ?_) (fun c_1 => (tr0 hn_16 c_1).elim)
      exact kx_16 x7_16 x6_16 x4_16 x3_16 x2_16 hR ls (lv_sub hl [0, 1, 2, 3, 4, 5, 6, 7] rfl)
    | succ n_16 ih_16 =>
      intro x7_16 x6_16 x4_16 x3_16 x2_16 hn_16 hR ls hl
      rw [mL_areAll_16] at hR
      refine lv_iload hx hb dL_areAll_16 (lv_at hl 0 rfl) ?_
      refine lv_aload_n hx hb dL_areAll_18 rfl (lv_at hl 6 rfl) ?_
      refine lv_iconst (v := 0) hx hb dL_areAll_19 (by decide) ?_
      refine ro_V (v := .int (mX5_count xx 0)) (rest := [.int x7_16]) (As := [.int 0]) hx hb hml hown hts hl (MX5_count l D q ad xx 0) gL_areAll_X5_count rfl kX5_count ⟨Nat.le_of_ble_eq_true rfl, Nat.le_of_ble_eq_true rfl⟩ rfl rfl (hP.sub (ws' := (wX q ad xx)) [0, 1, 2, 3, 4, 5, 6, 7, 8, 9, 10, 11, 12, 13, 14, 15, 16, 17, 18, 19, 20, 21, 22, 23, 24, 25, 26, 27, 28, 29, 30, 31, 32, 33, 34, 35, 36, 37, 38, 39, 40, 41, 42, 43, 44, 45, 46, 47, 48, 49, 50, 51, 52, 53, 54, 55, 56, 57, 58, 59, 60, 61, 62, 63, 64, 65, 66, 67, 68, 69, 70, 71, 72, 73, 74] rfl) (dT (hD.sub (ws' := (wX q ad xx)) [0, 1, 2, 3, 4, 5, 6, 7, 8, 9, 10, 11, 12, 13, 14, 15, 16, 17, 18, 19, 20, 21, 22, 23, 24, 25, 26, 27, 28, 29, 30, 31, 32, 33, 34, 35, 36, 37, 38, 39, 40, 41, 42, 43, 44, 45, 46, 47, 48, 49, 50, 51, 52, 53, 54, 55, 56, 57, 58, 59, 60, 61, 62, 63, 64, 65, 66, 67, 68, 69, 70, 71, 72, 73, 74] (by decide) rfl)) hG (ci := 3) rfl rfl rfl rfl (Nat.le_of_ble_eq_true rfl) dL_areAll_20 ⟨Nat.zero_le _, Nat.zero_le _⟩ ?_
      refine lv_icmp_ge (tgt := 120) hx hb dL_areAll_23 (by decide) (fun c_1 => (trS hn_16 c_1).elim) (fun c_1 => ?_)
      refine lv_iload hx hb dL_areAll_26 (lv_at hl 0 rfl) ?_
      refine lv_iconst (v := 4) hx hb dL_areAll_28 (by decide) ?_
      refine lv_icmp_ge (tgt := 120) hx hb dL_areAll_29 (by decide) (fun c_25 => ?_) (fun c_25 => ?_)
      · rw [if_pos c_25] at hR
        have tc_25 : 4 ≤ x7_16.toInt := i_le.mp c_25
        exact kx_16 x7_16 x6_16 x4_16 x3_16 x2_16 hR ls (lv_sub hl [0, 1, 2, 3, 4, 5, 6, 7] rfl)
      · rw [if_neg c_25] at hR
        have tc_25 : ¬ 4 ≤ x7_16.toInt := fun z => c_25 (i_le.mpr z)
        refine lv_iload_n hx hb dL_areAll_32 rfl (lv_at hl 5 rfl) ?_
        refine lv_aload_n hx hb dL_areAll_33 rfl (lv_at hl 6 rfl) ?_
        refine lv_iload hx hb dL_areAll_34 (lv_at hl 0 rfl) ?_
        refine lv_iconst (v := 5) hx hb dL_areAll_36 (by decide) ?_
        refine ro_V (v := .int (mX5_millOf (xx 0) x7_16 5)) (rest := [.int x2_16]) (As := [.int x7_16, .int 5]) hx hb hml hown hts hl (MX5_millOf l D q ad (xx 9 0 0) (xx 0) x7_16 5) gL_areAll_X5_millOf rfl kX5_millOf ⟨Nat.le_of_ble_eq_true rfl, Nat.le_of_ble_eq_true rfl⟩ rfl rfl (hP.sub (ws' := (wXN q ad (xx 9 0 0) (xx 0))) [0, 1, 2, 3, 4, 5, 6, 7, 8, 9, 10] rfl) (dT (hD.sub (ws' := (wXN q ad (xx 9 0 0) (xx 0))) [0, 1, 2, 3, 4, 5, 6, 7, 8, 9, 10] (by decide) rfl)) hG (ci := 3) rfl rfl rfl rfl (Nat.le_of_ble_eq_true rfl) dL_areAll_37 ⟨Nat.zero_le _, Nat.zero_le _⟩ ?_
        obtain ⟨r_26, er_26⟩ : ∃ z, z = (mX5_millOf (xx 0) x7_16 5) := ⟨_, rfl⟩
        rw [← er_26]
        replace hR := lt_e hR er_26
        refine lv_iadd hx hb dL_areAll_40 ?_
        obtain ⟨e_27, ee_27⟩ : ∃ z, z = (x2_16 + r_26) := ⟨_, rfl⟩
        rw [← ee_27]
        replace hR := lt_e hR ee_27
        refine lv_istore_n (lv' := [(2, .int e_27), (7, .int x7_16), (6, .int x6_16), (5, .int 0), (4, .int x4_16), (3, .int x3_16), (0, .ref (ad 9 0)), (1, .ref (ad 10 0))]) hx hb dL_areAll_41 rfl hl (by decide) rfl (fun ls hl => ?_)
        refine lv_iload hx hb dL_areAll_42 (lv_at hl 4 rfl) ?_
        refine lv_aload_n hx hb dL_areAll_44 rfl (lv_at hl 6 rfl) ?_
        refine lv_iload hx hb dL_areAll_45 (lv_at hl 1 rfl) ?_
        refine lv_iconst (v := 4) hx hb dL_areAll_47 (by decide) ?_
        refine ro_V (v := .int (mX5_millOf (xx 0) x7_16 4)) (rest := [.int x4_16]) (As := [.int x7_16, .int 4]) hx hb hml hown hts hl (MX5_millOf l D q ad (xx 9 0 0) (xx 0) x7_16 4) gL_areAll_X5_millOf rfl kX5_millOf ⟨Nat.le_of_ble_eq_true rfl, Nat.le_of_ble_eq_true rfl⟩ rfl rfl (hP.sub (ws' := (wXN q ad (xx 9 0 0) (xx 0))) [0, 1, 2, 3, 4, 5, 6, 7, 8, 9, 10] rfl) (dT (hD.sub (ws' := (wXN q ad (xx 9 0 0) (xx 0))) [0, 1, 2, 3, 4, 5, 6, 7, 8, 9, 10] (by decide) rfl)) hG (ci := 3) rfl rfl rfl rfl (Nat.le_of_ble_eq_true rfl) dL_areAll_48 ⟨Nat.zero_le _, Nat.zero_le _⟩ ?_
        obtain ⟨r_28, er_28⟩ : ∃ z, z = (mX5_millOf (xx 0) x7_16 4) := ⟨_, rfl⟩
        rw [← er_28]
        replace hR := lt_e hR er_28
        refine lv_iadd hx hb dL_areAll_51 ?_
        obtain ⟨e_29, ee_29⟩ : ∃ z, z = (x4_16 + r_28) := ⟨_, rfl⟩
        rw [← ee_29]
        replace hR := lt_e hR ee_29
        refine lv_istore (lv' := [(4, .int e_29), (2, .int e_27), (7, .int x7_16), (6, .int x6_16), (5, .int 0), (3, .int x3_16), (0, .ref (ad 9 0)), (1, .ref (ad 10 0))]) hx hb dL_areAll_52 hl (by decide) rfl (fun ls hl => ?_)
        refine lv_iconst (v := 0) hx hb dL_areAll_54 (by decide) ?_
        refine lv_istore (lv' := [(8, .int 0), (4, .int e_29), (2, .int e_27), (7, .int x7_16), (6, .int x6_16), (5, .int 0), (3, .int x3_16), (0, .ref (ad 9 0)), (1, .ref (ad 10 0))]) hx hb dL_areAll_55 hl (by decide) rfl (fun ls hl => ?_)
        have key_57 : ∀ (n_57 : Nat) (x8_57 : Int32) (x6_57 : Int32) (x3_57 : Int32), tr x8_57 24 = n_57 → 0 ≤ x8_57.toInt → mL_areAll_57 xx x7_16 (fun x8_57 x6_57 x3_57 => (mL_areAll_16 xx C_16 n_16 (x7_16 + 1) x6_57 e_29 x3_57 e_27)) n_57 x8_57 x6_57 x3_57 = R → ∀ ls : Array Slot, lv_has ls 9 [(8, .int x8_57), (4, .int e_29), (2, .int e_27), (7, .int x7_16), (6, .int x6_57), (5, .int 0), (3, .int x3_57), (0, .ref (ad 9 0)), (1, .ref (ad 10 0))] → W p l e ({ frames := 7, cells := 0, slots := 0, locals := 152 } : Room) s m ([.ref (ad 9 0), .ref (ad 10 0)] : List Value).toArray below meth c s.heap [] 0 0 (MQ below (roQ (some (.int R))) ([.ref (ad 9 0), .ref (ad 10 0)] : List Value).toArray s 0 0 (fun _ => False)) (F0 m 57 ls []) := by
          intro n_57
          induction n_57 with
          | zero =>
            intro x8_57 x6_57 x3_57 hn_57 hk_57 hR ls hl
            rw [mL_areAll_57] at hR
            refine lv_iload hx hb dL_areAll_57 (lv_at hl 0 rfl) ?_
            refine lv_bipush (v := 24) hx hb dL_areAll_59 (by decide) ?_
            refine lv_icmp_ge (tgt := 114) hx hb dL_areAll_61 (by decide) (fun c_30 => ?_) (fun c_30 => (tr0 hn_57 c_30).elim)
            refine lv_iinc (v := (x7_16 + 1)) (lv' := [(7, .int (x7_16 + 1)), (8, .int x8_57), (4, .int e_29), (2, .int e_27), (6, .int x6_57), (5, .int 0), (3, .int x3_57), (0, .ref (ad 9 0)), (1, .ref (ad 10 0))]) hx hb dL_areAll_114 hl (k := 3) rfl rfl (by decide) rfl (fun ls hl => ?_)
            refine lv_goto (tgt := 16) hx hb dL_areAll_117 (by decide) ?_
            exact ih_16 (x7_16 + 1) x6_57 e_29 x3_57 e_27 (trN hn_16) hR ls (lv_sub hl [0, 4, 5, 2, 6, 3, 7, 8] rfl)
          | succ n_57 ih_57 =>
            intro x8_57 x6_57 x3_57 hn_57 hk_57 hR ls hl
            rw [mL_areAll_57] at hR
            refine lv_iload hx hb dL_areAll_57 (lv_at hl 0 rfl) ?_
            refine lv_bipush (v := 24) hx hb dL_areAll_59 (by decide) ?_
            refine lv_icmp_ge (tgt := 114) hx hb dL_areAll_61 (by decide) (fun c_30 => (trS hn_57 c_30).elim) (fun c_30 => ?_)
            have hlt_c_30 : x8_57.toInt < 24 := k_lt c_30
            refine lv_iload_n hx hb dL_areAll_64 rfl (lv_at hl 6 rfl) ?_
            refine lv_aload_n hx hb dL_areAll_65 rfl (lv_at hl 7 rfl) ?_
            refine lv_iload hx hb dL_areAll_66 (lv_at hl 3 rfl) ?_
            refine lv_iconst (v := 2) hx hb dL_areAll_68 (by decide) ?_
            refine ro_V (v := .int (mX5_millOf (xx 0) x7_16 2)) (rest := [.int x3_57]) (As := [.int x7_16, .int 2]) hx hb hml hown hts hl (MX5_millOf l D q ad (xx 9 0 0) (xx 0) x7_16 2) gL_areAll_X5_millOf rfl kX5_millOf ⟨Nat.le_of_ble_eq_true rfl, Nat.le_of_ble_eq_true rfl⟩ rfl rfl (hP.sub (ws' := (wXN q ad (xx 9 0 0) (xx 0))) [0, 1, 2, 3, 4, 5, 6, 7, 8, 9, 10] rfl) (dT (hD.sub (ws' := (wXN q ad (xx 9 0 0) (xx 0))) [0, 1, 2, 3, 4, 5, 6, 7, 8, 9, 10] (by decide) rfl)) hG (ci := 3) rfl rfl rfl rfl (Nat.le_of_ble_eq_true rfl) dL_areAll_69 ⟨Nat.zero_le _, Nat.zero_le _⟩ ?_
            obtain ⟨r_31, er_31⟩ : ∃ z, z = (mX5_millOf (xx 0) x7_16 2) := ⟨_, rfl⟩
            rw [← er_31]
            replace hR := lt_e hR er_31
            refine lv_iload hx hb dL_areAll_72 (lv_at hl 0 rfl) ?_
            refine ro_S (v := .int (mL_has r_31 x8_57)) (rest := [.int x3_57]) (As := [.int r_31, .int x8_57]) hx hb hml hown hts hl (ML_has l D q r_31 x8_57) gL_areAll_L_has rfl kL_has ⟨Nat.le_of_ble_eq_true rfl, Nat.le_of_ble_eq_true rfl⟩ rfl rfl (hP.sub (ws' := []) [] rfl) (dT (hD.sub (ws' := []) [] (by decide) rfl)) hG rfl rfl (Nat.le_of_ble_eq_true rfl) dL_areAll_74 ⟨Nat.zero_le _, Nat.zero_le _⟩ ?_
            obtain ⟨r_32, er_32⟩ : ∃ z, z = (mL_has r_31 x8_57) := ⟨_, rfl⟩
            rw [← er_32]
            replace hR := lt_e hR er_32
            refine jn_1 hR (fun F_85_33 eF_85_33 hR => ?_)
            have key_85_33 : ∀ (y85_s0_33 : Int32), lt y85_s0_33 F_85_33 = R → ∀ ls : Array Slot, lv_has ls 9 [(8, .int x8_57), (4, .int e_29), (2, .int e_27), (7, .int x7_16), (6, .int x6_57), (5, .int 0), (3, .int x3_57), (0, .ref (ad 9 0)), (1, .ref (ad 10 0))] → W p l e ({ frames := 7, cells := 0, slots := 0, locals := 152 } : Room) s m ([.ref (ad 9 0), .ref (ad 10 0)] : List Value).toArray below meth c s.heap [] 0 0 (MQ below (roQ (some (.int R))) ([.ref (ad 9 0), .ref (ad 10 0)] : List Value).toArray s 0 0 (fun _ => False)) (F0 m 85 ls [.int y85_s0_33, .int x3_57]) := by
              intro y85_s0_33 hR ls hl
              rw [eF_85_33] at hR
              replace hR := jn_e1 hR
              refine lv_iadd hx hb dL_areAll_85 ?_
              obtain ⟨e_34, ee_34⟩ : ∃ z, z = (x3_57 + y85_s0_33) := ⟨_, rfl⟩
              rw [← ee_34]
              replace hR := lt_e hR ee_34
              refine lv_istore_n (lv' := [(3, .int e_34), (8, .int x8_57), (4, .int e_29), (2, .int e_27), (7, .int x7_16), (6, .int x6_57), (5, .int 0), (0, .ref (ad 9 0)), (1, .ref (ad 10 0))]) hx hb dL_areAll_86 rfl hl (by decide) rfl (fun ls hl => ?_)
              refine lv_iload hx hb dL_areAll_87 (lv_at hl 5 rfl) ?_
              refine lv_aload_n hx hb dL_areAll_89 rfl (lv_at hl 8 rfl) ?_
              refine lv_iload hx hb dL_areAll_90 (lv_at hl 1 rfl) ?_
              refine va_iald hx hb hG.1 hP 75 0 rfl rfl (ix_t (i := x8_57) (x := (x8_57).toInt) (n := 24) rfl (by omega)) dL_areAll_92 ?_
              refine lv_iconst (v := 1) hx hb dL_areAll_93 (by decide) ?_
              refine jn_1 hR (fun F_105_35 eF_105_35 hR => ?_)
              have key_105_35 : ∀ (y105_s0_35 : Int32), lt y105_s0_35 F_105_35 = R → ∀ ls : Array Slot, lv_has ls 9 [(3, .int e_34), (8, .int x8_57), (4, .int e_29), (2, .int e_27), (7, .int x7_16), (6, .int x6_57), (5, .int 0), (0, .ref (ad 9 0)), (1, .ref (ad 10 0))] → W p l e ({ frames := 7, cells := 0, slots := 0, locals := 152 } : Room) s m ([.ref (ad 9 0), .ref (ad 10 0)] : List Value).toArray below meth c s.heap [] 0 0 (MQ below (roQ (some (.int R))) ([.ref (ad 9 0), .ref (ad 10 0)] : List Value).toArray s 0 0 (fun _ => False)) (F0 m 105 ls [.int y105_s0_35, .int x6_57]) := by
                intro y105_s0_35 hR ls hl
                rw [eF_105_35] at hR
                replace hR := jn_e1 hR
                refine lv_iadd hx hb dL_areAll_105 ?_
                obtain ⟨e_36, ee_36⟩ : ∃ z, z = (x6_57 + y105_s0_35) := ⟨_, rfl⟩
                rw [← ee_36]
                replace hR := lt_e hR ee_36
                refine lv_istore (lv' := [(6, .int e_36), (3, .int e_34), (8, .int x8_57), (4, .int e_29), (2, .int e_27), (7, .int x7_16), (5, .int 0), (0, .ref (ad 9 0)), (1, .ref (ad 10 0))]) hx hb dL_areAll_106 hl (by decide) rfl (fun ls hl => ?_)
                refine lv_iinc (v := (x8_57 + 1)) (lv' := [(8, .int (x8_57 + 1)), (6, .int e_36), (3, .int e_34), (4, .int e_29), (2, .int e_27), (7, .int x7_16), (5, .int 0), (0, .ref (ad 9 0)), (1, .ref (ad 10 0))]) hx hb dL_areAll_108 hl (k := 2) rfl rfl (by decide) rfl (fun ls hl => ?_)
                refine lv_goto (tgt := 57) hx hb dL_areAll_111 (by decide) ?_
                exact ih_57 (x8_57 + 1) e_36 e_34 (trN hn_57) (k_up hk_57 c_30) hR ls (lv_sub hl [0, 3, 4, 5, 1, 6, 2, 7, 8] rfl)
              refine lv_icmp_le (tgt := 104) hx hb dL_areAll_94 (by decide) (fun c_37 => ?_) (fun c_37 => ?_)
              · rw [if_pos c_37] at hR
                have tc_37 : ((xx 10 0) (x8_57).toNatClampNeg).toInt ≤ 1 := i_le.mp c_37
                refine lv_iconst (v := 0) hx hb dL_areAll_104 (by decide) ?_
                exact key_105_35 0 hR ls (lv_sub hl [0, 1, 2, 3, 4, 5, 6, 7, 8] rfl)
              · rw [if_neg c_37] at hR
                have tc_37 : ¬ ((xx 10 0) (x8_57).toNatClampNeg).toInt ≤ 1 := fun z => c_37 (i_le.mpr z)
                refine lv_aload_n hx hb dL_areAll_97 rfl (lv_at hl 8 rfl) ?_
                refine lv_iload hx hb dL_areAll_98 (lv_at hl 1 rfl) ?_
                refine va_iald hx hb hG.1 hP 75 0 rfl rfl (ix_t (i := x8_57) (x := (x8_57).toInt) (n := 24) rfl (by omega)) dL_areAll_100 ?_
                refine lv_goto (tgt := 105) hx hb dL_areAll_101 (by decide) ?_
                exact key_105_35 ((xx 10 0) (x8_57).toNatClampNeg) hR ls (lv_sub hl [0, 1, 2, 3, 4, 5, 6, 7, 8] rfl)
            refine lv_if_eq (tgt := 84) hx hb dL_areAll_77 (by decide) (fun c_38 => ?_) (fun c_38 => ?_)
            · rw [if_pos c_38] at hR
              refine lv_iconst (v := 0) hx hb dL_areAll_84 (by decide) ?_
              exact key_85_33 0 hR ls (lv_sub hl [0, 1, 2, 3, 4, 5, 6, 7, 8] rfl)
            · rw [if_neg c_38] at hR
              refine lv_iconst (v := 1) hx hb dL_areAll_80 (by decide) ?_
              refine lv_goto (tgt := 85) hx hb dL_areAll_81 (by decide) ?_
              exact key_85_33 1 hR ls (lv_sub hl [0, 1, 2, 3, 4, 5, 6, 7, 8] rfl)
        exact key_57 _ 0 x6_16 x3_16 rfl (by decide) hR ls hl
  exact key_16 _ 0 0 0 0 0 rfl hR ls hl
