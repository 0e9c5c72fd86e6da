theorem cl_ne {a b : Int32} {u v : Int} (ha : a.toInt = u) (hb : b.toInt = v) (h : 0 ≤ u ∧ 0 ≤ v ∧ u ≠ v) : a.toNatClampNeg ≠ b.toNatClampNeg := by
  intro e
  have h1 : (a.toNatClampNeg : Int) = u := by
    show ((a.toInt.toNat : Nat) : Int) = u
    rw [ha]; omega
  have h2 : (b.toNatClampNeg : Int) = v := by
    show ((b.toInt.toNat : Nat) : Int) = v
    rw [hb]; omega
  rw [e] at h1
  omega
def mX6_complain (x : Nat → Nat → Int32) (house mill kind hour : Int32) : Int32 × (Nat → Nat → Int32) := (if 0 ≤ (mX6_wrong x 0 house mill kind hour) then (lt (mX6_copies x) (fun q_2 => (lt (mX6_complains q_2 148 house mill kind hour) (fun q_3 => (if 0 ≤ q_3.1 then (lt (mX6_takes q_3.2) (fun q_5 => (q_3.1, q_5))) else (if (-14) < q_3.1 then (q_3.1, q_3.2) else (lt (mX6_takes q_3.2) (fun q_7 => (q_3.1, q_7))))))))) else ((mX6_wrong x 0 house mill kind hour), x))
theorem kX6_complain : yX6_complain.cls = RX6 ∧ yX6_complain.cls ≠ "java/lang/invoke/MethodHandle" ∧ yX6_complain.cls ≠ "java/lang/invoke/VarHandle" ∧ (parseMethodDescriptor yX6_complain.desc).map (fun d => d.parameters.length) = some 4 := by decide +kernel
set_option maxHeartbeats 4000000 in
set_option maxRecDepth 100000 in
theorem MX6_complain (l : Launch) (D : va_G) (q : Nat → ClassId) (h : Nat → Nat) (x : Nat → Nat → Int32) (house mill kind hour : Int32) (hC : cntP x 0) (hkn : 0 ≤ (x 4 0).toInt ∧ (x 4 0).toInt < 5) : muM l D (tyq q) yX6_complain wsX6_complain ({ frames := 7, cells := 0, slots := 0, locals := 174 } : Room) [.ref (h 0), .int house, .int mill, .int kind, .int hour] (wM q h x) (some (.int (mX6_complain x house mill kind hour).1)) (wM q h (mX6_complain x house mill kind hour).2) := by
  obtain ⟨R, hR⟩ : ∃ z, (mX6_complain x house mill kind hour) = z := ⟨_, rfl⟩
  rw [hR]
  unfold mX6_complain at hR
  refine muM.of (cc := cX6_complain) (maxL := 7) (ret := (some .int)) (by decide) rfl (Nat.le_of_ble_eq_true rfl) ?_
  intro p e s m below meth c ls A hx hb hr hk hml hown hts hP hD hG hA hl
  have hS : va_S A s.heap s.heap [] := va_S.rf
  have hl : lv_has ls 7 [(0, .ref (h 0)), (1, .int house), (2, .int mill), (3, .int kind), (4, .int hour)] := hl
  refine lv_aload_n hx hb dX6_complain_0 rfl (lv_at hl 0 rfl) ?_
  refine lv_iconst (v := 0) hx hb dX6_complain_1 (by decide) ?_
  refine lv_iload_n hx hb dX6_complain_2 rfl (lv_at hl 1 rfl) ?_
  refine lv_iload_n hx hb dX6_complain_3 rfl (lv_at hl 2 rfl) ?_
  refine lv_iload_n hx hb dX6_complain_4 rfl (lv_at hl 3 rfl) ?_
  refine lv_iload hx hb dX6_complain_5 (lv_at hl 4 rfl) ?_
  refine ro_V (v := .int (mX6_wrong x 0 house mill kind hour)) (rest := []) (As := [.int 0, .int house, .int mill, .int kind, .int hour]) hx hb hml hown hts hl (MX6_wrong l D q h x 0 house mill kind hour (rg_t (i := 0) (x := 0) (show (0 : Int32).toInt = 0 from rfl) (by omega))) gX6_complain_X6_wrong rfl kX6_wrong ⟨Nat.le_of_ble_eq_true rfl, Nat.le_of_ble_eq_true rfl⟩ rfl rfl hP (dT hD) hG (ci := 4) rfl rfl rfl rfl (Nat.le_of_ble_eq_true rfl) dX6_complain_7 ⟨Nat.zero_le _, Nat.zero_le _⟩ ?_
  refine lv_istore (lv' := [(5, .int (mX6_wrong x 0 house mill kind hour)), (0, .ref (h 0)), (1, .int house), (2, .int mill), (3, .int kind), (4, .int hour)]) hx hb dX6_complain_10 hl (by decide) rfl (fun ls hl => ?_)
  refine lv_iload hx hb dX6_complain_12 (lv_at hl 0 rfl) ?_
  refine lv_if_ge (tgt := 20) hx hb dX6_complain_14 (by decide) (fun c_1 => ?_) (fun c_1 => ?_)
  · rw [if_pos c_1] at hR
    have tc_1 : 0 ≤ (mX6_wrong x 0 house mill kind hour).toInt := i_le.mp c_1
    have fc_1 := f_wrongP hC c_1
    refine lv_aload_n hx hb dX6_complain_20 rfl (lv_at hl 1 rfl) ?_
    obtain ⟨q_2, eq_2⟩ : ∃ z, z = (mX6_copies x) := ⟨_, rfl⟩
    have hM := MX6_copies l D q h x
    rw [← eq_2] at hM
    replace hR := lt_e hR eq_2
    refine mu_V (D := D) (ws := (wM q h x)) (ws' := (wM q h q_2)) (rest := []) (As := []) hx hb hml hown hts hl hM gX6_complain_X6_copies rfl kX6_copies ⟨Nat.le_of_ble_eq_true rfl, Nat.le_of_ble_eq_true rfl⟩ rfl rfl hP hD hS hG [0, 1, 2, 3, 4] rfl rfl (by decide) [5, 6, 7, 8, 9] rfl (by decide) rfl (ci := 4) rfl rfl rfl rfl (Nat.le_of_ble_eq_true rfl) dX6_complain_21 ⟨Nat.zero_le _, Nat.zero_le _⟩ (fun H locs hP hD hS => ?_)
    refine lv_aload_n hx hb dX6_complain_24 rfl (lv_at hl 1 rfl) ?_
    refine lv_sipush (v := 148) hx hb dX6_complain_25 (by decide) ?_
    refine lv_iload_n hx hb dX6_complain_28 rfl (lv_at hl 2 rfl) ?_
    refine lv_iload_n hx hb dX6_complain_29 rfl (lv_at hl 3 rfl) ?_
    refine lv_iload_n hx hb dX6_complain_30 rfl (lv_at hl 4 rfl) ?_
    refine lv_iload hx hb dX6_complain_31 (lv_at hl 5 rfl) ?_
    obtain ⟨q_3, eq_3⟩ : ∃ z, z = (mX6_complains q_2 148 house mill kind hour) := ⟨_, rfl⟩
    have hM := MX6_complains l D q h q_2 148 house mill kind hour (rg_t (i := 148) (x := 148) (show (148 : Int32).toInt = 148 from rfl) (by omega)) (rg_t (i := house) (x := (house).toInt) rfl (by omega)) (rg_t (i := mill) (x := (mill).toInt) rfl (by omega)) (rg_t (i := kind) (x := (kind).toInt) rfl (by omega)) (rg_t (i := hour) (x := (hour).toInt) rfl (by omega))
    rw [← eq_3] at hM
    replace hR := lt_e hR eq_3
    refine mu_V (D := D) (ws := (wM q h q_2)) (ws' := (wM q h q_3.2)) (rest := []) (As := [.int 148, .int house, .int mill, .int kind, .int hour]) hx hb hml hown hts hl hM gX6_complain_X6_complains rfl kX6_complains ⟨Nat.le_of_ble_eq_true rfl, Nat.le_of_ble_eq_true rfl⟩ rfl rfl hP hD hS hG [0, 1, 2, 3, 4] rfl rfl (by decide) [5, 6, 7, 8, 9] rfl (by decide) rfl (ci := 4) rfl rfl rfl rfl (Nat.le_of_ble_eq_true rfl) dX6_complain_33 ⟨Nat.zero_le _, Nat.zero_le _⟩ (fun H locs hP hD hS => ?_)
    refine lv_istore (lv' := [(6, .int q_3.1), (5, .int (mX6_wrong x 0 house mill kind hour)), (0, .ref (h 0)), (1, .int house), (2, .int mill), (3, .int kind), (4, .int hour)]) hx hb dX6_complain_36 hl (by decide) rfl (fun ls hl => ?_)
    refine lv_iload hx hb dX6_complain_38 (lv_at hl 0 rfl) ?_
    refine lv_if_ge (tgt := 50) hx hb dX6_complain_40 (by decide) (fun c_4 => ?_) (fun c_4 => ?_)
    · rw [if_pos c_4] at hR
      have tc_4 : 0 ≤ q_3.1.toInt := i_le.mp c_4
      refine lv_aload_n hx hb dX6_complain_50 rfl (lv_at hl 2 rfl) ?_
      obtain ⟨q_5, eq_5⟩ : ∃ z, z = (mX6_takes q_3.2) := ⟨_, rfl⟩
      have hM := MX6_takes l D q h q_3.2 (by rw [show q_3.2 4 = x 4 from (by rw [eq_3]; exact (k4_complains _ _ _ _ _ _).trans (by rw [eq_2]; exact (k4_copies _).trans rfl))]; exact hkn)
      rw [← eq_5] at hM
      replace hR := lt_e hR eq_5
      refine mu_V (D := D) (ws := (wM q h q_3.2)) (ws' := (wM q h q_5)) (rest := []) (As := []) hx hb hml hown hts hl hM gX6_complain_X6_takes rfl kX6_takes ⟨Nat.le_of_ble_eq_true rfl, Nat.le_of_ble_eq_true rfl⟩ rfl rfl hP hD hS hG [0, 1, 2, 3, 4] rfl rfl (by decide) [5, 6, 7, 8, 9] rfl (by decide) rfl (ci := 4) rfl rfl rfl rfl (Nat.le_of_ble_eq_true rfl) dX6_complain_51 ⟨Nat.zero_le _, Nat.zero_le _⟩ (fun H locs hP hD hS => ?_)
      refine lv_iload hx hb dX6_complain_54 (lv_at hl 0 rfl) ?_
      subst hR
      exact mu_iret hx hb hr hk hA hS hP rfl dX6_complain_56
    · rw [if_neg c_4] at hR
      have tc_4 : ¬ 0 ≤ q_3.1.toInt := fun z => c_4 (i_le.mpr z)
      refine lv_iload hx hb dX6_complain_43 (lv_at hl 0 rfl) ?_
      refine lv_bipush (v := (-14)) hx hb dX6_complain_45 (by decide) ?_
      refine lv_icmp_gt (tgt := 54) hx hb dX6_complain_47 (by decide) (fun c_6 => ?_) (fun c_6 => ?_)
      · rw [if_pos c_6] at hR
        have tc_6 : (-14) < q_3.1.toInt := i_lt.mp c_6
        refine lv_iload hx hb dX6_complain_54 (lv_at hl 0 rfl) ?_
        subst hR
        exact mu_iret hx hb hr hk hA hS hP rfl dX6_complain_56
      · rw [if_neg c_6] at hR
        have tc_6 : ¬ (-14) < q_3.1.toInt := fun z => c_6 (i_lt.mpr z)
        refine lv_aload_n hx hb dX6_complain_50 rfl (lv_at hl 2 rfl) ?_
        obtain ⟨q_7, eq_7⟩ : ∃ z, z = (mX6_takes q_3.2) := ⟨_, rfl⟩
        have hM := MX6_takes l D q h q_3.2 (by rw [show q_3.2 4 = x 4 from (by rw [eq_3]; exact (k4_complains _ _ _ _ _ _).trans (by rw [eq_2]; exact (k4_copies _).trans rfl))]; exact hkn)
        rw [← eq_7] at hM
        replace hR := lt_e hR eq_7
        refine mu_V (D := D) (ws := (wM q h q_3.2)) (ws' := (wM q h q_7)) (rest := []) (As := []) hx hb hml hown hts hl hM gX6_complain_X6_takes rfl kX6_takes ⟨Nat.le_of_ble_eq_true rfl, Nat.le_of_ble_eq_true rfl⟩ rfl rfl hP hD hS hG [0, 1, 2, 3, 4] rfl rfl (by decide) [5, 6, 7, 8, 9] rfl (by decide) rfl (ci := 4) rfl rfl rfl rfl (Nat.le_of_ble_eq_true rfl) dX6_complain_51 ⟨Nat.zero_le _, Nat.zero_le _⟩ (fun H locs hP hD hS => ?_)
        refine lv_iload hx hb dX6_complain_54 (lv_at hl 0 rfl) ?_
        subst hR
        exact mu_iret hx hb hr hk hA hS hP rfl dX6_complain_56
  · rw [if_neg c_1] at hR
    have tc_1 : ¬ 0 ≤ (mX6_wrong x 0 house mill kind hour).toInt := fun z => c_1 (i_le.mpr z)
    refine lv_iload hx hb dX6_complain_17 (lv_at hl 0 rfl) ?_
    subst hR
    exact mu_iret hx hb hr hk hA hS hP rfl dX6_complain_19

def mX6_sue (x : Nat → Nat → Int32) (mill house hour : Int32) : Int32 × (Nat → Nat → Int32) := (if (mX6_isMill x 0 mill) = 0 then ((-1), x) else (if (mX6_isHouse x 0 house) = 0 then ((-1), x) else (if (mX6_isHour hour) = 0 then ((-1), x) else (if (mX6_isTied x 0 mill hour) = 0 then ((-4), x) else (if (mX6_standsAny x house mill hour) = 0 then ((-4), x) else (lt (mX6_remembers x) (fun q_6 => (lt (setA q_6 0 (upd (q_6 0) (64 : Int32).toNatClampNeg (((q_6 0) 64) + 1))) (fun x_7 => (if ((x_7 0) 61) < (((x_7 0) ((34 + hour)).toNatClampNeg) * (mX6_ones ((x_7 0) ((((0 + 1) + (3 * mill)) + 2)).toNatClampNeg))) then (lt (setA x_7 0 (upd (x_7 0) (65 : Int32).toNatClampNeg (((x_7 0) 65) + 1))) (fun x_9 => (lt (setA x_9 0 (upd (x_9 0) ((((0 + 14) + (2 * house)) + 1) : Int32).toNatClampNeg (((x_9 0) ((((0 + 14) + (2 * house)) + 1)).toNatClampNeg) + 1))) (fun x_10 => (lt (mX6_clears x_10 house mill hour) (fun q_11 => (if ((q_11 0) 60) ≤ (mX6_points q_11 0 mill hour) then (1, q_11) else (lt (setA q_11 0 (upd (q_11 0) ((((0 + 1) + (3 * mill)) + 2) : Int32).toNatClampNeg (((q_11 0) ((((0 + 1) + (3 * mill)) + 2)).toNatClampNeg) &&& ((1 <<< (hour &&& 31)) ^^^ (-1))))) (fun x_13 => (1, x_13)))))))))) else (0, x_7)))))))))))
theorem kX6_sue : yX6_sue.cls = RX6 ∧ yX6_sue.cls ≠ "java/lang/invoke/MethodHandle" ∧ yX6_sue.cls ≠ "java/lang/invoke/VarHandle" ∧ (parseMethodDescriptor yX6_sue.desc).map (fun d => d.parameters.length) = some 3 := by decide +kernel
theorem iX6_sue_X6 : ∀ w ∈ wsX60, w ∈ wsX6_sue := fun w h => (List.mem_cons_of_mem _ (List.mem_append_right _ h))
set_option maxHeartbeats 4000000 in
set_option maxRecDepth 100000 in
theorem MX6_sue (l : Launch) (D : va_G) (q : Nat → ClassId) (h : Nat → Nat) (x : Nat → Nat → Int32) (mill house hour : Int32) (hC : cntP x 0) (hkn : 0 ≤ (x 4 0).toInt ∧ (x 4 0).toInt < 5) : muM l D (tyq q) yX6_sue wsX6_sue ({ frames := 2, cells := 0, slots := 0, locals := 48 } : Room) [.ref (h 0), .int mill, .int house, .int hour] (wM q h x) (some (.int (mX6_sue x mill house hour).1)) (wM q h (mX6_sue x mill house hour).2) := by
  obtain ⟨R, hR⟩ : ∃ z, (mX6_sue x mill house hour) = z := ⟨_, rfl⟩
  rw [hR]
  unfold mX6_sue at hR
  refine muM.of (cc := cX6_sue) (maxL := 4) (ret := (some .int)) (by decide) rfl (Nat.le_of_ble_eq_true rfl) ?_
  intro p e s m below meth c ls A hx hb hr hk hml hown hts hP hD hG hA hl
  have hS : va_S A s.heap s.heap [] := va_S.rf
  have hl : lv_has ls 4 [(0, .ref (h 0)), (1, .int mill), (2, .int house), (3, .int hour)] := hl
  refine lv_aload_n hx hb dX6_sue_0 rfl (lv_at hl 0 rfl) ?_
  refine lv_iconst (v := 0) hx hb dX6_sue_1 (by decide) ?_
  refine lv_iload_n hx hb dX6_sue_2 rfl (lv_at hl 1 rfl) ?_
  refine ro_V (v := .int (mX6_isMill x 0 mill)) (rest := []) (As := [.int 0, .int mill]) hx hb hml hown hts hl (MX6_isMill l D q h x 0 mill (rg_t (i := 0) (x := 0) (show (0 : Int32).toInt = 0 from rfl) (by omega))) gX6_sue_X6_isMill rfl kX6_isMill ⟨Nat.le_of_ble_eq_true rfl, Nat.le_of_ble_eq_true rfl⟩ rfl rfl hP (dT hD) hG (ci := 4) rfl rfl rfl rfl (Nat.le_of_ble_eq_true rfl) dX6_sue_3 ⟨Nat.zero_le _, Nat.zero_le _⟩ ?_
  refine lv_if_eq (tgt := 25) hx hb dX6_sue_6 (by decide) (fun c_1 => ?_) (fun c_1 => ?_)
  · rw [if_pos c_1] at hR
    refine lv_iconst (v := (-1)) hx hb dX6_sue_25 (by decide) ?_
    subst hR
    exact mu_iret hx hb hr hk hA hS hP rfl dX6_sue_26
  · rw [if_neg c_1] at hR
    have fc_1 := f_isMill hC c_1
    refine lv_aload_n hx hb dX6_sue_9 rfl (lv_at hl 0 rfl) ?_
    refine lv_iconst (v := 0) hx hb dX6_sue_10 (by decide) ?_
    refine lv_iload_n hx hb dX6_sue_11 rfl (lv_at hl 2 rfl) ?_
    refine ro_V (v := .int (mX6_isHouse x 0 house)) (rest := []) (As := [.int 0, .int house]) hx hb hml hown hts hl (MX6_isHouse l D q h x 0 house (rg_t (i := 0) (x := 0) (show (0 : Int32).toInt = 0 from rfl) (by omega))) gX6_sue_X6_isHouse rfl kX6_isHouse ⟨Nat.le_of_ble_eq_true rfl, Nat.le_of_ble_eq_true rfl⟩ rfl rfl hP (dT hD) hG (ci := 4) rfl rfl rfl rfl (Nat.le_of_ble_eq_true rfl) dX6_sue_12 ⟨Nat.zero_le _, Nat.zero_le _⟩ ?_
    refine lv_if_eq (tgt := 25) hx hb dX6_sue_15 (by decide) (fun c_2 => ?_) (fun c_2 => ?_)
    · rw [if_pos c_2] at hR
      refine lv_iconst (v := (-1)) hx hb dX6_sue_25 (by decide) ?_
      subst hR
      exact mu_iret hx hb hr hk hA hS hP rfl dX6_sue_26
    · rw [if_neg c_2] at hR
      have fc_2 := f_isHouse hC c_2
      refine lv_iload_n hx hb dX6_sue_18 rfl (lv_at hl 3 rfl) ?_
      refine ro_S (v := .int (mX6_isHour hour)) (rest := []) (As := [.int hour]) hx hb hml hown hts hl (MX6_isHour l D q hour) gX6_sue_X6_isHour rfl kX6_isHour ⟨Nat.le_of_ble_eq_true rfl, Nat.le_of_ble_eq_true rfl⟩ rfl rfl (hP.sub (ws' := []) [] rfl) (dT (hD.sub (ws' := []) [] (by decide) rfl)) hG rfl rfl (Nat.le_of_ble_eq_true rfl) dX6_sue_19 ⟨Nat.zero_le _, Nat.zero_le _⟩ ?_
      refine lv_if_ne (tgt := 27) hx hb dX6_sue_22 (by decide) (fun c_3 => ?_) (fun c_3 => ?_)
      · rw [if_neg c_3] at hR
        have fc_3 := f6_isHour c_3
        refine lv_aload_n hx hb dX6_sue_27 rfl (lv_at hl 0 rfl) ?_
        refine lv_iconst (v := 0) hx hb dX6_sue_28 (by decide) ?_
        refine lv_iload_n hx hb dX6_sue_29 rfl (lv_at hl 1 rfl) ?_
        refine lv_iload_n hx hb dX6_sue_30 rfl (lv_at hl 3 rfl) ?_
        refine ro_V (v := .int (mX6_isTied x 0 mill hour)) (rest := []) (As := [.int 0, .int mill, .int hour]) hx hb hml hown hts hl (MX6_isTied l D q h x 0 mill hour (rg_t (i := 0) (x := 0) (show (0 : Int32).toInt = 0 from rfl) (by omega)) (rg_t (i := mill) (x := (mill).toInt) rfl (by omega))) gX6_sue_X6_isTied rfl kX6_isTied ⟨Nat.le_of_ble_eq_true rfl, Nat.le_of_ble_eq_true rfl⟩ rfl rfl hP (dT hD) hG (ci := 4) rfl rfl rfl rfl (Nat.le_of_ble_eq_true rfl) dX6_sue_31 ⟨Nat.zero_le _, Nat.zero_le _⟩ ?_
        refine lv_if_eq (tgt := 47) hx hb dX6_sue_34 (by decide) (fun c_4 => ?_) (fun c_4 => ?_)
        · rw [if_pos c_4] at hR
          refine lv_bipush (v := (-4)) hx hb dX6_sue_47 (by decide) ?_
          subst hR
          exact mu_iret hx hb hr hk hA hS hP rfl dX6_sue_49
        · rw [if_neg c_4] at hR
          refine lv_aload_n hx hb dX6_sue_37 rfl (lv_at hl 0 rfl) ?_
          refine lv_iload_n hx hb dX6_sue_38 rfl (lv_at hl 2 rfl) ?_
          refine lv_iload_n hx hb dX6_sue_39 rfl (lv_at hl 1 rfl) ?_
          refine lv_iload_n hx hb dX6_sue_40 rfl (lv_at hl 3 rfl) ?_
          refine ro_V (v := .int (mX6_standsAny x house mill hour)) (rest := []) (As := [.int house, .int mill, .int hour]) hx hb hml hown hts hl (MX6_standsAny l D q h x house mill hour (rg_t (i := house) (x := (house).toInt) rfl (by omega)) (rg_t (i := mill) (x := (mill).toInt) rfl (by omega))) gX6_sue_X6_standsAny rfl kX6_standsAny ⟨Nat.le_of_ble_eq_true rfl, Nat.le_of_ble_eq_true rfl⟩ rfl rfl hP (dT hD) hG (ci := 4) rfl rfl rfl rfl (Nat.le_of_ble_eq_true rfl) dX6_sue_41 ⟨Nat.zero_le _, Nat.zero_le _⟩ ?_
          refine lv_if_ne (tgt := 50) hx hb dX6_sue_44 (by decide) (fun c_5 => ?_) (fun c_5 => ?_)
          · rw [if_neg c_5] at hR
            refine lv_aload_n hx hb dX6_sue_50 rfl (lv_at hl 0 rfl) ?_
            obtain ⟨q_6, eq_6⟩ : ∃ z, z = (mX6_remembers x) := ⟨_, rfl⟩
            have hM := MX6_remembers l D q h x hkn
            rw [← eq_6] at hM
            replace hR := lt_e hR eq_6
            refine mu_V (D := D) (ws := (wM q h x)) (ws' := (wM q h q_6)) (rest := []) (As := []) hx hb hml hown hts hl hM gX6_sue_X6_remembers rfl kX6_remembers ⟨Nat.le_of_ble_eq_true rfl, Nat.le_of_ble_eq_true rfl⟩ rfl rfl hP hD hS hG [0, 1, 2, 3, 4] rfl rfl (by decide) [5, 6, 7, 8, 9] rfl (by decide) rfl (ci := 4) rfl rfl rfl rfl (Nat.le_of_ble_eq_true rfl) dX6_sue_51 ⟨Nat.zero_le _, Nat.zero_le _⟩ (fun H locs hP hD hS => ?_)
            refine lv_aload_n hx hb dX6_sue_54 rfl (lv_at hl 0 rfl) ?_
            refine va_get (D := D) (ci := 4) (v := .ref (h 1)) (C := RX6) (T := TX6) (N := 7) hx hb hts iX6_sue_X6 hown hG.1 hP 0 rfl rfl 0 (by decide) (hts (.fieldLink RX6 7 "MillComplaintsModel" "s" "[I") (List.mem_of_getElem? (i := 1) rfl)) (fun _ h9 => h9) rfl dX6_sue_55 ?_
            refine lv_bipush (v := 64) hx hb dX6_sue_58 (by decide) ?_
            refine lv_dup2_11 hx hb dX6_sue_60 rfl rfl ?_
            refine va_iald hx hb hG.1 hP 1 0 rfl rfl (ix_t (i := 64) (x := 64) (n := 296) (show (64 : Int32).toInt = 64 from rfl) (by omega)) dX6_sue_61 ?_
            refine lv_tope (y := ((q_6 0) 64)) (congrArg _ (by decide)) ?_
            refine lv_iconst (v := 1) hx hb dX6_sue_62 (by decide) ?_
            refine lv_iadd hx hb dX6_sue_63 ?_
            refine va_iast hx hb hG.1 hP hD hS 1 0 rfl rfl (ix_t (i := 64) (x := 64) (n := 296) (show (64 : Int32).toInt = 64 from rfl) (by omega)) dX6_sue_64 (fun H locs hP hD hS => ?_)
            have hP : va_P D vwCl (wM q h (setA q_6 0 (upd (q_6 0) (64 : Int32).toNatClampNeg (((q_6 0) 64) + 1)))) H := hP
            have hD : va_D A (wM q h (setA q_6 0 (upd (q_6 0) (64 : Int32).toNatClampNeg (((q_6 0) 64) + 1)))) := hD
            obtain ⟨x_7, ex_7⟩ : ∃ z, z = (setA q_6 0 (upd (q_6 0) (64 : Int32).toNatClampNeg (((q_6 0) 64) + 1))) := ⟨_, rfl⟩
            rw [← ex_7] at hP hD
            replace hR := lt_e hR ex_7
            refine lv_aload_n hx hb dX6_sue_65 rfl (lv_at hl 0 rfl) ?_
            refine va_get (D := D) (ci := 4) (v := .ref (h 1)) (C := RX6) (T := TX6) (N := 7) hx hb hts iX6_sue_X6 hown hG.1 hP 0 rfl rfl 0 (by decide) (hts (.fieldLink RX6 7 "MillComplaintsModel" "s" "[I") (List.mem_of_getElem? (i := 1) rfl)) (fun _ h9 => h9) rfl dX6_sue_66 ?_
            refine lv_bipush (v := 34) hx hb dX6_sue_69 (by decide) ?_
            refine lv_iload_n hx hb dX6_sue_71 rfl (lv_at hl 3 rfl) ?_
            refine lv_iadd hx hb dX6_sue_72 ?_
            refine va_iald hx hb hG.1 hP 1 0 rfl rfl (ix_t (i := (34 + hour)) (x := (34 + (hour).toInt)) (n := 296) (ti_add (show (34 : Int32).toInt = 34 from rfl) rfl (by omega)) (by omega)) dX6_sue_73 ?_
            refine lv_aload_n hx hb dX6_sue_74 rfl (lv_at hl 0 rfl) ?_
            refine va_get (D := D) (ci := 4) (v := .ref (h 1)) (C := RX6) (T := TX6) (N := 7) hx hb hts iX6_sue_X6 hown hG.1 hP 0 rfl rfl 0 (by decide) (hts (.fieldLink RX6 7 "MillComplaintsModel" "s" "[I") (List.mem_of_getElem? (i := 1) rfl)) (fun _ h9 => h9) rfl dX6_sue_75 ?_
            refine lv_iconst (v := 0) hx hb dX6_sue_78 (by decide) ?_
            refine lv_iload_n hx hb dX6_sue_79 rfl (lv_at hl 1 rfl) ?_
            refine lv_iconst (v := 2) hx hb dX6_sue_80 (by decide) ?_
            refine ro_S (v := .int (((0 + 1) + (3 * mill)) + 2)) (rest := [.ref (h 1), .int ((x_7 0) ((34 + hour)).toNatClampNeg)]) (As := [.int 0, .int mill, .int 2]) hx hb hml hown hts hl (MX6_ofMill l D q 0 mill 2) gX6_sue_X6_ofMill rfl kX6_ofMill ⟨Nat.le_of_ble_eq_true rfl, Nat.le_of_ble_eq_true rfl⟩ rfl rfl (hP.sub (ws' := []) [] rfl) (dT (hD.sub (ws' := []) [] (by decide) rfl)) hG rfl rfl (Nat.le_of_ble_eq_true rfl) dX6_sue_81 ⟨Nat.zero_le _, Nat.zero_le _⟩ ?_
            refine va_iald hx hb hG.1 hP 1 0 rfl rfl (ix_t (i := (((0 + 1) + (3 * mill)) + 2)) (x := (((0 + 1) + (3 * (mill).toInt)) + 2)) (n := 296) (ti_add (ti_add (ti_add (show (0 : Int32).toInt = 0 from rfl) (show (1 : Int32).toInt = 1 from rfl) (by omega)) (ti_mul (show (3 : Int32).toInt = 3 from rfl) rfl (by omega)) (by omega)) (show (2 : Int32).toInt = 2 from rfl) (by omega)) (by omega)) dX6_sue_84 ?_
            refine ro_S (v := .int (mX6_ones ((x_7 0) ((((0 + 1) + (3 * mill)) + 2)).toNatClampNeg))) (rest := [.int ((x_7 0) ((34 + hour)).toNatClampNeg)]) (As := [.int ((x_7 0) ((((0 + 1) + (3 * mill)) + 2)).toNatClampNeg)]) hx hb hml hown hts hl (MX6_ones l D q ((x_7 0) ((((0 + 1) + (3 * mill)) + 2)).toNatClampNeg)) gX6_sue_X6_ones rfl kX6_ones ⟨Nat.le_of_ble_eq_true rfl, Nat.le_of_ble_eq_true rfl⟩ rfl rfl (hP.sub (ws' := []) [] rfl) (dT (hD.sub (ws' := []) [] (by decide) rfl)) hG rfl rfl (Nat.le_of_ble_eq_true rfl) dX6_sue_85 ⟨Nat.zero_le _, Nat.zero_le _⟩ ?_
            refine lv_imul hx hb dX6_sue_88 ?_
            refine lv_aload_n hx hb dX6_sue_89 rfl (lv_at hl 0 rfl) ?_
            refine va_get (D := D) (ci := 4) (v := .ref (h 1)) (C := RX6) (T := TX6) (N := 7) hx hb hts iX6_sue_X6 hown hG.1 hP 0 rfl rfl 0 (by decide) (hts (.fieldLink RX6 7 "MillComplaintsModel" "s" "[I") (List.mem_of_getElem? (i := 1) rfl)) (fun _ h9 => h9) rfl dX6_sue_90 ?_
            refine lv_bipush (v := 61) hx hb dX6_sue_93 (by decide) ?_
            refine va_iald hx hb hG.1 hP 1 0 rfl rfl (ix_t (i := 61) (x := 61) (n := 296) (show (61 : Int32).toInt = 61 from rfl) (by omega)) dX6_sue_95 ?_
            refine lv_tope (y := ((x_7 0) 61)) (congrArg _ (by decide)) ?_
            refine lv_icmp_gt (tgt := 101) hx hb dX6_sue_96 (by decide) (fun c_8 => ?_) (fun c_8 => ?_)
            · rw [if_pos c_8] at hR
              have tc_8 : ((x_7 0) 61).toInt < (((x_7 0) ((34 + hour)).toNatClampNeg) * (mX6_ones ((x_7 0) ((((0 + 1) + (3 * mill)) + 2)).toNatClampNeg))).toInt := i_lt.mp c_8
              refine lv_aload_n hx hb dX6_sue_101 rfl (lv_at hl 0 rfl) ?_
              refine va_get (D := D) (ci := 4) (v := .ref (h 1)) (C := RX6) (T := TX6) (N := 7) hx hb hts iX6_sue_X6 hown hG.1 hP 0 rfl rfl 0 (by decide) (hts (.fieldLink RX6 7 "MillComplaintsModel" "s" "[I") (List.mem_of_getElem? (i := 1) rfl)) (fun _ h9 => h9) rfl dX6_sue_102 ?_
              refine lv_bipush (v := 65) hx hb dX6_sue_105 (by decide) ?_
              refine lv_dup2_11 hx hb dX6_sue_107 rfl rfl ?_
              refine va_iald hx hb hG.1 hP 1 0 rfl rfl (ix_t (i := 65) (x := 65) (n := 296) (show (65 : Int32).toInt = 65 from rfl) (by omega)) dX6_sue_108 ?_
              refine lv_tope (y := ((x_7 0) 65)) (congrArg _ (by decide)) ?_
              refine lv_iconst (v := 1) hx hb dX6_sue_109 (by decide) ?_
              refine lv_iadd hx hb dX6_sue_110 ?_
              refine va_iast hx hb hG.1 hP hD hS 1 0 rfl rfl (ix_t (i := 65) (x := 65) (n := 296) (show (65 : Int32).toInt = 65 from rfl) (by omega)) dX6_sue_111 (fun H locs hP hD hS => ?_)
              have hP : va_P D vwCl (wM q h (setA x_7 0 (upd (x_7 0) (65 : Int32).toNatClampNeg (((x_7 0) 65) + 1)))) H := hP
              have hD : va_D A (wM q h (setA x_7 0 (upd (x_7 0) (65 : Int32).toNatClampNeg (((x_7 0) 65) + 1)))) := hD
              obtain ⟨x_9, ex_9⟩ : ∃ z, z = (setA x_7 0 (upd (x_7 0) (65 : Int32).toNatClampNeg (((x_7 0) 65) + 1))) := ⟨_, rfl⟩
              rw [← ex_9] at hP hD
              replace hR := lt_e hR ex_9
              refine lv_aload_n hx hb dX6_sue_112 rfl (lv_at hl 0 rfl) ?_
              refine va_get (D := D) (ci := 4) (v := .ref (h 1)) (C := RX6) (T := TX6) (N := 7) hx hb hts iX6_sue_X6 hown hG.1 hP 0 rfl rfl 0 (by decide) (hts (.fieldLink RX6 7 "MillComplaintsModel" "s" "[I") (List.mem_of_getElem? (i := 1) rfl)) (fun _ h9 => h9) rfl dX6_sue_113 ?_
              refine lv_iconst (v := 0) hx hb dX6_sue_116 (by decide) ?_
              refine lv_iload_n hx hb dX6_sue_117 rfl (lv_at hl 2 rfl) ?_
              refine lv_iconst (v := 1) hx hb dX6_sue_118 (by decide) ?_
              refine ro_S (v := .int (((0 + 14) + (2 * house)) + 1)) (rest := [.ref (h 1)]) (As := [.int 0, .int house, .int 1]) hx hb hml hown hts hl (MX6_ofHouse l D q 0 house 1) gX6_sue_X6_ofHouse rfl kX6_ofHouse ⟨Nat.le_of_ble_eq_true rfl, Nat.le_of_ble_eq_true rfl⟩ rfl rfl (hP.sub (ws' := []) [] rfl) (dT (hD.sub (ws' := []) [] (by decide) rfl)) hG rfl rfl (Nat.le_of_ble_eq_true rfl) dX6_sue_119 ⟨Nat.zero_le _, Nat.zero_le _⟩ ?_
              refine lv_dup2_11 hx hb dX6_sue_122 rfl rfl ?_
              refine va_iald hx hb hG.1 hP 1 0 rfl rfl (ix_t (i := (((0 + 14) + (2 * house)) + 1)) (x := (((0 + 14) + (2 * (house).toInt)) + 1)) (n := 296) (ti_add (ti_add (ti_add (show (0 : Int32).toInt = 0 from rfl) (show (14 : Int32).toInt = 14 from rfl) (by omega)) (ti_mul (show (2 : Int32).toInt = 2 from rfl) rfl (by omega)) (by omega)) (show (1 : Int32).toInt = 1 from rfl) (by omega)) (by omega)) dX6_sue_123 ?_
              refine lv_iconst (v := 1) hx hb dX6_sue_124 (by decide) ?_
              refine lv_iadd hx hb dX6_sue_125 ?_
              refine va_iast hx hb hG.1 hP hD hS 1 0 rfl rfl (ix_t (i := (((0 + 14) + (2 * house)) + 1)) (x := (((0 + 14) + (2 * (house).toInt)) + 1)) (n := 296) (ti_add (ti_add (ti_add (show (0 : Int32).toInt = 0 from rfl) (show (14 : Int32).toInt = 14 from rfl) (by omega)) (ti_mul (show (2 : Int32).toInt = 2 from rfl) rfl (by omega)) (by omega)) (show (1 : Int32).toInt = 1 from rfl) (by omega)) (by omega)) dX6_sue_126 (fun H locs hP hD hS => ?_)
              have hP : va_P D vwCl (wM q h (setA x_9 0 (upd (x_9 0) ((((0 + 14) + (2 * house)) + 1) : Int32).toNatClampNeg (((x_9 0) ((((0 + 14) + (2 * house)) + 1)).toNatClampNeg) + 1)))) H := hP
              have hD : va_D A (wM q h (setA x_9 0 (upd (x_9 0) ((((0 + 14) + (2 * house)) + 1) : Int32).toNatClampNeg (((x_9 0) ((((0 + 14) + (2 * house)) + 1)).toNatClampNeg) + 1)))) := hD
              obtain ⟨x_10, ex_10⟩ : ∃ z, z = (setA x_9 0 (upd (x_9 0) ((((0 + 14) + (2 * house)) + 1) : Int32).toNatClampNeg (((x_9 0) ((((0 + 14) + (2 * house)) + 1)).toNatClampNeg) + 1))) := ⟨_, rfl⟩
              rw [← ex_10] at hP hD
              replace hR := lt_e hR ex_10
              refine lv_aload_n hx hb dX6_sue_127 rfl (lv_at hl 0 rfl) ?_
              refine lv_iload_n hx hb dX6_sue_128 rfl (lv_at hl 2 rfl) ?_
              refine lv_iload_n hx hb dX6_sue_129 rfl (lv_at hl 1 rfl) ?_
              refine lv_iload_n hx hb dX6_sue_130 rfl (lv_at hl 3 rfl) ?_
              obtain ⟨q_11, eq_11⟩ : ∃ z, z = (mX6_clears x_10 house mill hour) := ⟨_, rfl⟩
              have hM := MX6_clears l D q h x_10 house mill hour (rg_t (i := house) (x := (house).toInt) rfl (by omega)) (rg_t (i := mill) (x := (mill).toInt) rfl (by omega))
              rw [← eq_11] at hM
              replace hR := lt_e hR eq_11
              refine mu_V (D := D) (ws := (wM q h x_10)) (ws' := (wM q h q_11)) (rest := []) (As := [.int house, .int mill, .int hour]) hx hb hml hown hts hl hM gX6_sue_X6_clears rfl kX6_clears ⟨Nat.le_of_ble_eq_true rfl, Nat.le_of_ble_eq_true rfl⟩ rfl rfl hP hD hS hG [0, 1, 2, 3, 4] rfl rfl (by decide) [5, 6, 7, 8, 9] rfl (by decide) rfl (ci := 4) rfl rfl rfl rfl (Nat.le_of_ble_eq_true rfl) dX6_sue_131 ⟨Nat.zero_le _, Nat.zero_le _⟩ (fun H locs hP hD hS => ?_)
              refine lv_aload_n hx hb dX6_sue_134 rfl (lv_at hl 0 rfl) ?_
              refine lv_iconst (v := 0) hx hb dX6_sue_135 (by decide) ?_
              refine lv_iload_n hx hb dX6_sue_136 rfl (lv_at hl 1 rfl) ?_
              refine lv_iload_n hx hb dX6_sue_137 rfl (lv_at hl 3 rfl) ?_
              refine ro_V (v := .int (mX6_points q_11 0 mill hour)) (rest := []) (As := [.int 0, .int mill, .int hour]) hx hb hml hown hts hl (MX6_points l D q h q_11 0 mill hour (rg_t (i := 0) (x := 0) (show (0 : Int32).toInt = 0 from rfl) (by omega)) (rg_t (i := mill) (x := (mill).toInt) rfl (by omega))) gX6_sue_X6_points rfl kX6_points ⟨Nat.le_of_ble_eq_true rfl, Nat.le_of_ble_eq_true rfl⟩ rfl rfl hP (dT hD) hG (ci := 4) rfl rfl rfl rfl (Nat.le_of_ble_eq_true rfl) dX6_sue_138 ⟨Nat.zero_le _, Nat.zero_le _⟩ ?_
              refine lv_aload_n hx hb dX6_sue_141 rfl (lv_at hl 0 rfl) ?_
              refine va_get (D := D) (ci := 4) (v := .ref (h 1)) (C := RX6) (T := TX6) (N := 7) hx hb hts iX6_sue_X6 hown hG.1 hP 0 rfl rfl 0 (by decide) (hts (.fieldLink RX6 7 "MillComplaintsModel" "s" "[I") (List.mem_of_getElem? (i := 1) rfl)) (fun _ h9 => h9) rfl dX6_sue_142 ?_
              refine lv_bipush (v := 60) hx hb dX6_sue_145 (by decide) ?_
              refine va_iald hx hb hG.1 hP 1 0 rfl rfl (ix_t (i := 60) (x := 60) (n := 296) (show (60 : Int32).toInt = 60 from rfl) (by omega)) dX6_sue_147 ?_
              refine lv_tope (y := ((q_11 0) 60)) (congrArg _ (by decide)) ?_
              refine lv_icmp_ge (tgt := 170) hx hb dX6_sue_148 (by decide) (fun c_12 => ?_) (fun c_12 => ?_)
              · rw [if_pos c_12] at hR
                have tc_12 : ((q_11 0) 60).toInt ≤ (mX6_points q_11 0 mill hour).toInt := i_le.mp c_12
                refine lv_iconst (v := 1) hx hb dX6_sue_170 (by decide) ?_
                subst hR
                exact mu_iret hx hb hr hk hA hS hP rfl dX6_sue_171
              · rw [if_neg c_12] at hR
                have tc_12 : ¬ ((q_11 0) 60).toInt ≤ (mX6_points q_11 0 mill hour).toInt := fun z => c_12 (i_le.mpr z)
                refine lv_aload_n hx hb dX6_sue_151 rfl (lv_at hl 0 rfl) ?_
                refine va_get (D := D) (ci := 4) (v := .ref (h 1)) (C := RX6) (T := TX6) (N := 7) hx hb hts iX6_sue_X6 hown hG.1 hP 0 rfl rfl 0 (by decide) (hts (.fieldLink RX6 7 "MillComplaintsModel" "s" "[I") (List.mem_of_getElem? (i := 1) rfl)) (fun _ h9 => h9) rfl dX6_sue_152 ?_
                refine lv_iconst (v := 0) hx hb dX6_sue_155 (by decide) ?_
                refine lv_iload_n hx hb dX6_sue_156 rfl (lv_at hl 1 rfl) ?_
                refine lv_iconst (v := 2) hx hb dX6_sue_157 (by decide) ?_
                refine ro_S (v := .int (((0 + 1) + (3 * mill)) + 2)) (rest := [.ref (h 1)]) (As := [.int 0, .int mill, .int 2]) hx hb hml hown hts hl (MX6_ofMill l D q 0 mill 2) gX6_sue_X6_ofMill rfl kX6_ofMill ⟨Nat.le_of_ble_eq_true rfl, Nat.le_of_ble_eq_true rfl⟩ rfl rfl (hP.sub (ws' := []) [] rfl) (dT (hD.sub (ws' := []) [] (by decide) rfl)) hG rfl rfl (Nat.le_of_ble_eq_true rfl) dX6_sue_158 ⟨Nat.zero_le _, Nat.zero_le _⟩ ?_
                refine lv_dup2_11 hx hb dX6_sue_161 rfl rfl ?_
                refine va_iald hx hb hG.1 hP 1 0 rfl rfl (ix_t (i := (((0 + 1) + (3 * mill)) + 2)) (x := (((0 + 1) + (3 * (mill).toInt)) + 2)) (n := 296) (ti_add (ti_add (ti_add (show (0 : Int32).toInt = 0 from rfl) (show (1 : Int32).toInt = 1 from rfl) (by omega)) (ti_mul (show (3 : Int32).toInt = 3 from rfl) rfl (by omega)) (by omega)) (show (2 : Int32).toInt = 2 from rfl) (by omega)) (by omega)) dX6_sue_162 ?_
                refine lv_iconst (v := 1) hx hb dX6_sue_163 (by decide) ?_
                refine lv_iload_n hx hb dX6_sue_164 rfl (lv_at hl 3 rfl) ?_
                refine lv_ishl hx hb dX6_sue_165 ?_
                refine lv_iconst (v := (-1)) hx hb dX6_sue_166 (by decide) ?_
                refine lv_ixor hx hb dX6_sue_167 ?_
                refine lv_iand hx hb dX6_sue_168 ?_
                refine va_iast hx hb hG.1 hP hD hS 1 0 rfl rfl (ix_t (i := (((0 + 1) + (3 * mill)) + 2)) (x := (((0 + 1) + (3 * (mill).toInt)) + 2)) (n := 296) (ti_add (ti_add (ti_add (show (0 : Int32).toInt = 0 from rfl) (show (1 : Int32).toInt = 1 from rfl) (by omega)) (ti_mul (show (3 : Int32).toInt = 3 from rfl) rfl (by omega)) (by omega)) (show (2 : Int32).toInt = 2 from rfl) (by omega)) (by omega)) dX6_sue_169 (fun H locs hP hD hS => ?_)
                have hP : va_P D vwCl (wM q h (setA q_11 0 (upd (q_11 0) ((((0 + 1) + (3 * mill)) + 2) : Int32).toNatClampNeg (((q_11 0) ((((0 + 1) + (3 * mill)) + 2)).toNatClampNeg) &&& ((1 <<< (hour &&& 31)) ^^^ (-1)))))) H := hP
                have hD : va_D A (wM q h (setA q_11 0 (upd (q_11 0) ((((0 + 1) + (3 * mill)) + 2) : Int32).toNatClampNeg (((q_11 0) ((((0 + 1) + (3 * mill)) + 2)).toNatClampNeg) &&& ((1 <<< (hour &&& 31)) ^^^ (-1)))))) := hD
                obtain ⟨x_13, ex_13⟩ : ∃ z, z = (setA q_11 0 (upd (q_11 0) ((((0 + 1) + (3 * mill)) + 2) : Int32).toNatClampNeg (((q_11 0) ((((0 + 1) + (3 * mill)) + 2)).toNatClampNeg) &&& ((1 <<< (hour &&& 31)) ^^^ (-1))))) := ⟨_, rfl⟩
                rw [← ex_13] at hP hD
                replace hR := lt_e hR ex_13
                refine lv_iconst (v := 1) hx hb dX6_sue_170 (by decide) ?_
                subst hR
                exact mu_iret hx hb hr hk hA hS hP rfl dX6_sue_171
            · rw [if_neg c_8] at hR
              have tc_8 : ¬ ((x_7 0) 61).toInt < (((x_7 0) ((34 + hour)).toNatClampNeg) * (mX6_ones ((x_7 0) ((((0 + 1) + (3 * mill)) + 2)).toNatClampNeg))).toInt := fun z => c_8 (i_lt.mpr z)
              refine lv_iconst (v := 0) hx hb dX6_sue_99 (by decide) ?_
              subst hR
              exact mu_iret hx hb hr hk hA hS hP rfl dX6_sue_100
          · rw [if_pos c_5] at hR
            refine lv_bipush (v := (-4)) hx hb dX6_sue_47 (by decide) ?_
            subst hR
            exact mu_iret hx hb hr hk hA hS hP rfl dX6_sue_49
      · rw [if_pos c_3] at hR
        refine lv_iconst (v := (-1)) hx hb dX6_sue_25 (by decide) ?_
        subst hR
        exact mu_iret hx hb hr hk hA hS hP rfl dX6_sue_26

def mX6_vote_109 (mill : Int32) (hour : Int32) (C : (Nat → Nat → Int32) → Int32 → (Int32 × (Nat → Nat → Int32))) : Nat → (Nat → Nat → Int32) → Int32 → (Int32 × (Nat → Nat → Int32))
  | 0, xL_109, x4_109 => C xL_109 x4_109
  | n_109 + 1, xL_109, x4_109 => (lt (mX6_clears xL_109 x4_109 mill hour) (fun q_11 => (mX6_vote_109 mill hour C n_109 q_11 (x4_109 + 1))))
def mX6_vote (x : Nat → Nat → Int32) (mill hour : Int32) : Int32 × (Nat → Nat → Int32) := (if (mX6_isMill x 0 mill) = 0 then ((-1), x) else (if (mX6_isHour hour) = 0 then ((-1), x) else (if (mX6_isTied x 0 mill hour) = 0 then ((-4), x) else (if ((x 0) 13) = 0 then ((-4), x) else (lt (mX6_remembers x) (fun q_5 => (lt (setA q_5 0 (upd (q_5 0) (66 : Int32).toNatClampNeg (((q_5 0) 66) + 1))) (fun x_6 => (if (2 * (mX6_votes x_6 mill hour)) ≤ ((x_6 0) 13) then ((mX6_votes x_6 mill hour), x_6) else (lt (setA x_6 0 (upd (x_6 0) (67 : Int32).toNatClampNeg (((x_6 0) 67) + 1))) (fun x_8 => (lt (setA x_8 0 (upd (x_8 0) ((((0 + 1) + (3 * mill)) + 2) : Int32).toNatClampNeg (((x_8 0) ((((0 + 1) + (3 * mill)) + 2)).toNatClampNeg) &&& ((1 <<< (hour &&& 31)) ^^^ (-1))))) (fun x_9 => (mX6_vote_109 mill hour (fun xL_109 x4_109 => ((mX6_votes x_6 mill hour), xL_109)) (tr 0 10) x_9 0))))))))))))))
theorem kX6_vote : yX6_vote.cls = RX6 ∧ yX6_vote.cls ≠ "java/lang/invoke/MethodHandle" ∧ yX6_vote.cls ≠ "java/lang/invoke/VarHandle" ∧ (parseMethodDescriptor yX6_vote.desc).map (fun d => d.parameters.length) = some 2 := by decide +kernel
theorem iX6_vote_X6 : ∀ w ∈ wsX60, w ∈ wsX6_vote := fun w h => (List.mem_cons_of_mem _ (List.mem_append_right _ h))
set_option maxHeartbeats 4000000 in
set_option maxRecDepth 100000 in
theorem MX6_vote (l : Launch) (D : va_G) (q : Nat → ClassId) (h : Nat → Nat) (x : Nat → Nat → Int32) (mill hour : Int32) (hC : cntP x 0) (hkn : 0 ≤ (x 4 0).toInt ∧ (x 4 0).toInt < 5) : muM l D (tyq q) yX6_vote wsX6_vote ({ frames := 7, cells := 0, slots := 0, locals := 169 } : Room) [.ref (h 0), .int mill, .int hour] (wM q h x) (some (.int (mX6_vote x mill hour).1)) (wM q h (mX6_vote x mill hour).2) := by
  obtain ⟨R, hR⟩ : ∃ z, (mX6_vote x mill hour) = z := ⟨_, rfl⟩
  rw [hR]
  unfold mX6_vote at hR
  refine muM.of (cc := cX6_vote) (maxL := 5) (ret := (some .int)) (by decide) rfl (Nat.le_of_ble_eq_true rfl) ?_
  intro p e s m below meth c ls A hx hb hr hk hml hown hts hP hD hG hA hl
  have hS : va_S A s.heap s.heap [] := va_S.rf
  have hl : lv_has ls 5 [(0, .ref (h 0)), (1, .int mill), (2, .int hour)] := hl
  refine lv_aload_n hx hb dX6_vote_0 rfl (lv_at hl 0 rfl) ?_
  refine lv_iconst (v := 0) hx hb dX6_vote_1 (by decide) ?_
  refine lv_iload_n hx hb dX6_vote_2 rfl (lv_at hl 1 rfl) ?_
  refine ro_V (v := .int (mX6_isMill x 0 mill)) (rest := []) (As := [.int 0, .int mill]) hx hb hml hown hts hl (MX6_isMill l D q h x 0 mill (rg_t (i := 0) (x := 0) (show (0 : Int32).toInt = 0 from rfl) (by omega))) gX6_vote_X6_isMill rfl kX6_isMill ⟨Nat.le_of_ble_eq_true rfl, Nat.le_of_ble_eq_true rfl⟩ rfl rfl hP (dT hD) hG (ci := 4) rfl rfl rfl rfl (Nat.le_of_ble_eq_true rfl) dX6_vote_3 ⟨Nat.zero_le _, Nat.zero_le _⟩ ?_
  refine lv_if_eq (tgt := 16) hx hb dX6_vote_6 (by decide) (fun c_1 => ?_) (fun c_1 => ?_)
  · rw [if_pos c_1] at hR
    refine lv_iconst (v := (-1)) hx hb dX6_vote_16 (by decide) ?_
    subst hR
    exact mu_iret hx hb hr hk hA hS hP rfl dX6_vote_17
  · rw [if_neg c_1] at hR
    have fc_1 := f_isMill hC c_1
    refine lv_iload_n hx hb dX6_vote_9 rfl (lv_at hl 2 rfl) ?_
    refine ro_S (v := .int (mX6_isHour hour)) (rest := []) (As := [.int hour]) hx hb hml hown hts hl (MX6_isHour l D q hour) gX6_vote_X6_isHour rfl kX6_isHour ⟨Nat.le_of_ble_eq_true rfl, Nat.le_of_ble_eq_true rfl⟩ rfl rfl (hP.sub (ws' := []) [] rfl) (dT (hD.sub (ws' := []) [] (by decide) rfl)) hG rfl rfl (Nat.le_of_ble_eq_true rfl) dX6_vote_10 ⟨Nat.zero_le _, Nat.zero_le _⟩ ?_
    refine lv_if_ne (tgt := 18) hx hb dX6_vote_13 (by decide) (fun c_2 => ?_) (fun c_2 => ?_)
    · rw [if_neg c_2] at hR
      have fc_2 := f6_isHour c_2
      refine lv_aload_n hx hb dX6_vote_18 rfl (lv_at hl 0 rfl) ?_
      refine lv_iconst (v := 0) hx hb dX6_vote_19 (by decide) ?_
      refine lv_iload_n hx hb dX6_vote_20 rfl (lv_at hl 1 rfl) ?_
      refine lv_iload_n hx hb dX6_vote_21 rfl (lv_at hl 2 rfl) ?_
      refine ro_V (v := .int (mX6_isTied x 0 mill hour)) (rest := []) (As := [.int 0, .int mill, .int hour]) hx hb hml hown hts hl (MX6_isTied l D q h x 0 mill hour (rg_t (i := 0) (x := 0) (show (0 : Int32).toInt = 0 from rfl) (by omega)) (rg_t (i := mill) (x := (mill).toInt) rfl (by omega))) gX6_vote_X6_isTied rfl kX6_isTied ⟨Nat.le_of_ble_eq_true rfl, Nat.le_of_ble_eq_true rfl⟩ rfl rfl hP (dT hD) hG (ci := 4) rfl rfl rfl rfl (Nat.le_of_ble_eq_true rfl) dX6_vote_22 ⟨Nat.zero_le _, Nat.zero_le _⟩ ?_
      refine lv_if_eq (tgt := 38) hx hb dX6_vote_25 (by decide) (fun c_3 => ?_) (fun c_3 => ?_)
      · rw [if_pos c_3] at hR
        refine lv_bipush (v := (-4)) hx hb dX6_vote_38 (by decide) ?_
        subst hR
        exact mu_iret hx hb hr hk hA hS hP rfl dX6_vote_40
      · rw [if_neg c_3] at hR
        refine lv_aload_n hx hb dX6_vote_28 rfl (lv_at hl 0 rfl) ?_
        refine va_get (D := D) (ci := 4) (v := .ref (h 1)) (C := RX6) (T := TX6) (N := 7) hx hb hts iX6_vote_X6 hown hG.1 hP 0 rfl rfl 0 (by decide) (hts (.fieldLink RX6 7 "MillComplaintsModel" "s" "[I") (List.mem_of_getElem? (i := 1) rfl)) (fun _ h9 => h9) rfl dX6_vote_29 ?_
        refine lv_bipush (v := 13) hx hb dX6_vote_32 (by decide) ?_
        refine va_iald hx hb hG.1 hP 1 0 rfl rfl (ix_t (i := 13) (x := 13) (n := 296) (show (13 : Int32).toInt = 13 from rfl) (by omega)) dX6_vote_34 ?_
        refine lv_tope (y := ((x 0) 13)) (congrArg _ (by decide)) ?_
        refine lv_if_ne (tgt := 41) hx hb dX6_vote_35 (by decide) (fun c_4 => ?_) (fun c_4 => ?_)
        · rw [if_neg c_4] at hR
          have tc_4 : ¬ ((x 0) 13).toInt = 0 := fun z => c_4 (i_eq.mpr z)
          refine lv_aload_n hx hb dX6_vote_41 rfl (lv_at hl 0 rfl) ?_
          obtain ⟨q_5, eq_5⟩ : ∃ z, z = (mX6_remembers x) := ⟨_, rfl⟩
          have hM := MX6_remembers l D q h x hkn
          rw [← eq_5] at hM
          replace hR := lt_e hR eq_5
          refine mu_V (D := D) (ws := (wM q h x)) (ws' := (wM q h q_5)) (rest := []) (As := []) hx hb hml hown hts hl hM gX6_vote_X6_remembers rfl kX6_remembers ⟨Nat.le_of_ble_eq_true rfl, Nat.le_of_ble_eq_true rfl⟩ rfl rfl hP hD hS hG [0, 1, 2, 3, 4] rfl rfl (by decide) [5, 6, 7, 8, 9] rfl (by decide) rfl (ci := 4) rfl rfl rfl rfl (Nat.le_of_ble_eq_true rfl) dX6_vote_42 ⟨Nat.zero_le _, Nat.zero_le _⟩ (fun H locs hP hD hS => ?_)
          refine lv_aload_n hx hb dX6_vote_45 rfl (lv_at hl 0 rfl) ?_
          refine va_get (D := D) (ci := 4) (v := .ref (h 1)) (C := RX6) (T := TX6) (N := 7) hx hb hts iX6_vote_X6 hown hG.1 hP 0 rfl rfl 0 (by decide) (hts (.fieldLink RX6 7 "MillComplaintsModel" "s" "[I") (List.mem_of_getElem? (i := 1) rfl)) (fun _ h9 => h9) rfl dX6_vote_46 ?_
          refine lv_bipush (v := 66) hx hb dX6_vote_49 (by decide) ?_
          refine lv_dup2_11 hx hb dX6_vote_51 rfl rfl ?_
          refine va_iald hx hb hG.1 hP 1 0 rfl rfl (ix_t (i := 66) (x := 66) (n := 296) (show (66 : Int32).toInt = 66 from rfl) (by omega)) dX6_vote_52 ?_
          refine lv_tope (y := ((q_5 0) 66)) (congrArg _ (by decide)) ?_
          refine lv_iconst (v := 1) hx hb dX6_vote_53 (by decide) ?_
          refine lv_iadd hx hb dX6_vote_54 ?_
          refine va_iast hx hb hG.1 hP hD hS 1 0 rfl rfl (ix_t (i := 66) (x := 66) (n := 296) (show (66 : Int32).toInt = 66 from rfl) (by omega)) dX6_vote_55 (fun H locs hP hD hS => ?_)
          have hP : va_P D vwCl (wM q h (setA q_5 0 (upd (q_5 0) (66 : Int32).toNatClampNeg (((q_5 0) 66) + 1)))) H := hP
          have hD : va_D A (wM q h (setA q_5 0 (upd (q_5 0) (66 : Int32).toNatClampNeg (((q_5 0) 66) + 1)))) := hD
          obtain ⟨x_6, ex_6⟩ : ∃ z, z = (setA q_5 0 (upd (q_5 0) (66 : Int32).toNatClampNeg (((q_5 0) 66) + 1))) := ⟨_, rfl⟩
          rw [← ex_6] at hP hD
          replace hR := lt_e hR ex_6
          refine lv_aload_n hx hb dX6_vote_56 rfl (lv_at hl 0 rfl) ?_
          refine lv_iload_n hx hb dX6_vote_57 rfl (lv_at hl 1 rfl) ?_
          refine lv_iload_n hx hb dX6_vote_58 rfl (lv_at hl 2 rfl) ?_
          refine ro_V (v := .int (mX6_votes x_6 mill hour)) (rest := []) (As := [.int mill, .int hour]) hx hb hml hown hts hl (MX6_votes l D q h x_6 mill hour (by rw [ex_6, eq_5]; exact cnt_rem hC) (rg_t (i := mill) (x := (mill).toInt) rfl (by omega)) (rg_t (i := hour) (x := (hour).toInt) rfl (by omega))) gX6_vote_X6_votes rfl kX6_votes ⟨Nat.le_of_ble_eq_true rfl, Nat.le_of_ble_eq_true rfl⟩ rfl rfl hP (dT hD) hG (ci := 4) rfl rfl rfl rfl (Nat.le_of_ble_eq_true rfl) dX6_vote_59 ⟨Nat.zero_le _, Nat.zero_le _⟩ ?_
          refine lv_istore_n (lv' := [(3, .int (mX6_votes x_6 mill hour)), (0, .ref (h 0)), (1, .int mill), (2, .int hour)]) hx hb dX6_vote_62 rfl hl (by decide) rfl (fun ls hl => ?_)
          refine lv_iconst (v := 2) hx hb dX6_vote_63 (by decide) ?_
          refine lv_iload_n hx hb dX6_vote_64 rfl (lv_at hl 0 rfl) ?_
          refine lv_imul hx hb dX6_vote_65 ?_
          refine lv_aload_n hx hb dX6_vote_66 rfl (lv_at hl 1 rfl) ?_
          refine va_get (D := D) (ci := 4) (v := .ref (h 1)) (C := RX6) (T := TX6) (N := 7) hx hb hts iX6_vote_X6 hown hG.1 hP 0 rfl rfl 0 (by decide) (hts (.fieldLink RX6 7 "MillComplaintsModel" "s" "[I") (List.mem_of_getElem? (i := 1) rfl)) (fun _ h9 => h9) rfl dX6_vote_67 ?_
          refine lv_bipush (v := 13) hx hb dX6_vote_70 (by decide) ?_
          refine va_iald hx hb hG.1 hP 1 0 rfl rfl (ix_t (i := 13) (x := 13) (n := 296) (show (13 : Int32).toInt = 13 from rfl) (by omega)) dX6_vote_72 ?_
          refine lv_tope (y := ((x_6 0) 13)) (congrArg _ (by decide)) ?_
          refine lv_icmp_le (tgt := 130) hx hb dX6_vote_73 (by decide) (fun c_7 => ?_) (fun c_7 => ?_)
          · rw [if_pos c_7] at hR
            have tc_7 : (2 * (mX6_votes x_6 mill hour)).toInt ≤ ((x_6 0) 13).toInt := i_le.mp c_7
            refine lv_iload_n hx hb dX6_vote_130 rfl (lv_at hl 0 rfl) ?_
            subst hR
            exact mu_iret hx hb hr hk hA hS hP rfl dX6_vote_131
          · rw [if_neg c_7] at hR
            have tc_7 : ¬ (2 * (mX6_votes x_6 mill hour)).toInt ≤ ((x_6 0) 13).toInt := fun z => c_7 (i_le.mpr z)
            refine lv_aload_n hx hb dX6_vote_76 rfl (lv_at hl 1 rfl) ?_
            refine va_get (D := D) (ci := 4) (v := .ref (h 1)) (C := RX6) (T := TX6) (N := 7) hx hb hts iX6_vote_X6 hown hG.1 hP 0 rfl rfl 0 (by decide) (hts (.fieldLink RX6 7 "MillComplaintsModel" "s" "[I") (List.mem_of_getElem? (i := 1) rfl)) (fun _ h9 => h9) rfl dX6_vote_77 ?_
            refine lv_bipush (v := 67) hx hb dX6_vote_80 (by decide) ?_
            refine lv_dup2_11 hx hb dX6_vote_82 rfl rfl ?_
            refine va_iald hx hb hG.1 hP 1 0 rfl rfl (ix_t (i := 67) (x := 67) (n := 296) (show (67 : Int32).toInt = 67 from rfl) (by omega)) dX6_vote_83 ?_
            refine lv_tope (y := ((x_6 0) 67)) (congrArg _ (by decide)) ?_
            refine lv_iconst (v := 1) hx hb dX6_vote_84 (by decide) ?_
            refine lv_iadd hx hb dX6_vote_85 ?_
            refine va_iast hx hb hG.1 hP hD hS 1 0 rfl rfl (ix_t (i := 67) (x := 67) (n := 296) (show (67 : Int32).toInt = 67 from rfl) (by omega)) dX6_vote_86 (fun H locs hP hD hS => ?_)
            have hP : va_P D vwCl (wM q h (setA x_6 0 (upd (x_6 0) (67 : Int32).toNatClampNeg (((x_6 0) 67) + 1)))) H := hP
            have hD : va_D A (wM q h (setA x_6 0 (upd (x_6 0) (67 : Int32).toNatClampNeg (((x_6 0) 67) + 1)))) := hD
            obtain ⟨x_8, ex_8⟩ : ∃ z, z = (setA x_6 0 (upd (x_6 0) (67 : Int32).toNatClampNeg (((x_6 0) 67) + 1))) := ⟨_, rfl⟩
            rw [← ex_8] at hP hD
            replace hR := lt_e hR ex_8
            refine lv_aload_n hx hb dX6_vote_87 rfl (lv_at hl 1 rfl) ?_
            refine va_get (D := D) (ci := 4) (v := .ref (h 1)) (C := RX6) (T := TX6) (N := 7) hx hb hts iX6_vote_X6 hown hG.1 hP 0 rfl rfl 0 (by decide) (hts (.fieldLink RX6 7 "MillComplaintsModel" "s" "[I") (List.mem_of_getElem? (i := 1) rfl)) (fun _ h9 => h9) rfl dX6_vote_88 ?_
            refine lv_iconst (v := 0) hx hb dX6_vote_91 (by decide) ?_
            refine lv_iload_n hx hb dX6_vote_92 rfl (lv_at hl 2 rfl) ?_
            refine lv_iconst (v := 2) hx hb dX6_vote_93 (by decide) ?_
            refine ro_S (v := .int (((0 + 1) + (3 * mill)) + 2)) (rest := [.ref (h 1)]) (As := [.int 0, .int mill, .int 2]) hx hb hml hown hts hl (MX6_ofMill l D q 0 mill 2) gX6_vote_X6_ofMill rfl kX6_ofMill ⟨Nat.le_of_ble_eq_true rfl, Nat.le_of_ble_eq_true rfl⟩ rfl rfl (hP.sub (ws' := []) [] rfl) (dT (hD.sub (ws' := []) [] (by decide) rfl)) hG rfl rfl (Nat.le_of_ble_eq_true rfl) dX6_vote_94 ⟨Nat.zero_le _, Nat.zero_le _⟩ ?_
            refine lv_dup2_11 hx hb dX6_vote_97 rfl rfl ?_
            refine va_iald hx hb hG.1 hP 1 0 rfl rfl (ix_t (i := (((0 + 1) + (3 * mill)) + 2)) (x := (((0 + 1) + (3 * (mill).toInt)) + 2)) (n := 296) (ti_add (ti_add (ti_add (show (0 : Int32).toInt = 0 from rfl) (show (1 : Int32).toInt = 1 from rfl) (by omega)) (ti_mul (show (3 : Int32).toInt = 3 from rfl) rfl (by omega)) (by omega)) (show (2 : Int32).toInt = 2 from rfl) (by omega)) (by omega)) dX6_vote_98 ?_
            refine lv_iconst (v := 1) hx hb dX6_vote_99 (by decide) ?_
            refine lv_iload_n hx hb dX6_vote_100 rfl (lv_at hl 3 rfl) ?_
            refine lv_ishl hx hb dX6_vote_101 ?_
            refine lv_iconst (v := (-1)) hx hb dX6_vote_102 (by decide) ?_
            refine lv_ixor hx hb dX6_vote_103 ?_
            refine lv_iand hx hb dX6_vote_104 ?_
            refine va_iast hx hb hG.1 hP hD hS 1 0 rfl rfl (ix_t (i := (((0 + 1) + (3 * mill)) + 2)) (x := (((0 + 1) + (3 * (mill).toInt)) + 2)) (n := 296) (ti_add (ti_add (ti_add (show (0 : Int32).toInt = 0 from rfl) (show (1 : Int32).toInt = 1 from rfl) (by omega)) (ti_mul (show (3 : Int32).toInt = 3 from rfl) rfl (by omega)) (by omega)) (show (2 : Int32).toInt = 2 from rfl) (by omega)) (by omega)) dX6_vote_105 (fun H locs hP hD hS => ?_)
            have hP : va_P D vwCl (wM q h (setA x_8 0 (upd (x_8 0) ((((0 + 1) + (3 * mill)) + 2) : Int32).toNatClampNeg (((x_8 0) ((((0 + 1) + (3 * mill)) + 2)).toNatClampNeg) &&& ((1 <<< (hour &&& 31)) ^^^ (-1)))))) H := hP
            have hD : va_D A (wM q h (setA x_8 0 (upd (x_8 0) ((((0 + 1) + (3 * mill)) + 2) : Int32).toNatClampNeg (((x_8 0) ((((0 + 1) + (3 * mill)) + 2)).toNatClampNeg) &&& ((1 <<< (hour &&& 31)) ^^^ (-1)))))) := hD
            obtain ⟨x_9, ex_9⟩ : ∃ z, z = (setA x_8 0 (upd (x_8 0) ((((0 + 1) + (3 * mill)) + 2) : Int32).toNatClampNeg (((x_8 0) ((((0 + 1) + (3 * mill)) + 2)).toNatClampNeg) &&& ((1 <<< (hour &&& 31)) ^^^ (-1))))) := ⟨_, rfl⟩
            rw [← ex_9] at hP hD
            replace hR := lt_e hR ex_9
            refine lv_iconst (v := 0) hx hb dX6_vote_106 (by decide) ?_
            refine lv_istore (lv' := [(4, .int 0), (3, .int (mX6_votes x_6 mill hour)), (0, .ref (h 0)), (1, .int mill), (2, .int hour)]) hx hb dX6_vote_107 hl (by decide) rfl (fun ls hl => ?_)
            have key_109 : ∀ (n_109 : Nat) (xL_109 : Nat → Nat → Int32) (x4_109 : Int32) (H : Heap) (locs : List Loc) , tr x4_109 10 = n_109 → 0 ≤ x4_109.toInt → mX6_vote_109 mill hour (fun xL_109 x4_109 => ((mX6_votes x_6 mill hour), xL_109)) n_109 xL_109 x4_109 = R → va_P D vwCl (wM q h xL_109) H → va_D A (wM q h xL_109) → va_S A s.heap H locs → ∀ ls : Array Slot, lv_has ls 5 [(4, .int x4_109), (3, .int (mX6_votes x_6 mill hour)), (0, .ref (h 0)), (1, .int mill), (2, .int hour)] → W p l e ({ frames := 7, cells := 0, slots := 0, locals := 169 } : Room) s m ([.ref (h 0), .int mill, .int hour] : List Value).toArray below meth c H locs 0 0 (MQ below (muQ D (some (.int R.1)) (wM q h x) (wM q h R.2)) ([.ref (h 0), .int mill, .int hour] : List Value).toArray s 0 0 (wAt (wM q h x))) (F0 m 109 ls []) := by
              intro n_109
              induction n_109 with
              | zero =>
                intro xL_109 x4_109 H locs hn_109 hk_109 hR hP hD hS ls hl
                rw [mX6_vote_109] at hR
                refine lv_iload hx hb dX6_vote_109 (lv_at hl 0 rfl) ?_
                refine lv_bipush (v := 10) hx hb dX6_vote_111 (by decide) ?_
                refine lv_icmp_ge (tgt := 130) hx hb dX6_vote_113 (by decide) (fun c_10 => ?_) (fun c_10 => (tr0 hn_109 c_10).elim)
                refine lv_iload_n hx hb dX6_vote_130 rfl (lv_at hl 1 rfl) ?_
                subst hR
                exact mu_iret hx hb hr hk hA hS hP rfl dX6_vote_131
              | succ n_109 ih_109 =>
                intro xL_109 x4_109 H locs hn_109 hk_109 hR hP hD hS ls hl
                rw [mX6_vote_109] at hR
                refine lv_iload hx hb dX6_vote_109 (lv_at hl 0 rfl) ?_
                refine lv_bipush (v := 10) hx hb dX6_vote_111 (by decide) ?_
                refine lv_icmp_ge (tgt := 130) hx hb dX6_vote_113 (by decide) (fun c_10 => (trS hn_109 c_10).elim) (fun c_10 => ?_)
                have hlt_c_10 : x4_109.toInt < 10 := k_lt c_10
                refine lv_aload_n hx hb dX6_vote_116 rfl (lv_at hl 2 rfl) ?_
                refine lv_iload hx hb dX6_vote_117 (lv_at hl 0 rfl) ?_
                refine lv_iload_n hx hb dX6_vote_119 rfl (lv_at hl 3 rfl) ?_
                refine lv_iload_n hx hb dX6_vote_120 rfl (lv_at hl 4 rfl) ?_
                obtain ⟨q_11, eq_11⟩ : ∃ z, z = (mX6_clears xL_109 x4_109 mill hour) := ⟨_, rfl⟩
                have hM := MX6_clears l D q h xL_109 x4_109 mill hour (rg_t (i := x4_109) (x := (x4_109).toInt) rfl (by omega)) (rg_t (i := mill) (x := (mill).toInt) rfl (by omega))
                rw [← eq_11] at hM
                replace hR := lt_e hR eq_11
                refine mu_V (D := D) (ws := (wM q h xL_109)) (ws' := (wM q h q_11)) (rest := []) (As := [.int x4_109, .int mill, .int hour]) hx hb hml hown hts hl hM gX6_vote_X6_clears rfl kX6_clears ⟨Nat.le_of_ble_eq_true rfl, Nat.le_of_ble_eq_true rfl⟩ rfl rfl hP hD hS hG [0, 1, 2, 3, 4] rfl rfl (by decide) [5, 6, 7, 8, 9] rfl (by decide) rfl (ci := 4) rfl rfl rfl rfl (Nat.le_of_ble_eq_true rfl) dX6_vote_121 ⟨Nat.zero_le _, Nat.zero_le _⟩ (fun H locs hP hD hS => ?_)
                refine lv_iinc (v := (x4_109 + 1)) (lv' := [(4, .int (x4_109 + 1)), (3, .int (mX6_votes x_6 mill hour)), (0, .ref (h 0)), (1, .int mill), (2, .int hour)]) hx hb dX6_vote_124 hl (k := 0) rfl rfl (by decide) rfl (fun ls hl => ?_)
                refine lv_goto (tgt := 109) hx hb dX6_vote_127 (by decide) ?_
                exact ih_109 q_11 (x4_109 + 1) _ _ (trN hn_109) (k_up hk_109 c_10) hR hP hD hS ls (lv_sub hl [0, 1, 2, 3, 4] rfl)
            exact key_109 _ x_9 0 _ _ rfl (by decide) hR hP hD hS ls hl
        · rw [if_pos c_4] at hR
          have tc_4 : ((x 0) 13).toInt = 0 := i_eq.mp c_4
          refine lv_bipush (v := (-4)) hx hb dX6_vote_38 (by decide) ?_
          subst hR
          exact mu_iret hx hb hr hk hA hS hP rfl dX6_vote_40
    · rw [if_pos c_2] at hR
      refine lv_iconst (v := (-1)) hx hb dX6_vote_16 (by decide) ?_
      subst hR
      exact mu_iret hx hb hr hk hA hS hP rfl dX6_vote_17

def mX6_millComes (x : Nat → Nat → Int32) (pp height yard : Int32) : Int32 × (Nat → Nat → Int32) := (if (mX6_isYard yard) = 0 then ((-1), x) else (if (mX6_in height 1 5) = 0 then ((-2), x) else (if (mX6_isBuilt x pp yard) = 0 then (if ((x 0) ((pp + 0)).toNatClampNeg) = 4 then ((-3), x) else (lt (setA x 0 (upd (x 0) ((((pp + 1) + (3 * ((x 0) ((pp + 0)).toNatClampNeg))) + 0) : Int32).toNatClampNeg height)) (fun x_5 => (lt (setA x_5 0 (upd (x_5 0) ((((pp + 1) + (3 * ((x_5 0) ((pp + 0)).toNatClampNeg))) + 1) : Int32).toNatClampNeg yard)) (fun x_6 => (lt (setA x_6 0 (upd (x_6 0) ((pp + 0) : Int32).toNatClampNeg (((x_6 0) ((pp + 0)).toNatClampNeg) + 1))) (fun x_7 => ((((x_7 0) ((pp + 0)).toNatClampNeg) - 1), x_7)))))))) else ((-4), x))))
theorem kX6_millComes : yX6_millComes.cls = RX6 ∧ yX6_millComes.cls ≠ "java/lang/invoke/MethodHandle" ∧ yX6_millComes.cls ≠ "java/lang/invoke/VarHandle" ∧ (parseMethodDescriptor yX6_millComes.desc).map (fun d => d.parameters.length) = some 3 := by decide +kernel
theorem iX6_millComes_X6 : ∀ w ∈ wsX60, w ∈ wsX6_millComes := fun w h => (List.mem_cons_of_mem _ (List.mem_append_right _ h))
set_option maxHeartbeats 4000000 in
set_option maxRecDepth 100000 in
theorem MX6_millComes (l : Launch) (D : va_G) (q : Nat → ClassId) (h : Nat → Nat) (x : Nat → Nat → Int32) (pp height yard : Int32) (hC : cntP x pp) (hpp : 0 ≤ pp.toInt ∧ pp.toInt < 149) : muM l D (tyq q) yX6_millComes wsX6_millComes ({ frames := 3, cells := 0, slots := 0, locals := 67 } : Room) [.ref (h 0), .int pp, .int height, .int yard] (wM q h x) (some (.int (mX6_millComes x pp height yard).1)) (wM q h (mX6_millComes x pp height yard).2) := by
  obtain ⟨R, hR⟩ : ∃ z, (mX6_millComes x pp height yard) = z := ⟨_, rfl⟩
  rw [hR]
  unfold mX6_millComes at hR
  refine muM.of (cc := cX6_millComes) (maxL := 4) (ret := (some .int)) (by decide) rfl (Nat.le_of_ble_eq_true rfl) ?_
  intro p e s m below meth c ls A hx hb hr hk hml hown hts hP hD hG hA hl
  have hS : va_S A s.heap s.heap [] := va_S.rf
  have hl : lv_has ls 4 [(0, .ref (h 0)), (1, .int pp), (2, .int height), (3, .int yard)] := hl
  have hC1 := hC.1
  have hC2 := hC.2
  refine lv_iload_n hx hb dX6_millComes_0 rfl (lv_at hl 3 rfl) ?_
  refine ro_S (v := .int (mX6_isYard yard)) (rest := []) (As := [.int yard]) hx hb hml hown hts hl (MX6_isYard l D q yard) gX6_millComes_X6_isYard rfl kX6_isYard ⟨Nat.le_of_ble_eq_true rfl, Nat.le_of_ble_eq_true rfl⟩ rfl rfl (hP.sub (ws' := []) [] rfl) (dT (hD.sub (ws' := []) [] (by decide) rfl)) hG rfl rfl (Nat.le_of_ble_eq_true rfl) dX6_millComes_1 ⟨Nat.zero_le _, Nat.zero_le _⟩ ?_
  refine lv_if_ne (tgt := 9) hx hb dX6_millComes_4 (by decide) (fun c_1 => ?_) (fun c_1 => ?_)
  · rw [if_neg c_1] at hR
    refine lv_iload_n hx hb dX6_millComes_9 rfl (lv_at hl 2 rfl) ?_
    refine lv_iconst (v := 1) hx hb dX6_millComes_10 (by decide) ?_
    refine lv_iconst (v := 5) hx hb dX6_millComes_11 (by decide) ?_
    refine ro_S (v := .int (mX6_in height 1 5)) (rest := []) (As := [.int height, .int 1, .int 5]) hx hb hml hown hts hl (MX6_in l D q height 1 5) gX6_millComes_X6_in rfl kX6_in ⟨Nat.le_of_ble_eq_true rfl, Nat.le_of_ble_eq_true rfl⟩ rfl rfl (hP.sub (ws' := []) [] rfl) (dT (hD.sub (ws' := []) [] (by decide) rfl)) hG rfl rfl (Nat.le_of_ble_eq_true rfl) dX6_millComes_12 ⟨Nat.zero_le _, Nat.zero_le _⟩ ?_
    refine lv_if_ne (tgt := 21) hx hb dX6_millComes_15 (by decide) (fun c_2 => ?_) (fun c_2 => ?_)
    · rw [if_neg c_2] at hR
      have fc_2 : 1 ≤ height.toInt ∧ height.toInt ≤ 5 := f6_in c_2
      refine lv_aload_n hx hb dX6_millComes_21 rfl (lv_at hl 0 rfl) ?_
      refine lv_iload_n hx hb dX6_millComes_22 rfl (lv_at hl 1 rfl) ?_
      refine lv_iload_n hx hb dX6_millComes_23 rfl (lv_at hl 3 rfl) ?_
      refine ro_V (v := .int (mX6_isBuilt x pp yard)) (rest := []) (As := [.int pp, .int yard]) hx hb hml hown hts hl (MX6_isBuilt l D q h x pp yard hC (rg_t (i := pp) (x := (pp).toInt) rfl (by omega))) gX6_millComes_X6_isBuilt rfl kX6_isBuilt ⟨Nat.le_of_ble_eq_true rfl, Nat.le_of_ble_eq_true rfl⟩ rfl rfl hP (dT hD) hG (ci := 4) rfl rfl rfl rfl (Nat.le_of_ble_eq_true rfl) dX6_millComes_24 ⟨Nat.zero_le _, Nat.zero_le _⟩ ?_
      refine lv_if_eq (tgt := 33) hx hb dX6_millComes_27 (by decide) (fun c_3 => ?_) (fun c_3 => ?_)
      · rw [if_pos c_3] at hR
        refine lv_aload_n hx hb dX6_millComes_33 rfl (lv_at hl 0 rfl) ?_
        refine va_get (D := D) (ci := 4) (v := .ref (h 1)) (C := RX6) (T := TX6) (N := 7) hx hb hts iX6_millComes_X6 hown hG.1 hP 0 rfl rfl 0 (by decide) (hts (.fieldLink RX6 7 "MillComplaintsModel" "s" "[I") (List.mem_of_getElem? (i := 1) rfl)) (fun _ h9 => h9) rfl dX6_millComes_34 ?_
        refine lv_iload_n hx hb dX6_millComes_37 rfl (lv_at hl 1 rfl) ?_
        refine lv_iconst (v := 0) hx hb dX6_millComes_38 (by decide) ?_
        refine lv_iadd hx hb dX6_millComes_39 ?_
        refine va_iald hx hb hG.1 hP 1 0 rfl rfl (ix_t (i := (pp + 0)) (x := ((pp).toInt + 0)) (n := 296) (ti_add rfl (show (0 : Int32).toInt = 0 from rfl) (by omega)) (by omega)) dX6_millComes_40 ?_
        refine lv_iconst (v := 4) hx hb dX6_millComes_41 (by decide) ?_
        refine lv_icmp_ne (tgt := 48) hx hb dX6_millComes_42 (by decide) (fun c_4 => ?_) (fun c_4 => ?_)
        · rw [if_neg c_4] at hR
          have tc_4 : ¬ ((x 0) ((pp + 0)).toNatClampNeg).toInt = 4 := fun z => c_4 (i_eq.mpr z)
          refine lv_aload_n hx hb dX6_millComes_48 rfl (lv_at hl 0 rfl) ?_
          refine va_get (D := D) (ci := 4) (v := .ref (h 1)) (C := RX6) (T := TX6) (N := 7) hx hb hts iX6_millComes_X6 hown hG.1 hP 0 rfl rfl 0 (by decide) (hts (.fieldLink RX6 7 "MillComplaintsModel" "s" "[I") (List.mem_of_getElem? (i := 1) rfl)) (fun _ h9 => h9) rfl dX6_millComes_49 ?_
          refine lv_iload_n hx hb dX6_millComes_52 rfl (lv_at hl 1 rfl) ?_
          refine lv_aload_n hx hb dX6_millComes_53 rfl (lv_at hl 0 rfl) ?_
          refine va_get (D := D) (ci := 4) (v := .ref (h 1)) (C := RX6) (T := TX6) (N := 7) hx hb hts iX6_millComes_X6 hown hG.1 hP 0 rfl rfl 0 (by decide) (hts (.fieldLink RX6 7 "MillComplaintsModel" "s" "[I") (List.mem_of_getElem? (i := 1) rfl)) (fun _ h9 => h9) rfl dX6_millComes_54 ?_
          refine lv_iload_n hx hb dX6_millComes_57 rfl (lv_at hl 1 rfl) ?_
          refine lv_iconst (v := 0) hx hb dX6_millComes_58 (by decide) ?_
          refine lv_iadd hx hb dX6_millComes_59 ?_
          refine va_iald hx hb hG.1 hP 1 0 rfl rfl (ix_t (i := (pp + 0)) (x := ((pp).toInt + 0)) (n := 296) (ti_add rfl (show (0 : Int32).toInt = 0 from rfl) (by omega)) (by omega)) dX6_millComes_60 ?_
          refine lv_iconst (v := 0) hx hb dX6_millComes_61 (by decide) ?_
          refine ro_S (v := .int (((pp + 1) + (3 * ((x 0) ((pp + 0)).toNatClampNeg))) + 0)) (rest := [.ref (h 1)]) (As := [.int pp, .int ((x 0) ((pp + 0)).toNatClampNeg), .int 0]) hx hb hml hown hts hl (MX6_ofMill l D q pp ((x 0) ((pp + 0)).toNatClampNeg) 0) gX6_millComes_X6_ofMill rfl kX6_ofMill ⟨Nat.le_of_ble_eq_true rfl, Nat.le_of_ble_eq_true rfl⟩ rfl rfl (hP.sub (ws' := []) [] rfl) (dT (hD.sub (ws' := []) [] (by decide) rfl)) hG rfl rfl (Nat.le_of_ble_eq_true rfl) dX6_millComes_62 ⟨Nat.zero_le _, Nat.zero_le _⟩ ?_
          refine lv_iload_n hx hb dX6_millComes_65 rfl (lv_at hl 2 rfl) ?_
          refine va_iast hx hb hG.1 hP hD hS 1 0 rfl rfl (ix_t (i := (((pp + 1) + (3 * ((x 0) ((pp + 0)).toNatClampNeg))) + 0)) (x := ((((pp).toInt + 1) + (3 * (((x 0) ((pp + 0)).toNatClampNeg)).toInt)) + 0)) (n := 296) (ti_add (ti_add (ti_add rfl (show (1 : Int32).toInt = 1 from rfl) (by omega)) (ti_mul (show (3 : Int32).toInt = 3 from rfl) rfl (by omega)) (by omega)) (show (0 : Int32).toInt = 0 from rfl) (by omega)) (by omega)) dX6_millComes_66 (fun H locs hP hD hS => ?_)
          have hP : va_P D vwCl (wM q h (setA x 0 (upd (x 0) ((((pp + 1) + (3 * ((x 0) ((pp + 0)).toNatClampNeg))) + 0) : Int32).toNatClampNeg height))) H := hP
          have hD : va_D A (wM q h (setA x 0 (upd (x 0) ((((pp + 1) + (3 * ((x 0) ((pp + 0)).toNatClampNeg))) + 0) : Int32).toNatClampNeg height))) := hD
          obtain ⟨x_5, ex_5⟩ : ∃ z, z = (setA x 0 (upd (x 0) ((((pp + 1) + (3 * ((x 0) ((pp + 0)).toNatClampNeg))) + 0) : Int32).toNatClampNeg height)) := ⟨_, rfl⟩
          rw [← ex_5] at hP hD
          replace hR := lt_e hR ex_5
          have hm_a : (x_5 0 (pp + 0).toNatClampNeg) = (x 0 (pp + 0).toNatClampNeg) := by rw [ex_5, setA_same]; exact pk_un (cl_ne (ti_add rfl (show (0 : Int32).toInt = 0 from rfl) (by omega)) (ti_add (ti_add (ti_add rfl (show (1 : Int32).toInt = 1 from rfl) (by omega)) (ti_mul (show (3 : Int32).toInt = 3 from rfl) rfl (by omega)) (by omega)) (show (0 : Int32).toInt = 0 from rfl) (by omega)) (by omega))
          have hm_b : 0 ≤ (x_5 0 (pp + 0).toNatClampNeg).toInt ∧ (x_5 0 (pp + 0).toNatClampNeg).toInt < 4 := by rw [hm_a]; omega
          refine lv_aload_n hx hb dX6_millComes_67 rfl (lv_at hl 0 rfl) ?_
          refine va_get (D := D) (ci := 4) (v := .ref (h 1)) (C := RX6) (T := TX6) (N := 7) hx hb hts iX6_millComes_X6 hown hG.1 hP 0 rfl rfl 0 (by decide) (hts (.fieldLink RX6 7 "MillComplaintsModel" "s" "[I") (List.mem_of_getElem? (i := 1) rfl)) (fun _ h9 => h9) rfl dX6_millComes_68 ?_
          refine lv_iload_n hx hb dX6_millComes_71 rfl (lv_at hl 1 rfl) ?_
          refine lv_aload_n hx hb dX6_millComes_72 rfl (lv_at hl 0 rfl) ?_
          refine va_get (D := D) (ci := 4) (v := .ref (h 1)) (C := RX6) (T := TX6) (N := 7) hx hb hts iX6_millComes_X6 hown hG.1 hP 0 rfl rfl 0 (by decide) (hts (.fieldLink RX6 7 "MillComplaintsModel" "s" "[I") (List.mem_of_getElem? (i := 1) rfl)) (fun _ h9 => h9) rfl dX6_millComes_73 ?_
          refine lv_iload_n hx hb dX6_millComes_76 rfl (lv_at hl 1 rfl) ?_
          refine lv_iconst (v := 0) hx hb dX6_millComes_77 (by decide) ?_
          refine lv_iadd hx hb dX6_millComes_78 ?_
          refine va_iald hx hb hG.1 hP 1 0 rfl rfl (ix_t (i := (pp + 0)) (x := ((pp).toInt + 0)) (n := 296) (ti_add rfl (show (0 : Int32).toInt = 0 from rfl) (by omega)) (by omega)) dX6_millComes_79 ?_
          refine lv_iconst (v := 1) hx hb dX6_millComes_80 (by decide) ?_
          refine ro_S (v := .int (((pp + 1) + (3 * ((x_5 0) ((pp + 0)).toNatClampNeg))) + 1)) (rest := [.ref (h 1)]) (As := [.int pp, .int ((x_5 0) ((pp + 0)).toNatClampNeg), .int 1]) hx hb hml hown hts hl (MX6_ofMill l D q pp ((x_5 0) ((pp + 0)).toNatClampNeg) 1) gX6_millComes_X6_ofMill rfl kX6_ofMill ⟨Nat.le_of_ble_eq_true rfl, Nat.le_of_ble_eq_true rfl⟩ rfl rfl (hP.sub (ws' := []) [] rfl) (dT (hD.sub (ws' := []) [] (by decide) rfl)) hG rfl rfl (Nat.le_of_ble_eq_true rfl) dX6_millComes_81 ⟨Nat.zero_le _, Nat.zero_le _⟩ ?_
          refine lv_iload_n hx hb dX6_millComes_84 rfl (lv_at hl 3 rfl) ?_
          refine va_iast hx hb hG.1 hP hD hS 1 0 rfl rfl (ix_t (i := (((pp + 1) + (3 * ((x_5 0) ((pp + 0)).toNatClampNeg))) + 1)) (x := ((((pp).toInt + 1) + (3 * (((x_5 0) ((pp + 0)).toNatClampNeg)).toInt)) + 1)) (n := 296) (ti_add (ti_add (ti_add rfl (show (1 : Int32).toInt = 1 from rfl) (by omega)) (ti_mul (show (3 : Int32).toInt = 3 from rfl) rfl (by omega)) (by omega)) (show (1 : Int32).toInt = 1 from rfl) (by omega)) (by omega)) dX6_millComes_85 (fun H locs hP hD hS => ?_)
          have hP : va_P D vwCl (wM q h (setA x_5 0 (upd (x_5 0) ((((pp + 1) + (3 * ((x_5 0) ((pp + 0)).toNatClampNeg))) + 1) : Int32).toNatClampNeg yard))) H := hP
          have hD : va_D A (wM q h (setA x_5 0 (upd (x_5 0) ((((pp + 1) + (3 * ((x_5 0) ((pp + 0)).toNatClampNeg))) + 1) : Int32).toNatClampNeg yard))) := hD
          obtain ⟨x_6, ex_6⟩ : ∃ z, z = (setA x_5 0 (upd (x_5 0) ((((pp + 1) + (3 * ((x_5 0) ((pp + 0)).toNatClampNeg))) + 1) : Int32).toNatClampNeg yard)) := ⟨_, rfl⟩
          rw [← ex_6] at hP hD
          replace hR := lt_e hR ex_6
          refine lv_aload_n hx hb dX6_millComes_86 rfl (lv_at hl 0 rfl) ?_
          refine va_get (D := D) (ci := 4) (v := .ref (h 1)) (C := RX6) (T := TX6) (N := 7) hx hb hts iX6_millComes_X6 hown hG.1 hP 0 rfl rfl 0 (by decide) (hts (.fieldLink RX6 7 "MillComplaintsModel" "s" "[I") (List.mem_of_getElem? (i := 1) rfl)) (fun _ h9 => h9) rfl dX6_millComes_87 ?_
          refine lv_iload_n hx hb dX6_millComes_90 rfl (lv_at hl 1 rfl) ?_
          refine lv_iconst (v := 0) hx hb dX6_millComes_91 (by decide) ?_
          refine lv_iadd hx hb dX6_millComes_92 ?_
          refine lv_dup2_11 hx hb dX6_millComes_93 rfl rfl ?_
          refine va_iald hx hb hG.1 hP 1 0 rfl rfl (ix_t (i := (pp + 0)) (x := ((pp).toInt + 0)) (n := 296) (ti_add rfl (show (0 : Int32).toInt = 0 from rfl) (by omega)) (by omega)) dX6_millComes_94 ?_
          refine lv_iconst (v := 1) hx hb dX6_millComes_95 (by decide) ?_
          refine lv_iadd hx hb dX6_millComes_96 ?_
          refine va_iast hx hb hG.1 hP hD hS 1 0 rfl rfl (ix_t (i := (pp + 0)) (x := ((pp).toInt + 0)) (n := 296) (ti_add rfl (show (0 : Int32).toInt = 0 from rfl) (by omega)) (by omega)) dX6_millComes_97 (fun H locs hP hD hS => ?_)
          have hP : va_P D vwCl (wM q h (setA x_6 0 (upd (x_6 0) ((pp + 0) : Int32).toNatClampNeg (((x_6 0) ((pp + 0)).toNatClampNeg) + 1)))) H := hP
          have hD : va_D A (wM q h (setA x_6 0 (upd (x_6 0) ((pp + 0) : Int32).toNatClampNeg (((x_6 0) ((pp + 0)).toNatClampNeg) + 1)))) := hD
          obtain ⟨x_7, ex_7⟩ : ∃ z, z = (setA x_6 0 (upd (x_6 0) ((pp + 0) : Int32).toNatClampNeg (((x_6 0) ((pp + 0)).toNatClampNeg) + 1))) := ⟨_, rfl⟩
          rw [← ex_7] at hP hD
          replace hR := lt_e hR ex_7
          refine lv_aload_n hx hb dX6_millComes_98 rfl (lv_at hl 0 rfl) ?_
          refine va_get (D := D) (ci := 4) (v := .ref (h 1)) (C := RX6) (T := TX6) (N := 7) hx hb hts iX6_millComes_X6 hown hG.1 hP 0 rfl rfl 0 (by decide) (hts (.fieldLink RX6 7 "MillComplaintsModel" "s" "[I") (List.mem_of_getElem? (i := 1) rfl)) (fun _ h9 => h9) rfl dX6_millComes_99 ?_
          refine lv_iload_n hx hb dX6_millComes_102 rfl (lv_at hl 1 rfl) ?_
          refine lv_iconst (v := 0) hx hb dX6_millComes_103 (by decide) ?_
          refine lv_iadd hx hb dX6_millComes_104 ?_
          refine va_iald hx hb hG.1 hP 1 0 rfl rfl (ix_t (i := (pp + 0)) (x := ((pp).toInt + 0)) (n := 296) (ti_add rfl (show (0 : Int32).toInt = 0 from rfl) (by omega)) (by omega)) dX6_millComes_105 ?_
          refine lv_iconst (v := 1) hx hb dX6_millComes_106 (by decide) ?_
          refine lv_isub hx hb dX6_millComes_107 ?_
          subst hR
          exact mu_iret hx hb hr hk hA hS hP rfl dX6_millComes_108
        · rw [if_pos c_4] at hR
          have tc_4 : ((x 0) ((pp + 0)).toNatClampNeg).toInt = 4 := i_eq.mp c_4
          refine lv_bipush (v := (-3)) hx hb dX6_millComes_45 (by decide) ?_
          subst hR
          exact mu_iret hx hb hr hk hA hS hP rfl dX6_millComes_47
      · rw [if_neg c_3] at hR
        refine lv_bipush (v := (-4)) hx hb dX6_millComes_30 (by decide) ?_
        subst hR
        exact mu_iret hx hb hr hk hA hS hP rfl dX6_millComes_32
    · rw [if_pos c_2] at hR
      refine lv_bipush (v := (-2)) hx hb dX6_millComes_18 (by decide) ?_
      subst hR
      exact mu_iret hx hb hr hk hA hS hP rfl dX6_millComes_20
  · rw [if_pos c_1] at hR
    refine lv_iconst (v := (-1)) hx hb dX6_millComes_7 (by decide) ?_
    subst hR
    exact mu_iret hx hb hr hk hA hS hP rfl dX6_millComes_8
theorem k4_millComes (x : Nat → Nat → Int32) (pp height yard : Int32) : (mX6_millComes x pp height yard).2 4 = x 4 := by
  unfold mX6_millComes
  dsimp only [lt]
  repeat' split
  all_goals rfl

def mX6_houseComes (x : Nat → Nat → Int32) (pp yard : Int32) : Int32 × (Nat → Nat → Int32) := (if (mX6_isYard yard) = 0 then ((-1), x) else (if (mX6_isBuilt x pp yard) = 0 then (if ((x 0) ((pp + 13)).toNatClampNeg) = 10 then ((-3), x) else (lt (setA x 0 (upd (x 0) ((((pp + 14) + (2 * ((x 0) ((pp + 13)).toNatClampNeg))) + 0) : Int32).toNatClampNeg yard)) (fun x_4 => (lt (setA x_4 0 (upd (x_4 0) ((pp + 13) : Int32).toNatClampNeg (((x_4 0) ((pp + 13)).toNatClampNeg) + 1))) (fun x_5 => ((((x_5 0) ((pp + 13)).toNatClampNeg) - 1), x_5)))))) else ((-4), x)))
theorem kX6_houseComes : yX6_houseComes.cls = RX6 ∧ yX6_houseComes.cls ≠ "java/lang/invoke/MethodHandle" ∧ yX6_houseComes.cls ≠ "java/lang/invoke/VarHandle" ∧ (parseMethodDescriptor yX6_houseComes.desc).map (fun d => d.parameters.length) = some 2 := by decide +kernel
theorem iX6_houseComes_X6 : ∀ w ∈ wsX60, w ∈ wsX6_houseComes := fun w h => (List.mem_cons_of_mem _ (List.mem_append_right _ h))
set_option maxHeartbeats 4000000 in
set_option maxRecDepth 100000 in
theorem MX6_houseComes (l : Launch) (D : va_G) (q : Nat → ClassId) (h : Nat → Nat) (x : Nat → Nat → Int32) (pp yard : Int32) (hC : cntP x pp) (hpp : 0 ≤ pp.toInt ∧ pp.toInt < 149) : muM l D (tyq q) yX6_houseComes wsX6_houseComes ({ frames := 3, cells := 0, slots := 0, locals := 67 } : Room) [.ref (h 0), .int pp, .int yard] (wM q h x) (some (.int (mX6_houseComes x pp yard).1)) (wM q h (mX6_houseComes x pp yard).2) := by
  obtain ⟨R, hR⟩ : ∃ z, (mX6_houseComes x pp yard) = z := ⟨_, rfl⟩
  rw [hR]
  unfold mX6_houseComes at hR
  refine muM.of (cc := cX6_houseComes) (maxL := 3) (ret := (some .int)) (by decide) rfl (Nat.le_of_ble_eq_true rfl) ?_
  intro p e s m below meth c ls A hx hb hr hk hml hown hts hP hD hG hA hl
  have hS : va_S A s.heap s.heap [] := va_S.rf
  have hl : lv_has ls 3 [(0, .ref (h 0)), (1, .int pp), (2, .int yard)] := hl
  have hC1 := hC.1
  have hC2 := hC.2
  refine lv_iload_n hx hb dX6_houseComes_0 rfl (lv_at hl 2 rfl) ?_
  refine ro_S (v := .int (mX6_isYard yard)) (rest := []) (As := [.int yard]) hx hb hml hown hts hl (MX6_isYard l D q yard) gX6_houseComes_X6_isYard rfl kX6_isYard ⟨Nat.le_of_ble_eq_true rfl, Nat.le_of_ble_eq_true rfl⟩ rfl rfl (hP.sub (ws' := []) [] rfl) (dT (hD.sub (ws' := []) [] (by decide) rfl)) hG rfl rfl (Nat.le_of_ble_eq_true rfl) dX6_houseComes_1 ⟨Nat.zero_le _, Nat.zero_le _⟩ ?_
  refine lv_if_ne (tgt := 9) hx hb dX6_houseComes_4 (by decide) (fun c_1 => ?_) (fun c_1 => ?_)
  · rw [if_neg c_1] at hR
    refine lv_aload_n hx hb dX6_houseComes_9 rfl (lv_at hl 0 rfl) ?_
    refine lv_iload_n hx hb dX6_houseComes_10 rfl (lv_at hl 1 rfl) ?_
    refine lv_iload_n hx hb dX6_houseComes_11 rfl (lv_at hl 2 rfl) ?_
    refine ro_V (v := .int (mX6_isBuilt x pp yard)) (rest := []) (As := [.int pp, .int yard]) hx hb hml hown hts hl (MX6_isBuilt l D q h x pp yard hC (rg_t (i := pp) (x := (pp).toInt) rfl (by omega))) gX6_houseComes_X6_isBuilt rfl kX6_isBuilt ⟨Nat.le_of_ble_eq_true rfl, Nat.le_of_ble_eq_true rfl⟩ rfl rfl hP (dT hD) hG (ci := 4) rfl rfl rfl rfl (Nat.le_of_ble_eq_true rfl) dX6_houseComes_12 ⟨Nat.zero_le _, Nat.zero_le _⟩ ?_
    refine lv_if_eq (tgt := 21) hx hb dX6_houseComes_15 (by decide) (fun c_2 => ?_) (fun c_2 => ?_)
    · rw [if_pos c_2] at hR
      refine lv_aload_n hx hb dX6_houseComes_21 rfl (lv_at hl 0 rfl) ?_
      refine va_get (D := D) (ci := 4) (v := .ref (h 1)) (C := RX6) (T := TX6) (N := 7) hx hb hts iX6_houseComes_X6 hown hG.1 hP 0 rfl rfl 0 (by decide) (hts (.fieldLink RX6 7 "MillComplaintsModel" "s" "[I") (List.mem_of_getElem? (i := 1) rfl)) (fun _ h9 => h9) rfl dX6_houseComes_22 ?_
      refine lv_iload_n hx hb dX6_houseComes_25 rfl (lv_at hl 1 rfl) ?_
      refine lv_bipush (v := 13) hx hb dX6_houseComes_26 (by decide) ?_
      refine lv_iadd hx hb dX6_houseComes_28 ?_
      refine va_iald hx hb hG.1 hP 1 0 rfl rfl (ix_t (i := (pp + 13)) (x := ((pp).toInt + 13)) (n := 296) (ti_add rfl (show (13 : Int32).toInt = 13 from rfl) (by omega)) (by omega)) dX6_houseComes_29 ?_
      refine lv_bipush (v := 10) hx hb dX6_houseComes_30 (by decide) ?_
      refine lv_icmp_ne (tgt := 38) hx hb dX6_houseComes_32 (by decide) (fun c_3 => ?_) (fun c_3 => ?_)
      · rw [if_neg c_3] at hR
        have tc_3 : ¬ ((x 0) ((pp + 13)).toNatClampNeg).toInt = 10 := fun z => c_3 (i_eq.mpr z)
        refine lv_aload_n hx hb dX6_houseComes_38 rfl (lv_at hl 0 rfl) ?_
        refine va_get (D := D) (ci := 4) (v := .ref (h 1)) (C := RX6) (T := TX6) (N := 7) hx hb hts iX6_houseComes_X6 hown hG.1 hP 0 rfl rfl 0 (by decide) (hts (.fieldLink RX6 7 "MillComplaintsModel" "s" "[I") (List.mem_of_getElem? (i := 1) rfl)) (fun _ h9 => h9) rfl dX6_houseComes_39 ?_
        refine lv_iload_n hx hb dX6_houseComes_42 rfl (lv_at hl 1 rfl) ?_
        refine lv_aload_n hx hb dX6_houseComes_43 rfl (lv_at hl 0 rfl) ?_
        refine va_get (D := D) (ci := 4) (v := .ref (h 1)) (C := RX6) (T := TX6) (N := 7) hx hb hts iX6_houseComes_X6 hown hG.1 hP 0 rfl rfl 0 (by decide) (hts (.fieldLink RX6 7 "MillComplaintsModel" "s" "[I") (List.mem_of_getElem? (i := 1) rfl)) (fun _ h9 => h9) rfl dX6_houseComes_44 ?_
        refine lv_iload_n hx hb dX6_houseComes_47 rfl (lv_at hl 1 rfl) ?_
        refine lv_bipush (v := 13) hx hb dX6_houseComes_48 (by decide) ?_
        refine lv_iadd hx hb dX6_houseComes_50 ?_
        refine va_iald hx hb hG.1 hP 1 0 rfl rfl (ix_t (i := (pp + 13)) (x := ((pp).toInt + 13)) (n := 296) (ti_add rfl (show (13 : Int32).toInt = 13 from rfl) (by omega)) (by omega)) dX6_houseComes_51 ?_
        refine lv_iconst (v := 0) hx hb dX6_houseComes_52 (by decide) ?_
        refine ro_S (v := .int (((pp + 14) + (2 * ((x 0) ((pp + 13)).toNatClampNeg))) + 0)) (rest := [.ref (h 1)]) (As := [.int pp, .int ((x 0) ((pp + 13)).toNatClampNeg), .int 0]) hx hb hml hown hts hl (MX6_ofHouse l D q pp ((x 0) ((pp + 13)).toNatClampNeg) 0) gX6_houseComes_X6_ofHouse rfl kX6_ofHouse ⟨Nat.le_of_ble_eq_true rfl, Nat.le_of_ble_eq_true rfl⟩ rfl rfl (hP.sub (ws' := []) [] rfl) (dT (hD.sub (ws' := []) [] (by decide) rfl)) hG rfl rfl (Nat.le_of_ble_eq_true rfl) dX6_houseComes_53 ⟨Nat.zero_le _, Nat.zero_le _⟩ ?_
        refine lv_iload_n hx hb dX6_houseComes_56 rfl (lv_at hl 2 rfl) ?_
        refine va_iast hx hb hG.1 hP hD hS 1 0 rfl rfl (ix_t (i := (((pp + 14) + (2 * ((x 0) ((pp + 13)).toNatClampNeg))) + 0)) (x := ((((pp).toInt + 14) + (2 * (((x 0) ((pp + 13)).toNatClampNeg)).toInt)) + 0)) (n := 296) (ti_add (ti_add (ti_add rfl (show (14 : Int32).toInt = 14 from rfl) (by omega)) (ti_mul (show (2 : Int32).toInt = 2 from rfl) rfl (by omega)) (by omega)) (show (0 : Int32).toInt = 0 from rfl) (by omega)) (by omega)) dX6_houseComes_57 (fun H locs hP hD hS => ?_)
        have hP : va_P D vwCl (wM q h (setA x 0 (upd (x 0) ((((pp + 14) + (2 * ((x 0) ((pp + 13)).toNatClampNeg))) + 0) : Int32).toNatClampNeg yard))) H := hP
        have hD : va_D A (wM q h (setA x 0 (upd (x 0) ((((pp + 14) + (2 * ((x 0) ((pp + 13)).toNatClampNeg))) + 0) : Int32).toNatClampNeg yard))) := hD
        obtain ⟨x_4, ex_4⟩ : ∃ z, z = (setA x 0 (upd (x 0) ((((pp + 14) + (2 * ((x 0) ((pp + 13)).toNatClampNeg))) + 0) : Int32).toNatClampNeg yard)) := ⟨_, rfl⟩
        rw [← ex_4] at hP hD
        replace hR := lt_e hR ex_4
        refine lv_aload_n hx hb dX6_houseComes_58 rfl (lv_at hl 0 rfl) ?_
        refine va_get (D := D) (ci := 4) (v := .ref (h 1)) (C := RX6) (T := TX6) (N := 7) hx hb hts iX6_houseComes_X6 hown hG.1 hP 0 rfl rfl 0 (by decide) (hts (.fieldLink RX6 7 "MillComplaintsModel" "s" "[I") (List.mem_of_getElem? (i := 1) rfl)) (fun _ h9 => h9) rfl dX6_houseComes_59 ?_
        refine lv_iload_n hx hb dX6_houseComes_62 rfl (lv_at hl 1 rfl) ?_
        refine lv_bipush (v := 13) hx hb dX6_houseComes_63 (by decide) ?_
        refine lv_iadd hx hb dX6_houseComes_65 ?_
        refine lv_dup2_11 hx hb dX6_houseComes_66 rfl rfl ?_
        refine va_iald hx hb hG.1 hP 1 0 rfl rfl (ix_t (i := (pp + 13)) (x := ((pp).toInt + 13)) (n := 296) (ti_add rfl (show (13 : Int32).toInt = 13 from rfl) (by omega)) (by omega)) dX6_houseComes_67 ?_
        refine lv_iconst (v := 1) hx hb dX6_houseComes_68 (by decide) ?_
        refine lv_iadd hx hb dX6_houseComes_69 ?_
        refine va_iast hx hb hG.1 hP hD hS 1 0 rfl rfl (ix_t (i := (pp + 13)) (x := ((pp).toInt + 13)) (n := 296) (ti_add rfl (show (13 : Int32).toInt = 13 from rfl) (by omega)) (by omega)) dX6_houseComes_70 (fun H locs hP hD hS => ?_)
        have hP : va_P D vwCl (wM q h (setA x_4 0 (upd (x_4 0) ((pp + 13) : Int32).toNatClampNeg (((x_4 0) ((pp + 13)).toNatClampNeg) + 1)))) H := hP
        have hD : va_D A (wM q h (setA x_4 0 (upd (x_4 0) ((pp + 13) : Int32).toNatClampNeg (((x_4 0) ((pp + 13)).toNatClampNeg) + 1)))) := hD
        obtain ⟨x_5, ex_5⟩ : ∃ z, z = (setA x_4 0 (upd (x_4 0) ((pp + 13) : Int32).toNatClampNeg (((x_4 0) ((pp + 13)).toNatClampNeg) + 1))) := ⟨_, rfl⟩
        rw [← ex_5] at hP hD
        replace hR := lt_e hR ex_5
        refine lv_aload_n hx hb dX6_houseComes_71 rfl (lv_at hl 0 rfl) ?_
        refine va_get (D := D) (ci := 4) (v := .ref (h 1)) (C := RX6) (T := TX6) (N := 7) hx hb hts iX6_houseComes_X6 hown hG.1 hP 0 rfl rfl 0 (by decide) (hts (.fieldLink RX6 7 "MillComplaintsModel" "s" "[I") (List.mem_of_getElem? (i := 1) rfl)) (fun _ h9 => h9) rfl dX6_houseComes_72 ?_
        refine lv_iload_n hx hb dX6_houseComes_75 rfl (lv_at hl 1 rfl) ?_
        refine lv_bipush (v := 13) hx hb dX6_houseComes_76 (by decide) ?_
        refine lv_iadd hx hb dX6_houseComes_78 ?_
        refine va_iald hx hb hG.1 hP 1 0 rfl rfl (ix_t (i := (pp + 13)) (x := ((pp).toInt + 13)) (n := 296) (ti_add rfl (show (13 : Int32).toInt = 13 from rfl) (by omega)) (by omega)) dX6_houseComes_79 ?_
        refine lv_iconst (v := 1) hx hb dX6_houseComes_80 (by decide) ?_
        refine lv_isub hx hb dX6_houseComes_81 ?_
        subst hR
        exact mu_iret hx hb hr hk hA hS hP rfl dX6_houseComes_82
      · rw [if_pos c_3] at hR
        have tc_3 : ((x 0) ((pp + 13)).toNatClampNeg).toInt = 10 := i_eq.mp c_3
        refine lv_bipush (v := (-3)) hx hb dX6_houseComes_35 (by decide) ?_
        subst hR
        exact mu_iret hx hb hr hk hA hS hP rfl dX6_houseComes_37
    · rw [if_neg c_2] at hR
      refine lv_bipush (v := (-4)) hx hb dX6_houseComes_18 (by decide) ?_
      subst hR
      exact mu_iret hx hb hr hk hA hS hP rfl dX6_houseComes_20
  · rw [if_pos c_1] at hR
    refine lv_iconst (v := (-1)) hx hb dX6_houseComes_7 (by decide) ?_
    subst hR
    exact mu_iret hx hb hr hk hA hS hP rfl dX6_houseComes_8
theorem k4_houseComes (x : Nat → Nat → Int32) (pp yard : Int32) : (mX6_houseComes x pp yard).2 4 = x 4 := by
  unfold mX6_houseComes
  dsimp only [lt]
  repeat' split
  all_goals rfl

def mX6_blows_6 (pp : Int32) (wind : Int32) (C : (Nat → Nat → Int32) → Int32 → Int32 → (Int32 × (Nat → Nat → Int32))) : Nat → (Nat → Nat → Int32) → Int32 → Int32 → (Int32 × (Nat → Nat → Int32))
  | 0, xL_6, x6_6, x5_6 => C xL_6 x6_6 x5_6
  | n_6 + 1, xL_6, x6_6, x5_6 => (if ((xL_6 0) (((pp + 34) + x6_6)).toNatClampNeg) = wind then (lt (setA xL_6 0 (upd (xL_6 0) (((pp + 34) + x6_6) : Int32).toNatClampNeg wind)) (fun x_5 => (mX6_blows_6 pp wind C n_6 x_5 (x6_6 + 1) (x5_6 + 0)))) else (lt (setA xL_6 0 (upd (xL_6 0) (((pp + 34) + x6_6) : Int32).toNatClampNeg wind)) (fun x_4 => (mX6_blows_6 pp wind C n_6 x_4 (x6_6 + 1) (x5_6 + 1)))))
def mX6_blows (x : Nat → Nat → Int32) (pp fr tt wind : Int32) : Int32 × (Nat → Nat → Int32) := (mX6_blows_6 pp wind (fun xL_6 x6_6 x5_6 => (if x5_6 = 0 then ((-5), xL_6) else (x5_6, xL_6))) (tq fr tt) x fr 0)
theorem kX6_blows : yX6_blows.cls = RX6 ∧ yX6_blows.cls ≠ "java/lang/invoke/MethodHandle" ∧ yX6_blows.cls ≠ "java/lang/invoke/VarHandle" ∧ (parseMethodDescriptor yX6_blows.desc).map (fun d => d.parameters.length) = some 4 := by decide +kernel
theorem iX6_blows_X6 : ∀ w ∈ wsX60, w ∈ wsX6_blows := fun w h => (List.mem_cons_of_mem _ (List.mem_append_right _ h))
set_option maxHeartbeats 4000000 in
set_option maxRecDepth 100000 in
theorem MX6_blows (l : Launch) (D : va_G) (q : Nat → ClassId) (h : Nat → Nat) (x : Nat → Nat → Int32) (pp fr tt wind : Int32) (hpp : 0 ≤ pp.toInt ∧ pp.toInt < 149) (hfr : 0 ≤ pp.toInt + 34 + fr.toInt) (hto : pp.toInt + 34 + tt.toInt < 296) : muM l D (tyq q) yX6_blows wsX6_blows ({ frames := 0, cells := 0, slots := 0, locals := 0 } : Room) [.ref (h 0), .int pp, .int fr, .int tt, .int wind] (wM q h x) (some (.int (mX6_blows x pp fr tt wind).1)) (wM q h (mX6_blows x pp fr tt wind).2) := by
  obtain ⟨R, hR⟩ : ∃ z, (mX6_blows x pp fr tt wind) = z := ⟨_, rfl⟩
  rw [hR]
  unfold mX6_blows at hR
  refine muM.of (cc := cX6_blows) (maxL := 7) (ret := (some .int)) (by decide) rfl (Nat.le_of_ble_eq_true rfl) ?_
  intro p e s m below meth c ls A hx hb hr hk hml hown hts hP hD hG hA hl
  have hS : va_S A s.heap s.heap [] := va_S.rf
  have hl : lv_has ls 7 [(0, .ref (h 0)), (1, .int pp), (2, .int fr), (3, .int tt), (4, .int wind)] := hl
  refine lv_iconst (v := 0) hx hb dX6_blows_0 (by decide) ?_
  refine lv_istore (lv' := [(5, .int 0), (0, .ref (h 0)), (1, .int pp), (2, .int fr), (3, .int tt), (4, .int wind)]) hx hb dX6_blows_1 hl (by decide) rfl (fun ls hl => ?_)
  refine lv_iload_n hx hb dX6_blows_3 rfl (lv_at hl 3 rfl) ?_
  refine lv_istore (lv' := [(6, .int fr), (5, .int 0), (0, .ref (h 0)), (1, .int pp), (2, .int fr), (3, .int tt), (4, .int wind)]) hx hb dX6_blows_4 hl (by decide) rfl (fun ls hl => ?_)
  have key_6 : ∀ (n_6 : Nat) (xL_6 : Nat → Nat → Int32) (x6_6 : Int32) (x5_6 : Int32) (H : Heap) (locs : List Loc) , tq x6_6 tt = n_6 → 0 ≤ pp.toInt + 34 + x6_6.toInt → mX6_blows_6 pp wind (fun xL_6 x6_6 x5_6 => (if x5_6 = 0 then ((-5), xL_6) else (x5_6, xL_6))) n_6 xL_6 x6_6 x5_6 = R → va_P D vwCl (wM q h xL_6) H → va_D A (wM q h xL_6) → va_S A s.heap H locs → ∀ ls : Array Slot, lv_has ls 7 [(6, .int x6_6), (5, .int x5_6), (0, .ref (h 0)), (1, .int pp), (2, .int fr), (3, .int tt), (4, .int wind)] → W p l e ({ frames := 0, cells := 0, slots := 0, locals := 0 } : Room) s m ([.ref (h 0), .int pp, .int fr, .int tt, .int wind] : List Value).toArray below meth c H locs 0 0 (MQ below (muQ D (some (.int R.1)) (wM q h x) (wM q h R.2)) ([.ref (h 0), .int pp, .int fr, .int tt, .int wind] : List Value).toArray s 0 0 (wAt (wM q h x))) (F0 m 6 ls []) := by
    intro n_6
    induction n_6 with
    | zero =>
      intro xL_6 x6_6 x5_6 H locs hn_6 hk_6 hR hP hD hS ls hl
      rw [mX6_blows_6] at hR
      refine lv_iload hx hb dX6_blows_6 (lv_at hl 0 rfl) ?_
      refine lv_iload_n hx hb dX6_blows_8 rfl (lv_at hl 5 rfl) ?_
      refine lv_icmp_gt (tgt := 59) hx hb dX6_blows_9 (by decide) (fun c_1 => ?_) (fun c_1 => (tq0 hn_6 c_1).elim)
      refine lv_iload hx hb dX6_blows_59 (lv_at hl 1 rfl) ?_
      refine lv_if_ne (tgt := 69) hx hb dX6_blows_61 (by decide) (fun c_2 => ?_) (fun c_2 => ?_)
      · rw [if_neg c_2] at hR
        have tc_2 : ¬ x5_6.toInt = 0 := fun z => c_2 (i_eq.mpr z)
        refine lv_iload hx hb dX6_blows_69 (lv_at hl 1 rfl) ?_
        subst hR
        exact mu_iret hx hb hr hk hA hS hP rfl dX6_blows_71
      · rw [if_pos c_2] at hR
        have tc_2 : x5_6.toInt = 0 := i_eq.mp c_2
        refine lv_bipush (v := (-5)) hx hb dX6_blows_64 (by decide) ?_
        refine lv_goto (tgt := 71) hx hb dX6_blows_66 (by decide) ?_
        subst hR
        exact mu_iret hx hb hr hk hA hS hP rfl dX6_blows_71
    | succ n_6 ih_6 =>
      intro xL_6 x6_6 x5_6 H locs hn_6 hk_6 hR hP hD hS ls hl
      rw [mX6_blows_6] at hR
      refine lv_iload hx hb dX6_blows_6 (lv_at hl 0 rfl) ?_
      refine lv_iload_n hx hb dX6_blows_8 rfl (lv_at hl 5 rfl) ?_
      refine lv_icmp_gt (tgt := 59) hx hb dX6_blows_9 (by decide) (fun c_1 => (tqS hn_6 c_1).elim) (fun c_1 => ?_)
      have hle_c_1 := kq_le c_1
      refine lv_iload hx hb dX6_blows_12 (lv_at hl 1 rfl) ?_
      refine lv_aload_n hx hb dX6_blows_14 rfl (lv_at hl 2 rfl) ?_
      refine va_get (D := D) (ci := 4) (v := .ref (h 1)) (C := RX6) (T := TX6) (N := 7) hx hb hts iX6_blows_X6 hown hG.1 hP 0 rfl rfl 0 (by decide) (hts (.fieldLink RX6 7 "MillComplaintsModel" "s" "[I") (List.mem_of_getElem? (i := 1) rfl)) (fun _ h9 => h9) rfl dX6_blows_15 ?_
      refine lv_iload_n hx hb dX6_blows_18 rfl (lv_at hl 3 rfl) ?_
      refine lv_bipush (v := 34) hx hb dX6_blows_19 (by decide) ?_
      refine lv_iadd hx hb dX6_blows_21 ?_
      refine lv_iload hx hb dX6_blows_22 (lv_at hl 0 rfl) ?_
      refine lv_iadd hx hb dX6_blows_24 ?_
      refine va_iald hx hb hG.1 hP 1 0 rfl rfl (ix_t (i := ((pp + 34) + x6_6)) (x := (((pp).toInt + 34) + (x6_6).toInt)) (n := 296) (ti_add (ti_add rfl (show (34 : Int32).toInt = 34 from rfl) (by omega)) rfl (by omega)) (by omega)) dX6_blows_25 ?_
      refine lv_iload hx hb dX6_blows_26 (lv_at hl 6 rfl) ?_
      refine lv_icmp_ne (tgt := 35) hx hb dX6_blows_28 (by decide) (fun c_3 => ?_) (fun c_3 => ?_)
      · rw [if_neg c_3] at hR
        have tc_3 : ¬ ((xL_6 0) (((pp + 34) + x6_6)).toNatClampNeg).toInt = wind.toInt := fun z => c_3 (i_eq.mpr z)
        refine lv_iconst (v := 1) hx hb dX6_blows_35 (by decide) ?_
        refine lv_iadd hx hb dX6_blows_36 ?_
        refine lv_istore (lv' := [(5, .int (x5_6 + 1)), (6, .int x6_6), (0, .ref (h 0)), (1, .int pp), (2, .int fr), (3, .int tt), (4, .int wind)]) hx hb dX6_blows_37 hl (by decide) rfl (fun ls hl => ?_)
        refine lv_aload_n hx hb dX6_blows_39 rfl (lv_at hl 2 rfl) ?_
        refine va_get (D := D) (ci := 4) (v := .ref (h 1)) (C := RX6) (T := TX6) (N := 7) hx hb hts iX6_blows_X6 hown hG.1 hP 0 rfl rfl 0 (by decide) (hts (.fieldLink RX6 7 "MillComplaintsModel" "s" "[I") (List.mem_of_getElem? (i := 1) rfl)) (fun _ h9 => h9) rfl dX6_blows_40 ?_
        refine lv_iload_n hx hb dX6_blows_43 rfl (lv_at hl 3 rfl) ?_
        refine lv_bipush (v := 34) hx hb dX6_blows_44 (by decide) ?_
        refine lv_iadd hx hb dX6_blows_46 ?_
        refine lv_iload hx hb dX6_blows_47 (lv_at hl 1 rfl) ?_
        refine lv_iadd hx hb dX6_blows_49 ?_
        refine lv_iload hx hb dX6_blows_50 (lv_at hl 6 rfl) ?_
        refine va_iast hx hb hG.1 hP hD hS 1 0 rfl rfl (ix_t (i := ((pp + 34) + x6_6)) (x := (((pp).toInt + 34) + (x6_6).toInt)) (n := 296) (ti_add (ti_add rfl (show (34 : Int32).toInt = 34 from rfl) (by omega)) rfl (by omega)) (by omega)) dX6_blows_52 (fun H locs hP hD hS => ?_)
        have hP : va_P D vwCl (wM q h (setA xL_6 0 (upd (xL_6 0) (((pp + 34) + x6_6) : Int32).toNatClampNeg wind))) H := hP
        have hD : va_D A (wM q h (setA xL_6 0 (upd (xL_6 0) (((pp + 34) + x6_6) : Int32).toNatClampNeg wind))) := hD
        obtain ⟨x_4, ex_4⟩ : ∃ z, z = (setA xL_6 0 (upd (xL_6 0) (((pp + 34) + x6_6) : Int32).toNatClampNeg wind)) := ⟨_, rfl⟩
        rw [← ex_4] at hP hD
        replace hR := lt_e hR ex_4
        refine lv_iinc (v := (x6_6 + 1)) (lv' := [(6, .int (x6_6 + 1)), (5, .int (x5_6 + 1)), (0, .ref (h 0)), (1, .int pp), (2, .int fr), (3, .int tt), (4, .int wind)]) hx hb dX6_blows_53 hl (k := 1) rfl rfl (by decide) rfl (fun ls hl => ?_)
        refine lv_goto (tgt := 6) hx hb dX6_blows_56 (by decide) ?_
        exact ih_6 x_4 (x6_6 + 1) (x5_6 + 1) _ _ (tqN hn_6 (by omega)) (by rw [kq_up c_1 (by omega)]; omega) hR hP hD hS ls (lv_sub hl [0, 1, 2, 3, 4, 5, 6] rfl)
      · rw [if_pos c_3] at hR
        have tc_3 : ((xL_6 0) (((pp + 34) + x6_6)).toNatClampNeg).toInt = wind.toInt := i_eq.mp c_3
        refine lv_iconst (v := 0) hx hb dX6_blows_31 (by decide) ?_
        refine lv_goto (tgt := 36) hx hb dX6_blows_32 (by decide) ?_
        refine lv_iadd hx hb dX6_blows_36 ?_
        refine lv_istore (lv' := [(5, .int (x5_6 + 0)), (6, .int x6_6), (0, .ref (h 0)), (1, .int pp), (2, .int fr), (3, .int tt), (4, .int wind)]) hx hb dX6_blows_37 hl (by decide) rfl (fun ls hl => ?_)
        refine lv_aload_n hx hb dX6_blows_39 rfl (lv_at hl 2 rfl) ?_
        refine va_get (D := D) (ci := 4) (v := .ref (h 1)) (C := RX6) (T := TX6) (N := 7) hx hb hts iX6_blows_X6 hown hG.1 hP 0 rfl rfl 0 (by decide) (hts (.fieldLink RX6 7 "MillComplaintsModel" "s" "[I") (List.mem_of_getElem? (i := 1) rfl)) (fun _ h9 => h9) rfl dX6_blows_40 ?_
        refine lv_iload_n hx hb dX6_blows_43 rfl (lv_at hl 3 rfl) ?_
        refine lv_bipush (v := 34) hx hb dX6_blows_44 (by decide) ?_
        refine lv_iadd hx hb dX6_blows_46 ?_
        refine lv_iload hx hb dX6_blows_47 (lv_at hl 1 rfl) ?_
        refine lv_iadd hx hb dX6_blows_49 ?_
        refine lv_iload hx hb dX6_blows_50 (lv_at hl 6 rfl) ?_
        refine va_iast hx hb hG.1 hP hD hS 1 0 rfl rfl (ix_t (i := ((pp + 34) + x6_6)) (x := (((pp).toInt + 34) + (x6_6).toInt)) (n := 296) (ti_add (ti_add rfl (show (34 : Int32).toInt = 34 from rfl) (by omega)) rfl (by omega)) (by omega)) dX6_blows_52 (fun H locs hP hD hS => ?_)
        have hP : va_P D vwCl (wM q h (setA xL_6 0 (upd (xL_6 0) (((pp + 34) + x6_6) : Int32).toNatClampNeg wind))) H := hP
        have hD : va_D A (wM q h (setA xL_6 0 (upd (xL_6 0) (((pp + 34) + x6_6) : Int32).toNatClampNeg wind))) := hD
        obtain ⟨x_5, ex_5⟩ : ∃ z, z = (setA xL_6 0 (upd (xL_6 0) (((pp + 34) + x6_6) : Int32).toNatClampNeg wind)) := ⟨_, rfl⟩
        rw [← ex_5] at hP hD
        replace hR := lt_e hR ex_5
        refine lv_iinc (v := (x6_6 + 1)) (lv' := [(6, .int (x6_6 + 1)), (5, .int (x5_6 + 0)), (0, .ref (h 0)), (1, .int pp), (2, .int fr), (3, .int tt), (4, .int wind)]) hx hb dX6_blows_53 hl (k := 1) rfl rfl (by decide) rfl (fun ls hl => ?_)
        refine lv_goto (tgt := 6) hx hb dX6_blows_56 (by decide) ?_
        exact ih_6 x_5 (x6_6 + 1) (x5_6 + 0) _ _ (tqN hn_6 (by omega)) (by rw [kq_up c_1 (by omega)]; omega) hR hP hD hS ls (lv_sub hl [0, 1, 2, 3, 4, 5, 6] rfl)
  exact key_6 _ x fr 0 _ _ rfl hfr hR hP hD hS ls hl
theorem blows_k4 (pp wind : Int32) (C : (Nat → Nat → Int32) → Int32 → Int32 → (Int32 × (Nat → Nat → Int32))) (hC : ∀ z a b, (C z a b).2 4 = z 4) : ∀ (n : Nat) (x : Nat → Nat → Int32) (a b : Int32), (mX6_blows_6 pp wind C n x a b).2 4 = x 4
  | 0, x, a, b => by rw [mX6_blows_6]; exact hC x a b
  | n + 1, x, a, b => by
    rw [mX6_blows_6]
    split
    · exact blows_k4 pp wind C hC n _ _ _
    · exact blows_k4 pp wind C hC n _ _ _
theorem k4_blows (x : Nat → Nat → Int32) (pp fr tt wind : Int32) : (mX6_blows x pp fr tt wind).2 4 = x 4 := blows_k4 pp wind _ (fun z a b => by split <;> rfl) _ _ _ _

def mX6_mill (x : Nat → Nat → Int32) (height yard : Int32) : Int32 × (Nat → Nat → Int32) := (lt (mX6_copies x) (fun q_1 => (lt (mX6_millComes q_1 148 height yard) (fun q_2 => (lt (mX6_acts q_2.2 q_2.1) (fun q_3 => (q_3.1, q_3.2)))))))
theorem kX6_mill : yX6_mill.cls = RX6 ∧ yX6_mill.cls ≠ "java/lang/invoke/MethodHandle" ∧ yX6_mill.cls ≠ "java/lang/invoke/VarHandle" ∧ (parseMethodDescriptor yX6_mill.desc).map (fun d => d.parameters.length) = some 2 := by decide +kernel
set_option maxHeartbeats 4000000 in
set_option maxRecDepth 100000 in
theorem MX6_mill (l : Launch) (D : va_G) (q : Nat → ClassId) (h : Nat → Nat) (x : Nat → Nat → Int32) (height yard : Int32) (hC : cntP x 0) (hkn : 0 ≤ (x 4 0).toInt ∧ (x 4 0).toInt < 5) : muM l D (tyq q) yX6_mill wsX6_mill ({ frames := 4, cells := 0, slots := 0, locals := 90 } : Room) [.ref (h 0), .int height, .int yard] (wM q h x) (some (.int (mX6_mill x height yard).1)) (wM q h (mX6_mill x height yard).2) := by
  obtain ⟨R, hR⟩ : ∃ z, (mX6_mill x height yard) = z := ⟨_, rfl⟩
  rw [hR]
  unfold mX6_mill at hR
  refine muM.of (cc := cX6_mill) (maxL := 3) (ret := (some .int)) (by decide) rfl (Nat.le_of_ble_eq_true rfl) ?_
  intro p e s m below meth c ls A hx hb hr hk hml hown hts hP hD hG hA hl
  have hS : va_S A s.heap s.heap [] := va_S.rf
  have hl : lv_has ls 3 [(0, .ref (h 0)), (1, .int height), (2, .int yard)] := hl
  refine lv_aload_n hx hb dX6_mill_0 rfl (lv_at hl 0 rfl) ?_
  obtain ⟨q_1, eq_1⟩ : ∃ z, z = (mX6_copies x) := ⟨_, rfl⟩
  have hM := MX6_copies l D q h x
  rw [← eq_1] at hM
  replace hR := lt_e hR eq_1
  refine mu_V (D := D) (ws := (wM q h x)) (ws' := (wM q h q_1)) (rest := []) (As := []) hx hb hml hown hts hl hM gX6_mill_X6_copies rfl kX6_copies ⟨Nat.le_of_ble_eq_true rfl, Nat.le_of_ble_eq_true rfl⟩ rfl rfl hP hD hS hG [0, 1, 2, 3, 4] rfl rfl (by decide) [5, 6, 7, 8, 9] rfl (by decide) rfl (ci := 4) rfl rfl rfl rfl (Nat.le_of_ble_eq_true rfl) dX6_mill_1 ⟨Nat.zero_le _, Nat.zero_le _⟩ (fun H locs hP hD hS => ?_)
  refine lv_aload_n hx hb dX6_mill_4 rfl (lv_at hl 0 rfl) ?_
  refine lv_aload_n hx hb dX6_mill_5 rfl (lv_at hl 0 rfl) ?_
  refine lv_sipush (v := 148) hx hb dX6_mill_6 (by decide) ?_
  refine lv_iload_n hx hb dX6_mill_9 rfl (lv_at hl 1 rfl) ?_
  refine lv_iload_n hx hb dX6_mill_10 rfl (lv_at hl 2 rfl) ?_
  obtain ⟨q_2, eq_2⟩ : ∃ z, z = (mX6_millComes q_1 148 height yard) := ⟨_, rfl⟩
  have hM := MX6_millComes l D q h q_1 148 height yard (by rw [eq_1]; exact cnt_copies hC) (rg_t (i := 148) (x := 148) (show (148 : Int32).toInt = 148 from rfl) (by omega))
  rw [← eq_2] at hM
  replace hR := lt_e hR eq_2
  refine mu_V (D := D) (ws := (wM q h q_1)) (ws' := (wM q h q_2.2)) (rest := [.ref (h 0)]) (As := [.int 148, .int height, .int yard]) hx hb hml hown hts hl hM gX6_mill_X6_millComes rfl kX6_millComes ⟨Nat.le_of_ble_eq_true rfl, Nat.le_of_ble_eq_true rfl⟩ rfl rfl hP hD hS hG [0, 1, 2, 3, 4] rfl rfl (by decide) [5, 6, 7, 8, 9] rfl (by decide) rfl (ci := 4) rfl rfl rfl rfl (Nat.le_of_ble_eq_true rfl) dX6_mill_11 ⟨Nat.zero_le _, Nat.zero_le _⟩ (fun H locs hP hD hS => ?_)
  obtain ⟨q_3, eq_3⟩ : ∃ z, z = (mX6_acts q_2.2 q_2.1) := ⟨_, rfl⟩
  have hM := MX6_acts l D q h q_2.2 q_2.1 (by rw [show q_2.2 4 = x 4 from (by rw [eq_2]; exact (k4_millComes _ _ _ _).trans (by rw [eq_1]; exact (k4_copies _).trans rfl))]; exact hkn)
  rw [← eq_3] at hM
  replace hR := lt_e hR eq_3
  refine mu_V (D := D) (ws := (wM q h q_2.2)) (ws' := (wM q h q_3.2)) (rest := []) (As := [.int q_2.1]) hx hb hml hown hts hl hM gX6_mill_X6_acts rfl kX6_acts ⟨Nat.le_of_ble_eq_true rfl, Nat.le_of_ble_eq_true rfl⟩ rfl rfl hP hD hS hG [0, 1, 2, 3, 4] rfl rfl (by decide) [5, 6, 7, 8, 9] rfl (by decide) rfl (ci := 4) rfl rfl rfl rfl (Nat.le_of_ble_eq_true rfl) dX6_mill_14 ⟨Nat.zero_le _, Nat.zero_le _⟩ (fun H locs hP hD hS => ?_)
  subst hR
  exact mu_iret hx hb hr hk hA hS hP rfl dX6_mill_17

def mX6_house (x : Nat → Nat → Int32) (yard : Int32) : Int32 × (Nat → Nat → Int32) := (lt (mX6_copies x) (fun q_1 => (lt (mX6_houseComes q_1 148 yard) (fun q_2 => (lt (mX6_acts q_2.2 q_2.1) (fun q_3 => (q_3.1, q_3.2)))))))
theorem kX6_house : yX6_house.cls = RX6 ∧ yX6_house.cls ≠ "java/lang/invoke/MethodHandle" ∧ yX6_house.cls ≠ "java/lang/invoke/VarHandle" ∧ (parseMethodDescriptor yX6_house.desc).map (fun d => d.parameters.length) = some 1 := by decide +kernel
set_option maxHeartbeats 4000000 in
set_option maxRecDepth 100000 in
theorem MX6_house (l : Launch) (D : va_G) (q : Nat → ClassId) (h : Nat → Nat) (x : Nat → Nat → Int32) (yard : Int32) (hC : cntP x 0) (hkn : 0 ≤ (x 4 0).toInt ∧ (x 4 0).toInt < 5) : muM l D (tyq q) yX6_house wsX6_house ({ frames := 4, cells := 0, slots := 0, locals := 89 } : Room) [.ref (h 0), .int yard] (wM q h x) (some (.int (mX6_house x yard).1)) (wM q h (mX6_house x yard).2) := by
  obtain ⟨R, hR⟩ : ∃ z, (mX6_house x yard) = z := ⟨_, rfl⟩
  rw [hR]
  unfold mX6_house at hR
  refine muM.of (cc := cX6_house) (maxL := 2) (ret := (some .int)) (by decide) rfl (Nat.le_of_ble_eq_true rfl) ?_
  intro p e s m below meth c ls A hx hb hr hk hml hown hts hP hD hG hA hl
  have hS : va_S A s.heap s.heap [] := va_S.rf
  have hl : lv_has ls 2 [(0, .ref (h 0)), (1, .int yard)] := hl
  refine lv_aload_n hx hb dX6_house_0 rfl (lv_at hl 0 rfl) ?_
  obtain ⟨q_1, eq_1⟩ : ∃ z, z = (mX6_copies x) := ⟨_, rfl⟩
  have hM := MX6_copies l D q h x
  rw [← eq_1] at hM
  replace hR := lt_e hR eq_1
  refine mu_V (D := D) (ws := (wM q h x)) (ws' := (wM q h q_1)) (rest := []) (As := []) hx hb hml hown hts hl hM gX6_house_X6_copies rfl kX6_copies ⟨Nat.le_of_ble_eq_true rfl, Nat.le_of_ble_eq_true rfl⟩ rfl rfl hP hD hS hG [0, 1, 2, 3, 4] rfl rfl (by decide) [5, 6, 7, 8, 9] rfl (by decide) rfl (ci := 4) rfl rfl rfl rfl (Nat.le_of_ble_eq_true rfl) dX6_house_1 ⟨Nat.zero_le _, Nat.zero_le _⟩ (fun H locs hP hD hS => ?_)
  refine lv_aload_n hx hb dX6_house_4 rfl (lv_at hl 0 rfl) ?_
  refine lv_aload_n hx hb dX6_house_5 rfl (lv_at hl 0 rfl) ?_
  refine lv_sipush (v := 148) hx hb dX6_house_6 (by decide) ?_
  refine lv_iload_n hx hb dX6_house_9 rfl (lv_at hl 1 rfl) ?_
  obtain ⟨q_2, eq_2⟩ : ∃ z, z = (mX6_houseComes q_1 148 yard) := ⟨_, rfl⟩
  have hM := MX6_houseComes l D q h q_1 148 yard (by rw [eq_1]; exact cnt_copies hC) (rg_t (i := 148) (x := 148) (show (148 : Int32).toInt = 148 from rfl) (by omega))
  rw [← eq_2] at hM
  replace hR := lt_e hR eq_2
  refine mu_V (D := D) (ws := (wM q h q_1)) (ws' := (wM q h q_2.2)) (rest := [.ref (h 0)]) (As := [.int 148, .int yard]) hx hb hml hown hts hl hM gX6_house_X6_houseComes rfl kX6_houseComes ⟨Nat.le_of_ble_eq_true rfl, Nat.le_of_ble_eq_true rfl⟩ rfl rfl hP hD hS hG [0, 1, 2, 3, 4] rfl rfl (by decide) [5, 6, 7, 8, 9] rfl (by decide) rfl (ci := 4) rfl rfl rfl rfl (Nat.le_of_ble_eq_true rfl) dX6_house_10 ⟨Nat.zero_le _, Nat.zero_le _⟩ (fun H locs hP hD hS => ?_)
  obtain ⟨q_3, eq_3⟩ : ∃ z, z = (mX6_acts q_2.2 q_2.1) := ⟨_, rfl⟩
  have hM := MX6_acts l D q h q_2.2 q_2.1 (by rw [show q_2.2 4 = x 4 from (by rw [eq_2]; exact (k4_houseComes _ _ _).trans (by rw [eq_1]; exact (k4_copies _).trans rfl))]; exact hkn)
  rw [← eq_3] at hM
  replace hR := lt_e hR eq_3
  refine mu_V (D := D) (ws := (wM q h q_2.2)) (ws' := (wM q h q_3.2)) (rest := []) (As := [.int q_2.1]) hx hb hml hown hts hl hM gX6_house_X6_acts rfl kX6_acts ⟨Nat.le_of_ble_eq_true rfl, Nat.le_of_ble_eq_true rfl⟩ rfl rfl hP hD hS hG [0, 1, 2, 3, 4] rfl rfl (by decide) [5, 6, 7, 8, 9] rfl (by decide) rfl (ci := 4) rfl rfl rfl rfl (Nat.le_of_ble_eq_true rfl) dX6_house_13 ⟨Nat.zero_le _, Nat.zero_le _⟩ (fun H locs hP hD hS => ?_)
  subst hR
  exact mu_iret hx hb hr hk hA hS hP rfl dX6_house_16

def mX6_wind (x : Nat → Nat → Int32) (fr tt wind : Int32) : Int32 × (Nat → Nat → Int32) := (if (mX6_isHour fr) = 0 then ((-1), x) else (if (mX6_in tt fr 23) = 0 then ((-1), x) else (if (mX6_in wind 0 9) = 0 then ((-2), x) else (lt (mX6_copies x) (fun q_4 => (lt (mX6_blows q_4 148 fr tt wind) (fun q_5 => (lt (mX6_acts q_5.2 q_5.1) (fun q_6 => (q_6.1, q_6.2))))))))))
theorem kX6_wind : yX6_wind.cls = RX6 ∧ yX6_wind.cls ≠ "java/lang/invoke/MethodHandle" ∧ yX6_wind.cls ≠ "java/lang/invoke/VarHandle" ∧ (parseMethodDescriptor yX6_wind.desc).map (fun d => d.parameters.length) = some 3 := by decide +kernel
set_option maxHeartbeats 4000000 in
set_option maxRecDepth 100000 in
theorem MX6_wind (l : Launch) (D : va_G) (q : Nat → ClassId) (h : Nat → Nat) (x : Nat → Nat → Int32) (fr tt wind : Int32) (hkn : 0 ≤ (x 4 0).toInt ∧ (x 4 0).toInt < 5) : muM l D (tyq q) yX6_wind wsX6_wind ({ frames := 3, cells := 0, slots := 0, locals := 63 } : Room) [.ref (h 0), .int fr, .int tt, .int wind] (wM q h x) (some (.int (mX6_wind x fr tt wind).1)) (wM q h (mX6_wind x fr tt wind).2) := by
  obtain ⟨R, hR⟩ : ∃ z, (mX6_wind x fr tt wind) = z := ⟨_, rfl⟩
  rw [hR]
  unfold mX6_wind at hR
  refine muM.of (cc := cX6_wind) (maxL := 4) (ret := (some .int)) (by decide) rfl (Nat.le_of_ble_eq_true rfl) ?_
  intro p e s m below meth c ls A hx hb hr hk hml hown hts hP hD hG hA hl
  have hS : va_S A s.heap s.heap [] := va_S.rf
  have hl : lv_has ls 4 [(0, .ref (h 0)), (1, .int fr), (2, .int tt), (3, .int wind)] := hl
  refine lv_iload_n hx hb dX6_wind_0 rfl (lv_at hl 1 rfl) ?_
  refine ro_S (v := .int (mX6_isHour fr)) (rest := []) (As := [.int fr]) hx hb hml hown hts hl (MX6_isHour l D q fr) gX6_wind_X6_isHour rfl kX6_isHour ⟨Nat.le_of_ble_eq_true rfl, Nat.le_of_ble_eq_true rfl⟩ rfl rfl (hP.sub (ws' := []) [] rfl) (dT (hD.sub (ws' := []) [] (by decide) rfl)) hG rfl rfl (Nat.le_of_ble_eq_true rfl) dX6_wind_1 ⟨Nat.zero_le _, Nat.zero_le _⟩ ?_
  refine lv_if_eq (tgt := 17) hx hb dX6_wind_4 (by decide) (fun c_1 => ?_) (fun c_1 => ?_)
  · rw [if_pos c_1] at hR
    refine lv_iconst (v := (-1)) hx hb dX6_wind_17 (by decide) ?_
    subst hR
    exact mu_iret hx hb hr hk hA hS hP rfl dX6_wind_18
  · rw [if_neg c_1] at hR
    have fc_1 := f6_isHour c_1
    refine lv_iload_n hx hb dX6_wind_7 rfl (lv_at hl 2 rfl) ?_
    refine lv_iload_n hx hb dX6_wind_8 rfl (lv_at hl 1 rfl) ?_
    refine lv_bipush (v := 23) hx hb dX6_wind_9 (by decide) ?_
    refine ro_S (v := .int (mX6_in tt fr 23)) (rest := []) (As := [.int tt, .int fr, .int 23]) hx hb hml hown hts hl (MX6_in l D q tt fr 23) gX6_wind_X6_in rfl kX6_in ⟨Nat.le_of_ble_eq_true rfl, Nat.le_of_ble_eq_true rfl⟩ rfl rfl (hP.sub (ws' := []) [] rfl) (dT (hD.sub (ws' := []) [] (by decide) rfl)) hG rfl rfl (Nat.le_of_ble_eq_true rfl) dX6_wind_11 ⟨Nat.zero_le _, Nat.zero_le _⟩ ?_
    refine lv_if_ne (tgt := 19) hx hb dX6_wind_14 (by decide) (fun c_2 => ?_) (fun c_2 => ?_)
    · rw [if_neg c_2] at hR
      have fc_2 : fr.toInt ≤ tt.toInt ∧ tt.toInt ≤ 23 := f6_in c_2
      refine lv_iload_n hx hb dX6_wind_19 rfl (lv_at hl 3 rfl) ?_
      refine lv_iconst (v := 0) hx hb dX6_wind_20 (by decide) ?_
      refine lv_bipush (v := 9) hx hb dX6_wind_21 (by decide) ?_
      refine ro_S (v := .int (mX6_in wind 0 9)) (rest := []) (As := [.int wind, .int 0, .int 9]) hx hb hml hown hts hl (MX6_in l D q wind 0 9) gX6_wind_X6_in rfl kX6_in ⟨Nat.le_of_ble_eq_true rfl, Nat.le_of_ble_eq_true rfl⟩ rfl rfl (hP.sub (ws' := []) [] rfl) (dT (hD.sub (ws' := []) [] (by decide) rfl)) hG rfl rfl (Nat.le_of_ble_eq_true rfl) dX6_wind_23 ⟨Nat.zero_le _, Nat.zero_le _⟩ ?_
      refine lv_if_ne (tgt := 32) hx hb dX6_wind_26 (by decide) (fun c_3 => ?_) (fun c_3 => ?_)
      · rw [if_neg c_3] at hR
        have fc_3 : 0 ≤ wind.toInt ∧ wind.toInt ≤ 9 := f6_in c_3
        refine lv_aload_n hx hb dX6_wind_32 rfl (lv_at hl 0 rfl) ?_
        obtain ⟨q_4, eq_4⟩ : ∃ z, z = (mX6_copies x) := ⟨_, rfl⟩
        have hM := MX6_copies l D q h x
        rw [← eq_4] at hM
        replace hR := lt_e hR eq_4
        refine mu_V (D := D) (ws := (wM q h x)) (ws' := (wM q h q_4)) (rest := []) (As := []) hx hb hml hown hts hl hM gX6_wind_X6_copies rfl kX6_copies ⟨Nat.le_of_ble_eq_true rfl, Nat.le_of_ble_eq_true rfl⟩ rfl rfl hP hD hS hG [0, 1, 2, 3, 4] rfl rfl (by decide) [5, 6, 7, 8, 9] rfl (by decide) rfl (ci := 4) rfl rfl rfl rfl (Nat.le_of_ble_eq_true rfl) dX6_wind_33 ⟨Nat.zero_le _, Nat.zero_le _⟩ (fun H locs hP hD hS => ?_)
        refine lv_aload_n hx hb dX6_wind_36 rfl (lv_at hl 0 rfl) ?_
        refine lv_aload_n hx hb dX6_wind_37 rfl (lv_at hl 0 rfl) ?_
        refine lv_sipush (v := 148) hx hb dX6_wind_38 (by decide) ?_
        refine lv_iload_n hx hb dX6_wind_41 rfl (lv_at hl 1 rfl) ?_
        refine lv_iload_n hx hb dX6_wind_42 rfl (lv_at hl 2 rfl) ?_
        refine lv_iload_n hx hb dX6_wind_43 rfl (lv_at hl 3 rfl) ?_
        obtain ⟨q_5, eq_5⟩ : ∃ z, z = (mX6_blows q_4 148 fr tt wind) := ⟨_, rfl⟩
        have hM := MX6_blows l D q h q_4 148 fr tt wind (rg_t (i := 148) (x := 148) (show (148 : Int32).toInt = 148 from rfl) (by omega)) (by show 0 ≤ 148 + 34 + fr.toInt; omega) (by show 148 + 34 + tt.toInt < 296; omega)
        rw [← eq_5] at hM
        replace hR := lt_e hR eq_5
        refine mu_V (D := D) (ws := (wM q h q_4)) (ws' := (wM q h q_5.2)) (rest := [.ref (h 0)]) (As := [.int 148, .int fr, .int tt, .int wind]) hx hb hml hown hts hl hM gX6_wind_X6_blows rfl kX6_blows ⟨Nat.le_of_ble_eq_true rfl, Nat.le_of_ble_eq_true rfl⟩ rfl rfl hP hD hS hG [0, 1, 2, 3, 4] rfl rfl (by decide) [5, 6, 7, 8, 9] rfl (by decide) rfl (ci := 4) rfl rfl rfl rfl (Nat.le_of_ble_eq_true rfl) dX6_wind_44 ⟨Nat.zero_le _, Nat.zero_le _⟩ (fun H locs hP hD hS => ?_)
        obtain ⟨q_6, eq_6⟩ : ∃ z, z = (mX6_acts q_5.2 q_5.1) := ⟨_, rfl⟩
        have hM := MX6_acts l D q h q_5.2 q_5.1 (by rw [show q_5.2 4 = x 4 from (by rw [eq_5]; exact (k4_blows _ _ _ _ _).trans (by rw [eq_4]; exact (k4_copies _).trans rfl))]; exact hkn)
        rw [← eq_6] at hM
        replace hR := lt_e hR eq_6
        refine mu_V (D := D) (ws := (wM q h q_5.2)) (ws' := (wM q h q_6.2)) (rest := []) (As := [.int q_5.1]) hx hb hml hown hts hl hM gX6_wind_X6_acts rfl kX6_acts ⟨Nat.le_of_ble_eq_true rfl, Nat.le_of_ble_eq_true rfl⟩ rfl rfl hP hD hS hG [0, 1, 2, 3, 4] rfl rfl (by decide) [5, 6, 7, 8, 9] rfl (by decide) rfl (ci := 4) rfl rfl rfl rfl (Nat.le_of_ble_eq_true rfl) dX6_wind_47 ⟨Nat.zero_le _, Nat.zero_le _⟩ (fun H locs hP hD hS => ?_)
        subst hR
        exact mu_iret hx hb hr hk hA hS hP rfl dX6_wind_50
      · rw [if_pos c_3] at hR
        refine lv_bipush (v := (-2)) hx hb dX6_wind_29 (by decide) ?_
        subst hR
        exact mu_iret hx hb hr hk hA hS hP rfl dX6_wind_31
    · rw [if_pos c_2] at hR
      refine lv_iconst (v := (-1)) hx hb dX6_wind_17 (by decide) ?_
      subst hR
      exact mu_iret hx hb hr hk hA hS hP rfl dX6_wind_18

def mX6_set (x : Nat → Nat → Int32) (which value : Int32) : Int32 × (Nat → Nat → Int32) := (if (mX6_canSet which value) = 0 then ((-2), x) else (if ((x 0) ((58 + which)).toNatClampNeg) = value then ((-5), x) else (lt (mX6_remembers x) (fun q_3 => (lt (setA q_3 0 (upd (q_3 0) ((58 + which) : Int32).toNatClampNeg value)) (fun x_4 => (((x 0) ((58 + which)).toNatClampNeg), x_4)))))))
theorem kX6_set : yX6_set.cls = RX6 ∧ yX6_set.cls ≠ "java/lang/invoke/MethodHandle" ∧ yX6_set.cls ≠ "java/lang/invoke/VarHandle" ∧ (parseMethodDescriptor yX6_set.desc).map (fun d => d.parameters.length) = some 2 := by decide +kernel
theorem iX6_set_X6 : ∀ w ∈ wsX60, w ∈ wsX6_set := fun w h => (List.mem_cons_of_mem _ (List.mem_append_right _ h))
set_option maxHeartbeats 4000000 in
set_option maxRecDepth 100000 in
theorem MX6_set (l : Launch) (D : va_G) (q : Nat → ClassId) (h : Nat → Nat) (x : Nat → Nat → Int32) (which value : Int32) (hkn : 0 ≤ (x 4 0).toInt ∧ (x 4 0).toInt < 5) : muM l D (tyq q) yX6_set wsX6_set ({ frames := 2, cells := 0, slots := 0, locals := 43 } : Room) [.ref (h 0), .int which, .int value] (wM q h x) (some (.int (mX6_set x which value).1)) (wM q h (mX6_set x which value).2) := by
  obtain ⟨R, hR⟩ : ∃ z, (mX6_set x which value) = z := ⟨_, rfl⟩
  rw [hR]
  unfold mX6_set at hR
  refine muM.of (cc := cX6_set) (maxL := 4) (ret := (some .int)) (by decide) rfl (Nat.le_of_ble_eq_true rfl) ?_
  intro p e s m below meth c ls A hx hb hr hk hml hown hts hP hD hG hA hl
  have hS : va_S A s.heap s.heap [] := va_S.rf
  have hl : lv_has ls 4 [(0, .ref (h 0)), (1, .int which), (2, .int value)] := hl
  refine lv_iload_n hx hb dX6_set_0 rfl (lv_at hl 1 rfl) ?_
  refine lv_iload_n hx hb dX6_set_1 rfl (lv_at hl 2 rfl) ?_
  refine ro_S (v := .int (mX6_canSet which value)) (rest := []) (As := [.int which, .int value]) hx hb hml hown hts hl (MX6_canSet l D q which value) gX6_set_X6_canSet rfl kX6_canSet ⟨Nat.le_of_ble_eq_true rfl, Nat.le_of_ble_eq_true rfl⟩ rfl rfl (hP.sub (ws' := []) [] rfl) (dT (hD.sub (ws' := []) [] (by decide) rfl)) hG rfl rfl (Nat.le_of_ble_eq_true rfl) dX6_set_2 ⟨Nat.zero_le _, Nat.zero_le _⟩ ?_
  refine lv_if_ne (tgt := 11) hx hb dX6_set_5 (by decide) (fun c_1 => ?_) (fun c_1 => ?_)
  · rw [if_neg c_1] at hR
    have fc_1 := f_canSet c_1
    refine lv_aload_n hx hb dX6_set_11 rfl (lv_at hl 0 rfl) ?_
    refine va_get (D := D) (ci := 4) (v := .ref (h 1)) (C := RX6) (T := TX6) (N := 7) hx hb hts iX6_set_X6 hown hG.1 hP 0 rfl rfl 0 (by decide) (hts (.fieldLink RX6 7 "MillComplaintsModel" "s" "[I") (List.mem_of_getElem? (i := 1) rfl)) (fun _ h9 => h9) rfl dX6_set_12 ?_
    refine lv_bipush (v := 58) hx hb dX6_set_15 (by decide) ?_
    refine lv_iload_n hx hb dX6_set_17 rfl (lv_at hl 1 rfl) ?_
    refine lv_iadd hx hb dX6_set_18 ?_
    refine va_iald hx hb hG.1 hP 1 0 rfl rfl (ix_t (i := (58 + which)) (x := (58 + (which).toInt)) (n := 296) (ti_add (show (58 : Int32).toInt = 58 from rfl) rfl (by omega)) (by omega)) dX6_set_19 ?_
    refine lv_istore_n (lv' := [(3, .int ((x 0) ((58 + which)).toNatClampNeg)), (0, .ref (h 0)), (1, .int which), (2, .int value)]) hx hb dX6_set_20 rfl hl (by decide) rfl (fun ls hl => ?_)
    refine lv_iload_n hx hb dX6_set_21 rfl (lv_at hl 0 rfl) ?_
    refine lv_iload_n hx hb dX6_set_22 rfl (lv_at hl 3 rfl) ?_
    refine lv_icmp_ne (tgt := 29) hx hb dX6_set_23 (by decide) (fun c_2 => ?_) (fun c_2 => ?_)
    · rw [if_neg c_2] at hR
      have tc_2 : ¬ ((x 0) ((58 + which)).toNatClampNeg).toInt = value.toInt := fun z => c_2 (i_eq.mpr z)
      refine lv_aload_n hx hb dX6_set_29 rfl (lv_at hl 1 rfl) ?_
      obtain ⟨q_3, eq_3⟩ : ∃ z, z = (mX6_remembers x) := ⟨_, rfl⟩
      have hM := MX6_remembers l D q h x hkn
      rw [← eq_3] at hM
      replace hR := lt_e hR eq_3
      refine mu_V (D := D) (ws := (wM q h x)) (ws' := (wM q h q_3)) (rest := []) (As := []) hx hb hml hown hts hl hM gX6_set_X6_remembers rfl kX6_remembers ⟨Nat.le_of_ble_eq_true rfl, Nat.le_of_ble_eq_true rfl⟩ rfl rfl hP hD hS hG [0, 1, 2, 3, 4] rfl rfl (by decide) [5, 6, 7, 8, 9] rfl (by decide) rfl (ci := 4) rfl rfl rfl rfl (Nat.le_of_ble_eq_true rfl) dX6_set_30 ⟨Nat.zero_le _, Nat.zero_le _⟩ (fun H locs hP hD hS => ?_)
      refine lv_aload_n hx hb dX6_set_33 rfl (lv_at hl 1 rfl) ?_
      refine va_get (D := D) (ci := 4) (v := .ref (h 1)) (C := RX6) (T := TX6) (N := 7) hx hb hts iX6_set_X6 hown hG.1 hP 0 rfl rfl 0 (by decide) (hts (.fieldLink RX6 7 "MillComplaintsModel" "s" "[I") (List.mem_of_getElem? (i := 1) rfl)) (fun _ h9 => h9) rfl dX6_set_34 ?_
      refine lv_bipush (v := 58) hx hb dX6_set_37 (by decide) ?_
      refine lv_iload_n hx hb dX6_set_39 rfl (lv_at hl 2 rfl) ?_
      refine lv_iadd hx hb dX6_set_40 ?_
      refine lv_iload_n hx hb dX6_set_41 rfl (lv_at hl 3 rfl) ?_
      refine va_iast hx hb hG.1 hP hD hS 1 0 rfl rfl (ix_t (i := (58 + which)) (x := (58 + (which).toInt)) (n := 296) (ti_add (show (58 : Int32).toInt = 58 from rfl) rfl (by omega)) (by omega)) dX6_set_42 (fun H locs hP hD hS => ?_)
      have hP : va_P D vwCl (wM q h (setA q_3 0 (upd (q_3 0) ((58 + which) : Int32).toNatClampNeg value))) H := hP
      have hD : va_D A (wM q h (setA q_3 0 (upd (q_3 0) ((58 + which) : Int32).toNatClampNeg value))) := hD
      obtain ⟨x_4, ex_4⟩ : ∃ z, z = (setA q_3 0 (upd (q_3 0) ((58 + which) : Int32).toNatClampNeg value)) := ⟨_, rfl⟩
      rw [← ex_4] at hP hD
      replace hR := lt_e hR ex_4
      refine lv_iload_n hx hb dX6_set_43 rfl (lv_at hl 0 rfl) ?_
      subst hR
      exact mu_iret hx hb hr hk hA hS hP rfl dX6_set_44
    · rw [if_pos c_2] at hR
      have tc_2 : ((x 0) ((58 + which)).toNatClampNeg).toInt = value.toInt := i_eq.mp c_2
      refine lv_bipush (v := (-5)) hx hb dX6_set_26 (by decide) ?_
      subst hR
      exact mu_iret hx hb hr hk hA hS hP rfl dX6_set_28
  · rw [if_pos c_1] at hR
    refine lv_bipush (v := (-2)) hx hb dX6_set_8 (by decide) ?_
    subst hR
    exact mu_iret hx hb hr hk hA hS hP rfl dX6_set_10

def mX6_type (x : Nat → Nat → Int32) (ch : Int32) : Int32 × (Nat → Nat → Int32) := (if (x 4 2) = 60 then ((-3), x) else (lt (setA x 3 (upd (x 3) ((x 4 2) : Int32).toNatClampNeg ch)) (fun x_2 => (lt (setA x_2 4 (upd (x_2 4) 2 ((x_2 4 2) + 1))) (fun x_3 => ((x_3 4 2), x_3))))))
theorem kX6_type : yX6_type.cls = RX6 ∧ yX6_type.cls ≠ "java/lang/invoke/MethodHandle" ∧ yX6_type.cls ≠ "java/lang/invoke/VarHandle" ∧ (parseMethodDescriptor yX6_type.desc).map (fun d => d.parameters.length) = some 1 := by decide +kernel
theorem iX6_type_X6 : ∀ w ∈ wsX60, w ∈ wsX6_type := fun w h => (List.mem_cons_of_mem _ (List.mem_append_right _ h))
set_option maxHeartbeats 4000000 in
set_option maxRecDepth 100000 in
theorem MX6_type (l : Launch) (D : va_G) (q : Nat → ClassId) (h : Nat → Nat) (x : Nat → Nat → Int32) (ch : Int32) (hL : 0 ≤ (x 4 2).toInt ∧ (x 4 2).toInt < 61) : muM l D (tyq q) yX6_type wsX6_type ({ frames := 0, cells := 0, slots := 0, locals := 0 } : Room) [.ref (h 0), .int ch] (wM q h x) (some (.int (mX6_type x ch).1)) (wM q h (mX6_type x ch).2) := by
  obtain ⟨R, hR⟩ : ∃ z, (mX6_type x ch) = z := ⟨_, rfl⟩
  rw [hR]
  unfold mX6_type at hR
  refine muM.of (cc := cX6_type) (maxL := 2) (ret := (some .int)) (by decide) rfl (Nat.le_of_ble_eq_true rfl) ?_
  intro p e s m below meth c ls A hx hb hr hk hml hown hts hP hD hG hA hl
  have hS : va_S A s.heap s.heap [] := va_S.rf
  have hl : lv_has ls 2 [(0, .ref (h 0)), (1, .int ch)] := hl
  refine lv_aload_n hx hb dX6_type_0 rfl (lv_at hl 0 rfl) ?_
  refine va_get (D := D) (ci := 4) (v := .int (x 4 2)) (C := RX6) (T := TX6) (N := 7) hx hb hts iX6_type_X6 hown hG.1 hP 0 rfl rfl 6 (by decide) (hts (.fieldLink RX6 154 "MillComplaintsModel" "length" "I") (List.mem_of_getElem? (i := 1) rfl)) (fun _ h9 => h9) rfl dX6_type_1 ?_
  refine lv_bipush (v := 60) hx hb dX6_type_4 (by decide) ?_
  refine lv_icmp_ne (tgt := 12) hx hb dX6_type_6 (by decide) (fun c_1 => ?_) (fun c_1 => ?_)
  · rw [if_neg c_1] at hR
    have tc_1 : ¬ (x 4 2).toInt = 60 := fun z => c_1 (i_eq.mpr z)
    refine lv_aload_n hx hb dX6_type_12 rfl (lv_at hl 0 rfl) ?_
    refine va_get (D := D) (ci := 4) (v := .ref (h 4)) (C := RX6) (T := TX6) (N := 7) hx hb hts iX6_type_X6 hown hG.1 hP 0 rfl rfl 5 (by decide) (hts (.fieldLink RX6 19 "MillComplaintsModel" "text" "[I") (List.mem_of_getElem? (i := 2) rfl)) (fun _ h9 => h9) rfl dX6_type_13 ?_
    refine lv_aload_n hx hb dX6_type_16 rfl (lv_at hl 0 rfl) ?_
    refine va_get (D := D) (ci := 4) (v := .int (x 4 2)) (C := RX6) (T := TX6) (N := 7) hx hb hts iX6_type_X6 hown hG.1 hP 0 rfl rfl 6 (by decide) (hts (.fieldLink RX6 154 "MillComplaintsModel" "length" "I") (List.mem_of_getElem? (i := 1) rfl)) (fun _ h9 => h9) rfl dX6_type_17 ?_
    refine lv_iload_n hx hb dX6_type_20 rfl (lv_at hl 1 rfl) ?_
    refine va_iast hx hb hG.1 hP hD hS 4 0 rfl rfl (ix_t (i := (x 4 2)) (x := ((x 4 2)).toInt) (n := 60) rfl (by omega)) dX6_type_21 (fun H locs hP hD hS => ?_)
    have hP : va_P D vwCl (wM q h (setA x 3 (upd (x 3) ((x 4 2) : Int32).toNatClampNeg ch))) H := hP
    have hD : va_D A (wM q h (setA x 3 (upd (x 3) ((x 4 2) : Int32).toNatClampNeg ch))) := hD
    obtain ⟨x_2, ex_2⟩ : ∃ z, z = (setA x 3 (upd (x 3) ((x 4 2) : Int32).toNatClampNeg ch)) := ⟨_, rfl⟩
    rw [← ex_2] at hP hD
    replace hR := lt_e hR ex_2
    refine lv_aload_n hx hb dX6_type_22 rfl (lv_at hl 0 rfl) ?_
    refine lv_dup hx hb dX6_type_23 rfl ?_
    refine va_get (D := D) (ci := 4) (v := .int (x_2 4 2)) (C := RX6) (T := TX6) (N := 7) hx hb hts iX6_type_X6 hown hG.1 hP 0 rfl rfl 6 (by decide) (hts (.fieldLink RX6 154 "MillComplaintsModel" "length" "I") (List.mem_of_getElem? (i := 1) rfl)) (fun _ h9 => h9) rfl dX6_type_24 ?_
    refine lv_iconst (v := 1) hx hb dX6_type_27 (by decide) ?_
    refine lv_iadd hx hb dX6_type_28 ?_
    refine va_put (D := D) (ci := 4) (v := .int ((x_2 4 2) + 1)) (ty := .int) (C := RX6) (T := TX6) (N := 7) hx hb hts iX6_type_X6 tyX6 tyX6_ok nmX6 hown hG.1 hP hD hS 0 rfl rfl 6 (by decide) (hts (.fieldLink RX6 154 "MillComplaintsModel" "length" "I") (List.mem_of_getElem? (i := 1) rfl)) (fun _ h9 => h9) rfl (by decide +kernel) rfl rfl (Nat.le_of_ble_eq_true rfl) dX6_type_29 (fun H locs hP hD hS => ?_)
    have hP : va_P D vwCl (wM q h (setA x_2 4 (upd (x_2 4) 2 ((x_2 4 2) + 1)))) H := hP
    have hD : va_D A (wM q h (setA x_2 4 (upd (x_2 4) 2 ((x_2 4 2) + 1)))) := hD
    obtain ⟨x_3, ex_3⟩ : ∃ z, z = (setA x_2 4 (upd (x_2 4) 2 ((x_2 4 2) + 1))) := ⟨_, rfl⟩
    rw [← ex_3] at hP hD
    replace hR := lt_e hR ex_3
    refine lv_aload_n hx hb dX6_type_32 rfl (lv_at hl 0 rfl) ?_
    refine va_get (D := D) (ci := 4) (v := .int (x_3 4 2)) (C := RX6) (T := TX6) (N := 7) hx hb hts iX6_type_X6 hown hG.1 hP 0 rfl rfl 6 (by decide) (hts (.fieldLink RX6 154 "MillComplaintsModel" "length" "I") (List.mem_of_getElem? (i := 1) rfl)) (fun _ h9 => h9) rfl dX6_type_33 ?_
    subst hR
    exact mu_iret hx hb hr hk hA hS hP rfl dX6_type_36
  · rw [if_pos c_1] at hR
    have tc_1 : (x 4 2).toInt = 60 := i_eq.mp c_1
    refine lv_bipush (v := (-3)) hx hb dX6_type_9 (by decide) ?_
    subst hR
    exact mu_iret hx hb hr hk hA hS hP rfl dX6_type_11

def mX6_clearText (x : Nat → Nat → Int32) : Int32 × (Nat → Nat → Int32) := (lt (setA x 4 (upd (x 4) 2 0)) (fun x_1 => ((x 4 2), x_1)))
theorem kX6_clearText : yX6_clearText.cls = RX6 ∧ yX6_clearText.cls ≠ "java/lang/invoke/MethodHandle" ∧ yX6_clearText.cls ≠ "java/lang/invoke/VarHandle" ∧ (parseMethodDescriptor yX6_clearText.desc).map (fun d => d.parameters.length) = some 0 := by decide +kernel
theorem iX6_clearText_X6 : ∀ w ∈ wsX60, w ∈ wsX6_clearText := fun w h => (List.mem_cons_of_mem _ (List.mem_append_right _ h))
set_option maxHeartbeats 4000000 in
set_option maxRecDepth 100000 in
theorem MX6_clearText (l : Launch) (D : va_G) (q : Nat → ClassId) (h : Nat → Nat) (x : Nat → Nat → Int32)   : muM l D (tyq q) yX6_clearText wsX6_clearText ({ frames := 0, cells := 0, slots := 0, locals := 0 } : Room) [.ref (h 0)] (wM q h x) (some (.int (mX6_clearText x).1)) (wM q h (mX6_clearText x).2) := by
  obtain ⟨R, hR⟩ : ∃ z, (mX6_clearText x) = z := ⟨_, rfl⟩
  rw [hR]
  unfold mX6_clearText at hR
  refine muM.of (cc := cX6_clearText) (maxL := 2) (ret := (some .int)) (by decide) rfl (Nat.le_of_ble_eq_true rfl) ?_
  intro p e s m below meth c ls A hx hb hr hk hml hown hts hP hD hG hA hl
  have hS : va_S A s.heap s.heap [] := va_S.rf
  have hl : lv_has ls 2 [(0, .ref (h 0))] := hl
  refine lv_aload_n hx hb dX6_clearText_0 rfl (lv_at hl 0 rfl) ?_
  refine va_get (D := D) (ci := 4) (v := .int (x 4 2)) (C := RX6) (T := TX6) (N := 7) hx hb hts iX6_clearText_X6 hown hG.1 hP 0 rfl rfl 6 (by decide) (hts (.fieldLink RX6 154 "MillComplaintsModel" "length" "I") (List.mem_of_getElem? (i := 1) rfl)) (fun _ h9 => h9) rfl dX6_clearText_1 ?_
  refine lv_istore_n (lv' := [(1, .int (x 4 2)), (0, .ref (h 0))]) hx hb dX6_clearText_4 rfl hl (by decide) rfl (fun ls hl => ?_)
  refine lv_aload_n hx hb dX6_clearText_5 rfl (lv_at hl 1 rfl) ?_
  refine lv_iconst (v := 0) hx hb dX6_clearText_6 (by decide) ?_
  refine va_put (D := D) (ci := 4) (v := .int 0) (ty := .int) (C := RX6) (T := TX6) (N := 7) hx hb hts iX6_clearText_X6 tyX6 tyX6_ok nmX6 hown hG.1 hP hD hS 0 rfl rfl 6 (by decide) (hts (.fieldLink RX6 154 "MillComplaintsModel" "length" "I") (List.mem_of_getElem? (i := 1) rfl)) (fun _ h9 => h9) rfl (by decide +kernel) rfl rfl (Nat.le_of_ble_eq_true rfl) dX6_clearText_7 (fun H locs hP hD hS => ?_)
  have hP : va_P D vwCl (wM q h (setA x 4 (upd (x 4) 2 0))) H := hP
  have hD : va_D A (wM q h (setA x 4 (upd (x 4) 2 0))) := hD
  obtain ⟨x_1, ex_1⟩ : ∃ z, z = (setA x 4 (upd (x 4) 2 0)) := ⟨_, rfl⟩
  rw [← ex_1] at hP hD
  replace hR := lt_e hR ex_1
  refine lv_iload_n hx hb dX6_clearText_10 rfl (lv_at hl 0 rfl) ?_
  subst hR
  exact mu_iret hx hb hr hk hA hS hP rfl dX6_clearText_11

def mX6_undo_22  (C : (Nat → Nat → Int32) → Int32 → (Int32 × (Nat → Nat → Int32))) : Nat → (Nat → Nat → Int32) → Int32 → (Int32 × (Nat → Nat → Int32))
  | 0, xL_22, x1_22 => C xL_22 x1_22
  | n_22 + 1, xL_22, x1_22 => (lt (setA xL_22 0 (upd (xL_22 0) (x1_22 : Int32).toNatClampNeg ((xL_22 1) (((148 * (xL_22 4 0)) + x1_22)).toNatClampNeg))) (fun x_4 => (mX6_undo_22  C n_22 x_4 (x1_22 + 1))))
def mX6_undo (x : Nat → Nat → Int32) : Int32 × (Nat → Nat → Int32) := (if (x 4 0) = 0 then ((-5), x) else (lt (setA x 4 (upd (x 4) 0 ((x 4 0) - 1))) (fun x_2 => (mX6_undo_22  (fun xL_22 x1_22 => ((xL_22 4 0), xL_22)) (tr 0 148) x_2 0))))
theorem kX6_undo : yX6_undo.cls = RX6 ∧ yX6_undo.cls ≠ "java/lang/invoke/MethodHandle" ∧ yX6_undo.cls ≠ "java/lang/invoke/VarHandle" ∧ (parseMethodDescriptor yX6_undo.desc).map (fun d => d.parameters.length) = some 0 := by decide +kernel
theorem iX6_undo_X6 : ∀ w ∈ wsX60, w ∈ wsX6_undo := fun w h => (List.mem_cons_of_mem _ (List.mem_append_right _ h))
set_option maxHeartbeats 4000000 in
set_option maxRecDepth 100000 in
theorem MX6_undo (l : Launch) (D : va_G) (q : Nat → ClassId) (h : Nat → Nat) (x : Nat → Nat → Int32)  (hkn : 0 ≤ (x 4 0).toInt ∧ (x 4 0).toInt < 5) : muM l D (tyq q) yX6_undo wsX6_undo ({ frames := 0, cells := 0, slots := 0, locals := 0 } : Room) [.ref (h 0)] (wM q h x) (some (.int (mX6_undo x).1)) (wM q h (mX6_undo x).2) := by
  obtain ⟨R, hR⟩ : ∃ z, (mX6_undo x) = z := ⟨_, rfl⟩
  rw [hR]
  unfold mX6_undo at hR
  refine muM.of (cc := cX6_undo) (maxL := 2) (ret := (some .int)) (by decide) rfl (Nat.le_of_ble_eq_true rfl) ?_
  intro p e s m below meth c ls A hx hb hr hk hml hown hts hP hD hG hA hl
  have hS : va_S A s.heap s.heap [] := va_S.rf
  have hl : lv_has ls 2 [(0, .ref (h 0))] := hl
  refine lv_aload_n hx hb dX6_undo_0 rfl (lv_at hl 0 rfl) ?_
  refine va_get (D := D) (ci := 4) (v := .int (x 4 0)) (C := RX6) (T := TX6) (N := 7) hx hb hts iX6_undo_X6 hown hG.1 hP 0 rfl rfl 2 (by decide) (hts (.fieldLink RX6 26 "MillComplaintsModel" "known" "I") (List.mem_of_getElem? (i := 1) rfl)) (fun _ h9 => h9) rfl dX6_undo_1 ?_
  refine lv_if_ne (tgt := 10) hx hb dX6_undo_4 (by decide) (fun c_1 => ?_) (fun c_1 => ?_)
  · rw [if_neg c_1] at hR
    have tc_1 : ¬ (x 4 0).toInt = 0 := fun z => c_1 (i_eq.mpr z)
    refine lv_aload_n hx hb dX6_undo_10 rfl (lv_at hl 0 rfl) ?_
    refine lv_dup hx hb dX6_undo_11 rfl ?_
    refine va_get (D := D) (ci := 4) (v := .int (x 4 0)) (C := RX6) (T := TX6) (N := 7) hx hb hts iX6_undo_X6 hown hG.1 hP 0 rfl rfl 2 (by decide) (hts (.fieldLink RX6 26 "MillComplaintsModel" "known" "I") (List.mem_of_getElem? (i := 1) rfl)) (fun _ h9 => h9) rfl dX6_undo_12 ?_
    refine lv_iconst (v := 1) hx hb dX6_undo_15 (by decide) ?_
    refine lv_isub hx hb dX6_undo_16 ?_
    refine va_put (D := D) (ci := 4) (v := .int ((x 4 0) - 1)) (ty := .int) (C := RX6) (T := TX6) (N := 7) hx hb hts iX6_undo_X6 tyX6 tyX6_ok nmX6 hown hG.1 hP hD hS 0 rfl rfl 2 (by decide) (hts (.fieldLink RX6 26 "MillComplaintsModel" "known" "I") (List.mem_of_getElem? (i := 1) rfl)) (fun _ h9 => h9) rfl (by decide +kernel) rfl rfl (Nat.le_of_ble_eq_true rfl) dX6_undo_17 (fun H locs hP hD hS => ?_)
    have hP : va_P D vwCl (wM q h (setA x 4 (upd (x 4) 0 ((x 4 0) - 1)))) H := hP
    have hD : va_D A (wM q h (setA x 4 (upd (x 4) 0 ((x 4 0) - 1)))) := hD
    obtain ⟨x_2, ex_2⟩ : ∃ z, z = (setA x 4 (upd (x 4) 0 ((x 4 0) - 1))) := ⟨_, rfl⟩
    rw [← ex_2] at hP hD
    replace hR := lt_e hR ex_2
    refine lv_iconst (v := 0) hx hb dX6_undo_20 (by decide) ?_
    refine lv_istore_n (lv' := [(1, .int 0), (0, .ref (h 0))]) hx hb dX6_undo_21 rfl hl (by decide) rfl (fun ls hl => ?_)
    have key_22 : ∀ (n_22 : Nat) (xL_22 : Nat → Nat → Int32) (x1_22 : Int32) (H : Heap) (locs : List Loc) , tr x1_22 148 = n_22 → 0 ≤ x1_22.toInt → 0 ≤ (xL_22 4 0).toInt ∧ (xL_22 4 0).toInt < 4 → mX6_undo_22  (fun xL_22 x1_22 => ((xL_22 4 0), xL_22)) n_22 xL_22 x1_22 = R → va_P D vwCl (wM q h xL_22) H → va_D A (wM q h xL_22) → va_S A s.heap H locs → ∀ ls : Array Slot, lv_has ls 2 [(1, .int x1_22), (0, .ref (h 0))] → W p l e ({ frames := 0, cells := 0, slots := 0, locals := 0 } : Room) s m ([.ref (h 0)] : List Value).toArray below meth c H locs 0 0 (MQ below (muQ D (some (.int R.1)) (wM q h x) (wM q h R.2)) ([.ref (h 0)] : List Value).toArray s 0 0 (wAt (wM q h x))) (F0 m 22 ls []) := by
      intro n_22
      induction n_22 with
      | zero =>
        intro xL_22 x1_22 H locs hn_22 hk_22 hs_22 hR hP hD hS ls hl
        rw [mX6_undo_22] at hR
        refine lv_iload_n hx hb dX6_undo_22 rfl (lv_at hl 0 rfl) ?_
        refine lv_sipush (v := 148) hx hb dX6_undo_23 (by decide) ?_
        refine lv_icmp_ge (tgt := 56) hx hb dX6_undo_26 (by decide) (fun c_3 => ?_) (fun c_3 => (tr0 hn_22 c_3).elim)
        refine lv_aload_n hx hb dX6_undo_56 rfl (lv_at hl 1 rfl) ?_
        refine va_get (D := D) (ci := 4) (v := .int (xL_22 4 0)) (C := RX6) (T := TX6) (N := 7) hx hb hts iX6_undo_X6 hown hG.1 hP 0 rfl rfl 2 (by decide) (hts (.fieldLink RX6 26 "MillComplaintsModel" "known" "I") (List.mem_of_getElem? (i := 1) rfl)) (fun _ h9 => h9) rfl dX6_undo_57 ?_
        subst hR
        exact mu_iret hx hb hr hk hA hS hP rfl dX6_undo_60
      | succ n_22 ih_22 =>
        intro xL_22 x1_22 H locs hn_22 hk_22 hs_22 hR hP hD hS ls hl
        rw [mX6_undo_22] at hR
        refine lv_iload_n hx hb dX6_undo_22 rfl (lv_at hl 0 rfl) ?_
        refine lv_sipush (v := 148) hx hb dX6_undo_23 (by decide) ?_
        refine lv_icmp_ge (tgt := 56) hx hb dX6_undo_26 (by decide) (fun c_3 => (trS hn_22 c_3).elim) (fun c_3 => ?_)
        have hlt_c_3 : x1_22.toInt < 148 := k_lt c_3
        refine lv_aload_n hx hb dX6_undo_29 rfl (lv_at hl 1 rfl) ?_
        refine va_get (D := D) (ci := 4) (v := .ref (h 1)) (C := RX6) (T := TX6) (N := 7) hx hb hts iX6_undo_X6 hown hG.1 hP 0 rfl rfl 0 (by decide) (hts (.fieldLink RX6 7 "MillComplaintsModel" "s" "[I") (List.mem_of_getElem? (i := 2) rfl)) (fun _ h9 => h9) rfl dX6_undo_30 ?_
        refine lv_iload_n hx hb dX6_undo_33 rfl (lv_at hl 0 rfl) ?_
        refine lv_aload_n hx hb dX6_undo_34 rfl (lv_at hl 1 rfl) ?_
        refine va_get (D := D) (ci := 4) (v := .ref (h 2)) (C := RX6) (T := TX6) (N := 7) hx hb hts iX6_undo_X6 hown hG.1 hP 0 rfl rfl 1 (by decide) (hts (.fieldLink RX6 13 "MillComplaintsModel" "past" "[I") (List.mem_of_getElem? (i := 3) rfl)) (fun _ h9 => h9) rfl dX6_undo_35 ?_
        refine lv_sipush (v := 148) hx hb dX6_undo_38 (by decide) ?_
        refine lv_aload_n hx hb dX6_undo_41 rfl (lv_at hl 1 rfl) ?_
        refine va_get (D := D) (ci := 4) (v := .int (xL_22 4 0)) (C := RX6) (T := TX6) (N := 7) hx hb hts iX6_undo_X6 hown hG.1 hP 0 rfl rfl 2 (by decide) (hts (.fieldLink RX6 26 "MillComplaintsModel" "known" "I") (List.mem_of_getElem? (i := 1) rfl)) (fun _ h9 => h9) rfl dX6_undo_42 ?_
        refine lv_imul hx hb dX6_undo_45 ?_
        refine lv_iload_n hx hb dX6_undo_46 rfl (lv_at hl 0 rfl) ?_
        refine lv_iadd hx hb dX6_undo_47 ?_
        refine va_iald hx hb hG.1 hP 2 0 rfl rfl (ix_t (i := ((148 * (xL_22 4 0)) + x1_22)) (x := ((148 * ((xL_22 4 0)).toInt) + (x1_22).toInt)) (n := 592) (ti_add (ti_mul (show (148 : Int32).toInt = 148 from rfl) rfl (by omega)) rfl (by omega)) (by omega)) dX6_undo_48 ?_
        refine va_iast hx hb hG.1 hP hD hS 1 0 rfl rfl (ix_t (i := x1_22) (x := (x1_22).toInt) (n := 296) rfl (by omega)) dX6_undo_49 (fun H locs hP hD hS => ?_)
        have hP : va_P D vwCl (wM q h (setA xL_22 0 (upd (xL_22 0) (x1_22 : Int32).toNatClampNeg ((xL_22 1) (((148 * (xL_22 4 0)) + x1_22)).toNatClampNeg)))) H := hP
        have hD : va_D A (wM q h (setA xL_22 0 (upd (xL_22 0) (x1_22 : Int32).toNatClampNeg ((xL_22 1) (((148 * (xL_22 4 0)) + x1_22)).toNatClampNeg)))) := hD
        obtain ⟨x_4, ex_4⟩ : ∃ z, z = (setA xL_22 0 (upd (xL_22 0) (x1_22 : Int32).toNatClampNeg ((xL_22 1) (((148 * (xL_22 4 0)) + x1_22)).toNatClampNeg))) := ⟨_, rfl⟩
        rw [← ex_4] at hP hD
        replace hR := lt_e hR ex_4
        refine lv_iinc (v := (x1_22 + 1)) (lv' := [(1, .int (x1_22 + 1)), (0, .ref (h 0))]) hx hb dX6_undo_50 hl (k := 0) rfl rfl (by decide) rfl (fun ls hl => ?_)
        refine lv_goto (tgt := 22) hx hb dX6_undo_53 (by decide) ?_
        exact ih_22 x_4 (x1_22 + 1) _ _ (trN hn_22) (k_up hk_22 c_3) (by rw [ex_4]; exact hs_22) hR hP hD hS ls (lv_sub hl [0, 1] rfl)
    exact key_22 _ x_2 0 _ _ rfl (by decide) (by rw [ex_2]; show 0 ≤ ((x 4 0) - 1).toInt ∧ ((x 4 0) - 1).toInt < 4; rw [ti_sub (a := x 4 0) (b := 1) rfl (show (1 : Int32).toInt = 1 from rfl) (by omega)]; omega) hR hP hD hS ls hl
  · rw [if_pos c_1] at hR
    have tc_1 : (x 4 0).toInt = 0 := i_eq.mp c_1
    refine lv_bipush (v := (-5)) hx hb dX6_undo_7 (by decide) ?_
    subst hR
    exact mu_iret hx hb hr hk hA hS hP rfl dX6_undo_9

def mX6_keep_2  (C : (Nat → Nat → Int32) → Int32 → (Int32 × (Nat → Nat → Int32))) : Nat → (Nat → Nat → Int32) → Int32 → (Int32 × (Nat → Nat → Int32))
  | 0, xL_2, x1_2 => C xL_2 x1_2
  | n_2 + 1, xL_2, x1_2 => (lt (setA xL_2 2 (upd (xL_2 2) (x1_2 : Int32).toNatClampNeg ((xL_2 0) (x1_2).toNatClampNeg))) (fun x_3 => (mX6_keep_2  C n_2 x_3 (x1_2 + 1))))
def mX6_keep (x : Nat → Nat → Int32) : Int32 × (Nat → Nat → Int32) := (mX6_keep_2  (fun xL_2 x1_2 => (lt (setA xL_2 4 (upd (xL_2 4) 1 1)) (fun x_2 => (((x_2 0) 13), x_2)))) (tr 0 148) x 0)
theorem kX6_keep : yX6_keep.cls = RX6 ∧ yX6_keep.cls ≠ "java/lang/invoke/MethodHandle" ∧ yX6_keep.cls ≠ "java/lang/invoke/VarHandle" ∧ (parseMethodDescriptor yX6_keep.desc).map (fun d => d.parameters.length) = some 0 := by decide +kernel
theorem iX6_keep_X6 : ∀ w ∈ wsX60, w ∈ wsX6_keep := fun w h => (List.mem_cons_of_mem _ (List.mem_append_right _ h))
set_option maxHeartbeats 4000000 in
set_option maxRecDepth 100000 in
theorem MX6_keep (l : Launch) (D : va_G) (q : Nat → ClassId) (h : Nat → Nat) (x : Nat → Nat → Int32)   : muM l D (tyq q) yX6_keep wsX6_keep ({ frames := 0, cells := 0, slots := 0, locals := 0 } : Room) [.ref (h 0)] (wM q h x) (some (.int (mX6_keep x).1)) (wM q h (mX6_keep x).2) := by
  obtain ⟨R, hR⟩ : ∃ z, (mX6_keep x) = z := ⟨_, rfl⟩
  rw [hR]
  unfold mX6_keep at hR
  refine muM.of (cc := cX6_keep) (maxL := 2) (ret := (some .int)) (by decide) rfl (Nat.le_of_ble_eq_true rfl) ?_
  intro p e s m below meth c ls A hx hb hr hk hml hown hts hP hD hG hA hl
  have hS : va_S A s.heap s.heap [] := va_S.rf
  have hl : lv_has ls 2 [(0, .ref (h 0))] := hl
  refine lv_iconst (v := 0) hx hb dX6_keep_0 (by decide) ?_
  refine lv_istore_n (lv' := [(1, .int 0), (0, .ref (h 0))]) hx hb dX6_keep_1 rfl hl (by decide) rfl (fun ls hl => ?_)
  have key_2 : ∀ (n_2 : Nat) (xL_2 : Nat → Nat → Int32) (x1_2 : Int32) (H : Heap) (locs : List Loc) , tr x1_2 148 = n_2 → 0 ≤ x1_2.toInt → mX6_keep_2  (fun xL_2 x1_2 => (lt (setA xL_2 4 (upd (xL_2 4) 1 1)) (fun x_2 => (((x_2 0) 13), x_2)))) n_2 xL_2 x1_2 = R → va_P D vwCl (wM q h xL_2) H → va_D A (wM q h xL_2) → va_S A s.heap H locs → ∀ ls : Array Slot, lv_has ls 2 [(1, .int x1_2), (0, .ref (h 0))] → W p l e ({ frames := 0, cells := 0, slots := 0, locals := 0 } : Room) s m ([.ref (h 0)] : List Value).toArray below meth c H locs 0 0 (MQ below (muQ D (some (.int R.1)) (wM q h x) (wM q h R.2)) ([.ref (h 0)] : List Value).toArray s 0 0 (wAt (wM q h x))) (F0 m 2 ls []) := by
    intro n_2
    induction n_2 with
    | zero =>
      intro xL_2 x1_2 H locs hn_2 hk_2 hR hP hD hS ls hl
      rw [mX6_keep_2] at hR
      refine lv_iload_n hx hb dX6_keep_2 rfl (lv_at hl 0 rfl) ?_
      refine lv_sipush (v := 148) hx hb dX6_keep_3 (by decide) ?_
      refine lv_icmp_ge (tgt := 27) hx hb dX6_keep_6 (by decide) (fun c_1 => ?_) (fun c_1 => (tr0 hn_2 c_1).elim)
      refine lv_aload_n hx hb dX6_keep_27 rfl (lv_at hl 1 rfl) ?_
      refine lv_iconst (v := 1) hx hb dX6_keep_28 (by decide) ?_
      refine va_put (D := D) (ci := 4) (v := .int 1) (ty := .boolean) (C := RX6) (T := TX6) (N := 7) hx hb hts iX6_keep_X6 tyX6 tyX6_ok nmX6 hown hG.1 hP hD hS 0 rfl rfl 4 (by decide) (hts (.fieldLink RX6 194 "MillComplaintsModel" "isKept" "Z") (List.mem_of_getElem? (i := 3) rfl)) (fun _ h9 => h9) rfl (by decide +kernel) rfl rfl (Nat.le_of_ble_eq_true rfl) dX6_keep_29 (fun H locs hP hD hS => ?_)
      have hP : va_P D vwCl (wM q h (setA xL_2 4 (upd (xL_2 4) 1 1))) H := hP
      have hD : va_D A (wM q h (setA xL_2 4 (upd (xL_2 4) 1 1))) := hD
      obtain ⟨x_2, ex_2⟩ : ∃ z, z = (setA xL_2 4 (upd (xL_2 4) 1 1)) := ⟨_, rfl⟩
      rw [← ex_2] at hP hD
      replace hR := lt_e hR ex_2
      refine lv_aload_n hx hb dX6_keep_32 rfl (lv_at hl 1 rfl) ?_
      refine va_get (D := D) (ci := 4) (v := .ref (h 1)) (C := RX6) (T := TX6) (N := 7) hx hb hts iX6_keep_X6 hown hG.1 hP 0 rfl rfl 0 (by decide) (hts (.fieldLink RX6 7 "MillComplaintsModel" "s" "[I") (List.mem_of_getElem? (i := 2) rfl)) (fun _ h9 => h9) rfl dX6_keep_33 ?_
      refine lv_bipush (v := 13) hx hb dX6_keep_36 (by decide) ?_
      refine va_iald hx hb hG.1 hP 1 0 rfl rfl (ix_t (i := 13) (x := 13) (n := 296) (show (13 : Int32).toInt = 13 from rfl) (by omega)) dX6_keep_38 ?_
      refine lv_tope (y := ((x_2 0) 13)) (congrArg _ (by decide)) ?_
      subst hR
      exact mu_iret hx hb hr hk hA hS hP rfl dX6_keep_39
    | succ n_2 ih_2 =>
      intro xL_2 x1_2 H locs hn_2 hk_2 hR hP hD hS ls hl
      rw [mX6_keep_2] at hR
      refine lv_iload_n hx hb dX6_keep_2 rfl (lv_at hl 0 rfl) ?_
      refine lv_sipush (v := 148) hx hb dX6_keep_3 (by decide) ?_
      refine lv_icmp_ge (tgt := 27) hx hb dX6_keep_6 (by decide) (fun c_1 => (trS hn_2 c_1).elim) (fun c_1 => ?_)
      have hlt_c_1 : x1_2.toInt < 148 := k_lt c_1
      refine lv_aload_n hx hb dX6_keep_9 rfl (lv_at hl 1 rfl) ?_
      refine va_get (D := D) (ci := 4) (v := .ref (h 3)) (C := RX6) (T := TX6) (N := 7) hx hb hts iX6_keep_X6 hown hG.1 hP 0 rfl rfl 3 (by decide) (hts (.fieldLink RX6 16 "MillComplaintsModel" "snap" "[I") (List.mem_of_getElem? (i := 1) rfl)) (fun _ h9 => h9) rfl dX6_keep_10 ?_
      refine lv_iload_n hx hb dX6_keep_13 rfl (lv_at hl 0 rfl) ?_
      refine lv_aload_n hx hb dX6_keep_14 rfl (lv_at hl 1 rfl) ?_
      refine va_get (D := D) (ci := 4) (v := .ref (h 1)) (C := RX6) (T := TX6) (N := 7) hx hb hts iX6_keep_X6 hown hG.1 hP 0 rfl rfl 0 (by decide) (hts (.fieldLink RX6 7 "MillComplaintsModel" "s" "[I") (List.mem_of_getElem? (i := 2) rfl)) (fun _ h9 => h9) rfl dX6_keep_15 ?_
      refine lv_iload_n hx hb dX6_keep_18 rfl (lv_at hl 0 rfl) ?_
      refine va_iald hx hb hG.1 hP 1 0 rfl rfl (ix_t (i := x1_2) (x := (x1_2).toInt) (n := 296) rfl (by omega)) dX6_keep_19 ?_
      refine va_iast hx hb hG.1 hP hD hS 3 0 rfl rfl (ix_t (i := x1_2) (x := (x1_2).toInt) (n := 148) rfl (by omega)) dX6_keep_20 (fun H locs hP hD hS => ?_)
      have hP : va_P D vwCl (wM q h (setA xL_2 2 (upd (xL_2 2) (x1_2 : Int32).toNatClampNeg ((xL_2 0) (x1_2).toNatClampNeg)))) H := hP
      have hD : va_D A (wM q h (setA xL_2 2 (upd (xL_2 2) (x1_2 : Int32).toNatClampNeg ((xL_2 0) (x1_2).toNatClampNeg)))) := hD
      obtain ⟨x_3, ex_3⟩ : ∃ z, z = (setA xL_2 2 (upd (xL_2 2) (x1_2 : Int32).toNatClampNeg ((xL_2 0) (x1_2).toNatClampNeg))) := ⟨_, rfl⟩
      rw [← ex_3] at hP hD
      replace hR := lt_e hR ex_3
      refine lv_iinc (v := (x1_2 + 1)) (lv' := [(1, .int (x1_2 + 1)), (0, .ref (h 0))]) hx hb dX6_keep_21 hl (k := 0) rfl rfl (by decide) rfl (fun ls hl => ?_)
      refine lv_goto (tgt := 2) hx hb dX6_keep_24 (by decide) ?_
      exact ih_2 x_3 (x1_2 + 1) _ _ (trN hn_2) (k_up hk_2 c_1) hR hP hD hS ls (lv_sub hl [0, 1] rfl)
  exact key_2 _ x 0 _ _ rfl (by decide) hR hP hD hS ls hl

def mX6_restore_16  (C : (Nat → Nat → Int32) → Int32 → (Int32 × (Nat → Nat → Int32))) : Nat → (Nat → Nat → Int32) → Int32 → (Int32 × (Nat → Nat → Int32))
  | 0, xL_16, x1_16 => C xL_16 x1_16
  | n_16 + 1, xL_16, x1_16 => (lt (setA xL_16 0 (upd (xL_16 0) (x1_16 : Int32).toNatClampNeg ((xL_16 2) (x1_16).toNatClampNeg))) (fun x_4 => (mX6_restore_16  C n_16 x_4 (x1_16 + 1))))
def mX6_restore (x : Nat → Nat → Int32) : Int32 × (Nat → Nat → Int32) := (if (x 4 1) = 0 then ((-5), x) else (lt (mX6_remembers x) (fun q_2 => (mX6_restore_16  (fun xL_16 x1_16 => (((xL_16 0) 13), xL_16)) (tr 0 148) q_2 0))))
theorem kX6_restore : yX6_restore.cls = RX6 ∧ yX6_restore.cls ≠ "java/lang/invoke/MethodHandle" ∧ yX6_restore.cls ≠ "java/lang/invoke/VarHandle" ∧ (parseMethodDescriptor yX6_restore.desc).map (fun d => d.parameters.length) = some 0 := by decide +kernel
theorem iX6_restore_X6 : ∀ w ∈ wsX60, w ∈ wsX6_restore := fun w h => (List.mem_cons_of_mem _ (List.mem_append_right _ h))
set_option maxHeartbeats 4000000 in
set_option maxRecDepth 100000 in
theorem MX6_restore (l : Launch) (D : va_G) (q : Nat → ClassId) (h : Nat → Nat) (x : Nat → Nat → Int32)  (hkn : 0 ≤ (x 4 0).toInt ∧ (x 4 0).toInt < 5) : muM l D (tyq q) yX6_restore wsX6_restore ({ frames := 1, cells := 0, slots := 0, locals := 21 } : Room) [.ref (h 0)] (wM q h x) (some (.int (mX6_restore x).1)) (wM q h (mX6_restore x).2) := by
  obtain ⟨R, hR⟩ : ∃ z, (mX6_restore x) = z := ⟨_, rfl⟩
  rw [hR]
  unfold mX6_restore at hR
  refine muM.of (cc := cX6_restore) (maxL := 2) (ret := (some .int)) (by decide) rfl (Nat.le_of_ble_eq_true rfl) ?_
  intro p e s m below meth c ls A hx hb hr hk hml hown hts hP hD hG hA hl
  have hS : va_S A s.heap s.heap [] := va_S.rf
  have hl : lv_has ls 2 [(0, .ref (h 0))] := hl
  refine lv_aload_n hx hb dX6_restore_0 rfl (lv_at hl 0 rfl) ?_
  refine va_get (D := D) (ci := 4) (v := .int (x 4 1)) (C := RX6) (T := TX6) (N := 7) hx hb hts iX6_restore_X6 hown hG.1 hP 0 rfl rfl 4 (by decide) (hts (.fieldLink RX6 194 "MillComplaintsModel" "isKept" "Z") (List.mem_of_getElem? (i := 1) rfl)) (fun _ h9 => h9) rfl dX6_restore_1 ?_
  refine lv_if_ne (tgt := 10) hx hb dX6_restore_4 (by decide) (fun c_1 => ?_) (fun c_1 => ?_)
  · rw [if_neg c_1] at hR
    have tc_1 : ¬ (x 4 1).toInt = 0 := fun z => c_1 (i_eq.mpr z)
    refine lv_aload_n hx hb dX6_restore_10 rfl (lv_at hl 0 rfl) ?_
    obtain ⟨q_2, eq_2⟩ : ∃ z, z = (mX6_remembers x) := ⟨_, rfl⟩
    have hM := MX6_remembers l D q h x hkn
    rw [← eq_2] at hM
    replace hR := lt_e hR eq_2
    refine mu_V (D := D) (ws := (wM q h x)) (ws' := (wM q h q_2)) (rest := []) (As := []) hx hb hml hown hts hl hM gX6_restore_X6_remembers rfl kX6_remembers ⟨Nat.le_of_ble_eq_true rfl, Nat.le_of_ble_eq_true rfl⟩ rfl rfl hP hD hS hG [0, 1, 2, 3, 4] rfl rfl (by decide) [5, 6, 7, 8, 9] rfl (by decide) rfl (ci := 4) rfl rfl rfl rfl (Nat.le_of_ble_eq_true rfl) dX6_restore_11 ⟨Nat.zero_le _, Nat.zero_le _⟩ (fun H locs hP hD hS => ?_)
    refine lv_iconst (v := 0) hx hb dX6_restore_14 (by decide) ?_
    refine lv_istore_n (lv' := [(1, .int 0), (0, .ref (h 0))]) hx hb dX6_restore_15 rfl hl (by decide) rfl (fun ls hl => ?_)
    have key_16 : ∀ (n_16 : Nat) (xL_16 : Nat → Nat → Int32) (x1_16 : Int32) (H : Heap) (locs : List Loc) , tr x1_16 148 = n_16 → 0 ≤ x1_16.toInt → mX6_restore_16  (fun xL_16 x1_16 => (((xL_16 0) 13), xL_16)) n_16 xL_16 x1_16 = R → va_P D vwCl (wM q h xL_16) H → va_D A (wM q h xL_16) → va_S A s.heap H locs → ∀ ls : Array Slot, lv_has ls 2 [(1, .int x1_16), (0, .ref (h 0))] → W p l e ({ frames := 1, cells := 0, slots := 0, locals := 21 } : Room) s m ([.ref (h 0)] : List Value).toArray below meth c H locs 0 0 (MQ below (muQ D (some (.int R.1)) (wM q h x) (wM q h R.2)) ([.ref (h 0)] : List Value).toArray s 0 0 (wAt (wM q h x))) (F0 m 16 ls []) := by
      intro n_16
      induction n_16 with
      | zero =>
        intro xL_16 x1_16 H locs hn_16 hk_16 hR hP hD hS ls hl
        rw [mX6_restore_16] at hR
        refine lv_iload_n hx hb dX6_restore_16 rfl (lv_at hl 0 rfl) ?_
        refine lv_sipush (v := 148) hx hb dX6_restore_17 (by decide) ?_
        refine lv_icmp_ge (tgt := 41) hx hb dX6_restore_20 (by decide) (fun c_3 => ?_) (fun c_3 => (tr0 hn_16 c_3).elim)
        refine lv_aload_n hx hb dX6_restore_41 rfl (lv_at hl 1 rfl) ?_
        refine va_get (D := D) (ci := 4) (v := .ref (h 1)) (C := RX6) (T := TX6) (N := 7) hx hb hts iX6_restore_X6 hown hG.1 hP 0 rfl rfl 0 (by decide) (hts (.fieldLink RX6 7 "MillComplaintsModel" "s" "[I") (List.mem_of_getElem? (i := 2) rfl)) (fun _ h9 => h9) rfl dX6_restore_42 ?_
        refine lv_bipush (v := 13) hx hb dX6_restore_45 (by decide) ?_
        refine va_iald hx hb hG.1 hP 1 0 rfl rfl (ix_t (i := 13) (x := 13) (n := 296) (show (13 : Int32).toInt = 13 from rfl) (by omega)) dX6_restore_47 ?_
        refine lv_tope (y := ((xL_16 0) 13)) (congrArg _ (by decide)) ?_
        subst hR
        exact mu_iret hx hb hr hk hA hS hP rfl dX6_restore_48
      | succ n_16 ih_16 =>
        intro xL_16 x1_16 H locs hn_16 hk_16 hR hP hD hS ls hl
        rw [mX6_restore_16] at hR
        refine lv_iload_n hx hb dX6_restore_16 rfl (lv_at hl 0 rfl) ?_
        refine lv_sipush (v := 148) hx hb dX6_restore_17 (by decide) ?_
        refine lv_icmp_ge (tgt := 41) hx hb dX6_restore_20 (by decide) (fun c_3 => (trS hn_16 c_3).elim) (fun c_3 => ?_)
        have hlt_c_3 : x1_16.toInt < 148 := k_lt c_3
        refine lv_aload_n hx hb dX6_restore_23 rfl (lv_at hl 1 rfl) ?_
        refine va_get (D := D) (ci := 4) (v := .ref (h 1)) (C := RX6) (T := TX6) (N := 7) hx hb hts iX6_restore_X6 hown hG.1 hP 0 rfl rfl 0 (by decide) (hts (.fieldLink RX6 7 "MillComplaintsModel" "s" "[I") (List.mem_of_getElem? (i := 2) rfl)) (fun _ h9 => h9) rfl dX6_restore_24 ?_
        refine lv_iload_n hx hb dX6_restore_27 rfl (lv_at hl 0 rfl) ?_
        refine lv_aload_n hx hb dX6_restore_28 rfl (lv_at hl 1 rfl) ?_
        refine va_get (D := D) (ci := 4) (v := .ref (h 3)) (C := RX6) (T := TX6) (N := 7) hx hb hts iX6_restore_X6 hown hG.1 hP 0 rfl rfl 3 (by decide) (hts (.fieldLink RX6 16 "MillComplaintsModel" "snap" "[I") (List.mem_of_getElem? (i := 3) rfl)) (fun _ h9 => h9) rfl dX6_restore_29 ?_
        refine lv_iload_n hx hb dX6_restore_32 rfl (lv_at hl 0 rfl) ?_
        refine va_iald hx hb hG.1 hP 3 0 rfl rfl (ix_t (i := x1_16) (x := (x1_16).toInt) (n := 148) rfl (by omega)) dX6_restore_33 ?_
        refine va_iast hx hb hG.1 hP hD hS 1 0 rfl rfl (ix_t (i := x1_16) (x := (x1_16).toInt) (n := 296) rfl (by omega)) dX6_restore_34 (fun H locs hP hD hS => ?_)
        have hP : va_P D vwCl (wM q h (setA xL_16 0 (upd (xL_16 0) (x1_16 : Int32).toNatClampNeg ((xL_16 2) (x1_16).toNatClampNeg)))) H := hP
        have hD : va_D A (wM q h (setA xL_16 0 (upd (xL_16 0) (x1_16 : Int32).toNatClampNeg ((xL_16 2) (x1_16).toNatClampNeg)))) := hD
        obtain ⟨x_4, ex_4⟩ : ∃ z, z = (setA xL_16 0 (upd (xL_16 0) (x1_16 : Int32).toNatClampNeg ((xL_16 2) (x1_16).toNatClampNeg))) := ⟨_, rfl⟩
        rw [← ex_4] at hP hD
        replace hR := lt_e hR ex_4
        refine lv_iinc (v := (x1_16 + 1)) (lv' := [(1, .int (x1_16 + 1)), (0, .ref (h 0))]) hx hb dX6_restore_35 hl (k := 0) rfl rfl (by decide) rfl (fun ls hl => ?_)
        refine lv_goto (tgt := 16) hx hb dX6_restore_38 (by decide) ?_
        exact ih_16 x_4 (x1_16 + 1) _ _ (trN hn_16) (k_up hk_16 c_3) hR hP hD hS ls (lv_sub hl [0, 1] rfl)
    exact key_16 _ q_2 0 _ _ rfl (by decide) hR hP hD hS ls hl
  · rw [if_pos c_1] at hR
    have tc_1 : (x 4 1).toInt = 0 := i_eq.mp c_1
    refine lv_bipush (v := (-5)) hx hb dX6_restore_7 (by decide) ?_
    subst hR
    exact mu_iret hx hb hr hk hA hS hP rfl dX6_restore_9
