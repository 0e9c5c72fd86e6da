def mX6_doesComplaint (x : Nat → Nat → Int32) (pl : Int32) : Int32 × (Nat → Nat → Int32) := (lt (mX6_digit x (pl + 1)) (fun r_2 => (lt (mX6_digit x (pl + 2)) (fun r_4 => (lt (mX6_sign x (pl + 3)) (fun r_6 => (if r_6 = 115 then (lt (mX6_hourIn x (pl + 4)) (fun r_14 => (if 0 ≤ (mX6_wrong x 148 r_2 r_4 1 r_14) then (lt (mX6_complains x 148 r_2 r_4 1 r_14) (fun q_17 => ((mX6_wrong x 148 r_2 r_4 1 r_14), q_17.2))) else ((mX6_wrong x 148 r_2 r_4 1 r_14), x)))) else (lt (mX6_hourIn x (pl + 4)) (fun r_9 => (if 0 ≤ (mX6_wrong x 148 r_2 r_4 0 r_9) then (lt (mX6_complains x 148 r_2 r_4 0 r_9) (fun q_12 => ((mX6_wrong x 148 r_2 r_4 0 r_9), q_12.2))) else ((mX6_wrong x 148 r_2 r_4 0 r_9), x)))))))))))
theorem kX6_doesComplaint : yX6_doesComplaint.cls = RX6 ∧ yX6_doesComplaint.cls ≠ "java/lang/invoke/MethodHandle" ∧ yX6_doesComplaint.cls ≠ "java/lang/invoke/VarHandle" ∧ (parseMethodDescriptor yX6_doesComplaint.desc).map (fun d => d.parameters.length) = some 1 := by decide +kernel
set_option maxHeartbeats 4000000 in
set_option maxRecDepth 100000 in
theorem MX6_doesComplaint (l : Launch) (D : va_G) (q : Nat → ClassId) (h : Nat → Nat) (x : Nat → Nat → Int32) (pl : Int32) (hC8 : cntP x 148) (hL : 0 ≤ (x 4 2).toInt ∧ (x 4 2).toInt < 61) (hpl : 0 ≤ pl.toInt ∧ pl.toInt < 800) : muM l D (tyq q) yX6_doesComplaint wsX6_doesComplaint ({ frames := 7, cells := 0, slots := 0, locals := 174 } : Room) [.ref (h 0), .int pl] (wM q h x) (some (.int (mX6_doesComplaint x pl).1)) (wM q h (mX6_doesComplaint x pl).2) := by
  obtain ⟨R, hR⟩ : ∃ z, (mX6_doesComplaint x pl) = z := ⟨_, rfl⟩
  rw [hR]
  unfold mX6_doesComplaint at hR
  refine muM.of (cc := cX6_doesComplaint) (maxL := 7) (ret := (some .int)) (by decide) rfl (Nat.le_of_ble_eq_true rfl) ?_
  intro p e s m below meth c ls A hx hb hr hk hml hown hts hP hD hG hA hl
  have hS : va_S A s.heap s.heap [] := va_S.rf
  have hl : lv_has ls 7 [(0, .ref (h 0)), (1, .int pl)] := hl
  refine lv_aload_n hx hb dX6_doesComplaint_0 rfl (lv_at hl 0 rfl) ?_
  refine lv_iload_n hx hb dX6_doesComplaint_1 rfl (lv_at hl 1 rfl) ?_
  refine lv_iconst (v := 1) hx hb dX6_doesComplaint_2 (by decide) ?_
  refine lv_iadd hx hb dX6_doesComplaint_3 ?_
  have u_1 : ((pl + 1)).toInt = ((pl).toInt + 1) := (ti_add rfl (show (1 : Int32).toInt = 1 from rfl) (by omega))
  refine ro_V (v := .int (mX6_digit x (pl + 1))) (rest := []) (As := [.int (pl + 1)]) hx hb hml hown hts hl (MX6_digit l D q h x (pl + 1) hL (rg_t (i := (pl + 1)) (x := ((pl).toInt + 1)) (ti_add rfl (show (1 : Int32).toInt = 1 from rfl) (by omega)) (by omega))) gX6_doesComplaint_X6_digit rfl kX6_digit ⟨Nat.le_of_ble_eq_true rfl, Nat.le_of_ble_eq_true rfl⟩ rfl rfl hP (dT hD) hG (ci := 4) rfl rfl rfl rfl (Nat.le_of_ble_eq_true rfl) dX6_doesComplaint_4 ⟨Nat.zero_le _, Nat.zero_le _⟩ ?_
  obtain ⟨r_2, er_2⟩ : ∃ z, z = (mX6_digit x (pl + 1)) := ⟨_, rfl⟩
  have b0_r_2 := b_digit x (pl + 1)
  rw [← er_2] at b0_r_2
  rw [← er_2]
  replace hR := lt_e hR er_2
  refine lv_istore_n (lv' := [(2, .int r_2), (0, .ref (h 0)), (1, .int pl)]) hx hb dX6_doesComplaint_7 rfl hl (by decide) rfl (fun ls hl => ?_)
  refine lv_aload_n hx hb dX6_doesComplaint_8 rfl (lv_at hl 1 rfl) ?_
  refine lv_iload_n hx hb dX6_doesComplaint_9 rfl (lv_at hl 2 rfl) ?_
  refine lv_iconst (v := 2) hx hb dX6_doesComplaint_10 (by decide) ?_
  refine lv_iadd hx hb dX6_doesComplaint_11 ?_
  have u_3 : ((pl + 2)).toInt = ((pl).toInt + 2) := (ti_add rfl (show (2 : Int32).toInt = 2 from rfl) (by omega))
  refine ro_V (v := .int (mX6_digit x (pl + 2))) (rest := []) (As := [.int (pl + 2)]) hx hb hml hown hts hl (MX6_digit l D q h x (pl + 2) hL (rg_t (i := (pl + 2)) (x := ((pl).toInt + 2)) (ti_add rfl (show (2 : Int32).toInt = 2 from rfl) (by omega)) (by omega))) gX6_doesComplaint_X6_digit rfl kX6_digit ⟨Nat.le_of_ble_eq_true rfl, Nat.le_of_ble_eq_true rfl⟩ rfl rfl hP (dT hD) hG (ci := 4) rfl rfl rfl rfl (Nat.le_of_ble_eq_true rfl) dX6_doesComplaint_12 ⟨Nat.zero_le _, Nat.zero_le _⟩ ?_
  obtain ⟨r_4, er_4⟩ : ∃ z, z = (mX6_digit x (pl + 2)) := ⟨_, rfl⟩
  have b0_r_4 := b_digit x (pl + 2)
  rw [← er_4] at b0_r_4
  rw [← er_4]
  replace hR := lt_e hR er_4
  refine lv_istore_n (lv' := [(3, .int r_4), (2, .int r_2), (0, .ref (h 0)), (1, .int pl)]) hx hb dX6_doesComplaint_15 rfl hl (by decide) rfl (fun ls hl => ?_)
  refine lv_aload_n hx hb dX6_doesComplaint_16 rfl (lv_at hl 2 rfl) ?_
  refine lv_iload_n hx hb dX6_doesComplaint_17 rfl (lv_at hl 3 rfl) ?_
  refine lv_iconst (v := 3) hx hb dX6_doesComplaint_18 (by decide) ?_
  refine lv_iadd hx hb dX6_doesComplaint_19 ?_
  have u_5 : ((pl + 3)).toInt = ((pl).toInt + 3) := (ti_add rfl (show (3 : Int32).toInt = 3 from rfl) (by omega))
  refine ro_V (v := .int (mX6_sign x (pl + 3))) (rest := []) (As := [.int (pl + 3)]) hx hb hml hown hts hl (MX6_sign l D q h x (pl + 3) hL (rg_t (i := (pl + 3)) (x := ((pl).toInt + 3)) (ti_add rfl (show (3 : Int32).toInt = 3 from rfl) (by omega)) (by omega))) gX6_doesComplaint_X6_sign rfl kX6_sign ⟨Nat.le_of_ble_eq_true rfl, Nat.le_of_ble_eq_true rfl⟩ rfl rfl hP (dT hD) hG (ci := 4) rfl rfl rfl rfl (Nat.le_of_ble_eq_true rfl) dX6_doesComplaint_20 ⟨Nat.zero_le _, Nat.zero_le _⟩ ?_
  obtain ⟨r_6, er_6⟩ : ∃ z, z = (mX6_sign x (pl + 3)) := ⟨_, rfl⟩
  rw [← er_6]
  replace hR := lt_e hR er_6
  refine lv_bipush (v := 115) hx hb dX6_doesComplaint_23 (by decide) ?_
  refine lv_icmp_ne (tgt := 32) hx hb dX6_doesComplaint_25 (by decide) (fun c_7 => ?_) (fun c_7 => ?_)
  · rw [if_neg c_7] at hR
    have tc_7 : ¬ r_6.toInt = 115 := fun z => c_7 (i_eq.mpr z)
    refine lv_iconst (v := 0) hx hb dX6_doesComplaint_32 (by decide) ?_
    refine lv_istore (lv' := [(4, .int 0), (3, .int r_4), (2, .int r_2), (0, .ref (h 0)), (1, .int pl)]) hx hb dX6_doesComplaint_33 hl (by decide) rfl (fun ls hl => ?_)
    refine lv_aload_n hx hb dX6_doesComplaint_35 rfl (lv_at hl 3 rfl) ?_
    refine lv_sipush (v := 148) hx hb dX6_doesComplaint_36 (by decide) ?_
    refine lv_iload_n hx hb dX6_doesComplaint_39 rfl (lv_at hl 2 rfl) ?_
    refine lv_iload_n hx hb dX6_doesComplaint_40 rfl (lv_at hl 1 rfl) ?_
    refine lv_iload hx hb dX6_doesComplaint_41 (lv_at hl 0 rfl) ?_
    refine lv_aload_n hx hb dX6_doesComplaint_43 rfl (lv_at hl 3 rfl) ?_
    refine lv_iload_n hx hb dX6_doesComplaint_44 rfl (lv_at hl 4 rfl) ?_
    refine lv_iconst (v := 4) hx hb dX6_doesComplaint_45 (by decide) ?_
    refine lv_iadd hx hb dX6_doesComplaint_46 ?_
    have u_8 : ((pl + 4)).toInt = ((pl).toInt + 4) := (ti_add rfl (show (4 : Int32).toInt = 4 from rfl) (by omega))
    refine ro_V (v := .int (mX6_hourIn x (pl + 4))) (rest := [.int 0, .int r_4, .int r_2, .int 148, .ref (h 0)]) (As := [.int (pl + 4)]) hx hb hml hown hts hl (MX6_hourIn l D q h x (pl + 4) hL (rg_t (i := (pl + 4)) (x := ((pl).toInt + 4)) (ti_add rfl (show (4 : Int32).toInt = 4 from rfl) (by omega)) (by omega))) gX6_doesComplaint_X6_hourIn rfl kX6_hourIn ⟨Nat.le_of_ble_eq_true rfl, Nat.le_of_ble_eq_true rfl⟩ rfl rfl hP (dT hD) hG (ci := 4) rfl rfl rfl rfl (Nat.le_of_ble_eq_true rfl) dX6_doesComplaint_47 ⟨Nat.zero_le _, Nat.zero_le _⟩ ?_
    obtain ⟨r_9, er_9⟩ : ∃ z, z = (mX6_hourIn x (pl + 4)) := ⟨_, rfl⟩
    have b0_r_9 := b_hourIn x (pl + 4) (by omega)
    rw [← er_9] at b0_r_9
    rw [← er_9]
    replace hR := lt_e hR er_9
    refine ro_V (v := .int (mX6_wrong x 148 r_2 r_4 0 r_9)) (rest := []) (As := [.int 148, .int r_2, .int r_4, .int 0, .int r_9]) hx hb hml hown hts hl (MX6_wrong l D q h x 148 r_2 r_4 0 r_9 (rg_t (i := 148) (x := 148) (show (148 : Int32).toInt = 148 from rfl) (by omega))) gX6_doesComplaint_X6_wrong rfl kX6_wrong ⟨Nat.le_of_ble_eq_true rfl, Nat.le_of_ble_eq_true rfl⟩ rfl rfl hP (dT hD) hG (ci := 4) rfl rfl rfl rfl (Nat.le_of_ble_eq_true rfl) dX6_doesComplaint_50 ⟨Nat.zero_le _, Nat.zero_le _⟩ ?_
    refine lv_istore (lv' := [(5, .int (mX6_wrong x 148 r_2 r_4 0 r_9)), (4, .int 0), (3, .int r_4), (2, .int r_2), (0, .ref (h 0)), (1, .int pl)]) hx hb dX6_doesComplaint_53 hl (by decide) rfl (fun ls hl => ?_)
    refine lv_iload hx hb dX6_doesComplaint_55 (lv_at hl 0 rfl) ?_
    refine lv_if_ge (tgt := 64) hx hb dX6_doesComplaint_57 (by decide) (fun c_10 => ?_) (fun c_10 => ?_)
    · rw [if_pos c_10] at hR
      have fc_10 := f_wrongP hC8 c_10
      refine lv_aload_n hx hb dX6_doesComplaint_64 rfl (lv_at hl 4 rfl) ?_
      refine lv_sipush (v := 148) hx hb dX6_doesComplaint_65 (by decide) ?_
      refine lv_iload_n hx hb dX6_doesComplaint_68 rfl (lv_at hl 3 rfl) ?_
      refine lv_iload_n hx hb dX6_doesComplaint_69 rfl (lv_at hl 2 rfl) ?_
      refine lv_iload hx hb dX6_doesComplaint_70 (lv_at hl 1 rfl) ?_
      refine lv_aload_n hx hb dX6_doesComplaint_72 rfl (lv_at hl 4 rfl) ?_
      refine lv_iload_n hx hb dX6_doesComplaint_73 rfl (lv_at hl 5 rfl) ?_
      refine lv_iconst (v := 4) hx hb dX6_doesComplaint_74 (by decide) ?_
      refine lv_iadd hx hb dX6_doesComplaint_75 ?_
      have u_11 : ((pl + 4)).toInt = ((pl).toInt + 4) := (ti_add rfl (show (4 : Int32).toInt = 4 from rfl) (by omega))
      refine ro_V (v := .int (mX6_hourIn x (pl + 4))) (rest := [.int 0, .int r_4, .int r_2, .int 148, .ref (h 0)]) (As := [.int (pl + 4)]) hx hb hml hown hts hl (MX6_hourIn l D q h x (pl + 4) hL (rg_t (i := (pl + 4)) (x := ((pl).toInt + 4)) (ti_add rfl (show (4 : Int32).toInt = 4 from rfl) (by omega)) (by omega))) gX6_doesComplaint_X6_hourIn rfl kX6_hourIn ⟨Nat.le_of_ble_eq_true rfl, Nat.le_of_ble_eq_true rfl⟩ rfl rfl hP (dT hD) hG (ci := 4) rfl rfl rfl rfl (Nat.le_of_ble_eq_true rfl) dX6_doesComplaint_76 ⟨Nat.zero_le _, Nat.zero_le _⟩ ?_
      rw [← er_9]
      obtain ⟨q_12, eq_12⟩ : ∃ z, z = (mX6_complains x 148 r_2 r_4 0 r_9) := ⟨_, rfl⟩
      have hM := MX6_complains l D q h x 148 r_2 r_4 0 r_9 (rg_t (i := 148) (x := 148) (show (148 : Int32).toInt = 148 from rfl) (by omega)) (rg_t (i := r_2) (x := (r_2).toInt) rfl (by omega)) (rg_t (i := r_4) (x := (r_4).toInt) rfl (by omega)) (rg_t (i := 0) (x := 0) (show (0 : Int32).toInt = 0 from rfl) (by omega)) (rg_t (i := r_9) (x := (r_9).toInt) rfl (by omega))
      rw [← eq_12] at hM
      replace hR := lt_e hR eq_12
      refine mu_V (D := D) (ws := (wM q h x)) (ws' := (wM q h q_12.2)) (rest := []) (As := [.int 148, .int r_2, .int r_4, .int 0, .int r_9]) hx hb hml hown hts hl hM gX6_doesComplaint_X6_complains rfl kX6_complains ⟨Nat.le_of_ble_eq_true rfl, Nat.le_of_ble_eq_true rfl⟩ rfl rfl hP hD hS hG [0, 1, 2, 3, 4] rfl rfl (by decide) [5, 6, 7, 8, 9] rfl (by decide) rfl (ci := 4) rfl rfl rfl rfl (Nat.le_of_ble_eq_true rfl) dX6_doesComplaint_79 ⟨Nat.zero_le _, Nat.zero_le _⟩ (fun H locs hP hD hS => ?_)
      refine lv_istore (lv' := [(6, .int q_12.1), (5, .int (mX6_wrong x 148 r_2 r_4 0 r_9)), (4, .int 0), (3, .int r_4), (2, .int r_2), (0, .ref (h 0)), (1, .int pl)]) hx hb dX6_doesComplaint_82 hl (by decide) rfl (fun ls hl => ?_)
      refine lv_iload hx hb dX6_doesComplaint_84 (lv_at hl 1 rfl) ?_
      subst hR
      exact mu_iret hx hb hr hk hA hS hP rfl dX6_doesComplaint_86
    · rw [if_neg c_10] at hR
      refine lv_iconst (v := 0) hx hb dX6_doesComplaint_60 (by decide) ?_
      refine lv_goto (tgt := 82) hx hb dX6_doesComplaint_61 (by decide) ?_
      refine lv_istore (lv' := [(6, .int 0), (5, .int (mX6_wrong x 148 r_2 r_4 0 r_9)), (4, .int 0), (3, .int r_4), (2, .int r_2), (0, .ref (h 0)), (1, .int pl)]) hx hb dX6_doesComplaint_82 hl (by decide) rfl (fun ls hl => ?_)
      refine lv_iload hx hb dX6_doesComplaint_84 (lv_at hl 1 rfl) ?_
      subst hR
      exact mu_iret hx hb hr hk hA hS hP rfl dX6_doesComplaint_86
  · rw [if_pos c_7] at hR
    have tc_7 : r_6.toInt = 115 := i_eq.mp c_7
    refine lv_iconst (v := 1) hx hb dX6_doesComplaint_28 (by decide) ?_
    refine lv_goto (tgt := 33) hx hb dX6_doesComplaint_29 (by decide) ?_
    refine lv_istore (lv' := [(4, .int 1), (3, .int r_4), (2, .int r_2), (0, .ref (h 0)), (1, .int pl)]) hx hb dX6_doesComplaint_33 hl (by decide) rfl (fun ls hl => ?_)
    refine lv_aload_n hx hb dX6_doesComplaint_35 rfl (lv_at hl 3 rfl) ?_
    refine lv_sipush (v := 148) hx hb dX6_doesComplaint_36 (by decide) ?_
    refine lv_iload_n hx hb dX6_doesComplaint_39 rfl (lv_at hl 2 rfl) ?_
    refine lv_iload_n hx hb dX6_doesComplaint_40 rfl (lv_at hl 1 rfl) ?_
    refine lv_iload hx hb dX6_doesComplaint_41 (lv_at hl 0 rfl) ?_
    refine lv_aload_n hx hb dX6_doesComplaint_43 rfl (lv_at hl 3 rfl) ?_
    refine lv_iload_n hx hb dX6_doesComplaint_44 rfl (lv_at hl 4 rfl) ?_
    refine lv_iconst (v := 4) hx hb dX6_doesComplaint_45 (by decide) ?_
    refine lv_iadd hx hb dX6_doesComplaint_46 ?_
    have u_13 : ((pl + 4)).toInt = ((pl).toInt + 4) := (ti_add rfl (show (4 : Int32).toInt = 4 from rfl) (by omega))
    refine ro_V (v := .int (mX6_hourIn x (pl + 4))) (rest := [.int 1, .int r_4, .int r_2, .int 148, .ref (h 0)]) (As := [.int (pl + 4)]) hx hb hml hown hts hl (MX6_hourIn l D q h x (pl + 4) hL (rg_t (i := (pl + 4)) (x := ((pl).toInt + 4)) (ti_add rfl (show (4 : Int32).toInt = 4 from rfl) (by omega)) (by omega))) gX6_doesComplaint_X6_hourIn rfl kX6_hourIn ⟨Nat.le_of_ble_eq_true rfl, Nat.le_of_ble_eq_true rfl⟩ rfl rfl hP (dT hD) hG (ci := 4) rfl rfl rfl rfl (Nat.le_of_ble_eq_true rfl) dX6_doesComplaint_47 ⟨Nat.zero_le _, Nat.zero_le _⟩ ?_
    obtain ⟨r_14, er_14⟩ : ∃ z, z = (mX6_hourIn x (pl + 4)) := ⟨_, rfl⟩
    have b0_r_14 := b_hourIn x (pl + 4) (by omega)
    rw [← er_14] at b0_r_14
    rw [← er_14]
    replace hR := lt_e hR er_14
    refine ro_V (v := .int (mX6_wrong x 148 r_2 r_4 1 r_14)) (rest := []) (As := [.int 148, .int r_2, .int r_4, .int 1, .int r_14]) hx hb hml hown hts hl (MX6_wrong l D q h x 148 r_2 r_4 1 r_14 (rg_t (i := 148) (x := 148) (show (148 : Int32).toInt = 148 from rfl) (by omega))) gX6_doesComplaint_X6_wrong rfl kX6_wrong ⟨Nat.le_of_ble_eq_true rfl, Nat.le_of_ble_eq_true rfl⟩ rfl rfl hP (dT hD) hG (ci := 4) rfl rfl rfl rfl (Nat.le_of_ble_eq_true rfl) dX6_doesComplaint_50 ⟨Nat.zero_le _, Nat.zero_le _⟩ ?_
    refine lv_istore (lv' := [(5, .int (mX6_wrong x 148 r_2 r_4 1 r_14)), (4, .int 1), (3, .int r_4), (2, .int r_2), (0, .ref (h 0)), (1, .int pl)]) hx hb dX6_doesComplaint_53 hl (by decide) rfl (fun ls hl => ?_)
    refine lv_iload hx hb dX6_doesComplaint_55 (lv_at hl 0 rfl) ?_
    refine lv_if_ge (tgt := 64) hx hb dX6_doesComplaint_57 (by decide) (fun c_15 => ?_) (fun c_15 => ?_)
    · rw [if_pos c_15] at hR
      have fc_15 := f_wrongP hC8 c_15
      refine lv_aload_n hx hb dX6_doesComplaint_64 rfl (lv_at hl 4 rfl) ?_
      refine lv_sipush (v := 148) hx hb dX6_doesComplaint_65 (by decide) ?_
      refine lv_iload_n hx hb dX6_doesComplaint_68 rfl (lv_at hl 3 rfl) ?_
      refine lv_iload_n hx hb dX6_doesComplaint_69 rfl (lv_at hl 2 rfl) ?_
      refine lv_iload hx hb dX6_doesComplaint_70 (lv_at hl 1 rfl) ?_
      refine lv_aload_n hx hb dX6_doesComplaint_72 rfl (lv_at hl 4 rfl) ?_
      refine lv_iload_n hx hb dX6_doesComplaint_73 rfl (lv_at hl 5 rfl) ?_
      refine lv_iconst (v := 4) hx hb dX6_doesComplaint_74 (by decide) ?_
      refine lv_iadd hx hb dX6_doesComplaint_75 ?_
      have u_16 : ((pl + 4)).toInt = ((pl).toInt + 4) := (ti_add rfl (show (4 : Int32).toInt = 4 from rfl) (by omega))
      refine ro_V (v := .int (mX6_hourIn x (pl + 4))) (rest := [.int 1, .int r_4, .int r_2, .int 148, .ref (h 0)]) (As := [.int (pl + 4)]) hx hb hml hown hts hl (MX6_hourIn l D q h x (pl + 4) hL (rg_t (i := (pl + 4)) (x := ((pl).toInt + 4)) (ti_add rfl (show (4 : Int32).toInt = 4 from rfl) (by omega)) (by omega))) gX6_doesComplaint_X6_hourIn rfl kX6_hourIn ⟨Nat.le_of_ble_eq_true rfl, Nat.le_of_ble_eq_true rfl⟩ rfl rfl hP (dT hD) hG (ci := 4) rfl rfl rfl rfl (Nat.le_of_ble_eq_true rfl) dX6_doesComplaint_76 ⟨Nat.zero_le _, Nat.zero_le _⟩ ?_
      rw [← er_14]
      obtain ⟨q_17, eq_17⟩ : ∃ z, z = (mX6_complains x 148 r_2 r_4 1 r_14) := ⟨_, rfl⟩
      have hM := MX6_complains l D q h x 148 r_2 r_4 1 r_14 (rg_t (i := 148) (x := 148) (show (148 : Int32).toInt = 148 from rfl) (by omega)) (rg_t (i := r_2) (x := (r_2).toInt) rfl (by omega)) (rg_t (i := r_4) (x := (r_4).toInt) rfl (by omega)) (rg_t (i := 1) (x := 1) (show (1 : Int32).toInt = 1 from rfl) (by omega)) (rg_t (i := r_14) (x := (r_14).toInt) rfl (by omega))
      rw [← eq_17] at hM
      replace hR := lt_e hR eq_17
      refine mu_V (D := D) (ws := (wM q h x)) (ws' := (wM q h q_17.2)) (rest := []) (As := [.int 148, .int r_2, .int r_4, .int 1, .int r_14]) hx hb hml hown hts hl hM gX6_doesComplaint_X6_complains rfl kX6_complains ⟨Nat.le_of_ble_eq_true rfl, Nat.le_of_ble_eq_true rfl⟩ rfl rfl hP hD hS hG [0, 1, 2, 3, 4] rfl rfl (by decide) [5, 6, 7, 8, 9] rfl (by decide) rfl (ci := 4) rfl rfl rfl rfl (Nat.le_of_ble_eq_true rfl) dX6_doesComplaint_79 ⟨Nat.zero_le _, Nat.zero_le _⟩ (fun H locs hP hD hS => ?_)
      refine lv_istore (lv' := [(6, .int q_17.1), (5, .int (mX6_wrong x 148 r_2 r_4 1 r_14)), (4, .int 1), (3, .int r_4), (2, .int r_2), (0, .ref (h 0)), (1, .int pl)]) hx hb dX6_doesComplaint_82 hl (by decide) rfl (fun ls hl => ?_)
      refine lv_iload hx hb dX6_doesComplaint_84 (lv_at hl 1 rfl) ?_
      subst hR
      exact mu_iret hx hb hr hk hA hS hP rfl dX6_doesComplaint_86
    · rw [if_neg c_15] at hR
      refine lv_iconst (v := 0) hx hb dX6_doesComplaint_60 (by decide) ?_
      refine lv_goto (tgt := 82) hx hb dX6_doesComplaint_61 (by decide) ?_
      refine lv_istore (lv' := [(6, .int 0), (5, .int (mX6_wrong x 148 r_2 r_4 1 r_14)), (4, .int 1), (3, .int r_4), (2, .int r_2), (0, .ref (h 0)), (1, .int pl)]) hx hb dX6_doesComplaint_82 hl (by decide) rfl (fun ls hl => ?_)
      refine lv_iload hx hb dX6_doesComplaint_84 (lv_at hl 1 rfl) ?_
      subst hR
      exact mu_iret hx hb hr hk hA hS hP rfl dX6_doesComplaint_86
def dcR (x : Nat → Nat → Int32) (s a b h : Int32) : Int32 × (Nat → Nat → Int32) := if s = 115 then (if 0 ≤ mX6_wrong x 148 a b 1 h then (mX6_wrong x 148 a b 1 h, (mX6_complains x 148 a b 1 h).2) else (mX6_wrong x 148 a b 1 h, x)) else (if 0 ≤ mX6_wrong x 148 a b 0 h then (mX6_wrong x 148 a b 0 h, (mX6_complains x 148 a b 0 h).2) else (mX6_wrong x 148 a b 0 h, x))
theorem dc_eq (x : Nat → Nat → Int32) (p : Int32) : mX6_doesComplaint x p = dcR x (mX6_sign x (p + 3)) (mX6_digit x (p + 1)) (mX6_digit x (p + 2)) (mX6_hourIn x (p + 4)) := by
  unfold mX6_doesComplaint dcR
  generalize mX6_digit x (p + 1) = a
  generalize mX6_digit x (p + 2) = b
  generalize mX6_hourIn x (p + 4) = h
  generalize mX6_sign x (p + 3) = s
  unfold lt
  dsimp only
theorem dc_all {x : Nat → Nat → Int32} {P : (Nat → Nat → Int32) → Prop} (s a b h : Int32) (h0 : P x) (h1 : ∀ k : Int32, 0 ≤ k.toInt ∧ k.toInt < 2 → 0 ≤ mX6_wrong x 148 a b k h → P (mX6_complains x 148 a b k h).2) : P (dcR x s a b h).2 := by
  unfold dcR
  by_cases c1 : s = 115
  · rw [if_pos c1]
    by_cases c2 : 0 ≤ mX6_wrong x 148 a b 1 h
    · rw [if_pos c2]; exact h1 1 (by decide) c2
    · rw [if_neg c2]; exact h0
  · rw [if_neg c1]
    by_cases c2 : 0 ≤ mX6_wrong x 148 a b 0 h
    · rw [if_pos c2]; exact h1 0 (by decide) c2
    · rw [if_neg c2]; exact h0
theorem k4_doesComplaint (x : Nat → Nat → Int32) (p : Int32) : (mX6_doesComplaint x p).2 4 = x 4 := by
  rw [dc_eq]
  exact dc_all (P := fun z => z 4 = x 4) _ _ _ _ rfl (fun k _ _ => k4_complains _ _ _ _ _ _)
theorem k3_doesComplaint (x : Nat → Nat → Int32) (p : Int32) : (mX6_doesComplaint x p).2 3 = x 3 := by
  rw [dc_eq]
  exact dc_all (P := fun z => z 3 = x 3) _ _ _ _ rfl (fun k _ _ => k3_complains _ _ _ _ _ _)
theorem cnt_doesComplaint {x : Nat → Nat → Int32} (h : cntP x 148) (p : Int32) : cntP (mX6_doesComplaint x p).2 148 := by
  rw [dc_eq]
  exact dc_all (P := fun z => cntP z 148) _ _ _ _ h (fun k _ c => (fun f => cnt_complains h f.1 f.2.1 f.2.2.1) (f_wrongP h c))
theorem w_hourEnd {x : Nat → Nat → Int32} {p : Int32} (hs : mX6_sign x p = 119) (hv : 0 ≤ (mX6_partEnd x p).toInt) (hp : 0 ≤ p.toInt ∧ p.toInt < 900) : 0 ≤ (mX6_hourEnd x (p + 1)).toInt := by
  have a0 := pe_u (p := p) (by omega)
  have a1 := g_hourEnd x (p + 1) a0 (by omega)
  have a2 := g_behind x _ 61 a1 (by omega)
  have e : mX6_partEnd x p = mX6_digitEnd x (mX6_behind x (mX6_hourEnd x (p + 1)) 61) 0 9 := by
    unfold mX6_partEnd
    rw [hs]
    unfold lt
    dsimp only
    rw [if_neg (show ¬ (119 : Int32) = 99 by decide), if_neg (show ¬ (119 : Int32) = 104 by decide), if_neg (show ¬ (119 : Int32) = 109 by decide), if_pos (Eq.refl (119 : Int32))]
  rw [e] at hv
  have a3 := up_digitEnd (by omega) hv
  exact (up_behind (by omega) a3.1).1
theorem vch_part {x : Nat → Nat → Int32} {p : Int32} (hL : 0 ≤ (x 4 2).toInt ∧ (x 4 2).toInt < 61) (h : vch x p) (c : ¬ x 4 2 ≤ p) : 0 ≤ (mX6_partEnd x p).toInt := by
  have h1 := vch_next hL h c
  have h2 := vch_in h c
  have h3 := b_partEnd x p (by omega)
  have h4 := h1.2
  generalize mX6_partEnd x p = r at h3 h4 ⊢
  rw [b_up (p := r) 1 (n := 1) rfl (by omega) (by omega)] at h4
  omega

def mX6_does (x : Nat → Nat → Int32) (pl : Int32) : Int32 × (Nat → Nat → Int32) := (lt (mX6_sign x pl) (fun r_1 => (if r_1 = 104 then (lt (mX6_yardIn x (pl + 2)) (fun r_4 => (lt (mX6_houseComes x 148 r_4) (fun q_5 => (q_5.1, q_5.2))))) else (if r_1 = 109 then (lt (mX6_digit x (pl + 1)) (fun r_8 => (lt (mX6_yardIn x (pl + 3)) (fun r_10 => (lt (mX6_millComes x 148 r_8 r_10) (fun q_11 => (q_11.1, q_11.2))))))) else (if r_1 = 119 then (lt (mX6_hourIn x (pl + 1)) (fun r_14 => (lt (mX6_hourEnd x (pl + 1)) (fun r_16 => (lt (mX6_digit x (r_16 + 1)) (fun r_18 => (lt (mX6_blows x 148 r_14 r_14 r_18) (fun q_19 => (0, q_19.2))))))))) else (lt (mX6_doesComplaint x pl) (fun q_20 => (q_20.1, q_20.2))))))))
theorem kX6_does : yX6_does.cls = RX6 ∧ yX6_does.cls ≠ "java/lang/invoke/MethodHandle" ∧ yX6_does.cls ≠ "java/lang/invoke/VarHandle" ∧ (parseMethodDescriptor yX6_does.desc).map (fun d => d.parameters.length) = some 1 := by decide +kernel
set_option maxHeartbeats 4000000 in
set_option maxRecDepth 100000 in
theorem MX6_does (l : Launch) (D : va_G) (q : Nat → ClassId) (h : Nat → Nat) (x : Nat → Nat → Int32) (pl : Int32) (hC8 : cntP x 148) (hL : 0 ≤ (x 4 2).toInt ∧ (x 4 2).toInt < 61) (hpl : 0 ≤ pl.toInt ∧ pl.toInt < 800) (hv : 0 ≤ (mX6_partEnd x pl).toInt) : muM l D (tyq q) yX6_does wsX6_does ({ frames := 8, cells := 0, slots := 0, locals := 200 } : Room) [.ref (h 0), .int pl] (wM q h x) (some (.int (mX6_does x pl).1)) (wM q h (mX6_does x pl).2) := by
  obtain ⟨R, hR⟩ : ∃ z, (mX6_does x pl) = z := ⟨_, rfl⟩
  rw [hR]
  unfold mX6_does at hR
  refine muM.of (cc := cX6_does) (maxL := 4) (ret := (some .int)) (by decide) rfl (Nat.le_of_ble_eq_true rfl) ?_
  intro p e s m below meth c ls A hx hb hr hk hml hown hts hP hD hG hA hl
  have hS : va_S A s.heap s.heap [] := va_S.rf
  have hl : lv_has ls 4 [(0, .ref (h 0)), (1, .int pl)] := hl
  refine lv_aload_n hx hb dX6_does_0 rfl (lv_at hl 0 rfl) ?_
  refine lv_iload_n hx hb dX6_does_1 rfl (lv_at hl 1 rfl) ?_
  refine ro_V (v := .int (mX6_sign x pl)) (rest := []) (As := [.int pl]) hx hb hml hown hts hl (MX6_sign l D q h x pl hL (rg_t (i := pl) (x := (pl).toInt) rfl (by omega))) gX6_does_X6_sign rfl kX6_sign ⟨Nat.le_of_ble_eq_true rfl, Nat.le_of_ble_eq_true rfl⟩ rfl rfl hP (dT hD) hG (ci := 4) rfl rfl rfl rfl (Nat.le_of_ble_eq_true rfl) dX6_does_2 ⟨Nat.zero_le _, Nat.zero_le _⟩ ?_
  obtain ⟨r_1, er_1⟩ : ∃ z, z = (mX6_sign x pl) := ⟨_, rfl⟩
  rw [← er_1]
  replace hR := lt_e hR er_1
  by_cases c_2 : r_1 = 104
  · rw [if_pos c_2] at hR
    have tc_2 : r_1.toInt = 104 := i_eq.mp c_2
    refine lv_lookup (off := 57) (tgt := 62) hx hb dX6_does_5 (by decide) (by rw [c_2]; decide) (by decide) ?_
    refine lv_aload_n hx hb dX6_does_62 rfl (lv_at hl 0 rfl) ?_
    refine lv_sipush (v := 148) hx hb dX6_does_63 (by decide) ?_
    refine lv_aload_n hx hb dX6_does_66 rfl (lv_at hl 0 rfl) ?_
    refine lv_iload_n hx hb dX6_does_67 rfl (lv_at hl 1 rfl) ?_
    refine lv_iconst (v := 2) hx hb dX6_does_68 (by decide) ?_
    refine lv_iadd hx hb dX6_does_69 ?_
    have u_3 : ((pl + 2)).toInt = ((pl).toInt + 2) := (ti_add rfl (show (2 : Int32).toInt = 2 from rfl) (by omega))
    refine ro_V (v := .int (mX6_yardIn x (pl + 2))) (rest := [.int 148, .ref (h 0)]) (As := [.int (pl + 2)]) hx hb hml hown hts hl (MX6_yardIn l D q h x (pl + 2) hL (rg_t (i := (pl + 2)) (x := ((pl).toInt + 2)) (ti_add rfl (show (2 : Int32).toInt = 2 from rfl) (by omega)) (by omega))) gX6_does_X6_yardIn rfl kX6_yardIn ⟨Nat.le_of_ble_eq_true rfl, Nat.le_of_ble_eq_true rfl⟩ rfl rfl hP (dT hD) hG (ci := 4) rfl rfl rfl rfl (Nat.le_of_ble_eq_true rfl) dX6_does_70 ⟨Nat.zero_le _, Nat.zero_le _⟩ ?_
    obtain ⟨r_4, er_4⟩ : ∃ z, z = (mX6_yardIn x (pl + 2)) := ⟨_, rfl⟩
    rw [← er_4]
    replace hR := lt_e hR er_4
    obtain ⟨q_5, eq_5⟩ : ∃ z, z = (mX6_houseComes x 148 r_4) := ⟨_, rfl⟩
    have hM := MX6_houseComes l D q h x 148 r_4 hC8 (rg_t (i := 148) (x := 148) (show (148 : Int32).toInt = 148 from rfl) (by omega))
    rw [← eq_5] at hM
    replace hR := lt_e hR eq_5
    refine mu_V (D := D) (ws := (wM q h x)) (ws' := (wM q h q_5.2)) (rest := []) (As := [.int 148, .int r_4]) hx hb hml hown hts hl hM gX6_does_X6_houseComes rfl kX6_houseComes ⟨Nat.le_of_ble_eq_true rfl, Nat.le_of_ble_eq_true rfl⟩ rfl rfl hP hD hS hG [0, 1, 2, 3, 4] rfl rfl (by decide) [5, 6, 7, 8, 9] rfl (by decide) rfl (ci := 4) rfl rfl rfl rfl (Nat.le_of_ble_eq_true rfl) dX6_does_73 ⟨Nat.zero_le _, Nat.zero_le _⟩ (fun H locs hP hD hS => ?_)
    subst hR
    exact mu_iret hx hb hr hk hA hS hP rfl dX6_does_76
  · rw [if_neg c_2] at hR
    by_cases c_6 : r_1 = 109
    · rw [if_pos c_6] at hR
      have tc_6 : r_1.toInt = 109 := i_eq.mp c_6
      refine lv_lookup (off := 35) (tgt := 40) hx hb dX6_does_5 (by decide) (by rw [c_6]; decide) (by decide) ?_
      refine lv_aload_n hx hb dX6_does_40 rfl (lv_at hl 0 rfl) ?_
      refine lv_sipush (v := 148) hx hb dX6_does_41 (by decide) ?_
      refine lv_aload_n hx hb dX6_does_44 rfl (lv_at hl 0 rfl) ?_
      refine lv_iload_n hx hb dX6_does_45 rfl (lv_at hl 1 rfl) ?_
      refine lv_iconst (v := 1) hx hb dX6_does_46 (by decide) ?_
      refine lv_iadd hx hb dX6_does_47 ?_
      have u_7 : ((pl + 1)).toInt = ((pl).toInt + 1) := (ti_add rfl (show (1 : Int32).toInt = 1 from rfl) (by omega))
      refine ro_V (v := .int (mX6_digit x (pl + 1))) (rest := [.int 148, .ref (h 0)]) (As := [.int (pl + 1)]) hx hb hml hown hts hl (MX6_digit l D q h x (pl + 1) hL (rg_t (i := (pl + 1)) (x := ((pl).toInt + 1)) (ti_add rfl (show (1 : Int32).toInt = 1 from rfl) (by omega)) (by omega))) gX6_does_X6_digit rfl kX6_digit ⟨Nat.le_of_ble_eq_true rfl, Nat.le_of_ble_eq_true rfl⟩ rfl rfl hP (dT hD) hG (ci := 4) rfl rfl rfl rfl (Nat.le_of_ble_eq_true rfl) dX6_does_48 ⟨Nat.zero_le _, Nat.zero_le _⟩ ?_
      obtain ⟨r_8, er_8⟩ : ∃ z, z = (mX6_digit x (pl + 1)) := ⟨_, rfl⟩
      have b0_r_8 := b_digit x (pl + 1)
      rw [← er_8] at b0_r_8
      rw [← er_8]
      replace hR := lt_e hR er_8
      refine lv_aload_n hx hb dX6_does_51 rfl (lv_at hl 0 rfl) ?_
      refine lv_iload_n hx hb dX6_does_52 rfl (lv_at hl 1 rfl) ?_
      refine lv_iconst (v := 3) hx hb dX6_does_53 (by decide) ?_
      refine lv_iadd hx hb dX6_does_54 ?_
      have u_9 : ((pl + 3)).toInt = ((pl).toInt + 3) := (ti_add rfl (show (3 : Int32).toInt = 3 from rfl) (by omega))
      refine ro_V (v := .int (mX6_yardIn x (pl + 3))) (rest := [.int r_8, .int 148, .ref (h 0)]) (As := [.int (pl + 3)]) hx hb hml hown hts hl (MX6_yardIn l D q h x (pl + 3) hL (rg_t (i := (pl + 3)) (x := ((pl).toInt + 3)) (ti_add rfl (show (3 : Int32).toInt = 3 from rfl) (by omega)) (by omega))) gX6_does_X6_yardIn rfl kX6_yardIn ⟨Nat.le_of_ble_eq_true rfl, Nat.le_of_ble_eq_true rfl⟩ rfl rfl hP (dT hD) hG (ci := 4) rfl rfl rfl rfl (Nat.le_of_ble_eq_true rfl) dX6_does_55 ⟨Nat.zero_le _, Nat.zero_le _⟩ ?_
      obtain ⟨r_10, er_10⟩ : ∃ z, z = (mX6_yardIn x (pl + 3)) := ⟨_, rfl⟩
      rw [← er_10]
      replace hR := lt_e hR er_10
      obtain ⟨q_11, eq_11⟩ : ∃ z, z = (mX6_millComes x 148 r_8 r_10) := ⟨_, rfl⟩
      have hM := MX6_millComes l D q h x 148 r_8 r_10 hC8 (rg_t (i := 148) (x := 148) (show (148 : Int32).toInt = 148 from rfl) (by omega))
      rw [← eq_11] at hM
      replace hR := lt_e hR eq_11
      refine mu_V (D := D) (ws := (wM q h x)) (ws' := (wM q h q_11.2)) (rest := []) (As := [.int 148, .int r_8, .int r_10]) hx hb hml hown hts hl hM gX6_does_X6_millComes rfl kX6_millComes ⟨Nat.le_of_ble_eq_true rfl, Nat.le_of_ble_eq_true rfl⟩ rfl rfl hP hD hS hG [0, 1, 2, 3, 4] rfl rfl (by decide) [5, 6, 7, 8, 9] rfl (by decide) rfl (ci := 4) rfl rfl rfl rfl (Nat.le_of_ble_eq_true rfl) dX6_does_58 ⟨Nat.zero_le _, Nat.zero_le _⟩ (fun H locs hP hD hS => ?_)
      subst hR
      exact mu_iret hx hb hr hk hA hS hP rfl dX6_does_61
    · rw [if_neg c_6] at hR
      by_cases c_12 : r_1 = 119
      · rw [if_pos c_12] at hR
        have tc_12 : r_1.toInt = 119 := i_eq.mp c_12
        refine lv_lookup (off := 72) (tgt := 77) hx hb dX6_does_5 (by decide) (by rw [c_12]; decide) (by decide) ?_
        refine lv_aload_n hx hb dX6_does_77 rfl (lv_at hl 0 rfl) ?_
        refine lv_iload_n hx hb dX6_does_78 rfl (lv_at hl 1 rfl) ?_
        refine lv_iconst (v := 1) hx hb dX6_does_79 (by decide) ?_
        refine lv_iadd hx hb dX6_does_80 ?_
        have u_13 : ((pl + 1)).toInt = ((pl).toInt + 1) := (ti_add rfl (show (1 : Int32).toInt = 1 from rfl) (by omega))
        refine ro_V (v := .int (mX6_hourIn x (pl + 1))) (rest := []) (As := [.int (pl + 1)]) hx hb hml hown hts hl (MX6_hourIn l D q h x (pl + 1) hL (rg_t (i := (pl + 1)) (x := ((pl).toInt + 1)) (ti_add rfl (show (1 : Int32).toInt = 1 from rfl) (by omega)) (by omega))) gX6_does_X6_hourIn rfl kX6_hourIn ⟨Nat.le_of_ble_eq_true rfl, Nat.le_of_ble_eq_true rfl⟩ rfl rfl hP (dT hD) hG (ci := 4) rfl rfl rfl rfl (Nat.le_of_ble_eq_true rfl) dX6_does_81 ⟨Nat.zero_le _, Nat.zero_le _⟩ ?_
        obtain ⟨r_14, er_14⟩ : ∃ z, z = (mX6_hourIn x (pl + 1)) := ⟨_, rfl⟩
        have b0_r_14 := b_hourIn x (pl + 1) (by omega)
        rw [← er_14] at b0_r_14
        rw [← er_14]
        replace hR := lt_e hR er_14
        refine lv_istore_n (lv' := [(2, .int r_14), (0, .ref (h 0)), (1, .int pl)]) hx hb dX6_does_84 rfl hl (by decide) rfl (fun ls hl => ?_)
        refine lv_aload_n hx hb dX6_does_85 rfl (lv_at hl 1 rfl) ?_
        refine lv_sipush (v := 148) hx hb dX6_does_86 (by decide) ?_
        refine lv_iload_n hx hb dX6_does_89 rfl (lv_at hl 0 rfl) ?_
        refine lv_iload_n hx hb dX6_does_90 rfl (lv_at hl 0 rfl) ?_
        refine lv_aload_n hx hb dX6_does_91 rfl (lv_at hl 1 rfl) ?_
        refine lv_aload_n hx hb dX6_does_92 rfl (lv_at hl 1 rfl) ?_
        refine lv_iload_n hx hb dX6_does_93 rfl (lv_at hl 2 rfl) ?_
        refine lv_iconst (v := 1) hx hb dX6_does_94 (by decide) ?_
        refine lv_iadd hx hb dX6_does_95 ?_
        have u_15 : ((pl + 1)).toInt = ((pl).toInt + 1) := (ti_add rfl (show (1 : Int32).toInt = 1 from rfl) (by omega))
        refine ro_V (v := .int (mX6_hourEnd x (pl + 1))) (rest := [.ref (h 0), .int r_14, .int r_14, .int 148, .ref (h 0)]) (As := [.int (pl + 1)]) hx hb hml hown hts hl (MX6_hourEnd l D q h x (pl + 1) hL (rg_t (i := (pl + 1)) (x := ((pl).toInt + 1)) (ti_add rfl (show (1 : Int32).toInt = 1 from rfl) (by omega)) (by omega))) gX6_does_X6_hourEnd rfl kX6_hourEnd ⟨Nat.le_of_ble_eq_true rfl, Nat.le_of_ble_eq_true rfl⟩ rfl rfl hP (dT hD) hG (ci := 4) rfl rfl rfl rfl (Nat.le_of_ble_eq_true rfl) dX6_does_96 ⟨Nat.zero_le _, Nat.zero_le _⟩ ?_
        obtain ⟨r_16, er_16⟩ : ∃ z, z = (mX6_hourEnd x (pl + 1)) := ⟨_, rfl⟩
        have b0_r_16 := w_hourEnd (x := x) (p := pl) (by rw [← er_1]; assumption) hv (by omega)
        rw [← er_16] at b0_r_16
        have b1_r_16 := g_hourEnd x (pl + 1) (B := pl.toInt + 1) (by omega) (by omega)
        rw [← er_16] at b1_r_16
        rw [← er_16]
        replace hR := lt_e hR er_16
        refine lv_iconst (v := 1) hx hb dX6_does_99 (by decide) ?_
        refine lv_iadd hx hb dX6_does_100 ?_
        have u_17 : ((r_16 + 1)).toInt = ((r_16).toInt + 1) := (ti_add rfl (show (1 : Int32).toInt = 1 from rfl) (by omega))
        refine ro_V (v := .int (mX6_digit x (r_16 + 1))) (rest := [.int r_14, .int r_14, .int 148, .ref (h 0)]) (As := [.int (r_16 + 1)]) hx hb hml hown hts hl (MX6_digit l D q h x (r_16 + 1) hL (rg_t (i := (r_16 + 1)) (x := ((r_16).toInt + 1)) (ti_add rfl (show (1 : Int32).toInt = 1 from rfl) (by omega)) (by omega))) gX6_does_X6_digit rfl kX6_digit ⟨Nat.le_of_ble_eq_true rfl, Nat.le_of_ble_eq_true rfl⟩ rfl rfl hP (dT hD) hG (ci := 4) rfl rfl rfl rfl (Nat.le_of_ble_eq_true rfl) dX6_does_101 ⟨Nat.zero_le _, Nat.zero_le _⟩ ?_
        obtain ⟨r_18, er_18⟩ : ∃ z, z = (mX6_digit x (r_16 + 1)) := ⟨_, rfl⟩
        have b0_r_18 := b_digit x (r_16 + 1)
        rw [← er_18] at b0_r_18
        rw [← er_18]
        replace hR := lt_e hR er_18
        obtain ⟨q_19, eq_19⟩ : ∃ z, z = (mX6_blows x 148 r_14 r_14 r_18) := ⟨_, rfl⟩
        have hM := MX6_blows l D q h x 148 r_14 r_14 r_18 (rg_t (i := 148) (x := 148) (show (148 : Int32).toInt = 148 from rfl) (by omega)) (by show 0 ≤ 148 + 34 + r_14.toInt; omega) (by show 148 + 34 + r_14.toInt < 296; omega)
        rw [← eq_19] at hM
        replace hR := lt_e hR eq_19
        refine mu_V (D := D) (ws := (wM q h x)) (ws' := (wM q h q_19.2)) (rest := []) (As := [.int 148, .int r_14, .int r_14, .int r_18]) hx hb hml hown hts hl hM gX6_does_X6_blows rfl kX6_blows ⟨Nat.le_of_ble_eq_true rfl, Nat.le_of_ble_eq_true rfl⟩ rfl rfl hP hD hS hG [0, 1, 2, 3, 4] rfl rfl (by decide) [5, 6, 7, 8, 9] rfl (by decide) rfl (ci := 4) rfl rfl rfl rfl (Nat.le_of_ble_eq_true rfl) dX6_does_104 ⟨Nat.zero_le _, Nat.zero_le _⟩ (fun H locs hP hD hS => ?_)
        refine lv_istore_n (lv' := [(3, .int q_19.1), (2, .int r_14), (0, .ref (h 0)), (1, .int pl)]) hx hb dX6_does_107 rfl hl (by decide) rfl (fun ls hl => ?_)
        refine lv_iconst (v := 0) hx hb dX6_does_108 (by decide) ?_
        subst hR
        exact mu_iret hx hb hr hk hA hS hP rfl dX6_does_109
      · rw [if_neg c_12] at hR
        refine lv_lookup (off := 105) (tgt := 110) hx hb dX6_does_5 (by decide) (by show Op.lookupswitch.offset [(104, 57), (109, 35), (119, 72)] 105 _ = _; rw [lv_osw (a := 104) c_2 rfl]; rw [lv_osw (a := 109) c_6 rfl]; rw [lv_osw (a := 119) c_12 rfl]; rfl) (by decide) ?_
        refine lv_aload_n hx hb dX6_does_110 rfl (lv_at hl 0 rfl) ?_
        refine lv_iload_n hx hb dX6_does_111 rfl (lv_at hl 1 rfl) ?_
        obtain ⟨q_20, eq_20⟩ : ∃ z, z = (mX6_doesComplaint x pl) := ⟨_, rfl⟩
        have hM := MX6_doesComplaint l D q h x pl hC8 hL (rg_t (i := pl) (x := (pl).toInt) rfl (by omega))
        rw [← eq_20] at hM
        replace hR := lt_e hR eq_20
        refine mu_V (D := D) (ws := (wM q h x)) (ws' := (wM q h q_20.2)) (rest := []) (As := [.int pl]) hx hb hml hown hts hl hM gX6_does_X6_doesComplaint rfl kX6_doesComplaint ⟨Nat.le_of_ble_eq_true rfl, Nat.le_of_ble_eq_true rfl⟩ rfl rfl hP hD hS hG [0, 1, 2, 3, 4] rfl rfl (by decide) [5, 6, 7, 8, 9] rfl (by decide) rfl (ci := 4) rfl rfl rfl rfl (Nat.le_of_ble_eq_true rfl) dX6_does_112 ⟨Nat.zero_le _, Nat.zero_le _⟩ (fun H locs hP hD hS => ?_)
        subst hR
        exact mu_iret hx hb hr hk hA hS hP rfl dX6_does_115
def doR (x : Nat → Nat → Int32) (s a b c d e : Int32) (z : Int32 × (Nat → Nat → Int32)) : Int32 × (Nat → Nat → Int32) := if s = 104 then ((mX6_houseComes x 148 a).1, (mX6_houseComes x 148 a).2) else if s = 109 then ((mX6_millComes x 148 b c).1, (mX6_millComes x 148 b c).2) else if s = 119 then (0, (mX6_blows x 148 d d e).2) else (z.1, z.2)
theorem do_eq (x : Nat → Nat → Int32) (p : Int32) : mX6_does x p = doR x (mX6_sign x p) (mX6_yardIn x (p + 2)) (mX6_digit x (p + 1)) (mX6_yardIn x (p + 3)) (mX6_hourIn x (p + 1)) (mX6_digit x (mX6_hourEnd x (p + 1) + 1)) (mX6_doesComplaint x p) := by
  unfold mX6_does doR
  generalize mX6_doesComplaint x p = z
  generalize mX6_hourEnd x (p + 1) = he
  generalize mX6_hourIn x (p + 1) = hi
  generalize mX6_yardIn x (p + 2) = y2
  generalize mX6_yardIn x (p + 3) = y3
  generalize mX6_digit x (p + 1) = d1
  generalize mX6_sign x p = s
  unfold lt
  dsimp only
theorem do_all {x : Nat → Nat → Int32} {P : (Nat → Nat → Int32) → Prop} (s a b c d e : Int32) (z : Int32 × (Nat → Nat → Int32)) (h1 : P (mX6_houseComes x 148 a).2) (h2 : P (mX6_millComes x 148 b c).2) (h3 : P (mX6_blows x 148 d d e).2) (h4 : P z.2) : P (doR x s a b c d e z).2 := by
  unfold doR
  by_cases c1 : s = 104
  · rw [if_pos c1]; exact h1
  · rw [if_neg c1]
    by_cases c2 : s = 109
    · rw [if_pos c2]; exact h2
    · rw [if_neg c2]
      by_cases c3 : s = 119
      · rw [if_pos c3]; exact h3
      · rw [if_neg c3]; exact h4
theorem k4_does (x : Nat → Nat → Int32) (p : Int32) : (mX6_does x p).2 4 = x 4 := by
  rw [do_eq]
  exact do_all (P := fun z => z 4 = x 4) _ _ _ _ _ _ _ (k4_houseComes _ _ _) (k4_millComes _ _ _ _) (k4_blows _ _ _ _ _) (k4_doesComplaint _ _)
theorem k3_does (x : Nat → Nat → Int32) (p : Int32) : (mX6_does x p).2 3 = x 3 := by
  rw [do_eq]
  exact do_all (P := fun z => z 3 = x 3) _ _ _ _ _ _ _ (k3_houseComes _ _ _) (k3_millComes _ _ _ _) (by rw [blows_1]; exact setA_ne _ _ (by omega)) (k3_doesComplaint _ _)
theorem cnt_does {x : Nat → Nat → Int32} (h : cntP x 148) {p : Int32} (hp : 0 ≤ p.toInt ∧ p.toInt < 800) : cntP (mX6_does x p).2 148 := by
  have h1 := b_up (p := p) 1 (n := 1) rfl (by omega) (by omega)
  have h2 := b_hourIn x (p + 1) (by omega)
  have h5 := cnt_doesComplaint h p
  rw [do_eq]
  generalize mX6_hourIn x (p + 1) = r at h2 ⊢
  exact do_all (P := fun z => cntP z 148) _ _ _ _ _ _ _ (cnt_houseComes h _) (cnt_millComes h _ _) (by rw [blows_1]; exact cnt_set h (ti_add (show ((148 : Int32) + 34).toInt = 182 from rfl) (b := r) rfl (by omega)) (by omega)) h5
