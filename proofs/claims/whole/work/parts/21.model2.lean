def mX6_isTied (x : Nat → Nat → Int32) (pp mill hour : Int32) : Int32 := (if ((((x 0) ((((pp + 1) + (3 * mill)) + 2)).toNatClampNeg) >>> (hour &&& 31)) &&& 1) = 1 then 1 else 0)
theorem kX6_isTied : yX6_isTied.cls = RX6 ∧ yX6_isTied.cls ≠ "java/lang/invoke/MethodHandle" ∧ yX6_isTied.cls ≠ "java/lang/invoke/VarHandle" ∧ (parseMethodDescriptor yX6_isTied.desc).map (fun d => d.parameters.length) = some 3 := by decide +kernel
theorem iX6_isTied_X6 : ∀ w ∈ wsX60, w ∈ wsX6_isTied := fun w h => (List.mem_cons_of_mem _ (List.mem_append_right _ h))
set_option maxHeartbeats 4000000 in
set_option maxRecDepth 100000 in
theorem MX6_isTied (l : Launch) (D : va_G) (q : Nat → ClassId) (h : Nat → Nat) (x : Nat → Nat → Int32) (pp mill hour : Int32) (hpp : 0 ≤ pp.toInt ∧ pp.toInt < 149) (hmill : 0 ≤ mill.toInt ∧ mill.toInt < 4) : roM l D (tyq q) yX6_isTied wsX6_isTied ({ frames := 1, cells := 0, slots := 0, locals := 22 } : Room) [.ref (h 0), .int pp, .int mill, .int hour] (wM q h x) (some (.int (mX6_isTied x pp mill hour))) := by
  obtain ⟨R, hR⟩ : ∃ z, (mX6_isTied x pp mill hour) = z := ⟨_, rfl⟩
  rw [hR]
  unfold mX6_isTied at hR
  refine roM.of (cc := cX6_isTied) (maxL := 4) (ret := (some .boolean)) (by decide) rfl (Nat.le_of_ble_eq_true rfl) ?_
  intro p e s m below meth c ls hx hb hr hk hml hown hts hP hD hG hl
  have hl : lv_has ls 4 [(0, .ref (h 0)), (1, .int pp), (2, .int mill), (3, .int hour)] := hl
  refine lv_aload_n hx hb dX6_isTied_0 rfl (lv_at hl 0 rfl) ?_
  refine va_get (D := D) (ci := 4) (v := .ref (h 1)) (C := RX6) (T := TX6) (N := 7) hx hb hts iX6_isTied_X6 hown hG.1 hP 0 rfl rfl 0 (by decide) (hts (.fieldLink RX6 7 "MillComplaintsModel" "s" "[I") (List.mem_of_getElem? (i := 1) rfl)) (fun _ h9 => h9) rfl dX6_isTied_1 ?_
  refine lv_iload_n hx hb dX6_isTied_4 rfl (lv_at hl 1 rfl) ?_
  refine lv_iload_n hx hb dX6_isTied_5 rfl (lv_at hl 2 rfl) ?_
  refine lv_iconst (v := 2) hx hb dX6_isTied_6 (by decide) ?_
  refine ro_S (v := .int (((pp + 1) + (3 * mill)) + 2)) (rest := [.ref (h 1)]) (As := [.int pp, .int mill, .int 2]) hx hb hml hown hts hl (MX6_ofMill l D q pp mill 2) gX6_isTied_X6_ofMill rfl kX6_ofMill ⟨Nat.le_of_ble_eq_true rfl, Nat.le_of_ble_eq_true rfl⟩ rfl rfl (hP.sub (ws' := []) [] rfl) (dT (hD.sub (ws' := []) [] (by decide) rfl)) hG rfl rfl (Nat.le_of_ble_eq_true rfl) dX6_isTied_7 ⟨Nat.zero_le _, Nat.zero_le _⟩ ?_
  refine va_iald hx hb hG.1 hP 1 0 rfl rfl (ix_t (i := (((pp + 1) + (3 * mill)) + 2)) (x := ((((pp).toInt + 1) + (3 * (mill).toInt)) + 2)) (n := 296) (ti_add (ti_add (ti_add rfl (show (1 : Int32).toInt = 1 from rfl) (by omega)) (ti_mul (show (3 : Int32).toInt = 3 from rfl) rfl (by omega)) (by omega)) (show (2 : Int32).toInt = 2 from rfl) (by omega)) (by omega)) dX6_isTied_10 ?_
  refine lv_iload_n hx hb dX6_isTied_11 rfl (lv_at hl 3 rfl) ?_
  refine lv_ishr hx hb dX6_isTied_12 ?_
  refine lv_iconst (v := 1) hx hb dX6_isTied_13 (by decide) ?_
  refine lv_iand hx hb dX6_isTied_14 ?_
  refine lv_iconst (v := 1) hx hb dX6_isTied_15 (by decide) ?_
  refine lv_icmp_ne (tgt := 23) hx hb dX6_isTied_16 (by decide) (fun c_1 => ?_) (fun c_1 => ?_)
  · rw [if_neg c_1] at hR
    have tc_1 : ¬ ((((x 0) ((((pp + 1) + (3 * mill)) + 2)).toNatClampNeg) >>> (hour &&& 31)) &&& 1).toInt = 1 := fun z => c_1 (i_eq.mpr z)
    refine lv_iconst (v := 0) hx hb dX6_isTied_23 (by decide) ?_
    exact ro_zret hx hb hr hk (Or.inl rfl) hR dX6_isTied_24
  · rw [if_pos c_1] at hR
    have tc_1 : ((((x 0) ((((pp + 1) + (3 * mill)) + 2)).toNatClampNeg) >>> (hour &&& 31)) &&& 1).toInt = 1 := i_eq.mp c_1
    refine lv_iconst (v := 1) hx hb dX6_isTied_19 (by decide) ?_
    refine lv_goto (tgt := 24) hx hb dX6_isTied_20 (by decide) ?_
    exact ro_zret hx hb hr hk (Or.inr rfl) hR dX6_isTied_24

def mX6_turns (x : Nat → Nat → Int32) (pp mill hour : Int32) : Int32 := (if (mX6_isTied x pp mill hour) = 0 then (if ((x 0) (((pp + 34) + hour)).toNatClampNeg) < 2 then 0 else 1) else 0)
theorem kX6_turns : yX6_turns.cls = RX6 ∧ yX6_turns.cls ≠ "java/lang/invoke/MethodHandle" ∧ yX6_turns.cls ≠ "java/lang/invoke/VarHandle" ∧ (parseMethodDescriptor yX6_turns.desc).map (fun d => d.parameters.length) = some 3 := by decide +kernel
theorem iX6_turns_X6 : ∀ w ∈ wsX60, w ∈ wsX6_turns := fun w h => (List.mem_cons_of_mem _ (List.mem_append_right _ h))
set_option maxHeartbeats 4000000 in
set_option maxRecDepth 100000 in
theorem MX6_turns (l : Launch) (D : va_G) (q : Nat → ClassId) (h : Nat → Nat) (x : Nat → Nat → Int32) (pp mill hour : Int32) (hpp : 0 ≤ pp.toInt ∧ pp.toInt < 149) (hmill : 0 ≤ mill.toInt ∧ mill.toInt < 4) (hhour : 0 ≤ hour.toInt ∧ hour.toInt < 24) : roM l D (tyq q) yX6_turns wsX6_turns ({ frames := 2, cells := 0, slots := 0, locals := 45 } : Room) [.ref (h 0), .int pp, .int mill, .int hour] (wM q h x) (some (.int (mX6_turns x pp mill hour))) := by
  obtain ⟨R, hR⟩ : ∃ z, (mX6_turns x pp mill hour) = z := ⟨_, rfl⟩
  rw [hR]
  unfold mX6_turns at hR
  refine roM.of (cc := cX6_turns) (maxL := 4) (ret := (some .boolean)) (by decide) rfl (Nat.le_of_ble_eq_true rfl) ?_
  intro p e s m below meth c ls hx hb hr hk hml hown hts hP hD hG hl
  have hl : lv_has ls 4 [(0, .ref (h 0)), (1, .int pp), (2, .int mill), (3, .int hour)] := hl
  refine lv_aload_n hx hb dX6_turns_0 rfl (lv_at hl 0 rfl) ?_
  refine lv_iload_n hx hb dX6_turns_1 rfl (lv_at hl 1 rfl) ?_
  refine lv_iload_n hx hb dX6_turns_2 rfl (lv_at hl 2 rfl) ?_
  refine lv_iload_n hx hb dX6_turns_3 rfl (lv_at hl 3 rfl) ?_
  refine ro_V (v := .int (mX6_isTied x pp mill hour)) (rest := []) (As := [.int pp, .int mill, .int hour]) hx hb hml hown hts hl (MX6_isTied l D q h x pp mill hour (rg_t (i := pp) (x := (pp).toInt) rfl (by omega)) (rg_t (i := mill) (x := (mill).toInt) rfl (by omega))) gX6_turns_X6_isTied rfl kX6_isTied ⟨Nat.le_of_ble_eq_true rfl, Nat.le_of_ble_eq_true rfl⟩ rfl rfl hP (dT hD) hG (ci := 4) rfl rfl rfl rfl (Nat.le_of_ble_eq_true rfl) dX6_turns_4 ⟨Nat.zero_le _, Nat.zero_le _⟩ ?_
  refine lv_if_ne (tgt := 29) hx hb dX6_turns_7 (by decide) (fun c_1 => ?_) (fun c_1 => ?_)
  · rw [if_neg c_1] at hR
    have tc_1 : ¬ (mX6_isTied x pp mill hour).toInt = 0 := fun z => c_1 (i_eq.mpr z)
    refine lv_iconst (v := 0) hx hb dX6_turns_29 (by decide) ?_
    exact ro_zret hx hb hr hk (Or.inl rfl) hR dX6_turns_30
  · rw [if_pos c_1] at hR
    have tc_1 : (mX6_isTied x pp mill hour).toInt = 0 := i_eq.mp c_1
    refine lv_aload_n hx hb dX6_turns_10 rfl (lv_at hl 0 rfl) ?_
    refine va_get (D := D) (ci := 4) (v := .ref (h 1)) (C := RX6) (T := TX6) (N := 7) hx hb hts iX6_turns_X6 hown hG.1 hP 0 rfl rfl 0 (by decide) (hts (.fieldLink RX6 7 "MillComplaintsModel" "s" "[I") (List.mem_of_getElem? (i := 1) rfl)) (fun _ h9 => h9) rfl dX6_turns_11 ?_
    refine lv_iload_n hx hb dX6_turns_14 rfl (lv_at hl 1 rfl) ?_
    refine lv_bipush (v := 34) hx hb dX6_turns_15 (by decide) ?_
    refine lv_iadd hx hb dX6_turns_17 ?_
    refine lv_iload_n hx hb dX6_turns_18 rfl (lv_at hl 3 rfl) ?_
    refine lv_iadd hx hb dX6_turns_19 ?_
    refine va_iald hx hb hG.1 hP 1 0 rfl rfl (ix_t (i := ((pp + 34) + hour)) (x := (((pp).toInt + 34) + (hour).toInt)) (n := 296) (ti_add (ti_add rfl (show (34 : Int32).toInt = 34 from rfl) (by omega)) rfl (by omega)) (by omega)) dX6_turns_20 ?_
    refine lv_iconst (v := 2) hx hb dX6_turns_21 (by decide) ?_
    refine lv_icmp_lt (tgt := 29) hx hb dX6_turns_22 (by decide) (fun c_2 => ?_) (fun c_2 => ?_)
    · rw [if_pos c_2] at hR
      have tc_2 : ((x 0) (((pp + 34) + hour)).toNatClampNeg).toInt < 2 := i_lt.mp c_2
      refine lv_iconst (v := 0) hx hb dX6_turns_29 (by decide) ?_
      exact ro_zret hx hb hr hk (Or.inl rfl) hR dX6_turns_30
    · rw [if_neg c_2] at hR
      have tc_2 : ¬ ((x 0) (((pp + 34) + hour)).toNatClampNeg).toInt < 2 := fun z => c_2 (i_lt.mpr z)
      refine lv_iconst (v := 1) hx hb dX6_turns_25 (by decide) ?_
      refine lv_goto (tgt := 30) hx hb dX6_turns_26 (by decide) ?_
      exact ro_zret hx hb hr hk (Or.inr rfl) hR dX6_turns_30

def mX6_loud (x : Nat → Nat → Int32) (pp mill yard hour : Int32) : Int32 := (if 0 ≤ ((2 * ((x 0) (((pp + 34) + hour)).toNatClampNeg)) - (mX6_apart ((x 0) ((((pp + 1) + (3 * mill)) + 1)).toNatClampNeg) yard)) then ((2 * ((x 0) (((pp + 34) + hour)).toNatClampNeg)) - (mX6_apart ((x 0) ((((pp + 1) + (3 * mill)) + 1)).toNatClampNeg) yard)) else 0)
theorem kX6_loud : yX6_loud.cls = RX6 ∧ yX6_loud.cls ≠ "java/lang/invoke/MethodHandle" ∧ yX6_loud.cls ≠ "java/lang/invoke/VarHandle" ∧ (parseMethodDescriptor yX6_loud.desc).map (fun d => d.parameters.length) = some 4 := by decide +kernel
theorem iX6_loud_X6 : ∀ w ∈ wsX60, w ∈ wsX6_loud := fun w h => (List.mem_cons_of_mem _ (List.mem_append_right _ h))
set_option maxHeartbeats 4000000 in
set_option maxRecDepth 100000 in
theorem MX6_loud (l : Launch) (D : va_G) (q : Nat → ClassId) (h : Nat → Nat) (x : Nat → Nat → Int32) (pp mill yard hour : Int32) (hpp : 0 ≤ pp.toInt ∧ pp.toInt < 149) (hmill : 0 ≤ mill.toInt ∧ mill.toInt < 4) (hhour : 0 ≤ hour.toInt ∧ hour.toInt < 24) : roM l D (tyq q) yX6_loud wsX6_loud ({ frames := 1, cells := 0, slots := 0, locals := 25 } : Room) [.ref (h 0), .int pp, .int mill, .int yard, .int hour] (wM q h x) (some (.int (mX6_loud x pp mill yard hour))) := by
  obtain ⟨R, hR⟩ : ∃ z, (mX6_loud x pp mill yard hour) = z := ⟨_, rfl⟩
  rw [hR]
  unfold mX6_loud at hR
  refine roM.of (cc := cX6_loud) (maxL := 6) (ret := (some .int)) (by decide) rfl (Nat.le_of_ble_eq_true rfl) ?_
  intro p e s m below meth c ls hx hb hr hk hml hown hts hP hD hG hl
  have hl : lv_has ls 6 [(0, .ref (h 0)), (1, .int pp), (2, .int mill), (3, .int yard), (4, .int hour)] := hl
  refine lv_iconst (v := 2) hx hb dX6_loud_0 (by decide) ?_
  refine lv_aload_n hx hb dX6_loud_1 rfl (lv_at hl 0 rfl) ?_
  refine va_get (D := D) (ci := 4) (v := .ref (h 1)) (C := RX6) (T := TX6) (N := 7) hx hb hts iX6_loud_X6 hown hG.1 hP 0 rfl rfl 0 (by decide) (hts (.fieldLink RX6 7 "MillComplaintsModel" "s" "[I") (List.mem_of_getElem? (i := 1) rfl)) (fun _ h9 => h9) rfl dX6_loud_2 ?_
  refine lv_iload_n hx hb dX6_loud_5 rfl (lv_at hl 1 rfl) ?_
  refine lv_bipush (v := 34) hx hb dX6_loud_6 (by decide) ?_
  refine lv_iadd hx hb dX6_loud_8 ?_
  refine lv_iload hx hb dX6_loud_9 (lv_at hl 4 rfl) ?_
  refine lv_iadd hx hb dX6_loud_11 ?_
  refine va_iald hx hb hG.1 hP 1 0 rfl rfl (ix_t (i := ((pp + 34) + hour)) (x := (((pp).toInt + 34) + (hour).toInt)) (n := 296) (ti_add (ti_add rfl (show (34 : Int32).toInt = 34 from rfl) (by omega)) rfl (by omega)) (by omega)) dX6_loud_12 ?_
  refine lv_imul hx hb dX6_loud_13 ?_
  refine lv_aload_n hx hb dX6_loud_14 rfl (lv_at hl 0 rfl) ?_
  refine va_get (D := D) (ci := 4) (v := .ref (h 1)) (C := RX6) (T := TX6) (N := 7) hx hb hts iX6_loud_X6 hown hG.1 hP 0 rfl rfl 0 (by decide) (hts (.fieldLink RX6 7 "MillComplaintsModel" "s" "[I") (List.mem_of_getElem? (i := 1) rfl)) (fun _ h9 => h9) rfl dX6_loud_15 ?_
  refine lv_iload_n hx hb dX6_loud_18 rfl (lv_at hl 1 rfl) ?_
  refine lv_iload_n hx hb dX6_loud_19 rfl (lv_at hl 2 rfl) ?_
  refine lv_iconst (v := 1) hx hb dX6_loud_20 (by decide) ?_
  refine ro_S (v := .int (((pp + 1) + (3 * mill)) + 1)) (rest := [.ref (h 1), .int (2 * ((x 0) (((pp + 34) + hour)).toNatClampNeg))]) (As := [.int pp, .int mill, .int 1]) hx hb hml hown hts hl (MX6_ofMill l D q pp mill 1) gX6_loud_X6_ofMill rfl kX6_ofMill ⟨Nat.le_of_ble_eq_true rfl, Nat.le_of_ble_eq_true rfl⟩ rfl rfl (hP.sub (ws' := []) [] rfl) (dT (hD.sub (ws' := []) [] (by decide) rfl)) hG rfl rfl (Nat.le_of_ble_eq_true rfl) dX6_loud_21 ⟨Nat.zero_le _, Nat.zero_le _⟩ ?_
  refine va_iald hx hb hG.1 hP 1 0 rfl rfl (ix_t (i := (((pp + 1) + (3 * mill)) + 1)) (x := ((((pp).toInt + 1) + (3 * (mill).toInt)) + 1)) (n := 296) (ti_add (ti_add (ti_add rfl (show (1 : Int32).toInt = 1 from rfl) (by omega)) (ti_mul (show (3 : Int32).toInt = 3 from rfl) rfl (by omega)) (by omega)) (show (1 : Int32).toInt = 1 from rfl) (by omega)) (by omega)) dX6_loud_24 ?_
  refine lv_iload_n hx hb dX6_loud_25 rfl (lv_at hl 3 rfl) ?_
  refine ro_S (v := .int (mX6_apart ((x 0) ((((pp + 1) + (3 * mill)) + 1)).toNatClampNeg) yard)) (rest := [.int (2 * ((x 0) (((pp + 34) + hour)).toNatClampNeg))]) (As := [.int ((x 0) ((((pp + 1) + (3 * mill)) + 1)).toNatClampNeg), .int yard]) hx hb hml hown hts hl (MX6_apart l D q ((x 0) ((((pp + 1) + (3 * mill)) + 1)).toNatClampNeg) yard) gX6_loud_X6_apart rfl kX6_apart ⟨Nat.le_of_ble_eq_true rfl, Nat.le_of_ble_eq_true rfl⟩ rfl rfl (hP.sub (ws' := []) [] rfl) (dT (hD.sub (ws' := []) [] (by decide) rfl)) hG rfl rfl (Nat.le_of_ble_eq_true rfl) dX6_loud_26 ⟨Nat.zero_le _, Nat.zero_le _⟩ ?_
  refine lv_isub hx hb dX6_loud_29 ?_
  refine lv_istore (lv' := [(5, .int ((2 * ((x 0) (((pp + 34) + hour)).toNatClampNeg)) - (mX6_apart ((x 0) ((((pp + 1) + (3 * mill)) + 1)).toNatClampNeg) yard))), (0, .ref (h 0)), (1, .int pp), (2, .int mill), (3, .int yard), (4, .int hour)]) hx hb dX6_loud_30 hl (by decide) rfl (fun ls hl => ?_)
  refine lv_iload hx hb dX6_loud_32 (lv_at hl 0 rfl) ?_
  refine lv_if_ge (tgt := 41) hx hb dX6_loud_34 (by decide) (fun c_1 => ?_) (fun c_1 => ?_)
  · rw [if_pos c_1] at hR
    have tc_1 : 0 ≤ ((2 * ((x 0) (((pp + 34) + hour)).toNatClampNeg)) - (mX6_apart ((x 0) ((((pp + 1) + (3 * mill)) + 1)).toNatClampNeg) yard)).toInt := i_le.mp c_1
    refine lv_iload hx hb dX6_loud_41 (lv_at hl 0 rfl) ?_
    exact ro_iret hx hb hr hk hR dX6_loud_43
  · rw [if_neg c_1] at hR
    have tc_1 : ¬ 0 ≤ ((2 * ((x 0) (((pp + 34) + hour)).toNatClampNeg)) - (mX6_apart ((x 0) ((((pp + 1) + (3 * mill)) + 1)).toNatClampNeg) yard)).toInt := fun z => c_1 (i_le.mpr z)
    refine lv_iconst (v := 0) hx hb dX6_loud_37 (by decide) ?_
    refine lv_goto (tgt := 43) hx hb dX6_loud_38 (by decide) ?_
    exact ro_iret hx hb hr hk hR dX6_loud_43

def mX6_borne (x : Nat → Nat → Int32) (pp hour : Int32) : Int32 := (if 22 ≤ hour then ((x 0) (((pp + 58) + 1)).toNatClampNeg) else (if 5 < hour then ((x 0) ((pp + 58)).toNatClampNeg) else ((x 0) (((pp + 58) + 1)).toNatClampNeg)))
theorem kX6_borne : yX6_borne.cls = RX6 ∧ yX6_borne.cls ≠ "java/lang/invoke/MethodHandle" ∧ yX6_borne.cls ≠ "java/lang/invoke/VarHandle" ∧ (parseMethodDescriptor yX6_borne.desc).map (fun d => d.parameters.length) = some 2 := by decide +kernel
theorem iX6_borne_X6 : ∀ w ∈ wsX60, w ∈ wsX6_borne := fun w h => (List.mem_cons_of_mem _ (List.mem_append_right _ h))
set_option maxHeartbeats 4000000 in
set_option maxRecDepth 100000 in
theorem MX6_borne (l : Launch) (D : va_G) (q : Nat → ClassId) (h : Nat → Nat) (x : Nat → Nat → Int32) (pp hour : Int32) (hpp : 0 ≤ pp.toInt ∧ pp.toInt < 149) : roM l D (tyq q) yX6_borne wsX6_borne ({ frames := 0, cells := 0, slots := 0, locals := 0 } : Room) [.ref (h 0), .int pp, .int hour] (wM q h x) (some (.int (mX6_borne x pp hour))) := by
  obtain ⟨R, hR⟩ : ∃ z, (mX6_borne x pp hour) = z := ⟨_, rfl⟩
  rw [hR]
  unfold mX6_borne at hR
  refine roM.of (cc := cX6_borne) (maxL := 3) (ret := (some .int)) (by decide) rfl (Nat.le_of_ble_eq_true rfl) ?_
  intro p e s m below meth c ls hx hb hr hk hml hown hts hP hD hG hl
  have hl : lv_has ls 3 [(0, .ref (h 0)), (1, .int pp), (2, .int hour)] := hl
  refine lv_iload_n hx hb dX6_borne_0 rfl (lv_at hl 2 rfl) ?_
  refine lv_bipush (v := 22) hx hb dX6_borne_1 (by decide) ?_
  refine lv_icmp_ge (tgt := 11) hx hb dX6_borne_3 (by decide) (fun c_1 => ?_) (fun c_1 => ?_)
  · rw [if_pos c_1] at hR
    have tc_1 : 22 ≤ hour.toInt := i_le.mp c_1
    refine lv_aload_n hx hb dX6_borne_11 rfl (lv_at hl 0 rfl) ?_
    refine va_get (D := D) (ci := 4) (v := .ref (h 1)) (C := RX6) (T := TX6) (N := 7) hx hb hts iX6_borne_X6 hown hG.1 hP 0 rfl rfl 0 (by decide) (hts (.fieldLink RX6 7 "MillComplaintsModel" "s" "[I") (List.mem_of_getElem? (i := 1) rfl)) (fun _ h9 => h9) rfl dX6_borne_12 ?_
    refine lv_iload_n hx hb dX6_borne_15 rfl (lv_at hl 1 rfl) ?_
    refine lv_bipush (v := 58) hx hb dX6_borne_16 (by decide) ?_
    refine lv_iadd hx hb dX6_borne_18 ?_
    refine lv_iconst (v := 1) hx hb dX6_borne_19 (by decide) ?_
    refine lv_iadd hx hb dX6_borne_20 ?_
    refine va_iald hx hb hG.1 hP 1 0 rfl rfl (ix_t (i := ((pp + 58) + 1)) (x := (((pp).toInt + 58) + 1)) (n := 296) (ti_add (ti_add rfl (show (58 : Int32).toInt = 58 from rfl) (by omega)) (show (1 : Int32).toInt = 1 from rfl) (by omega)) (by omega)) dX6_borne_21 ?_
    refine lv_goto (tgt := 34) hx hb dX6_borne_22 (by decide) ?_
    exact ro_iret hx hb hr hk hR dX6_borne_34
  · rw [if_neg c_1] at hR
    have tc_1 : ¬ 22 ≤ hour.toInt := fun z => c_1 (i_le.mpr z)
    refine lv_iload_n hx hb dX6_borne_6 rfl (lv_at hl 2 rfl) ?_
    refine lv_iconst (v := 5) hx hb dX6_borne_7 (by decide) ?_
    refine lv_icmp_gt (tgt := 25) hx hb dX6_borne_8 (by decide) (fun c_2 => ?_) (fun c_2 => ?_)
    · rw [if_pos c_2] at hR
      have tc_2 : 5 < hour.toInt := i_lt.mp c_2
      refine lv_aload_n hx hb dX6_borne_25 rfl (lv_at hl 0 rfl) ?_
      refine va_get (D := D) (ci := 4) (v := .ref (h 1)) (C := RX6) (T := TX6) (N := 7) hx hb hts iX6_borne_X6 hown hG.1 hP 0 rfl rfl 0 (by decide) (hts (.fieldLink RX6 7 "MillComplaintsModel" "s" "[I") (List.mem_of_getElem? (i := 1) rfl)) (fun _ h9 => h9) rfl dX6_borne_26 ?_
      refine lv_iload_n hx hb dX6_borne_29 rfl (lv_at hl 1 rfl) ?_
      refine lv_bipush (v := 58) hx hb dX6_borne_30 (by decide) ?_
      refine lv_iadd hx hb dX6_borne_32 ?_
      refine va_iald hx hb hG.1 hP 1 0 rfl rfl (ix_t (i := (pp + 58)) (x := ((pp).toInt + 58)) (n := 296) (ti_add rfl (show (58 : Int32).toInt = 58 from rfl) (by omega)) (by omega)) dX6_borne_33 ?_
      exact ro_iret hx hb hr hk hR dX6_borne_34
    · rw [if_neg c_2] at hR
      have tc_2 : ¬ 5 < hour.toInt := fun z => c_2 (i_lt.mpr z)
      refine lv_aload_n hx hb dX6_borne_11 rfl (lv_at hl 0 rfl) ?_
      refine va_get (D := D) (ci := 4) (v := .ref (h 1)) (C := RX6) (T := TX6) (N := 7) hx hb hts iX6_borne_X6 hown hG.1 hP 0 rfl rfl 0 (by decide) (hts (.fieldLink RX6 7 "MillComplaintsModel" "s" "[I") (List.mem_of_getElem? (i := 1) rfl)) (fun _ h9 => h9) rfl dX6_borne_12 ?_
      refine lv_iload_n hx hb dX6_borne_15 rfl (lv_at hl 1 rfl) ?_
      refine lv_bipush (v := 58) hx hb dX6_borne_16 (by decide) ?_
      refine lv_iadd hx hb dX6_borne_18 ?_
      refine lv_iconst (v := 1) hx hb dX6_borne_19 (by decide) ?_
      refine lv_iadd hx hb dX6_borne_20 ?_
      refine va_iald hx hb hG.1 hP 1 0 rfl rfl (ix_t (i := ((pp + 58) + 1)) (x := (((pp).toInt + 58) + 1)) (n := 296) (ti_add (ti_add rfl (show (58 : Int32).toInt = 58 from rfl) (by omega)) (show (1 : Int32).toInt = 1 from rfl) (by omega)) (by omega)) dX6_borne_21 ?_
      refine lv_goto (tgt := 34) hx hb dX6_borne_22 (by decide) ?_
      exact ro_iret hx hb hr hk hR dX6_borne_34

def mX6_reach (x : Nat → Nat → Int32) (pp mill hour : Int32) : Int32 := (if 12 ≤ hour then (if (mX6_isSun hour) = 0 then 0 else (((((x 0) ((((pp + 1) + (3 * mill)) + 0)).toNatClampNeg) * (hour - 12)) + 1) / 2)) else (if (mX6_isSun hour) = 0 then 0 else (((((x 0) ((((pp + 1) + (3 * mill)) + 0)).toNatClampNeg) * (12 - hour)) + 1) / 2)))
theorem kX6_reach : yX6_reach.cls = RX6 ∧ yX6_reach.cls ≠ "java/lang/invoke/MethodHandle" ∧ yX6_reach.cls ≠ "java/lang/invoke/VarHandle" ∧ (parseMethodDescriptor yX6_reach.desc).map (fun d => d.parameters.length) = some 3 := by decide +kernel
theorem iX6_reach_X6 : ∀ w ∈ wsX60, w ∈ wsX6_reach := fun w h => (List.mem_cons_of_mem _ (List.mem_append_right _ h))
set_option maxHeartbeats 4000000 in
set_option maxRecDepth 100000 in
theorem MX6_reach (l : Launch) (D : va_G) (q : Nat → ClassId) (h : Nat → Nat) (x : Nat → Nat → Int32) (pp mill hour : Int32) (hpp : 0 ≤ pp.toInt ∧ pp.toInt < 149) (hmill : 0 ≤ mill.toInt ∧ mill.toInt < 4) : roM l D (tyq q) yX6_reach wsX6_reach ({ frames := 2, cells := 0, slots := 0, locals := 42 } : Room) [.ref (h 0), .int pp, .int mill, .int hour] (wM q h x) (some (.int (mX6_reach x pp mill hour))) := by
  obtain ⟨R, hR⟩ : ∃ z, (mX6_reach x pp mill hour) = z := ⟨_, rfl⟩
  rw [hR]
  unfold mX6_reach at hR
  refine roM.of (cc := cX6_reach) (maxL := 5) (ret := (some .int)) (by decide) rfl (Nat.le_of_ble_eq_true rfl) ?_
  intro p e s m below meth c ls hx hb hr hk hml hown hts hP hD hG hl
  have hl : lv_has ls 5 [(0, .ref (h 0)), (1, .int pp), (2, .int mill), (3, .int hour)] := hl
  refine lv_iload_n hx hb dX6_reach_0 rfl (lv_at hl 3 rfl) ?_
  refine lv_bipush (v := 12) hx hb dX6_reach_1 (by decide) ?_
  refine lv_icmp_ge (tgt := 13) hx hb dX6_reach_3 (by decide) (fun c_1 => ?_) (fun c_1 => ?_)
  · rw [if_pos c_1] at hR
    have tc_1 : 12 ≤ hour.toInt := i_le.mp c_1
    refine lv_iload_n hx hb dX6_reach_13 rfl (lv_at hl 3 rfl) ?_
    refine lv_bipush (v := 12) hx hb dX6_reach_14 (by decide) ?_
    refine lv_isub hx hb dX6_reach_16 ?_
    refine lv_istore (lv' := [(4, .int (hour - 12)), (0, .ref (h 0)), (1, .int pp), (2, .int mill), (3, .int hour)]) hx hb dX6_reach_17 hl (by decide) rfl (fun ls hl => ?_)
    refine lv_iload_n hx hb dX6_reach_19 rfl (lv_at hl 4 rfl) ?_
    refine ro_S (v := .int (mX6_isSun hour)) (rest := []) (As := [.int hour]) hx hb hml hown hts hl (MX6_isSun l D q hour) gX6_reach_X6_isSun rfl kX6_isSun ⟨Nat.le_of_ble_eq_true rfl, Nat.le_of_ble_eq_true rfl⟩ rfl rfl (hP.sub (ws' := []) [] rfl) (dT (hD.sub (ws' := []) [] (by decide) rfl)) hG rfl rfl (Nat.le_of_ble_eq_true rfl) dX6_reach_20 ⟨Nat.zero_le _, Nat.zero_le _⟩ ?_
    refine lv_if_eq (tgt := 47) hx hb dX6_reach_23 (by decide) (fun c_2 => ?_) (fun c_2 => ?_)
    · rw [if_pos c_2] at hR
      have tc_2 : (mX6_isSun hour).toInt = 0 := i_eq.mp c_2
      refine lv_iconst (v := 0) hx hb dX6_reach_47 (by decide) ?_
      exact ro_iret hx hb hr hk hR dX6_reach_48
    · rw [if_neg c_2] at hR
      have tc_2 : ¬ (mX6_isSun hour).toInt = 0 := fun z => c_2 (i_eq.mpr z)
      refine lv_aload_n hx hb dX6_reach_26 rfl (lv_at hl 1 rfl) ?_
      refine va_get (D := D) (ci := 4) (v := .ref (h 1)) (C := RX6) (T := TX6) (N := 7) hx hb hts iX6_reach_X6 hown hG.1 hP 0 rfl rfl 0 (by decide) (hts (.fieldLink RX6 7 "MillComplaintsModel" "s" "[I") (List.mem_of_getElem? (i := 1) rfl)) (fun _ h9 => h9) rfl dX6_reach_27 ?_
      refine lv_iload_n hx hb dX6_reach_30 rfl (lv_at hl 2 rfl) ?_
      refine lv_iload_n hx hb dX6_reach_31 rfl (lv_at hl 3 rfl) ?_
      refine lv_iconst (v := 0) hx hb dX6_reach_32 (by decide) ?_
      refine ro_S (v := .int (((pp + 1) + (3 * mill)) + 0)) (rest := [.ref (h 1)]) (As := [.int pp, .int mill, .int 0]) hx hb hml hown hts hl (MX6_ofMill l D q pp mill 0) gX6_reach_X6_ofMill rfl kX6_ofMill ⟨Nat.le_of_ble_eq_true rfl, Nat.le_of_ble_eq_true rfl⟩ rfl rfl (hP.sub (ws' := []) [] rfl) (dT (hD.sub (ws' := []) [] (by decide) rfl)) hG rfl rfl (Nat.le_of_ble_eq_true rfl) dX6_reach_33 ⟨Nat.zero_le _, Nat.zero_le _⟩ ?_
      refine va_iald hx hb hG.1 hP 1 0 rfl rfl (ix_t (i := (((pp + 1) + (3 * mill)) + 0)) (x := ((((pp).toInt + 1) + (3 * (mill).toInt)) + 0)) (n := 296) (ti_add (ti_add (ti_add rfl (show (1 : Int32).toInt = 1 from rfl) (by omega)) (ti_mul (show (3 : Int32).toInt = 3 from rfl) rfl (by omega)) (by omega)) (show (0 : Int32).toInt = 0 from rfl) (by omega)) (by omega)) dX6_reach_36 ?_
      refine lv_iload hx hb dX6_reach_37 (lv_at hl 0 rfl) ?_
      refine lv_imul hx hb dX6_reach_39 ?_
      refine lv_iconst (v := 1) hx hb dX6_reach_40 (by decide) ?_
      refine lv_iadd hx hb dX6_reach_41 ?_
      refine lv_iconst (v := 2) hx hb dX6_reach_42 (by decide) ?_
      refine lv_idiv hx hb dX6_reach_43 (by decide) ?_
      refine lv_goto (tgt := 48) hx hb dX6_reach_44 (by decide) ?_
      exact ro_iret hx hb hr hk hR dX6_reach_48
  · rw [if_neg c_1] at hR
    have tc_1 : ¬ 12 ≤ hour.toInt := fun z => c_1 (i_le.mpr z)
    refine lv_bipush (v := 12) hx hb dX6_reach_6 (by decide) ?_
    refine lv_iload_n hx hb dX6_reach_8 rfl (lv_at hl 3 rfl) ?_
    refine lv_isub hx hb dX6_reach_9 ?_
    refine lv_goto (tgt := 17) hx hb dX6_reach_10 (by decide) ?_
    refine lv_istore (lv' := [(4, .int (12 - hour)), (0, .ref (h 0)), (1, .int pp), (2, .int mill), (3, .int hour)]) hx hb dX6_reach_17 hl (by decide) rfl (fun ls hl => ?_)
    refine lv_iload_n hx hb dX6_reach_19 rfl (lv_at hl 4 rfl) ?_
    refine ro_S (v := .int (mX6_isSun hour)) (rest := []) (As := [.int hour]) hx hb hml hown hts hl (MX6_isSun l D q hour) gX6_reach_X6_isSun rfl kX6_isSun ⟨Nat.le_of_ble_eq_true rfl, Nat.le_of_ble_eq_true rfl⟩ rfl rfl (hP.sub (ws' := []) [] rfl) (dT (hD.sub (ws' := []) [] (by decide) rfl)) hG rfl rfl (Nat.le_of_ble_eq_true rfl) dX6_reach_20 ⟨Nat.zero_le _, Nat.zero_le _⟩ ?_
    refine lv_if_eq (tgt := 47) hx hb dX6_reach_23 (by decide) (fun c_3 => ?_) (fun c_3 => ?_)
    · rw [if_pos c_3] at hR
      have tc_3 : (mX6_isSun hour).toInt = 0 := i_eq.mp c_3
      refine lv_iconst (v := 0) hx hb dX6_reach_47 (by decide) ?_
      exact ro_iret hx hb hr hk hR dX6_reach_48
    · rw [if_neg c_3] at hR
      have tc_3 : ¬ (mX6_isSun hour).toInt = 0 := fun z => c_3 (i_eq.mpr z)
      refine lv_aload_n hx hb dX6_reach_26 rfl (lv_at hl 1 rfl) ?_
      refine va_get (D := D) (ci := 4) (v := .ref (h 1)) (C := RX6) (T := TX6) (N := 7) hx hb hts iX6_reach_X6 hown hG.1 hP 0 rfl rfl 0 (by decide) (hts (.fieldLink RX6 7 "MillComplaintsModel" "s" "[I") (List.mem_of_getElem? (i := 1) rfl)) (fun _ h9 => h9) rfl dX6_reach_27 ?_
      refine lv_iload_n hx hb dX6_reach_30 rfl (lv_at hl 2 rfl) ?_
      refine lv_iload_n hx hb dX6_reach_31 rfl (lv_at hl 3 rfl) ?_
      refine lv_iconst (v := 0) hx hb dX6_reach_32 (by decide) ?_
      refine ro_S (v := .int (((pp + 1) + (3 * mill)) + 0)) (rest := [.ref (h 1)]) (As := [.int pp, .int mill, .int 0]) hx hb hml hown hts hl (MX6_ofMill l D q pp mill 0) gX6_reach_X6_ofMill rfl kX6_ofMill ⟨Nat.le_of_ble_eq_true rfl, Nat.le_of_ble_eq_true rfl⟩ rfl rfl (hP.sub (ws' := []) [] rfl) (dT (hD.sub (ws' := []) [] (by decide) rfl)) hG rfl rfl (Nat.le_of_ble_eq_true rfl) dX6_reach_33 ⟨Nat.zero_le _, Nat.zero_le _⟩ ?_
      refine va_iald hx hb hG.1 hP 1 0 rfl rfl (ix_t (i := (((pp + 1) + (3 * mill)) + 0)) (x := ((((pp).toInt + 1) + (3 * (mill).toInt)) + 0)) (n := 296) (ti_add (ti_add (ti_add rfl (show (1 : Int32).toInt = 1 from rfl) (by omega)) (ti_mul (show (3 : Int32).toInt = 3 from rfl) rfl (by omega)) (by omega)) (show (0 : Int32).toInt = 0 from rfl) (by omega)) (by omega)) dX6_reach_36 ?_
      refine lv_iload hx hb dX6_reach_37 (lv_at hl 0 rfl) ?_
      refine lv_imul hx hb dX6_reach_39 ?_
      refine lv_iconst (v := 1) hx hb dX6_reach_40 (by decide) ?_
      refine lv_iadd hx hb dX6_reach_41 ?_
      refine lv_iconst (v := 2) hx hb dX6_reach_42 (by decide) ?_
      refine lv_idiv hx hb dX6_reach_43 (by decide) ?_
      refine lv_goto (tgt := 48) hx hb dX6_reach_44 (by decide) ?_
      exact ro_iret hx hb hr hk hR dX6_reach_48

def mX6_walks_33 (yard : Int32) (hour : Int32) (C : Int32 → Int32 → Int32 → Int32 → Int32) : Nat → Int32 → Int32 → Int32 → Int32 → Int32
  | 0, x9_33, x8_33, x7_33, x6_33 => C x9_33 x8_33 x7_33 x6_33
  | n_33 + 1, x9_33, x8_33, x7_33, x6_33 => (if x8_33 = 0 then (if (mX6_in (x6_33 + (mX6_toEast hour)) 0 11) = 0 then (mX6_walks_33 yard hour C n_33 (x9_33 + 1) 0 (x7_33 + (mX6_toSouth hour)) (x6_33 + (mX6_toEast hour))) else (if (mX6_in (x7_33 + (mX6_toSouth hour)) 0 7) = 0 then (mX6_walks_33 yard hour C n_33 (x9_33 + 1) 0 (x7_33 + (mX6_toSouth hour)) (x6_33 + (mX6_toEast hour))) else (if ((12 * (x7_33 + (mX6_toSouth hour))) + (x6_33 + (mX6_toEast hour))) = yard then (mX6_walks_33 yard hour C n_33 (x9_33 + 1) 1 (x7_33 + (mX6_toSouth hour)) (x6_33 + (mX6_toEast hour))) else (mX6_walks_33 yard hour C n_33 (x9_33 + 1) 0 (x7_33 + (mX6_toSouth hour)) (x6_33 + (mX6_toEast hour)))))) else (mX6_walks_33 yard hour C n_33 (x9_33 + 1) 1 (x7_33 + (mX6_toSouth hour)) (x6_33 + (mX6_toEast hour))))
def mX6_walks (x : Nat → Nat → Int32) (pp mill yard hour : Int32) : Int32 := (mX6_walks_33 yard hour (fun x9_33 x8_33 x7_33 x6_33 => x8_33) (tr 0 (mX6_reach x pp mill hour)) 0 0 (((x 0) ((((pp + 1) + (3 * mill)) + 1)).toNatClampNeg) / 12) (((x 0) ((((pp + 1) + (3 * mill)) + 1)).toNatClampNeg) - ((x 0) ((((pp + 1) + (3 * mill)) + 1)).toNatClampNeg) / 12 * 12))
theorem kX6_walks : yX6_walks.cls = RX6 ∧ yX6_walks.cls ≠ "java/lang/invoke/MethodHandle" ∧ yX6_walks.cls ≠ "java/lang/invoke/VarHandle" ∧ (parseMethodDescriptor yX6_walks.desc).map (fun d => d.parameters.length) = some 4 := by decide +kernel
theorem iX6_walks_X6 : ∀ w ∈ wsX60, w ∈ wsX6_walks := fun w h => (List.mem_cons_of_mem _ (List.mem_append_right _ h))
set_option maxHeartbeats 4000000 in
set_option maxRecDepth 100000 in
theorem MX6_walks (l : Launch) (D : va_G) (q : Nat → ClassId) (h : Nat → Nat) (x : Nat → Nat → Int32) (pp mill yard hour : Int32) (hpp : 0 ≤ pp.toInt ∧ pp.toInt < 149) (hmill : 0 ≤ mill.toInt ∧ mill.toInt < 4) : roM l D (tyq q) yX6_walks wsX6_walks ({ frames := 3, cells := 0, slots := 0, locals := 66 } : Room) [.ref (h 0), .int pp, .int mill, .int yard, .int hour] (wM q h x) (some (.int (mX6_walks x pp mill yard hour))) := by
  obtain ⟨R, hR⟩ : ∃ z, (mX6_walks x pp mill yard hour) = z := ⟨_, rfl⟩
  rw [hR]
  unfold mX6_walks at hR
  refine roM.of (cc := cX6_walks) (maxL := 10) (ret := (some .boolean)) (by decide) rfl (Nat.le_of_ble_eq_true rfl) ?_
  intro p e s m below meth c ls hx hb hr hk hml hown hts hP hD hG hl
  have hl : lv_has ls 10 [(0, .ref (h 0)), (1, .int pp), (2, .int mill), (3, .int yard), (4, .int hour)] := hl
  refine lv_aload_n hx hb dX6_walks_0 rfl (lv_at hl 0 rfl) ?_
  refine va_get (D := D) (ci := 4) (v := .ref (h 1)) (C := RX6) (T := TX6) (N := 7) hx hb hts iX6_walks_X6 hown hG.1 hP 0 rfl rfl 0 (by decide) (hts (.fieldLink RX6 7 "MillComplaintsModel" "s" "[I") (List.mem_of_getElem? (i := 1) rfl)) (fun _ h9 => h9) rfl dX6_walks_1 ?_
  refine lv_iload_n hx hb dX6_walks_4 rfl (lv_at hl 1 rfl) ?_
  refine lv_iload_n hx hb dX6_walks_5 rfl (lv_at hl 2 rfl) ?_
  refine lv_iconst (v := 1) hx hb dX6_walks_6 (by decide) ?_
  refine ro_S (v := .int (((pp + 1) + (3 * mill)) + 1)) (rest := [.ref (h 1)]) (As := [.int pp, .int mill, .int 1]) hx hb hml hown hts hl (MX6_ofMill l D q pp mill 1) gX6_walks_X6_ofMill rfl kX6_ofMill ⟨Nat.le_of_ble_eq_true rfl, Nat.le_of_ble_eq_true rfl⟩ rfl rfl (hP.sub (ws' := []) [] rfl) (dT (hD.sub (ws' := []) [] (by decide) rfl)) hG rfl rfl (Nat.le_of_ble_eq_true rfl) dX6_walks_7 ⟨Nat.zero_le _, Nat.zero_le _⟩ ?_
  refine va_iald hx hb hG.1 hP 1 0 rfl rfl (ix_t (i := (((pp + 1) + (3 * mill)) + 1)) (x := ((((pp).toInt + 1) + (3 * (mill).toInt)) + 1)) (n := 296) (ti_add (ti_add (ti_add rfl (show (1 : Int32).toInt = 1 from rfl) (by omega)) (ti_mul (show (3 : Int32).toInt = 3 from rfl) rfl (by omega)) (by omega)) (show (1 : Int32).toInt = 1 from rfl) (by omega)) (by omega)) dX6_walks_10 ?_
  refine lv_istore (lv' := [(5, .int ((x 0) ((((pp + 1) + (3 * mill)) + 1)).toNatClampNeg)), (0, .ref (h 0)), (1, .int pp), (2, .int mill), (3, .int yard), (4, .int hour)]) hx hb dX6_walks_11 hl (by decide) rfl (fun ls hl => ?_)
  refine lv_iload hx hb dX6_walks_13 (lv_at hl 0 rfl) ?_
  refine lv_bipush (v := 12) hx hb dX6_walks_15 (by decide) ?_
  refine lv_irem hx hb dX6_walks_17 (by decide) ?_
  refine lv_istore (lv' := [(6, .int (((x 0) ((((pp + 1) + (3 * mill)) + 1)).toNatClampNeg) - ((x 0) ((((pp + 1) + (3 * mill)) + 1)).toNatClampNeg) / 12 * 12)), (5, .int ((x 0) ((((pp + 1) + (3 * mill)) + 1)).toNatClampNeg)), (0, .ref (h 0)), (1, .int pp), (2, .int mill), (3, .int yard), (4, .int hour)]) hx hb dX6_walks_18 hl (by decide) rfl (fun ls hl => ?_)
  refine lv_iload hx hb dX6_walks_20 (lv_at hl 1 rfl) ?_
  refine lv_bipush (v := 12) hx hb dX6_walks_22 (by decide) ?_
  refine lv_idiv hx hb dX6_walks_24 (by decide) ?_
  refine lv_istore (lv' := [(7, .int (((x 0) ((((pp + 1) + (3 * mill)) + 1)).toNatClampNeg) / 12)), (6, .int (((x 0) ((((pp + 1) + (3 * mill)) + 1)).toNatClampNeg) - ((x 0) ((((pp + 1) + (3 * mill)) + 1)).toNatClampNeg) / 12 * 12)), (5, .int ((x 0) ((((pp + 1) + (3 * mill)) + 1)).toNatClampNeg)), (0, .ref (h 0)), (1, .int pp), (2, .int mill), (3, .int yard), (4, .int hour)]) hx hb dX6_walks_25 hl (by decide) rfl (fun ls hl => ?_)
  refine lv_iconst (v := 0) hx hb dX6_walks_27 (by decide) ?_
  refine lv_istore (lv' := [(8, .int 0), (7, .int (((x 0) ((((pp + 1) + (3 * mill)) + 1)).toNatClampNeg) / 12)), (6, .int (((x 0) ((((pp + 1) + (3 * mill)) + 1)).toNatClampNeg) - ((x 0) ((((pp + 1) + (3 * mill)) + 1)).toNatClampNeg) / 12 * 12)), (5, .int ((x 0) ((((pp + 1) + (3 * mill)) + 1)).toNatClampNeg)), (0, .ref (h 0)), (1, .int pp), (2, .int mill), (3, .int yard), (4, .int hour)]) hx hb dX6_walks_28 hl (by decide) rfl (fun ls hl => ?_)
  refine lv_iconst (v := 0) hx hb dX6_walks_30 (by decide) ?_
  refine lv_istore (lv' := [(9, .int 0), (8, .int 0), (7, .int (((x 0) ((((pp + 1) + (3 * mill)) + 1)).toNatClampNeg) / 12)), (6, .int (((x 0) ((((pp + 1) + (3 * mill)) + 1)).toNatClampNeg) - ((x 0) ((((pp + 1) + (3 * mill)) + 1)).toNatClampNeg) / 12 * 12)), (5, .int ((x 0) ((((pp + 1) + (3 * mill)) + 1)).toNatClampNeg)), (0, .ref (h 0)), (1, .int pp), (2, .int mill), (3, .int yard), (4, .int hour)]) hx hb dX6_walks_31 hl (by decide) rfl (fun ls hl => ?_)
  have key_33 : ∀ (n_33 : Nat) (x9_33 : Int32) (x8_33 : Int32) (x7_33 : Int32) (x6_33 : Int32), tr x9_33 (mX6_reach x pp mill hour) = n_33 → (x8_33 = 0 ∨ x8_33 = 1) → mX6_walks_33 yard hour (fun x9_33 x8_33 x7_33 x6_33 => x8_33) n_33 x9_33 x8_33 x7_33 x6_33 = R → ∀ ls : Array Slot, lv_has ls 10 [(9, .int x9_33), (8, .int x8_33), (7, .int x7_33), (6, .int x6_33), (5, .int ((x 0) ((((pp + 1) + (3 * mill)) + 1)).toNatClampNeg)), (0, .ref (h 0)), (1, .int pp), (2, .int mill), (3, .int yard), (4, .int hour)] → W p l e ({ frames := 3, cells := 0, slots := 0, locals := 66 } : Room) s m ([.ref (h 0), .int pp, .int mill, .int yard, .int hour] : List Value).toArray below meth c s.heap [] 0 0 (MQ below (roQ (some (.int R))) ([.ref (h 0), .int pp, .int mill, .int yard, .int hour] : List Value).toArray s 0 0 (fun _ => False)) (F0 m 33 ls []) := by
    intro n_33
    induction n_33 with
    | zero =>
      intro x9_33 x8_33 x7_33 x6_33 hn_33 hz_33 hR ls hl
      rw [mX6_walks_33] at hR
      refine lv_iload hx hb dX6_walks_33 (lv_at hl 0 rfl) ?_
      refine lv_aload_n hx hb dX6_walks_35 rfl (lv_at hl 5 rfl) ?_
      refine lv_iload_n hx hb dX6_walks_36 rfl (lv_at hl 6 rfl) ?_
      refine lv_iload_n hx hb dX6_walks_37 rfl (lv_at hl 7 rfl) ?_
      refine lv_iload hx hb dX6_walks_38 (lv_at hl 9 rfl) ?_
      refine ro_V (v := .int (mX6_reach x pp mill hour)) (rest := [.int x9_33]) (As := [.int pp, .int mill, .int hour]) hx hb hml hown hts hl (MX6_reach l D q h x pp mill hour (rg_t (i := pp) (x := (pp).toInt) rfl (by omega)) (rg_t (i := mill) (x := (mill).toInt) rfl (by omega))) gX6_walks_X6_reach rfl kX6_reach ⟨Nat.le_of_ble_eq_true rfl, Nat.le_of_ble_eq_true rfl⟩ rfl rfl hP (dT hD) hG (ci := 4) rfl rfl rfl rfl (Nat.le_of_ble_eq_true rfl) dX6_walks_40 ⟨Nat.zero_le _, Nat.zero_le _⟩ ?_
      refine lv_icmp_ge (tgt := 118) hx hb dX6_walks_43 (by decide) (fun c_1 => ?_) (fun c_1 => (tr0 hn_33 c_1).elim)
      refine lv_iload hx hb dX6_walks_118 (lv_at hl 1 rfl) ?_
      exact ro_zret hx hb hr hk hz_33 hR dX6_walks_120
    | succ n_33 ih_33 =>
      intro x9_33 x8_33 x7_33 x6_33 hn_33 hz_33 hR ls hl
      rw [mX6_walks_33] at hR
      refine lv_iload hx hb dX6_walks_33 (lv_at hl 0 rfl) ?_
      refine lv_aload_n hx hb dX6_walks_35 rfl (lv_at hl 5 rfl) ?_
      refine lv_iload_n hx hb dX6_walks_36 rfl (lv_at hl 6 rfl) ?_
      refine lv_iload_n hx hb dX6_walks_37 rfl (lv_at hl 7 rfl) ?_
      refine lv_iload hx hb dX6_walks_38 (lv_at hl 9 rfl) ?_
      refine ro_V (v := .int (mX6_reach x pp mill hour)) (rest := [.int x9_33]) (As := [.int pp, .int mill, .int hour]) hx hb hml hown hts hl (MX6_reach l D q h x pp mill hour (rg_t (i := pp) (x := (pp).toInt) rfl (by omega)) (rg_t (i := mill) (x := (mill).toInt) rfl (by omega))) gX6_walks_X6_reach rfl kX6_reach ⟨Nat.le_of_ble_eq_true rfl, Nat.le_of_ble_eq_true rfl⟩ rfl rfl hP (dT hD) hG (ci := 4) rfl rfl rfl rfl (Nat.le_of_ble_eq_true rfl) dX6_walks_40 ⟨Nat.zero_le _, Nat.zero_le _⟩ ?_
      refine lv_icmp_ge (tgt := 118) hx hb dX6_walks_43 (by decide) (fun c_1 => (trS hn_33 c_1).elim) (fun c_1 => ?_)
      refine lv_iload hx hb dX6_walks_46 (lv_at hl 3 rfl) ?_
      refine lv_iload hx hb dX6_walks_48 (lv_at hl 9 rfl) ?_
      refine ro_S (v := .int (mX6_toEast hour)) (rest := [.int x6_33]) (As := [.int hour]) hx hb hml hown hts hl (MX6_toEast l D q hour) gX6_walks_X6_toEast rfl kX6_toEast ⟨Nat.le_of_ble_eq_true rfl, Nat.le_of_ble_eq_true rfl⟩ rfl rfl (hP.sub (ws' := []) [] rfl) (dT (hD.sub (ws' := []) [] (by decide) rfl)) hG rfl rfl (Nat.le_of_ble_eq_true rfl) dX6_walks_50 ⟨Nat.zero_le _, Nat.zero_le _⟩ ?_
      refine lv_iadd hx hb dX6_walks_53 ?_
      refine lv_istore (lv' := [(6, .int (x6_33 + (mX6_toEast hour))), (9, .int x9_33), (8, .int x8_33), (7, .int x7_33), (5, .int ((x 0) ((((pp + 1) + (3 * mill)) + 1)).toNatClampNeg)), (0, .ref (h 0)), (1, .int pp), (2, .int mill), (3, .int yard), (4, .int hour)]) hx hb dX6_walks_54 hl (by decide) rfl (fun ls hl => ?_)
      refine lv_iload hx hb dX6_walks_56 (lv_at hl 3 rfl) ?_
      refine lv_iload hx hb dX6_walks_58 (lv_at hl 9 rfl) ?_
      refine ro_S (v := .int (mX6_toSouth hour)) (rest := [.int x7_33]) (As := [.int hour]) hx hb hml hown hts hl (MX6_toSouth l D q hour) gX6_walks_X6_toSouth rfl kX6_toSouth ⟨Nat.le_of_ble_eq_true rfl, Nat.le_of_ble_eq_true rfl⟩ rfl rfl (hP.sub (ws' := []) [] rfl) (dT (hD.sub (ws' := []) [] (by decide) rfl)) hG rfl rfl (Nat.le_of_ble_eq_true rfl) dX6_walks_60 ⟨Nat.zero_le _, Nat.zero_le _⟩ ?_
      refine lv_iadd hx hb dX6_walks_63 ?_
      refine lv_istore (lv' := [(7, .int (x7_33 + (mX6_toSouth hour))), (6, .int (x6_33 + (mX6_toEast hour))), (9, .int x9_33), (8, .int x8_33), (5, .int ((x 0) ((((pp + 1) + (3 * mill)) + 1)).toNatClampNeg)), (0, .ref (h 0)), (1, .int pp), (2, .int mill), (3, .int yard), (4, .int hour)]) hx hb dX6_walks_64 hl (by decide) rfl (fun ls hl => ?_)
      refine lv_iload hx hb dX6_walks_66 (lv_at hl 3 rfl) ?_
      refine lv_if_ne (tgt := 105) hx hb dX6_walks_68 (by decide) (fun c_2 => ?_) (fun c_2 => ?_)
      · rw [if_neg c_2] at hR
        have tc_2 : ¬ x8_33.toInt = 0 := fun z => c_2 (i_eq.mpr z)
        refine lv_iconst (v := 1) hx hb dX6_walks_105 (by decide) ?_
        refine lv_goto (tgt := 110) hx hb dX6_walks_106 (by decide) ?_
        refine lv_istore (lv' := [(8, .int 1), (7, .int (x7_33 + (mX6_toSouth hour))), (6, .int (x6_33 + (mX6_toEast hour))), (9, .int x9_33), (5, .int ((x 0) ((((pp + 1) + (3 * mill)) + 1)).toNatClampNeg)), (0, .ref (h 0)), (1, .int pp), (2, .int mill), (3, .int yard), (4, .int hour)]) hx hb dX6_walks_110 hl (by decide) rfl (fun ls hl => ?_)
        refine lv_iinc (v := (x9_33 + 1)) (lv' := [(9, .int (x9_33 + 1)), (8, .int 1), (7, .int (x7_33 + (mX6_toSouth hour))), (6, .int (x6_33 + (mX6_toEast hour))), (5, .int ((x 0) ((((pp + 1) + (3 * mill)) + 1)).toNatClampNeg)), (0, .ref (h 0)), (1, .int pp), (2, .int mill), (3, .int yard), (4, .int hour)]) hx hb dX6_walks_112 hl (k := 3) rfl rfl (by decide) rfl (fun ls hl => ?_)
        refine lv_goto (tgt := 33) hx hb dX6_walks_115 (by decide) ?_
        exact ih_33 (x9_33 + 1) 1 (x7_33 + (mX6_toSouth hour)) (x6_33 + (mX6_toEast hour)) (trN hn_33) (Or.inr rfl) hR ls (lv_sub hl [0, 1, 2, 3, 4, 5, 6, 7, 8, 9] rfl)
      · rw [if_pos c_2] at hR
        have tc_2 : x8_33.toInt = 0 := i_eq.mp c_2
        refine lv_iload hx hb dX6_walks_71 (lv_at hl 1 rfl) ?_
        refine lv_iconst (v := 0) hx hb dX6_walks_73 (by decide) ?_
        refine lv_bipush (v := 11) hx hb dX6_walks_74 (by decide) ?_
        refine ro_S (v := .int (mX6_in (x6_33 + (mX6_toEast hour)) 0 11)) (rest := []) (As := [.int (x6_33 + (mX6_toEast hour)), .int 0, .int 11]) hx hb hml hown hts hl (MX6_in l D q (x6_33 + (mX6_toEast hour)) 0 11) gX6_walks_X6_in rfl kX6_in ⟨Nat.le_of_ble_eq_true rfl, Nat.le_of_ble_eq_true rfl⟩ rfl rfl (hP.sub (ws' := []) [] rfl) (dT (hD.sub (ws' := []) [] (by decide) rfl)) hG rfl rfl (Nat.le_of_ble_eq_true rfl) dX6_walks_76 ⟨Nat.zero_le _, Nat.zero_le _⟩ ?_
        refine lv_if_eq (tgt := 109) hx hb dX6_walks_79 (by decide) (fun c_3 => ?_) (fun c_3 => ?_)
        · rw [if_pos c_3] at hR
          have tc_3 : (mX6_in (x6_33 + (mX6_toEast hour)) 0 11).toInt = 0 := i_eq.mp c_3
          refine lv_iconst (v := 0) hx hb dX6_walks_109 (by decide) ?_
          refine lv_istore (lv' := [(8, .int 0), (7, .int (x7_33 + (mX6_toSouth hour))), (6, .int (x6_33 + (mX6_toEast hour))), (9, .int x9_33), (5, .int ((x 0) ((((pp + 1) + (3 * mill)) + 1)).toNatClampNeg)), (0, .ref (h 0)), (1, .int pp), (2, .int mill), (3, .int yard), (4, .int hour)]) hx hb dX6_walks_110 hl (by decide) rfl (fun ls hl => ?_)
          refine lv_iinc (v := (x9_33 + 1)) (lv' := [(9, .int (x9_33 + 1)), (8, .int 0), (7, .int (x7_33 + (mX6_toSouth hour))), (6, .int (x6_33 + (mX6_toEast hour))), (5, .int ((x 0) ((((pp + 1) + (3 * mill)) + 1)).toNatClampNeg)), (0, .ref (h 0)), (1, .int pp), (2, .int mill), (3, .int yard), (4, .int hour)]) hx hb dX6_walks_112 hl (k := 3) rfl rfl (by decide) rfl (fun ls hl => ?_)
          refine lv_goto (tgt := 33) hx hb dX6_walks_115 (by decide) ?_
          exact ih_33 (x9_33 + 1) 0 (x7_33 + (mX6_toSouth hour)) (x6_33 + (mX6_toEast hour)) (trN hn_33) (Or.inl rfl) hR ls (lv_sub hl [0, 1, 2, 3, 4, 5, 6, 7, 8, 9] rfl)
        · rw [if_neg c_3] at hR
          have tc_3 : ¬ (mX6_in (x6_33 + (mX6_toEast hour)) 0 11).toInt = 0 := fun z => c_3 (i_eq.mpr z)
          have fc_3 : 0 ≤ (x6_33 + (mX6_toEast hour)).toInt ∧ (x6_33 + (mX6_toEast hour)).toInt ≤ 11 := f6_in c_3
          refine lv_iload hx hb dX6_walks_82 (lv_at hl 0 rfl) ?_
          refine lv_iconst (v := 0) hx hb dX6_walks_84 (by decide) ?_
          refine lv_bipush (v := 7) hx hb dX6_walks_85 (by decide) ?_
          refine ro_S (v := .int (mX6_in (x7_33 + (mX6_toSouth hour)) 0 7)) (rest := []) (As := [.int (x7_33 + (mX6_toSouth hour)), .int 0, .int 7]) hx hb hml hown hts hl (MX6_in l D q (x7_33 + (mX6_toSouth hour)) 0 7) gX6_walks_X6_in rfl kX6_in ⟨Nat.le_of_ble_eq_true rfl, Nat.le_of_ble_eq_true rfl⟩ rfl rfl (hP.sub (ws' := []) [] rfl) (dT (hD.sub (ws' := []) [] (by decide) rfl)) hG rfl rfl (Nat.le_of_ble_eq_true rfl) dX6_walks_87 ⟨Nat.zero_le _, Nat.zero_le _⟩ ?_
          refine lv_if_eq (tgt := 109) hx hb dX6_walks_90 (by decide) (fun c_4 => ?_) (fun c_4 => ?_)
          · rw [if_pos c_4] at hR
            have tc_4 : (mX6_in (x7_33 + (mX6_toSouth hour)) 0 7).toInt = 0 := i_eq.mp c_4
            refine lv_iconst (v := 0) hx hb dX6_walks_109 (by decide) ?_
            refine lv_istore (lv' := [(8, .int 0), (7, .int (x7_33 + (mX6_toSouth hour))), (6, .int (x6_33 + (mX6_toEast hour))), (9, .int x9_33), (5, .int ((x 0) ((((pp + 1) + (3 * mill)) + 1)).toNatClampNeg)), (0, .ref (h 0)), (1, .int pp), (2, .int mill), (3, .int yard), (4, .int hour)]) hx hb dX6_walks_110 hl (by decide) rfl (fun ls hl => ?_)
            refine lv_iinc (v := (x9_33 + 1)) (lv' := [(9, .int (x9_33 + 1)), (8, .int 0), (7, .int (x7_33 + (mX6_toSouth hour))), (6, .int (x6_33 + (mX6_toEast hour))), (5, .int ((x 0) ((((pp + 1) + (3 * mill)) + 1)).toNatClampNeg)), (0, .ref (h 0)), (1, .int pp), (2, .int mill), (3, .int yard), (4, .int hour)]) hx hb dX6_walks_112 hl (k := 3) rfl rfl (by decide) rfl (fun ls hl => ?_)
            refine lv_goto (tgt := 33) hx hb dX6_walks_115 (by decide) ?_
            exact ih_33 (x9_33 + 1) 0 (x7_33 + (mX6_toSouth hour)) (x6_33 + (mX6_toEast hour)) (trN hn_33) (Or.inl rfl) hR ls (lv_sub hl [0, 1, 2, 3, 4, 5, 6, 7, 8, 9] rfl)
          · rw [if_neg c_4] at hR
            have tc_4 : ¬ (mX6_in (x7_33 + (mX6_toSouth hour)) 0 7).toInt = 0 := fun z => c_4 (i_eq.mpr z)
            have fc_4 : 0 ≤ (x7_33 + (mX6_toSouth hour)).toInt ∧ (x7_33 + (mX6_toSouth hour)).toInt ≤ 7 := f6_in c_4
            refine lv_bipush (v := 12) hx hb dX6_walks_93 (by decide) ?_
            refine lv_iload hx hb dX6_walks_95 (lv_at hl 0 rfl) ?_
            refine lv_imul hx hb dX6_walks_97 ?_
            refine lv_iload hx hb dX6_walks_98 (lv_at hl 1 rfl) ?_
            refine lv_iadd hx hb dX6_walks_100 ?_
            refine lv_iload_n hx hb dX6_walks_101 rfl (lv_at hl 8 rfl) ?_
            refine lv_icmp_ne (tgt := 109) hx hb dX6_walks_102 (by decide) (fun c_5 => ?_) (fun c_5 => ?_)
            · rw [if_neg c_5] at hR
              have tc_5 : ¬ ((12 * (x7_33 + (mX6_toSouth hour))) + (x6_33 + (mX6_toEast hour))).toInt = yard.toInt := fun z => c_5 (i_eq.mpr z)
              refine lv_iconst (v := 0) hx hb dX6_walks_109 (by decide) ?_
              refine lv_istore (lv' := [(8, .int 0), (7, .int (x7_33 + (mX6_toSouth hour))), (6, .int (x6_33 + (mX6_toEast hour))), (9, .int x9_33), (5, .int ((x 0) ((((pp + 1) + (3 * mill)) + 1)).toNatClampNeg)), (0, .ref (h 0)), (1, .int pp), (2, .int mill), (3, .int yard), (4, .int hour)]) hx hb dX6_walks_110 hl (by decide) rfl (fun ls hl => ?_)
              refine lv_iinc (v := (x9_33 + 1)) (lv' := [(9, .int (x9_33 + 1)), (8, .int 0), (7, .int (x7_33 + (mX6_toSouth hour))), (6, .int (x6_33 + (mX6_toEast hour))), (5, .int ((x 0) ((((pp + 1) + (3 * mill)) + 1)).toNatClampNeg)), (0, .ref (h 0)), (1, .int pp), (2, .int mill), (3, .int yard), (4, .int hour)]) hx hb dX6_walks_112 hl (k := 3) rfl rfl (by decide) rfl (fun ls hl => ?_)
              refine lv_goto (tgt := 33) hx hb dX6_walks_115 (by decide) ?_
              exact ih_33 (x9_33 + 1) 0 (x7_33 + (mX6_toSouth hour)) (x6_33 + (mX6_toEast hour)) (trN hn_33) (Or.inl rfl) hR ls (lv_sub hl [0, 1, 2, 3, 4, 5, 6, 7, 8, 9] rfl)
            · rw [if_pos c_5] at hR
              have tc_5 : ((12 * (x7_33 + (mX6_toSouth hour))) + (x6_33 + (mX6_toEast hour))).toInt = yard.toInt := i_eq.mp c_5
              refine lv_iconst (v := 1) hx hb dX6_walks_105 (by decide) ?_
              refine lv_goto (tgt := 110) hx hb dX6_walks_106 (by decide) ?_
              refine lv_istore (lv' := [(8, .int 1), (7, .int (x7_33 + (mX6_toSouth hour))), (6, .int (x6_33 + (mX6_toEast hour))), (9, .int x9_33), (5, .int ((x 0) ((((pp + 1) + (3 * mill)) + 1)).toNatClampNeg)), (0, .ref (h 0)), (1, .int pp), (2, .int mill), (3, .int yard), (4, .int hour)]) hx hb dX6_walks_110 hl (by decide) rfl (fun ls hl => ?_)
              refine lv_iinc (v := (x9_33 + 1)) (lv' := [(9, .int (x9_33 + 1)), (8, .int 1), (7, .int (x7_33 + (mX6_toSouth hour))), (6, .int (x6_33 + (mX6_toEast hour))), (5, .int ((x 0) ((((pp + 1) + (3 * mill)) + 1)).toNatClampNeg)), (0, .ref (h 0)), (1, .int pp), (2, .int mill), (3, .int yard), (4, .int hour)]) hx hb dX6_walks_112 hl (k := 3) rfl rfl (by decide) rfl (fun ls hl => ?_)
              refine lv_goto (tgt := 33) hx hb dX6_walks_115 (by decide) ?_
              exact ih_33 (x9_33 + 1) 1 (x7_33 + (mX6_toSouth hour)) (x6_33 + (mX6_toEast hour)) (trN hn_33) (Or.inr rfl) hR ls (lv_sub hl [0, 1, 2, 3, 4, 5, 6, 7, 8, 9] rfl)
  exact key_33 _ 0 0 (((x 0) ((((pp + 1) + (3 * mill)) + 1)).toNatClampNeg) / 12) (((x 0) ((((pp + 1) + (3 * mill)) + 1)).toNatClampNeg) - ((x 0) ((((pp + 1) + (3 * mill)) + 1)).toNatClampNeg) / 12 * 12) rfl (Or.inl rfl) hR ls hl
theorem zX6_walks_33 (yard hour : Int32) : ∀ (n : Nat) (a b c d : Int32), (b = 0 ∨ b = 1) → (mX6_walks_33 yard hour (fun x9_33 x8_33 x7_33 x6_33 => x8_33) n a b c d = 0 ∨ mX6_walks_33 yard hour (fun x9_33 x8_33 x7_33 x6_33 => x8_33) n a b c d = 1)
  | 0, a, b, c, d, h => by rw [mX6_walks_33]; exact h
  | n + 1, a, b, c, d, h => by
    rw [mX6_walks_33]
    repeat' split
    all_goals first | exact zX6_walks_33 yard hour n _ _ _ _ (Or.inl rfl) | exact zX6_walks_33 yard hour n _ _ _ _ (Or.inr rfl)
theorem zX6_walks (x : Nat → Nat → Int32) (pp mill yard hour : Int32) : mX6_walks x pp mill yard hour = 0 ∨ mX6_walks x pp mill yard hour = 1 := zX6_walks_33 yard hour _ _ _ _ _ (Or.inl rfl)

def mX6_lies (x : Nat → Nat → Int32) (pp mill yard hour : Int32) : Int32 := (if (mX6_apart ((x 0) ((((pp + 1) + (3 * mill)) + 1)).toNatClampNeg) yard) ≤ 0 then 0 else (if (mX6_reach x pp mill hour) < (mX6_apart ((x 0) ((((pp + 1) + (3 * mill)) + 1)).toNatClampNeg) yard) then 0 else (if ((yard - yard / 12 * 12) - (((x 0) ((((pp + 1) + (3 * mill)) + 1)).toNatClampNeg) - ((x 0) ((((pp + 1) + (3 * mill)) + 1)).toNatClampNeg) / 12 * 12)) = ((mX6_apart ((x 0) ((((pp + 1) + (3 * mill)) + 1)).toNatClampNeg) yard) * (mX6_toEast hour)) then (if ((yard / 12) - (((x 0) ((((pp + 1) + (3 * mill)) + 1)).toNatClampNeg) / 12)) = ((mX6_apart ((x 0) ((((pp + 1) + (3 * mill)) + 1)).toNatClampNeg) yard) * (mX6_toSouth hour)) then 1 else 0) else 0)))
theorem kX6_lies : yX6_lies.cls = RX6 ∧ yX6_lies.cls ≠ "java/lang/invoke/MethodHandle" ∧ yX6_lies.cls ≠ "java/lang/invoke/VarHandle" ∧ (parseMethodDescriptor yX6_lies.desc).map (fun d => d.parameters.length) = some 4 := by decide +kernel
theorem iX6_lies_X6 : ∀ w ∈ wsX60, w ∈ wsX6_lies := fun w h => (List.mem_cons_of_mem _ (List.mem_append_right _ h))
set_option maxHeartbeats 4000000 in
set_option maxRecDepth 100000 in
theorem MX6_lies (l : Launch) (D : va_G) (q : Nat → ClassId) (h : Nat → Nat) (x : Nat → Nat → Int32) (pp mill yard hour : Int32) (hpp : 0 ≤ pp.toInt ∧ pp.toInt < 149) (hmill : 0 ≤ mill.toInt ∧ mill.toInt < 4) : roM l D (tyq q) yX6_lies wsX6_lies ({ frames := 3, cells := 0, slots := 0, locals := 66 } : Room) [.ref (h 0), .int pp, .int mill, .int yard, .int hour] (wM q h x) (some (.int (mX6_lies x pp mill yard hour))) := by
  obtain ⟨R, hR⟩ : ∃ z, (mX6_lies x pp mill yard hour) = z := ⟨_, rfl⟩
  rw [hR]
  unfold mX6_lies at hR
  refine roM.of (cc := cX6_lies) (maxL := 9) (ret := (some .boolean)) (by decide) rfl (Nat.le_of_ble_eq_true rfl) ?_
  intro p e s m below meth c ls hx hb hr hk hml hown hts hP hD hG hl
  have hl : lv_has ls 9 [(0, .ref (h 0)), (1, .int pp), (2, .int mill), (3, .int yard), (4, .int hour)] := hl
  refine lv_aload_n hx hb dX6_lies_0 rfl (lv_at hl 0 rfl) ?_
  refine va_get (D := D) (ci := 4) (v := .ref (h 1)) (C := RX6) (T := TX6) (N := 7) hx hb hts iX6_lies_X6 hown hG.1 hP 0 rfl rfl 0 (by decide) (hts (.fieldLink RX6 7 "MillComplaintsModel" "s" "[I") (List.mem_of_getElem? (i := 1) rfl)) (fun _ h9 => h9) rfl dX6_lies_1 ?_
  refine lv_iload_n hx hb dX6_lies_4 rfl (lv_at hl 1 rfl) ?_
  refine lv_iload_n hx hb dX6_lies_5 rfl (lv_at hl 2 rfl) ?_
  refine lv_iconst (v := 1) hx hb dX6_lies_6 (by decide) ?_
  refine ro_S (v := .int (((pp + 1) + (3 * mill)) + 1)) (rest := [.ref (h 1)]) (As := [.int pp, .int mill, .int 1]) hx hb hml hown hts hl (MX6_ofMill l D q pp mill 1) gX6_lies_X6_ofMill rfl kX6_ofMill ⟨Nat.le_of_ble_eq_true rfl, Nat.le_of_ble_eq_true rfl⟩ rfl rfl (hP.sub (ws' := []) [] rfl) (dT (hD.sub (ws' := []) [] (by decide) rfl)) hG rfl rfl (Nat.le_of_ble_eq_true rfl) dX6_lies_7 ⟨Nat.zero_le _, Nat.zero_le _⟩ ?_
  refine va_iald hx hb hG.1 hP 1 0 rfl rfl (ix_t (i := (((pp + 1) + (3 * mill)) + 1)) (x := ((((pp).toInt + 1) + (3 * (mill).toInt)) + 1)) (n := 296) (ti_add (ti_add (ti_add rfl (show (1 : Int32).toInt = 1 from rfl) (by omega)) (ti_mul (show (3 : Int32).toInt = 3 from rfl) rfl (by omega)) (by omega)) (show (1 : Int32).toInt = 1 from rfl) (by omega)) (by omega)) dX6_lies_10 ?_
  refine lv_istore (lv' := [(5, .int ((x 0) ((((pp + 1) + (3 * mill)) + 1)).toNatClampNeg)), (0, .ref (h 0)), (1, .int pp), (2, .int mill), (3, .int yard), (4, .int hour)]) hx hb dX6_lies_11 hl (by decide) rfl (fun ls hl => ?_)
  refine lv_iload_n hx hb dX6_lies_13 rfl (lv_at hl 4 rfl) ?_
  refine lv_bipush (v := 12) hx hb dX6_lies_14 (by decide) ?_
  refine lv_irem hx hb dX6_lies_16 (by decide) ?_
  refine lv_iload hx hb dX6_lies_17 (lv_at hl 0 rfl) ?_
  refine lv_bipush (v := 12) hx hb dX6_lies_19 (by decide) ?_
  refine lv_irem hx hb dX6_lies_21 (by decide) ?_
  refine lv_isub hx hb dX6_lies_22 ?_
  refine lv_istore (lv' := [(6, .int ((yard - yard / 12 * 12) - (((x 0) ((((pp + 1) + (3 * mill)) + 1)).toNatClampNeg) - ((x 0) ((((pp + 1) + (3 * mill)) + 1)).toNatClampNeg) / 12 * 12))), (5, .int ((x 0) ((((pp + 1) + (3 * mill)) + 1)).toNatClampNeg)), (0, .ref (h 0)), (1, .int pp), (2, .int mill), (3, .int yard), (4, .int hour)]) hx hb dX6_lies_23 hl (by decide) rfl (fun ls hl => ?_)
  refine lv_iload_n hx hb dX6_lies_25 rfl (lv_at hl 5 rfl) ?_
  refine lv_bipush (v := 12) hx hb dX6_lies_26 (by decide) ?_
  refine lv_idiv hx hb dX6_lies_28 (by decide) ?_
  refine lv_iload hx hb dX6_lies_29 (lv_at hl 1 rfl) ?_
  refine lv_bipush (v := 12) hx hb dX6_lies_31 (by decide) ?_
  refine lv_idiv hx hb dX6_lies_33 (by decide) ?_
  refine lv_isub hx hb dX6_lies_34 ?_
  refine lv_istore (lv' := [(7, .int ((yard / 12) - (((x 0) ((((pp + 1) + (3 * mill)) + 1)).toNatClampNeg) / 12))), (6, .int ((yard - yard / 12 * 12) - (((x 0) ((((pp + 1) + (3 * mill)) + 1)).toNatClampNeg) - ((x 0) ((((pp + 1) + (3 * mill)) + 1)).toNatClampNeg) / 12 * 12))), (5, .int ((x 0) ((((pp + 1) + (3 * mill)) + 1)).toNatClampNeg)), (0, .ref (h 0)), (1, .int pp), (2, .int mill), (3, .int yard), (4, .int hour)]) hx hb dX6_lies_35 hl (by decide) rfl (fun ls hl => ?_)
  refine lv_iload hx hb dX6_lies_37 (lv_at hl 2 rfl) ?_
  refine lv_iload_n hx hb dX6_lies_39 rfl (lv_at hl 6 rfl) ?_
  refine ro_S (v := .int (mX6_apart ((x 0) ((((pp + 1) + (3 * mill)) + 1)).toNatClampNeg) yard)) (rest := []) (As := [.int ((x 0) ((((pp + 1) + (3 * mill)) + 1)).toNatClampNeg), .int yard]) hx hb hml hown hts hl (MX6_apart l D q ((x 0) ((((pp + 1) + (3 * mill)) + 1)).toNatClampNeg) yard) gX6_lies_X6_apart rfl kX6_apart ⟨Nat.le_of_ble_eq_true rfl, Nat.le_of_ble_eq_true rfl⟩ rfl rfl (hP.sub (ws' := []) [] rfl) (dT (hD.sub (ws' := []) [] (by decide) rfl)) hG rfl rfl (Nat.le_of_ble_eq_true rfl) dX6_lies_40 ⟨Nat.zero_le _, Nat.zero_le _⟩ ?_
  refine lv_istore (lv' := [(8, .int (mX6_apart ((x 0) ((((pp + 1) + (3 * mill)) + 1)).toNatClampNeg) yard)), (7, .int ((yard / 12) - (((x 0) ((((pp + 1) + (3 * mill)) + 1)).toNatClampNeg) / 12))), (6, .int ((yard - yard / 12 * 12) - (((x 0) ((((pp + 1) + (3 * mill)) + 1)).toNatClampNeg) - ((x 0) ((((pp + 1) + (3 * mill)) + 1)).toNatClampNeg) / 12 * 12))), (5, .int ((x 0) ((((pp + 1) + (3 * mill)) + 1)).toNatClampNeg)), (0, .ref (h 0)), (1, .int pp), (2, .int mill), (3, .int yard), (4, .int hour)]) hx hb dX6_lies_43 hl (by decide) rfl (fun ls hl => ?_)
  refine lv_iload hx hb dX6_lies_45 (lv_at hl 0 rfl) ?_
  refine lv_if_le (tgt := 93) hx hb dX6_lies_47 (by decide) (fun c_1 => ?_) (fun c_1 => ?_)
  · rw [if_pos c_1] at hR
    have tc_1 : (mX6_apart ((x 0) ((((pp + 1) + (3 * mill)) + 1)).toNatClampNeg) yard).toInt ≤ 0 := i_le.mp c_1
    refine lv_iconst (v := 0) hx hb dX6_lies_93 (by decide) ?_
    exact ro_zret hx hb hr hk (Or.inl rfl) hR dX6_lies_94
  · rw [if_neg c_1] at hR
    have tc_1 : ¬ (mX6_apart ((x 0) ((((pp + 1) + (3 * mill)) + 1)).toNatClampNeg) yard).toInt ≤ 0 := fun z => c_1 (i_le.mpr z)
    refine lv_iload hx hb dX6_lies_50 (lv_at hl 0 rfl) ?_
    refine lv_aload_n hx hb dX6_lies_52 rfl (lv_at hl 4 rfl) ?_
    refine lv_iload_n hx hb dX6_lies_53 rfl (lv_at hl 5 rfl) ?_
    refine lv_iload_n hx hb dX6_lies_54 rfl (lv_at hl 6 rfl) ?_
    refine lv_iload hx hb dX6_lies_55 (lv_at hl 8 rfl) ?_
    refine ro_V (v := .int (mX6_reach x pp mill hour)) (rest := [.int (mX6_apart ((x 0) ((((pp + 1) + (3 * mill)) + 1)).toNatClampNeg) yard)]) (As := [.int pp, .int mill, .int hour]) hx hb hml hown hts hl (MX6_reach l D q h x pp mill hour (rg_t (i := pp) (x := (pp).toInt) rfl (by omega)) (rg_t (i := mill) (x := (mill).toInt) rfl (by omega))) gX6_lies_X6_reach rfl kX6_reach ⟨Nat.le_of_ble_eq_true rfl, Nat.le_of_ble_eq_true rfl⟩ rfl rfl hP (dT hD) hG (ci := 4) rfl rfl rfl rfl (Nat.le_of_ble_eq_true rfl) dX6_lies_57 ⟨Nat.zero_le _, Nat.zero_le _⟩ ?_
    refine lv_icmp_gt (tgt := 93) hx hb dX6_lies_60 (by decide) (fun c_2 => ?_) (fun c_2 => ?_)
    · rw [if_pos c_2] at hR
      have tc_2 : (mX6_reach x pp mill hour).toInt < (mX6_apart ((x 0) ((((pp + 1) + (3 * mill)) + 1)).toNatClampNeg) yard).toInt := i_lt.mp c_2
      refine lv_iconst (v := 0) hx hb dX6_lies_93 (by decide) ?_
      exact ro_zret hx hb hr hk (Or.inl rfl) hR dX6_lies_94
    · rw [if_neg c_2] at hR
      have tc_2 : ¬ (mX6_reach x pp mill hour).toInt < (mX6_apart ((x 0) ((((pp + 1) + (3 * mill)) + 1)).toNatClampNeg) yard).toInt := fun z => c_2 (i_lt.mpr z)
      refine lv_iload hx hb dX6_lies_63 (lv_at hl 2 rfl) ?_
      refine lv_iload hx hb dX6_lies_65 (lv_at hl 0 rfl) ?_
      refine lv_iload hx hb dX6_lies_67 (lv_at hl 8 rfl) ?_
      refine ro_S (v := .int (mX6_toEast hour)) (rest := [.int (mX6_apart ((x 0) ((((pp + 1) + (3 * mill)) + 1)).toNatClampNeg) yard), .int ((yard - yard / 12 * 12) - (((x 0) ((((pp + 1) + (3 * mill)) + 1)).toNatClampNeg) - ((x 0) ((((pp + 1) + (3 * mill)) + 1)).toNatClampNeg) / 12 * 12))]) (As := [.int hour]) hx hb hml hown hts hl (MX6_toEast l D q hour) gX6_lies_X6_toEast rfl kX6_toEast ⟨Nat.le_of_ble_eq_true rfl, Nat.le_of_ble_eq_true rfl⟩ rfl rfl (hP.sub (ws' := []) [] rfl) (dT (hD.sub (ws' := []) [] (by decide) rfl)) hG rfl rfl (Nat.le_of_ble_eq_true rfl) dX6_lies_69 ⟨Nat.zero_le _, Nat.zero_le _⟩ ?_
      refine lv_imul hx hb dX6_lies_72 ?_
      refine lv_icmp_ne (tgt := 93) hx hb dX6_lies_73 (by decide) (fun c_3 => ?_) (fun c_3 => ?_)
      · rw [if_neg c_3] at hR
        have tc_3 : ¬ ((yard - yard / 12 * 12) - (((x 0) ((((pp + 1) + (3 * mill)) + 1)).toNatClampNeg) - ((x 0) ((((pp + 1) + (3 * mill)) + 1)).toNatClampNeg) / 12 * 12)).toInt = ((mX6_apart ((x 0) ((((pp + 1) + (3 * mill)) + 1)).toNatClampNeg) yard) * (mX6_toEast hour)).toInt := fun z => c_3 (i_eq.mpr z)
        refine lv_iconst (v := 0) hx hb dX6_lies_93 (by decide) ?_
        exact ro_zret hx hb hr hk (Or.inl rfl) hR dX6_lies_94
      · rw [if_pos c_3] at hR
        have tc_3 : ((yard - yard / 12 * 12) - (((x 0) ((((pp + 1) + (3 * mill)) + 1)).toNatClampNeg) - ((x 0) ((((pp + 1) + (3 * mill)) + 1)).toNatClampNeg) / 12 * 12)).toInt = ((mX6_apart ((x 0) ((((pp + 1) + (3 * mill)) + 1)).toNatClampNeg) yard) * (mX6_toEast hour)).toInt := i_eq.mp c_3
        refine lv_iload hx hb dX6_lies_76 (lv_at hl 1 rfl) ?_
        refine lv_iload hx hb dX6_lies_78 (lv_at hl 0 rfl) ?_
        refine lv_iload hx hb dX6_lies_80 (lv_at hl 8 rfl) ?_
        refine ro_S (v := .int (mX6_toSouth hour)) (rest := [.int (mX6_apart ((x 0) ((((pp + 1) + (3 * mill)) + 1)).toNatClampNeg) yard), .int ((yard / 12) - (((x 0) ((((pp + 1) + (3 * mill)) + 1)).toNatClampNeg) / 12))]) (As := [.int hour]) hx hb hml hown hts hl (MX6_toSouth l D q hour) gX6_lies_X6_toSouth rfl kX6_toSouth ⟨Nat.le_of_ble_eq_true rfl, Nat.le_of_ble_eq_true rfl⟩ rfl rfl (hP.sub (ws' := []) [] rfl) (dT (hD.sub (ws' := []) [] (by decide) rfl)) hG rfl rfl (Nat.le_of_ble_eq_true rfl) dX6_lies_82 ⟨Nat.zero_le _, Nat.zero_le _⟩ ?_
        refine lv_imul hx hb dX6_lies_85 ?_
        refine lv_icmp_ne (tgt := 93) hx hb dX6_lies_86 (by decide) (fun c_4 => ?_) (fun c_4 => ?_)
        · rw [if_neg c_4] at hR
          have tc_4 : ¬ ((yard / 12) - (((x 0) ((((pp + 1) + (3 * mill)) + 1)).toNatClampNeg) / 12)).toInt = ((mX6_apart ((x 0) ((((pp + 1) + (3 * mill)) + 1)).toNatClampNeg) yard) * (mX6_toSouth hour)).toInt := fun z => c_4 (i_eq.mpr z)
          refine lv_iconst (v := 0) hx hb dX6_lies_93 (by decide) ?_
          exact ro_zret hx hb hr hk (Or.inl rfl) hR dX6_lies_94
        · rw [if_pos c_4] at hR
          have tc_4 : ((yard / 12) - (((x 0) ((((pp + 1) + (3 * mill)) + 1)).toNatClampNeg) / 12)).toInt = ((mX6_apart ((x 0) ((((pp + 1) + (3 * mill)) + 1)).toNatClampNeg) yard) * (mX6_toSouth hour)).toInt := i_eq.mp c_4
          refine lv_iconst (v := 1) hx hb dX6_lies_89 (by decide) ?_
          refine lv_goto (tgt := 94) hx hb dX6_lies_90 (by decide) ?_
          exact ro_zret hx hb hr hk (Or.inr rfl) hR dX6_lies_94

def mX6_wouldTrouble (x : Nat → Nat → Int32) (pp house mill kind hour : Int32) : Int32 := (if 2 ≤ ((x 0) (((pp + 34) + hour)).toNatClampNeg) then (if kind = 0 then (if (mX6_loud x pp mill ((x 0) ((((pp + 14) + (2 * house)) + 0)).toNatClampNeg) hour) ≤ (mX6_borne x pp hour) then 0 else 1) else (mX6_walks x pp mill ((x 0) ((((pp + 14) + (2 * house)) + 0)).toNatClampNeg) hour)) else 0)
theorem kX6_wouldTrouble : yX6_wouldTrouble.cls = RX6 ∧ yX6_wouldTrouble.cls ≠ "java/lang/invoke/MethodHandle" ∧ yX6_wouldTrouble.cls ≠ "java/lang/invoke/VarHandle" ∧ (parseMethodDescriptor yX6_wouldTrouble.desc).map (fun d => d.parameters.length) = some 5 := by decide +kernel
theorem iX6_wouldTrouble_X6 : ∀ w ∈ wsX60, w ∈ wsX6_wouldTrouble := fun w h => (List.mem_cons_of_mem _ (List.mem_append_right _ h))
set_option maxHeartbeats 4000000 in
set_option maxRecDepth 100000 in
theorem MX6_wouldTrouble (l : Launch) (D : va_G) (q : Nat → ClassId) (h : Nat → Nat) (x : Nat → Nat → Int32) (pp house mill kind hour : Int32) (hpp : 0 ≤ pp.toInt ∧ pp.toInt < 149) (hhouse : 0 ≤ house.toInt ∧ house.toInt < 10) (hmill : 0 ≤ mill.toInt ∧ mill.toInt < 4) (hhour : 0 ≤ hour.toInt ∧ hour.toInt < 24) : roM l D (tyq q) yX6_wouldTrouble wsX6_wouldTrouble ({ frames := 4, cells := 0, slots := 0, locals := 95 } : Room) [.ref (h 0), .int pp, .int house, .int mill, .int kind, .int hour] (wM q h x) (some (.int (mX6_wouldTrouble x pp house mill kind hour))) := by
  obtain ⟨R, hR⟩ : ∃ z, (mX6_wouldTrouble x pp house mill kind hour) = z := ⟨_, rfl⟩
  rw [hR]
  unfold mX6_wouldTrouble at hR
  refine roM.of (cc := cX6_wouldTrouble) (maxL := 7) (ret := (some .boolean)) (by decide) rfl (Nat.le_of_ble_eq_true rfl) ?_
  intro p e s m below meth c ls hx hb hr hk hml hown hts hP hD hG hl
  have hl : lv_has ls 7 [(0, .ref (h 0)), (1, .int pp), (2, .int house), (3, .int mill), (4, .int kind), (5, .int hour)] := hl
  refine lv_aload_n hx hb dX6_wouldTrouble_0 rfl (lv_at hl 0 rfl) ?_
  refine va_get (D := D) (ci := 4) (v := .ref (h 1)) (C := RX6) (T := TX6) (N := 7) hx hb hts iX6_wouldTrouble_X6 hown hG.1 hP 0 rfl rfl 0 (by decide) (hts (.fieldLink RX6 7 "MillComplaintsModel" "s" "[I") (List.mem_of_getElem? (i := 1) rfl)) (fun _ h9 => h9) rfl dX6_wouldTrouble_1 ?_
  refine lv_iload_n hx hb dX6_wouldTrouble_4 rfl (lv_at hl 1 rfl) ?_
  refine lv_iload_n hx hb dX6_wouldTrouble_5 rfl (lv_at hl 2 rfl) ?_
  refine lv_iconst (v := 0) hx hb dX6_wouldTrouble_6 (by decide) ?_
  refine ro_S (v := .int (((pp + 14) + (2 * house)) + 0)) (rest := [.ref (h 1)]) (As := [.int pp, .int house, .int 0]) hx hb hml hown hts hl (MX6_ofHouse l D q pp house 0) gX6_wouldTrouble_X6_ofHouse rfl kX6_ofHouse ⟨Nat.le_of_ble_eq_true rfl, Nat.le_of_ble_eq_true rfl⟩ rfl rfl (hP.sub (ws' := []) [] rfl) (dT (hD.sub (ws' := []) [] (by decide) rfl)) hG rfl rfl (Nat.le_of_ble_eq_true rfl) dX6_wouldTrouble_7 ⟨Nat.zero_le _, Nat.zero_le _⟩ ?_
  refine va_iald hx hb hG.1 hP 1 0 rfl rfl (ix_t (i := (((pp + 14) + (2 * house)) + 0)) (x := ((((pp).toInt + 14) + (2 * (house).toInt)) + 0)) (n := 296) (ti_add (ti_add (ti_add rfl (show (14 : Int32).toInt = 14 from rfl) (by omega)) (ti_mul (show (2 : Int32).toInt = 2 from rfl) rfl (by omega)) (by omega)) (show (0 : Int32).toInt = 0 from rfl) (by omega)) (by omega)) dX6_wouldTrouble_10 ?_
  refine lv_istore (lv' := [(6, .int ((x 0) ((((pp + 14) + (2 * house)) + 0)).toNatClampNeg)), (0, .ref (h 0)), (1, .int pp), (2, .int house), (3, .int mill), (4, .int kind), (5, .int hour)]) hx hb dX6_wouldTrouble_11 hl (by decide) rfl (fun ls hl => ?_)
  refine lv_aload_n hx hb dX6_wouldTrouble_13 rfl (lv_at hl 1 rfl) ?_
  refine va_get (D := D) (ci := 4) (v := .ref (h 1)) (C := RX6) (T := TX6) (N := 7) hx hb hts iX6_wouldTrouble_X6 hown hG.1 hP 0 rfl rfl 0 (by decide) (hts (.fieldLink RX6 7 "MillComplaintsModel" "s" "[I") (List.mem_of_getElem? (i := 1) rfl)) (fun _ h9 => h9) rfl dX6_wouldTrouble_14 ?_
  refine lv_iload_n hx hb dX6_wouldTrouble_17 rfl (lv_at hl 2 rfl) ?_
  refine lv_bipush (v := 34) hx hb dX6_wouldTrouble_18 (by decide) ?_
  refine lv_iadd hx hb dX6_wouldTrouble_20 ?_
  refine lv_iload hx hb dX6_wouldTrouble_21 (lv_at hl 6 rfl) ?_
  refine lv_iadd hx hb dX6_wouldTrouble_23 ?_
  refine va_iald hx hb hG.1 hP 1 0 rfl rfl (ix_t (i := ((pp + 34) + hour)) (x := (((pp).toInt + 34) + (hour).toInt)) (n := 296) (ti_add (ti_add rfl (show (34 : Int32).toInt = 34 from rfl) (by omega)) rfl (by omega)) (by omega)) dX6_wouldTrouble_24 ?_
  refine lv_iconst (v := 2) hx hb dX6_wouldTrouble_25 (by decide) ?_
  refine lv_icmp_ge (tgt := 31) hx hb dX6_wouldTrouble_26 (by decide) (fun c_1 => ?_) (fun c_1 => ?_)
  · rw [if_pos c_1] at hR
    have tc_1 : 2 ≤ ((x 0) (((pp + 34) + hour)).toNatClampNeg).toInt := i_le.mp c_1
    refine lv_iload hx hb dX6_wouldTrouble_31 (lv_at hl 5 rfl) ?_
    refine lv_if_ne (tgt := 64) hx hb dX6_wouldTrouble_33 (by decide) (fun c_2 => ?_) (fun c_2 => ?_)
    · rw [if_neg c_2] at hR
      have tc_2 : ¬ kind.toInt = 0 := fun z => c_2 (i_eq.mpr z)
      refine lv_aload_n hx hb dX6_wouldTrouble_64 rfl (lv_at hl 1 rfl) ?_
      refine lv_iload_n hx hb dX6_wouldTrouble_65 rfl (lv_at hl 2 rfl) ?_
      refine lv_iload_n hx hb dX6_wouldTrouble_66 rfl (lv_at hl 4 rfl) ?_
      refine lv_iload hx hb dX6_wouldTrouble_67 (lv_at hl 0 rfl) ?_
      refine lv_iload hx hb dX6_wouldTrouble_69 (lv_at hl 6 rfl) ?_
      refine ro_V (v := .int (mX6_walks x pp mill ((x 0) ((((pp + 14) + (2 * house)) + 0)).toNatClampNeg) hour)) (rest := []) (As := [.int pp, .int mill, .int ((x 0) ((((pp + 14) + (2 * house)) + 0)).toNatClampNeg), .int hour]) hx hb hml hown hts hl (MX6_walks l D q h x pp mill ((x 0) ((((pp + 14) + (2 * house)) + 0)).toNatClampNeg) hour (rg_t (i := pp) (x := (pp).toInt) rfl (by omega)) (rg_t (i := mill) (x := (mill).toInt) rfl (by omega))) gX6_wouldTrouble_X6_walks rfl kX6_walks ⟨Nat.le_of_ble_eq_true rfl, Nat.le_of_ble_eq_true rfl⟩ rfl rfl hP (dT hD) hG (ci := 4) rfl rfl rfl rfl (Nat.le_of_ble_eq_true rfl) dX6_wouldTrouble_71 ⟨Nat.zero_le _, Nat.zero_le _⟩ ?_
      exact ro_zret hx hb hr hk (zX6_walks x pp mill ((x 0) ((((pp + 14) + (2 * house)) + 0)).toNatClampNeg) hour) hR dX6_wouldTrouble_74
    · rw [if_pos c_2] at hR
      have tc_2 : kind.toInt = 0 := i_eq.mp c_2
      refine lv_aload_n hx hb dX6_wouldTrouble_36 rfl (lv_at hl 1 rfl) ?_
      refine lv_iload_n hx hb dX6_wouldTrouble_37 rfl (lv_at hl 2 rfl) ?_
      refine lv_iload_n hx hb dX6_wouldTrouble_38 rfl (lv_at hl 4 rfl) ?_
      refine lv_iload hx hb dX6_wouldTrouble_39 (lv_at hl 0 rfl) ?_
      refine lv_iload hx hb dX6_wouldTrouble_41 (lv_at hl 6 rfl) ?_
      refine ro_V (v := .int (mX6_loud x pp mill ((x 0) ((((pp + 14) + (2 * house)) + 0)).toNatClampNeg) hour)) (rest := []) (As := [.int pp, .int mill, .int ((x 0) ((((pp + 14) + (2 * house)) + 0)).toNatClampNeg), .int hour]) hx hb hml hown hts hl (MX6_loud l D q h x pp mill ((x 0) ((((pp + 14) + (2 * house)) + 0)).toNatClampNeg) hour (rg_t (i := pp) (x := (pp).toInt) rfl (by omega)) (rg_t (i := mill) (x := (mill).toInt) rfl (by omega)) (rg_t (i := hour) (x := (hour).toInt) rfl (by omega))) gX6_wouldTrouble_X6_loud rfl kX6_loud ⟨Nat.le_of_ble_eq_true rfl, Nat.le_of_ble_eq_true rfl⟩ rfl rfl hP (dT hD) hG (ci := 4) rfl rfl rfl rfl (Nat.le_of_ble_eq_true rfl) dX6_wouldTrouble_43 ⟨Nat.zero_le _, Nat.zero_le _⟩ ?_
      refine lv_aload_n hx hb dX6_wouldTrouble_46 rfl (lv_at hl 1 rfl) ?_
      refine lv_iload_n hx hb dX6_wouldTrouble_47 rfl (lv_at hl 2 rfl) ?_
      refine lv_iload hx hb dX6_wouldTrouble_48 (lv_at hl 6 rfl) ?_
      refine ro_V (v := .int (mX6_borne x pp hour)) (rest := [.int (mX6_loud x pp mill ((x 0) ((((pp + 14) + (2 * house)) + 0)).toNatClampNeg) hour)]) (As := [.int pp, .int hour]) hx hb hml hown hts hl (MX6_borne l D q h x pp hour (rg_t (i := pp) (x := (pp).toInt) rfl (by omega))) gX6_wouldTrouble_X6_borne rfl kX6_borne ⟨Nat.le_of_ble_eq_true rfl, Nat.le_of_ble_eq_true rfl⟩ rfl rfl hP (dT hD) hG (ci := 4) rfl rfl rfl rfl (Nat.le_of_ble_eq_true rfl) dX6_wouldTrouble_50 ⟨Nat.zero_le _, Nat.zero_le _⟩ ?_
      refine lv_icmp_le (tgt := 60) hx hb dX6_wouldTrouble_53 (by decide) (fun c_3 => ?_) (fun c_3 => ?_)
      · rw [if_pos c_3] at hR
        have tc_3 : (mX6_loud x pp mill ((x 0) ((((pp + 14) + (2 * house)) + 0)).toNatClampNeg) hour).toInt ≤ (mX6_borne x pp hour).toInt := i_le.mp c_3
        refine lv_iconst (v := 0) hx hb dX6_wouldTrouble_60 (by decide) ?_
        refine lv_goto (tgt := 74) hx hb dX6_wouldTrouble_61 (by decide) ?_
        exact ro_zret hx hb hr hk (Or.inl rfl) hR dX6_wouldTrouble_74
      · rw [if_neg c_3] at hR
        have tc_3 : ¬ (mX6_loud x pp mill ((x 0) ((((pp + 14) + (2 * house)) + 0)).toNatClampNeg) hour).toInt ≤ (mX6_borne x pp hour).toInt := fun z => c_3 (i_le.mpr z)
        refine lv_iconst (v := 1) hx hb dX6_wouldTrouble_56 (by decide) ?_
        refine lv_goto (tgt := 74) hx hb dX6_wouldTrouble_57 (by decide) ?_
        exact ro_zret hx hb hr hk (Or.inr rfl) hR dX6_wouldTrouble_74
  · rw [if_neg c_1] at hR
    have tc_1 : ¬ 2 ≤ ((x 0) (((pp + 34) + hour)).toNatClampNeg).toInt := fun z => c_1 (i_le.mpr z)
    refine lv_iconst (v := 0) hx hb dX6_wouldTrouble_29 (by decide) ?_
    exact ro_zret hx hb hr hk (Or.inl rfl) hR dX6_wouldTrouble_30

def mX6_wouldTroubleAny (x : Nat → Nat → Int32) (pp house mill hour : Int32) : Int32 := (if (mX6_wouldTrouble x pp house mill 0 hour) = 0 then (if (mX6_wouldTrouble x pp house mill 1 hour) = 0 then 0 else 1) else 1)
theorem kX6_wouldTroubleAny : yX6_wouldTroubleAny.cls = RX6 ∧ yX6_wouldTroubleAny.cls ≠ "java/lang/invoke/MethodHandle" ∧ yX6_wouldTroubleAny.cls ≠ "java/lang/invoke/VarHandle" ∧ (parseMethodDescriptor yX6_wouldTroubleAny.desc).map (fun d => d.parameters.length) = some 4 := by decide +kernel
set_option maxHeartbeats 4000000 in
set_option maxRecDepth 100000 in
theorem MX6_wouldTroubleAny (l : Launch) (D : va_G) (q : Nat → ClassId) (h : Nat → Nat) (x : Nat → Nat → Int32) (pp house mill hour : Int32) (hpp : 0 ≤ pp.toInt ∧ pp.toInt < 149) (hhouse : 0 ≤ house.toInt ∧ house.toInt < 10) (hmill : 0 ≤ mill.toInt ∧ mill.toInt < 4) (hhour : 0 ≤ hour.toInt ∧ hour.toInt < 24) : roM l D (tyq q) yX6_wouldTroubleAny wsX6_wouldTroubleAny ({ frames := 5, cells := 0, slots := 0, locals := 121 } : Room) [.ref (h 0), .int pp, .int house, .int mill, .int hour] (wM q h x) (some (.int (mX6_wouldTroubleAny x pp house mill hour))) := by
  obtain ⟨R, hR⟩ : ∃ z, (mX6_wouldTroubleAny x pp house mill hour) = z := ⟨_, rfl⟩
  rw [hR]
  unfold mX6_wouldTroubleAny at hR
  refine roM.of (cc := cX6_wouldTroubleAny) (maxL := 5) (ret := (some .boolean)) (by decide) rfl (Nat.le_of_ble_eq_true rfl) ?_
  intro p e s m below meth c ls hx hb hr hk hml hown hts hP hD hG hl
  have hl : lv_has ls 5 [(0, .ref (h 0)), (1, .int pp), (2, .int house), (3, .int mill), (4, .int hour)] := hl
  refine lv_aload_n hx hb dX6_wouldTroubleAny_0 rfl (lv_at hl 0 rfl) ?_
  refine lv_iload_n hx hb dX6_wouldTroubleAny_1 rfl (lv_at hl 1 rfl) ?_
  refine lv_iload_n hx hb dX6_wouldTroubleAny_2 rfl (lv_at hl 2 rfl) ?_
  refine lv_iload_n hx hb dX6_wouldTroubleAny_3 rfl (lv_at hl 3 rfl) ?_
  refine lv_iconst (v := 0) hx hb dX6_wouldTroubleAny_4 (by decide) ?_
  refine lv_iload hx hb dX6_wouldTroubleAny_5 (lv_at hl 4 rfl) ?_
  refine ro_V (v := .int (mX6_wouldTrouble x pp house mill 0 hour)) (rest := []) (As := [.int pp, .int house, .int mill, .int 0, .int hour]) hx hb hml hown hts hl (MX6_wouldTrouble l D q h x pp house mill 0 hour (rg_t (i := pp) (x := (pp).toInt) rfl (by omega)) (rg_t (i := house) (x := (house).toInt) rfl (by omega)) (rg_t (i := mill) (x := (mill).toInt) rfl (by omega)) (rg_t (i := hour) (x := (hour).toInt) rfl (by omega))) gX6_wouldTroubleAny_X6_wouldTrouble rfl kX6_wouldTrouble ⟨Nat.le_of_ble_eq_true rfl, Nat.le_of_ble_eq_true rfl⟩ rfl rfl hP (dT hD) hG (ci := 4) rfl rfl rfl rfl (Nat.le_of_ble_eq_true rfl) dX6_wouldTroubleAny_7 ⟨Nat.zero_le _, Nat.zero_le _⟩ ?_
  refine lv_if_ne (tgt := 26) hx hb dX6_wouldTroubleAny_10 (by decide) (fun c_1 => ?_) (fun c_1 => ?_)
  · rw [if_neg c_1] at hR
    have tc_1 : ¬ (mX6_wouldTrouble x pp house mill 0 hour).toInt = 0 := fun z => c_1 (i_eq.mpr z)
    refine lv_iconst (v := 1) hx hb dX6_wouldTroubleAny_26 (by decide) ?_
    refine lv_goto (tgt := 31) hx hb dX6_wouldTroubleAny_27 (by decide) ?_
    exact ro_zret hx hb hr hk (Or.inr rfl) hR dX6_wouldTroubleAny_31
  · rw [if_pos c_1] at hR
    have tc_1 : (mX6_wouldTrouble x pp house mill 0 hour).toInt = 0 := i_eq.mp c_1
    refine lv_aload_n hx hb dX6_wouldTroubleAny_13 rfl (lv_at hl 0 rfl) ?_
    refine lv_iload_n hx hb dX6_wouldTroubleAny_14 rfl (lv_at hl 1 rfl) ?_
    refine lv_iload_n hx hb dX6_wouldTroubleAny_15 rfl (lv_at hl 2 rfl) ?_
    refine lv_iload_n hx hb dX6_wouldTroubleAny_16 rfl (lv_at hl 3 rfl) ?_
    refine lv_iconst (v := 1) hx hb dX6_wouldTroubleAny_17 (by decide) ?_
    refine lv_iload hx hb dX6_wouldTroubleAny_18 (lv_at hl 4 rfl) ?_
    refine ro_V (v := .int (mX6_wouldTrouble x pp house mill 1 hour)) (rest := []) (As := [.int pp, .int house, .int mill, .int 1, .int hour]) hx hb hml hown hts hl (MX6_wouldTrouble l D q h x pp house mill 1 hour (rg_t (i := pp) (x := (pp).toInt) rfl (by omega)) (rg_t (i := house) (x := (house).toInt) rfl (by omega)) (rg_t (i := mill) (x := (mill).toInt) rfl (by omega)) (rg_t (i := hour) (x := (hour).toInt) rfl (by omega))) gX6_wouldTroubleAny_X6_wouldTrouble rfl kX6_wouldTrouble ⟨Nat.le_of_ble_eq_true rfl, Nat.le_of_ble_eq_true rfl⟩ rfl rfl hP (dT hD) hG (ci := 4) rfl rfl rfl rfl (Nat.le_of_ble_eq_true rfl) dX6_wouldTroubleAny_20 ⟨Nat.zero_le _, Nat.zero_le _⟩ ?_
    refine lv_if_eq (tgt := 30) hx hb dX6_wouldTroubleAny_23 (by decide) (fun c_2 => ?_) (fun c_2 => ?_)
    · rw [if_pos c_2] at hR
      have tc_2 : (mX6_wouldTrouble x pp house mill 1 hour).toInt = 0 := i_eq.mp c_2
      refine lv_iconst (v := 0) hx hb dX6_wouldTroubleAny_30 (by decide) ?_
      exact ro_zret hx hb hr hk (Or.inl rfl) hR dX6_wouldTroubleAny_31
    · rw [if_neg c_2] at hR
      have tc_2 : ¬ (mX6_wouldTrouble x pp house mill 1 hour).toInt = 0 := fun z => c_2 (i_eq.mpr z)
      refine lv_iconst (v := 1) hx hb dX6_wouldTroubleAny_26 (by decide) ?_
      refine lv_goto (tgt := 31) hx hb dX6_wouldTroubleAny_27 (by decide) ?_
      exact ro_zret hx hb hr hk (Or.inr rfl) hR dX6_wouldTroubleAny_31

def mX6_reason (x : Nat → Nat → Int32) (pp house mill kind hour : Int32) : Int32 := (if ((x 0) ((((pp + 14) + (2 * house)) + 1)).toNatClampNeg) < 3 then (if ((((x 0) (((((pp + 68) + (8 * house)) + (2 * mill)) + kind)).toNatClampNeg) >>> (hour &&& 31)) &&& 1) = 1 then 2 else (if (mX6_isTied x pp mill hour) = 0 then (if 2 ≤ ((x 0) (((pp + 34) + hour)).toNatClampNeg) then (if (mX6_wouldTrouble x pp house mill kind hour) = 0 then (if kind = 0 then 5 else (if (mX6_isSun hour) = 0 then 5 else 6)) else 0) else 4) else 3)) else 1)
theorem kX6_reason : yX6_reason.cls = RX6 ∧ yX6_reason.cls ≠ "java/lang/invoke/MethodHandle" ∧ yX6_reason.cls ≠ "java/lang/invoke/VarHandle" ∧ (parseMethodDescriptor yX6_reason.desc).map (fun d => d.parameters.length) = some 5 := by decide +kernel
theorem iX6_reason_X6 : ∀ w ∈ wsX60, w ∈ wsX6_reason := fun w h => (List.mem_cons_of_mem _ (List.mem_append_right _ h))
set_option maxHeartbeats 4000000 in
set_option maxRecDepth 100000 in
theorem MX6_reason (l : Launch) (D : va_G) (q : Nat → ClassId) (h : Nat → Nat) (x : Nat → Nat → Int32) (pp house mill kind hour : Int32) (hpp : 0 ≤ pp.toInt ∧ pp.toInt < 149) (hhouse : 0 ≤ house.toInt ∧ house.toInt < 10) (hmill : 0 ≤ mill.toInt ∧ mill.toInt < 4) (hkind : 0 ≤ kind.toInt ∧ kind.toInt < 2) (hhour : 0 ≤ hour.toInt ∧ hour.toInt < 24) : roM l D (tyq q) yX6_reason wsX6_reason ({ frames := 5, cells := 0, slots := 0, locals := 121 } : Room) [.ref (h 0), .int pp, .int house, .int mill, .int kind, .int hour] (wM q h x) (some (.int (mX6_reason x pp house mill kind hour))) := by
  obtain ⟨R, hR⟩ : ∃ z, (mX6_reason x pp house mill kind hour) = z := ⟨_, rfl⟩
  rw [hR]
  unfold mX6_reason at hR
  refine roM.of (cc := cX6_reason) (maxL := 7) (ret := (some .int)) (by decide) rfl (Nat.le_of_ble_eq_true rfl) ?_
  intro p e s m below meth c ls hx hb hr hk hml hown hts hP hD hG hl
  have hl : lv_has ls 7 [(0, .ref (h 0)), (1, .int pp), (2, .int house), (3, .int mill), (4, .int kind), (5, .int hour)] := hl
  refine lv_aload_n hx hb dX6_reason_0 rfl (lv_at hl 0 rfl) ?_
  refine va_get (D := D) (ci := 4) (v := .ref (h 1)) (C := RX6) (T := TX6) (N := 7) hx hb hts iX6_reason_X6 hown hG.1 hP 0 rfl rfl 0 (by decide) (hts (.fieldLink RX6 7 "MillComplaintsModel" "s" "[I") (List.mem_of_getElem? (i := 1) rfl)) (fun _ h9 => h9) rfl dX6_reason_1 ?_
  refine lv_iload_n hx hb dX6_reason_4 rfl (lv_at hl 1 rfl) ?_
  refine lv_iload_n hx hb dX6_reason_5 rfl (lv_at hl 2 rfl) ?_
  refine lv_iconst (v := 1) hx hb dX6_reason_6 (by decide) ?_
  refine ro_S (v := .int (((pp + 14) + (2 * house)) + 1)) (rest := [.ref (h 1)]) (As := [.int pp, .int house, .int 1]) hx hb hml hown hts hl (MX6_ofHouse l D q pp house 1) gX6_reason_X6_ofHouse rfl kX6_ofHouse ⟨Nat.le_of_ble_eq_true rfl, Nat.le_of_ble_eq_true rfl⟩ rfl rfl (hP.sub (ws' := []) [] rfl) (dT (hD.sub (ws' := []) [] (by decide) rfl)) hG rfl rfl (Nat.le_of_ble_eq_true rfl) dX6_reason_7 ⟨Nat.zero_le _, Nat.zero_le _⟩ ?_
  refine va_iald hx hb hG.1 hP 1 0 rfl rfl (ix_t (i := (((pp + 14) + (2 * house)) + 1)) (x := ((((pp).toInt + 14) + (2 * (house).toInt)) + 1)) (n := 296) (ti_add (ti_add (ti_add rfl (show (14 : Int32).toInt = 14 from rfl) (by omega)) (ti_mul (show (2 : Int32).toInt = 2 from rfl) rfl (by omega)) (by omega)) (show (1 : Int32).toInt = 1 from rfl) (by omega)) (by omega)) dX6_reason_10 ?_
  refine lv_iconst (v := 3) hx hb dX6_reason_11 (by decide) ?_
  refine lv_icmp_lt (tgt := 17) hx hb dX6_reason_12 (by decide) (fun c_1 => ?_) (fun c_1 => ?_)
  · rw [if_pos c_1] at hR
    have tc_1 : ((x 0) ((((pp + 14) + (2 * house)) + 1)).toNatClampNeg).toInt < 3 := i_lt.mp c_1
    refine lv_aload_n hx hb dX6_reason_17 rfl (lv_at hl 0 rfl) ?_
    refine va_get (D := D) (ci := 4) (v := .ref (h 1)) (C := RX6) (T := TX6) (N := 7) hx hb hts iX6_reason_X6 hown hG.1 hP 0 rfl rfl 0 (by decide) (hts (.fieldLink RX6 7 "MillComplaintsModel" "s" "[I") (List.mem_of_getElem? (i := 1) rfl)) (fun _ h9 => h9) rfl dX6_reason_18 ?_
    refine lv_iload_n hx hb dX6_reason_21 rfl (lv_at hl 1 rfl) ?_
    refine lv_iload_n hx hb dX6_reason_22 rfl (lv_at hl 2 rfl) ?_
    refine lv_iload_n hx hb dX6_reason_23 rfl (lv_at hl 3 rfl) ?_
    refine lv_iload hx hb dX6_reason_24 (lv_at hl 4 rfl) ?_
    refine ro_S (v := .int ((((pp + 68) + (8 * house)) + (2 * mill)) + kind)) (rest := [.ref (h 1)]) (As := [.int pp, .int house, .int mill, .int kind]) hx hb hml hown hts hl (MX6_stands l D q pp house mill kind) gX6_reason_X6_stands rfl kX6_stands ⟨Nat.le_of_ble_eq_true rfl, Nat.le_of_ble_eq_true rfl⟩ rfl rfl (hP.sub (ws' := []) [] rfl) (dT (hD.sub (ws' := []) [] (by decide) rfl)) hG rfl rfl (Nat.le_of_ble_eq_true rfl) dX6_reason_26 ⟨Nat.zero_le _, Nat.zero_le _⟩ ?_
    refine va_iald hx hb hG.1 hP 1 0 rfl rfl (ix_t (i := ((((pp + 68) + (8 * house)) + (2 * mill)) + kind)) (x := (((((pp).toInt + 68) + (8 * (house).toInt)) + (2 * (mill).toInt)) + (kind).toInt)) (n := 296) (ti_add (ti_add (ti_add (ti_add rfl (show (68 : Int32).toInt = 68 from rfl) (by omega)) (ti_mul (show (8 : Int32).toInt = 8 from rfl) rfl (by omega)) (by omega)) (ti_mul (show (2 : Int32).toInt = 2 from rfl) rfl (by omega)) (by omega)) rfl (by omega)) (by omega)) dX6_reason_29 ?_
    refine lv_iload hx hb dX6_reason_30 (lv_at hl 5 rfl) ?_
    refine lv_ishr hx hb dX6_reason_32 ?_
    refine lv_iconst (v := 1) hx hb dX6_reason_33 (by decide) ?_
    refine lv_iand hx hb dX6_reason_34 ?_
    refine lv_iconst (v := 1) hx hb dX6_reason_35 (by decide) ?_
    refine lv_icmp_ne (tgt := 41) hx hb dX6_reason_36 (by decide) (fun c_2 => ?_) (fun c_2 => ?_)
    · rw [if_neg c_2] at hR
      have tc_2 : ¬ ((((x 0) (((((pp + 68) + (8 * house)) + (2 * mill)) + kind)).toNatClampNeg) >>> (hour &&& 31)) &&& 1).toInt = 1 := fun z => c_2 (i_eq.mpr z)
      refine lv_aload_n hx hb dX6_reason_41 rfl (lv_at hl 0 rfl) ?_
      refine lv_iload_n hx hb dX6_reason_42 rfl (lv_at hl 1 rfl) ?_
      refine lv_iload_n hx hb dX6_reason_43 rfl (lv_at hl 3 rfl) ?_
      refine lv_iload hx hb dX6_reason_44 (lv_at hl 5 rfl) ?_
      refine ro_V (v := .int (mX6_isTied x pp mill hour)) (rest := []) (As := [.int pp, .int mill, .int hour]) hx hb hml hown hts hl (MX6_isTied l D q h x pp mill hour (rg_t (i := pp) (x := (pp).toInt) rfl (by omega)) (rg_t (i := mill) (x := (mill).toInt) rfl (by omega))) gX6_reason_X6_isTied rfl kX6_isTied ⟨Nat.le_of_ble_eq_true rfl, Nat.le_of_ble_eq_true rfl⟩ rfl rfl hP (dT hD) hG (ci := 4) rfl rfl rfl rfl (Nat.le_of_ble_eq_true rfl) dX6_reason_46 ⟨Nat.zero_le _, Nat.zero_le _⟩ ?_
      refine lv_if_eq (tgt := 54) hx hb dX6_reason_49 (by decide) (fun c_3 => ?_) (fun c_3 => ?_)
      · rw [if_pos c_3] at hR
        have tc_3 : (mX6_isTied x pp mill hour).toInt = 0 := i_eq.mp c_3
        refine lv_aload_n hx hb dX6_reason_54 rfl (lv_at hl 0 rfl) ?_
        refine va_get (D := D) (ci := 4) (v := .ref (h 1)) (C := RX6) (T := TX6) (N := 7) hx hb hts iX6_reason_X6 hown hG.1 hP 0 rfl rfl 0 (by decide) (hts (.fieldLink RX6 7 "MillComplaintsModel" "s" "[I") (List.mem_of_getElem? (i := 1) rfl)) (fun _ h9 => h9) rfl dX6_reason_55 ?_
        refine lv_iload_n hx hb dX6_reason_58 rfl (lv_at hl 1 rfl) ?_
        refine lv_bipush (v := 34) hx hb dX6_reason_59 (by decide) ?_
        refine lv_iadd hx hb dX6_reason_61 ?_
        refine lv_iload hx hb dX6_reason_62 (lv_at hl 5 rfl) ?_
        refine lv_iadd hx hb dX6_reason_64 ?_
        refine va_iald hx hb hG.1 hP 1 0 rfl rfl (ix_t (i := ((pp + 34) + hour)) (x := (((pp).toInt + 34) + (hour).toInt)) (n := 296) (ti_add (ti_add rfl (show (34 : Int32).toInt = 34 from rfl) (by omega)) rfl (by omega)) (by omega)) dX6_reason_65 ?_
        refine lv_iconst (v := 2) hx hb dX6_reason_66 (by decide) ?_
        refine lv_icmp_ge (tgt := 72) hx hb dX6_reason_67 (by decide) (fun c_4 => ?_) (fun c_4 => ?_)
        · rw [if_pos c_4] at hR
          have tc_4 : 2 ≤ ((x 0) (((pp + 34) + hour)).toNatClampNeg).toInt := i_le.mp c_4
          refine lv_aload_n hx hb dX6_reason_72 rfl (lv_at hl 0 rfl) ?_
          refine lv_iload_n hx hb dX6_reason_73 rfl (lv_at hl 1 rfl) ?_
          refine lv_iload_n hx hb dX6_reason_74 rfl (lv_at hl 2 rfl) ?_
          refine lv_iload_n hx hb dX6_reason_75 rfl (lv_at hl 3 rfl) ?_
          refine lv_iload hx hb dX6_reason_76 (lv_at hl 4 rfl) ?_
          refine lv_iload hx hb dX6_reason_78 (lv_at hl 5 rfl) ?_
          refine ro_V (v := .int (mX6_wouldTrouble x pp house mill kind hour)) (rest := []) (As := [.int pp, .int house, .int mill, .int kind, .int hour]) hx hb hml hown hts hl (MX6_wouldTrouble l D q h x pp house mill kind hour (rg_t (i := pp) (x := (pp).toInt) rfl (by omega)) (rg_t (i := house) (x := (house).toInt) rfl (by omega)) (rg_t (i := mill) (x := (mill).toInt) rfl (by omega)) (rg_t (i := hour) (x := (hour).toInt) rfl (by omega))) gX6_reason_X6_wouldTrouble rfl kX6_wouldTrouble ⟨Nat.le_of_ble_eq_true rfl, Nat.le_of_ble_eq_true rfl⟩ rfl rfl hP (dT hD) hG (ci := 4) rfl rfl rfl rfl (Nat.le_of_ble_eq_true rfl) dX6_reason_80 ⟨Nat.zero_le _, Nat.zero_le _⟩ ?_
          refine lv_istore (lv' := [(6, .int (mX6_wouldTrouble x pp house mill kind hour)), (0, .ref (h 0)), (1, .int pp), (2, .int house), (3, .int mill), (4, .int kind), (5, .int hour)]) hx hb dX6_reason_83 hl (by decide) rfl (fun ls hl => ?_)
          refine lv_iload hx hb dX6_reason_85 (lv_at hl 0 rfl) ?_
          refine lv_if_eq (tgt := 94) hx hb dX6_reason_87 (by decide) (fun c_5 => ?_) (fun c_5 => ?_)
          · rw [if_pos c_5] at hR
            have tc_5 : (mX6_wouldTrouble x pp house mill kind hour).toInt = 0 := i_eq.mp c_5
            refine lv_iload hx hb dX6_reason_94 (lv_at hl 5 rfl) ?_
            refine lv_if_eq (tgt := 107) hx hb dX6_reason_96 (by decide) (fun c_6 => ?_) (fun c_6 => ?_)
            · rw [if_pos c_6] at hR
              have tc_6 : kind.toInt = 0 := i_eq.mp c_6
              refine lv_iconst (v := 5) hx hb dX6_reason_107 (by decide) ?_
              refine lv_goto (tgt := 113) hx hb dX6_reason_108 (by decide) ?_
              exact ro_iret hx hb hr hk hR dX6_reason_113
            · rw [if_neg c_6] at hR
              have tc_6 : ¬ kind.toInt = 0 := fun z => c_6 (i_eq.mpr z)
              refine lv_iload hx hb dX6_reason_99 (lv_at hl 6 rfl) ?_
              refine ro_S (v := .int (mX6_isSun hour)) (rest := []) (As := [.int hour]) hx hb hml hown hts hl (MX6_isSun l D q hour) gX6_reason_X6_isSun rfl kX6_isSun ⟨Nat.le_of_ble_eq_true rfl, Nat.le_of_ble_eq_true rfl⟩ rfl rfl (hP.sub (ws' := []) [] rfl) (dT (hD.sub (ws' := []) [] (by decide) rfl)) hG rfl rfl (Nat.le_of_ble_eq_true rfl) dX6_reason_101 ⟨Nat.zero_le _, Nat.zero_le _⟩ ?_
              refine lv_if_ne (tgt := 111) hx hb dX6_reason_104 (by decide) (fun c_7 => ?_) (fun c_7 => ?_)
              · rw [if_neg c_7] at hR
                have tc_7 : ¬ (mX6_isSun hour).toInt = 0 := fun z => c_7 (i_eq.mpr z)
                refine lv_bipush (v := 6) hx hb dX6_reason_111 (by decide) ?_
                exact ro_iret hx hb hr hk hR dX6_reason_113
              · rw [if_pos c_7] at hR
                have tc_7 : (mX6_isSun hour).toInt = 0 := i_eq.mp c_7
                refine lv_iconst (v := 5) hx hb dX6_reason_107 (by decide) ?_
                refine lv_goto (tgt := 113) hx hb dX6_reason_108 (by decide) ?_
                exact ro_iret hx hb hr hk hR dX6_reason_113
          · rw [if_neg c_5] at hR
            have tc_5 : ¬ (mX6_wouldTrouble x pp house mill kind hour).toInt = 0 := fun z => c_5 (i_eq.mpr z)
            refine lv_iconst (v := 0) hx hb dX6_reason_90 (by decide) ?_
            refine lv_goto (tgt := 113) hx hb dX6_reason_91 (by decide) ?_
            exact ro_iret hx hb hr hk hR dX6_reason_113
        · rw [if_neg c_4] at hR
          have tc_4 : ¬ 2 ≤ ((x 0) (((pp + 34) + hour)).toNatClampNeg).toInt := fun z => c_4 (i_le.mpr z)
          refine lv_iconst (v := 4) hx hb dX6_reason_70 (by decide) ?_
          exact ro_iret hx hb hr hk hR dX6_reason_71
      · rw [if_neg c_3] at hR
        have tc_3 : ¬ (mX6_isTied x pp mill hour).toInt = 0 := fun z => c_3 (i_eq.mpr z)
        refine lv_iconst (v := 3) hx hb dX6_reason_52 (by decide) ?_
        exact ro_iret hx hb hr hk hR dX6_reason_53
    · rw [if_pos c_2] at hR
      have tc_2 : ((((x 0) (((((pp + 68) + (8 * house)) + (2 * mill)) + kind)).toNatClampNeg) >>> (hour &&& 31)) &&& 1).toInt = 1 := i_eq.mp c_2
      refine lv_iconst (v := 2) hx hb dX6_reason_39 (by decide) ?_
      exact ro_iret hx hb hr hk hR dX6_reason_40
  · rw [if_neg c_1] at hR
    have tc_1 : ¬ ((x 0) ((((pp + 14) + (2 * house)) + 1)).toNatClampNeg).toInt < 3 := fun z => c_1 (i_lt.mpr z)
    refine lv_iconst (v := 1) hx hb dX6_reason_15 (by decide) ?_
    exact ro_iret hx hb hr hk hR dX6_reason_16

def mX6_wrong (x : Nat → Nat → Int32) (pp house mill kind hour : Int32) : Int32 := (if (mX6_isHouse x pp house) = 0 then (-1) else (if (mX6_isMill x pp mill) = 0 then (-1) else (if (mX6_isHour hour) = 0 then (-1) else (if (mX6_isRight kind hour) = 0 then (-2) else 0))))
theorem kX6_wrong : yX6_wrong.cls = RX6 ∧ yX6_wrong.cls ≠ "java/lang/invoke/MethodHandle" ∧ yX6_wrong.cls ≠ "java/lang/invoke/VarHandle" ∧ (parseMethodDescriptor yX6_wrong.desc).map (fun d => d.parameters.length) = some 5 := by decide +kernel
set_option maxHeartbeats 4000000 in
set_option maxRecDepth 100000 in
theorem MX6_wrong (l : Launch) (D : va_G) (q : Nat → ClassId) (h : Nat → Nat) (x : Nat → Nat → Int32) (pp house mill kind hour : Int32) (hpp : 0 ≤ pp.toInt ∧ pp.toInt < 149) : roM l D (tyq q) yX6_wrong wsX6_wrong ({ frames := 3, cells := 0, slots := 0, locals := 63 } : Room) [.ref (h 0), .int pp, .int house, .int mill, .int kind, .int hour] (wM q h x) (some (.int (mX6_wrong x pp house mill kind hour))) := by
  obtain ⟨R, hR⟩ : ∃ z, (mX6_wrong x pp house mill kind hour) = z := ⟨_, rfl⟩
  rw [hR]
  unfold mX6_wrong at hR
  refine roM.of (cc := cX6_wrong) (maxL := 6) (ret := (some .int)) (by decide) rfl (Nat.le_of_ble_eq_true rfl) ?_
  intro p e s m below meth c ls hx hb hr hk hml hown hts hP hD hG hl
  have hl : lv_has ls 6 [(0, .ref (h 0)), (1, .int pp), (2, .int house), (3, .int mill), (4, .int kind), (5, .int hour)] := hl
  refine lv_aload_n hx hb dX6_wrong_0 rfl (lv_at hl 0 rfl) ?_
  refine lv_iload_n hx hb dX6_wrong_1 rfl (lv_at hl 1 rfl) ?_
  refine lv_iload_n hx hb dX6_wrong_2 rfl (lv_at hl 2 rfl) ?_
  refine ro_V (v := .int (mX6_isHouse x pp house)) (rest := []) (As := [.int pp, .int house]) hx hb hml hown hts hl (MX6_isHouse l D q h x pp house (rg_t (i := pp) (x := (pp).toInt) rfl (by omega))) gX6_wrong_X6_isHouse rfl kX6_isHouse ⟨Nat.le_of_ble_eq_true rfl, Nat.le_of_ble_eq_true rfl⟩ rfl rfl hP (dT hD) hG (ci := 4) rfl rfl rfl rfl (Nat.le_of_ble_eq_true rfl) dX6_wrong_3 ⟨Nat.zero_le _, Nat.zero_le _⟩ ?_
  refine lv_if_eq (tgt := 26) hx hb dX6_wrong_6 (by decide) (fun c_1 => ?_) (fun c_1 => ?_)
  · rw [if_pos c_1] at hR
    have tc_1 : (mX6_isHouse x pp house).toInt = 0 := i_eq.mp c_1
    refine lv_iconst (v := (-1)) hx hb dX6_wrong_26 (by decide) ?_
    exact ro_iret hx hb hr hk hR dX6_wrong_27
  · rw [if_neg c_1] at hR
    have tc_1 : ¬ (mX6_isHouse x pp house).toInt = 0 := fun z => c_1 (i_eq.mpr z)
    refine lv_aload_n hx hb dX6_wrong_9 rfl (lv_at hl 0 rfl) ?_
    refine lv_iload_n hx hb dX6_wrong_10 rfl (lv_at hl 1 rfl) ?_
    refine lv_iload_n hx hb dX6_wrong_11 rfl (lv_at hl 3 rfl) ?_
    refine ro_V (v := .int (mX6_isMill x pp mill)) (rest := []) (As := [.int pp, .int mill]) hx hb hml hown hts hl (MX6_isMill l D q h x pp mill (rg_t (i := pp) (x := (pp).toInt) rfl (by omega))) gX6_wrong_X6_isMill rfl kX6_isMill ⟨Nat.le_of_ble_eq_true rfl, Nat.le_of_ble_eq_true rfl⟩ rfl rfl hP (dT hD) hG (ci := 4) rfl rfl rfl rfl (Nat.le_of_ble_eq_true rfl) dX6_wrong_12 ⟨Nat.zero_le _, Nat.zero_le _⟩ ?_
    refine lv_if_eq (tgt := 26) hx hb dX6_wrong_15 (by decide) (fun c_2 => ?_) (fun c_2 => ?_)
    · rw [if_pos c_2] at hR
      have tc_2 : (mX6_isMill x pp mill).toInt = 0 := i_eq.mp c_2
      refine lv_iconst (v := (-1)) hx hb dX6_wrong_26 (by decide) ?_
      exact ro_iret hx hb hr hk hR dX6_wrong_27
    · rw [if_neg c_2] at hR
      have tc_2 : ¬ (mX6_isMill x pp mill).toInt = 0 := fun z => c_2 (i_eq.mpr z)
      refine lv_iload hx hb dX6_wrong_18 (lv_at hl 5 rfl) ?_
      refine ro_S (v := .int (mX6_isHour hour)) (rest := []) (As := [.int hour]) hx hb hml hown hts hl (MX6_isHour l D q hour) gX6_wrong_X6_isHour rfl kX6_isHour ⟨Nat.le_of_ble_eq_true rfl, Nat.le_of_ble_eq_true rfl⟩ rfl rfl (hP.sub (ws' := []) [] rfl) (dT (hD.sub (ws' := []) [] (by decide) rfl)) hG rfl rfl (Nat.le_of_ble_eq_true rfl) dX6_wrong_20 ⟨Nat.zero_le _, Nat.zero_le _⟩ ?_
      refine lv_if_ne (tgt := 28) hx hb dX6_wrong_23 (by decide) (fun c_3 => ?_) (fun c_3 => ?_)
      · rw [if_neg c_3] at hR
        have tc_3 : ¬ (mX6_isHour hour).toInt = 0 := fun z => c_3 (i_eq.mpr z)
        have fc_3 := f6_isHour c_3
        refine lv_iload hx hb dX6_wrong_28 (lv_at hl 4 rfl) ?_
        refine lv_iload hx hb dX6_wrong_30 (lv_at hl 5 rfl) ?_
        refine ro_S (v := .int (mX6_isRight kind hour)) (rest := []) (As := [.int kind, .int hour]) hx hb hml hown hts hl (MX6_isRight l D q kind hour) gX6_wrong_X6_isRight rfl kX6_isRight ⟨Nat.le_of_ble_eq_true rfl, Nat.le_of_ble_eq_true rfl⟩ rfl rfl (hP.sub (ws' := []) [] rfl) (dT (hD.sub (ws' := []) [] (by decide) rfl)) hG rfl rfl (Nat.le_of_ble_eq_true rfl) dX6_wrong_32 ⟨Nat.zero_le _, Nat.zero_le _⟩ ?_
        refine lv_if_eq (tgt := 42) hx hb dX6_wrong_35 (by decide) (fun c_4 => ?_) (fun c_4 => ?_)
        · rw [if_pos c_4] at hR
          have tc_4 : (mX6_isRight kind hour).toInt = 0 := i_eq.mp c_4
          refine lv_bipush (v := (-2)) hx hb dX6_wrong_42 (by decide) ?_
          exact ro_iret hx hb hr hk hR dX6_wrong_44
        · rw [if_neg c_4] at hR
          have tc_4 : ¬ (mX6_isRight kind hour).toInt = 0 := fun z => c_4 (i_eq.mpr z)
          refine lv_iconst (v := 0) hx hb dX6_wrong_38 (by decide) ?_
          refine lv_goto (tgt := 44) hx hb dX6_wrong_39 (by decide) ?_
          exact ro_iret hx hb hr hk hR dX6_wrong_44
      · rw [if_pos c_3] at hR
        have tc_3 : (mX6_isHour hour).toInt = 0 := i_eq.mp c_3
        refine lv_iconst (v := (-1)) hx hb dX6_wrong_26 (by decide) ?_
        exact ro_iret hx hb hr hk hR dX6_wrong_27
theorem f_wrong {x : Nat → Nat → Int32} {p house mill kind hour : Int32} (hC : cntP x p) (h : ¬ mX6_wrong x p house mill kind hour < 0) : (0 ≤ house.toInt ∧ house.toInt < 10) ∧ (0 ≤ mill.toInt ∧ mill.toInt < 4) ∧ (0 ≤ kind.toInt ∧ kind.toInt < 2) ∧ (0 ≤ hour.toInt ∧ hour.toInt < 24) := by
  unfold mX6_wrong at h
  by_cases h1 : mX6_isHouse x p house = 0
  · rw [if_pos h1] at h; exact absurd (by decide) h
  · rw [if_neg h1] at h
    by_cases h2 : mX6_isMill x p mill = 0
    · rw [if_pos h2] at h; exact absurd (by decide) h
    · rw [if_neg h2] at h
      by_cases h3 : mX6_isHour hour = 0
      · rw [if_pos h3] at h; exact absurd (by decide) h
      · rw [if_neg h3] at h
        by_cases h4 : mX6_isRight kind hour = 0
        · rw [if_pos h4] at h; exact absurd (by decide) h
        · refine ⟨f_isHouse hC h1, f_isMill hC h2, ?_, f6_isHour h3⟩
          unfold mX6_isRight at h4
          by_cases h5 : mX6_in kind 0 1 = 0
          · rw [if_pos h5] at h4; exact absurd rfl h4
          · have h6 := f6_in h5
            have e0 : (0 : Int32).toInt = 0 := rfl
            have e1 : (1 : Int32).toInt = 1 := rfl
            omega
