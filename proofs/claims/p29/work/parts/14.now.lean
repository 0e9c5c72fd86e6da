def mX5_bringMill (v : Nat → Nat → Int32) (a1 a2 : Int32) : Int32 × (Nat → Nat → Int32) := (if (mX5_isYard a2) = 0 then ((-1), v) else (if a1 < 1 then ((-2), v) else (if a1 ≤ 5 then (if (mX4_isFree v a2) = 0 then ((-4), v) else (if (v 9 0) < 4 then (lt (mX5_put 4 (v 3) (v 9 0) a1) (fun q_6 => (lt (setA v 3 q_6) (fun v_7 => (lt (mX5_put 4 (v_7 4) (v 9 0) a2) (fun q_8 => (lt (setA v_7 4 q_8) (fun v_9 => (lt (setA v_9 9 (upd (v_9 9) 0 ((v 9 0) + 1))) (fun v_10 => ((v 9 0), v_10))))))))))) else ((-3), v))) else ((-2), v))))
theorem kX5_bringMill : yX5_bringMill.cls = RX5 ∧ yX5_bringMill.cls ≠ "java/lang/invoke/MethodHandle" ∧ yX5_bringMill.cls ≠ "java/lang/invoke/VarHandle" ∧ (parseMethodDescriptor yX5_bringMill.desc).map (fun d => d.parameters.length) = some 2 := by decide +kernel
theorem iX5_bringMill_X5 : ∀ w ∈ wsX50, w ∈ wsX5_bringMill := fun w h => (List.mem_cons_of_mem _ (List.mem_append_left _ (List.mem_append_right _ h)))
theorem iX5_bringMill_X4 : ∀ w ∈ wsX40, w ∈ wsX5_bringMill := fun w h => (List.mem_cons_of_mem _ (List.mem_append_right _ h))
set_option maxHeartbeats 4000000 in
set_option maxRecDepth 100000 in
theorem MX5_bringMill (l : Launch) (D : va_G) (q : Nat → ClassId) (ad : Nat → Nat → Nat) (sn : Int32) (v : Nat → Nat → Int32) (a1 a2 : Int32)  : muM l D (tyq q) yX5_bringMill wsX5_bringMill ({ frames := 4, cells := 0, slots := 0, locals := 86 } : Room) [.ref (ad 9 0), .int a1, .int a2] (wXN q ad sn v) (some (.int (mX5_bringMill v a1 a2).1)) (wXN q ad sn (mX5_bringMill v a1 a2).2) := by
  obtain ⟨R, hR⟩ : ∃ z, (mX5_bringMill v a1 a2) = z := ⟨_, rfl⟩
  rw [hR]
  unfold mX5_bringMill at hR
  refine muM.of (cc := cX5_bringMill) (maxL := 4) (ret := (some .int)) (by decide) rfl (Nat.le_of_ble_eq_true rfl) ?_
  intro p e s m below meth c ls A hx hb hr hk hml hown hts hP hD hG hA hl
  have hS : va_S A s.heap s.heap [] := va_S.rf
  have hl : lv_has ls 4 [(0, .ref (ad 9 0)), (1, .int a1), (2, .int a2)] := hl
  refine lv_iload_n hx hb dX5_bringMill_0 rfl (lv_at hl 2 rfl) ?_
  refine ro_S (v := .int (mX5_isYard a2)) (rest := []) (As := [.int a2]) hx hb hml hown hts hl (MX5_isYard l D q a2) gX5_bringMill_X5_isYard rfl kX5_isYard ⟨Nat.le_of_ble_eq_true rfl, Nat.le_of_ble_eq_true rfl⟩ rfl rfl (hP.sub (ws' := []) [] rfl) (dT (hD.sub (ws' := []) [] (by decide) rfl)) hG rfl rfl (Nat.le_of_ble_eq_true rfl) dX5_bringMill_1 ⟨Nat.zero_le _, Nat.zero_le _⟩ ?_
  refine lv_if_ne (tgt := 9) hx hb dX5_bringMill_4 (by decide) (fun c_1 => ?_) (fun c_1 => ?_)
  · rw [if_neg c_1] at hR
    refine lv_iload_n hx hb dX5_bringMill_9 rfl (lv_at hl 1 rfl) ?_
    refine lv_iconst (v := 1) hx hb dX5_bringMill_10 (by decide) ?_
    refine lv_icmp_lt (tgt := 19) hx hb dX5_bringMill_11 (by decide) (fun c_2 => ?_) (fun c_2 => ?_)
    · rw [if_pos c_2] at hR
      refine lv_bipush (v := (-2)) hx hb dX5_bringMill_19 (by decide) ?_
      subst hR
      exact mu_iret hx hb hr hk hA hS hP rfl dX5_bringMill_21
    · rw [if_neg c_2] at hR
      refine lv_iload_n hx hb dX5_bringMill_14 rfl (lv_at hl 1 rfl) ?_
      refine lv_iconst (v := 5) hx hb dX5_bringMill_15 (by decide) ?_
      refine lv_icmp_le (tgt := 22) hx hb dX5_bringMill_16 (by decide) (fun c_3 => ?_) (fun c_3 => ?_)
      · rw [if_pos c_3] at hR
        refine lv_aload_n hx hb dX5_bringMill_22 rfl (lv_at hl 0 rfl) ?_
        refine va_get (D := D) (ci := 3) (v := .ref ((ad 0) 0)) (C := RX5) (T := TX5) (N := 6) hx hb hts iX5_bringMill_X5 hown hG.1 hP 0 rfl rfl 0 (by decide) (hts (.fieldLink RX5 12 "MillComplaints" "now" "LMillComplaints$Village;") (List.mem_of_getElem? (i := 1) rfl)) (fun _ h9 => h9) rfl dX5_bringMill_23 ?_
        refine lv_iload_n hx hb dX5_bringMill_26 rfl (lv_at hl 2 rfl) ?_
        refine ro_V (v := .int (mX4_isFree v a2)) (rest := []) (As := [.int a2]) hx hb hml hown hts hl (MX4_isFree l D q (ad 0) v a2) gX5_bringMill_X4_isFree rfl kX4_isFree ⟨Nat.le_of_ble_eq_true rfl, Nat.le_of_ble_eq_true rfl⟩ rfl rfl (hP.sub (ws' := (wV q (ad 0) v)) [1, 2, 3, 4, 5, 6, 7, 8, 9, 10] rfl) (dT (hD.sub (ws' := (wV q (ad 0) v)) [1, 2, 3, 4, 5, 6, 7, 8, 9, 10] (by decide) rfl)) hG (ci := 2) rfl rfl rfl rfl (Nat.le_of_ble_eq_true rfl) dX5_bringMill_27 ⟨Nat.zero_le _, Nat.zero_le _⟩ ?_
        refine lv_if_ne (tgt := 36) hx hb dX5_bringMill_30 (by decide) (fun c_4 => ?_) (fun c_4 => ?_)
        · rw [if_neg c_4] at hR
          refine lv_aload_n hx hb dX5_bringMill_36 rfl (lv_at hl 0 rfl) ?_
          refine va_get (D := D) (ci := 3) (v := .ref ((ad 0) 0)) (C := RX5) (T := TX5) (N := 6) hx hb hts iX5_bringMill_X5 hown hG.1 hP 0 rfl rfl 0 (by decide) (hts (.fieldLink RX5 12 "MillComplaints" "now" "LMillComplaints$Village;") (List.mem_of_getElem? (i := 1) rfl)) (fun _ h9 => h9) rfl dX5_bringMill_37 ?_
          refine va_getN (D := D) (ci := 2) (v := .int (v 9 0)) (C := RX4) (T := TX4) (N := 11) hx hb hts iX5_bringMill_X4 hown hG.1 hP 1 rfl rfl 3 (by decide) (nwf_4 hG) (fun _ h9 => h9) rfl dX5_bringMill_40 ?_
          refine lv_iconst (v := 4) hx hb dX5_bringMill_43 (by decide) ?_
          refine lv_icmp_lt (tgt := 50) hx hb dX5_bringMill_44 (by decide) (fun c_5 => ?_) (fun c_5 => ?_)
          · rw [if_pos c_5] at hR
            refine lv_aload_n hx hb dX5_bringMill_50 rfl (lv_at hl 0 rfl) ?_
            refine va_get (D := D) (ci := 3) (v := .ref ((ad 0) 0)) (C := RX5) (T := TX5) (N := 6) hx hb hts iX5_bringMill_X5 hown hG.1 hP 0 rfl rfl 0 (by decide) (hts (.fieldLink RX5 12 "MillComplaints" "now" "LMillComplaints$Village;") (List.mem_of_getElem? (i := 1) rfl)) (fun _ h9 => h9) rfl dX5_bringMill_51 ?_
            refine va_getN (D := D) (ci := 2) (v := .int (v 9 0)) (C := RX4) (T := TX4) (N := 11) hx hb hts iX5_bringMill_X4 hown hG.1 hP 1 rfl rfl 3 (by decide) (nwf_4 hG) (fun _ h9 => h9) rfl dX5_bringMill_54 ?_
            refine lv_istore_n (lv' := [(3, .int (v 9 0)), (0, .ref (ad 9 0)), (1, .int a1), (2, .int a2)]) hx hb dX5_bringMill_57 rfl hl (by decide) rfl (fun ls hl => ?_)
            refine lv_aload_n hx hb dX5_bringMill_58 rfl (lv_at hl 1 rfl) ?_
            refine va_get (D := D) (ci := 3) (v := .ref ((ad 0) 0)) (C := RX5) (T := TX5) (N := 6) hx hb hts iX5_bringMill_X5 hown hG.1 hP 0 rfl rfl 0 (by decide) (hts (.fieldLink RX5 12 "MillComplaints" "now" "LMillComplaints$Village;") (List.mem_of_getElem? (i := 1) rfl)) (fun _ h9 => h9) rfl dX5_bringMill_59 ?_
            refine va_getN (D := D) (ci := 2) (v := .ref ((ad 0) 4)) (C := RX4) (T := TX4) (N := 11) hx hb hts iX5_bringMill_X4 hown hG.1 hP 1 rfl rfl 4 (by decide) (nwf_5 hG) (fun _ h9 => h9) rfl dX5_bringMill_62 ?_
            refine lv_iload_n hx hb dX5_bringMill_65 rfl (lv_at hl 0 rfl) ?_
            refine lv_iload_n hx hb dX5_bringMill_66 rfl (lv_at hl 2 rfl) ?_
            obtain ⟨q_6, eq_6⟩ : ∃ z, z = (mX5_put 4 (v 3) (v 9 0) a1) := ⟨_, rfl⟩
            have hM := MX5_put l D q ((ad 0) 4) 4 (v 3) (v 9 0) a1 (by decide)
            rw [← eq_6] at hM
            replace hR := lt_e hR eq_6
            refine mu_S (D := D) (ws := (wXN q ad sn v)) (ws' := (wXN q ad sn (setA v 3 q_6))) (rest := []) (As := [.ref ((ad 0) 4), .int (v 9 0), .int a1]) hx hb hml hown hts hl hM gX5_bringMill_X5_put rfl kX5_put ⟨Nat.le_of_ble_eq_true rfl, Nat.le_of_ble_eq_true rfl⟩ rfl rfl hP hD hS hG [5] rfl rfl (by decide) [0, 1, 2, 3, 4, 11, 6, 7, 8, 9, 10] rfl (by decide) rfl rfl rfl (Nat.le_of_ble_eq_true rfl) dX5_bringMill_67 ⟨Nat.zero_le _, Nat.zero_le _⟩ (fun H locs hP hD hS => ?_)
            obtain ⟨v_7, ev_7⟩ : ∃ z, z = (setA v 3 q_6) := ⟨_, rfl⟩
            rw [← ev_7] at hP hD
            replace hR := lt_e hR ev_7
            refine lv_aload_n hx hb dX5_bringMill_70 rfl (lv_at hl 1 rfl) ?_
            refine va_get (D := D) (ci := 3) (v := .ref ((ad 0) 0)) (C := RX5) (T := TX5) (N := 6) hx hb hts iX5_bringMill_X5 hown hG.1 hP 0 rfl rfl 0 (by decide) (hts (.fieldLink RX5 12 "MillComplaints" "now" "LMillComplaints$Village;") (List.mem_of_getElem? (i := 1) rfl)) (fun _ h9 => h9) rfl dX5_bringMill_71 ?_
            refine va_getN (D := D) (ci := 2) (v := .ref ((ad 0) 5)) (C := RX4) (T := TX4) (N := 11) hx hb hts iX5_bringMill_X4 hown hG.1 hP 1 rfl rfl 5 (by decide) (nwf_6 hG) (fun _ h9 => h9) rfl dX5_bringMill_74 ?_
            refine lv_iload_n hx hb dX5_bringMill_77 rfl (lv_at hl 0 rfl) ?_
            refine lv_iload_n hx hb dX5_bringMill_78 rfl (lv_at hl 3 rfl) ?_
            obtain ⟨q_8, eq_8⟩ : ∃ z, z = (mX5_put 4 (v_7 4) (v 9 0) a2) := ⟨_, rfl⟩
            have hM := MX5_put l D q ((ad 0) 5) 4 (v_7 4) (v 9 0) a2 (by decide)
            rw [← eq_8] at hM
            replace hR := lt_e hR eq_8
            refine mu_S (D := D) (ws := (wXN q ad sn v_7)) (ws' := (wXN q ad sn (setA v_7 4 q_8))) (rest := []) (As := [.ref ((ad 0) 5), .int (v 9 0), .int a2]) hx hb hml hown hts hl hM gX5_bringMill_X5_put rfl kX5_put ⟨Nat.le_of_ble_eq_true rfl, Nat.le_of_ble_eq_true rfl⟩ rfl rfl hP hD hS hG [6] rfl rfl (by decide) [0, 1, 2, 3, 4, 5, 11, 7, 8, 9, 10] rfl (by decide) rfl rfl rfl (Nat.le_of_ble_eq_true rfl) dX5_bringMill_79 ⟨Nat.zero_le _, Nat.zero_le _⟩ (fun H locs hP hD hS => ?_)
            obtain ⟨v_9, ev_9⟩ : ∃ z, z = (setA v_7 4 q_8) := ⟨_, rfl⟩
            rw [← ev_9] at hP hD
            replace hR := lt_e hR ev_9
            refine lv_aload_n hx hb dX5_bringMill_82 rfl (lv_at hl 1 rfl) ?_
            refine va_get (D := D) (ci := 3) (v := .ref ((ad 0) 0)) (C := RX5) (T := TX5) (N := 6) hx hb hts iX5_bringMill_X5 hown hG.1 hP 0 rfl rfl 0 (by decide) (hts (.fieldLink RX5 12 "MillComplaints" "now" "LMillComplaints$Village;") (List.mem_of_getElem? (i := 1) rfl)) (fun _ h9 => h9) rfl dX5_bringMill_83 ?_
            refine lv_iload_n hx hb dX5_bringMill_86 rfl (lv_at hl 0 rfl) ?_
            refine lv_iconst (v := 1) hx hb dX5_bringMill_87 (by decide) ?_
            refine lv_iadd hx hb dX5_bringMill_88 ?_
            refine va_putN (D := D) (ci := 2) (v := .int ((v 9 0) + 1)) (ty := .int) (C := RX4) (T := TX4) (N := 11) hx hb hts iX5_bringMill_X4 tyX4 tyX4_ok nmX4 hown hG.1 hP hD hS 1 rfl rfl 3 (by decide) (nwf_4 hG) (fun _ h9 => h9) rfl (by decide +kernel) rfl rfl (Nat.le_of_ble_eq_true rfl) dX5_bringMill_89 (fun H locs hP hD hS => ?_)
            have hP : va_P D vwCl (wXN q ad sn (setA v_9 9 (upd (v_9 9) 0 ((v 9 0) + 1)))) H := hP
            have hD : va_D A (wXN q ad sn (setA v_9 9 (upd (v_9 9) 0 ((v 9 0) + 1)))) := hD
            obtain ⟨v_10, ev_10⟩ : ∃ z, z = (setA v_9 9 (upd (v_9 9) 0 ((v 9 0) + 1))) := ⟨_, rfl⟩
            rw [← ev_10] at hP hD
            replace hR := lt_e hR ev_10
            refine lv_iload_n hx hb dX5_bringMill_92 rfl (lv_at hl 0 rfl) ?_
            subst hR
            exact mu_iret hx hb hr hk hA hS hP rfl dX5_bringMill_93
          · rw [if_neg c_5] at hR
            refine lv_bipush (v := (-3)) hx hb dX5_bringMill_47 (by decide) ?_
            subst hR
            exact mu_iret hx hb hr hk hA hS hP rfl dX5_bringMill_49
        · rw [if_pos c_4] at hR
          refine lv_bipush (v := (-4)) hx hb dX5_bringMill_33 (by decide) ?_
          subst hR
          exact mu_iret hx hb hr hk hA hS hP rfl dX5_bringMill_35
      · rw [if_neg c_3] at hR
        refine lv_bipush (v := (-2)) hx hb dX5_bringMill_19 (by decide) ?_
        subst hR
        exact mu_iret hx hb hr hk hA hS hP rfl dX5_bringMill_21
  · rw [if_pos c_1] at hR
    refine lv_iconst (v := (-1)) hx hb dX5_bringMill_7 (by decide) ?_
    subst hR
    exact mu_iret hx hb hr hk hA hS hP rfl dX5_bringMill_8

def mX5_bringHouse (v : Nat → Nat → Int32) (a1 : Int32) : Int32 × (Nat → Nat → Int32) := (if (mX5_isYard a1) = 0 then ((-1), v) else (if (mX4_isFree v a1) = 0 then ((-4), v) else (if (v 10 0) < 10 then (lt (mX5_put 10 (v 6) (v 10 0) a1) (fun q_4 => (lt (setA v 6 q_4) (fun v_5 => (lt (setA v_5 10 (upd (v_5 10) 0 ((v 10 0) + 1))) (fun v_6 => ((v 10 0), v_6))))))) else ((-3), v))))
theorem kX5_bringHouse : yX5_bringHouse.cls = RX5 ∧ yX5_bringHouse.cls ≠ "java/lang/invoke/MethodHandle" ∧ yX5_bringHouse.cls ≠ "java/lang/invoke/VarHandle" ∧ (parseMethodDescriptor yX5_bringHouse.desc).map (fun d => d.parameters.length) = some 1 := by decide +kernel
theorem iX5_bringHouse_X5 : ∀ w ∈ wsX50, w ∈ wsX5_bringHouse := fun w h => (List.mem_cons_of_mem _ (List.mem_append_left _ (List.mem_append_right _ h)))
theorem iX5_bringHouse_X4 : ∀ w ∈ wsX40, w ∈ wsX5_bringHouse := fun w h => (List.mem_cons_of_mem _ (List.mem_append_right _ h))
set_option maxHeartbeats 4000000 in
set_option maxRecDepth 100000 in
theorem MX5_bringHouse (l : Launch) (D : va_G) (q : Nat → ClassId) (ad : Nat → Nat → Nat) (sn : Int32) (v : Nat → Nat → Int32) (a1 : Int32)  : muM l D (tyq q) yX5_bringHouse wsX5_bringHouse ({ frames := 4, cells := 0, slots := 0, locals := 86 } : Room) [.ref (ad 9 0), .int a1] (wXN q ad sn v) (some (.int (mX5_bringHouse v a1).1)) (wXN q ad sn (mX5_bringHouse v a1).2) := by
  obtain ⟨R, hR⟩ : ∃ z, (mX5_bringHouse v a1) = z := ⟨_, rfl⟩
  rw [hR]
  unfold mX5_bringHouse at hR
  refine muM.of (cc := cX5_bringHouse) (maxL := 3) (ret := (some .int)) (by decide) rfl (Nat.le_of_ble_eq_true rfl) ?_
  intro p e s m below meth c ls A hx hb hr hk hml hown hts hP hD hG hA hl
  have hS : va_S A s.heap s.heap [] := va_S.rf
  have hl : lv_has ls 3 [(0, .ref (ad 9 0)), (1, .int a1)] := hl
  refine lv_iload_n hx hb dX5_bringHouse_0 rfl (lv_at hl 1 rfl) ?_
  refine ro_S (v := .int (mX5_isYard a1)) (rest := []) (As := [.int a1]) hx hb hml hown hts hl (MX5_isYard l D q a1) gX5_bringHouse_X5_isYard rfl kX5_isYard ⟨Nat.le_of_ble_eq_true rfl, Nat.le_of_ble_eq_true rfl⟩ rfl rfl (hP.sub (ws' := []) [] rfl) (dT (hD.sub (ws' := []) [] (by decide) rfl)) hG rfl rfl (Nat.le_of_ble_eq_true rfl) dX5_bringHouse_1 ⟨Nat.zero_le _, Nat.zero_le _⟩ ?_
  refine lv_if_ne (tgt := 9) hx hb dX5_bringHouse_4 (by decide) (fun c_1 => ?_) (fun c_1 => ?_)
  · rw [if_neg c_1] at hR
    refine lv_aload_n hx hb dX5_bringHouse_9 rfl (lv_at hl 0 rfl) ?_
    refine va_get (D := D) (ci := 3) (v := .ref ((ad 0) 0)) (C := RX5) (T := TX5) (N := 6) hx hb hts iX5_bringHouse_X5 hown hG.1 hP 0 rfl rfl 0 (by decide) (hts (.fieldLink RX5 12 "MillComplaints" "now" "LMillComplaints$Village;") (List.mem_of_getElem? (i := 1) rfl)) (fun _ h9 => h9) rfl dX5_bringHouse_10 ?_
    refine lv_iload_n hx hb dX5_bringHouse_13 rfl (lv_at hl 1 rfl) ?_
    refine ro_V (v := .int (mX4_isFree v a1)) (rest := []) (As := [.int a1]) hx hb hml hown hts hl (MX4_isFree l D q (ad 0) v a1) gX5_bringHouse_X4_isFree rfl kX4_isFree ⟨Nat.le_of_ble_eq_true rfl, Nat.le_of_ble_eq_true rfl⟩ rfl rfl (hP.sub (ws' := (wV q (ad 0) v)) [1, 2, 3, 4, 5, 6, 7, 8, 9, 10] rfl) (dT (hD.sub (ws' := (wV q (ad 0) v)) [1, 2, 3, 4, 5, 6, 7, 8, 9, 10] (by decide) rfl)) hG (ci := 2) rfl rfl rfl rfl (Nat.le_of_ble_eq_true rfl) dX5_bringHouse_14 ⟨Nat.zero_le _, Nat.zero_le _⟩ ?_
    refine lv_if_ne (tgt := 23) hx hb dX5_bringHouse_17 (by decide) (fun c_2 => ?_) (fun c_2 => ?_)
    · rw [if_neg c_2] at hR
      refine lv_aload_n hx hb dX5_bringHouse_23 rfl (lv_at hl 0 rfl) ?_
      refine va_get (D := D) (ci := 3) (v := .ref ((ad 0) 0)) (C := RX5) (T := TX5) (N := 6) hx hb hts iX5_bringHouse_X5 hown hG.1 hP 0 rfl rfl 0 (by decide) (hts (.fieldLink RX5 12 "MillComplaints" "now" "LMillComplaints$Village;") (List.mem_of_getElem? (i := 1) rfl)) (fun _ h9 => h9) rfl dX5_bringHouse_24 ?_
      refine va_getN (D := D) (ci := 2) (v := .int (v 10 0)) (C := RX4) (T := TX4) (N := 11) hx hb hts iX5_bringHouse_X4 hown hG.1 hP 1 rfl rfl 7 (by decide) (nwf_7 hG) (fun _ h9 => h9) rfl dX5_bringHouse_27 ?_
      refine lv_bipush (v := 10) hx hb dX5_bringHouse_30 (by decide) ?_
      refine lv_icmp_lt (tgt := 38) hx hb dX5_bringHouse_32 (by decide) (fun c_3 => ?_) (fun c_3 => ?_)
      · rw [if_pos c_3] at hR
        refine lv_aload_n hx hb dX5_bringHouse_38 rfl (lv_at hl 0 rfl) ?_
        refine va_get (D := D) (ci := 3) (v := .ref ((ad 0) 0)) (C := RX5) (T := TX5) (N := 6) hx hb hts iX5_bringHouse_X5 hown hG.1 hP 0 rfl rfl 0 (by decide) (hts (.fieldLink RX5 12 "MillComplaints" "now" "LMillComplaints$Village;") (List.mem_of_getElem? (i := 1) rfl)) (fun _ h9 => h9) rfl dX5_bringHouse_39 ?_
        refine va_getN (D := D) (ci := 2) (v := .int (v 10 0)) (C := RX4) (T := TX4) (N := 11) hx hb hts iX5_bringHouse_X4 hown hG.1 hP 1 rfl rfl 7 (by decide) (nwf_7 hG) (fun _ h9 => h9) rfl dX5_bringHouse_42 ?_
        refine lv_istore_n (lv' := [(2, .int (v 10 0)), (0, .ref (ad 9 0)), (1, .int a1)]) hx hb dX5_bringHouse_45 rfl hl (by decide) rfl (fun ls hl => ?_)
        refine lv_aload_n hx hb dX5_bringHouse_46 rfl (lv_at hl 1 rfl) ?_
        refine va_get (D := D) (ci := 3) (v := .ref ((ad 0) 0)) (C := RX5) (T := TX5) (N := 6) hx hb hts iX5_bringHouse_X5 hown hG.1 hP 0 rfl rfl 0 (by decide) (hts (.fieldLink RX5 12 "MillComplaints" "now" "LMillComplaints$Village;") (List.mem_of_getElem? (i := 1) rfl)) (fun _ h9 => h9) rfl dX5_bringHouse_47 ?_
        refine va_getN (D := D) (ci := 2) (v := .ref ((ad 0) 7)) (C := RX4) (T := TX4) (N := 11) hx hb hts iX5_bringHouse_X4 hown hG.1 hP 1 rfl rfl 8 (by decide) (nwf_8 hG) (fun _ h9 => h9) rfl dX5_bringHouse_50 ?_
        refine lv_iload_n hx hb dX5_bringHouse_53 rfl (lv_at hl 0 rfl) ?_
        refine lv_iload_n hx hb dX5_bringHouse_54 rfl (lv_at hl 2 rfl) ?_
        obtain ⟨q_4, eq_4⟩ : ∃ z, z = (mX5_put 10 (v 6) (v 10 0) a1) := ⟨_, rfl⟩
        have hM := MX5_put l D q ((ad 0) 7) 10 (v 6) (v 10 0) a1 (by decide)
        rw [← eq_4] at hM
        replace hR := lt_e hR eq_4
        refine mu_S (D := D) (ws := (wXN q ad sn v)) (ws' := (wXN q ad sn (setA v 6 q_4))) (rest := []) (As := [.ref ((ad 0) 7), .int (v 10 0), .int a1]) hx hb hml hown hts hl hM gX5_bringHouse_X5_put rfl kX5_put ⟨Nat.le_of_ble_eq_true rfl, Nat.le_of_ble_eq_true rfl⟩ rfl rfl hP hD hS hG [8] rfl rfl (by decide) [0, 1, 2, 3, 4, 5, 6, 7, 11, 9, 10] rfl (by decide) rfl rfl rfl (Nat.le_of_ble_eq_true rfl) dX5_bringHouse_55 ⟨Nat.zero_le _, Nat.zero_le _⟩ (fun H locs hP hD hS => ?_)
        obtain ⟨v_5, ev_5⟩ : ∃ z, z = (setA v 6 q_4) := ⟨_, rfl⟩
        rw [← ev_5] at hP hD
        replace hR := lt_e hR ev_5
        refine lv_aload_n hx hb dX5_bringHouse_58 rfl (lv_at hl 1 rfl) ?_
        refine va_get (D := D) (ci := 3) (v := .ref ((ad 0) 0)) (C := RX5) (T := TX5) (N := 6) hx hb hts iX5_bringHouse_X5 hown hG.1 hP 0 rfl rfl 0 (by decide) (hts (.fieldLink RX5 12 "MillComplaints" "now" "LMillComplaints$Village;") (List.mem_of_getElem? (i := 1) rfl)) (fun _ h9 => h9) rfl dX5_bringHouse_59 ?_
        refine lv_iload_n hx hb dX5_bringHouse_62 rfl (lv_at hl 0 rfl) ?_
        refine lv_iconst (v := 1) hx hb dX5_bringHouse_63 (by decide) ?_
        refine lv_iadd hx hb dX5_bringHouse_64 ?_
        refine va_putN (D := D) (ci := 2) (v := .int ((v 10 0) + 1)) (ty := .int) (C := RX4) (T := TX4) (N := 11) hx hb hts iX5_bringHouse_X4 tyX4 tyX4_ok nmX4 hown hG.1 hP hD hS 1 rfl rfl 7 (by decide) (nwf_7 hG) (fun _ h9 => h9) rfl (by decide +kernel) rfl rfl (Nat.le_of_ble_eq_true rfl) dX5_bringHouse_65 (fun H locs hP hD hS => ?_)
        have hP : va_P D vwCl (wXN q ad sn (setA v_5 10 (upd (v_5 10) 0 ((v 10 0) + 1)))) H := hP
        have hD : va_D A (wXN q ad sn (setA v_5 10 (upd (v_5 10) 0 ((v 10 0) + 1)))) := hD
        obtain ⟨v_6, ev_6⟩ : ∃ z, z = (setA v_5 10 (upd (v_5 10) 0 ((v 10 0) + 1))) := ⟨_, rfl⟩
        rw [← ev_6] at hP hD
        replace hR := lt_e hR ev_6
        refine lv_iload_n hx hb dX5_bringHouse_68 rfl (lv_at hl 0 rfl) ?_
        subst hR
        exact mu_iret hx hb hr hk hA hS hP rfl dX5_bringHouse_69
      · rw [if_neg c_3] at hR
        refine lv_bipush (v := (-3)) hx hb dX5_bringHouse_35 (by decide) ?_
        subst hR
        exact mu_iret hx hb hr hk hA hS hP rfl dX5_bringHouse_37
    · rw [if_pos c_2] at hR
      refine lv_bipush (v := (-4)) hx hb dX5_bringHouse_20 (by decide) ?_
      subst hR
      exact mu_iret hx hb hr hk hA hS hP rfl dX5_bringHouse_22
  · rw [if_pos c_1] at hR
    refine lv_iconst (v := (-1)) hx hb dX5_bringHouse_7 (by decide) ?_
    subst hR
    exact mu_iret hx hb hr hk hA hS hP rfl dX5_bringHouse_8

def mX5_tellWind_40 (a3 : Int32) (C : (Nat → Nat → Int32) → Int32 → Int32 → (Int32 × (Nat → Nat → Int32))) : Nat → (Nat → Nat → Int32) → Int32 → Int32 → (Int32 × (Nat → Nat → Int32))
  | 0, v_40, x5_40, x4_40 => C v_40 x5_40 x4_40
  | n_40 + 1, v_40, x5_40, x4_40 => (if (mX4_windAt v_40 x5_40) = a3 then (mX5_tellWind_40 a3 C n_40 v_40 (x5_40 + 1) x4_40) else (lt (mX5_put 24 (v_40 0) x5_40 a3) (fun q_9 => (lt (setA v_40 0 q_9) (fun v_10 => (mX5_tellWind_40 a3 C n_40 v_10 (x5_40 + 1) (x4_40 + 1)))))))
def mX5_tellWind (v : Nat → Nat → Int32) (a1 a2 a3 : Int32) : Int32 × (Nat → Nat → Int32) := (if (mX5_isHour a1) = 0 then ((-1), v) else (if (mX5_isHour a2) = 0 then ((-1), v) else (if a1 ≤ a2 then (if a3 < 0 then ((-2), v) else (if a3 ≤ 9 then (mX5_tellWind_40 a3 (fun v_40 x5_40 x4_40 => (if x4_40 = 0 then ((-5), v_40) else (x4_40, v_40))) (tq a1 a2) v a1 0) else ((-2), v))) else ((-1), v))))
theorem kX5_tellWind : yX5_tellWind.cls = RX5 ∧ yX5_tellWind.cls ≠ "java/lang/invoke/MethodHandle" ∧ yX5_tellWind.cls ≠ "java/lang/invoke/VarHandle" ∧ (parseMethodDescriptor yX5_tellWind.desc).map (fun d => d.parameters.length) = some 3 := by decide +kernel
theorem iX5_tellWind_X5 : ∀ w ∈ wsX50, w ∈ wsX5_tellWind := fun w h => (List.mem_cons_of_mem _ (List.mem_append_left _ (List.mem_append_right _ h)))
theorem iX5_tellWind_X4 : ∀ w ∈ wsX40, w ∈ wsX5_tellWind := fun w h => (List.mem_cons_of_mem _ (List.mem_append_right _ h))
set_option maxHeartbeats 4000000 in
set_option maxRecDepth 100000 in
theorem MX5_tellWind (l : Launch) (D : va_G) (q : Nat → ClassId) (ad : Nat → Nat → Nat) (sn : Int32) (v : Nat → Nat → Int32) (a1 a2 a3 : Int32)  : muM l D (tyq q) yX5_tellWind wsX5_tellWind ({ frames := 2, cells := 0, slots := 0, locals := 42 } : Room) [.ref (ad 9 0), .int a1, .int a2, .int a3] (wXN q ad sn v) (some (.int (mX5_tellWind v a1 a2 a3).1)) (wXN q ad sn (mX5_tellWind v a1 a2 a3).2) := by
  obtain ⟨R, hR⟩ : ∃ z, (mX5_tellWind v a1 a2 a3) = z := ⟨_, rfl⟩
  rw [hR]
  unfold mX5_tellWind at hR
  refine muM.of (cc := cX5_tellWind) (maxL := 6) (ret := (some .int)) (by decide) rfl (Nat.le_of_ble_eq_true rfl) ?_
  intro p e s m below meth c ls A hx hb hr hk hml hown hts hP hD hG hA hl
  have hS : va_S A s.heap s.heap [] := va_S.rf
  have hl : lv_has ls 6 [(0, .ref (ad 9 0)), (1, .int a1), (2, .int a2), (3, .int a3)] := hl
  refine lv_iload_n hx hb dX5_tellWind_0 rfl (lv_at hl 1 rfl) ?_
  refine ro_S (v := .int (mX5_isHour a1)) (rest := []) (As := [.int a1]) hx hb hml hown hts hl (MX5_isHour l D q a1) gX5_tellWind_X5_isHour rfl kX5_isHour ⟨Nat.le_of_ble_eq_true rfl, Nat.le_of_ble_eq_true rfl⟩ rfl rfl (hP.sub (ws' := []) [] rfl) (dT (hD.sub (ws' := []) [] (by decide) rfl)) hG rfl rfl (Nat.le_of_ble_eq_true rfl) dX5_tellWind_1 ⟨Nat.zero_le _, Nat.zero_le _⟩ ?_
  refine lv_if_eq (tgt := 19) hx hb dX5_tellWind_4 (by decide) (fun c_1 => ?_) (fun c_1 => ?_)
  · rw [if_pos c_1] at hR
    refine lv_iconst (v := (-1)) hx hb dX5_tellWind_19 (by decide) ?_
    subst hR
    exact mu_iret hx hb hr hk hA hS hP rfl dX5_tellWind_20
  · rw [if_neg c_1] at hR
    have fc_1 := f_isHour c_1
    refine lv_iload_n hx hb dX5_tellWind_7 rfl (lv_at hl 2 rfl) ?_
    refine ro_S (v := .int (mX5_isHour a2)) (rest := []) (As := [.int a2]) hx hb hml hown hts hl (MX5_isHour l D q a2) gX5_tellWind_X5_isHour rfl kX5_isHour ⟨Nat.le_of_ble_eq_true rfl, Nat.le_of_ble_eq_true rfl⟩ rfl rfl (hP.sub (ws' := []) [] rfl) (dT (hD.sub (ws' := []) [] (by decide) rfl)) hG rfl rfl (Nat.le_of_ble_eq_true rfl) dX5_tellWind_8 ⟨Nat.zero_le _, Nat.zero_le _⟩ ?_
    refine lv_if_eq (tgt := 19) hx hb dX5_tellWind_11 (by decide) (fun c_2 => ?_) (fun c_2 => ?_)
    · rw [if_pos c_2] at hR
      refine lv_iconst (v := (-1)) hx hb dX5_tellWind_19 (by decide) ?_
      subst hR
      exact mu_iret hx hb hr hk hA hS hP rfl dX5_tellWind_20
    · rw [if_neg c_2] at hR
      have fc_2 := f_isHour c_2
      refine lv_iload_n hx hb dX5_tellWind_14 rfl (lv_at hl 2 rfl) ?_
      refine lv_iload_n hx hb dX5_tellWind_15 rfl (lv_at hl 1 rfl) ?_
      refine lv_icmp_ge (tgt := 21) hx hb dX5_tellWind_16 (by decide) (fun c_3 => ?_) (fun c_3 => ?_)
      · rw [if_pos c_3] at hR
        refine lv_iload_n hx hb dX5_tellWind_21 rfl (lv_at hl 3 rfl) ?_
        refine lv_if_lt (tgt := 31) hx hb dX5_tellWind_22 (by decide) (fun c_4 => ?_) (fun c_4 => ?_)
        · rw [if_pos c_4] at hR
          refine lv_bipush (v := (-2)) hx hb dX5_tellWind_31 (by decide) ?_
          subst hR
          exact mu_iret hx hb hr hk hA hS hP rfl dX5_tellWind_33
        · rw [if_neg c_4] at hR
          refine lv_iload_n hx hb dX5_tellWind_25 rfl (lv_at hl 3 rfl) ?_
          refine lv_bipush (v := 9) hx hb dX5_tellWind_26 (by decide) ?_
          refine lv_icmp_le (tgt := 34) hx hb dX5_tellWind_28 (by decide) (fun c_5 => ?_) (fun c_5 => ?_)
          · rw [if_pos c_5] at hR
            refine lv_iconst (v := 0) hx hb dX5_tellWind_34 (by decide) ?_
            refine lv_istore (lv' := [(4, .int 0), (0, .ref (ad 9 0)), (1, .int a1), (2, .int a2), (3, .int a3)]) hx hb dX5_tellWind_35 hl (by decide) rfl (fun ls hl => ?_)
            refine lv_iload_n hx hb dX5_tellWind_37 rfl (lv_at hl 2 rfl) ?_
            refine lv_istore (lv' := [(5, .int a1), (4, .int 0), (0, .ref (ad 9 0)), (1, .int a1), (2, .int a2), (3, .int a3)]) hx hb dX5_tellWind_38 hl (by decide) rfl (fun ls hl => ?_)
            have key_40 : ∀ (n_40 : Nat) (v_40 : Nat → Nat → Int32) (x5_40 : Int32) (x4_40 : Int32) (H : Heap) (locs : List Loc) , tq x5_40 a2 = n_40 → mX5_tellWind_40 a3 (fun v_40 x5_40 x4_40 => (if x4_40 = 0 then ((-5), v_40) else (x4_40, v_40))) n_40 v_40 x5_40 x4_40 = R → va_P D vwCl (wXN q ad sn v_40) H → va_D A (wXN q ad sn v_40) → va_S A s.heap H locs → ∀ ls : Array Slot, lv_has ls 6 [(5, .int x5_40), (4, .int x4_40), (0, .ref (ad 9 0)), (1, .int a1), (2, .int a2), (3, .int a3)] → W p l e ({ frames := 2, cells := 0, slots := 0, locals := 42 } : Room) s m ([.ref (ad 9 0), .int a1, .int a2, .int a3] : List Value).toArray below meth c H locs 0 0 (MQ below (muQ D (some (.int R.1)) (wXN q ad sn v) (wXN q ad sn R.2)) ([.ref (ad 9 0), .int a1, .int a2, .int a3] : List Value).toArray s 0 0 (wAt (wXN q ad sn v))) (F0 m 40 ls []) := by
              intro n_40
              induction n_40 with
              | zero =>
                intro v_40 x5_40 x4_40 H locs hn_40 hR hP hD hS ls hl
                rw [mX5_tellWind_40] at hR
                refine lv_iload hx hb dX5_tellWind_40 (lv_at hl 0 rfl) ?_
                refine lv_iload_n hx hb dX5_tellWind_42 rfl (lv_at hl 4 rfl) ?_
                refine lv_icmp_gt (tgt := 81) hx hb dX5_tellWind_43 (by decide) (fun c_6 => ?_) (fun c_6 => (tq0 hn_40 c_6).elim)
                refine lv_iload hx hb dX5_tellWind_81 (lv_at hl 1 rfl) ?_
                refine lv_if_ne (tgt := 91) hx hb dX5_tellWind_83 (by decide) (fun c_7 => ?_) (fun c_7 => ?_)
                · rw [if_neg c_7] at hR
                  refine lv_iload hx hb dX5_tellWind_91 (lv_at hl 1 rfl) ?_
                  subst hR
                  exact mu_iret hx hb hr hk hA hS hP rfl dX5_tellWind_93
                · rw [if_pos c_7] at hR
                  refine lv_bipush (v := (-5)) hx hb dX5_tellWind_86 (by decide) ?_
                  refine lv_goto (tgt := 93) hx hb dX5_tellWind_88 (by decide) ?_
                  subst hR
                  exact mu_iret hx hb hr hk hA hS hP rfl dX5_tellWind_93
              | succ n_40 ih_40 =>
                intro v_40 x5_40 x4_40 H locs hn_40 hR hP hD hS ls hl
                rw [mX5_tellWind_40] at hR
                refine lv_iload hx hb dX5_tellWind_40 (lv_at hl 0 rfl) ?_
                refine lv_iload_n hx hb dX5_tellWind_42 rfl (lv_at hl 4 rfl) ?_
                refine lv_icmp_gt (tgt := 81) hx hb dX5_tellWind_43 (by decide) (fun c_6 => (tqS hn_40 c_6).elim) (fun c_6 => ?_)
                refine lv_aload_n hx hb dX5_tellWind_46 rfl (lv_at hl 2 rfl) ?_
                refine va_get (D := D) (ci := 3) (v := .ref ((ad 0) 0)) (C := RX5) (T := TX5) (N := 6) hx hb hts iX5_tellWind_X5 hown hG.1 hP 0 rfl rfl 0 (by decide) (hts (.fieldLink RX5 12 "MillComplaints" "now" "LMillComplaints$Village;") (List.mem_of_getElem? (i := 1) rfl)) (fun _ h9 => h9) rfl dX5_tellWind_47 ?_
                refine lv_iload hx hb dX5_tellWind_50 (lv_at hl 0 rfl) ?_
                refine ro_V (v := .int (mX4_windAt v_40 x5_40)) (rest := []) (As := [.int x5_40]) hx hb hml hown hts hl (MX4_windAt l D q (ad 0) v_40 x5_40) gX5_tellWind_X4_windAt rfl kX4_windAt ⟨Nat.le_of_ble_eq_true rfl, Nat.le_of_ble_eq_true rfl⟩ rfl rfl (hP.sub (ws' := (wV q (ad 0) v_40)) [1, 2, 3, 4, 5, 6, 7, 8, 9, 10] rfl) (dT (hD.sub (ws' := (wV q (ad 0) v_40)) [1, 2, 3, 4, 5, 6, 7, 8, 9, 10] (by decide) rfl)) hG (ci := 2) rfl rfl rfl rfl (Nat.le_of_ble_eq_true rfl) dX5_tellWind_52 ⟨Nat.zero_le _, Nat.zero_le _⟩ ?_
                refine lv_iload_n hx hb dX5_tellWind_55 rfl (lv_at hl 5 rfl) ?_
                refine lv_icmp_eq (tgt := 75) hx hb dX5_tellWind_56 (by decide) (fun c_8 => ?_) (fun c_8 => ?_)
                · rw [if_pos c_8] at hR
                  refine lv_iinc (v := (x5_40 + 1)) (lv' := [(5, .int (x5_40 + 1)), (4, .int x4_40), (0, .ref (ad 9 0)), (1, .int a1), (2, .int a2), (3, .int a3)]) hx hb dX5_tellWind_75 hl (k := 0) rfl rfl (by decide) rfl (fun ls hl => ?_)
                  refine lv_goto (tgt := 40) hx hb dX5_tellWind_78 (by decide) ?_
                  exact ih_40 v_40 (x5_40 + 1) x4_40 _ _ (tqN hn_40 (by omega)) hR hP hD hS ls (lv_sub hl [0, 1, 2, 3, 4, 5] rfl)
                · rw [if_neg c_8] at hR
                  refine lv_aload_n hx hb dX5_tellWind_59 rfl (lv_at hl 2 rfl) ?_
                  refine va_get (D := D) (ci := 3) (v := .ref ((ad 0) 0)) (C := RX5) (T := TX5) (N := 6) hx hb hts iX5_tellWind_X5 hown hG.1 hP 0 rfl rfl 0 (by decide) (hts (.fieldLink RX5 12 "MillComplaints" "now" "LMillComplaints$Village;") (List.mem_of_getElem? (i := 1) rfl)) (fun _ h9 => h9) rfl dX5_tellWind_60 ?_
                  refine va_getN (D := D) (ci := 2) (v := .ref ((ad 0) 1)) (C := RX4) (T := TX4) (N := 11) hx hb hts iX5_tellWind_X4 hown hG.1 hP 1 rfl rfl 0 (by decide) (nwf_1 hG) (fun _ h9 => h9) rfl dX5_tellWind_63 ?_
                  refine lv_iload hx hb dX5_tellWind_66 (lv_at hl 0 rfl) ?_
                  refine lv_iload_n hx hb dX5_tellWind_68 rfl (lv_at hl 5 rfl) ?_
                  obtain ⟨q_9, eq_9⟩ : ∃ z, z = (mX5_put 24 (v_40 0) x5_40 a3) := ⟨_, rfl⟩
                  have hM := MX5_put l D q ((ad 0) 1) 24 (v_40 0) x5_40 a3 (by decide)
                  rw [← eq_9] at hM
                  replace hR := lt_e hR eq_9
                  refine mu_S (D := D) (ws := (wXN q ad sn v_40)) (ws' := (wXN q ad sn (setA v_40 0 q_9))) (rest := []) (As := [.ref ((ad 0) 1), .int x5_40, .int a3]) hx hb hml hown hts hl hM gX5_tellWind_X5_put rfl kX5_put ⟨Nat.le_of_ble_eq_true rfl, Nat.le_of_ble_eq_true rfl⟩ rfl rfl hP hD hS hG [2] rfl rfl (by decide) [0, 1, 11, 3, 4, 5, 6, 7, 8, 9, 10] rfl (by decide) rfl rfl rfl (Nat.le_of_ble_eq_true rfl) dX5_tellWind_69 ⟨Nat.zero_le _, Nat.zero_le _⟩ (fun H locs hP hD hS => ?_)
                  obtain ⟨v_10, ev_10⟩ : ∃ z, z = (setA v_40 0 q_9) := ⟨_, rfl⟩
                  rw [← ev_10] at hP hD
                  replace hR := lt_e hR ev_10
                  refine lv_iinc (v := (x4_40 + 1)) (lv' := [(4, .int (x4_40 + 1)), (5, .int x5_40), (0, .ref (ad 9 0)), (1, .int a1), (2, .int a2), (3, .int a3)]) hx hb dX5_tellWind_72 hl (k := 1) rfl rfl (by decide) rfl (fun ls hl => ?_)
                  refine lv_iinc (v := (x5_40 + 1)) (lv' := [(5, .int (x5_40 + 1)), (4, .int (x4_40 + 1)), (0, .ref (ad 9 0)), (1, .int a1), (2, .int a2), (3, .int a3)]) hx hb dX5_tellWind_75 hl (k := 1) rfl rfl (by decide) rfl (fun ls hl => ?_)
                  refine lv_goto (tgt := 40) hx hb dX5_tellWind_78 (by decide) ?_
                  exact ih_40 v_10 (x5_40 + 1) (x4_40 + 1) _ _ (tqN hn_40 (by omega)) hR hP hD hS ls (lv_sub hl [0, 1, 2, 3, 4, 5] rfl)
            exact key_40 _ v a1 0 _ _ rfl hR hP hD hS ls hl
          · rw [if_neg c_5] at hR
            refine lv_bipush (v := (-2)) hx hb dX5_tellWind_31 (by decide) ?_
            subst hR
            exact mu_iret hx hb hr hk hA hS hP rfl dX5_tellWind_33
      · rw [if_neg c_3] at hR
        refine lv_iconst (v := (-1)) hx hb dX5_tellWind_19 (by decide) ?_
        subst hR
        exact mu_iret hx hb hr hk hA hS hP rfl dX5_tellWind_20

def mX5_lodge (v : Nat → Nat → Int32) (a1 a2 a3 a4 : Int32) : Int32 × (Nat → Nat → Int32) := (if 0 ≤ (mX4_reasonAgainst v a1 a2 a3 a4) then (if (mX4_reasonAgainst v a1 a2 a3 a4) ≤ 0 then (lt (mX4_letStand v a1 a2 a3 a4) (fun q_3 => (lt (mX5_add 6 (q_3 2) 0 1) (fun q_4 => (lt (setA q_3 2 q_4) (fun v_5 => (if (mX4_points v_5 a2 a4) < (mX4_setting v_5 2) then ((mX4_points v_5 a2 a4), v_5) else (lt (mX4_tie v_5 a2 a4) (fun q_7 => ((mX4_points v_5 a2 a4), q_7)))))))))) else (if (mX5_isVain (mX4_reasonAgainst v a1 a2 a3 a4)) = 0 then (((-10) - (mX4_reasonAgainst v a1 a2 a3 a4)), v) else (lt (mX5_add 10 (v 7) a1 1) (fun q_9 => (lt (setA v 7 q_9) (fun v_10 => (lt (mX5_add 6 (v_10 2) 1 1) (fun q_11 => (lt (setA v_10 2 q_11) (fun v_12 => (((-10) - (mX4_reasonAgainst v a1 a2 a3 a4)), v_12))))))))))) else ((mX4_reasonAgainst v a1 a2 a3 a4), v))
theorem kX5_lodge : yX5_lodge.cls = RX5 ∧ yX5_lodge.cls ≠ "java/lang/invoke/MethodHandle" ∧ yX5_lodge.cls ≠ "java/lang/invoke/VarHandle" ∧ (parseMethodDescriptor yX5_lodge.desc).map (fun d => d.parameters.length) = some 4 := by decide +kernel
theorem iX5_lodge_X5 : ∀ w ∈ wsX50, w ∈ wsX5_lodge := fun w h => (List.mem_cons_of_mem _ (List.mem_append_left _ (List.mem_append_right _ h)))
theorem iX5_lodge_X4 : ∀ w ∈ wsX40, w ∈ wsX5_lodge := fun w h => (List.mem_cons_of_mem _ (List.mem_append_right _ h))
set_option maxHeartbeats 4000000 in
set_option maxRecDepth 100000 in
theorem MX5_lodge (l : Launch) (D : va_G) (q : Nat → ClassId) (ad : Nat → Nat → Nat) (sn : Int32) (v : Nat → Nat → Int32) (a1 a2 a3 a4 : Int32)  : muM l D (tyq q) yX5_lodge wsX5_lodge ({ frames := 5, cells := 0, slots := 0, locals := 120 } : Room) [.ref (ad 9 0), .int a1, .int a2, .int a3, .int a4] (wXN q ad sn v) (some (.int (mX5_lodge v a1 a2 a3 a4).1)) (wXN q ad sn (mX5_lodge v a1 a2 a3 a4).2) := by
  obtain ⟨R, hR⟩ : ∃ z, (mX5_lodge v a1 a2 a3 a4) = z := ⟨_, rfl⟩
  rw [hR]
  unfold mX5_lodge at hR
  refine muM.of (cc := cX5_lodge) (maxL := 7) (ret := (some .int)) (by decide) rfl (Nat.le_of_ble_eq_true rfl) ?_
  intro p e s m below meth c ls A hx hb hr hk hml hown hts hP hD hG hA hl
  have hS : va_S A s.heap s.heap [] := va_S.rf
  have hl : lv_has ls 7 [(0, .ref (ad 9 0)), (1, .int a1), (2, .int a2), (3, .int a3), (4, .int a4)] := hl
  refine lv_aload_n hx hb dX5_lodge_0 rfl (lv_at hl 0 rfl) ?_
  refine va_get (D := D) (ci := 3) (v := .ref ((ad 0) 0)) (C := RX5) (T := TX5) (N := 6) hx hb hts iX5_lodge_X5 hown hG.1 hP 0 rfl rfl 0 (by decide) (hts (.fieldLink RX5 12 "MillComplaints" "now" "LMillComplaints$Village;") (List.mem_of_getElem? (i := 1) rfl)) (fun _ h9 => h9) rfl dX5_lodge_1 ?_
  refine lv_iload_n hx hb dX5_lodge_4 rfl (lv_at hl 1 rfl) ?_
  refine lv_iload_n hx hb dX5_lodge_5 rfl (lv_at hl 2 rfl) ?_
  refine lv_iload_n hx hb dX5_lodge_6 rfl (lv_at hl 3 rfl) ?_
  refine lv_iload hx hb dX5_lodge_7 (lv_at hl 4 rfl) ?_
  refine ro_V (v := .int (mX4_reasonAgainst v a1 a2 a3 a4)) (rest := []) (As := [.int a1, .int a2, .int a3, .int a4]) hx hb hml hown hts hl (MX4_reasonAgainst l D q (ad 0) v a1 a2 a3 a4) gX5_lodge_X4_reasonAgainst rfl kX4_reasonAgainst ⟨Nat.le_of_ble_eq_true rfl, Nat.le_of_ble_eq_true rfl⟩ rfl rfl (hP.sub (ws' := (wV q (ad 0) v)) [1, 2, 3, 4, 5, 6, 7, 8, 9, 10] rfl) (dT (hD.sub (ws' := (wV q (ad 0) v)) [1, 2, 3, 4, 5, 6, 7, 8, 9, 10] (by decide) rfl)) hG (ci := 2) rfl rfl rfl rfl (Nat.le_of_ble_eq_true rfl) dX5_lodge_9 ⟨Nat.zero_le _, Nat.zero_le _⟩ ?_
  refine lv_istore (lv' := [(5, .int (mX4_reasonAgainst v a1 a2 a3 a4)), (0, .ref (ad 9 0)), (1, .int a1), (2, .int a2), (3, .int a3), (4, .int a4)]) hx hb dX5_lodge_12 hl (by decide) rfl (fun ls hl => ?_)
  refine lv_iload hx hb dX5_lodge_14 (lv_at hl 0 rfl) ?_
  refine lv_if_ge (tgt := 22) hx hb dX5_lodge_16 (by decide) (fun c_1 => ?_) (fun c_1 => ?_)
  · rw [if_pos c_1] at hR
    refine lv_iload hx hb dX5_lodge_22 (lv_at hl 0 rfl) ?_
    refine lv_if_le (tgt := 65) hx hb dX5_lodge_24 (by decide) (fun c_2 => ?_) (fun c_2 => ?_)
    · rw [if_pos c_2] at hR
      refine lv_aload_n hx hb dX5_lodge_65 rfl (lv_at hl 1 rfl) ?_
      refine va_get (D := D) (ci := 3) (v := .ref ((ad 0) 0)) (C := RX5) (T := TX5) (N := 6) hx hb hts iX5_lodge_X5 hown hG.1 hP 0 rfl rfl 0 (by decide) (hts (.fieldLink RX5 12 "MillComplaints" "now" "LMillComplaints$Village;") (List.mem_of_getElem? (i := 1) rfl)) (fun _ h9 => h9) rfl dX5_lodge_66 ?_
      refine lv_iload_n hx hb dX5_lodge_69 rfl (lv_at hl 2 rfl) ?_
      refine lv_iload_n hx hb dX5_lodge_70 rfl (lv_at hl 3 rfl) ?_
      refine lv_iload_n hx hb dX5_lodge_71 rfl (lv_at hl 4 rfl) ?_
      refine lv_iload hx hb dX5_lodge_72 (lv_at hl 5 rfl) ?_
      obtain ⟨q_3, eq_3⟩ : ∃ z, z = (mX4_letStand v a1 a2 a3 a4) := ⟨_, rfl⟩
      have hM := MX4_letStand l D q (ad 0) v a1 a2 a3 a4
      rw [← eq_3] at hM
      replace hR := lt_e hR eq_3
      refine mu_V (D := D) (ws := (wXN q ad sn v)) (ws' := (wXN q ad sn q_3)) (rest := []) (As := [.int a1, .int a2, .int a3, .int a4]) hx hb hml hown hts hl hM gX5_lodge_X4_letStand rfl kX4_letStand ⟨Nat.le_of_ble_eq_true rfl, Nat.le_of_ble_eq_true rfl⟩ rfl rfl hP hD hS hG [1, 2, 3, 4, 5, 6, 7, 8, 9, 10] rfl rfl (by decide) [0, 11, 12, 13, 14, 15, 16, 17, 18, 19, 20] rfl (by decide) rfl (ci := 2) rfl rfl rfl rfl (Nat.le_of_ble_eq_true rfl) dX5_lodge_74 ⟨Nat.zero_le _, Nat.zero_le _⟩ (fun H locs hP hD hS => ?_)
      refine lv_aload_n hx hb dX5_lodge_77 rfl (lv_at hl 1 rfl) ?_
      refine va_get (D := D) (ci := 3) (v := .ref ((ad 0) 0)) (C := RX5) (T := TX5) (N := 6) hx hb hts iX5_lodge_X5 hown hG.1 hP 0 rfl rfl 0 (by decide) (hts (.fieldLink RX5 12 "MillComplaints" "now" "LMillComplaints$Village;") (List.mem_of_getElem? (i := 1) rfl)) (fun _ h9 => h9) rfl dX5_lodge_78 ?_
      refine va_getN (D := D) (ci := 2) (v := .ref ((ad 0) 3)) (C := RX4) (T := TX4) (N := 11) hx hb hts iX5_lodge_X4 hown hG.1 hP 1 rfl rfl 2 (by decide) (nwf_3 hG) (fun _ h9 => h9) rfl dX5_lodge_81 ?_
      refine lv_iconst (v := 0) hx hb dX5_lodge_84 (by decide) ?_
      refine lv_iconst (v := 1) hx hb dX5_lodge_85 (by decide) ?_
      obtain ⟨q_4, eq_4⟩ : ∃ z, z = (mX5_add 6 (q_3 2) 0 1) := ⟨_, rfl⟩
      have hM := MX5_add l D q ((ad 0) 3) 6 (q_3 2) 0 1 (by decide)
      rw [← eq_4] at hM
      replace hR := lt_e hR eq_4
      refine mu_S (D := D) (ws := (wXN q ad sn q_3)) (ws' := (wXN q ad sn (setA q_3 2 q_4))) (rest := []) (As := [.ref ((ad 0) 3), .int 0, .int 1]) hx hb hml hown hts hl hM gX5_lodge_X5_add rfl kX5_add ⟨Nat.le_of_ble_eq_true rfl, Nat.le_of_ble_eq_true rfl⟩ rfl rfl hP hD hS hG [4] rfl rfl (by decide) [0, 1, 2, 3, 11, 5, 6, 7, 8, 9, 10] rfl (by decide) rfl rfl rfl (Nat.le_of_ble_eq_true rfl) dX5_lodge_86 ⟨Nat.zero_le _, Nat.zero_le _⟩ (fun H locs hP hD hS => ?_)
      obtain ⟨v_5, ev_5⟩ : ∃ z, z = (setA q_3 2 q_4) := ⟨_, rfl⟩
      rw [← ev_5] at hP hD
      replace hR := lt_e hR ev_5
      refine lv_aload_n hx hb dX5_lodge_89 rfl (lv_at hl 1 rfl) ?_
      refine va_get (D := D) (ci := 3) (v := .ref ((ad 0) 0)) (C := RX5) (T := TX5) (N := 6) hx hb hts iX5_lodge_X5 hown hG.1 hP 0 rfl rfl 0 (by decide) (hts (.fieldLink RX5 12 "MillComplaints" "now" "LMillComplaints$Village;") (List.mem_of_getElem? (i := 1) rfl)) (fun _ h9 => h9) rfl dX5_lodge_90 ?_
      refine lv_iload_n hx hb dX5_lodge_93 rfl (lv_at hl 3 rfl) ?_
      refine lv_iload hx hb dX5_lodge_94 (lv_at hl 5 rfl) ?_
      refine ro_V (v := .int (mX4_points v_5 a2 a4)) (rest := []) (As := [.int a2, .int a4]) hx hb hml hown hts hl (MX4_points l D q (ad 0) v_5 a2 a4) gX5_lodge_X4_points rfl kX4_points ⟨Nat.le_of_ble_eq_true rfl, Nat.le_of_ble_eq_true rfl⟩ rfl rfl (hP.sub (ws' := (wV q (ad 0) v_5)) [1, 2, 3, 4, 5, 6, 7, 8, 9, 10] rfl) (dT (hD.sub (ws' := (wV q (ad 0) v_5)) [1, 2, 3, 4, 5, 6, 7, 8, 9, 10] (by decide) rfl)) hG (ci := 2) rfl rfl rfl rfl (Nat.le_of_ble_eq_true rfl) dX5_lodge_96 ⟨Nat.zero_le _, Nat.zero_le _⟩ ?_
      refine lv_istore (lv' := [(6, .int (mX4_points v_5 a2 a4)), (5, .int (mX4_reasonAgainst v a1 a2 a3 a4)), (0, .ref (ad 9 0)), (1, .int a1), (2, .int a2), (3, .int a3), (4, .int a4)]) hx hb dX5_lodge_99 hl (by decide) rfl (fun ls hl => ?_)
      refine lv_iload hx hb dX5_lodge_101 (lv_at hl 0 rfl) ?_
      refine lv_aload_n hx hb dX5_lodge_103 rfl (lv_at hl 2 rfl) ?_
      refine va_get (D := D) (ci := 3) (v := .ref ((ad 0) 0)) (C := RX5) (T := TX5) (N := 6) hx hb hts iX5_lodge_X5 hown hG.1 hP 0 rfl rfl 0 (by decide) (hts (.fieldLink RX5 12 "MillComplaints" "now" "LMillComplaints$Village;") (List.mem_of_getElem? (i := 1) rfl)) (fun _ h9 => h9) rfl dX5_lodge_104 ?_
      refine lv_iconst (v := 2) hx hb dX5_lodge_107 (by decide) ?_
      refine ro_V (v := .int (mX4_setting v_5 2)) (rest := [.int (mX4_points v_5 a2 a4)]) (As := [.int 2]) hx hb hml hown hts hl (MX4_setting l D q (ad 0) v_5 2) gX5_lodge_X4_setting rfl kX4_setting ⟨Nat.le_of_ble_eq_true rfl, Nat.le_of_ble_eq_true rfl⟩ rfl rfl (hP.sub (ws' := (wV q (ad 0) v_5)) [1, 2, 3, 4, 5, 6, 7, 8, 9, 10] rfl) (dT (hD.sub (ws' := (wV q (ad 0) v_5)) [1, 2, 3, 4, 5, 6, 7, 8, 9, 10] (by decide) rfl)) hG (ci := 2) rfl rfl rfl rfl (Nat.le_of_ble_eq_true rfl) dX5_lodge_108 ⟨Nat.zero_le _, Nat.zero_le _⟩ ?_
      refine lv_icmp_lt (tgt := 124) hx hb dX5_lodge_111 (by decide) (fun c_6 => ?_) (fun c_6 => ?_)
      · rw [if_pos c_6] at hR
        refine lv_iload hx hb dX5_lodge_124 (lv_at hl 0 rfl) ?_
        subst hR
        exact mu_iret hx hb hr hk hA hS hP rfl dX5_lodge_126
      · rw [if_neg c_6] at hR
        refine lv_aload_n hx hb dX5_lodge_114 rfl (lv_at hl 2 rfl) ?_
        refine va_get (D := D) (ci := 3) (v := .ref ((ad 0) 0)) (C := RX5) (T := TX5) (N := 6) hx hb hts iX5_lodge_X5 hown hG.1 hP 0 rfl rfl 0 (by decide) (hts (.fieldLink RX5 12 "MillComplaints" "now" "LMillComplaints$Village;") (List.mem_of_getElem? (i := 1) rfl)) (fun _ h9 => h9) rfl dX5_lodge_115 ?_
        refine lv_iload_n hx hb dX5_lodge_118 rfl (lv_at hl 4 rfl) ?_
        refine lv_iload hx hb dX5_lodge_119 (lv_at hl 6 rfl) ?_
        obtain ⟨q_7, eq_7⟩ : ∃ z, z = (mX4_tie v_5 a2 a4) := ⟨_, rfl⟩
        have hM := MX4_tie l D q (ad 0) v_5 a2 a4
        rw [← eq_7] at hM
        replace hR := lt_e hR eq_7
        refine mu_V (D := D) (ws := (wXN q ad sn v_5)) (ws' := (wXN q ad sn q_7)) (rest := []) (As := [.int a2, .int a4]) hx hb hml hown hts hl hM gX5_lodge_X4_tie rfl kX4_tie ⟨Nat.le_of_ble_eq_true rfl, Nat.le_of_ble_eq_true rfl⟩ rfl rfl hP hD hS hG [1, 2, 3, 4, 5, 6, 7, 8, 9, 10] rfl rfl (by decide) [0, 11, 12, 13, 14, 15, 16, 17, 18, 19, 20] rfl (by decide) rfl (ci := 2) rfl rfl rfl rfl (Nat.le_of_ble_eq_true rfl) dX5_lodge_121 ⟨Nat.zero_le _, Nat.zero_le _⟩ (fun H locs hP hD hS => ?_)
        refine lv_iload hx hb dX5_lodge_124 (lv_at hl 0 rfl) ?_
        subst hR
        exact mu_iret hx hb hr hk hA hS hP rfl dX5_lodge_126
    · rw [if_neg c_2] at hR
      refine lv_iload hx hb dX5_lodge_27 (lv_at hl 0 rfl) ?_
      refine ro_S (v := .int (mX5_isVain (mX4_reasonAgainst v a1 a2 a3 a4))) (rest := []) (As := [.int (mX4_reasonAgainst v a1 a2 a3 a4)]) hx hb hml hown hts hl (MX5_isVain l D q (mX4_reasonAgainst v a1 a2 a3 a4)) gX5_lodge_X5_isVain rfl kX5_isVain ⟨Nat.le_of_ble_eq_true rfl, Nat.le_of_ble_eq_true rfl⟩ rfl rfl (hP.sub (ws' := []) [] rfl) (dT (hD.sub (ws' := []) [] (by decide) rfl)) hG rfl rfl (Nat.le_of_ble_eq_true rfl) dX5_lodge_29 ⟨Nat.zero_le _, Nat.zero_le _⟩ ?_
      refine lv_if_eq (tgt := 59) hx hb dX5_lodge_32 (by decide) (fun c_8 => ?_) (fun c_8 => ?_)
      · rw [if_pos c_8] at hR
        refine lv_bipush (v := (-10)) hx hb dX5_lodge_59 (by decide) ?_
        refine lv_iload hx hb dX5_lodge_61 (lv_at hl 0 rfl) ?_
        refine lv_isub hx hb dX5_lodge_63 ?_
        subst hR
        exact mu_iret hx hb hr hk hA hS hP rfl dX5_lodge_64
      · rw [if_neg c_8] at hR
        refine lv_aload_n hx hb dX5_lodge_35 rfl (lv_at hl 1 rfl) ?_
        refine va_get (D := D) (ci := 3) (v := .ref ((ad 0) 0)) (C := RX5) (T := TX5) (N := 6) hx hb hts iX5_lodge_X5 hown hG.1 hP 0 rfl rfl 0 (by decide) (hts (.fieldLink RX5 12 "MillComplaints" "now" "LMillComplaints$Village;") (List.mem_of_getElem? (i := 1) rfl)) (fun _ h9 => h9) rfl dX5_lodge_36 ?_
        refine va_getN (D := D) (ci := 2) (v := .ref ((ad 0) 8)) (C := RX4) (T := TX4) (N := 11) hx hb hts iX5_lodge_X4 hown hG.1 hP 1 rfl rfl 9 (by decide) (nwf_9 hG) (fun _ h9 => h9) rfl dX5_lodge_39 ?_
        refine lv_iload_n hx hb dX5_lodge_42 rfl (lv_at hl 2 rfl) ?_
        refine lv_iconst (v := 1) hx hb dX5_lodge_43 (by decide) ?_
        obtain ⟨q_9, eq_9⟩ : ∃ z, z = (mX5_add 10 (v 7) a1 1) := ⟨_, rfl⟩
        have hM := MX5_add l D q ((ad 0) 8) 10 (v 7) a1 1 (by decide)
        rw [← eq_9] at hM
        replace hR := lt_e hR eq_9
        refine mu_S (D := D) (ws := (wXN q ad sn v)) (ws' := (wXN q ad sn (setA v 7 q_9))) (rest := []) (As := [.ref ((ad 0) 8), .int a1, .int 1]) hx hb hml hown hts hl hM gX5_lodge_X5_add rfl kX5_add ⟨Nat.le_of_ble_eq_true rfl, Nat.le_of_ble_eq_true rfl⟩ rfl rfl hP hD hS hG [9] rfl rfl (by decide) [0, 1, 2, 3, 4, 5, 6, 7, 8, 11, 10] rfl (by decide) rfl rfl rfl (Nat.le_of_ble_eq_true rfl) dX5_lodge_44 ⟨Nat.zero_le _, Nat.zero_le _⟩ (fun H locs hP hD hS => ?_)
        obtain ⟨v_10, ev_10⟩ : ∃ z, z = (setA v 7 q_9) := ⟨_, rfl⟩
        rw [← ev_10] at hP hD
        replace hR := lt_e hR ev_10
        refine lv_aload_n hx hb dX5_lodge_47 rfl (lv_at hl 1 rfl) ?_
        refine va_get (D := D) (ci := 3) (v := .ref ((ad 0) 0)) (C := RX5) (T := TX5) (N := 6) hx hb hts iX5_lodge_X5 hown hG.1 hP 0 rfl rfl 0 (by decide) (hts (.fieldLink RX5 12 "MillComplaints" "now" "LMillComplaints$Village;") (List.mem_of_getElem? (i := 1) rfl)) (fun _ h9 => h9) rfl dX5_lodge_48 ?_
        refine va_getN (D := D) (ci := 2) (v := .ref ((ad 0) 3)) (C := RX4) (T := TX4) (N := 11) hx hb hts iX5_lodge_X4 hown hG.1 hP 1 rfl rfl 2 (by decide) (nwf_3 hG) (fun _ h9 => h9) rfl dX5_lodge_51 ?_
        refine lv_iconst (v := 1) hx hb dX5_lodge_54 (by decide) ?_
        refine lv_iconst (v := 1) hx hb dX5_lodge_55 (by decide) ?_
        obtain ⟨q_11, eq_11⟩ : ∃ z, z = (mX5_add 6 (v_10 2) 1 1) := ⟨_, rfl⟩
        have hM := MX5_add l D q ((ad 0) 3) 6 (v_10 2) 1 1 (by decide)
        rw [← eq_11] at hM
        replace hR := lt_e hR eq_11
        refine mu_S (D := D) (ws := (wXN q ad sn v_10)) (ws' := (wXN q ad sn (setA v_10 2 q_11))) (rest := []) (As := [.ref ((ad 0) 3), .int 1, .int 1]) hx hb hml hown hts hl hM gX5_lodge_X5_add rfl kX5_add ⟨Nat.le_of_ble_eq_true rfl, Nat.le_of_ble_eq_true rfl⟩ rfl rfl hP hD hS hG [4] rfl rfl (by decide) [0, 1, 2, 3, 11, 5, 6, 7, 8, 9, 10] rfl (by decide) rfl rfl rfl (Nat.le_of_ble_eq_true rfl) dX5_lodge_56 ⟨Nat.zero_le _, Nat.zero_le _⟩ (fun H locs hP hD hS => ?_)
        obtain ⟨v_12, ev_12⟩ : ∃ z, z = (setA v_10 2 q_11) := ⟨_, rfl⟩
        rw [← ev_12] at hP hD
        replace hR := lt_e hR ev_12
        refine lv_bipush (v := (-10)) hx hb dX5_lodge_59 (by decide) ?_
        refine lv_iload hx hb dX5_lodge_61 (lv_at hl 0 rfl) ?_
        refine lv_isub hx hb dX5_lodge_63 ?_
        subst hR
        exact mu_iret hx hb hr hk hA hS hP rfl dX5_lodge_64
  · rw [if_neg c_1] at hR
    refine lv_iload hx hb dX5_lodge_19 (lv_at hl 0 rfl) ?_
    subst hR
    exact mu_iret hx hb hr hk hA hS hP rfl dX5_lodge_21

def mX5_winSuit (v : Nat → Nat → Int32) (a1 a2 a3 : Int32) : (Nat → Nat → Int32) := (lt (mX5_add 6 (v 2) 3 1) (fun q_1 => (lt (setA v 2 q_1) (fun v_2 => (lt (mX5_add 10 (v_2 7) a2 1) (fun q_3 => (lt (setA v_2 7 q_3) (fun v_4 => (lt (mX4_dropFor v_4 a2 a1 a3) (fun q_5 => (if (mX4_setting q_5 2) ≤ (mX4_points q_5 a1 a3) then q_5 else (lt (mX4_untie q_5 a1 a3) (fun q_7 => q_7)))))))))))))
theorem kX5_winSuit : yX5_winSuit.cls = RX5 ∧ yX5_winSuit.cls ≠ "java/lang/invoke/MethodHandle" ∧ yX5_winSuit.cls ≠ "java/lang/invoke/VarHandle" ∧ (parseMethodDescriptor yX5_winSuit.desc).map (fun d => d.parameters.length) = some 3 := by decide +kernel
theorem iX5_winSuit_X5 : ∀ w ∈ wsX50, w ∈ wsX5_winSuit := fun w h => (List.mem_cons_of_mem _ (List.mem_append_left _ (List.mem_append_right _ h)))
theorem iX5_winSuit_X4 : ∀ w ∈ wsX40, w ∈ wsX5_winSuit := fun w h => (List.mem_cons_of_mem _ (List.mem_append_right _ h))
set_option maxHeartbeats 4000000 in
set_option maxRecDepth 100000 in
theorem MX5_winSuit (l : Launch) (D : va_G) (q : Nat → ClassId) (ad : Nat → Nat → Nat) (sn : Int32) (v : Nat → Nat → Int32) (a1 a2 a3 : Int32)  : muM l D (tyq q) yX5_winSuit wsX5_winSuit ({ frames := 4, cells := 0, slots := 0, locals := 95 } : Room) [.ref (ad 9 0), .int a1, .int a2, .int a3] (wXN q ad sn v) none (wXN q ad sn (mX5_winSuit v a1 a2 a3)) := by
  obtain ⟨R, hR⟩ : ∃ z, (mX5_winSuit v a1 a2 a3) = z := ⟨_, rfl⟩
  rw [hR]
  unfold mX5_winSuit at hR
  refine muM.of (cc := cX5_winSuit) (maxL := 4) (ret := none) (by decide) rfl (Nat.le_of_ble_eq_true rfl) ?_
  intro p e s m below meth c ls A hx hb hr hk hml hown hts hP hD hG hA hl
  have hS : va_S A s.heap s.heap [] := va_S.rf
  have hl : lv_has ls 4 [(0, .ref (ad 9 0)), (1, .int a1), (2, .int a2), (3, .int a3)] := hl
  refine lv_aload_n hx hb dX5_winSuit_0 rfl (lv_at hl 0 rfl) ?_
  refine va_get (D := D) (ci := 3) (v := .ref ((ad 0) 0)) (C := RX5) (T := TX5) (N := 6) hx hb hts iX5_winSuit_X5 hown hG.1 hP 0 rfl rfl 0 (by decide) (hts (.fieldLink RX5 12 "MillComplaints" "now" "LMillComplaints$Village;") (List.mem_of_getElem? (i := 1) rfl)) (fun _ h9 => h9) rfl dX5_winSuit_1 ?_
  refine va_getN (D := D) (ci := 2) (v := .ref ((ad 0) 3)) (C := RX4) (T := TX4) (N := 11) hx hb hts iX5_winSuit_X4 hown hG.1 hP 1 rfl rfl 2 (by decide) (nwf_3 hG) (fun _ h9 => h9) rfl dX5_winSuit_4 ?_
  refine lv_iconst (v := 3) hx hb dX5_winSuit_7 (by decide) ?_
  refine lv_iconst (v := 1) hx hb dX5_winSuit_8 (by decide) ?_
  obtain ⟨q_1, eq_1⟩ : ∃ z, z = (mX5_add 6 (v 2) 3 1) := ⟨_, rfl⟩
  have hM := MX5_add l D q ((ad 0) 3) 6 (v 2) 3 1 (by decide)
  rw [← eq_1] at hM
  replace hR := lt_e hR eq_1
  refine mu_S (D := D) (ws := (wXN q ad sn v)) (ws' := (wXN q ad sn (setA v 2 q_1))) (rest := []) (As := [.ref ((ad 0) 3), .int 3, .int 1]) hx hb hml hown hts hl hM gX5_winSuit_X5_add rfl kX5_add ⟨Nat.le_of_ble_eq_true rfl, Nat.le_of_ble_eq_true rfl⟩ rfl rfl hP hD hS hG [4] rfl rfl (by decide) [0, 1, 2, 3, 11, 5, 6, 7, 8, 9, 10] rfl (by decide) rfl rfl rfl (Nat.le_of_ble_eq_true rfl) dX5_winSuit_9 ⟨Nat.zero_le _, Nat.zero_le _⟩ (fun H locs hP hD hS => ?_)
  obtain ⟨v_2, ev_2⟩ : ∃ z, z = (setA v 2 q_1) := ⟨_, rfl⟩
  rw [← ev_2] at hP hD
  replace hR := lt_e hR ev_2
  refine lv_aload_n hx hb dX5_winSuit_12 rfl (lv_at hl 0 rfl) ?_
  refine va_get (D := D) (ci := 3) (v := .ref ((ad 0) 0)) (C := RX5) (T := TX5) (N := 6) hx hb hts iX5_winSuit_X5 hown hG.1 hP 0 rfl rfl 0 (by decide) (hts (.fieldLink RX5 12 "MillComplaints" "now" "LMillComplaints$Village;") (List.mem_of_getElem? (i := 1) rfl)) (fun _ h9 => h9) rfl dX5_winSuit_13 ?_
  refine va_getN (D := D) (ci := 2) (v := .ref ((ad 0) 8)) (C := RX4) (T := TX4) (N := 11) hx hb hts iX5_winSuit_X4 hown hG.1 hP 1 rfl rfl 9 (by decide) (nwf_9 hG) (fun _ h9 => h9) rfl dX5_winSuit_16 ?_
  refine lv_iload_n hx hb dX5_winSuit_19 rfl (lv_at hl 2 rfl) ?_
  refine lv_iconst (v := 1) hx hb dX5_winSuit_20 (by decide) ?_
  obtain ⟨q_3, eq_3⟩ : ∃ z, z = (mX5_add 10 (v_2 7) a2 1) := ⟨_, rfl⟩
  have hM := MX5_add l D q ((ad 0) 8) 10 (v_2 7) a2 1 (by decide)
  rw [← eq_3] at hM
  replace hR := lt_e hR eq_3
  refine mu_S (D := D) (ws := (wXN q ad sn v_2)) (ws' := (wXN q ad sn (setA v_2 7 q_3))) (rest := []) (As := [.ref ((ad 0) 8), .int a2, .int 1]) hx hb hml hown hts hl hM gX5_winSuit_X5_add rfl kX5_add ⟨Nat.le_of_ble_eq_true rfl, Nat.le_of_ble_eq_true rfl⟩ rfl rfl hP hD hS hG [9] rfl rfl (by decide) [0, 1, 2, 3, 4, 5, 6, 7, 8, 11, 10] rfl (by decide) rfl rfl rfl (Nat.le_of_ble_eq_true rfl) dX5_winSuit_21 ⟨Nat.zero_le _, Nat.zero_le _⟩ (fun H locs hP hD hS => ?_)
  obtain ⟨v_4, ev_4⟩ : ∃ z, z = (setA v_2 7 q_3) := ⟨_, rfl⟩
  rw [← ev_4] at hP hD
  replace hR := lt_e hR ev_4
  refine lv_aload_n hx hb dX5_winSuit_24 rfl (lv_at hl 0 rfl) ?_
  refine va_get (D := D) (ci := 3) (v := .ref ((ad 0) 0)) (C := RX5) (T := TX5) (N := 6) hx hb hts iX5_winSuit_X5 hown hG.1 hP 0 rfl rfl 0 (by decide) (hts (.fieldLink RX5 12 "MillComplaints" "now" "LMillComplaints$Village;") (List.mem_of_getElem? (i := 1) rfl)) (fun _ h9 => h9) rfl dX5_winSuit_25 ?_
  refine lv_iload_n hx hb dX5_winSuit_28 rfl (lv_at hl 2 rfl) ?_
  refine lv_iload_n hx hb dX5_winSuit_29 rfl (lv_at hl 1 rfl) ?_
  refine lv_iload_n hx hb dX5_winSuit_30 rfl (lv_at hl 3 rfl) ?_
  obtain ⟨q_5, eq_5⟩ : ∃ z, z = (mX4_dropFor v_4 a2 a1 a3) := ⟨_, rfl⟩
  have hM := MX4_dropFor l D q (ad 0) v_4 a2 a1 a3
  rw [← eq_5] at hM
  replace hR := lt_e hR eq_5
  refine mu_V (D := D) (ws := (wXN q ad sn v_4)) (ws' := (wXN q ad sn q_5)) (rest := []) (As := [.int a2, .int a1, .int a3]) hx hb hml hown hts hl hM gX5_winSuit_X4_dropFor rfl kX4_dropFor ⟨Nat.le_of_ble_eq_true rfl, Nat.le_of_ble_eq_true rfl⟩ rfl rfl hP hD hS hG [1, 2, 3, 4, 5, 6, 7, 8, 9, 10] rfl rfl (by decide) [0, 11, 12, 13, 14, 15, 16, 17, 18, 19, 20] rfl (by decide) rfl (ci := 2) rfl rfl rfl rfl (Nat.le_of_ble_eq_true rfl) dX5_winSuit_31 ⟨Nat.zero_le _, Nat.zero_le _⟩ (fun H locs hP hD hS => ?_)
  refine lv_aload_n hx hb dX5_winSuit_34 rfl (lv_at hl 0 rfl) ?_
  refine va_get (D := D) (ci := 3) (v := .ref ((ad 0) 0)) (C := RX5) (T := TX5) (N := 6) hx hb hts iX5_winSuit_X5 hown hG.1 hP 0 rfl rfl 0 (by decide) (hts (.fieldLink RX5 12 "MillComplaints" "now" "LMillComplaints$Village;") (List.mem_of_getElem? (i := 1) rfl)) (fun _ h9 => h9) rfl dX5_winSuit_35 ?_
  refine lv_iload_n hx hb dX5_winSuit_38 rfl (lv_at hl 1 rfl) ?_
  refine lv_iload_n hx hb dX5_winSuit_39 rfl (lv_at hl 3 rfl) ?_
  refine ro_V (v := .int (mX4_points q_5 a1 a3)) (rest := []) (As := [.int a1, .int a3]) hx hb hml hown hts hl (MX4_points l D q (ad 0) q_5 a1 a3) gX5_winSuit_X4_points rfl kX4_points ⟨Nat.le_of_ble_eq_true rfl, Nat.le_of_ble_eq_true rfl⟩ rfl rfl (hP.sub (ws' := (wV q (ad 0) q_5)) [1, 2, 3, 4, 5, 6, 7, 8, 9, 10] rfl) (dT (hD.sub (ws' := (wV q (ad 0) q_5)) [1, 2, 3, 4, 5, 6, 7, 8, 9, 10] (by decide) rfl)) hG (ci := 2) rfl rfl rfl rfl (Nat.le_of_ble_eq_true rfl) dX5_winSuit_40 ⟨Nat.zero_le _, Nat.zero_le _⟩ ?_
  refine lv_aload_n hx hb dX5_winSuit_43 rfl (lv_at hl 0 rfl) ?_
  refine va_get (D := D) (ci := 3) (v := .ref ((ad 0) 0)) (C := RX5) (T := TX5) (N := 6) hx hb hts iX5_winSuit_X5 hown hG.1 hP 0 rfl rfl 0 (by decide) (hts (.fieldLink RX5 12 "MillComplaints" "now" "LMillComplaints$Village;") (List.mem_of_getElem? (i := 1) rfl)) (fun _ h9 => h9) rfl dX5_winSuit_44 ?_
  refine lv_iconst (v := 2) hx hb dX5_winSuit_47 (by decide) ?_
  refine ro_V (v := .int (mX4_setting q_5 2)) (rest := [.int (mX4_points q_5 a1 a3)]) (As := [.int 2]) hx hb hml hown hts hl (MX4_setting l D q (ad 0) q_5 2) gX5_winSuit_X4_setting rfl kX4_setting ⟨Nat.le_of_ble_eq_true rfl, Nat.le_of_ble_eq_true rfl⟩ rfl rfl (hP.sub (ws' := (wV q (ad 0) q_5)) [1, 2, 3, 4, 5, 6, 7, 8, 9, 10] rfl) (dT (hD.sub (ws' := (wV q (ad 0) q_5)) [1, 2, 3, 4, 5, 6, 7, 8, 9, 10] (by decide) rfl)) hG (ci := 2) rfl rfl rfl rfl (Nat.le_of_ble_eq_true rfl) dX5_winSuit_48 ⟨Nat.zero_le _, Nat.zero_le _⟩ ?_
  refine lv_icmp_ge (tgt := 63) hx hb dX5_winSuit_51 (by decide) (fun c_6 => ?_) (fun c_6 => ?_)
  · rw [if_pos c_6] at hR
    subst hR
    exact mu_vret hx hb hr hk hA hS hP dX5_winSuit_63
  · rw [if_neg c_6] at hR
    refine lv_aload_n hx hb dX5_winSuit_54 rfl (lv_at hl 0 rfl) ?_
    refine va_get (D := D) (ci := 3) (v := .ref ((ad 0) 0)) (C := RX5) (T := TX5) (N := 6) hx hb hts iX5_winSuit_X5 hown hG.1 hP 0 rfl rfl 0 (by decide) (hts (.fieldLink RX5 12 "MillComplaints" "now" "LMillComplaints$Village;") (List.mem_of_getElem? (i := 1) rfl)) (fun _ h9 => h9) rfl dX5_winSuit_55 ?_
    refine lv_iload_n hx hb dX5_winSuit_58 rfl (lv_at hl 1 rfl) ?_
    refine lv_iload_n hx hb dX5_winSuit_59 rfl (lv_at hl 3 rfl) ?_
    obtain ⟨q_7, eq_7⟩ : ∃ z, z = (mX4_untie q_5 a1 a3) := ⟨_, rfl⟩
    have hM := MX4_untie l D q (ad 0) q_5 a1 a3
    rw [← eq_7] at hM
    replace hR := lt_e hR eq_7
    refine mu_V (D := D) (ws := (wXN q ad sn q_5)) (ws' := (wXN q ad sn q_7)) (rest := []) (As := [.int a1, .int a3]) hx hb hml hown hts hl hM gX5_winSuit_X4_untie rfl kX4_untie ⟨Nat.le_of_ble_eq_true rfl, Nat.le_of_ble_eq_true rfl⟩ rfl rfl hP hD hS hG [1, 2, 3, 4, 5, 6, 7, 8, 9, 10] rfl rfl (by decide) [0, 11, 12, 13, 14, 15, 16, 17, 18, 19, 20] rfl (by decide) rfl (ci := 2) rfl rfl rfl rfl (Nat.le_of_ble_eq_true rfl) dX5_winSuit_60 ⟨Nat.zero_le _, Nat.zero_le _⟩ (fun H locs hP hD hS => ?_)
    subst hR
    exact mu_vret hx hb hr hk hA hS hP dX5_winSuit_63

def mX5_doPart (v t : Nat → Nat → Int32) (a1 a2 : Int32) : Int32 × (Nat → Nat → Int32) := (if (mX3_signAt t a1) = 104 then (lt (mX5_bringHouse v (mX3_yardAt t (a1 + 2))) (fun q_2 => (q_2.1, q_2.2))) else (if (mX3_signAt t a1) = 109 then (lt (mX5_bringMill v (mX3_digitAt t (a1 + 1)) (mX3_yardAt t (a1 + 3))) (fun q_4 => (q_4.1, q_4.2))) else (if (mX3_signAt t a1) = 119 then (lt (mX5_tellWind v (mX3_numberAt t (a1 + 1) (a2 - 2)) (mX3_numberAt t (a1 + 1) (a2 - 2)) (mX3_digitAt t (a2 - 1))) (fun q_6 => (q_6.1, q_6.2))) else (if (mX3_signAt t (a1 + 3)) = 110 then (lt (mX5_lodge v (mX3_digitAt t (a1 + 1)) (mX3_digitAt t (a1 + 2)) 0 (mX3_numberAt t (a1 + 4) a2)) (fun q_9 => (q_9.1, q_9.2))) else (lt (mX5_lodge v (mX3_digitAt t (a1 + 1)) (mX3_digitAt t (a1 + 2)) 1 (mX3_numberAt t (a1 + 4) a2)) (fun q_8 => (q_8.1, q_8.2)))))))
theorem kX5_doPart : yX5_doPart.cls = RX5 ∧ yX5_doPart.cls ≠ "java/lang/invoke/MethodHandle" ∧ yX5_doPart.cls ≠ "java/lang/invoke/VarHandle" ∧ (parseMethodDescriptor yX5_doPart.desc).map (fun d => d.parameters.length) = some 2 := by decide +kernel
theorem iX5_doPart_X5 : ∀ w ∈ wsX50, w ∈ wsX5_doPart := fun w h => (List.mem_cons_of_mem _ (List.mem_append_left _ (List.mem_append_left _ (List.mem_append_right _ h))))
set_option maxHeartbeats 4000000 in
set_option maxRecDepth 100000 in
theorem MX5_doPart (l : Launch) (D : va_G) (q : Nat → ClassId) (ad : Nat → Nat → Nat) (sn : Int32) (v t : Nat → Nat → Int32) (a1 a2 : Int32) (hch : chOk t) : muM l D (tyq q) yX5_doPart wsX5_doPart ({ frames := 6, cells := 0, slots := 0, locals := 146 } : Room) [.ref (ad 9 0), .int a1, .int a2] (wXNT q ad sn v t) (some (.int (mX5_doPart v t a1 a2).1)) (wXNT q ad sn (mX5_doPart v t a1 a2).2 t) := by
  obtain ⟨R, hR⟩ : ∃ z, (mX5_doPart v t a1 a2) = z := ⟨_, rfl⟩
  rw [hR]
  unfold mX5_doPart at hR
  refine muM.of (cc := cX5_doPart) (maxL := 5) (ret := (some .int)) (by decide) rfl (Nat.le_of_ble_eq_true rfl) ?_
  intro p e s m below meth c ls A hx hb hr hk hml hown hts hP hD hG hA hl
  have hS : va_S A s.heap s.heap [] := va_S.rf
  have hl : lv_has ls 5 [(0, .ref (ad 9 0)), (1, .int a1), (2, .int a2)] := hl
  refine lv_aload_n hx hb dX5_doPart_0 rfl (lv_at hl 0 rfl) ?_
  refine va_get (D := D) (ci := 3) (v := .ref ((ad 7) 0)) (C := RX5) (T := TX5) (N := 6) hx hb hts iX5_doPart_X5 hown hG.1 hP 0 rfl rfl 5 (by decide) (hts (.fieldLink RX5 36 "MillComplaints" "text" "LMillComplaints$Text;") (List.mem_of_getElem? (i := 1) rfl)) (fun _ h9 => h9) rfl dX5_doPart_1 ?_
  refine lv_iload_n hx hb dX5_doPart_4 rfl (lv_at hl 1 rfl) ?_
  refine ro_V (v := .int (mX3_signAt t a1)) (rest := []) (As := [.int a1]) hx hb hml hown hts hl (MX3_signAt l D q (ad 7) t a1 hch) gX5_doPart_X3_signAt rfl kX3_signAt ⟨Nat.le_of_ble_eq_true rfl, Nat.le_of_ble_eq_true rfl⟩ rfl rfl (hP.sub (ws' := (wT q (ad 7) t)) [11, 12] rfl) (dT (hD.sub (ws' := (wT q (ad 7) t)) [11, 12] (by decide) rfl)) hG (ci := 1) rfl rfl rfl rfl (Nat.le_of_ble_eq_true rfl) dX5_doPart_5 ⟨Nat.zero_le _, Nat.zero_le _⟩ ?_
  by_cases c_1 : (mX3_signAt t a1) = 104
  · rw [if_pos c_1] at hR
    refine lv_lookup (off := 61) (tgt := 69) hx hb dX5_doPart_8 (by decide) (by rw [c_1]; decide) (by decide) ?_
    refine lv_aload_n hx hb dX5_doPart_69 rfl (lv_at hl 0 rfl) ?_
    refine lv_aload_n hx hb dX5_doPart_70 rfl (lv_at hl 0 rfl) ?_
    refine va_get (D := D) (ci := 3) (v := .ref ((ad 7) 0)) (C := RX5) (T := TX5) (N := 6) hx hb hts iX5_doPart_X5 hown hG.1 hP 0 rfl rfl 5 (by decide) (hts (.fieldLink RX5 36 "MillComplaints" "text" "LMillComplaints$Text;") (List.mem_of_getElem? (i := 1) rfl)) (fun _ h9 => h9) rfl dX5_doPart_71 ?_
    refine lv_iload_n hx hb dX5_doPart_74 rfl (lv_at hl 1 rfl) ?_
    refine lv_iconst (v := 2) hx hb dX5_doPart_75 (by decide) ?_
    refine lv_iadd hx hb dX5_doPart_76 ?_
    refine ro_V (v := .int (mX3_yardAt t (a1 + 2))) (rest := [.ref (ad 9 0)]) (As := [.int (a1 + 2)]) hx hb hml hown hts hl (MX3_yardAt l D q (ad 7) t (a1 + 2) hch) gX5_doPart_X3_yardAt rfl kX3_yardAt ⟨Nat.le_of_ble_eq_true rfl, Nat.le_of_ble_eq_true rfl⟩ rfl rfl (hP.sub (ws' := (wT q (ad 7) t)) [11, 12] rfl) (dT (hD.sub (ws' := (wT q (ad 7) t)) [11, 12] (by decide) rfl)) hG (ci := 1) rfl rfl rfl rfl (Nat.le_of_ble_eq_true rfl) dX5_doPart_77 ⟨Nat.zero_le _, Nat.zero_le _⟩ ?_
    obtain ⟨q_2, eq_2⟩ : ∃ z, z = (mX5_bringHouse v (mX3_yardAt t (a1 + 2))) := ⟨_, rfl⟩
    have hM := MX5_bringHouse l D q ad sn v (mX3_yardAt t (a1 + 2))
    rw [← eq_2] at hM
    replace hR := lt_e hR eq_2
    refine mu_V (D := D) (ws := (wXNT q ad sn v t)) (ws' := (wXNT q ad sn q_2.2 t)) (rest := []) (As := [.int (mX3_yardAt t (a1 + 2))]) hx hb hml hown hts hl hM gX5_doPart_X5_bringHouse rfl kX5_bringHouse ⟨Nat.le_of_ble_eq_true rfl, Nat.le_of_ble_eq_true rfl⟩ rfl rfl hP hD hS hG [0, 1, 2, 3, 4, 5, 6, 7, 8, 9, 10] rfl rfl (by decide) [13, 14, 15, 16, 17, 18, 19, 20, 21, 22, 23, 11, 12] rfl (by decide) rfl (ci := 3) rfl rfl rfl rfl (Nat.le_of_ble_eq_true rfl) dX5_doPart_80 ⟨Nat.zero_le _, Nat.zero_le _⟩ (fun H locs hP hD hS => ?_)
    subst hR
    exact mu_iret hx hb hr hk hA hS hP rfl dX5_doPart_83
  · rw [if_neg c_1] at hR
    by_cases c_3 : (mX3_signAt t a1) = 109
    · rw [if_pos c_3] at hR
      refine lv_lookup (off := 36) (tgt := 44) hx hb dX5_doPart_8 (by decide) (by rw [c_3]; decide) (by decide) ?_
      refine lv_aload_n hx hb dX5_doPart_44 rfl (lv_at hl 0 rfl) ?_
      refine lv_aload_n hx hb dX5_doPart_45 rfl (lv_at hl 0 rfl) ?_
      refine va_get (D := D) (ci := 3) (v := .ref ((ad 7) 0)) (C := RX5) (T := TX5) (N := 6) hx hb hts iX5_doPart_X5 hown hG.1 hP 0 rfl rfl 5 (by decide) (hts (.fieldLink RX5 36 "MillComplaints" "text" "LMillComplaints$Text;") (List.mem_of_getElem? (i := 1) rfl)) (fun _ h9 => h9) rfl dX5_doPart_46 ?_
      refine lv_iload_n hx hb dX5_doPart_49 rfl (lv_at hl 1 rfl) ?_
      refine lv_iconst (v := 1) hx hb dX5_doPart_50 (by decide) ?_
      refine lv_iadd hx hb dX5_doPart_51 ?_
      refine ro_V (v := .int (mX3_digitAt t (a1 + 1))) (rest := [.ref (ad 9 0)]) (As := [.int (a1 + 1)]) hx hb hml hown hts hl (MX3_digitAt l D q (ad 7) t (a1 + 1) hch) gX5_doPart_X3_digitAt rfl kX3_digitAt ⟨Nat.le_of_ble_eq_true rfl, Nat.le_of_ble_eq_true rfl⟩ rfl rfl (hP.sub (ws' := (wT q (ad 7) t)) [11, 12] rfl) (dT (hD.sub (ws' := (wT q (ad 7) t)) [11, 12] (by decide) rfl)) hG (ci := 1) rfl rfl rfl rfl (Nat.le_of_ble_eq_true rfl) dX5_doPart_52 ⟨Nat.zero_le _, Nat.zero_le _⟩ ?_
      refine lv_aload_n hx hb dX5_doPart_55 rfl (lv_at hl 0 rfl) ?_
      refine va_get (D := D) (ci := 3) (v := .ref ((ad 7) 0)) (C := RX5) (T := TX5) (N := 6) hx hb hts iX5_doPart_X5 hown hG.1 hP 0 rfl rfl 5 (by decide) (hts (.fieldLink RX5 36 "MillComplaints" "text" "LMillComplaints$Text;") (List.mem_of_getElem? (i := 1) rfl)) (fun _ h9 => h9) rfl dX5_doPart_56 ?_
      refine lv_iload_n hx hb dX5_doPart_59 rfl (lv_at hl 1 rfl) ?_
      refine lv_iconst (v := 3) hx hb dX5_doPart_60 (by decide) ?_
      refine lv_iadd hx hb dX5_doPart_61 ?_
      refine ro_V (v := .int (mX3_yardAt t (a1 + 3))) (rest := [.int (mX3_digitAt t (a1 + 1)), .ref (ad 9 0)]) (As := [.int (a1 + 3)]) hx hb hml hown hts hl (MX3_yardAt l D q (ad 7) t (a1 + 3) hch) gX5_doPart_X3_yardAt rfl kX3_yardAt ⟨Nat.le_of_ble_eq_true rfl, Nat.le_of_ble_eq_true rfl⟩ rfl rfl (hP.sub (ws' := (wT q (ad 7) t)) [11, 12] rfl) (dT (hD.sub (ws' := (wT q (ad 7) t)) [11, 12] (by decide) rfl)) hG (ci := 1) rfl rfl rfl rfl (Nat.le_of_ble_eq_true rfl) dX5_doPart_62 ⟨Nat.zero_le _, Nat.zero_le _⟩ ?_
      obtain ⟨q_4, eq_4⟩ : ∃ z, z = (mX5_bringMill v (mX3_digitAt t (a1 + 1)) (mX3_yardAt t (a1 + 3))) := ⟨_, rfl⟩
      have hM := MX5_bringMill l D q ad sn v (mX3_digitAt t (a1 + 1)) (mX3_yardAt t (a1 + 3))
      rw [← eq_4] at hM
      replace hR := lt_e hR eq_4
      refine mu_V (D := D) (ws := (wXNT q ad sn v t)) (ws' := (wXNT q ad sn q_4.2 t)) (rest := []) (As := [.int (mX3_digitAt t (a1 + 1)), .int (mX3_yardAt t (a1 + 3))]) hx hb hml hown hts hl hM gX5_doPart_X5_bringMill rfl kX5_bringMill ⟨Nat.le_of_ble_eq_true rfl, Nat.le_of_ble_eq_true rfl⟩ rfl rfl hP hD hS hG [0, 1, 2, 3, 4, 5, 6, 7, 8, 9, 10] rfl rfl (by decide) [13, 14, 15, 16, 17, 18, 19, 20, 21, 22, 23, 11, 12] rfl (by decide) rfl (ci := 3) rfl rfl rfl rfl (Nat.le_of_ble_eq_true rfl) dX5_doPart_65 ⟨Nat.zero_le _, Nat.zero_le _⟩ (fun H locs hP hD hS => ?_)
      subst hR
      exact mu_iret hx hb hr hk hA hS hP rfl dX5_doPart_68
    · rw [if_neg c_3] at hR
      by_cases c_5 : (mX3_signAt t a1) = 119
      · rw [if_pos c_5] at hR
        refine lv_lookup (off := 76) (tgt := 84) hx hb dX5_doPart_8 (by decide) (by rw [c_5]; decide) (by decide) ?_
        refine lv_aload_n hx hb dX5_doPart_84 rfl (lv_at hl 0 rfl) ?_
        refine va_get (D := D) (ci := 3) (v := .ref ((ad 7) 0)) (C := RX5) (T := TX5) (N := 6) hx hb hts iX5_doPart_X5 hown hG.1 hP 0 rfl rfl 5 (by decide) (hts (.fieldLink RX5 36 "MillComplaints" "text" "LMillComplaints$Text;") (List.mem_of_getElem? (i := 1) rfl)) (fun _ h9 => h9) rfl dX5_doPart_85 ?_
        refine lv_iload_n hx hb dX5_doPart_88 rfl (lv_at hl 1 rfl) ?_
        refine lv_iconst (v := 1) hx hb dX5_doPart_89 (by decide) ?_
        refine lv_iadd hx hb dX5_doPart_90 ?_
        refine lv_iload_n hx hb dX5_doPart_91 rfl (lv_at hl 2 rfl) ?_
        refine lv_iconst (v := 2) hx hb dX5_doPart_92 (by decide) ?_
        refine lv_isub hx hb dX5_doPart_93 ?_
        refine ro_V (v := .int (mX3_numberAt t (a1 + 1) (a2 - 2))) (rest := []) (As := [.int (a1 + 1), .int (a2 - 2)]) hx hb hml hown hts hl (MX3_numberAt l D q (ad 7) t (a1 + 1) (a2 - 2) hch) gX5_doPart_X3_numberAt rfl kX3_numberAt ⟨Nat.le_of_ble_eq_true rfl, Nat.le_of_ble_eq_true rfl⟩ rfl rfl (hP.sub (ws' := (wT q (ad 7) t)) [11, 12] rfl) (dT (hD.sub (ws' := (wT q (ad 7) t)) [11, 12] (by decide) rfl)) hG (ci := 1) rfl rfl rfl rfl (Nat.le_of_ble_eq_true rfl) dX5_doPart_94 ⟨Nat.zero_le _, Nat.zero_le _⟩ ?_
        refine lv_istore_n (lv' := [(3, .int (mX3_numberAt t (a1 + 1) (a2 - 2))), (0, .ref (ad 9 0)), (1, .int a1), (2, .int a2)]) hx hb dX5_doPart_97 rfl hl (by decide) rfl (fun ls hl => ?_)
        refine lv_aload_n hx hb dX5_doPart_98 rfl (lv_at hl 1 rfl) ?_
        refine lv_iload_n hx hb dX5_doPart_99 rfl (lv_at hl 0 rfl) ?_
        refine lv_iload_n hx hb dX5_doPart_100 rfl (lv_at hl 0 rfl) ?_
        refine lv_aload_n hx hb dX5_doPart_101 rfl (lv_at hl 1 rfl) ?_
        refine va_get (D := D) (ci := 3) (v := .ref ((ad 7) 0)) (C := RX5) (T := TX5) (N := 6) hx hb hts iX5_doPart_X5 hown hG.1 hP 0 rfl rfl 5 (by decide) (hts (.fieldLink RX5 36 "MillComplaints" "text" "LMillComplaints$Text;") (List.mem_of_getElem? (i := 1) rfl)) (fun _ h9 => h9) rfl dX5_doPart_102 ?_
        refine lv_iload_n hx hb dX5_doPart_105 rfl (lv_at hl 3 rfl) ?_
        refine lv_iconst (v := 1) hx hb dX5_doPart_106 (by decide) ?_
        refine lv_isub hx hb dX5_doPart_107 ?_
        refine ro_V (v := .int (mX3_digitAt t (a2 - 1))) (rest := [.int (mX3_numberAt t (a1 + 1) (a2 - 2)), .int (mX3_numberAt t (a1 + 1) (a2 - 2)), .ref (ad 9 0)]) (As := [.int (a2 - 1)]) hx hb hml hown hts hl (MX3_digitAt l D q (ad 7) t (a2 - 1) hch) gX5_doPart_X3_digitAt rfl kX3_digitAt ⟨Nat.le_of_ble_eq_true rfl, Nat.le_of_ble_eq_true rfl⟩ rfl rfl (hP.sub (ws' := (wT q (ad 7) t)) [11, 12] rfl) (dT (hD.sub (ws' := (wT q (ad 7) t)) [11, 12] (by decide) rfl)) hG (ci := 1) rfl rfl rfl rfl (Nat.le_of_ble_eq_true rfl) dX5_doPart_108 ⟨Nat.zero_le _, Nat.zero_le _⟩ ?_
        obtain ⟨q_6, eq_6⟩ : ∃ z, z = (mX5_tellWind v (mX3_numberAt t (a1 + 1) (a2 - 2)) (mX3_numberAt t (a1 + 1) (a2 - 2)) (mX3_digitAt t (a2 - 1))) := ⟨_, rfl⟩
        have hM := MX5_tellWind l D q ad sn v (mX3_numberAt t (a1 + 1) (a2 - 2)) (mX3_numberAt t (a1 + 1) (a2 - 2)) (mX3_digitAt t (a2 - 1))
        rw [← eq_6] at hM
        replace hR := lt_e hR eq_6
        refine mu_V (D := D) (ws := (wXNT q ad sn v t)) (ws' := (wXNT q ad sn q_6.2 t)) (rest := []) (As := [.int (mX3_numberAt t (a1 + 1) (a2 - 2)), .int (mX3_numberAt t (a1 + 1) (a2 - 2)), .int (mX3_digitAt t (a2 - 1))]) hx hb hml hown hts hl hM gX5_doPart_X5_tellWind rfl kX5_tellWind ⟨Nat.le_of_ble_eq_true rfl, Nat.le_of_ble_eq_true rfl⟩ rfl rfl hP hD hS hG [0, 1, 2, 3, 4, 5, 6, 7, 8, 9, 10] rfl rfl (by decide) [13, 14, 15, 16, 17, 18, 19, 20, 21, 22, 23, 11, 12] rfl (by decide) rfl (ci := 3) rfl rfl rfl rfl (Nat.le_of_ble_eq_true rfl) dX5_doPart_111 ⟨Nat.zero_le _, Nat.zero_le _⟩ (fun H locs hP hD hS => ?_)
        subst hR
        exact mu_iret hx hb hr hk hA hS hP rfl dX5_doPart_114
      · rw [if_neg c_5] at hR
        refine lv_lookup (off := 107) (tgt := 115) hx hb dX5_doPart_8 (by decide) (by show Op.lookupswitch.offset [(104, 61), (109, 36), (119, 76)] 107 _ = _; rw [lv_osw (a := 104) c_1 rfl]; rw [lv_osw (a := 109) c_3 rfl]; rw [lv_osw (a := 119) c_5 rfl]; rfl) (by decide) ?_
        refine lv_aload_n hx hb dX5_doPart_115 rfl (lv_at hl 0 rfl) ?_
        refine va_get (D := D) (ci := 3) (v := .ref ((ad 7) 0)) (C := RX5) (T := TX5) (N := 6) hx hb hts iX5_doPart_X5 hown hG.1 hP 0 rfl rfl 5 (by decide) (hts (.fieldLink RX5 36 "MillComplaints" "text" "LMillComplaints$Text;") (List.mem_of_getElem? (i := 1) rfl)) (fun _ h9 => h9) rfl dX5_doPart_116 ?_
        refine lv_iload_n hx hb dX5_doPart_119 rfl (lv_at hl 1 rfl) ?_
        refine lv_iconst (v := 3) hx hb dX5_doPart_120 (by decide) ?_
        refine lv_iadd hx hb dX5_doPart_121 ?_
        refine ro_V (v := .int (mX3_signAt t (a1 + 3))) (rest := []) (As := [.int (a1 + 3)]) hx hb hml hown hts hl (MX3_signAt l D q (ad 7) t (a1 + 3) hch) gX5_doPart_X3_signAt rfl kX3_signAt ⟨Nat.le_of_ble_eq_true rfl, Nat.le_of_ble_eq_true rfl⟩ rfl rfl (hP.sub (ws' := (wT q (ad 7) t)) [11, 12] rfl) (dT (hD.sub (ws' := (wT q (ad 7) t)) [11, 12] (by decide) rfl)) hG (ci := 1) rfl rfl rfl rfl (Nat.le_of_ble_eq_true rfl) dX5_doPart_122 ⟨Nat.zero_le _, Nat.zero_le _⟩ ?_
        refine lv_bipush (v := 110) hx hb dX5_doPart_125 (by decide) ?_
        refine lv_icmp_ne (tgt := 134) hx hb dX5_doPart_127 (by decide) (fun c_7 => ?_) (fun c_7 => ?_)
        · rw [if_neg c_7] at hR
          refine lv_iconst (v := 1) hx hb dX5_doPart_134 (by decide) ?_
          refine lv_istore (lv' := [(4, .int 1), (0, .ref (ad 9 0)), (1, .int a1), (2, .int a2)]) hx hb dX5_doPart_135 hl (by decide) rfl (fun ls hl => ?_)
          refine lv_aload_n hx hb dX5_doPart_137 rfl (lv_at hl 1 rfl) ?_
          refine lv_aload_n hx hb dX5_doPart_138 rfl (lv_at hl 1 rfl) ?_
          refine va_get (D := D) (ci := 3) (v := .ref ((ad 7) 0)) (C := RX5) (T := TX5) (N := 6) hx hb hts iX5_doPart_X5 hown hG.1 hP 0 rfl rfl 5 (by decide) (hts (.fieldLink RX5 36 "MillComplaints" "text" "LMillComplaints$Text;") (List.mem_of_getElem? (i := 1) rfl)) (fun _ h9 => h9) rfl dX5_doPart_139 ?_
          refine lv_iload_n hx hb dX5_doPart_142 rfl (lv_at hl 2 rfl) ?_
          refine lv_iconst (v := 1) hx hb dX5_doPart_143 (by decide) ?_
          refine lv_iadd hx hb dX5_doPart_144 ?_
          refine ro_V (v := .int (mX3_digitAt t (a1 + 1))) (rest := [.ref (ad 9 0)]) (As := [.int (a1 + 1)]) hx hb hml hown hts hl (MX3_digitAt l D q (ad 7) t (a1 + 1) hch) gX5_doPart_X3_digitAt rfl kX3_digitAt ⟨Nat.le_of_ble_eq_true rfl, Nat.le_of_ble_eq_true rfl⟩ rfl rfl (hP.sub (ws' := (wT q (ad 7) t)) [11, 12] rfl) (dT (hD.sub (ws' := (wT q (ad 7) t)) [11, 12] (by decide) rfl)) hG (ci := 1) rfl rfl rfl rfl (Nat.le_of_ble_eq_true rfl) dX5_doPart_145 ⟨Nat.zero_le _, Nat.zero_le _⟩ ?_
          refine lv_aload_n hx hb dX5_doPart_148 rfl (lv_at hl 1 rfl) ?_
          refine va_get (D := D) (ci := 3) (v := .ref ((ad 7) 0)) (C := RX5) (T := TX5) (N := 6) hx hb hts iX5_doPart_X5 hown hG.1 hP 0 rfl rfl 5 (by decide) (hts (.fieldLink RX5 36 "MillComplaints" "text" "LMillComplaints$Text;") (List.mem_of_getElem? (i := 1) rfl)) (fun _ h9 => h9) rfl dX5_doPart_149 ?_
          refine lv_iload_n hx hb dX5_doPart_152 rfl (lv_at hl 2 rfl) ?_
          refine lv_iconst (v := 2) hx hb dX5_doPart_153 (by decide) ?_
          refine lv_iadd hx hb dX5_doPart_154 ?_
          refine ro_V (v := .int (mX3_digitAt t (a1 + 2))) (rest := [.int (mX3_digitAt t (a1 + 1)), .ref (ad 9 0)]) (As := [.int (a1 + 2)]) hx hb hml hown hts hl (MX3_digitAt l D q (ad 7) t (a1 + 2) hch) gX5_doPart_X3_digitAt rfl kX3_digitAt ⟨Nat.le_of_ble_eq_true rfl, Nat.le_of_ble_eq_true rfl⟩ rfl rfl (hP.sub (ws' := (wT q (ad 7) t)) [11, 12] rfl) (dT (hD.sub (ws' := (wT q (ad 7) t)) [11, 12] (by decide) rfl)) hG (ci := 1) rfl rfl rfl rfl (Nat.le_of_ble_eq_true rfl) dX5_doPart_155 ⟨Nat.zero_le _, Nat.zero_le _⟩ ?_
          refine lv_iload hx hb dX5_doPart_158 (lv_at hl 0 rfl) ?_
          refine lv_aload_n hx hb dX5_doPart_160 rfl (lv_at hl 1 rfl) ?_
          refine va_get (D := D) (ci := 3) (v := .ref ((ad 7) 0)) (C := RX5) (T := TX5) (N := 6) hx hb hts iX5_doPart_X5 hown hG.1 hP 0 rfl rfl 5 (by decide) (hts (.fieldLink RX5 36 "MillComplaints" "text" "LMillComplaints$Text;") (List.mem_of_getElem? (i := 1) rfl)) (fun _ h9 => h9) rfl dX5_doPart_161 ?_
          refine lv_iload_n hx hb dX5_doPart_164 rfl (lv_at hl 2 rfl) ?_
          refine lv_iconst (v := 4) hx hb dX5_doPart_165 (by decide) ?_
          refine lv_iadd hx hb dX5_doPart_166 ?_
          refine lv_iload_n hx hb dX5_doPart_167 rfl (lv_at hl 3 rfl) ?_
          refine ro_V (v := .int (mX3_numberAt t (a1 + 4) a2)) (rest := [.int 1, .int (mX3_digitAt t (a1 + 2)), .int (mX3_digitAt t (a1 + 1)), .ref (ad 9 0)]) (As := [.int (a1 + 4), .int a2]) hx hb hml hown hts hl (MX3_numberAt l D q (ad 7) t (a1 + 4) a2 hch) gX5_doPart_X3_numberAt rfl kX3_numberAt ⟨Nat.le_of_ble_eq_true rfl, Nat.le_of_ble_eq_true rfl⟩ rfl rfl (hP.sub (ws' := (wT q (ad 7) t)) [11, 12] rfl) (dT (hD.sub (ws' := (wT q (ad 7) t)) [11, 12] (by decide) rfl)) hG (ci := 1) rfl rfl rfl rfl (Nat.le_of_ble_eq_true rfl) dX5_doPart_168 ⟨Nat.zero_le _, Nat.zero_le _⟩ ?_
          obtain ⟨q_8, eq_8⟩ : ∃ z, z = (mX5_lodge v (mX3_digitAt t (a1 + 1)) (mX3_digitAt t (a1 + 2)) 1 (mX3_numberAt t (a1 + 4) a2)) := ⟨_, rfl⟩
          have hM := MX5_lodge l D q ad sn v (mX3_digitAt t (a1 + 1)) (mX3_digitAt t (a1 + 2)) 1 (mX3_numberAt t (a1 + 4) a2)
          rw [← eq_8] at hM
          replace hR := lt_e hR eq_8
          refine mu_V (D := D) (ws := (wXNT q ad sn v t)) (ws' := (wXNT q ad sn q_8.2 t)) (rest := []) (As := [.int (mX3_digitAt t (a1 + 1)), .int (mX3_digitAt t (a1 + 2)), .int 1, .int (mX3_numberAt t (a1 + 4) a2)]) hx hb hml hown hts hl hM gX5_doPart_X5_lodge rfl kX5_lodge ⟨Nat.le_of_ble_eq_true rfl, Nat.le_of_ble_eq_true rfl⟩ rfl rfl hP hD hS hG [0, 1, 2, 3, 4, 5, 6, 7, 8, 9, 10] rfl rfl (by decide) [13, 14, 15, 16, 17, 18, 19, 20, 21, 22, 23, 11, 12] rfl (by decide) rfl (ci := 3) rfl rfl rfl rfl (Nat.le_of_ble_eq_true rfl) dX5_doPart_171 ⟨Nat.zero_le _, Nat.zero_le _⟩ (fun H locs hP hD hS => ?_)
          subst hR
          exact mu_iret hx hb hr hk hA hS hP rfl dX5_doPart_174
        · rw [if_pos c_7] at hR
          refine lv_iconst (v := 0) hx hb dX5_doPart_130 (by decide) ?_
          refine lv_goto (tgt := 135) hx hb dX5_doPart_131 (by decide) ?_
          refine lv_istore (lv' := [(4, .int 0), (0, .ref (ad 9 0)), (1, .int a1), (2, .int a2)]) hx hb dX5_doPart_135 hl (by decide) rfl (fun ls hl => ?_)
          refine lv_aload_n hx hb dX5_doPart_137 rfl (lv_at hl 1 rfl) ?_
          refine lv_aload_n hx hb dX5_doPart_138 rfl (lv_at hl 1 rfl) ?_
          refine va_get (D := D) (ci := 3) (v := .ref ((ad 7) 0)) (C := RX5) (T := TX5) (N := 6) hx hb hts iX5_doPart_X5 hown hG.1 hP 0 rfl rfl 5 (by decide) (hts (.fieldLink RX5 36 "MillComplaints" "text" "LMillComplaints$Text;") (List.mem_of_getElem? (i := 1) rfl)) (fun _ h9 => h9) rfl dX5_doPart_139 ?_
          refine lv_iload_n hx hb dX5_doPart_142 rfl (lv_at hl 2 rfl) ?_
          refine lv_iconst (v := 1) hx hb dX5_doPart_143 (by decide) ?_
          refine lv_iadd hx hb dX5_doPart_144 ?_
          refine ro_V (v := .int (mX3_digitAt t (a1 + 1))) (rest := [.ref (ad 9 0)]) (As := [.int (a1 + 1)]) hx hb hml hown hts hl (MX3_digitAt l D q (ad 7) t (a1 + 1) hch) gX5_doPart_X3_digitAt rfl kX3_digitAt ⟨Nat.le_of_ble_eq_true rfl, Nat.le_of_ble_eq_true rfl⟩ rfl rfl (hP.sub (ws' := (wT q (ad 7) t)) [11, 12] rfl) (dT (hD.sub (ws' := (wT q (ad 7) t)) [11, 12] (by decide) rfl)) hG (ci := 1) rfl rfl rfl rfl (Nat.le_of_ble_eq_true rfl) dX5_doPart_145 ⟨Nat.zero_le _, Nat.zero_le _⟩ ?_
          refine lv_aload_n hx hb dX5_doPart_148 rfl (lv_at hl 1 rfl) ?_
          refine va_get (D := D) (ci := 3) (v := .ref ((ad 7) 0)) (C := RX5) (T := TX5) (N := 6) hx hb hts iX5_doPart_X5 hown hG.1 hP 0 rfl rfl 5 (by decide) (hts (.fieldLink RX5 36 "MillComplaints" "text" "LMillComplaints$Text;") (List.mem_of_getElem? (i := 1) rfl)) (fun _ h9 => h9) rfl dX5_doPart_149 ?_
          refine lv_iload_n hx hb dX5_doPart_152 rfl (lv_at hl 2 rfl) ?_
          refine lv_iconst (v := 2) hx hb dX5_doPart_153 (by decide) ?_
          refine lv_iadd hx hb dX5_doPart_154 ?_
          refine ro_V (v := .int (mX3_digitAt t (a1 + 2))) (rest := [.int (mX3_digitAt t (a1 + 1)), .ref (ad 9 0)]) (As := [.int (a1 + 2)]) hx hb hml hown hts hl (MX3_digitAt l D q (ad 7) t (a1 + 2) hch) gX5_doPart_X3_digitAt rfl kX3_digitAt ⟨Nat.le_of_ble_eq_true rfl, Nat.le_of_ble_eq_true rfl⟩ rfl rfl (hP.sub (ws' := (wT q (ad 7) t)) [11, 12] rfl) (dT (hD.sub (ws' := (wT q (ad 7) t)) [11, 12] (by decide) rfl)) hG (ci := 1) rfl rfl rfl rfl (Nat.le_of_ble_eq_true rfl) dX5_doPart_155 ⟨Nat.zero_le _, Nat.zero_le _⟩ ?_
          refine lv_iload hx hb dX5_doPart_158 (lv_at hl 0 rfl) ?_
          refine lv_aload_n hx hb dX5_doPart_160 rfl (lv_at hl 1 rfl) ?_
          refine va_get (D := D) (ci := 3) (v := .ref ((ad 7) 0)) (C := RX5) (T := TX5) (N := 6) hx hb hts iX5_doPart_X5 hown hG.1 hP 0 rfl rfl 5 (by decide) (hts (.fieldLink RX5 36 "MillComplaints" "text" "LMillComplaints$Text;") (List.mem_of_getElem? (i := 1) rfl)) (fun _ h9 => h9) rfl dX5_doPart_161 ?_
          refine lv_iload_n hx hb dX5_doPart_164 rfl (lv_at hl 2 rfl) ?_
          refine lv_iconst (v := 4) hx hb dX5_doPart_165 (by decide) ?_
          refine lv_iadd hx hb dX5_doPart_166 ?_
          refine lv_iload_n hx hb dX5_doPart_167 rfl (lv_at hl 3 rfl) ?_
          refine ro_V (v := .int (mX3_numberAt t (a1 + 4) a2)) (rest := [.int 0, .int (mX3_digitAt t (a1 + 2)), .int (mX3_digitAt t (a1 + 1)), .ref (ad 9 0)]) (As := [.int (a1 + 4), .int a2]) hx hb hml hown hts hl (MX3_numberAt l D q (ad 7) t (a1 + 4) a2 hch) gX5_doPart_X3_numberAt rfl kX3_numberAt ⟨Nat.le_of_ble_eq_true rfl, Nat.le_of_ble_eq_true rfl⟩ rfl rfl (hP.sub (ws' := (wT q (ad 7) t)) [11, 12] rfl) (dT (hD.sub (ws' := (wT q (ad 7) t)) [11, 12] (by decide) rfl)) hG (ci := 1) rfl rfl rfl rfl (Nat.le_of_ble_eq_true rfl) dX5_doPart_168 ⟨Nat.zero_le _, Nat.zero_le _⟩ ?_
          obtain ⟨q_9, eq_9⟩ : ∃ z, z = (mX5_lodge v (mX3_digitAt t (a1 + 1)) (mX3_digitAt t (a1 + 2)) 0 (mX3_numberAt t (a1 + 4) a2)) := ⟨_, rfl⟩
          have hM := MX5_lodge l D q ad sn v (mX3_digitAt t (a1 + 1)) (mX3_digitAt t (a1 + 2)) 0 (mX3_numberAt t (a1 + 4) a2)
          rw [← eq_9] at hM
          replace hR := lt_e hR eq_9
          refine mu_V (D := D) (ws := (wXNT q ad sn v t)) (ws' := (wXNT q ad sn q_9.2 t)) (rest := []) (As := [.int (mX3_digitAt t (a1 + 1)), .int (mX3_digitAt t (a1 + 2)), .int 0, .int (mX3_numberAt t (a1 + 4) a2)]) hx hb hml hown hts hl hM gX5_doPart_X5_lodge rfl kX5_lodge ⟨Nat.le_of_ble_eq_true rfl, Nat.le_of_ble_eq_true rfl⟩ rfl rfl hP hD hS hG [0, 1, 2, 3, 4, 5, 6, 7, 8, 9, 10] rfl rfl (by decide) [13, 14, 15, 16, 17, 18, 19, 20, 21, 22, 23, 11, 12] rfl (by decide) rfl (ci := 3) rfl rfl rfl rfl (Nat.le_of_ble_eq_true rfl) dX5_doPart_171 ⟨Nat.zero_le _, Nat.zero_le _⟩ (fun H locs hP hD hS => ?_)
          subst hR
          exact mu_iret hx hb hr hk hA hS hP rfl dX5_doPart_174
