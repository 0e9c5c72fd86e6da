def mX5_doAll_37  (C : (Nat → Nat → Nat → Int32) → Int32 → Int32 → Int32 → (Int32 × (Nat → Nat → Nat → Int32))) : Nat → (Nat → Nat → Nat → Int32) → Int32 → Int32 → Int32 → (Int32 × (Nat → Nat → Nat → Int32))
  | 0, xx_37, x4_37, x3_37, x2_37 => C xx_37 x4_37 x3_37 x2_37
  | n_37 + 1, xx_37, x4_37, x3_37, x2_37 => (if x4_37 = ((xx_37 7) 1 0) then (lt (mX5_doPart (xx_37 0) (xx_37 7) x3_37 x4_37) (fun q_6 => (lt (setV xx_37 0 q_6.2) (fun xx_7 => (if q_6.1 = (-1) then (lt (setV xx_7 0 (xx_7 1)) (fun xx_9 => (q_6.1, xx_9))) else (if q_6.1 = (-4) then (lt (setV xx_7 0 (xx_7 1)) (fun xx_11 => (q_6.1, xx_11))) else (if q_6.1 = (-3) then (lt (setV xx_7 0 (xx_7 1)) (fun xx_13 => (q_6.1, xx_13))) else (mX5_doAll_37  C n_37 xx_7 (x4_37 + 1) (x4_37 + 1) (x2_37 + 1))))))))) else (if (mX3_signAt (xx_37 7) x4_37) = 59 then (lt (mX5_doPart (xx_37 0) (xx_37 7) x3_37 x4_37) (fun q_15 => (lt (setV xx_37 0 q_15.2) (fun xx_16 => (if q_15.1 = (-1) then (lt (setV xx_16 0 (xx_16 1)) (fun xx_18 => (q_15.1, xx_18))) else (if q_15.1 = (-4) then (lt (setV xx_16 0 (xx_16 1)) (fun xx_20 => (q_15.1, xx_20))) else (if q_15.1 = (-3) then (lt (setV xx_16 0 (xx_16 1)) (fun xx_22 => (q_15.1, xx_22))) else (mX5_doAll_37  C n_37 xx_16 (x4_37 + 1) (x4_37 + 1) (x2_37 + 1))))))))) else (mX5_doAll_37  C n_37 xx_37 (x4_37 + 1) x3_37 x2_37)))
def mX5_doAll (xx : Nat → Nat → Nat → Int32) : Int32 × (Nat → Nat → Nat → Int32) := (if (mX3_firstFault (xx 7)) = (-5) then (lt (setV xx 1 (xx 0)) (fun xx_2 => (mX5_doAll_37  (fun xx_37 x4_37 x3_37 x2_37 => (lt (mX5_recorded xx_37 x2_37) (fun q_4 => (q_4.1, q_4.2)))) (tq 0 ((xx_2 7) 1 0)) xx_2 0 0 0))) else (((-100) - (mX3_firstFault (xx 7))), xx))
theorem kX5_doAll : yX5_doAll.cls = RX5 ∧ yX5_doAll.cls ≠ "java/lang/invoke/MethodHandle" ∧ yX5_doAll.cls ≠ "java/lang/invoke/VarHandle" ∧ (parseMethodDescriptor yX5_doAll.desc).map (fun d => d.parameters.length) = some 0 := by decide +kernel
theorem iX5_doAll_X5 : ∀ w ∈ wsX50, w ∈ wsX5_doAll := fun w h => (List.mem_cons_of_mem _ (List.mem_append_left _ (List.mem_append_left _ (List.mem_append_left _ (List.mem_append_right _ h)))))
theorem iX5_doAll_X3 : ∀ w ∈ wsX30, w ∈ wsX5_doAll := fun w h => (List.mem_cons_of_mem _ (List.mem_append_left _ (List.mem_append_left _ (List.mem_append_right _ h))))
set_option maxHeartbeats 4000000 in
set_option maxRecDepth 100000 in
theorem MX5_doAll (l : Launch) (D : va_G) (q : Nat → ClassId) (ad : Nat → Nat → Nat) (xx : Nat → Nat → Nat → Int32)  (hrg : rgOk xx) (hch : chOk (xx 7)) (hlen : (xx 7 1 0).toInt < 2147483647) : muM l D (tyq q) yX5_doAll wsX5_doAll ({ frames := 7, cells := 0, slots := 0, locals := 170 } : Room) [.ref (ad 9 0)] (wX q ad xx) (some (.int (mX5_doAll xx).1)) (wX q ad (mX5_doAll xx).2) := by
  obtain ⟨R, hR⟩ : ∃ z, (mX5_doAll xx) = z := ⟨_, rfl⟩
  rw [hR]
  unfold mX5_doAll at hR
  refine muM.of (cc := cX5_doAll) (maxL := 6) (ret := (some .int)) (by decide) rfl (Nat.le_of_ble_eq_true rfl) ?_
  intro p e s m below meth c ls A hx hb hr hk hml hown hts hP hD hG hA hl
  have hS : va_S A s.heap s.heap [] := va_S.rf
  have hl : lv_has ls 6 [(0, .ref (ad 9 0))] := hl
  refine lv_aload_n hx hb dX5_doAll_0 rfl (lv_at hl 0 rfl) ?_
  refine va_get (D := D) (ci := 3) (v := .ref ((ad 7) 0)) (C := RX5) (T := TX5) (N := 6) hx hb hts iX5_doAll_X5 hown hG.1 hP 0 rfl rfl 5 (by decide) (hts (.fieldLink RX5 36 "MillComplaints" "text" "LMillComplaints$Text;") (List.mem_of_getElem? (i := 1) rfl)) (fun _ h9 => h9) rfl dX5_doAll_1 ?_
  refine ro_V (v := .int (mX3_firstFault (xx 7))) (rest := []) (As := []) hx hb hml hown hts hl (MX3_firstFault l D q (ad 7) (xx 7) hch) gX5_doAll_X3_firstFault rfl kX3_firstFault ⟨Nat.le_of_ble_eq_true rfl, Nat.le_of_ble_eq_true rfl⟩ rfl rfl (hP.sub (ws' := (wT q (ad 7) (xx 7))) [73, 74] rfl) (dT (hD.sub (ws' := (wT q (ad 7) (xx 7))) [73, 74] (by decide) rfl)) hG (ci := 1) rfl rfl rfl rfl (Nat.le_of_ble_eq_true rfl) dX5_doAll_4 ⟨Nat.zero_le _, Nat.zero_le _⟩ ?_
  refine lv_istore_n (lv' := [(1, .int (mX3_firstFault (xx 7))), (0, .ref (ad 9 0))]) hx hb dX5_doAll_7 rfl hl (by decide) rfl (fun ls hl => ?_)
  refine lv_iload_n hx hb dX5_doAll_8 rfl (lv_at hl 0 rfl) ?_
  refine lv_bipush (v := (-5)) hx hb dX5_doAll_9 (by decide) ?_
  refine lv_icmp_eq (tgt := 19) hx hb dX5_doAll_11 (by decide) (fun c_1 => ?_) (fun c_1 => ?_)
  · rw [if_pos c_1] at hR
    refine lv_aload_n hx hb dX5_doAll_19 rfl (lv_at hl 1 rfl) ?_
    refine va_get (D := D) (ci := 3) (v := .ref ((ad 1) 0)) (C := RX5) (T := TX5) (N := 6) hx hb hts iX5_doAll_X5 hown hG.1 hP 0 rfl rfl 1 (by decide) (hts (.fieldLink RX5 16 "MillComplaints" "before" "LMillComplaints$Village;") (List.mem_of_getElem? (i := 2) rfl)) (fun _ h9 => h9) rfl dX5_doAll_20 ?_
    refine lv_aload_n hx hb dX5_doAll_23 rfl (lv_at hl 1 rfl) ?_
    refine va_get (D := D) (ci := 3) (v := .ref ((ad 0) 0)) (C := RX5) (T := TX5) (N := 6) hx hb hts iX5_doAll_X5 hown hG.1 hP 0 rfl rfl 0 (by decide) (hts (.fieldLink RX5 12 "MillComplaints" "now" "LMillComplaints$Village;") (List.mem_of_getElem? (i := 3) rfl)) (fun _ h9 => h9) rfl dX5_doAll_24 ?_
    have hM := MX4_copyFrom' l D q (ad 1) (xx 1) (ad 0) (xx 0)
    refine mu_V (D := D) (ws := (wX q ad xx)) (ws' := (wX q ad (setV xx 1 (xx 0)))) (rest := []) (As := [.ref ((ad 0) 0)]) hx hb hml hown hts hl hM gX5_doAll_X4_copyFrom rfl kX4_copyFrom ⟨Nat.le_of_ble_eq_true rfl, Nat.le_of_ble_eq_true rfl⟩ rfl rfl hP hD hS hG [11, 12, 13, 14, 15, 16, 17, 18, 19, 20, 1, 2, 3, 4, 5, 6, 7, 8, 9, 10] rfl rfl (by decide) [0, 85, 86, 87, 88, 89, 90, 91, 92, 93, 94, 75, 76, 77, 78, 79, 80, 81, 82, 83, 84, 21, 22, 23, 24, 25, 26, 27, 28, 29, 30, 31, 32, 33, 34, 35, 36, 37, 38, 39, 40, 41, 42, 43, 44, 45, 46, 47, 48, 49, 50, 51, 52, 53, 54, 55, 56, 57, 58, 59, 60, 61, 62, 63, 64, 65, 66, 67, 68, 69, 70, 71, 72, 73, 74] rfl (by decide) rfl (ci := 2) rfl rfl rfl rfl (Nat.le_of_ble_eq_true rfl) dX5_doAll_27 ⟨Nat.zero_le _, Nat.zero_le _⟩ (fun H locs hP hD hS => ?_)
    obtain ⟨xx_2, exx_2⟩ : ∃ z, z = (setV xx 1 (xx 0)) := ⟨_, rfl⟩
    rw [← exx_2] at hP hD
    replace hR := lt_e hR exx_2
    refine lv_iconst (v := 0) hx hb dX5_doAll_30 (by decide) ?_
    refine lv_istore_n (lv' := [(2, .int 0), (1, .int (mX3_firstFault (xx 7))), (0, .ref (ad 9 0))]) hx hb dX5_doAll_31 rfl hl (by decide) rfl (fun ls hl => ?_)
    refine lv_iconst (v := 0) hx hb dX5_doAll_32 (by decide) ?_
    refine lv_istore_n (lv' := [(3, .int 0), (2, .int 0), (1, .int (mX3_firstFault (xx 7))), (0, .ref (ad 9 0))]) hx hb dX5_doAll_33 rfl hl (by decide) rfl (fun ls hl => ?_)
    refine lv_iconst (v := 0) hx hb dX5_doAll_34 (by decide) ?_
    refine lv_istore (lv' := [(4, .int 0), (3, .int 0), (2, .int 0), (1, .int (mX3_firstFault (xx 7))), (0, .ref (ad 9 0))]) hx hb dX5_doAll_35 hl (by decide) rfl (fun ls hl => ?_)
    have key_37 : ∀ (n_37 : Nat) (xx_37 : Nat → Nat → Nat → Int32) (x4_37 : Int32) (x3_37 : Int32) (x2_37 : Int32) (H : Heap) (locs : List Loc) , tq x4_37 ((xx_37 7) 1 0) = n_37 → rgOk xx_37 → chOk (xx_37 7) → (xx_37 7 1 0).toInt < 2147483647 → mX5_doAll_37  (fun xx_37 x4_37 x3_37 x2_37 => (lt (mX5_recorded xx_37 x2_37) (fun q_4 => (q_4.1, q_4.2)))) n_37 xx_37 x4_37 x3_37 x2_37 = R → va_P D vwCl (wX q ad xx_37) H → va_D A (wX q ad xx_37) → va_S A s.heap H locs → ∀ ls : Array Slot, lv_has ls 6 [(4, .int x4_37), (3, .int x3_37), (2, .int x2_37), (1, .int (mX3_firstFault (xx 7))), (0, .ref (ad 9 0))] → W p l e ({ frames := 7, cells := 0, slots := 0, locals := 170 } : Room) s m ([.ref (ad 9 0)] : List Value).toArray below meth c H locs 0 0 (MQ below (muQ D (some (.int R.1)) (wX q ad xx) (wX q ad R.2)) ([.ref (ad 9 0)] : List Value).toArray s 0 0 (wAt (wX q ad xx))) (F0 m 37 ls []) := by
      intro n_37
      induction n_37 with
      | zero =>
        intro xx_37 x4_37 x3_37 x2_37 H locs hn_37 hrg_37 hch_37 hlen_37 hR hP hD hS ls hl
        rw [mX5_doAll_37] at hR
        refine lv_iload hx hb dX5_doAll_37 (lv_at hl 0 rfl) ?_
        refine lv_aload_n hx hb dX5_doAll_39 rfl (lv_at hl 4 rfl) ?_
        refine va_get (D := D) (ci := 3) (v := .ref ((ad 7) 0)) (C := RX5) (T := TX5) (N := 6) hx hb hts iX5_doAll_X5 hown hG.1 hP 0 rfl rfl 5 (by decide) (hts (.fieldLink RX5 36 "MillComplaints" "text" "LMillComplaints$Text;") (List.mem_of_getElem? (i := 1) rfl)) (fun _ h9 => h9) rfl dX5_doAll_40 ?_
        refine va_getN (D := D) (ci := 1) (v := .int ((xx_37 7) 1 0)) (C := RX3) (T := TX3) (N := 2) hx hb hts iX5_doAll_X3 hown hG.1 hP 73 rfl rfl 1 (by decide) (nwf_11 hG) (fun _ h9 => h9) rfl dX5_doAll_43 ?_
        refine lv_icmp_gt (tgt := 132) hx hb dX5_doAll_46 (by decide) (fun c_3 => ?_) (fun c_3 => (tq0 hn_37 c_3).elim)
        refine lv_aload_n hx hb dX5_doAll_132 rfl (lv_at hl 4 rfl) ?_
        refine lv_iload_n hx hb dX5_doAll_133 rfl (lv_at hl 2 rfl) ?_
        obtain ⟨q_4, eq_4⟩ : ∃ z, z = (mX5_recorded xx_37 x2_37) := ⟨_, rfl⟩
        have hM := MX5_recorded l D q ad xx_37 x2_37 hrg_37
        rw [← eq_4] at hM
        replace hR := lt_e hR eq_4
        refine mu_V (D := D) (ws := (wX q ad xx_37)) (ws' := (wX q ad q_4.2)) (rest := []) (As := [.int x2_37]) hx hb hml hown hts hl hM gX5_doAll_X5_recorded rfl kX5_recorded ⟨Nat.le_of_ble_eq_true rfl, Nat.le_of_ble_eq_true rfl⟩ rfl rfl hP hD hS hG [0, 1, 2, 3, 4, 5, 6, 7, 8, 9, 10, 11, 12, 13, 14, 15, 16, 17, 18, 19, 20, 21, 22, 23, 24, 25, 26, 27, 28, 29, 30, 31, 32, 33, 34, 35, 36, 37, 38, 39, 40, 41, 42, 43, 44, 45, 46, 47, 48, 49, 50, 51, 52, 53, 54, 55, 56, 57, 58, 59, 60, 61, 62, 63, 64, 65, 66, 67, 68, 69, 70, 71, 72, 73, 74] rfl rfl (by decide) [75, 76, 77, 78, 79, 80, 81, 82, 83, 84, 85, 86, 87, 88, 89, 90, 91, 92, 93, 94, 95, 96, 97, 98, 99, 100, 101, 102, 103, 104, 105, 106, 107, 108, 109, 110, 111, 112, 113, 114, 115, 116, 117, 118, 119, 120, 121, 122, 123, 124, 125, 126, 127, 128, 129, 130, 131, 132, 133, 134, 135, 136, 137, 138, 139, 140, 141, 142, 143, 144, 145, 146, 147, 148, 149] rfl (by decide) rfl (ci := 3) rfl rfl rfl rfl (Nat.le_of_ble_eq_true rfl) dX5_doAll_134 ⟨Nat.zero_le _, Nat.zero_le _⟩ (fun H locs hP hD hS => ?_)
        subst hR
        exact mu_iret hx hb hr hk hA hS hP rfl dX5_doAll_137
      | succ n_37 ih_37 =>
        intro xx_37 x4_37 x3_37 x2_37 H locs hn_37 hrg_37 hch_37 hlen_37 hR hP hD hS ls hl
        rw [mX5_doAll_37] at hR
        refine lv_iload hx hb dX5_doAll_37 (lv_at hl 0 rfl) ?_
        refine lv_aload_n hx hb dX5_doAll_39 rfl (lv_at hl 4 rfl) ?_
        refine va_get (D := D) (ci := 3) (v := .ref ((ad 7) 0)) (C := RX5) (T := TX5) (N := 6) hx hb hts iX5_doAll_X5 hown hG.1 hP 0 rfl rfl 5 (by decide) (hts (.fieldLink RX5 36 "MillComplaints" "text" "LMillComplaints$Text;") (List.mem_of_getElem? (i := 1) rfl)) (fun _ h9 => h9) rfl dX5_doAll_40 ?_
        refine va_getN (D := D) (ci := 1) (v := .int ((xx_37 7) 1 0)) (C := RX3) (T := TX3) (N := 2) hx hb hts iX5_doAll_X3 hown hG.1 hP 73 rfl rfl 1 (by decide) (nwf_11 hG) (fun _ h9 => h9) rfl dX5_doAll_43 ?_
        refine lv_icmp_gt (tgt := 132) hx hb dX5_doAll_46 (by decide) (fun c_3 => (tqS hn_37 c_3).elim) (fun c_3 => ?_)
        refine lv_iload hx hb dX5_doAll_49 (lv_at hl 0 rfl) ?_
        refine lv_aload_n hx hb dX5_doAll_51 rfl (lv_at hl 4 rfl) ?_
        refine va_get (D := D) (ci := 3) (v := .ref ((ad 7) 0)) (C := RX5) (T := TX5) (N := 6) hx hb hts iX5_doAll_X5 hown hG.1 hP 0 rfl rfl 5 (by decide) (hts (.fieldLink RX5 36 "MillComplaints" "text" "LMillComplaints$Text;") (List.mem_of_getElem? (i := 1) rfl)) (fun _ h9 => h9) rfl dX5_doAll_52 ?_
        refine va_getN (D := D) (ci := 1) (v := .int ((xx_37 7) 1 0)) (C := RX3) (T := TX3) (N := 2) hx hb hts iX5_doAll_X3 hown hG.1 hP 73 rfl rfl 1 (by decide) (nwf_11 hG) (fun _ h9 => h9) rfl dX5_doAll_55 ?_
        refine lv_icmp_eq (tgt := 75) hx hb dX5_doAll_58 (by decide) (fun c_5 => ?_) (fun c_5 => ?_)
        · rw [if_pos c_5] at hR
          refine lv_aload_n hx hb dX5_doAll_75 rfl (lv_at hl 4 rfl) ?_
          refine lv_iload_n hx hb dX5_doAll_76 rfl (lv_at hl 1 rfl) ?_
          refine lv_iload hx hb dX5_doAll_77 (lv_at hl 0 rfl) ?_
          obtain ⟨q_6, eq_6⟩ : ∃ z, z = (mX5_doPart (xx_37 0) (xx_37 7) x3_37 x4_37) := ⟨_, rfl⟩
          have hM := MX5_doPart l D q ad (xx_37 9 0 0) (xx_37 0) (xx_37 7) x3_37 x4_37 hch_37
          rw [← eq_6] at hM
          replace hR := lt_e hR eq_6
          refine mu_V (D := D) (ws := (wX q ad xx_37)) (ws' := (wX q ad (setV xx_37 0 q_6.2))) (rest := []) (As := [.int x3_37, .int x4_37]) hx hb hml hown hts hl hM gX5_doAll_X5_doPart rfl kX5_doPart ⟨Nat.le_of_ble_eq_true rfl, Nat.le_of_ble_eq_true rfl⟩ rfl rfl hP hD hS hG [0, 1, 2, 3, 4, 5, 6, 7, 8, 9, 10, 73, 74] rfl rfl (by decide) [75, 76, 77, 78, 79, 80, 81, 82, 83, 84, 85, 11, 12, 13, 14, 15, 16, 17, 18, 19, 20, 21, 22, 23, 24, 25, 26, 27, 28, 29, 30, 31, 32, 33, 34, 35, 36, 37, 38, 39, 40, 41, 42, 43, 44, 45, 46, 47, 48, 49, 50, 51, 52, 53, 54, 55, 56, 57, 58, 59, 60, 61, 62, 63, 64, 65, 66, 67, 68, 69, 70, 71, 72, 86, 87] rfl (by decide) rfl (ci := 3) rfl rfl rfl rfl (Nat.le_of_ble_eq_true rfl) dX5_doAll_79 ⟨Nat.zero_le _, Nat.zero_le _⟩ (fun H locs hP hD hS => ?_)
          obtain ⟨xx_7, exx_7⟩ : ∃ z, z = (setV xx_37 0 q_6.2) := ⟨_, rfl⟩
          rw [← exx_7] at hP hD
          replace hR := lt_e hR exx_7
          refine lv_istore (lv' := [(5, .int q_6.1), (4, .int x4_37), (3, .int x3_37), (2, .int x2_37), (1, .int (mX3_firstFault (xx 7))), (0, .ref (ad 9 0))]) hx hb dX5_doAll_82 hl (by decide) rfl (fun ls hl => ?_)
          refine lv_iload hx hb dX5_doAll_84 (lv_at hl 0 rfl) ?_
          refine lv_iconst (v := (-1)) hx hb dX5_doAll_86 (by decide) ?_
          refine lv_icmp_eq (tgt := 104) hx hb dX5_doAll_87 (by decide) (fun c_8 => ?_) (fun c_8 => ?_)
          · rw [if_pos c_8] at hR
            refine lv_aload_n hx hb dX5_doAll_104 rfl (lv_at hl 5 rfl) ?_
            refine va_get (D := D) (ci := 3) (v := .ref ((ad 0) 0)) (C := RX5) (T := TX5) (N := 6) hx hb hts iX5_doAll_X5 hown hG.1 hP 0 rfl rfl 0 (by decide) (hts (.fieldLink RX5 12 "MillComplaints" "now" "LMillComplaints$Village;") (List.mem_of_getElem? (i := 3) rfl)) (fun _ h9 => h9) rfl dX5_doAll_105 ?_
            refine lv_aload_n hx hb dX5_doAll_108 rfl (lv_at hl 5 rfl) ?_
            refine va_get (D := D) (ci := 3) (v := .ref ((ad 1) 0)) (C := RX5) (T := TX5) (N := 6) hx hb hts iX5_doAll_X5 hown hG.1 hP 0 rfl rfl 1 (by decide) (hts (.fieldLink RX5 16 "MillComplaints" "before" "LMillComplaints$Village;") (List.mem_of_getElem? (i := 2) rfl)) (fun _ h9 => h9) rfl dX5_doAll_109 ?_
            have hM := MX4_copyFrom' l D q (ad 0) (xx_7 0) (ad 1) (xx_7 1)
            refine mu_V (D := D) (ws := (wX q ad xx_7)) (ws' := (wX q ad (setV xx_7 0 (xx_7 1)))) (rest := []) (As := [.ref ((ad 1) 0)]) hx hb hml hown hts hl hM gX5_doAll_X4_copyFrom rfl kX4_copyFrom ⟨Nat.le_of_ble_eq_true rfl, Nat.le_of_ble_eq_true rfl⟩ rfl rfl hP hD hS hG [1, 2, 3, 4, 5, 6, 7, 8, 9, 10, 11, 12, 13, 14, 15, 16, 17, 18, 19, 20] rfl rfl (by decide) [0, 75, 76, 77, 78, 79, 80, 81, 82, 83, 84, 85, 86, 87, 88, 89, 90, 91, 92, 93, 94, 21, 22, 23, 24, 25, 26, 27, 28, 29, 30, 31, 32, 33, 34, 35, 36, 37, 38, 39, 40, 41, 42, 43, 44, 45, 46, 47, 48, 49, 50, 51, 52, 53, 54, 55, 56, 57, 58, 59, 60, 61, 62, 63, 64, 65, 66, 67, 68, 69, 70, 71, 72, 73, 74] rfl (by decide) rfl (ci := 2) rfl rfl rfl rfl (Nat.le_of_ble_eq_true rfl) dX5_doAll_112 ⟨Nat.zero_le _, Nat.zero_le _⟩ (fun H locs hP hD hS => ?_)
            obtain ⟨xx_9, exx_9⟩ : ∃ z, z = (setV xx_7 0 (xx_7 1)) := ⟨_, rfl⟩
            rw [← exx_9] at hP hD
            replace hR := lt_e hR exx_9
            refine lv_iload hx hb dX5_doAll_115 (lv_at hl 0 rfl) ?_
            subst hR
            exact mu_iret hx hb hr hk hA hS hP rfl dX5_doAll_117
          · rw [if_neg c_8] at hR
            refine lv_iload hx hb dX5_doAll_90 (lv_at hl 0 rfl) ?_
            refine lv_bipush (v := (-4)) hx hb dX5_doAll_92 (by decide) ?_
            refine lv_icmp_eq (tgt := 104) hx hb dX5_doAll_94 (by decide) (fun c_10 => ?_) (fun c_10 => ?_)
            · rw [if_pos c_10] at hR
              refine lv_aload_n hx hb dX5_doAll_104 rfl (lv_at hl 5 rfl) ?_
              refine va_get (D := D) (ci := 3) (v := .ref ((ad 0) 0)) (C := RX5) (T := TX5) (N := 6) hx hb hts iX5_doAll_X5 hown hG.1 hP 0 rfl rfl 0 (by decide) (hts (.fieldLink RX5 12 "MillComplaints" "now" "LMillComplaints$Village;") (List.mem_of_getElem? (i := 3) rfl)) (fun _ h9 => h9) rfl dX5_doAll_105 ?_
              refine lv_aload_n hx hb dX5_doAll_108 rfl (lv_at hl 5 rfl) ?_
              refine va_get (D := D) (ci := 3) (v := .ref ((ad 1) 0)) (C := RX5) (T := TX5) (N := 6) hx hb hts iX5_doAll_X5 hown hG.1 hP 0 rfl rfl 1 (by decide) (hts (.fieldLink RX5 16 "MillComplaints" "before" "LMillComplaints$Village;") (List.mem_of_getElem? (i := 2) rfl)) (fun _ h9 => h9) rfl dX5_doAll_109 ?_
              have hM := MX4_copyFrom' l D q (ad 0) (xx_7 0) (ad 1) (xx_7 1)
              refine mu_V (D := D) (ws := (wX q ad xx_7)) (ws' := (wX q ad (setV xx_7 0 (xx_7 1)))) (rest := []) (As := [.ref ((ad 1) 0)]) hx hb hml hown hts hl hM gX5_doAll_X4_copyFrom rfl kX4_copyFrom ⟨Nat.le_of_ble_eq_true rfl, Nat.le_of_ble_eq_true rfl⟩ rfl rfl hP hD hS hG [1, 2, 3, 4, 5, 6, 7, 8, 9, 10, 11, 12, 13, 14, 15, 16, 17, 18, 19, 20] rfl rfl (by decide) [0, 75, 76, 77, 78, 79, 80, 81, 82, 83, 84, 85, 86, 87, 88, 89, 90, 91, 92, 93, 94, 21, 22, 23, 24, 25, 26, 27, 28, 29, 30, 31, 32, 33, 34, 35, 36, 37, 38, 39, 40, 41, 42, 43, 44, 45, 46, 47, 48, 49, 50, 51, 52, 53, 54, 55, 56, 57, 58, 59, 60, 61, 62, 63, 64, 65, 66, 67, 68, 69, 70, 71, 72, 73, 74] rfl (by decide) rfl (ci := 2) rfl rfl rfl rfl (Nat.le_of_ble_eq_true rfl) dX5_doAll_112 ⟨Nat.zero_le _, Nat.zero_le _⟩ (fun H locs hP hD hS => ?_)
              obtain ⟨xx_11, exx_11⟩ : ∃ z, z = (setV xx_7 0 (xx_7 1)) := ⟨_, rfl⟩
              rw [← exx_11] at hP hD
              replace hR := lt_e hR exx_11
              refine lv_iload hx hb dX5_doAll_115 (lv_at hl 0 rfl) ?_
              subst hR
              exact mu_iret hx hb hr hk hA hS hP rfl dX5_doAll_117
            · rw [if_neg c_10] at hR
              refine lv_iload hx hb dX5_doAll_97 (lv_at hl 0 rfl) ?_
              refine lv_bipush (v := (-3)) hx hb dX5_doAll_99 (by decide) ?_
              refine lv_icmp_ne (tgt := 118) hx hb dX5_doAll_101 (by decide) (fun c_12 => ?_) (fun c_12 => ?_)
              · rw [if_neg c_12] at hR
                refine lv_iinc (v := (x2_37 + 1)) (lv' := [(2, .int (x2_37 + 1)), (5, .int q_6.1), (4, .int x4_37), (3, .int x3_37), (1, .int (mX3_firstFault (xx 7))), (0, .ref (ad 9 0))]) hx hb dX5_doAll_118 hl (k := 3) rfl rfl (by decide) rfl (fun ls hl => ?_)
                refine lv_iload hx hb dX5_doAll_121 (lv_at hl 2 rfl) ?_
                refine lv_iconst (v := 1) hx hb dX5_doAll_123 (by decide) ?_
                refine lv_iadd hx hb dX5_doAll_124 ?_
                refine lv_istore_n (lv' := [(3, .int (x4_37 + 1)), (2, .int (x2_37 + 1)), (5, .int q_6.1), (4, .int x4_37), (1, .int (mX3_firstFault (xx 7))), (0, .ref (ad 9 0))]) hx hb dX5_doAll_125 rfl hl (by decide) rfl (fun ls hl => ?_)
                refine lv_iinc (v := (x4_37 + 1)) (lv' := [(4, .int (x4_37 + 1)), (3, .int (x4_37 + 1)), (2, .int (x2_37 + 1)), (5, .int q_6.1), (1, .int (mX3_firstFault (xx 7))), (0, .ref (ad 9 0))]) hx hb dX5_doAll_126 hl (k := 3) rfl rfl (by decide) rfl (fun ls hl => ?_)
                refine lv_goto (tgt := 37) hx hb dX5_doAll_129 (by decide) ?_
                exact ih_37 xx_7 (x4_37 + 1) (x4_37 + 1) (x2_37 + 1) _ _ (by rw [exx_7]; exact tqN hn_37 hlen_37) (by rw [exx_7]; exact hrg_37) (by rw [exx_7]; exact hch_37) (by rw [exx_7]; exact hlen_37) hR hP hD hS ls (lv_sub hl [0, 1, 2, 4, 5] rfl)
              · rw [if_pos c_12] at hR
                refine lv_aload_n hx hb dX5_doAll_104 rfl (lv_at hl 5 rfl) ?_
                refine va_get (D := D) (ci := 3) (v := .ref ((ad 0) 0)) (C := RX5) (T := TX5) (N := 6) hx hb hts iX5_doAll_X5 hown hG.1 hP 0 rfl rfl 0 (by decide) (hts (.fieldLink RX5 12 "MillComplaints" "now" "LMillComplaints$Village;") (List.mem_of_getElem? (i := 3) rfl)) (fun _ h9 => h9) rfl dX5_doAll_105 ?_
                refine lv_aload_n hx hb dX5_doAll_108 rfl (lv_at hl 5 rfl) ?_
                refine va_get (D := D) (ci := 3) (v := .ref ((ad 1) 0)) (C := RX5) (T := TX5) (N := 6) hx hb hts iX5_doAll_X5 hown hG.1 hP 0 rfl rfl 1 (by decide) (hts (.fieldLink RX5 16 "MillComplaints" "before" "LMillComplaints$Village;") (List.mem_of_getElem? (i := 2) rfl)) (fun _ h9 => h9) rfl dX5_doAll_109 ?_
                have hM := MX4_copyFrom' l D q (ad 0) (xx_7 0) (ad 1) (xx_7 1)
                refine mu_V (D := D) (ws := (wX q ad xx_7)) (ws' := (wX q ad (setV xx_7 0 (xx_7 1)))) (rest := []) (As := [.ref ((ad 1) 0)]) hx hb hml hown hts hl hM gX5_doAll_X4_copyFrom rfl kX4_copyFrom ⟨Nat.le_of_ble_eq_true rfl, Nat.le_of_ble_eq_true rfl⟩ rfl rfl hP hD hS hG [1, 2, 3, 4, 5, 6, 7, 8, 9, 10, 11, 12, 13, 14, 15, 16, 17, 18, 19, 20] rfl rfl (by decide) [0, 75, 76, 77, 78, 79, 80, 81, 82, 83, 84, 85, 86, 87, 88, 89, 90, 91, 92, 93, 94, 21, 22, 23, 24, 25, 26, 27, 28, 29, 30, 31, 32, 33, 34, 35, 36, 37, 38, 39, 40, 41, 42, 43, 44, 45, 46, 47, 48, 49, 50, 51, 52, 53, 54, 55, 56, 57, 58, 59, 60, 61, 62, 63, 64, 65, 66, 67, 68, 69, 70, 71, 72, 73, 74] rfl (by decide) rfl (ci := 2) rfl rfl rfl rfl (Nat.le_of_ble_eq_true rfl) dX5_doAll_112 ⟨Nat.zero_le _, Nat.zero_le _⟩ (fun H locs hP hD hS => ?_)
                obtain ⟨xx_13, exx_13⟩ : ∃ z, z = (setV xx_7 0 (xx_7 1)) := ⟨_, rfl⟩
                rw [← exx_13] at hP hD
                replace hR := lt_e hR exx_13
                refine lv_iload hx hb dX5_doAll_115 (lv_at hl 0 rfl) ?_
                subst hR
                exact mu_iret hx hb hr hk hA hS hP rfl dX5_doAll_117
        · rw [if_neg c_5] at hR
          refine lv_aload_n hx hb dX5_doAll_61 rfl (lv_at hl 4 rfl) ?_
          refine va_get (D := D) (ci := 3) (v := .ref ((ad 7) 0)) (C := RX5) (T := TX5) (N := 6) hx hb hts iX5_doAll_X5 hown hG.1 hP 0 rfl rfl 5 (by decide) (hts (.fieldLink RX5 36 "MillComplaints" "text" "LMillComplaints$Text;") (List.mem_of_getElem? (i := 1) rfl)) (fun _ h9 => h9) rfl dX5_doAll_62 ?_
          refine lv_iload hx hb dX5_doAll_65 (lv_at hl 0 rfl) ?_
          refine ro_V (v := .int (mX3_signAt (xx_37 7) x4_37)) (rest := []) (As := [.int x4_37]) hx hb hml hown hts hl (MX3_signAt l D q (ad 7) (xx_37 7) x4_37 hch_37) gX5_doAll_X3_signAt rfl kX3_signAt ⟨Nat.le_of_ble_eq_true rfl, Nat.le_of_ble_eq_true rfl⟩ rfl rfl (hP.sub (ws' := (wT q (ad 7) (xx_37 7))) [73, 74] rfl) (dT (hD.sub (ws' := (wT q (ad 7) (xx_37 7))) [73, 74] (by decide) rfl)) hG (ci := 1) rfl rfl rfl rfl (Nat.le_of_ble_eq_true rfl) dX5_doAll_67 ⟨Nat.zero_le _, Nat.zero_le _⟩ ?_
          refine lv_bipush (v := 59) hx hb dX5_doAll_70 (by decide) ?_
          refine lv_icmp_ne (tgt := 126) hx hb dX5_doAll_72 (by decide) (fun c_14 => ?_) (fun c_14 => ?_)
          · rw [if_neg c_14] at hR
            refine lv_iinc (v := (x4_37 + 1)) (lv' := [(4, .int (x4_37 + 1)), (3, .int x3_37), (2, .int x2_37), (1, .int (mX3_firstFault (xx 7))), (0, .ref (ad 9 0))]) hx hb dX5_doAll_126 hl (k := 0) rfl rfl (by decide) rfl (fun ls hl => ?_)
            refine lv_goto (tgt := 37) hx hb dX5_doAll_129 (by decide) ?_
            exact ih_37 xx_37 (x4_37 + 1) x3_37 x2_37 _ _ (tqN hn_37 hlen_37) hrg_37 hch_37 hlen_37 hR hP hD hS ls (lv_sub hl [0, 1, 2, 3, 4] rfl)
          · rw [if_pos c_14] at hR
            refine lv_aload_n hx hb dX5_doAll_75 rfl (lv_at hl 4 rfl) ?_
            refine lv_iload_n hx hb dX5_doAll_76 rfl (lv_at hl 1 rfl) ?_
            refine lv_iload hx hb dX5_doAll_77 (lv_at hl 0 rfl) ?_
            obtain ⟨q_15, eq_15⟩ : ∃ z, z = (mX5_doPart (xx_37 0) (xx_37 7) x3_37 x4_37) := ⟨_, rfl⟩
            have hM := MX5_doPart l D q ad (xx_37 9 0 0) (xx_37 0) (xx_37 7) x3_37 x4_37 hch_37
            rw [← eq_15] at hM
            replace hR := lt_e hR eq_15
            refine mu_V (D := D) (ws := (wX q ad xx_37)) (ws' := (wX q ad (setV xx_37 0 q_15.2))) (rest := []) (As := [.int x3_37, .int x4_37]) hx hb hml hown hts hl hM gX5_doAll_X5_doPart rfl kX5_doPart ⟨Nat.le_of_ble_eq_true rfl, Nat.le_of_ble_eq_true rfl⟩ rfl rfl hP hD hS hG [0, 1, 2, 3, 4, 5, 6, 7, 8, 9, 10, 73, 74] rfl rfl (by decide) [75, 76, 77, 78, 79, 80, 81, 82, 83, 84, 85, 11, 12, 13, 14, 15, 16, 17, 18, 19, 20, 21, 22, 23, 24, 25, 26, 27, 28, 29, 30, 31, 32, 33, 34, 35, 36, 37, 38, 39, 40, 41, 42, 43, 44, 45, 46, 47, 48, 49, 50, 51, 52, 53, 54, 55, 56, 57, 58, 59, 60, 61, 62, 63, 64, 65, 66, 67, 68, 69, 70, 71, 72, 86, 87] rfl (by decide) rfl (ci := 3) rfl rfl rfl rfl (Nat.le_of_ble_eq_true rfl) dX5_doAll_79 ⟨Nat.zero_le _, Nat.zero_le _⟩ (fun H locs hP hD hS => ?_)
            obtain ⟨xx_16, exx_16⟩ : ∃ z, z = (setV xx_37 0 q_15.2) := ⟨_, rfl⟩
            rw [← exx_16] at hP hD
            replace hR := lt_e hR exx_16
            refine lv_istore (lv' := [(5, .int q_15.1), (4, .int x4_37), (3, .int x3_37), (2, .int x2_37), (1, .int (mX3_firstFault (xx 7))), (0, .ref (ad 9 0))]) hx hb dX5_doAll_82 hl (by decide) rfl (fun ls hl => ?_)
            refine lv_iload hx hb dX5_doAll_84 (lv_at hl 0 rfl) ?_
            refine lv_iconst (v := (-1)) hx hb dX5_doAll_86 (by decide) ?_
            refine lv_icmp_eq (tgt := 104) hx hb dX5_doAll_87 (by decide) (fun c_17 => ?_) (fun c_17 => ?_)
            · rw [if_pos c_17] at hR
              refine lv_aload_n hx hb dX5_doAll_104 rfl (lv_at hl 5 rfl) ?_
              refine va_get (D := D) (ci := 3) (v := .ref ((ad 0) 0)) (C := RX5) (T := TX5) (N := 6) hx hb hts iX5_doAll_X5 hown hG.1 hP 0 rfl rfl 0 (by decide) (hts (.fieldLink RX5 12 "MillComplaints" "now" "LMillComplaints$Village;") (List.mem_of_getElem? (i := 3) rfl)) (fun _ h9 => h9) rfl dX5_doAll_105 ?_
              refine lv_aload_n hx hb dX5_doAll_108 rfl (lv_at hl 5 rfl) ?_
              refine va_get (D := D) (ci := 3) (v := .ref ((ad 1) 0)) (C := RX5) (T := TX5) (N := 6) hx hb hts iX5_doAll_X5 hown hG.1 hP 0 rfl rfl 1 (by decide) (hts (.fieldLink RX5 16 "MillComplaints" "before" "LMillComplaints$Village;") (List.mem_of_getElem? (i := 2) rfl)) (fun _ h9 => h9) rfl dX5_doAll_109 ?_
              have hM := MX4_copyFrom' l D q (ad 0) (xx_16 0) (ad 1) (xx_16 1)
              refine mu_V (D := D) (ws := (wX q ad xx_16)) (ws' := (wX q ad (setV xx_16 0 (xx_16 1)))) (rest := []) (As := [.ref ((ad 1) 0)]) hx hb hml hown hts hl hM gX5_doAll_X4_copyFrom rfl kX4_copyFrom ⟨Nat.le_of_ble_eq_true rfl, Nat.le_of_ble_eq_true rfl⟩ rfl rfl hP hD hS hG [1, 2, 3, 4, 5, 6, 7, 8, 9, 10, 11, 12, 13, 14, 15, 16, 17, 18, 19, 20] rfl rfl (by decide) [0, 75, 76, 77, 78, 79, 80, 81, 82, 83, 84, 85, 86, 87, 88, 89, 90, 91, 92, 93, 94, 21, 22, 23, 24, 25, 26, 27, 28, 29, 30, 31, 32, 33, 34, 35, 36, 37, 38, 39, 40, 41, 42, 43, 44, 45, 46, 47, 48, 49, 50, 51, 52, 53, 54, 55, 56, 57, 58, 59, 60, 61, 62, 63, 64, 65, 66, 67, 68, 69, 70, 71, 72, 73, 74] rfl (by decide) rfl (ci := 2) rfl rfl rfl rfl (Nat.le_of_ble_eq_true rfl) dX5_doAll_112 ⟨Nat.zero_le _, Nat.zero_le _⟩ (fun H locs hP hD hS => ?_)
              obtain ⟨xx_18, exx_18⟩ : ∃ z, z = (setV xx_16 0 (xx_16 1)) := ⟨_, rfl⟩
              rw [← exx_18] at hP hD
              replace hR := lt_e hR exx_18
              refine lv_iload hx hb dX5_doAll_115 (lv_at hl 0 rfl) ?_
              subst hR
              exact mu_iret hx hb hr hk hA hS hP rfl dX5_doAll_117
            · rw [if_neg c_17] at hR
              refine lv_iload hx hb dX5_doAll_90 (lv_at hl 0 rfl) ?_
              refine lv_bipush (v := (-4)) hx hb dX5_doAll_92 (by decide) ?_
              refine lv_icmp_eq (tgt := 104) hx hb dX5_doAll_94 (by decide) (fun c_19 => ?_) (fun c_19 => ?_)
              · rw [if_pos c_19] at hR
                refine lv_aload_n hx hb dX5_doAll_104 rfl (lv_at hl 5 rfl) ?_
                refine va_get (D := D) (ci := 3) (v := .ref ((ad 0) 0)) (C := RX5) (T := TX5) (N := 6) hx hb hts iX5_doAll_X5 hown hG.1 hP 0 rfl rfl 0 (by decide) (hts (.fieldLink RX5 12 "MillComplaints" "now" "LMillComplaints$Village;") (List.mem_of_getElem? (i := 3) rfl)) (fun _ h9 => h9) rfl dX5_doAll_105 ?_
                refine lv_aload_n hx hb dX5_doAll_108 rfl (lv_at hl 5 rfl) ?_
                refine va_get (D := D) (ci := 3) (v := .ref ((ad 1) 0)) (C := RX5) (T := TX5) (N := 6) hx hb hts iX5_doAll_X5 hown hG.1 hP 0 rfl rfl 1 (by decide) (hts (.fieldLink RX5 16 "MillComplaints" "before" "LMillComplaints$Village;") (List.mem_of_getElem? (i := 2) rfl)) (fun _ h9 => h9) rfl dX5_doAll_109 ?_
                have hM := MX4_copyFrom' l D q (ad 0) (xx_16 0) (ad 1) (xx_16 1)
                refine mu_V (D := D) (ws := (wX q ad xx_16)) (ws' := (wX q ad (setV xx_16 0 (xx_16 1)))) (rest := []) (As := [.ref ((ad 1) 0)]) hx hb hml hown hts hl hM gX5_doAll_X4_copyFrom rfl kX4_copyFrom ⟨Nat.le_of_ble_eq_true rfl, Nat.le_of_ble_eq_true rfl⟩ rfl rfl hP hD hS hG [1, 2, 3, 4, 5, 6, 7, 8, 9, 10, 11, 12, 13, 14, 15, 16, 17, 18, 19, 20] rfl rfl (by decide) [0, 75, 76, 77, 78, 79, 80, 81, 82, 83, 84, 85, 86, 87, 88, 89, 90, 91, 92, 93, 94, 21, 22, 23, 24, 25, 26, 27, 28, 29, 30, 31, 32, 33, 34, 35, 36, 37, 38, 39, 40, 41, 42, 43, 44, 45, 46, 47, 48, 49, 50, 51, 52, 53, 54, 55, 56, 57, 58, 59, 60, 61, 62, 63, 64, 65, 66, 67, 68, 69, 70, 71, 72, 73, 74] rfl (by decide) rfl (ci := 2) rfl rfl rfl rfl (Nat.le_of_ble_eq_true rfl) dX5_doAll_112 ⟨Nat.zero_le _, Nat.zero_le _⟩ (fun H locs hP hD hS => ?_)
                obtain ⟨xx_20, exx_20⟩ : ∃ z, z = (setV xx_16 0 (xx_16 1)) := ⟨_, rfl⟩
                rw [← exx_20] at hP hD
                replace hR := lt_e hR exx_20
                refine lv_iload hx hb dX5_doAll_115 (lv_at hl 0 rfl) ?_
                subst hR
                exact mu_iret hx hb hr hk hA hS hP rfl dX5_doAll_117
              · rw [if_neg c_19] at hR
                refine lv_iload hx hb dX5_doAll_97 (lv_at hl 0 rfl) ?_
                refine lv_bipush (v := (-3)) hx hb dX5_doAll_99 (by decide) ?_
                refine lv_icmp_ne (tgt := 118) hx hb dX5_doAll_101 (by decide) (fun c_21 => ?_) (fun c_21 => ?_)
                · rw [if_neg c_21] at hR
                  refine lv_iinc (v := (x2_37 + 1)) (lv' := [(2, .int (x2_37 + 1)), (5, .int q_15.1), (4, .int x4_37), (3, .int x3_37), (1, .int (mX3_firstFault (xx 7))), (0, .ref (ad 9 0))]) hx hb dX5_doAll_118 hl (k := 3) rfl rfl (by decide) rfl (fun ls hl => ?_)
                  refine lv_iload hx hb dX5_doAll_121 (lv_at hl 2 rfl) ?_
                  refine lv_iconst (v := 1) hx hb dX5_doAll_123 (by decide) ?_
                  refine lv_iadd hx hb dX5_doAll_124 ?_
                  refine lv_istore_n (lv' := [(3, .int (x4_37 + 1)), (2, .int (x2_37 + 1)), (5, .int q_15.1), (4, .int x4_37), (1, .int (mX3_firstFault (xx 7))), (0, .ref (ad 9 0))]) hx hb dX5_doAll_125 rfl hl (by decide) rfl (fun ls hl => ?_)
                  refine lv_iinc (v := (x4_37 + 1)) (lv' := [(4, .int (x4_37 + 1)), (3, .int (x4_37 + 1)), (2, .int (x2_37 + 1)), (5, .int q_15.1), (1, .int (mX3_firstFault (xx 7))), (0, .ref (ad 9 0))]) hx hb dX5_doAll_126 hl (k := 3) rfl rfl (by decide) rfl (fun ls hl => ?_)
                  refine lv_goto (tgt := 37) hx hb dX5_doAll_129 (by decide) ?_
                  exact ih_37 xx_16 (x4_37 + 1) (x4_37 + 1) (x2_37 + 1) _ _ (by rw [exx_16]; exact tqN hn_37 hlen_37) (by rw [exx_16]; exact hrg_37) (by rw [exx_16]; exact hch_37) (by rw [exx_16]; exact hlen_37) hR hP hD hS ls (lv_sub hl [0, 1, 2, 4, 5] rfl)
                · rw [if_pos c_21] at hR
                  refine lv_aload_n hx hb dX5_doAll_104 rfl (lv_at hl 5 rfl) ?_
                  refine va_get (D := D) (ci := 3) (v := .ref ((ad 0) 0)) (C := RX5) (T := TX5) (N := 6) hx hb hts iX5_doAll_X5 hown hG.1 hP 0 rfl rfl 0 (by decide) (hts (.fieldLink RX5 12 "MillComplaints" "now" "LMillComplaints$Village;") (List.mem_of_getElem? (i := 3) rfl)) (fun _ h9 => h9) rfl dX5_doAll_105 ?_
                  refine lv_aload_n hx hb dX5_doAll_108 rfl (lv_at hl 5 rfl) ?_
                  refine va_get (D := D) (ci := 3) (v := .ref ((ad 1) 0)) (C := RX5) (T := TX5) (N := 6) hx hb hts iX5_doAll_X5 hown hG.1 hP 0 rfl rfl 1 (by decide) (hts (.fieldLink RX5 16 "MillComplaints" "before" "LMillComplaints$Village;") (List.mem_of_getElem? (i := 2) rfl)) (fun _ h9 => h9) rfl dX5_doAll_109 ?_
                  have hM := MX4_copyFrom' l D q (ad 0) (xx_16 0) (ad 1) (xx_16 1)
                  refine mu_V (D := D) (ws := (wX q ad xx_16)) (ws' := (wX q ad (setV xx_16 0 (xx_16 1)))) (rest := []) (As := [.ref ((ad 1) 0)]) hx hb hml hown hts hl hM gX5_doAll_X4_copyFrom rfl kX4_copyFrom ⟨Nat.le_of_ble_eq_true rfl, Nat.le_of_ble_eq_true rfl⟩ rfl rfl hP hD hS hG [1, 2, 3, 4, 5, 6, 7, 8, 9, 10, 11, 12, 13, 14, 15, 16, 17, 18, 19, 20] rfl rfl (by decide) [0, 75, 76, 77, 78, 79, 80, 81, 82, 83, 84, 85, 86, 87, 88, 89, 90, 91, 92, 93, 94, 21, 22, 23, 24, 25, 26, 27, 28, 29, 30, 31, 32, 33, 34, 35, 36, 37, 38, 39, 40, 41, 42, 43, 44, 45, 46, 47, 48, 49, 50, 51, 52, 53, 54, 55, 56, 57, 58, 59, 60, 61, 62, 63, 64, 65, 66, 67, 68, 69, 70, 71, 72, 73, 74] rfl (by decide) rfl (ci := 2) rfl rfl rfl rfl (Nat.le_of_ble_eq_true rfl) dX5_doAll_112 ⟨Nat.zero_le _, Nat.zero_le _⟩ (fun H locs hP hD hS => ?_)
                  obtain ⟨xx_22, exx_22⟩ : ∃ z, z = (setV xx_16 0 (xx_16 1)) := ⟨_, rfl⟩
                  rw [← exx_22] at hP hD
                  replace hR := lt_e hR exx_22
                  refine lv_iload hx hb dX5_doAll_115 (lv_at hl 0 rfl) ?_
                  subst hR
                  exact mu_iret hx hb hr hk hA hS hP rfl dX5_doAll_117
    exact key_37 _ xx_2 0 0 0 _ _ rfl (by rw [exx_2]; exact hrg) (by rw [exx_2]; exact hch) (by rw [exx_2]; exact hlen) hR hP hD hS ls hl
  · rw [if_neg c_1] at hR
    refine lv_bipush (v := (-100)) hx hb dX5_doAll_14 (by decide) ?_
    refine lv_iload_n hx hb dX5_doAll_16 rfl (lv_at hl 0 rfl) ?_
    refine lv_isub hx hb dX5_doAll_17 ?_
    subst hR
    exact mu_iret hx hb hr hk hA hS hP rfl dX5_doAll_18
