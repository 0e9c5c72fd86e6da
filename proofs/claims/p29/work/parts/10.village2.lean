def mX4_noiseIfUntied (v : Nat → Nat → Int32) (a1 a2 a3 : Int32) : Int32 := (if 2 ≤ (mX4_windAt v a3) then (if 0 < ((2 * (mX4_windAt v a3)) - (mX5_distance (mX5_at 4 (v 4) a1) a2)) then ((2 * (mX4_windAt v a3)) - (mX5_distance (mX5_at 4 (v 4) a1) a2)) else 0) else 0)
theorem kX4_noiseIfUntied : yX4_noiseIfUntied.cls = RX4 ∧ yX4_noiseIfUntied.cls ≠ "java/lang/invoke/MethodHandle" ∧ yX4_noiseIfUntied.cls ≠ "java/lang/invoke/VarHandle" ∧ (parseMethodDescriptor yX4_noiseIfUntied.desc).map (fun d => d.parameters.length) = some 3 := by decide +kernel
theorem iX4_noiseIfUntied_X4 : ∀ w ∈ wsX40, w ∈ wsX4_noiseIfUntied := fun w h => (List.mem_cons_of_mem _ (List.mem_append_right _ h))
theorem jnX4_noiseIfUntied_X5_at : Cond.initialized yX5_at.cls ∈ wsX4_noiseIfUntied := (List.mem_of_getElem? (i := 13) rfl)
theorem jsX4_noiseIfUntied_X5_at : Cond.static yX5_at ∈ wsX4_noiseIfUntied := (List.mem_of_getElem? (i := 12) rfl)
theorem jnX4_noiseIfUntied_X5_distance : Cond.initialized yX5_distance.cls ∈ wsX4_noiseIfUntied := (List.mem_of_getElem? (i := 13) rfl)
theorem jsX4_noiseIfUntied_X5_distance : Cond.static yX5_distance ∈ wsX4_noiseIfUntied := (List.mem_of_getElem? (i := 15) rfl)
set_option maxHeartbeats 4000000 in
set_option maxRecDepth 100000 in
theorem MX4_noiseIfUntied (l : Launch) (D : va_G) (q : Nat → ClassId) (h : Nat → Nat) (v : Nat → Nat → Int32) (a1 a2 a3 : Int32)  : roM l D (tyq q) yX4_noiseIfUntied wsX4_noiseIfUntied ({ frames := 2, cells := 0, slots := 0, locals := 44 } : Room) [.ref (h 0), .int a1, .int a2, .int a3] (wV q h v) (some (.int (mX4_noiseIfUntied v a1 a2 a3))) := by
  obtain ⟨R, hR⟩ : ∃ z, (mX4_noiseIfUntied v a1 a2 a3) = z := ⟨_, rfl⟩
  rw [hR]
  unfold mX4_noiseIfUntied at hR
  refine roM.of (cc := cX4_noiseIfUntied) (maxL := 5) (ret := (some .int)) (by decide) rfl (Nat.le_of_ble_eq_true rfl) ?_
  intro p e s m below meth c ls hx hb hr hk hml hown hts hP hD hG hl
  have hl : lv_has ls 5 [(0, .ref (h 0)), (1, .int a1), (2, .int a2), (3, .int a3)] := hl
  refine lv_aload_n hx hb dX4_noiseIfUntied_0 rfl (lv_at hl 0 rfl) ?_
  refine lv_iload_n hx hb dX4_noiseIfUntied_1 rfl (lv_at hl 3 rfl) ?_
  refine ro_V (v := .int (mX4_windAt v a3)) (rest := []) (As := [.int a3]) hx hb hml hown hts hl (MX4_windAt l D q h v a3) gX4_noiseIfUntied_X4_windAt rfl kX4_windAt ⟨Nat.le_of_ble_eq_true rfl, Nat.le_of_ble_eq_true rfl⟩ rfl rfl hP (dT hD) hG (ci := 2) rfl rfl rfl rfl (Nat.le_of_ble_eq_true rfl) dX4_noiseIfUntied_2 ⟨Nat.zero_le _, Nat.zero_le _⟩ ?_
  refine lv_istore (lv' := [(4, .int (mX4_windAt v a3)), (0, .ref (h 0)), (1, .int a1), (2, .int a2), (3, .int a3)]) hx hb dX4_noiseIfUntied_5 hl (by decide) rfl (fun ls hl => ?_)
  refine lv_iload hx hb dX4_noiseIfUntied_7 (lv_at hl 0 rfl) ?_
  refine lv_iconst (v := 2) hx hb dX4_noiseIfUntied_9 (by decide) ?_
  refine lv_icmp_ge (tgt := 15) hx hb dX4_noiseIfUntied_10 (by decide) (fun c_1 => ?_) (fun c_1 => ?_)
  · rw [if_pos c_1] at hR
    refine lv_iconst (v := 0) hx hb dX4_noiseIfUntied_15 (by decide) ?_
    refine lv_iconst (v := 2) hx hb dX4_noiseIfUntied_16 (by decide) ?_
    refine lv_iload hx hb dX4_noiseIfUntied_17 (lv_at hl 0 rfl) ?_
    refine lv_imul hx hb dX4_noiseIfUntied_19 ?_
    refine lv_aload_n hx hb dX4_noiseIfUntied_20 rfl (lv_at hl 1 rfl) ?_
    refine va_get (D := D) (ci := 2) (v := .ref (h 5)) (C := RX4) (T := TX4) (N := 11) hx hb hts iX4_noiseIfUntied_X4 hown hG.1 hP 0 rfl rfl 5 (by decide) (hts (.fieldLink RX4 31 "MillComplaints$Village" "millYards" "[I") (List.mem_of_getElem? (i := 1) rfl)) (fun _ h9 => h9) rfl dX4_noiseIfUntied_21 ?_
    refine lv_iload_n hx hb dX4_noiseIfUntied_24 rfl (lv_at hl 2 rfl) ?_
    refine ro_SN (v := .int (mX5_at 4 (v 4) a1)) (rest := [.int (2 * (mX4_windAt v a3)), .int 0]) (As := [.ref (h 5), .int a1]) hx hb hml hown hts hl (MX5_at l D q (h 5) 4 (v 4) a1 (by decide)) ggX4_noiseIfUntied_X5_at rfl kX5_at ⟨Nat.le_of_ble_eq_true rfl, Nat.le_of_ble_eq_true rfl⟩ rfl rfl (nwm_1 hG) jnX4_noiseIfUntied_X5_at jsX4_noiseIfUntied_X5_at (hP.sub (ws' := (wR q (h 5) 4 (v 4))) [5] rfl) (dT (hD.sub (ws' := (wR q (h 5) 4 (v 4))) [5] (by decide) rfl)) hG rfl rfl (Nat.le_of_ble_eq_true rfl) dX4_noiseIfUntied_25 ⟨Nat.zero_le _, Nat.zero_le _⟩ ?_
    refine lv_iload_n hx hb dX4_noiseIfUntied_28 rfl (lv_at hl 3 rfl) ?_
    refine ro_SN (v := .int (mX5_distance (mX5_at 4 (v 4) a1) a2)) (rest := [.int (2 * (mX4_windAt v a3)), .int 0]) (As := [.int (mX5_at 4 (v 4) a1), .int a2]) hx hb hml hown hts hl (MX5_distance l D q (mX5_at 4 (v 4) a1) a2) ggX4_noiseIfUntied_X5_distance rfl kX5_distance ⟨Nat.le_of_ble_eq_true rfl, Nat.le_of_ble_eq_true rfl⟩ rfl rfl (nwm_3 hG) jnX4_noiseIfUntied_X5_distance jsX4_noiseIfUntied_X5_distance (hP.sub (ws' := []) [] rfl) (dT (hD.sub (ws' := []) [] (by decide) rfl)) hG rfl rfl (Nat.le_of_ble_eq_true rfl) dX4_noiseIfUntied_29 ⟨Nat.zero_le _, Nat.zero_le _⟩ ?_
    refine lv_isub hx hb dX4_noiseIfUntied_32 ?_
    refine va_mmax hx hb (hml.trans hl.1.symm) hown (hts (.methodLink RX4 101 Lib.Math.max.name) (List.mem_of_getElem? (i := 2) rfl)) (hts (.static Lib.Math.max.name) (List.mem_of_getElem? (i := 3) rfl)) (hts (.initialized "java/lang/Math") (List.mem_of_getElem? (i := 4) rfl)) (hts (.code Lib.Math.max.name Lib.Math.max.code 2 (some .int)) (List.mem_of_getElem? (i := 5) rfl)) (Nat.le_of_ble_eq_true rfl) (Nat.le_of_ble_eq_true rfl) (Nat.zero_le _) (Nat.zero_le _) dX4_noiseIfUntied_33 ?_
    exact ro_iret hx hb hr hk hR dX4_noiseIfUntied_36
  · rw [if_neg c_1] at hR
    refine lv_iconst (v := 0) hx hb dX4_noiseIfUntied_13 (by decide) ?_
    exact ro_iret hx hb hr hk hR dX4_noiseIfUntied_14

def mX4_noiseIn (v : Nat → Nat → Int32) (a1 a2 a3 : Int32) : Int32 := (if (mX4_isTied v a1 a3) = 0 then (mX4_noiseIfUntied v a1 a2 a3) else 0)
theorem kX4_noiseIn : yX4_noiseIn.cls = RX4 ∧ yX4_noiseIn.cls ≠ "java/lang/invoke/MethodHandle" ∧ yX4_noiseIn.cls ≠ "java/lang/invoke/VarHandle" ∧ (parseMethodDescriptor yX4_noiseIn.desc).map (fun d => d.parameters.length) = some 3 := by decide +kernel
set_option maxHeartbeats 4000000 in
set_option maxRecDepth 100000 in
theorem MX4_noiseIn (l : Launch) (D : va_G) (q : Nat → ClassId) (h : Nat → Nat) (v : Nat → Nat → Int32) (a1 a2 a3 : Int32)  : roM l D (tyq q) yX4_noiseIn wsX4_noiseIn ({ frames := 3, cells := 0, slots := 0, locals := 68 } : Room) [.ref (h 0), .int a1, .int a2, .int a3] (wV q h v) (some (.int (mX4_noiseIn v a1 a2 a3))) := by
  obtain ⟨R, hR⟩ : ∃ z, (mX4_noiseIn v a1 a2 a3) = z := ⟨_, rfl⟩
  rw [hR]
  unfold mX4_noiseIn at hR
  refine roM.of (cc := cX4_noiseIn) (maxL := 4) (ret := (some .int)) (by decide) rfl (Nat.le_of_ble_eq_true rfl) ?_
  intro p e s m below meth c ls hx hb hr hk hml hown hts hP hD hG hl
  have hl : lv_has ls 4 [(0, .ref (h 0)), (1, .int a1), (2, .int a2), (3, .int a3)] := hl
  refine lv_aload_n hx hb dX4_noiseIn_0 rfl (lv_at hl 0 rfl) ?_
  refine lv_iload_n hx hb dX4_noiseIn_1 rfl (lv_at hl 1 rfl) ?_
  refine lv_iload_n hx hb dX4_noiseIn_2 rfl (lv_at hl 3 rfl) ?_
  refine ro_V (v := .int (mX4_isTied v a1 a3)) (rest := []) (As := [.int a1, .int a3]) hx hb hml hown hts hl (MX4_isTied l D q h v a1 a3) gX4_noiseIn_X4_isTied rfl kX4_isTied ⟨Nat.le_of_ble_eq_true rfl, Nat.le_of_ble_eq_true rfl⟩ rfl rfl hP (dT hD) hG (ci := 2) rfl rfl rfl rfl (Nat.le_of_ble_eq_true rfl) dX4_noiseIn_3 ⟨Nat.zero_le _, Nat.zero_le _⟩ ?_
  refine lv_if_eq (tgt := 13) hx hb dX4_noiseIn_6 (by decide) (fun c_1 => ?_) (fun c_1 => ?_)
  · rw [if_pos c_1] at hR
    refine lv_aload_n hx hb dX4_noiseIn_13 rfl (lv_at hl 0 rfl) ?_
    refine lv_iload_n hx hb dX4_noiseIn_14 rfl (lv_at hl 1 rfl) ?_
    refine lv_iload_n hx hb dX4_noiseIn_15 rfl (lv_at hl 2 rfl) ?_
    refine lv_iload_n hx hb dX4_noiseIn_16 rfl (lv_at hl 3 rfl) ?_
    refine ro_V (v := .int (mX4_noiseIfUntied v a1 a2 a3)) (rest := []) (As := [.int a1, .int a2, .int a3]) hx hb hml hown hts hl (MX4_noiseIfUntied l D q h v a1 a2 a3) gX4_noiseIn_X4_noiseIfUntied rfl kX4_noiseIfUntied ⟨Nat.le_of_ble_eq_true rfl, Nat.le_of_ble_eq_true rfl⟩ rfl rfl hP (dT hD) hG (ci := 2) rfl rfl rfl rfl (Nat.le_of_ble_eq_true rfl) dX4_noiseIn_17 ⟨Nat.zero_le _, Nat.zero_le _⟩ ?_
    exact ro_iret hx hb hr hk hR dX4_noiseIn_20
  · rw [if_neg c_1] at hR
    refine lv_iconst (v := 0) hx hb dX4_noiseIn_9 (by decide) ?_
    refine lv_goto (tgt := 20) hx hb dX4_noiseIn_10 (by decide) ?_
    exact ro_iret hx hb hr hk hR dX4_noiseIn_20

def mX4_noiseOfAllMills_5 (v : Nat → Nat → Int32) (a1 : Int32) (a2 : Int32) (C : Int32 → Int32 → Int32) : Nat → Int32 → Int32 → Int32
  | 0, x4_5, x3_5 => C x4_5 x3_5
  | n_5 + 1, x4_5, x3_5 => (mX4_noiseOfAllMills_5 v a1 a2 C n_5 (x4_5 + 1) (x3_5 + (mX4_noiseIn v x4_5 (mX5_at 10 (v 6) a1) a2)))
def mX4_noiseOfAllMills (v : Nat → Nat → Int32) (a1 a2 : Int32) : Int32 := (mX4_noiseOfAllMills_5 v a1 a2 (fun x4_5 x3_5 => x3_5) (tr 0 (v 9 0)) 0 0)
theorem kX4_noiseOfAllMills : yX4_noiseOfAllMills.cls = RX4 ∧ yX4_noiseOfAllMills.cls ≠ "java/lang/invoke/MethodHandle" ∧ yX4_noiseOfAllMills.cls ≠ "java/lang/invoke/VarHandle" ∧ (parseMethodDescriptor yX4_noiseOfAllMills.desc).map (fun d => d.parameters.length) = some 2 := by decide +kernel
theorem iX4_noiseOfAllMills_X4 : ∀ w ∈ wsX40, w ∈ wsX4_noiseOfAllMills := fun w h => (List.mem_cons_of_mem _ (List.mem_append_right _ h))
theorem jnX4_noiseOfAllMills_X5_at : Cond.initialized yX5_at.cls ∈ wsX4_noiseOfAllMills := (List.mem_of_getElem? (i := 4) rfl)
theorem jsX4_noiseOfAllMills_X5_at : Cond.static yX5_at ∈ wsX4_noiseOfAllMills := (List.mem_of_getElem? (i := 3) rfl)
set_option maxHeartbeats 4000000 in
set_option maxRecDepth 100000 in
theorem MX4_noiseOfAllMills (l : Launch) (D : va_G) (q : Nat → ClassId) (h : Nat → Nat) (v : Nat → Nat → Int32) (a1 a2 : Int32)  : roM l D (tyq q) yX4_noiseOfAllMills wsX4_noiseOfAllMills ({ frames := 4, cells := 0, slots := 0, locals := 91 } : Room) [.ref (h 0), .int a1, .int a2] (wV q h v) (some (.int (mX4_noiseOfAllMills v a1 a2))) := by
  obtain ⟨R, hR⟩ : ∃ z, (mX4_noiseOfAllMills v a1 a2) = z := ⟨_, rfl⟩
  rw [hR]
  unfold mX4_noiseOfAllMills at hR
  refine roM.of (cc := cX4_noiseOfAllMills) (maxL := 5) (ret := (some .int)) (by decide) rfl (Nat.le_of_ble_eq_true rfl) ?_
  intro p e s m below meth c ls hx hb hr hk hml hown hts hP hD hG hl
  have hl : lv_has ls 5 [(0, .ref (h 0)), (1, .int a1), (2, .int a2)] := hl
  refine lv_iconst (v := 0) hx hb dX4_noiseOfAllMills_0 (by decide) ?_
  refine lv_istore_n (lv' := [(3, .int 0), (0, .ref (h 0)), (1, .int a1), (2, .int a2)]) hx hb dX4_noiseOfAllMills_1 rfl hl (by decide) rfl (fun ls hl => ?_)
  refine lv_iconst (v := 0) hx hb dX4_noiseOfAllMills_2 (by decide) ?_
  refine lv_istore (lv' := [(4, .int 0), (3, .int 0), (0, .ref (h 0)), (1, .int a1), (2, .int a2)]) hx hb dX4_noiseOfAllMills_3 hl (by decide) rfl (fun ls hl => ?_)
  have key_5 : ∀ (n_5 : Nat) (x4_5 : Int32) (x3_5 : Int32), tr x4_5 (v 9 0) = n_5 → mX4_noiseOfAllMills_5 v a1 a2 (fun x4_5 x3_5 => x3_5) n_5 x4_5 x3_5 = R → ∀ ls : Array Slot, lv_has ls 5 [(4, .int x4_5), (3, .int x3_5), (0, .ref (h 0)), (1, .int a1), (2, .int a2)] → W p l e ({ frames := 4, cells := 0, slots := 0, locals := 91 } : Room) s m ([.ref (h 0), .int a1, .int a2] : List Value).toArray below meth c s.heap [] 0 0 (MQ below (roQ (some (.int R))) ([.ref (h 0), .int a1, .int a2] : List Value).toArray s 0 0 (fun _ => False)) (F0 m 5 ls []) := by
    intro n_5
    induction n_5 with
    | zero =>
      intro x4_5 x3_5 hn_5 hR ls hl
      rw [mX4_noiseOfAllMills_5] at hR
      refine lv_iload hx hb dX4_noiseOfAllMills_5 (lv_at hl 0 rfl) ?_
      refine lv_aload_n hx hb dX4_noiseOfAllMills_7 rfl (lv_at hl 2 rfl) ?_
      refine va_get (D := D) (ci := 2) (v := .int (v 9 0)) (C := RX4) (T := TX4) (N := 11) hx hb hts iX4_noiseOfAllMills_X4 hown hG.1 hP 0 rfl rfl 3 (by decide) (hts (.fieldLink RX4 24 "MillComplaints$Village" "mills" "I") (List.mem_of_getElem? (i := 1) rfl)) (fun _ h9 => h9) rfl dX4_noiseOfAllMills_8 ?_
      refine lv_icmp_ge (tgt := 38) hx hb dX4_noiseOfAllMills_11 (by decide) (fun c_1 => ?_) (fun c_1 => (tr0 hn_5 c_1).elim)
      refine lv_iload_n hx hb dX4_noiseOfAllMills_38 rfl (lv_at hl 1 rfl) ?_
      exact ro_iret hx hb hr hk hR dX4_noiseOfAllMills_39
    | succ n_5 ih_5 =>
      intro x4_5 x3_5 hn_5 hR ls hl
      rw [mX4_noiseOfAllMills_5] at hR
      refine lv_iload hx hb dX4_noiseOfAllMills_5 (lv_at hl 0 rfl) ?_
      refine lv_aload_n hx hb dX4_noiseOfAllMills_7 rfl (lv_at hl 2 rfl) ?_
      refine va_get (D := D) (ci := 2) (v := .int (v 9 0)) (C := RX4) (T := TX4) (N := 11) hx hb hts iX4_noiseOfAllMills_X4 hown hG.1 hP 0 rfl rfl 3 (by decide) (hts (.fieldLink RX4 24 "MillComplaints$Village" "mills" "I") (List.mem_of_getElem? (i := 1) rfl)) (fun _ h9 => h9) rfl dX4_noiseOfAllMills_8 ?_
      refine lv_icmp_ge (tgt := 38) hx hb dX4_noiseOfAllMills_11 (by decide) (fun c_1 => (trS hn_5 c_1).elim) (fun c_1 => ?_)
      refine lv_iload_n hx hb dX4_noiseOfAllMills_14 rfl (lv_at hl 1 rfl) ?_
      refine lv_aload_n hx hb dX4_noiseOfAllMills_15 rfl (lv_at hl 2 rfl) ?_
      refine lv_iload hx hb dX4_noiseOfAllMills_16 (lv_at hl 0 rfl) ?_
      refine lv_aload_n hx hb dX4_noiseOfAllMills_18 rfl (lv_at hl 2 rfl) ?_
      refine va_get (D := D) (ci := 2) (v := .ref (h 7)) (C := RX4) (T := TX4) (N := 11) hx hb hts iX4_noiseOfAllMills_X4 hown hG.1 hP 0 rfl rfl 8 (by decide) (hts (.fieldLink RX4 40 "MillComplaints$Village" "houseYards" "[I") (List.mem_of_getElem? (i := 2) rfl)) (fun _ h9 => h9) rfl dX4_noiseOfAllMills_19 ?_
      refine lv_iload_n hx hb dX4_noiseOfAllMills_22 rfl (lv_at hl 3 rfl) ?_
      refine ro_SN (v := .int (mX5_at 10 (v 6) a1)) (rest := [.int x4_5, .ref (h 0), .int x3_5]) (As := [.ref (h 7), .int a1]) hx hb hml hown hts hl (MX5_at l D q (h 7) 10 (v 6) a1 (by decide)) ggX4_noiseOfAllMills_X5_at rfl kX5_at ⟨Nat.le_of_ble_eq_true rfl, Nat.le_of_ble_eq_true rfl⟩ rfl rfl (nwm_1 hG) jnX4_noiseOfAllMills_X5_at jsX4_noiseOfAllMills_X5_at (hP.sub (ws' := (wR q (h 7) 10 (v 6))) [7] rfl) (dT (hD.sub (ws' := (wR q (h 7) 10 (v 6))) [7] (by decide) rfl)) hG rfl rfl (Nat.le_of_ble_eq_true rfl) dX4_noiseOfAllMills_23 ⟨Nat.zero_le _, Nat.zero_le _⟩ ?_
      refine lv_iload_n hx hb dX4_noiseOfAllMills_26 rfl (lv_at hl 4 rfl) ?_
      refine ro_V (v := .int (mX4_noiseIn v x4_5 (mX5_at 10 (v 6) a1) a2)) (rest := [.int x3_5]) (As := [.int x4_5, .int (mX5_at 10 (v 6) a1), .int a2]) hx hb hml hown hts hl (MX4_noiseIn l D q h v x4_5 (mX5_at 10 (v 6) a1) a2) gX4_noiseOfAllMills_X4_noiseIn rfl kX4_noiseIn ⟨Nat.le_of_ble_eq_true rfl, Nat.le_of_ble_eq_true rfl⟩ rfl rfl hP (dT hD) hG (ci := 2) rfl rfl rfl rfl (Nat.le_of_ble_eq_true rfl) dX4_noiseOfAllMills_27 ⟨Nat.zero_le _, Nat.zero_le _⟩ ?_
      refine lv_iadd hx hb dX4_noiseOfAllMills_30 ?_
      refine lv_istore_n (lv' := [(3, .int (x3_5 + (mX4_noiseIn v x4_5 (mX5_at 10 (v 6) a1) a2))), (4, .int x4_5), (0, .ref (h 0)), (1, .int a1), (2, .int a2)]) hx hb dX4_noiseOfAllMills_31 rfl hl (by decide) rfl (fun ls hl => ?_)
      refine lv_iinc (v := (x4_5 + 1)) (lv' := [(4, .int (x4_5 + 1)), (3, .int (x3_5 + (mX4_noiseIn v x4_5 (mX5_at 10 (v 6) a1) a2))), (0, .ref (h 0)), (1, .int a1), (2, .int a2)]) hx hb dX4_noiseOfAllMills_32 hl (k := 1) rfl rfl (by decide) rfl (fun ls hl => ?_)
      refine lv_goto (tgt := 5) hx hb dX4_noiseOfAllMills_35 (by decide) ?_
      exact ih_5 (x4_5 + 1) (x3_5 + (mX4_noiseIn v x4_5 (mX5_at 10 (v 6) a1) a2)) (trN hn_5) hR ls (lv_sub hl [0, 1, 2, 3, 4] rfl)
  exact key_5 _ 0 0 rfl hR ls hl

def mX4_borneNoise (v : Nat → Nat → Int32) (a1 : Int32) : Int32 := (if 22 ≤ a1 then (mX4_setting v 1) else (if 5 < a1 then (mX4_setting v 0) else (mX4_setting v 1)))
theorem kX4_borneNoise : yX4_borneNoise.cls = RX4 ∧ yX4_borneNoise.cls ≠ "java/lang/invoke/MethodHandle" ∧ yX4_borneNoise.cls ≠ "java/lang/invoke/VarHandle" ∧ (parseMethodDescriptor yX4_borneNoise.desc).map (fun d => d.parameters.length) = some 1 := by decide +kernel
set_option maxHeartbeats 4000000 in
set_option maxRecDepth 100000 in
theorem MX4_borneNoise (l : Launch) (D : va_G) (q : Nat → ClassId) (h : Nat → Nat) (v : Nat → Nat → Int32) (a1 : Int32)  : roM l D (tyq q) yX4_borneNoise wsX4_borneNoise ({ frames := 2, cells := 0, slots := 0, locals := 42 } : Room) [.ref (h 0), .int a1] (wV q h v) (some (.int (mX4_borneNoise v a1))) := by
  obtain ⟨R, hR⟩ : ∃ z, (mX4_borneNoise v a1) = z := ⟨_, rfl⟩
  rw [hR]
  unfold mX4_borneNoise at hR
  refine roM.of (cc := cX4_borneNoise) (maxL := 3) (ret := (some .int)) (by decide) rfl (Nat.le_of_ble_eq_true rfl) ?_
  intro p e s m below meth c ls hx hb hr hk hml hown hts hP hD hG hl
  have hl : lv_has ls 3 [(0, .ref (h 0)), (1, .int a1)] := hl
  refine lv_iload_n hx hb dX4_borneNoise_0 rfl (lv_at hl 1 rfl) ?_
  refine lv_bipush (v := 22) hx hb dX4_borneNoise_1 (by decide) ?_
  refine lv_icmp_ge (tgt := 11) hx hb dX4_borneNoise_3 (by decide) (fun c_1 => ?_) (fun c_1 => ?_)
  · rw [if_pos c_1] at hR
    refine lv_iconst (v := 1) hx hb dX4_borneNoise_11 (by decide) ?_
    refine lv_goto (tgt := 16) hx hb dX4_borneNoise_12 (by decide) ?_
    refine lv_istore_n (lv' := [(2, .int 1), (0, .ref (h 0)), (1, .int a1)]) hx hb dX4_borneNoise_16 rfl hl (by decide) rfl (fun ls hl => ?_)
    refine lv_aload_n hx hb dX4_borneNoise_17 rfl (lv_at hl 1 rfl) ?_
    refine lv_iload_n hx hb dX4_borneNoise_18 rfl (lv_at hl 0 rfl) ?_
    refine lv_if_eq (tgt := 26) hx hb dX4_borneNoise_19 (by decide) (fun c_2 => absurd c_2 (by decide)) (fun _ => ?_)
    refine lv_iconst (v := 1) hx hb dX4_borneNoise_22 (by decide) ?_
    refine lv_goto (tgt := 27) hx hb dX4_borneNoise_23 (by decide) ?_
    refine ro_V (v := .int (mX4_setting v 1)) (rest := []) (As := [.int 1]) hx hb hml hown hts hl (MX4_setting l D q h v 1) gX4_borneNoise_X4_setting rfl kX4_setting ⟨Nat.le_of_ble_eq_true rfl, Nat.le_of_ble_eq_true rfl⟩ rfl rfl hP (dT hD) hG (ci := 2) rfl rfl rfl rfl (Nat.le_of_ble_eq_true rfl) dX4_borneNoise_27 ⟨Nat.zero_le _, Nat.zero_le _⟩ ?_
    exact ro_iret hx hb hr hk hR dX4_borneNoise_30
  · rw [if_neg c_1] at hR
    refine lv_iload_n hx hb dX4_borneNoise_6 rfl (lv_at hl 1 rfl) ?_
    refine lv_iconst (v := 5) hx hb dX4_borneNoise_7 (by decide) ?_
    refine lv_icmp_gt (tgt := 15) hx hb dX4_borneNoise_8 (by decide) (fun c_3 => ?_) (fun c_3 => ?_)
    · rw [if_pos c_3] at hR
      refine lv_iconst (v := 0) hx hb dX4_borneNoise_15 (by decide) ?_
      refine lv_istore_n (lv' := [(2, .int 0), (0, .ref (h 0)), (1, .int a1)]) hx hb dX4_borneNoise_16 rfl hl (by decide) rfl (fun ls hl => ?_)
      refine lv_aload_n hx hb dX4_borneNoise_17 rfl (lv_at hl 1 rfl) ?_
      refine lv_iload_n hx hb dX4_borneNoise_18 rfl (lv_at hl 0 rfl) ?_
      refine lv_if_eq (tgt := 26) hx hb dX4_borneNoise_19 (by decide) (fun _ => ?_) (fun c_4 => absurd (by decide) c_4)
      refine lv_iconst (v := 0) hx hb dX4_borneNoise_26 (by decide) ?_
      refine ro_V (v := .int (mX4_setting v 0)) (rest := []) (As := [.int 0]) hx hb hml hown hts hl (MX4_setting l D q h v 0) gX4_borneNoise_X4_setting rfl kX4_setting ⟨Nat.le_of_ble_eq_true rfl, Nat.le_of_ble_eq_true rfl⟩ rfl rfl hP (dT hD) hG (ci := 2) rfl rfl rfl rfl (Nat.le_of_ble_eq_true rfl) dX4_borneNoise_27 ⟨Nat.zero_le _, Nat.zero_le _⟩ ?_
      exact ro_iret hx hb hr hk hR dX4_borneNoise_30
    · rw [if_neg c_3] at hR
      refine lv_iconst (v := 1) hx hb dX4_borneNoise_11 (by decide) ?_
      refine lv_goto (tgt := 16) hx hb dX4_borneNoise_12 (by decide) ?_
      refine lv_istore_n (lv' := [(2, .int 1), (0, .ref (h 0)), (1, .int a1)]) hx hb dX4_borneNoise_16 rfl hl (by decide) rfl (fun ls hl => ?_)
      refine lv_aload_n hx hb dX4_borneNoise_17 rfl (lv_at hl 1 rfl) ?_
      refine lv_iload_n hx hb dX4_borneNoise_18 rfl (lv_at hl 0 rfl) ?_
      refine lv_if_eq (tgt := 26) hx hb dX4_borneNoise_19 (by decide) (fun c_5 => absurd c_5 (by decide)) (fun _ => ?_)
      refine lv_iconst (v := 1) hx hb dX4_borneNoise_22 (by decide) ?_
      refine lv_goto (tgt := 27) hx hb dX4_borneNoise_23 (by decide) ?_
      refine ro_V (v := .int (mX4_setting v 1)) (rest := []) (As := [.int 1]) hx hb hml hown hts hl (MX4_setting l D q h v 1) gX4_borneNoise_X4_setting rfl kX4_setting ⟨Nat.le_of_ble_eq_true rfl, Nat.le_of_ble_eq_true rfl⟩ rfl rfl hP (dT hD) hG (ci := 2) rfl rfl rfl rfl (Nat.le_of_ble_eq_true rfl) dX4_borneNoise_27 ⟨Nat.zero_le _, Nat.zero_le _⟩ ?_
      exact ro_iret hx hb hr hk hR dX4_borneNoise_30

def mX4_troublesIfUntied (v : Nat → Nat → Int32) (a1 a2 a3 a4 : Int32) : Int32 := (if a3 = 0 then (if (mX4_noiseIfUntied v a1 (mX5_at 10 (v 6) a2) a4) ≤ (mX4_borneNoise v a4) then 0 else 1) else (if (mX4_blows v a4) = 0 then 0 else (if (mX2_liesThere (mX5_at 4 (v 4) a1) (mX5_at 4 (v 3) a1) (mX5_at 10 (v 6) a2) a4) = 0 then 0 else 1)))
theorem kX4_troublesIfUntied : yX4_troublesIfUntied.cls = RX4 ∧ yX4_troublesIfUntied.cls ≠ "java/lang/invoke/MethodHandle" ∧ yX4_troublesIfUntied.cls ≠ "java/lang/invoke/VarHandle" ∧ (parseMethodDescriptor yX4_troublesIfUntied.desc).map (fun d => d.parameters.length) = some 4 := by decide +kernel
theorem iX4_troublesIfUntied_X4 : ∀ w ∈ wsX40, w ∈ wsX4_troublesIfUntied := fun w h => (List.mem_cons_of_mem _ (List.mem_append_right _ h))
theorem jnX4_troublesIfUntied_X5_at : Cond.initialized yX5_at.cls ∈ wsX4_troublesIfUntied := (List.mem_of_getElem? (i := 5) rfl)
theorem jsX4_troublesIfUntied_X5_at : Cond.static yX5_at ∈ wsX4_troublesIfUntied := (List.mem_of_getElem? (i := 4) rfl)
set_option maxHeartbeats 4000000 in
set_option maxRecDepth 100000 in
theorem MX4_troublesIfUntied (l : Launch) (D : va_G) (q : Nat → ClassId) (h : Nat → Nat) (v : Nat → Nat → Int32) (a1 a2 a3 a4 : Int32)  : roM l D (tyq q) yX4_troublesIfUntied wsX4_troublesIfUntied ({ frames := 3, cells := 0, slots := 0, locals := 71 } : Room) [.ref (h 0), .int a1, .int a2, .int a3, .int a4] (wV q h v) (some (.int (mX4_troublesIfUntied v a1 a2 a3 a4))) := by
  obtain ⟨R, hR⟩ : ∃ z, (mX4_troublesIfUntied v a1 a2 a3 a4) = z := ⟨_, rfl⟩
  rw [hR]
  unfold mX4_troublesIfUntied at hR
  refine roM.of (cc := cX4_troublesIfUntied) (maxL := 6) (ret := (some .boolean)) (by decide) rfl (Nat.le_of_ble_eq_true rfl) ?_
  intro p e s m below meth c ls hx hb hr hk hml hown hts hP hD hG hl
  have hl : lv_has ls 6 [(0, .ref (h 0)), (1, .int a1), (2, .int a2), (3, .int a3), (4, .int a4)] := hl
  refine lv_aload_n hx hb dX4_troublesIfUntied_0 rfl (lv_at hl 0 rfl) ?_
  refine va_get (D := D) (ci := 2) (v := .ref (h 7)) (C := RX4) (T := TX4) (N := 11) hx hb hts iX4_troublesIfUntied_X4 hown hG.1 hP 0 rfl rfl 8 (by decide) (hts (.fieldLink RX4 40 "MillComplaints$Village" "houseYards" "[I") (List.mem_of_getElem? (i := 1) rfl)) (fun _ h9 => h9) rfl dX4_troublesIfUntied_1 ?_
  refine lv_iload_n hx hb dX4_troublesIfUntied_4 rfl (lv_at hl 2 rfl) ?_
  refine ro_SN (v := .int (mX5_at 10 (v 6) a2)) (rest := []) (As := [.ref (h 7), .int a2]) hx hb hml hown hts hl (MX5_at l D q (h 7) 10 (v 6) a2 (by decide)) ggX4_troublesIfUntied_X5_at rfl kX5_at ⟨Nat.le_of_ble_eq_true rfl, Nat.le_of_ble_eq_true rfl⟩ rfl rfl (nwm_1 hG) jnX4_troublesIfUntied_X5_at jsX4_troublesIfUntied_X5_at (hP.sub (ws' := (wR q (h 7) 10 (v 6))) [7] rfl) (dT (hD.sub (ws' := (wR q (h 7) 10 (v 6))) [7] (by decide) rfl)) hG rfl rfl (Nat.le_of_ble_eq_true rfl) dX4_troublesIfUntied_5 ⟨Nat.zero_le _, Nat.zero_le _⟩ ?_
  refine lv_istore (lv' := [(5, .int (mX5_at 10 (v 6) a2)), (0, .ref (h 0)), (1, .int a1), (2, .int a2), (3, .int a3), (4, .int a4)]) hx hb dX4_troublesIfUntied_8 hl (by decide) rfl (fun ls hl => ?_)
  refine lv_iload_n hx hb dX4_troublesIfUntied_10 rfl (lv_at hl 4 rfl) ?_
  refine lv_if_ne (tgt := 38) hx hb dX4_troublesIfUntied_11 (by decide) (fun c_1 => ?_) (fun c_1 => ?_)
  · rw [if_neg c_1] at hR
    refine lv_aload_n hx hb dX4_troublesIfUntied_38 rfl (lv_at hl 1 rfl) ?_
    refine lv_iload hx hb dX4_troublesIfUntied_39 (lv_at hl 5 rfl) ?_
    refine ro_V (v := .int (mX4_blows v a4)) (rest := []) (As := [.int a4]) hx hb hml hown hts hl (MX4_blows l D q h v a4) gX4_troublesIfUntied_X4_blows rfl kX4_blows ⟨Nat.le_of_ble_eq_true rfl, Nat.le_of_ble_eq_true rfl⟩ rfl rfl hP (dT hD) hG (ci := 2) rfl rfl rfl rfl (Nat.le_of_ble_eq_true rfl) dX4_troublesIfUntied_41 ⟨Nat.zero_le _, Nat.zero_le _⟩ ?_
    refine lv_if_eq (tgt := 77) hx hb dX4_troublesIfUntied_44 (by decide) (fun c_2 => ?_) (fun c_2 => ?_)
    · rw [if_pos c_2] at hR
      refine lv_iconst (v := 0) hx hb dX4_troublesIfUntied_77 (by decide) ?_
      exact ro_zret hx hb hr hk (Or.inl rfl) hR dX4_troublesIfUntied_78
    · rw [if_neg c_2] at hR
      refine lv_aload_n hx hb dX4_troublesIfUntied_47 rfl (lv_at hl 1 rfl) ?_
      refine va_get (D := D) (ci := 2) (v := .ref (h 5)) (C := RX4) (T := TX4) (N := 11) hx hb hts iX4_troublesIfUntied_X4 hown hG.1 hP 0 rfl rfl 5 (by decide) (hts (.fieldLink RX4 31 "MillComplaints$Village" "millYards" "[I") (List.mem_of_getElem? (i := 2) rfl)) (fun _ h9 => h9) rfl dX4_troublesIfUntied_48 ?_
      refine lv_iload_n hx hb dX4_troublesIfUntied_51 rfl (lv_at hl 2 rfl) ?_
      refine ro_SN (v := .int (mX5_at 4 (v 4) a1)) (rest := []) (As := [.ref (h 5), .int a1]) hx hb hml hown hts hl (MX5_at l D q (h 5) 4 (v 4) a1 (by decide)) ggX4_troublesIfUntied_X5_at rfl kX5_at ⟨Nat.le_of_ble_eq_true rfl, Nat.le_of_ble_eq_true rfl⟩ rfl rfl (nwm_1 hG) jnX4_troublesIfUntied_X5_at jsX4_troublesIfUntied_X5_at (hP.sub (ws' := (wR q (h 5) 4 (v 4))) [5] rfl) (dT (hD.sub (ws' := (wR q (h 5) 4 (v 4))) [5] (by decide) rfl)) hG rfl rfl (Nat.le_of_ble_eq_true rfl) dX4_troublesIfUntied_52 ⟨Nat.zero_le _, Nat.zero_le _⟩ ?_
      refine lv_aload_n hx hb dX4_troublesIfUntied_55 rfl (lv_at hl 1 rfl) ?_
      refine va_get (D := D) (ci := 2) (v := .ref (h 4)) (C := RX4) (T := TX4) (N := 11) hx hb hts iX4_troublesIfUntied_X4 hown hG.1 hP 0 rfl rfl 4 (by decide) (hts (.fieldLink RX4 28 "MillComplaints$Village" "heights" "[I") (List.mem_of_getElem? (i := 3) rfl)) (fun _ h9 => h9) rfl dX4_troublesIfUntied_56 ?_
      refine lv_iload_n hx hb dX4_troublesIfUntied_59 rfl (lv_at hl 2 rfl) ?_
      refine ro_SN (v := .int (mX5_at 4 (v 3) a1)) (rest := [.int (mX5_at 4 (v 4) a1)]) (As := [.ref (h 4), .int a1]) hx hb hml hown hts hl (MX5_at l D q (h 4) 4 (v 3) a1 (by decide)) ggX4_troublesIfUntied_X5_at rfl kX5_at ⟨Nat.le_of_ble_eq_true rfl, Nat.le_of_ble_eq_true rfl⟩ rfl rfl (nwm_1 hG) jnX4_troublesIfUntied_X5_at jsX4_troublesIfUntied_X5_at (hP.sub (ws' := (wR q (h 4) 4 (v 3))) [4] rfl) (dT (hD.sub (ws' := (wR q (h 4) 4 (v 3))) [4] (by decide) rfl)) hG rfl rfl (Nat.le_of_ble_eq_true rfl) dX4_troublesIfUntied_60 ⟨Nat.zero_le _, Nat.zero_le _⟩ ?_
      refine lv_iload hx hb dX4_troublesIfUntied_63 (lv_at hl 0 rfl) ?_
      refine lv_iload hx hb dX4_troublesIfUntied_65 (lv_at hl 5 rfl) ?_
      refine ro_S (v := .int (mX2_liesThere (mX5_at 4 (v 4) a1) (mX5_at 4 (v 3) a1) (mX5_at 10 (v 6) a2) a4)) (rest := []) (As := [.int (mX5_at 4 (v 4) a1), .int (mX5_at 4 (v 3) a1), .int (mX5_at 10 (v 6) a2), .int a4]) hx hb hml hown hts hl (MX2_liesThere l D q (mX5_at 4 (v 4) a1) (mX5_at 4 (v 3) a1) (mX5_at 10 (v 6) a2) a4) gX4_troublesIfUntied_X2_liesThere rfl kX2_liesThere ⟨Nat.le_of_ble_eq_true rfl, Nat.le_of_ble_eq_true rfl⟩ rfl rfl (hP.sub (ws' := []) [] rfl) (dT (hD.sub (ws' := []) [] (by decide) rfl)) hG rfl rfl (Nat.le_of_ble_eq_true rfl) dX4_troublesIfUntied_67 ⟨Nat.zero_le _, Nat.zero_le _⟩ ?_
      refine lv_if_eq (tgt := 77) hx hb dX4_troublesIfUntied_70 (by decide) (fun c_3 => ?_) (fun c_3 => ?_)
      · rw [if_pos c_3] at hR
        refine lv_iconst (v := 0) hx hb dX4_troublesIfUntied_77 (by decide) ?_
        exact ro_zret hx hb hr hk (Or.inl rfl) hR dX4_troublesIfUntied_78
      · rw [if_neg c_3] at hR
        refine lv_iconst (v := 1) hx hb dX4_troublesIfUntied_73 (by decide) ?_
        refine lv_goto (tgt := 78) hx hb dX4_troublesIfUntied_74 (by decide) ?_
        exact ro_zret hx hb hr hk (Or.inr rfl) hR dX4_troublesIfUntied_78
  · rw [if_pos c_1] at hR
    refine lv_aload_n hx hb dX4_troublesIfUntied_14 rfl (lv_at hl 1 rfl) ?_
    refine lv_iload_n hx hb dX4_troublesIfUntied_15 rfl (lv_at hl 2 rfl) ?_
    refine lv_iload hx hb dX4_troublesIfUntied_16 (lv_at hl 0 rfl) ?_
    refine lv_iload hx hb dX4_troublesIfUntied_18 (lv_at hl 5 rfl) ?_
    refine ro_V (v := .int (mX4_noiseIfUntied v a1 (mX5_at 10 (v 6) a2) a4)) (rest := []) (As := [.int a1, .int (mX5_at 10 (v 6) a2), .int a4]) hx hb hml hown hts hl (MX4_noiseIfUntied l D q h v a1 (mX5_at 10 (v 6) a2) a4) gX4_troublesIfUntied_X4_noiseIfUntied rfl kX4_noiseIfUntied ⟨Nat.le_of_ble_eq_true rfl, Nat.le_of_ble_eq_true rfl⟩ rfl rfl hP (dT hD) hG (ci := 2) rfl rfl rfl rfl (Nat.le_of_ble_eq_true rfl) dX4_troublesIfUntied_20 ⟨Nat.zero_le _, Nat.zero_le _⟩ ?_
    refine lv_aload_n hx hb dX4_troublesIfUntied_23 rfl (lv_at hl 1 rfl) ?_
    refine lv_iload hx hb dX4_troublesIfUntied_24 (lv_at hl 5 rfl) ?_
    refine ro_V (v := .int (mX4_borneNoise v a4)) (rest := [.int (mX4_noiseIfUntied v a1 (mX5_at 10 (v 6) a2) a4)]) (As := [.int a4]) hx hb hml hown hts hl (MX4_borneNoise l D q h v a4) gX4_troublesIfUntied_X4_borneNoise rfl kX4_borneNoise ⟨Nat.le_of_ble_eq_true rfl, Nat.le_of_ble_eq_true rfl⟩ rfl rfl hP (dT hD) hG (ci := 2) rfl rfl rfl rfl (Nat.le_of_ble_eq_true rfl) dX4_troublesIfUntied_26 ⟨Nat.zero_le _, Nat.zero_le _⟩ ?_
    refine lv_icmp_le (tgt := 36) hx hb dX4_troublesIfUntied_29 (by decide) (fun c_4 => ?_) (fun c_4 => ?_)
    · rw [if_pos c_4] at hR
      refine lv_iconst (v := 0) hx hb dX4_troublesIfUntied_36 (by decide) ?_
      exact ro_zret hx hb hr hk (Or.inl rfl) hR dX4_troublesIfUntied_37
    · rw [if_neg c_4] at hR
      refine lv_iconst (v := 1) hx hb dX4_troublesIfUntied_32 (by decide) ?_
      refine lv_goto (tgt := 37) hx hb dX4_troublesIfUntied_33 (by decide) ?_
      exact ro_zret hx hb hr hk (Or.inr rfl) hR dX4_troublesIfUntied_37

def mX4_troubledIfUntied_5 (v : Nat → Nat → Int32) (a1 : Int32) (a2 : Int32) (C : Int32 → Int32 → Int32) : Nat → Int32 → Int32 → Int32
  | 0, x4_5, x3_5 => C x4_5 x3_5
  | n_5 + 1, x4_5, x3_5 => (if (mX4_troublesIfUntied v a1 x4_5 0 a2) = 0 then (if (mX4_troublesIfUntied v a1 x4_5 1 a2) = 0 then (mX4_troubledIfUntied_5 v a1 a2 C n_5 (x4_5 + 1) x3_5) else (mX4_troubledIfUntied_5 v a1 a2 C n_5 (x4_5 + 1) (x3_5 + 1))) else (mX4_troubledIfUntied_5 v a1 a2 C n_5 (x4_5 + 1) (x3_5 + 1)))
def mX4_troubledIfUntied (v : Nat → Nat → Int32) (a1 a2 : Int32) : Int32 := (mX4_troubledIfUntied_5 v a1 a2 (fun x4_5 x3_5 => x3_5) (tr 0 (v 10 0)) 0 0)
theorem kX4_troubledIfUntied : yX4_troubledIfUntied.cls = RX4 ∧ yX4_troubledIfUntied.cls ≠ "java/lang/invoke/MethodHandle" ∧ yX4_troubledIfUntied.cls ≠ "java/lang/invoke/VarHandle" ∧ (parseMethodDescriptor yX4_troubledIfUntied.desc).map (fun d => d.parameters.length) = some 2 := by decide +kernel
theorem iX4_troubledIfUntied_X4 : ∀ w ∈ wsX40, w ∈ wsX4_troubledIfUntied := fun w h => (List.mem_cons_of_mem _ (List.mem_append_right _ h))
set_option maxHeartbeats 4000000 in
set_option maxRecDepth 100000 in
theorem MX4_troubledIfUntied (l : Launch) (D : va_G) (q : Nat → ClassId) (h : Nat → Nat) (v : Nat → Nat → Int32) (a1 a2 : Int32)  : roM l D (tyq q) yX4_troubledIfUntied wsX4_troubledIfUntied ({ frames := 4, cells := 0, slots := 0, locals := 96 } : Room) [.ref (h 0), .int a1, .int a2] (wV q h v) (some (.int (mX4_troubledIfUntied v a1 a2))) := by
  obtain ⟨R, hR⟩ : ∃ z, (mX4_troubledIfUntied v a1 a2) = z := ⟨_, rfl⟩
  rw [hR]
  unfold mX4_troubledIfUntied at hR
  refine roM.of (cc := cX4_troubledIfUntied) (maxL := 6) (ret := (some .int)) (by decide) rfl (Nat.le_of_ble_eq_true rfl) ?_
  intro p e s m below meth c ls hx hb hr hk hml hown hts hP hD hG hl
  have hl : lv_has ls 6 [(0, .ref (h 0)), (1, .int a1), (2, .int a2)] := hl
  refine lv_iconst (v := 0) hx hb dX4_troubledIfUntied_0 (by decide) ?_
  refine lv_istore_n (lv' := [(3, .int 0), (0, .ref (h 0)), (1, .int a1), (2, .int a2)]) hx hb dX4_troubledIfUntied_1 rfl hl (by decide) rfl (fun ls hl => ?_)
  refine lv_iconst (v := 0) hx hb dX4_troubledIfUntied_2 (by decide) ?_
  refine lv_istore (lv' := [(4, .int 0), (3, .int 0), (0, .ref (h 0)), (1, .int a1), (2, .int a2)]) hx hb dX4_troubledIfUntied_3 hl (by decide) rfl (fun ls hl => ?_)
  have key_5 : ∀ (n_5 : Nat) (x4_5 : Int32) (x3_5 : Int32), tr x4_5 (v 10 0) = n_5 → mX4_troubledIfUntied_5 v a1 a2 (fun x4_5 x3_5 => x3_5) n_5 x4_5 x3_5 = R → ∀ ls : Array Slot, lv_has ls 6 [(4, .int x4_5), (3, .int x3_5), (0, .ref (h 0)), (1, .int a1), (2, .int a2)] → W p l e ({ frames := 4, cells := 0, slots := 0, locals := 96 } : Room) s m ([.ref (h 0), .int a1, .int a2] : List Value).toArray below meth c s.heap [] 0 0 (MQ below (roQ (some (.int R))) ([.ref (h 0), .int a1, .int a2] : List Value).toArray s 0 0 (fun _ => False)) (F0 m 5 ls []) := by
    intro n_5
    induction n_5 with
    | zero =>
      intro x4_5 x3_5 hn_5 hR ls hl
      rw [mX4_troubledIfUntied_5] at hR
      refine lv_iload hx hb dX4_troubledIfUntied_5 (lv_at hl 0 rfl) ?_
      refine lv_aload_n hx hb dX4_troubledIfUntied_7 rfl (lv_at hl 2 rfl) ?_
      refine va_get (D := D) (ci := 2) (v := .int (v 10 0)) (C := RX4) (T := TX4) (N := 11) hx hb hts iX4_troubledIfUntied_X4 hown hG.1 hP 0 rfl rfl 7 (by decide) (hts (.fieldLink RX4 37 "MillComplaints$Village" "houses" "I") (List.mem_of_getElem? (i := 1) rfl)) (fun _ h9 => h9) rfl dX4_troubledIfUntied_8 ?_
      refine lv_icmp_ge (tgt := 51) hx hb dX4_troubledIfUntied_11 (by decide) (fun c_1 => ?_) (fun c_1 => (tr0 hn_5 c_1).elim)
      refine lv_iload_n hx hb dX4_troubledIfUntied_51 rfl (lv_at hl 1 rfl) ?_
      exact ro_iret hx hb hr hk hR dX4_troubledIfUntied_52
    | succ n_5 ih_5 =>
      intro x4_5 x3_5 hn_5 hR ls hl
      rw [mX4_troubledIfUntied_5] at hR
      refine lv_iload hx hb dX4_troubledIfUntied_5 (lv_at hl 0 rfl) ?_
      refine lv_aload_n hx hb dX4_troubledIfUntied_7 rfl (lv_at hl 2 rfl) ?_
      refine va_get (D := D) (ci := 2) (v := .int (v 10 0)) (C := RX4) (T := TX4) (N := 11) hx hb hts iX4_troubledIfUntied_X4 hown hG.1 hP 0 rfl rfl 7 (by decide) (hts (.fieldLink RX4 37 "MillComplaints$Village" "houses" "I") (List.mem_of_getElem? (i := 1) rfl)) (fun _ h9 => h9) rfl dX4_troubledIfUntied_8 ?_
      refine lv_icmp_ge (tgt := 51) hx hb dX4_troubledIfUntied_11 (by decide) (fun c_1 => (trS hn_5 c_1).elim) (fun c_1 => ?_)
      refine lv_aload_n hx hb dX4_troubledIfUntied_14 rfl (lv_at hl 2 rfl) ?_
      refine lv_iload_n hx hb dX4_troubledIfUntied_15 rfl (lv_at hl 3 rfl) ?_
      refine lv_iload hx hb dX4_troubledIfUntied_16 (lv_at hl 0 rfl) ?_
      refine lv_iconst (v := 0) hx hb dX4_troubledIfUntied_18 (by decide) ?_
      refine lv_iload_n hx hb dX4_troubledIfUntied_19 rfl (lv_at hl 4 rfl) ?_
      refine ro_V (v := .int (mX4_troublesIfUntied v a1 x4_5 0 a2)) (rest := []) (As := [.int a1, .int x4_5, .int 0, .int a2]) hx hb hml hown hts hl (MX4_troublesIfUntied l D q h v a1 x4_5 0 a2) gX4_troubledIfUntied_X4_troublesIfUntied rfl kX4_troublesIfUntied ⟨Nat.le_of_ble_eq_true rfl, Nat.le_of_ble_eq_true rfl⟩ rfl rfl hP (dT hD) hG (ci := 2) rfl rfl rfl rfl (Nat.le_of_ble_eq_true rfl) dX4_troubledIfUntied_20 ⟨Nat.zero_le _, Nat.zero_le _⟩ ?_
      refine lv_istore (lv' := [(5, .int (mX4_troublesIfUntied v a1 x4_5 0 a2)), (4, .int x4_5), (3, .int x3_5), (0, .ref (h 0)), (1, .int a1), (2, .int a2)]) hx hb dX4_troubledIfUntied_23 hl (by decide) rfl (fun ls hl => ?_)
      refine lv_iload hx hb dX4_troubledIfUntied_25 (lv_at hl 0 rfl) ?_
      refine lv_if_ne (tgt := 42) hx hb dX4_troubledIfUntied_27 (by decide) (fun c_2 => ?_) (fun c_2 => ?_)
      · rw [if_neg c_2] at hR
        refine lv_iinc (v := (x3_5 + 1)) (lv' := [(3, .int (x3_5 + 1)), (5, .int (mX4_troublesIfUntied v a1 x4_5 0 a2)), (4, .int x4_5), (0, .ref (h 0)), (1, .int a1), (2, .int a2)]) hx hb dX4_troubledIfUntied_42 hl (k := 2) rfl rfl (by decide) rfl (fun ls hl => ?_)
        refine lv_iinc (v := (x4_5 + 1)) (lv' := [(4, .int (x4_5 + 1)), (3, .int (x3_5 + 1)), (5, .int (mX4_troublesIfUntied v a1 x4_5 0 a2)), (0, .ref (h 0)), (1, .int a1), (2, .int a2)]) hx hb dX4_troubledIfUntied_45 hl (k := 2) rfl rfl (by decide) rfl (fun ls hl => ?_)
        refine lv_goto (tgt := 5) hx hb dX4_troubledIfUntied_48 (by decide) ?_
        exact ih_5 (x4_5 + 1) (x3_5 + 1) (trN hn_5) hR ls (lv_sub hl [0, 1, 3, 4, 5] rfl)
      · rw [if_pos c_2] at hR
        refine lv_aload_n hx hb dX4_troubledIfUntied_30 rfl (lv_at hl 3 rfl) ?_
        refine lv_iload_n hx hb dX4_troubledIfUntied_31 rfl (lv_at hl 4 rfl) ?_
        refine lv_iload hx hb dX4_troubledIfUntied_32 (lv_at hl 1 rfl) ?_
        refine lv_iconst (v := 1) hx hb dX4_troubledIfUntied_34 (by decide) ?_
        refine lv_iload_n hx hb dX4_troubledIfUntied_35 rfl (lv_at hl 5 rfl) ?_
        refine ro_V (v := .int (mX4_troublesIfUntied v a1 x4_5 1 a2)) (rest := []) (As := [.int a1, .int x4_5, .int 1, .int a2]) hx hb hml hown hts hl (MX4_troublesIfUntied l D q h v a1 x4_5 1 a2) gX4_troubledIfUntied_X4_troublesIfUntied rfl kX4_troublesIfUntied ⟨Nat.le_of_ble_eq_true rfl, Nat.le_of_ble_eq_true rfl⟩ rfl rfl hP (dT hD) hG (ci := 2) rfl rfl rfl rfl (Nat.le_of_ble_eq_true rfl) dX4_troubledIfUntied_36 ⟨Nat.zero_le _, Nat.zero_le _⟩ ?_
        refine lv_if_eq (tgt := 45) hx hb dX4_troubledIfUntied_39 (by decide) (fun c_3 => ?_) (fun c_3 => ?_)
        · rw [if_pos c_3] at hR
          refine lv_iinc (v := (x4_5 + 1)) (lv' := [(4, .int (x4_5 + 1)), (5, .int (mX4_troublesIfUntied v a1 x4_5 0 a2)), (3, .int x3_5), (0, .ref (h 0)), (1, .int a1), (2, .int a2)]) hx hb dX4_troubledIfUntied_45 hl (k := 1) rfl rfl (by decide) rfl (fun ls hl => ?_)
          refine lv_goto (tgt := 5) hx hb dX4_troubledIfUntied_48 (by decide) ?_
          exact ih_5 (x4_5 + 1) x3_5 (trN hn_5) hR ls (lv_sub hl [0, 2, 3, 4, 5] rfl)
        · rw [if_neg c_3] at hR
          refine lv_iinc (v := (x3_5 + 1)) (lv' := [(3, .int (x3_5 + 1)), (5, .int (mX4_troublesIfUntied v a1 x4_5 0 a2)), (4, .int x4_5), (0, .ref (h 0)), (1, .int a1), (2, .int a2)]) hx hb dX4_troubledIfUntied_42 hl (k := 2) rfl rfl (by decide) rfl (fun ls hl => ?_)
          refine lv_iinc (v := (x4_5 + 1)) (lv' := [(4, .int (x4_5 + 1)), (3, .int (x3_5 + 1)), (5, .int (mX4_troublesIfUntied v a1 x4_5 0 a2)), (0, .ref (h 0)), (1, .int a1), (2, .int a2)]) hx hb dX4_troubledIfUntied_45 hl (k := 2) rfl rfl (by decide) rfl (fun ls hl => ?_)
          refine lv_goto (tgt := 5) hx hb dX4_troubledIfUntied_48 (by decide) ?_
          exact ih_5 (x4_5 + 1) (x3_5 + 1) (trN hn_5) hR ls (lv_sub hl [0, 1, 3, 4, 5] rfl)
  exact key_5 _ 0 0 rfl hR ls hl

def mX4_votesForUntying (v : Nat → Nat → Int32) (a1 a2 : Int32) : Int32 := ((v 10 0) - (mX4_troubledIfUntied v a1 a2))
theorem kX4_votesForUntying : yX4_votesForUntying.cls = RX4 ∧ yX4_votesForUntying.cls ≠ "java/lang/invoke/MethodHandle" ∧ yX4_votesForUntying.cls ≠ "java/lang/invoke/VarHandle" ∧ (parseMethodDescriptor yX4_votesForUntying.desc).map (fun d => d.parameters.length) = some 2 := by decide +kernel
theorem iX4_votesForUntying_X4 : ∀ w ∈ wsX40, w ∈ wsX4_votesForUntying := fun w h => (List.mem_cons_of_mem _ (List.mem_append_right _ h))
set_option maxHeartbeats 4000000 in
set_option maxRecDepth 100000 in
theorem MX4_votesForUntying (l : Launch) (D : va_G) (q : Nat → ClassId) (h : Nat → Nat) (v : Nat → Nat → Int32) (a1 a2 : Int32)  : roM l D (tyq q) yX4_votesForUntying wsX4_votesForUntying ({ frames := 5, cells := 0, slots := 0, locals := 121 } : Room) [.ref (h 0), .int a1, .int a2] (wV q h v) (some (.int (mX4_votesForUntying v a1 a2))) := by
  obtain ⟨R, hR⟩ : ∃ z, (mX4_votesForUntying v a1 a2) = z := ⟨_, rfl⟩
  rw [hR]
  unfold mX4_votesForUntying at hR
  refine roM.of (cc := cX4_votesForUntying) (maxL := 3) (ret := (some .int)) (by decide) rfl (Nat.le_of_ble_eq_true rfl) ?_
  intro p e s m below meth c ls hx hb hr hk hml hown hts hP hD hG hl
  have hl : lv_has ls 3 [(0, .ref (h 0)), (1, .int a1), (2, .int a2)] := hl
  refine lv_aload_n hx hb dX4_votesForUntying_0 rfl (lv_at hl 0 rfl) ?_
  refine va_get (D := D) (ci := 2) (v := .int (v 10 0)) (C := RX4) (T := TX4) (N := 11) hx hb hts iX4_votesForUntying_X4 hown hG.1 hP 0 rfl rfl 7 (by decide) (hts (.fieldLink RX4 37 "MillComplaints$Village" "houses" "I") (List.mem_of_getElem? (i := 1) rfl)) (fun _ h9 => h9) rfl dX4_votesForUntying_1 ?_
  refine lv_aload_n hx hb dX4_votesForUntying_4 rfl (lv_at hl 0 rfl) ?_
  refine lv_iload_n hx hb dX4_votesForUntying_5 rfl (lv_at hl 1 rfl) ?_
  refine lv_iload_n hx hb dX4_votesForUntying_6 rfl (lv_at hl 2 rfl) ?_
  refine ro_V (v := .int (mX4_troubledIfUntied v a1 a2)) (rest := [.int (v 10 0)]) (As := [.int a1, .int a2]) hx hb hml hown hts hl (MX4_troubledIfUntied l D q h v a1 a2) gX4_votesForUntying_X4_troubledIfUntied rfl kX4_troubledIfUntied ⟨Nat.le_of_ble_eq_true rfl, Nat.le_of_ble_eq_true rfl⟩ rfl rfl hP (dT hD) hG (ci := 2) rfl rfl rfl rfl (Nat.le_of_ble_eq_true rfl) dX4_votesForUntying_7 ⟨Nat.zero_le _, Nat.zero_le _⟩ ?_
  refine lv_isub hx hb dX4_votesForUntying_10 ?_
  exact ro_iret hx hb hr hk hR dX4_votesForUntying_11

def mX4_troubledHours_17 (v : Nat → Nat → Int32) (a1 : Int32) (a2 : Int32) (x4_5 : Int32) (C : Int32 → Int32 → Int32) : Nat → Int32 → Int32 → Int32
  | 0, x5_17, x3_17 => C x5_17 x3_17
  | n_17 + 1, x5_17, x3_17 => (if (mX4_turns v x4_5 x5_17) = 0 then (mX4_troubledHours_17 v a1 a2 x4_5 C n_17 (x5_17 + 1) x3_17) else (if (mX4_troublesIfUntied v x4_5 a1 a2 x5_17) = 0 then (mX4_troubledHours_17 v a1 a2 x4_5 C n_17 (x5_17 + 1) x3_17) else (mX4_troubledHours_17 v a1 a2 x4_5 C n_17 (x5_17 + 1) (x3_17 ||| (1 <<< (x5_17 &&& 31))))))
def mX4_troubledHours_5 (v : Nat → Nat → Int32) (a1 : Int32) (a2 : Int32) (C : Int32 → Int32 → Int32) : Nat → Int32 → Int32 → Int32
  | 0, x4_5, x3_5 => C x4_5 x3_5
  | n_5 + 1, x4_5, x3_5 => (mX4_troubledHours_17 v a1 a2 x4_5 (fun x5_17 x3_17 => (mX4_troubledHours_5 v a1 a2 C n_5 (x4_5 + 1) x3_17)) (tr 0 24) 0 x3_5)
def mX4_troubledHours (v : Nat → Nat → Int32) (a1 a2 : Int32) : Int32 := (mX4_troubledHours_5 v a1 a2 (fun x4_5 x3_5 => x3_5) (tr 0 (v 9 0)) 0 0)
theorem kX4_troubledHours : yX4_troubledHours.cls = RX4 ∧ yX4_troubledHours.cls ≠ "java/lang/invoke/MethodHandle" ∧ yX4_troubledHours.cls ≠ "java/lang/invoke/VarHandle" ∧ (parseMethodDescriptor yX4_troubledHours.desc).map (fun d => d.parameters.length) = some 2 := by decide +kernel
theorem iX4_troubledHours_X4 : ∀ w ∈ wsX40, w ∈ wsX4_troubledHours := fun w h => (List.mem_cons_of_mem _ (List.mem_append_right _ h))
set_option maxHeartbeats 4000000 in
set_option maxRecDepth 100000 in
theorem MX4_troubledHours (l : Launch) (D : va_G) (q : Nat → ClassId) (h : Nat → Nat) (v : Nat → Nat → Int32) (a1 a2 : Int32)  : roM l D (tyq q) yX4_troubledHours wsX4_troubledHours ({ frames := 4, cells := 0, slots := 0, locals := 96 } : Room) [.ref (h 0), .int a1, .int a2] (wV q h v) (some (.int (mX4_troubledHours v a1 a2))) := by
  obtain ⟨R, hR⟩ : ∃ z, (mX4_troubledHours v a1 a2) = z := ⟨_, rfl⟩
  rw [hR]
  unfold mX4_troubledHours at hR
  refine roM.of (cc := cX4_troubledHours) (maxL := 6) (ret := (some .int)) (by decide) rfl (Nat.le_of_ble_eq_true rfl) ?_
  intro p e s m below meth c ls hx hb hr hk hml hown hts hP hD hG hl
  have hl : lv_has ls 6 [(0, .ref (h 0)), (1, .int a1), (2, .int a2)] := hl
  refine lv_iconst (v := 0) hx hb dX4_troubledHours_0 (by decide) ?_
  refine lv_istore_n (lv' := [(3, .int 0), (0, .ref (h 0)), (1, .int a1), (2, .int a2)]) hx hb dX4_troubledHours_1 rfl hl (by decide) rfl (fun ls hl => ?_)
  refine lv_iconst (v := 0) hx hb dX4_troubledHours_2 (by decide) ?_
  refine lv_istore (lv' := [(4, .int 0), (3, .int 0), (0, .ref (h 0)), (1, .int a1), (2, .int a2)]) hx hb dX4_troubledHours_3 hl (by decide) rfl (fun ls hl => ?_)
  have key_5 : ∀ (n_5 : Nat) (x4_5 : Int32) (x3_5 : Int32), tr x4_5 (v 9 0) = n_5 → mX4_troubledHours_5 v a1 a2 (fun x4_5 x3_5 => x3_5) n_5 x4_5 x3_5 = R → ∀ ls : Array Slot, lv_has ls 6 [(4, .int x4_5), (3, .int x3_5), (0, .ref (h 0)), (1, .int a1), (2, .int a2)] → W p l e ({ frames := 4, cells := 0, slots := 0, locals := 96 } : Room) s m ([.ref (h 0), .int a1, .int a2] : List Value).toArray below meth c s.heap [] 0 0 (MQ below (roQ (some (.int R))) ([.ref (h 0), .int a1, .int a2] : List Value).toArray s 0 0 (fun _ => False)) (F0 m 5 ls []) := by
    intro n_5
    induction n_5 with
    | zero =>
      intro x4_5 x3_5 hn_5 hR ls hl
      rw [mX4_troubledHours_5] at hR
      refine lv_iload hx hb dX4_troubledHours_5 (lv_at hl 0 rfl) ?_
      refine lv_aload_n hx hb dX4_troubledHours_7 rfl (lv_at hl 2 rfl) ?_
      refine va_get (D := D) (ci := 2) (v := .int (v 9 0)) (C := RX4) (T := TX4) (N := 11) hx hb hts iX4_troubledHours_X4 hown hG.1 hP 0 rfl rfl 3 (by decide) (hts (.fieldLink RX4 24 "MillComplaints$Village" "mills" "I") (List.mem_of_getElem? (i := 1) rfl)) (fun _ h9 => h9) rfl dX4_troubledHours_8 ?_
      refine lv_icmp_ge (tgt := 67) hx hb dX4_troubledHours_11 (by decide) (fun c_1 => ?_) (fun c_1 => (tr0 hn_5 c_1).elim)
      refine lv_iload_n hx hb dX4_troubledHours_67 rfl (lv_at hl 1 rfl) ?_
      exact ro_iret hx hb hr hk hR dX4_troubledHours_68
    | succ n_5 ih_5 =>
      intro x4_5 x3_5 hn_5 hR ls hl
      rw [mX4_troubledHours_5] at hR
      refine lv_iload hx hb dX4_troubledHours_5 (lv_at hl 0 rfl) ?_
      refine lv_aload_n hx hb dX4_troubledHours_7 rfl (lv_at hl 2 rfl) ?_
      refine va_get (D := D) (ci := 2) (v := .int (v 9 0)) (C := RX4) (T := TX4) (N := 11) hx hb hts iX4_troubledHours_X4 hown hG.1 hP 0 rfl rfl 3 (by decide) (hts (.fieldLink RX4 24 "MillComplaints$Village" "mills" "I") (List.mem_of_getElem? (i := 1) rfl)) (fun _ h9 => h9) rfl dX4_troubledHours_8 ?_
      refine lv_icmp_ge (tgt := 67) hx hb dX4_troubledHours_11 (by decide) (fun c_1 => (trS hn_5 c_1).elim) (fun c_1 => ?_)
      refine lv_iconst (v := 0) hx hb dX4_troubledHours_14 (by decide) ?_
      refine lv_istore (lv' := [(5, .int 0), (4, .int x4_5), (3, .int x3_5), (0, .ref (h 0)), (1, .int a1), (2, .int a2)]) hx hb dX4_troubledHours_15 hl (by decide) rfl (fun ls hl => ?_)
      have key_17 : ∀ (n_17 : Nat) (x5_17 : Int32) (x3_17 : Int32), tr x5_17 24 = n_17 → mX4_troubledHours_17 v a1 a2 x4_5 (fun x5_17 x3_17 => (mX4_troubledHours_5 v a1 a2 (fun x4_5 x3_5 => x3_5) n_5 (x4_5 + 1) x3_17)) n_17 x5_17 x3_17 = R → ∀ ls : Array Slot, lv_has ls 6 [(5, .int x5_17), (4, .int x4_5), (3, .int x3_17), (0, .ref (h 0)), (1, .int a1), (2, .int a2)] → W p l e ({ frames := 4, cells := 0, slots := 0, locals := 96 } : Room) s m ([.ref (h 0), .int a1, .int a2] : List Value).toArray below meth c s.heap [] 0 0 (MQ below (roQ (some (.int R))) ([.ref (h 0), .int a1, .int a2] : List Value).toArray s 0 0 (fun _ => False)) (F0 m 17 ls []) := by
        intro n_17
        induction n_17 with
        | zero =>
          intro x5_17 x3_17 hn_17 hR ls hl
          rw [mX4_troubledHours_17] at hR
          refine lv_iload hx hb dX4_troubledHours_17 (lv_at hl 0 rfl) ?_
          refine lv_bipush (v := 24) hx hb dX4_troubledHours_19 (by decide) ?_
          refine lv_icmp_ge (tgt := 61) hx hb dX4_troubledHours_21 (by decide) (fun c_2 => ?_) (fun c_2 => (tr0 hn_17 c_2).elim)
          refine lv_iinc (v := (x4_5 + 1)) (lv' := [(4, .int (x4_5 + 1)), (5, .int x5_17), (3, .int x3_17), (0, .ref (h 0)), (1, .int a1), (2, .int a2)]) hx hb dX4_troubledHours_61 hl (k := 1) rfl rfl (by decide) rfl (fun ls hl => ?_)
          refine lv_goto (tgt := 5) hx hb dX4_troubledHours_64 (by decide) ?_
          exact ih_5 (x4_5 + 1) x3_17 (trN hn_5) hR ls (lv_sub hl [0, 2, 3, 4, 5] rfl)
        | succ n_17 ih_17 =>
          intro x5_17 x3_17 hn_17 hR ls hl
          rw [mX4_troubledHours_17] at hR
          refine lv_iload hx hb dX4_troubledHours_17 (lv_at hl 0 rfl) ?_
          refine lv_bipush (v := 24) hx hb dX4_troubledHours_19 (by decide) ?_
          refine lv_icmp_ge (tgt := 61) hx hb dX4_troubledHours_21 (by decide) (fun c_2 => (trS hn_17 c_2).elim) (fun c_2 => ?_)
          refine lv_aload_n hx hb dX4_troubledHours_24 rfl (lv_at hl 3 rfl) ?_
          refine lv_iload hx hb dX4_troubledHours_25 (lv_at hl 1 rfl) ?_
          refine lv_iload hx hb dX4_troubledHours_27 (lv_at hl 0 rfl) ?_
          refine ro_V (v := .int (mX4_turns v x4_5 x5_17)) (rest := []) (As := [.int x4_5, .int x5_17]) hx hb hml hown hts hl (MX4_turns l D q h v x4_5 x5_17) gX4_troubledHours_X4_turns rfl kX4_turns ⟨Nat.le_of_ble_eq_true rfl, Nat.le_of_ble_eq_true rfl⟩ rfl rfl hP (dT hD) hG (ci := 2) rfl rfl rfl rfl (Nat.le_of_ble_eq_true rfl) dX4_troubledHours_29 ⟨Nat.zero_le _, Nat.zero_le _⟩ ?_
          refine lv_if_eq (tgt := 55) hx hb dX4_troubledHours_32 (by decide) (fun c_3 => ?_) (fun c_3 => ?_)
          · rw [if_pos c_3] at hR
            refine lv_iinc (v := (x5_17 + 1)) (lv' := [(5, .int (x5_17 + 1)), (4, .int x4_5), (3, .int x3_17), (0, .ref (h 0)), (1, .int a1), (2, .int a2)]) hx hb dX4_troubledHours_55 hl (k := 0) rfl rfl (by decide) rfl (fun ls hl => ?_)
            refine lv_goto (tgt := 17) hx hb dX4_troubledHours_58 (by decide) ?_
            exact ih_17 (x5_17 + 1) x3_17 (trN hn_17) hR ls (lv_sub hl [0, 1, 2, 3, 4, 5] rfl)
          · rw [if_neg c_3] at hR
            refine lv_aload_n hx hb dX4_troubledHours_35 rfl (lv_at hl 3 rfl) ?_
            refine lv_iload hx hb dX4_troubledHours_36 (lv_at hl 1 rfl) ?_
            refine lv_iload_n hx hb dX4_troubledHours_38 rfl (lv_at hl 4 rfl) ?_
            refine lv_iload_n hx hb dX4_troubledHours_39 rfl (lv_at hl 5 rfl) ?_
            refine lv_iload hx hb dX4_troubledHours_40 (lv_at hl 0 rfl) ?_
            refine ro_V (v := .int (mX4_troublesIfUntied v x4_5 a1 a2 x5_17)) (rest := []) (As := [.int x4_5, .int a1, .int a2, .int x5_17]) hx hb hml hown hts hl (MX4_troublesIfUntied l D q h v x4_5 a1 a2 x5_17) gX4_troubledHours_X4_troublesIfUntied rfl kX4_troublesIfUntied ⟨Nat.le_of_ble_eq_true rfl, Nat.le_of_ble_eq_true rfl⟩ rfl rfl hP (dT hD) hG (ci := 2) rfl rfl rfl rfl (Nat.le_of_ble_eq_true rfl) dX4_troubledHours_42 ⟨Nat.zero_le _, Nat.zero_le _⟩ ?_
            refine lv_if_eq (tgt := 55) hx hb dX4_troubledHours_45 (by decide) (fun c_4 => ?_) (fun c_4 => ?_)
            · rw [if_pos c_4] at hR
              refine lv_iinc (v := (x5_17 + 1)) (lv' := [(5, .int (x5_17 + 1)), (4, .int x4_5), (3, .int x3_17), (0, .ref (h 0)), (1, .int a1), (2, .int a2)]) hx hb dX4_troubledHours_55 hl (k := 0) rfl rfl (by decide) rfl (fun ls hl => ?_)
              refine lv_goto (tgt := 17) hx hb dX4_troubledHours_58 (by decide) ?_
              exact ih_17 (x5_17 + 1) x3_17 (trN hn_17) hR ls (lv_sub hl [0, 1, 2, 3, 4, 5] rfl)
            · rw [if_neg c_4] at hR
              refine lv_iload_n hx hb dX4_troubledHours_48 rfl (lv_at hl 2 rfl) ?_
              refine lv_iconst (v := 1) hx hb dX4_troubledHours_49 (by decide) ?_
              refine lv_iload hx hb dX4_troubledHours_50 (lv_at hl 0 rfl) ?_
              refine lv_ishl hx hb dX4_troubledHours_52 ?_
              refine lv_ior hx hb dX4_troubledHours_53 ?_
              refine lv_istore_n (lv' := [(3, .int (x3_17 ||| (1 <<< (x5_17 &&& 31)))), (5, .int x5_17), (4, .int x4_5), (0, .ref (h 0)), (1, .int a1), (2, .int a2)]) hx hb dX4_troubledHours_54 rfl hl (by decide) rfl (fun ls hl => ?_)
              refine lv_iinc (v := (x5_17 + 1)) (lv' := [(5, .int (x5_17 + 1)), (3, .int (x3_17 ||| (1 <<< (x5_17 &&& 31)))), (4, .int x4_5), (0, .ref (h 0)), (1, .int a1), (2, .int a2)]) hx hb dX4_troubledHours_55 hl (k := 1) rfl rfl (by decide) rfl (fun ls hl => ?_)
              refine lv_goto (tgt := 17) hx hb dX4_troubledHours_58 (by decide) ?_
              exact ih_17 (x5_17 + 1) (x3_17 ||| (1 <<< (x5_17 &&& 31))) (trN hn_17) hR ls (lv_sub hl [0, 2, 1, 3, 4, 5] rfl)
      exact key_17 _ 0 x3_5 rfl hR ls hl
  exact key_5 _ 0 0 rfl hR ls hl

def mX4_placeOf (a1 a2 a3 : Int32) : Int32 := ((((a1 * 4) + a2) * 2) + a3)
theorem kX4_placeOf : yX4_placeOf.cls ≠ "java/lang/invoke/MethodHandle" ∧ yX4_placeOf.cls ≠ "java/lang/invoke/VarHandle" ∧ (parseMethodDescriptor yX4_placeOf.desc).map (fun d => d.parameters.length) = some 3 := by decide +kernel
set_option maxHeartbeats 4000000 in
set_option maxRecDepth 100000 in
theorem MX4_placeOf (l : Launch) (D : va_G) (q : Nat → ClassId)  (a1 a2 a3 : Int32)  : roM l D (tyq q) yX4_placeOf wsX4_placeOf ({ frames := 0, cells := 0, slots := 0, locals := 0 } : Room) [.int a1, .int a2, .int a3] [] (some (.int (mX4_placeOf a1 a2 a3))) := by
  obtain ⟨R, hR⟩ : ∃ z, (mX4_placeOf a1 a2 a3) = z := ⟨_, rfl⟩
  rw [hR]
  unfold mX4_placeOf at hR
  refine roM.of (cc := cX4_placeOf) (maxL := 3) (ret := (some .int)) (by decide) rfl (Nat.le_of_ble_eq_true rfl) ?_
  intro p e s m below meth c ls hx hb hr hk hml hown hts hP hD hG hl
  have hl : lv_has ls 3 [(0, .int a1), (1, .int a2), (2, .int a3)] := hl
  refine lv_iload_n hx hb dX4_placeOf_0 rfl (lv_at hl 0 rfl) ?_
  refine lv_iconst (v := 4) hx hb dX4_placeOf_1 (by decide) ?_
  refine lv_imul hx hb dX4_placeOf_2 ?_
  refine lv_iload_n hx hb dX4_placeOf_3 rfl (lv_at hl 1 rfl) ?_
  refine lv_iadd hx hb dX4_placeOf_4 ?_
  refine lv_iconst (v := 2) hx hb dX4_placeOf_5 (by decide) ?_
  refine lv_imul hx hb dX4_placeOf_6 ?_
  refine lv_iload_n hx hb dX4_placeOf_7 rfl (lv_at hl 2 rfl) ?_
  refine lv_iadd hx hb dX4_placeOf_8 ?_
  exact ro_iret hx hb hr hk hR dX4_placeOf_9

def mX4_stands (v : Nat → Nat → Int32) (a1 a2 a3 a4 : Int32) : Int32 := (if (((mX5_at 80 (v 8) (mX4_placeOf a1 a2 a3)) >>> (a4 &&& 31)) &&& 1) = 0 then 0 else 1)
theorem kX4_stands : yX4_stands.cls = RX4 ∧ yX4_stands.cls ≠ "java/lang/invoke/MethodHandle" ∧ yX4_stands.cls ≠ "java/lang/invoke/VarHandle" ∧ (parseMethodDescriptor yX4_stands.desc).map (fun d => d.parameters.length) = some 4 := by decide +kernel
theorem iX4_stands_X4 : ∀ w ∈ wsX40, w ∈ wsX4_stands := fun w h => (List.mem_cons_of_mem _ (List.mem_append_right _ h))
theorem jnX4_stands_X5_at : Cond.initialized yX5_at.cls ∈ wsX4_stands := (List.mem_of_getElem? (i := 7) rfl)
theorem jsX4_stands_X5_at : Cond.static yX5_at ∈ wsX4_stands := (List.mem_of_getElem? (i := 6) rfl)
set_option maxHeartbeats 4000000 in
set_option maxRecDepth 100000 in
theorem MX4_stands (l : Launch) (D : va_G) (q : Nat → ClassId) (h : Nat → Nat) (v : Nat → Nat → Int32) (a1 a2 a3 a4 : Int32)  : roM l D (tyq q) yX4_stands wsX4_stands ({ frames := 1, cells := 0, slots := 0, locals := 22 } : Room) [.ref (h 0), .int a1, .int a2, .int a3, .int a4] (wV q h v) (some (.int (mX4_stands v a1 a2 a3 a4))) := by
  obtain ⟨R, hR⟩ : ∃ z, (mX4_stands v a1 a2 a3 a4) = z := ⟨_, rfl⟩
  rw [hR]
  unfold mX4_stands at hR
  refine roM.of (cc := cX4_stands) (maxL := 5) (ret := (some .boolean)) (by decide) rfl (Nat.le_of_ble_eq_true rfl) ?_
  intro p e s m below meth c ls hx hb hr hk hml hown hts hP hD hG hl
  have hl : lv_has ls 5 [(0, .ref (h 0)), (1, .int a1), (2, .int a2), (3, .int a3), (4, .int a4)] := hl
  refine lv_aload_n hx hb dX4_stands_0 rfl (lv_at hl 0 rfl) ?_
  refine va_get (D := D) (ci := 2) (v := .ref (h 9)) (C := RX4) (T := TX4) (N := 11) hx hb hts iX4_stands_X4 hown hG.1 hP 0 rfl rfl 10 (by decide) (hts (.fieldLink RX4 46 "MillComplaints$Village" "standing" "[I") (List.mem_of_getElem? (i := 1) rfl)) (fun _ h9 => h9) rfl dX4_stands_1 ?_
  refine lv_iload_n hx hb dX4_stands_4 rfl (lv_at hl 1 rfl) ?_
  refine lv_iload_n hx hb dX4_stands_5 rfl (lv_at hl 2 rfl) ?_
  refine lv_iload_n hx hb dX4_stands_6 rfl (lv_at hl 3 rfl) ?_
  refine ro_S (v := .int (mX4_placeOf a1 a2 a3)) (rest := [.ref (h 9)]) (As := [.int a1, .int a2, .int a3]) hx hb hml hown hts hl (MX4_placeOf l D q a1 a2 a3) gX4_stands_X4_placeOf rfl kX4_placeOf ⟨Nat.le_of_ble_eq_true rfl, Nat.le_of_ble_eq_true rfl⟩ rfl rfl (hP.sub (ws' := []) [] rfl) (dT (hD.sub (ws' := []) [] (by decide) rfl)) hG rfl rfl (Nat.le_of_ble_eq_true rfl) dX4_stands_7 ⟨Nat.zero_le _, Nat.zero_le _⟩ ?_
  refine ro_SN (v := .int (mX5_at 80 (v 8) (mX4_placeOf a1 a2 a3))) (rest := []) (As := [.ref (h 9), .int (mX4_placeOf a1 a2 a3)]) hx hb hml hown hts hl (MX5_at l D q (h 9) 80 (v 8) (mX4_placeOf a1 a2 a3) (by decide)) ggX4_stands_X5_at rfl kX5_at ⟨Nat.le_of_ble_eq_true rfl, Nat.le_of_ble_eq_true rfl⟩ rfl rfl (nwm_1 hG) jnX4_stands_X5_at jsX4_stands_X5_at (hP.sub (ws' := (wR q (h 9) 80 (v 8))) [9] rfl) (dT (hD.sub (ws' := (wR q (h 9) 80 (v 8))) [9] (by decide) rfl)) hG rfl rfl (Nat.le_of_ble_eq_true rfl) dX4_stands_10 ⟨Nat.zero_le _, Nat.zero_le _⟩ ?_
  refine lv_iload hx hb dX4_stands_13 (lv_at hl 4 rfl) ?_
  refine lv_ishr hx hb dX4_stands_15 ?_
  refine lv_iconst (v := 1) hx hb dX4_stands_16 (by decide) ?_
  refine lv_iand hx hb dX4_stands_17 ?_
  refine lv_if_eq (tgt := 25) hx hb dX4_stands_18 (by decide) (fun c_1 => ?_) (fun c_1 => ?_)
  · rw [if_pos c_1] at hR
    refine lv_iconst (v := 0) hx hb dX4_stands_25 (by decide) ?_
    exact ro_zret hx hb hr hk (Or.inl rfl) hR dX4_stands_26
  · rw [if_neg c_1] at hR
    refine lv_iconst (v := 1) hx hb dX4_stands_21 (by decide) ?_
    refine lv_goto (tgt := 26) hx hb dX4_stands_22 (by decide) ?_
    exact ro_zret hx hb hr hk (Or.inr rfl) hR dX4_stands_26

def mX4_letStand (v : Nat → Nat → Int32) (a1 a2 a3 a4 : Int32) : (Nat → Nat → Int32) := (lt (mX5_put 80 (v 8) (mX4_placeOf a1 a2 a3) ((mX5_at 80 (v 8) (mX4_placeOf a1 a2 a3)) ||| (1 <<< (a4 &&& 31)))) (fun q_1 => (lt (setA v 8 q_1) (fun v_2 => v_2))))
theorem kX4_letStand : yX4_letStand.cls = RX4 ∧ yX4_letStand.cls ≠ "java/lang/invoke/MethodHandle" ∧ yX4_letStand.cls ≠ "java/lang/invoke/VarHandle" ∧ (parseMethodDescriptor yX4_letStand.desc).map (fun d => d.parameters.length) = some 4 := by decide +kernel
theorem iX4_letStand_X4 : ∀ w ∈ wsX40, w ∈ wsX4_letStand := fun w h => (List.mem_cons_of_mem _ (List.mem_append_right _ h))
theorem jnX4_letStand_X5_at : Cond.initialized yX5_at.cls ∈ wsX4_letStand := (List.mem_of_getElem? (i := 7) rfl)
theorem jsX4_letStand_X5_at : Cond.static yX5_at ∈ wsX4_letStand := (List.mem_of_getElem? (i := 6) rfl)
theorem jnX4_letStand_X5_put : Cond.initialized yX5_put.cls ∈ wsX4_letStand := (List.mem_of_getElem? (i := 7) rfl)
theorem jsX4_letStand_X5_put : Cond.static yX5_put ∈ wsX4_letStand := (List.mem_of_getElem? (i := 9) rfl)
set_option maxHeartbeats 4000000 in
set_option maxRecDepth 100000 in
theorem MX4_letStand (l : Launch) (D : va_G) (q : Nat → ClassId) (h : Nat → Nat) (v : Nat → Nat → Int32) (a1 a2 a3 a4 : Int32)  : muM l D (tyq q) yX4_letStand wsX4_letStand ({ frames := 1, cells := 0, slots := 0, locals := 22 } : Room) [.ref (h 0), .int a1, .int a2, .int a3, .int a4] (wV q h v) none (wV q h (mX4_letStand v a1 a2 a3 a4)) := by
  obtain ⟨R, hR⟩ : ∃ z, (mX4_letStand v a1 a2 a3 a4) = z := ⟨_, rfl⟩
  rw [hR]
  unfold mX4_letStand at hR
  refine muM.of (cc := cX4_letStand) (maxL := 6) (ret := none) (by decide) rfl (Nat.le_of_ble_eq_true rfl) ?_
  intro p e s m below meth c ls A hx hb hr hk hml hown hts hP hD hG hA hl
  have hS : va_S A s.heap s.heap [] := va_S.rf
  have hl : lv_has ls 6 [(0, .ref (h 0)), (1, .int a1), (2, .int a2), (3, .int a3), (4, .int a4)] := hl
  refine lv_iload_n hx hb dX4_letStand_0 rfl (lv_at hl 1 rfl) ?_
  refine lv_iload_n hx hb dX4_letStand_1 rfl (lv_at hl 2 rfl) ?_
  refine lv_iload_n hx hb dX4_letStand_2 rfl (lv_at hl 3 rfl) ?_
  refine ro_S (v := .int (mX4_placeOf a1 a2 a3)) (rest := []) (As := [.int a1, .int a2, .int a3]) hx hb hml hown hts hl (MX4_placeOf l D q a1 a2 a3) gX4_letStand_X4_placeOf rfl kX4_placeOf ⟨Nat.le_of_ble_eq_true rfl, Nat.le_of_ble_eq_true rfl⟩ rfl rfl (hP.sub (ws' := []) [] rfl) (dT (hD.sub (ws' := []) [] (by decide) rfl)) hG rfl rfl (Nat.le_of_ble_eq_true rfl) dX4_letStand_3 ⟨Nat.zero_le _, Nat.zero_le _⟩ ?_
  refine lv_istore (lv' := [(5, .int (mX4_placeOf a1 a2 a3)), (0, .ref (h 0)), (1, .int a1), (2, .int a2), (3, .int a3), (4, .int a4)]) hx hb dX4_letStand_6 hl (by decide) rfl (fun ls hl => ?_)
  refine lv_aload_n hx hb dX4_letStand_8 rfl (lv_at hl 1 rfl) ?_
  refine va_get (D := D) (ci := 2) (v := .ref (h 9)) (C := RX4) (T := TX4) (N := 11) hx hb hts iX4_letStand_X4 hown hG.1 hP 0 rfl rfl 10 (by decide) (hts (.fieldLink RX4 46 "MillComplaints$Village" "standing" "[I") (List.mem_of_getElem? (i := 1) rfl)) (fun _ h9 => h9) rfl dX4_letStand_9 ?_
  refine lv_iload hx hb dX4_letStand_12 (lv_at hl 0 rfl) ?_
  refine lv_aload_n hx hb dX4_letStand_14 rfl (lv_at hl 1 rfl) ?_
  refine va_get (D := D) (ci := 2) (v := .ref (h 9)) (C := RX4) (T := TX4) (N := 11) hx hb hts iX4_letStand_X4 hown hG.1 hP 0 rfl rfl 10 (by decide) (hts (.fieldLink RX4 46 "MillComplaints$Village" "standing" "[I") (List.mem_of_getElem? (i := 1) rfl)) (fun _ h9 => h9) rfl dX4_letStand_15 ?_
  refine lv_iload hx hb dX4_letStand_18 (lv_at hl 0 rfl) ?_
  refine ro_SN (v := .int (mX5_at 80 (v 8) (mX4_placeOf a1 a2 a3))) (rest := [.int (mX4_placeOf a1 a2 a3), .ref (h 9)]) (As := [.ref (h 9), .int (mX4_placeOf a1 a2 a3)]) hx hb hml hown hts hl (MX5_at l D q (h 9) 80 (v 8) (mX4_placeOf a1 a2 a3) (by decide)) ggX4_letStand_X5_at rfl kX5_at ⟨Nat.le_of_ble_eq_true rfl, Nat.le_of_ble_eq_true rfl⟩ rfl rfl (nwm_1 hG) jnX4_letStand_X5_at jsX4_letStand_X5_at (hP.sub (ws' := (wR q (h 9) 80 (v 8))) [9] rfl) (dT (hD.sub (ws' := (wR q (h 9) 80 (v 8))) [9] (by decide) rfl)) hG rfl rfl (Nat.le_of_ble_eq_true rfl) dX4_letStand_20 ⟨Nat.zero_le _, Nat.zero_le _⟩ ?_
  refine lv_iconst (v := 1) hx hb dX4_letStand_23 (by decide) ?_
  refine lv_iload hx hb dX4_letStand_24 (lv_at hl 5 rfl) ?_
  refine lv_ishl hx hb dX4_letStand_26 ?_
  refine lv_ior hx hb dX4_letStand_27 ?_
  obtain ⟨q_1, eq_1⟩ : ∃ z, z = (mX5_put 80 (v 8) (mX4_placeOf a1 a2 a3) ((mX5_at 80 (v 8) (mX4_placeOf a1 a2 a3)) ||| (1 <<< (a4 &&& 31)))) := ⟨_, rfl⟩
  have hM := MX5_put l D q (h 9) 80 (v 8) (mX4_placeOf a1 a2 a3) ((mX5_at 80 (v 8) (mX4_placeOf a1 a2 a3)) ||| (1 <<< (a4 &&& 31))) (by decide)
  rw [← eq_1] at hM
  replace hR := lt_e hR eq_1
  refine mu_SN (D := D) (ws := (wV q h v)) (ws' := (wV q h (setA v 8 q_1))) (rest := []) (As := [.ref (h 9), .int (mX4_placeOf a1 a2 a3), .int ((mX5_at 80 (v 8) (mX4_placeOf a1 a2 a3)) ||| (1 <<< (a4 &&& 31)))]) hx hb hml hown hts hl hM ggX4_letStand_X5_put rfl kX5_put ⟨Nat.le_of_ble_eq_true rfl, Nat.le_of_ble_eq_true rfl⟩ rfl rfl (nwm_5 hG) jnX4_letStand_X5_put jsX4_letStand_X5_put hP hD hS hG [9] rfl rfl (by decide) [0, 1, 2, 3, 4, 5, 6, 7, 8, 10] rfl (by decide) rfl rfl rfl (Nat.le_of_ble_eq_true rfl) dX4_letStand_28 ⟨Nat.zero_le _, Nat.zero_le _⟩ (fun H locs hP hD hS => ?_)
  obtain ⟨v_2, ev_2⟩ : ∃ z, z = (setA v 8 q_1) := ⟨_, rfl⟩
  rw [← ev_2] at hP hD
  replace hR := lt_e hR ev_2
  subst hR
  exact mu_vret hx hb hr hk hA hS hP dX4_letStand_31

def mX4_dropFor_3 (a1 : Int32) (a2 : Int32) (a3 : Int32) (C : (Nat → Nat → Int32) → Int32 → ((Nat → Nat → Int32))) : Nat → (Nat → Nat → Int32) → Int32 → ((Nat → Nat → Int32))
  | 0, v_3, x4_3 => C v_3 x4_3
  | n_3 + 1, v_3, x4_3 => (lt (mX5_put 80 (v_3 8) (mX4_placeOf a1 a2 x4_3) ((mX5_at 80 (v_3 8) (mX4_placeOf a1 a2 x4_3)) &&& ((1 <<< (a3 &&& 31)) ^^^ (-1)))) (fun q_2 => (lt (setA v_3 8 q_2) (fun v_3 => (mX4_dropFor_3 a1 a2 a3 C n_3 v_3 (x4_3 + 1))))))
def mX4_dropFor (v : Nat → Nat → Int32) (a1 a2 a3 : Int32) : (Nat → Nat → Int32) := (mX4_dropFor_3 a1 a2 a3 (fun v_3 x4_3 => v_3) (tr 0 2) v 0)
theorem kX4_dropFor : yX4_dropFor.cls = RX4 ∧ yX4_dropFor.cls ≠ "java/lang/invoke/MethodHandle" ∧ yX4_dropFor.cls ≠ "java/lang/invoke/VarHandle" ∧ (parseMethodDescriptor yX4_dropFor.desc).map (fun d => d.parameters.length) = some 3 := by decide +kernel
theorem iX4_dropFor_X4 : ∀ w ∈ wsX40, w ∈ wsX4_dropFor := fun w h => (List.mem_cons_of_mem _ (List.mem_append_right _ h))
theorem jnX4_dropFor_X5_at : Cond.initialized yX5_at.cls ∈ wsX4_dropFor := (List.mem_of_getElem? (i := 7) rfl)
theorem jsX4_dropFor_X5_at : Cond.static yX5_at ∈ wsX4_dropFor := (List.mem_of_getElem? (i := 6) rfl)
theorem jnX4_dropFor_X5_put : Cond.initialized yX5_put.cls ∈ wsX4_dropFor := (List.mem_of_getElem? (i := 7) rfl)
theorem jsX4_dropFor_X5_put : Cond.static yX5_put ∈ wsX4_dropFor := (List.mem_of_getElem? (i := 9) rfl)
set_option maxHeartbeats 4000000 in
set_option maxRecDepth 100000 in
theorem MX4_dropFor (l : Launch) (D : va_G) (q : Nat → ClassId) (h : Nat → Nat) (v : Nat → Nat → Int32) (a1 a2 a3 : Int32)  : muM l D (tyq q) yX4_dropFor wsX4_dropFor ({ frames := 1, cells := 0, slots := 0, locals := 22 } : Room) [.ref (h 0), .int a1, .int a2, .int a3] (wV q h v) none (wV q h (mX4_dropFor v a1 a2 a3)) := by
  obtain ⟨R, hR⟩ : ∃ z, (mX4_dropFor v a1 a2 a3) = z := ⟨_, rfl⟩
  rw [hR]
  unfold mX4_dropFor at hR
  refine muM.of (cc := cX4_dropFor) (maxL := 6) (ret := none) (by decide) rfl (Nat.le_of_ble_eq_true rfl) ?_
  intro p e s m below meth c ls A hx hb hr hk hml hown hts hP hD hG hA hl
  have hS : va_S A s.heap s.heap [] := va_S.rf
  have hl : lv_has ls 6 [(0, .ref (h 0)), (1, .int a1), (2, .int a2), (3, .int a3)] := hl
  refine lv_iconst (v := 0) hx hb dX4_dropFor_0 (by decide) ?_
  refine lv_istore (lv' := [(4, .int 0), (0, .ref (h 0)), (1, .int a1), (2, .int a2), (3, .int a3)]) hx hb dX4_dropFor_1 hl (by decide) rfl (fun ls hl => ?_)
  have key_3 : ∀ (n_3 : Nat) (v_3 : Nat → Nat → Int32) (x4_3 : Int32) (H : Heap) (locs : List Loc) , tr x4_3 2 = n_3 → mX4_dropFor_3 a1 a2 a3 (fun v_3 x4_3 => v_3) n_3 v_3 x4_3 = R → va_P D vwCl (wV q h v_3) H → va_D A (wV q h v_3) → va_S A s.heap H locs → ∀ ls : Array Slot, lv_has ls 6 [(4, .int x4_3), (0, .ref (h 0)), (1, .int a1), (2, .int a2), (3, .int a3)] → W p l e ({ frames := 1, cells := 0, slots := 0, locals := 22 } : Room) s m ([.ref (h 0), .int a1, .int a2, .int a3] : List Value).toArray below meth c H locs 0 0 (MQ below (muQ D none (wV q h v) (wV q h R)) ([.ref (h 0), .int a1, .int a2, .int a3] : List Value).toArray s 0 0 (wAt (wV q h v))) (F0 m 3 ls []) := by
    intro n_3
    induction n_3 with
    | zero =>
      intro v_3 x4_3 H locs hn_3 hR hP hD hS ls hl
      rw [mX4_dropFor_3] at hR
      refine lv_iload hx hb dX4_dropFor_3 (lv_at hl 0 rfl) ?_
      refine lv_iconst (v := 2) hx hb dX4_dropFor_5 (by decide) ?_
      refine lv_icmp_ge (tgt := 48) hx hb dX4_dropFor_6 (by decide) (fun c_1 => ?_) (fun c_1 => (tr0 hn_3 c_1).elim)
      subst hR
      exact mu_vret hx hb hr hk hA hS hP dX4_dropFor_48
    | succ n_3 ih_3 =>
      intro v_3 x4_3 H locs hn_3 hR hP hD hS ls hl
      rw [mX4_dropFor_3] at hR
      refine lv_iload hx hb dX4_dropFor_3 (lv_at hl 0 rfl) ?_
      refine lv_iconst (v := 2) hx hb dX4_dropFor_5 (by decide) ?_
      refine lv_icmp_ge (tgt := 48) hx hb dX4_dropFor_6 (by decide) (fun c_1 => (trS hn_3 c_1).elim) (fun c_1 => ?_)
      refine lv_iload_n hx hb dX4_dropFor_9 rfl (lv_at hl 2 rfl) ?_
      refine lv_iload_n hx hb dX4_dropFor_10 rfl (lv_at hl 3 rfl) ?_
      refine lv_iload hx hb dX4_dropFor_11 (lv_at hl 0 rfl) ?_
      refine ro_S (v := .int (mX4_placeOf a1 a2 x4_3)) (rest := []) (As := [.int a1, .int a2, .int x4_3]) hx hb hml hown hts hl (MX4_placeOf l D q a1 a2 x4_3) gX4_dropFor_X4_placeOf rfl kX4_placeOf ⟨Nat.le_of_ble_eq_true rfl, Nat.le_of_ble_eq_true rfl⟩ rfl rfl (hP.sub (ws' := []) [] rfl) (dT (hD.sub (ws' := []) [] (by decide) rfl)) hG rfl rfl (Nat.le_of_ble_eq_true rfl) dX4_dropFor_13 ⟨Nat.zero_le _, Nat.zero_le _⟩ ?_
      refine lv_istore (lv' := [(5, .int (mX4_placeOf a1 a2 x4_3)), (4, .int x4_3), (0, .ref (h 0)), (1, .int a1), (2, .int a2), (3, .int a3)]) hx hb dX4_dropFor_16 hl (by decide) rfl (fun ls hl => ?_)
      refine lv_aload_n hx hb dX4_dropFor_18 rfl (lv_at hl 2 rfl) ?_
      refine va_get (D := D) (ci := 2) (v := .ref (h 9)) (C := RX4) (T := TX4) (N := 11) hx hb hts iX4_dropFor_X4 hown hG.1 hP 0 rfl rfl 10 (by decide) (hts (.fieldLink RX4 46 "MillComplaints$Village" "standing" "[I") (List.mem_of_getElem? (i := 1) rfl)) (fun _ h9 => h9) rfl dX4_dropFor_19 ?_
      refine lv_iload hx hb dX4_dropFor_22 (lv_at hl 0 rfl) ?_
      refine lv_aload_n hx hb dX4_dropFor_24 rfl (lv_at hl 2 rfl) ?_
      refine va_get (D := D) (ci := 2) (v := .ref (h 9)) (C := RX4) (T := TX4) (N := 11) hx hb hts iX4_dropFor_X4 hown hG.1 hP 0 rfl rfl 10 (by decide) (hts (.fieldLink RX4 46 "MillComplaints$Village" "standing" "[I") (List.mem_of_getElem? (i := 1) rfl)) (fun _ h9 => h9) rfl dX4_dropFor_25 ?_
      refine lv_iload hx hb dX4_dropFor_28 (lv_at hl 0 rfl) ?_
      refine ro_SN (v := .int (mX5_at 80 (v_3 8) (mX4_placeOf a1 a2 x4_3))) (rest := [.int (mX4_placeOf a1 a2 x4_3), .ref (h 9)]) (As := [.ref (h 9), .int (mX4_placeOf a1 a2 x4_3)]) hx hb hml hown hts hl (MX5_at l D q (h 9) 80 (v_3 8) (mX4_placeOf a1 a2 x4_3) (by decide)) ggX4_dropFor_X5_at rfl kX5_at ⟨Nat.le_of_ble_eq_true rfl, Nat.le_of_ble_eq_true rfl⟩ rfl rfl (nwm_1 hG) jnX4_dropFor_X5_at jsX4_dropFor_X5_at (hP.sub (ws' := (wR q (h 9) 80 (v_3 8))) [9] rfl) (dT (hD.sub (ws' := (wR q (h 9) 80 (v_3 8))) [9] (by decide) rfl)) hG rfl rfl (Nat.le_of_ble_eq_true rfl) dX4_dropFor_30 ⟨Nat.zero_le _, Nat.zero_le _⟩ ?_
      refine lv_iconst (v := 1) hx hb dX4_dropFor_33 (by decide) ?_
      refine lv_iload_n hx hb dX4_dropFor_34 rfl (lv_at hl 5 rfl) ?_
      refine lv_ishl hx hb dX4_dropFor_35 ?_
      refine lv_iconst (v := (-1)) hx hb dX4_dropFor_36 (by decide) ?_
      refine lv_ixor hx hb dX4_dropFor_37 ?_
      refine lv_iand hx hb dX4_dropFor_38 ?_
      obtain ⟨q_2, eq_2⟩ : ∃ z, z = (mX5_put 80 (v_3 8) (mX4_placeOf a1 a2 x4_3) ((mX5_at 80 (v_3 8) (mX4_placeOf a1 a2 x4_3)) &&& ((1 <<< (a3 &&& 31)) ^^^ (-1)))) := ⟨_, rfl⟩
      have hM := MX5_put l D q (h 9) 80 (v_3 8) (mX4_placeOf a1 a2 x4_3) ((mX5_at 80 (v_3 8) (mX4_placeOf a1 a2 x4_3)) &&& ((1 <<< (a3 &&& 31)) ^^^ (-1))) (by decide)
      rw [← eq_2] at hM
      replace hR := lt_e hR eq_2
      refine mu_SN (D := D) (ws := (wV q h v_3)) (ws' := (wV q h (setA v_3 8 q_2))) (rest := []) (As := [.ref (h 9), .int (mX4_placeOf a1 a2 x4_3), .int ((mX5_at 80 (v_3 8) (mX4_placeOf a1 a2 x4_3)) &&& ((1 <<< (a3 &&& 31)) ^^^ (-1)))]) hx hb hml hown hts hl hM ggX4_dropFor_X5_put rfl kX5_put ⟨Nat.le_of_ble_eq_true rfl, Nat.le_of_ble_eq_true rfl⟩ rfl rfl (nwm_5 hG) jnX4_dropFor_X5_put jsX4_dropFor_X5_put hP hD hS hG [9] rfl rfl (by decide) [0, 1, 2, 3, 4, 5, 6, 7, 8, 10] rfl (by decide) rfl rfl rfl (Nat.le_of_ble_eq_true rfl) dX4_dropFor_39 ⟨Nat.zero_le _, Nat.zero_le _⟩ (fun H locs hP hD hS => ?_)
      obtain ⟨v_3, ev_3⟩ : ∃ z, z = (setA v_3 8 q_2) := ⟨_, rfl⟩
      rw [← ev_3] at hP hD
      replace hR := lt_e hR ev_3
      refine lv_iinc (v := (x4_3 + 1)) (lv' := [(4, .int (x4_3 + 1)), (5, .int (mX4_placeOf a1 a2 x4_3)), (0, .ref (h 0)), (1, .int a1), (2, .int a2), (3, .int a3)]) hx hb dX4_dropFor_42 hl (k := 1) rfl rfl (by decide) rfl (fun ls hl => ?_)
      refine lv_goto (tgt := 3) hx hb dX4_dropFor_45 (by decide) ?_
      exact ih_3 v_3 (x4_3 + 1) _ _ (trN hn_3) hR hP hD hS ls (lv_sub hl [0, 2, 3, 4, 5] rfl)
  exact key_3 _ v 0 _ _ rfl hR hP hD hS ls hl

def mX4_standingFor_6 (v : Nat → Nat → Int32) (a1 : Int32) (a2 : Int32) (a3 : Int32) (C : Int32 → Int32 → Int32) : Nat → Int32 → Int32 → Int32
  | 0, x5_6, x4_6 => C x5_6 x4_6
  | n_6 + 1, x5_6, x4_6 => (if (mX4_stands v a1 a2 x5_6 a3) = 0 then (mX4_standingFor_6 v a1 a2 a3 C n_6 (x5_6 + 1) x4_6) else (mX4_standingFor_6 v a1 a2 a3 C n_6 (x5_6 + 1) (x4_6 + 1)))
def mX4_standingFor (v : Nat → Nat → Int32) (a1 a2 a3 : Int32) : Int32 := (mX4_standingFor_6 v a1 a2 a3 (fun x5_6 x4_6 => x4_6) (tr 0 2) 0 0)
theorem kX4_standingFor : yX4_standingFor.cls = RX4 ∧ yX4_standingFor.cls ≠ "java/lang/invoke/MethodHandle" ∧ yX4_standingFor.cls ≠ "java/lang/invoke/VarHandle" ∧ (parseMethodDescriptor yX4_standingFor.desc).map (fun d => d.parameters.length) = some 3 := by decide +kernel
set_option maxHeartbeats 4000000 in
set_option maxRecDepth 100000 in
theorem MX4_standingFor (l : Launch) (D : va_G) (q : Nat → ClassId) (h : Nat → Nat) (v : Nat → Nat → Int32) (a1 a2 a3 : Int32)  : roM l D (tyq q) yX4_standingFor wsX4_standingFor ({ frames := 2, cells := 0, slots := 0, locals := 46 } : Room) [.ref (h 0), .int a1, .int a2, .int a3] (wV q h v) (some (.int (mX4_standingFor v a1 a2 a3))) := by
  obtain ⟨R, hR⟩ : ∃ z, (mX4_standingFor v a1 a2 a3) = z := ⟨_, rfl⟩
  rw [hR]
  unfold mX4_standingFor at hR
  refine roM.of (cc := cX4_standingFor) (maxL := 6) (ret := (some .int)) (by decide) rfl (Nat.le_of_ble_eq_true rfl) ?_
  intro p e s m below meth c ls hx hb hr hk hml hown hts hP hD hG hl
  have hl : lv_has ls 6 [(0, .ref (h 0)), (1, .int a1), (2, .int a2), (3, .int a3)] := hl
  refine lv_iconst (v := 0) hx hb dX4_standingFor_0 (by decide) ?_
  refine lv_istore (lv' := [(4, .int 0), (0, .ref (h 0)), (1, .int a1), (2, .int a2), (3, .int a3)]) hx hb dX4_standingFor_1 hl (by decide) rfl (fun ls hl => ?_)
  refine lv_iconst (v := 0) hx hb dX4_standingFor_3 (by decide) ?_
  refine lv_istore (lv' := [(5, .int 0), (4, .int 0), (0, .ref (h 0)), (1, .int a1), (2, .int a2), (3, .int a3)]) hx hb dX4_standingFor_4 hl (by decide) rfl (fun ls hl => ?_)
  have key_6 : ∀ (n_6 : Nat) (x5_6 : Int32) (x4_6 : Int32), tr x5_6 2 = n_6 → mX4_standingFor_6 v a1 a2 a3 (fun x5_6 x4_6 => x4_6) n_6 x5_6 x4_6 = R → ∀ ls : Array Slot, lv_has ls 6 [(5, .int x5_6), (4, .int x4_6), (0, .ref (h 0)), (1, .int a1), (2, .int a2), (3, .int a3)] → W p l e ({ frames := 2, cells := 0, slots := 0, locals := 46 } : Room) s m ([.ref (h 0), .int a1, .int a2, .int a3] : List Value).toArray below meth c s.heap [] 0 0 (MQ below (roQ (some (.int R))) ([.ref (h 0), .int a1, .int a2, .int a3] : List Value).toArray s 0 0 (fun _ => False)) (F0 m 6 ls []) := by
    intro n_6
    induction n_6 with
    | zero =>
      intro x5_6 x4_6 hn_6 hR ls hl
      rw [mX4_standingFor_6] at hR
      refine lv_iload hx hb dX4_standingFor_6 (lv_at hl 0 rfl) ?_
      refine lv_iconst (v := 2) hx hb dX4_standingFor_8 (by decide) ?_
      refine lv_icmp_ge (tgt := 33) hx hb dX4_standingFor_9 (by decide) (fun c_1 => ?_) (fun c_1 => (tr0 hn_6 c_1).elim)
      refine lv_iload hx hb dX4_standingFor_33 (lv_at hl 1 rfl) ?_
      exact ro_iret hx hb hr hk hR dX4_standingFor_35
    | succ n_6 ih_6 =>
      intro x5_6 x4_6 hn_6 hR ls hl
      rw [mX4_standingFor_6] at hR
      refine lv_iload hx hb dX4_standingFor_6 (lv_at hl 0 rfl) ?_
      refine lv_iconst (v := 2) hx hb dX4_standingFor_8 (by decide) ?_
      refine lv_icmp_ge (tgt := 33) hx hb dX4_standingFor_9 (by decide) (fun c_1 => (trS hn_6 c_1).elim) (fun c_1 => ?_)
      refine lv_aload_n hx hb dX4_standingFor_12 rfl (lv_at hl 2 rfl) ?_
      refine lv_iload_n hx hb dX4_standingFor_13 rfl (lv_at hl 3 rfl) ?_
      refine lv_iload_n hx hb dX4_standingFor_14 rfl (lv_at hl 4 rfl) ?_
      refine lv_iload hx hb dX4_standingFor_15 (lv_at hl 0 rfl) ?_
      refine lv_iload_n hx hb dX4_standingFor_17 rfl (lv_at hl 5 rfl) ?_
      refine ro_V (v := .int (mX4_stands v a1 a2 x5_6 a3)) (rest := []) (As := [.int a1, .int a2, .int x5_6, .int a3]) hx hb hml hown hts hl (MX4_stands l D q h v a1 a2 x5_6 a3) gX4_standingFor_X4_stands rfl kX4_stands ⟨Nat.le_of_ble_eq_true rfl, Nat.le_of_ble_eq_true rfl⟩ rfl rfl hP (dT hD) hG (ci := 2) rfl rfl rfl rfl (Nat.le_of_ble_eq_true rfl) dX4_standingFor_18 ⟨Nat.zero_le _, Nat.zero_le _⟩ ?_
      refine lv_if_eq (tgt := 27) hx hb dX4_standingFor_21 (by decide) (fun c_2 => ?_) (fun c_2 => ?_)
      · rw [if_pos c_2] at hR
        refine lv_iinc (v := (x5_6 + 1)) (lv' := [(5, .int (x5_6 + 1)), (4, .int x4_6), (0, .ref (h 0)), (1, .int a1), (2, .int a2), (3, .int a3)]) hx hb dX4_standingFor_27 hl (k := 0) rfl rfl (by decide) rfl (fun ls hl => ?_)
        refine lv_goto (tgt := 6) hx hb dX4_standingFor_30 (by decide) ?_
        exact ih_6 (x5_6 + 1) x4_6 (trN hn_6) hR ls (lv_sub hl [0, 1, 2, 3, 4, 5] rfl)
      · rw [if_neg c_2] at hR
        refine lv_iinc (v := (x4_6 + 1)) (lv' := [(4, .int (x4_6 + 1)), (5, .int x5_6), (0, .ref (h 0)), (1, .int a1), (2, .int a2), (3, .int a3)]) hx hb dX4_standingFor_24 hl (k := 1) rfl rfl (by decide) rfl (fun ls hl => ?_)
        refine lv_iinc (v := (x5_6 + 1)) (lv' := [(5, .int (x5_6 + 1)), (4, .int (x4_6 + 1)), (0, .ref (h 0)), (1, .int a1), (2, .int a2), (3, .int a3)]) hx hb dX4_standingFor_27 hl (k := 1) rfl rfl (by decide) rfl (fun ls hl => ?_)
        refine lv_goto (tgt := 6) hx hb dX4_standingFor_30 (by decide) ?_
        exact ih_6 (x5_6 + 1) (x4_6 + 1) (trN hn_6) hR ls (lv_sub hl [0, 1, 2, 3, 4, 5] rfl)
  exact key_6 _ 0 0 rfl hR ls hl

def mX4_standingOfDay_5 (v : Nat → Nat → Int32) (a1 : Int32) (a2 : Int32) (C : Int32 → Int32 → Int32) : Nat → Int32 → Int32 → Int32
  | 0, x4_5, x3_5 => C x4_5 x3_5
  | n_5 + 1, x4_5, x3_5 => (mX4_standingOfDay_5 v a1 a2 C n_5 (x4_5 + 1) (x3_5 + (mJ6_bitCount_0f7a4 (mX5_at 80 (v 8) (mX4_placeOf a1 a2 x4_5)))))
def mX4_standingOfDay (v : Nat → Nat → Int32) (a1 a2 : Int32) : Int32 := (mX4_standingOfDay_5 v a1 a2 (fun x4_5 x3_5 => x3_5) (tr 0 2) 0 0)
theorem kX4_standingOfDay : yX4_standingOfDay.cls = RX4 ∧ yX4_standingOfDay.cls ≠ "java/lang/invoke/MethodHandle" ∧ yX4_standingOfDay.cls ≠ "java/lang/invoke/VarHandle" ∧ (parseMethodDescriptor yX4_standingOfDay.desc).map (fun d => d.parameters.length) = some 2 := by decide +kernel
theorem iX4_standingOfDay_X4 : ∀ w ∈ wsX40, w ∈ wsX4_standingOfDay := fun w h => (List.mem_cons_of_mem _ (List.mem_append_right _ h))
theorem jnX4_standingOfDay_X5_at : Cond.initialized yX5_at.cls ∈ wsX4_standingOfDay := (List.mem_of_getElem? (i := 7) rfl)
theorem jsX4_standingOfDay_X5_at : Cond.static yX5_at ∈ wsX4_standingOfDay := (List.mem_of_getElem? (i := 6) rfl)
set_option maxHeartbeats 4000000 in
set_option maxRecDepth 100000 in
theorem MX4_standingOfDay (l : Launch) (D : va_G) (q : Nat → ClassId) (h : Nat → Nat) (v : Nat → Nat → Int32) (a1 a2 : Int32)  : roM l D (tyq q) yX4_standingOfDay wsX4_standingOfDay ({ frames := 1, cells := 0, slots := 0, locals := 22 } : Room) [.ref (h 0), .int a1, .int a2] (wV q h v) (some (.int (mX4_standingOfDay v a1 a2))) := by
  obtain ⟨R, hR⟩ : ∃ z, (mX4_standingOfDay v a1 a2) = z := ⟨_, rfl⟩
  rw [hR]
  unfold mX4_standingOfDay at hR
  refine roM.of (cc := cX4_standingOfDay) (maxL := 5) (ret := (some .int)) (by decide) rfl (Nat.le_of_ble_eq_true rfl) ?_
  intro p e s m below meth c ls hx hb hr hk hml hown hts hP hD hG hl
  have hl : lv_has ls 5 [(0, .ref (h 0)), (1, .int a1), (2, .int a2)] := hl
  refine lv_iconst (v := 0) hx hb dX4_standingOfDay_0 (by decide) ?_
  refine lv_istore_n (lv' := [(3, .int 0), (0, .ref (h 0)), (1, .int a1), (2, .int a2)]) hx hb dX4_standingOfDay_1 rfl hl (by decide) rfl (fun ls hl => ?_)
  refine lv_iconst (v := 0) hx hb dX4_standingOfDay_2 (by decide) ?_
  refine lv_istore (lv' := [(4, .int 0), (3, .int 0), (0, .ref (h 0)), (1, .int a1), (2, .int a2)]) hx hb dX4_standingOfDay_3 hl (by decide) rfl (fun ls hl => ?_)
  have key_5 : ∀ (n_5 : Nat) (x4_5 : Int32) (x3_5 : Int32), tr x4_5 2 = n_5 → mX4_standingOfDay_5 v a1 a2 (fun x4_5 x3_5 => x3_5) n_5 x4_5 x3_5 = R → ∀ ls : Array Slot, lv_has ls 5 [(4, .int x4_5), (3, .int x3_5), (0, .ref (h 0)), (1, .int a1), (2, .int a2)] → W p l e ({ frames := 1, cells := 0, slots := 0, locals := 22 } : Room) s m ([.ref (h 0), .int a1, .int a2] : List Value).toArray below meth c s.heap [] 0 0 (MQ below (roQ (some (.int R))) ([.ref (h 0), .int a1, .int a2] : List Value).toArray s 0 0 (fun _ => False)) (F0 m 5 ls []) := by
    intro n_5
    induction n_5 with
    | zero =>
      intro x4_5 x3_5 hn_5 hR ls hl
      rw [mX4_standingOfDay_5] at hR
      refine lv_iload hx hb dX4_standingOfDay_5 (lv_at hl 0 rfl) ?_
      refine lv_iconst (v := 2) hx hb dX4_standingOfDay_7 (by decide) ?_
      refine lv_icmp_ge (tgt := 37) hx hb dX4_standingOfDay_8 (by decide) (fun c_1 => ?_) (fun c_1 => (tr0 hn_5 c_1).elim)
      refine lv_iload_n hx hb dX4_standingOfDay_37 rfl (lv_at hl 1 rfl) ?_
      exact ro_iret hx hb hr hk hR dX4_standingOfDay_38
    | succ n_5 ih_5 =>
      intro x4_5 x3_5 hn_5 hR ls hl
      rw [mX4_standingOfDay_5] at hR
      refine lv_iload hx hb dX4_standingOfDay_5 (lv_at hl 0 rfl) ?_
      refine lv_iconst (v := 2) hx hb dX4_standingOfDay_7 (by decide) ?_
      refine lv_icmp_ge (tgt := 37) hx hb dX4_standingOfDay_8 (by decide) (fun c_1 => (trS hn_5 c_1).elim) (fun c_1 => ?_)
      refine lv_iload_n hx hb dX4_standingOfDay_11 rfl (lv_at hl 1 rfl) ?_
      refine lv_aload_n hx hb dX4_standingOfDay_12 rfl (lv_at hl 2 rfl) ?_
      refine va_get (D := D) (ci := 2) (v := .ref (h 9)) (C := RX4) (T := TX4) (N := 11) hx hb hts iX4_standingOfDay_X4 hown hG.1 hP 0 rfl rfl 10 (by decide) (hts (.fieldLink RX4 46 "MillComplaints$Village" "standing" "[I") (List.mem_of_getElem? (i := 1) rfl)) (fun _ h9 => h9) rfl dX4_standingOfDay_13 ?_
      refine lv_iload_n hx hb dX4_standingOfDay_16 rfl (lv_at hl 3 rfl) ?_
      refine lv_iload_n hx hb dX4_standingOfDay_17 rfl (lv_at hl 4 rfl) ?_
      refine lv_iload hx hb dX4_standingOfDay_18 (lv_at hl 0 rfl) ?_
      refine ro_S (v := .int (mX4_placeOf a1 a2 x4_5)) (rest := [.ref (h 9), .int x3_5]) (As := [.int a1, .int a2, .int x4_5]) hx hb hml hown hts hl (MX4_placeOf l D q a1 a2 x4_5) gX4_standingOfDay_X4_placeOf rfl kX4_placeOf ⟨Nat.le_of_ble_eq_true rfl, Nat.le_of_ble_eq_true rfl⟩ rfl rfl (hP.sub (ws' := []) [] rfl) (dT (hD.sub (ws' := []) [] (by decide) rfl)) hG rfl rfl (Nat.le_of_ble_eq_true rfl) dX4_standingOfDay_20 ⟨Nat.zero_le _, Nat.zero_le _⟩ ?_
      refine ro_SN (v := .int (mX5_at 80 (v 8) (mX4_placeOf a1 a2 x4_5))) (rest := [.int x3_5]) (As := [.ref (h 9), .int (mX4_placeOf a1 a2 x4_5)]) hx hb hml hown hts hl (MX5_at l D q (h 9) 80 (v 8) (mX4_placeOf a1 a2 x4_5) (by decide)) ggX4_standingOfDay_X5_at rfl kX5_at ⟨Nat.le_of_ble_eq_true rfl, Nat.le_of_ble_eq_true rfl⟩ rfl rfl (nwm_1 hG) jnX4_standingOfDay_X5_at jsX4_standingOfDay_X5_at (hP.sub (ws' := (wR q (h 9) 80 (v 8))) [9] rfl) (dT (hD.sub (ws' := (wR q (h 9) 80 (v 8))) [9] (by decide) rfl)) hG rfl rfl (Nat.le_of_ble_eq_true rfl) dX4_standingOfDay_23 ⟨Nat.zero_le _, Nat.zero_le _⟩ ?_
      refine ro_S (v := .int (mJ6_bitCount_0f7a4 (mX5_at 80 (v 8) (mX4_placeOf a1 a2 x4_5)))) (rest := [.int x3_5]) (As := [.int (mX5_at 80 (v 8) (mX4_placeOf a1 a2 x4_5))]) hx hb hml hown hts hl (MJ6_bitCount_0f7a4 l D q (mX5_at 80 (v 8) (mX4_placeOf a1 a2 x4_5))) gX4_standingOfDay_J6_bitCount_0f7a4 rfl kJ6_bitCount_0f7a4 ⟨Nat.le_of_ble_eq_true rfl, Nat.le_of_ble_eq_true rfl⟩ rfl rfl (hP.sub (ws' := []) [] rfl) (dT (hD.sub (ws' := []) [] (by decide) rfl)) hG rfl rfl (Nat.le_of_ble_eq_true rfl) dX4_standingOfDay_26 ⟨Nat.zero_le _, Nat.zero_le _⟩ ?_
      refine lv_iadd hx hb dX4_standingOfDay_29 ?_
      refine lv_istore_n (lv' := [(3, .int (x3_5 + (mJ6_bitCount_0f7a4 (mX5_at 80 (v 8) (mX4_placeOf a1 a2 x4_5))))), (4, .int x4_5), (0, .ref (h 0)), (1, .int a1), (2, .int a2)]) hx hb dX4_standingOfDay_30 rfl hl (by decide) rfl (fun ls hl => ?_)
      refine lv_iinc (v := (x4_5 + 1)) (lv' := [(4, .int (x4_5 + 1)), (3, .int (x3_5 + (mJ6_bitCount_0f7a4 (mX5_at 80 (v 8) (mX4_placeOf a1 a2 x4_5))))), (0, .ref (h 0)), (1, .int a1), (2, .int a2)]) hx hb dX4_standingOfDay_31 hl (k := 1) rfl rfl (by decide) rfl (fun ls hl => ?_)
      refine lv_goto (tgt := 5) hx hb dX4_standingOfDay_34 (by decide) ?_
      exact ih_5 (x4_5 + 1) (x3_5 + (mJ6_bitCount_0f7a4 (mX5_at 80 (v 8) (mX4_placeOf a1 a2 x4_5)))) (trN hn_5) hR ls (lv_sub hl [0, 1, 2, 3, 4] rfl)
  exact key_5 _ 0 0 rfl hR ls hl

def mX4_standingOf_4 (v : Nat → Nat → Int32) (a1 : Int32) (C : Int32 → Int32 → Int32) : Nat → Int32 → Int32 → Int32
  | 0, x3_4, x2_4 => C x3_4 x2_4
  | n_4 + 1, x3_4, x2_4 => (mX4_standingOf_4 v a1 C n_4 (x3_4 + 1) (x2_4 + (mX4_standingOfDay v a1 x3_4)))
def mX4_standingOf (v : Nat → Nat → Int32) (a1 : Int32) : Int32 := (mX4_standingOf_4 v a1 (fun x3_4 x2_4 => x2_4) (tr 0 (v 9 0)) 0 0)
theorem kX4_standingOf : yX4_standingOf.cls = RX4 ∧ yX4_standingOf.cls ≠ "java/lang/invoke/MethodHandle" ∧ yX4_standingOf.cls ≠ "java/lang/invoke/VarHandle" ∧ (parseMethodDescriptor yX4_standingOf.desc).map (fun d => d.parameters.length) = some 1 := by decide +kernel
theorem iX4_standingOf_X4 : ∀ w ∈ wsX40, w ∈ wsX4_standingOf := fun w h => (List.mem_cons_of_mem _ (List.mem_append_right _ h))
set_option maxHeartbeats 4000000 in
set_option maxRecDepth 100000 in
theorem MX4_standingOf (l : Launch) (D : va_G) (q : Nat → ClassId) (h : Nat → Nat) (v : Nat → Nat → Int32) (a1 : Int32)  : roM l D (tyq q) yX4_standingOf wsX4_standingOf ({ frames := 2, cells := 0, slots := 0, locals := 46 } : Room) [.ref (h 0), .int a1] (wV q h v) (some (.int (mX4_standingOf v a1))) := by
  obtain ⟨R, hR⟩ : ∃ z, (mX4_standingOf v a1) = z := ⟨_, rfl⟩
  rw [hR]
  unfold mX4_standingOf at hR
  refine roM.of (cc := cX4_standingOf) (maxL := 4) (ret := (some .int)) (by decide) rfl (Nat.le_of_ble_eq_true rfl) ?_
  intro p e s m below meth c ls hx hb hr hk hml hown hts hP hD hG hl
  have hl : lv_has ls 4 [(0, .ref (h 0)), (1, .int a1)] := hl
  refine lv_iconst (v := 0) hx hb dX4_standingOf_0 (by decide) ?_
  refine lv_istore_n (lv' := [(2, .int 0), (0, .ref (h 0)), (1, .int a1)]) hx hb dX4_standingOf_1 rfl hl (by decide) rfl (fun ls hl => ?_)
  refine lv_iconst (v := 0) hx hb dX4_standingOf_2 (by decide) ?_
  refine lv_istore_n (lv' := [(3, .int 0), (2, .int 0), (0, .ref (h 0)), (1, .int a1)]) hx hb dX4_standingOf_3 rfl hl (by decide) rfl (fun ls hl => ?_)
  have key_4 : ∀ (n_4 : Nat) (x3_4 : Int32) (x2_4 : Int32), tr x3_4 (v 9 0) = n_4 → mX4_standingOf_4 v a1 (fun x3_4 x2_4 => x2_4) n_4 x3_4 x2_4 = R → ∀ ls : Array Slot, lv_has ls 4 [(3, .int x3_4), (2, .int x2_4), (0, .ref (h 0)), (1, .int a1)] → W p l e ({ frames := 2, cells := 0, slots := 0, locals := 46 } : Room) s m ([.ref (h 0), .int a1] : List Value).toArray below meth c s.heap [] 0 0 (MQ below (roQ (some (.int R))) ([.ref (h 0), .int a1] : List Value).toArray s 0 0 (fun _ => False)) (F0 m 4 ls []) := by
    intro n_4
    induction n_4 with
    | zero =>
      intro x3_4 x2_4 hn_4 hR ls hl
      rw [mX4_standingOf_4] at hR
      refine lv_iload_n hx hb dX4_standingOf_4 rfl (lv_at hl 0 rfl) ?_
      refine lv_aload_n hx hb dX4_standingOf_5 rfl (lv_at hl 2 rfl) ?_
      refine va_get (D := D) (ci := 2) (v := .int (v 9 0)) (C := RX4) (T := TX4) (N := 11) hx hb hts iX4_standingOf_X4 hown hG.1 hP 0 rfl rfl 3 (by decide) (hts (.fieldLink RX4 24 "MillComplaints$Village" "mills" "I") (List.mem_of_getElem? (i := 1) rfl)) (fun _ h9 => h9) rfl dX4_standingOf_6 ?_
      refine lv_icmp_ge (tgt := 27) hx hb dX4_standingOf_9 (by decide) (fun c_1 => ?_) (fun c_1 => (tr0 hn_4 c_1).elim)
      refine lv_iload_n hx hb dX4_standingOf_27 rfl (lv_at hl 1 rfl) ?_
      exact ro_iret hx hb hr hk hR dX4_standingOf_28
    | succ n_4 ih_4 =>
      intro x3_4 x2_4 hn_4 hR ls hl
      rw [mX4_standingOf_4] at hR
      refine lv_iload_n hx hb dX4_standingOf_4 rfl (lv_at hl 0 rfl) ?_
      refine lv_aload_n hx hb dX4_standingOf_5 rfl (lv_at hl 2 rfl) ?_
      refine va_get (D := D) (ci := 2) (v := .int (v 9 0)) (C := RX4) (T := TX4) (N := 11) hx hb hts iX4_standingOf_X4 hown hG.1 hP 0 rfl rfl 3 (by decide) (hts (.fieldLink RX4 24 "MillComplaints$Village" "mills" "I") (List.mem_of_getElem? (i := 1) rfl)) (fun _ h9 => h9) rfl dX4_standingOf_6 ?_
      refine lv_icmp_ge (tgt := 27) hx hb dX4_standingOf_9 (by decide) (fun c_1 => (trS hn_4 c_1).elim) (fun c_1 => ?_)
      refine lv_iload_n hx hb dX4_standingOf_12 rfl (lv_at hl 1 rfl) ?_
      refine lv_aload_n hx hb dX4_standingOf_13 rfl (lv_at hl 2 rfl) ?_
      refine lv_iload_n hx hb dX4_standingOf_14 rfl (lv_at hl 3 rfl) ?_
      refine lv_iload_n hx hb dX4_standingOf_15 rfl (lv_at hl 0 rfl) ?_
      refine ro_V (v := .int (mX4_standingOfDay v a1 x3_4)) (rest := [.int x2_4]) (As := [.int a1, .int x3_4]) hx hb hml hown hts hl (MX4_standingOfDay l D q h v a1 x3_4) gX4_standingOf_X4_standingOfDay rfl kX4_standingOfDay ⟨Nat.le_of_ble_eq_true rfl, Nat.le_of_ble_eq_true rfl⟩ rfl rfl hP (dT hD) hG (ci := 2) rfl rfl rfl rfl (Nat.le_of_ble_eq_true rfl) dX4_standingOf_16 ⟨Nat.zero_le _, Nat.zero_le _⟩ ?_
      refine lv_iadd hx hb dX4_standingOf_19 ?_
      refine lv_istore_n (lv' := [(2, .int (x2_4 + (mX4_standingOfDay v a1 x3_4))), (3, .int x3_4), (0, .ref (h 0)), (1, .int a1)]) hx hb dX4_standingOf_20 rfl hl (by decide) rfl (fun ls hl => ?_)
      refine lv_iinc (v := (x3_4 + 1)) (lv' := [(3, .int (x3_4 + 1)), (2, .int (x2_4 + (mX4_standingOfDay v a1 x3_4))), (0, .ref (h 0)), (1, .int a1)]) hx hb dX4_standingOf_21 hl (k := 1) rfl rfl (by decide) rfl (fun ls hl => ?_)
      refine lv_goto (tgt := 4) hx hb dX4_standingOf_24 (by decide) ?_
      exact ih_4 (x3_4 + 1) (x2_4 + (mX4_standingOfDay v a1 x3_4)) (trN hn_4) hR ls (lv_sub hl [0, 1, 2, 3] rfl)
  exact key_4 _ 0 0 rfl hR ls hl

def mX4_points_5 (v : Nat → Nat → Int32) (a1 : Int32) (a2 : Int32) (C : Int32 → Int32 → Int32) : Nat → Int32 → Int32 → Int32
  | 0, x4_5, x3_5 => C x4_5 x3_5
  | n_5 + 1, x4_5, x3_5 => (mX4_points_5 v a1 a2 C n_5 (x4_5 + 1) (x3_5 + (mX4_standingFor v x4_5 a1 a2)))
def mX4_points (v : Nat → Nat → Int32) (a1 a2 : Int32) : Int32 := (mX4_points_5 v a1 a2 (fun x4_5 x3_5 => x3_5) (tr 0 (v 10 0)) 0 0)
theorem kX4_points : yX4_points.cls = RX4 ∧ yX4_points.cls ≠ "java/lang/invoke/MethodHandle" ∧ yX4_points.cls ≠ "java/lang/invoke/VarHandle" ∧ (parseMethodDescriptor yX4_points.desc).map (fun d => d.parameters.length) = some 2 := by decide +kernel
theorem iX4_points_X4 : ∀ w ∈ wsX40, w ∈ wsX4_points := fun w h => (List.mem_cons_of_mem _ (List.mem_append_right _ h))
set_option maxHeartbeats 4000000 in
set_option maxRecDepth 100000 in
theorem MX4_points (l : Launch) (D : va_G) (q : Nat → ClassId) (h : Nat → Nat) (v : Nat → Nat → Int32) (a1 a2 : Int32)  : roM l D (tyq q) yX4_points wsX4_points ({ frames := 3, cells := 0, slots := 0, locals := 71 } : Room) [.ref (h 0), .int a1, .int a2] (wV q h v) (some (.int (mX4_points v a1 a2))) := by
  obtain ⟨R, hR⟩ : ∃ z, (mX4_points v a1 a2) = z := ⟨_, rfl⟩
  rw [hR]
  unfold mX4_points at hR
  refine roM.of (cc := cX4_points) (maxL := 5) (ret := (some .int)) (by decide) rfl (Nat.le_of_ble_eq_true rfl) ?_
  intro p e s m below meth c ls hx hb hr hk hml hown hts hP hD hG hl
  have hl : lv_has ls 5 [(0, .ref (h 0)), (1, .int a1), (2, .int a2)] := hl
  refine lv_iconst (v := 0) hx hb dX4_points_0 (by decide) ?_
  refine lv_istore_n (lv' := [(3, .int 0), (0, .ref (h 0)), (1, .int a1), (2, .int a2)]) hx hb dX4_points_1 rfl hl (by decide) rfl (fun ls hl => ?_)
  refine lv_iconst (v := 0) hx hb dX4_points_2 (by decide) ?_
  refine lv_istore (lv' := [(4, .int 0), (3, .int 0), (0, .ref (h 0)), (1, .int a1), (2, .int a2)]) hx hb dX4_points_3 hl (by decide) rfl (fun ls hl => ?_)
  have key_5 : ∀ (n_5 : Nat) (x4_5 : Int32) (x3_5 : Int32), tr x4_5 (v 10 0) = n_5 → mX4_points_5 v a1 a2 (fun x4_5 x3_5 => x3_5) n_5 x4_5 x3_5 = R → ∀ ls : Array Slot, lv_has ls 5 [(4, .int x4_5), (3, .int x3_5), (0, .ref (h 0)), (1, .int a1), (2, .int a2)] → W p l e ({ frames := 3, cells := 0, slots := 0, locals := 71 } : Room) s m ([.ref (h 0), .int a1, .int a2] : List Value).toArray below meth c s.heap [] 0 0 (MQ below (roQ (some (.int R))) ([.ref (h 0), .int a1, .int a2] : List Value).toArray s 0 0 (fun _ => False)) (F0 m 5 ls []) := by
    intro n_5
    induction n_5 with
    | zero =>
      intro x4_5 x3_5 hn_5 hR ls hl
      rw [mX4_points_5] at hR
      refine lv_iload hx hb dX4_points_5 (lv_at hl 0 rfl) ?_
      refine lv_aload_n hx hb dX4_points_7 rfl (lv_at hl 2 rfl) ?_
      refine va_get (D := D) (ci := 2) (v := .int (v 10 0)) (C := RX4) (T := TX4) (N := 11) hx hb hts iX4_points_X4 hown hG.1 hP 0 rfl rfl 7 (by decide) (hts (.fieldLink RX4 37 "MillComplaints$Village" "houses" "I") (List.mem_of_getElem? (i := 1) rfl)) (fun _ h9 => h9) rfl dX4_points_8 ?_
      refine lv_icmp_ge (tgt := 31) hx hb dX4_points_11 (by decide) (fun c_1 => ?_) (fun c_1 => (tr0 hn_5 c_1).elim)
      refine lv_iload_n hx hb dX4_points_31 rfl (lv_at hl 1 rfl) ?_
      exact ro_iret hx hb hr hk hR dX4_points_32
    | succ n_5 ih_5 =>
      intro x4_5 x3_5 hn_5 hR ls hl
      rw [mX4_points_5] at hR
      refine lv_iload hx hb dX4_points_5 (lv_at hl 0 rfl) ?_
      refine lv_aload_n hx hb dX4_points_7 rfl (lv_at hl 2 rfl) ?_
      refine va_get (D := D) (ci := 2) (v := .int (v 10 0)) (C := RX4) (T := TX4) (N := 11) hx hb hts iX4_points_X4 hown hG.1 hP 0 rfl rfl 7 (by decide) (hts (.fieldLink RX4 37 "MillComplaints$Village" "houses" "I") (List.mem_of_getElem? (i := 1) rfl)) (fun _ h9 => h9) rfl dX4_points_8 ?_
      refine lv_icmp_ge (tgt := 31) hx hb dX4_points_11 (by decide) (fun c_1 => (trS hn_5 c_1).elim) (fun c_1 => ?_)
      refine lv_iload_n hx hb dX4_points_14 rfl (lv_at hl 1 rfl) ?_
      refine lv_aload_n hx hb dX4_points_15 rfl (lv_at hl 2 rfl) ?_
      refine lv_iload hx hb dX4_points_16 (lv_at hl 0 rfl) ?_
      refine lv_iload_n hx hb dX4_points_18 rfl (lv_at hl 3 rfl) ?_
      refine lv_iload_n hx hb dX4_points_19 rfl (lv_at hl 4 rfl) ?_
      refine ro_V (v := .int (mX4_standingFor v x4_5 a1 a2)) (rest := [.int x3_5]) (As := [.int x4_5, .int a1, .int a2]) hx hb hml hown hts hl (MX4_standingFor l D q h v x4_5 a1 a2) gX4_points_X4_standingFor rfl kX4_standingFor ⟨Nat.le_of_ble_eq_true rfl, Nat.le_of_ble_eq_true rfl⟩ rfl rfl hP (dT hD) hG (ci := 2) rfl rfl rfl rfl (Nat.le_of_ble_eq_true rfl) dX4_points_20 ⟨Nat.zero_le _, Nat.zero_le _⟩ ?_
      refine lv_iadd hx hb dX4_points_23 ?_
      refine lv_istore_n (lv' := [(3, .int (x3_5 + (mX4_standingFor v x4_5 a1 a2))), (4, .int x4_5), (0, .ref (h 0)), (1, .int a1), (2, .int a2)]) hx hb dX4_points_24 rfl hl (by decide) rfl (fun ls hl => ?_)
      refine lv_iinc (v := (x4_5 + 1)) (lv' := [(4, .int (x4_5 + 1)), (3, .int (x3_5 + (mX4_standingFor v x4_5 a1 a2))), (0, .ref (h 0)), (1, .int a1), (2, .int a2)]) hx hb dX4_points_25 hl (k := 1) rfl rfl (by decide) rfl (fun ls hl => ?_)
      refine lv_goto (tgt := 5) hx hb dX4_points_28 (by decide) ?_
      exact ih_5 (x4_5 + 1) (x3_5 + (mX4_standingFor v x4_5 a1 a2)) (trN hn_5) hR ls (lv_sub hl [0, 1, 2, 3, 4] rfl)
  exact key_5 _ 0 0 rfl hR ls hl

def mX4_pointsOfDay_4 (v : Nat → Nat → Int32) (a1 : Int32) (C : Int32 → Int32 → Int32) : Nat → Int32 → Int32 → Int32
  | 0, x3_4, x2_4 => C x3_4 x2_4
  | n_4 + 1, x3_4, x2_4 => (mX4_pointsOfDay_4 v a1 C n_4 (x3_4 + 1) (x2_4 + (mX4_standingOfDay v x3_4 a1)))
def mX4_pointsOfDay (v : Nat → Nat → Int32) (a1 : Int32) : Int32 := (mX4_pointsOfDay_4 v a1 (fun x3_4 x2_4 => x2_4) (tr 0 (v 10 0)) 0 0)
theorem kX4_pointsOfDay : yX4_pointsOfDay.cls = RX4 ∧ yX4_pointsOfDay.cls ≠ "java/lang/invoke/MethodHandle" ∧ yX4_pointsOfDay.cls ≠ "java/lang/invoke/VarHandle" ∧ (parseMethodDescriptor yX4_pointsOfDay.desc).map (fun d => d.parameters.length) = some 1 := by decide +kernel
theorem iX4_pointsOfDay_X4 : ∀ w ∈ wsX40, w ∈ wsX4_pointsOfDay := fun w h => (List.mem_cons_of_mem _ (List.mem_append_right _ h))
set_option maxHeartbeats 4000000 in
set_option maxRecDepth 100000 in
theorem MX4_pointsOfDay (l : Launch) (D : va_G) (q : Nat → ClassId) (h : Nat → Nat) (v : Nat → Nat → Int32) (a1 : Int32)  : roM l D (tyq q) yX4_pointsOfDay wsX4_pointsOfDay ({ frames := 2, cells := 0, slots := 0, locals := 46 } : Room) [.ref (h 0), .int a1] (wV q h v) (some (.int (mX4_pointsOfDay v a1))) := by
  obtain ⟨R, hR⟩ : ∃ z, (mX4_pointsOfDay v a1) = z := ⟨_, rfl⟩
  rw [hR]
  unfold mX4_pointsOfDay at hR
  refine roM.of (cc := cX4_pointsOfDay) (maxL := 4) (ret := (some .int)) (by decide) rfl (Nat.le_of_ble_eq_true rfl) ?_
  intro p e s m below meth c ls hx hb hr hk hml hown hts hP hD hG hl
  have hl : lv_has ls 4 [(0, .ref (h 0)), (1, .int a1)] := hl
  refine lv_iconst (v := 0) hx hb dX4_pointsOfDay_0 (by decide) ?_
  refine lv_istore_n (lv' := [(2, .int 0), (0, .ref (h 0)), (1, .int a1)]) hx hb dX4_pointsOfDay_1 rfl hl (by decide) rfl (fun ls hl => ?_)
  refine lv_iconst (v := 0) hx hb dX4_pointsOfDay_2 (by decide) ?_
  refine lv_istore_n (lv' := [(3, .int 0), (2, .int 0), (0, .ref (h 0)), (1, .int a1)]) hx hb dX4_pointsOfDay_3 rfl hl (by decide) rfl (fun ls hl => ?_)
  have key_4 : ∀ (n_4 : Nat) (x3_4 : Int32) (x2_4 : Int32), tr x3_4 (v 10 0) = n_4 → mX4_pointsOfDay_4 v a1 (fun x3_4 x2_4 => x2_4) n_4 x3_4 x2_4 = R → ∀ ls : Array Slot, lv_has ls 4 [(3, .int x3_4), (2, .int x2_4), (0, .ref (h 0)), (1, .int a1)] → W p l e ({ frames := 2, cells := 0, slots := 0, locals := 46 } : Room) s m ([.ref (h 0), .int a1] : List Value).toArray below meth c s.heap [] 0 0 (MQ below (roQ (some (.int R))) ([.ref (h 0), .int a1] : List Value).toArray s 0 0 (fun _ => False)) (F0 m 4 ls []) := by
    intro n_4
    induction n_4 with
    | zero =>
      intro x3_4 x2_4 hn_4 hR ls hl
      rw [mX4_pointsOfDay_4] at hR
      refine lv_iload_n hx hb dX4_pointsOfDay_4 rfl (lv_at hl 0 rfl) ?_
      refine lv_aload_n hx hb dX4_pointsOfDay_5 rfl (lv_at hl 2 rfl) ?_
      refine va_get (D := D) (ci := 2) (v := .int (v 10 0)) (C := RX4) (T := TX4) (N := 11) hx hb hts iX4_pointsOfDay_X4 hown hG.1 hP 0 rfl rfl 7 (by decide) (hts (.fieldLink RX4 37 "MillComplaints$Village" "houses" "I") (List.mem_of_getElem? (i := 1) rfl)) (fun _ h9 => h9) rfl dX4_pointsOfDay_6 ?_
      refine lv_icmp_ge (tgt := 27) hx hb dX4_pointsOfDay_9 (by decide) (fun c_1 => ?_) (fun c_1 => (tr0 hn_4 c_1).elim)
      refine lv_iload_n hx hb dX4_pointsOfDay_27 rfl (lv_at hl 1 rfl) ?_
      exact ro_iret hx hb hr hk hR dX4_pointsOfDay_28
    | succ n_4 ih_4 =>
      intro x3_4 x2_4 hn_4 hR ls hl
      rw [mX4_pointsOfDay_4] at hR
      refine lv_iload_n hx hb dX4_pointsOfDay_4 rfl (lv_at hl 0 rfl) ?_
      refine lv_aload_n hx hb dX4_pointsOfDay_5 rfl (lv_at hl 2 rfl) ?_
      refine va_get (D := D) (ci := 2) (v := .int (v 10 0)) (C := RX4) (T := TX4) (N := 11) hx hb hts iX4_pointsOfDay_X4 hown hG.1 hP 0 rfl rfl 7 (by decide) (hts (.fieldLink RX4 37 "MillComplaints$Village" "houses" "I") (List.mem_of_getElem? (i := 1) rfl)) (fun _ h9 => h9) rfl dX4_pointsOfDay_6 ?_
      refine lv_icmp_ge (tgt := 27) hx hb dX4_pointsOfDay_9 (by decide) (fun c_1 => (trS hn_4 c_1).elim) (fun c_1 => ?_)
      refine lv_iload_n hx hb dX4_pointsOfDay_12 rfl (lv_at hl 1 rfl) ?_
      refine lv_aload_n hx hb dX4_pointsOfDay_13 rfl (lv_at hl 2 rfl) ?_
      refine lv_iload_n hx hb dX4_pointsOfDay_14 rfl (lv_at hl 0 rfl) ?_
      refine lv_iload_n hx hb dX4_pointsOfDay_15 rfl (lv_at hl 3 rfl) ?_
      refine ro_V (v := .int (mX4_standingOfDay v x3_4 a1)) (rest := [.int x2_4]) (As := [.int x3_4, .int a1]) hx hb hml hown hts hl (MX4_standingOfDay l D q h v x3_4 a1) gX4_pointsOfDay_X4_standingOfDay rfl kX4_standingOfDay ⟨Nat.le_of_ble_eq_true rfl, Nat.le_of_ble_eq_true rfl⟩ rfl rfl hP (dT hD) hG (ci := 2) rfl rfl rfl rfl (Nat.le_of_ble_eq_true rfl) dX4_pointsOfDay_16 ⟨Nat.zero_le _, Nat.zero_le _⟩ ?_
      refine lv_iadd hx hb dX4_pointsOfDay_19 ?_
      refine lv_istore_n (lv' := [(2, .int (x2_4 + (mX4_standingOfDay v x3_4 a1))), (3, .int x3_4), (0, .ref (h 0)), (1, .int a1)]) hx hb dX4_pointsOfDay_20 rfl hl (by decide) rfl (fun ls hl => ?_)
      refine lv_iinc (v := (x3_4 + 1)) (lv' := [(3, .int (x3_4 + 1)), (2, .int (x2_4 + (mX4_standingOfDay v x3_4 a1))), (0, .ref (h 0)), (1, .int a1)]) hx hb dX4_pointsOfDay_21 hl (k := 1) rfl rfl (by decide) rfl (fun ls hl => ?_)
      refine lv_goto (tgt := 4) hx hb dX4_pointsOfDay_24 (by decide) ?_
      exact ih_4 (x3_4 + 1) (x2_4 + (mX4_standingOfDay v x3_4 a1)) (trN hn_4) hR ls (lv_sub hl [0, 1, 2, 3] rfl)
  exact key_4 _ 0 0 rfl hR ls hl

def mX4_isBarred (v : Nat → Nat → Int32) (a1 : Int32) : Int32 := (if (mX5_at 10 (v 7) a1) < 3 then 0 else 1)
theorem kX4_isBarred : yX4_isBarred.cls = RX4 ∧ yX4_isBarred.cls ≠ "java/lang/invoke/MethodHandle" ∧ yX4_isBarred.cls ≠ "java/lang/invoke/VarHandle" ∧ (parseMethodDescriptor yX4_isBarred.desc).map (fun d => d.parameters.length) = some 1 := by decide +kernel
theorem iX4_isBarred_X4 : ∀ w ∈ wsX40, w ∈ wsX4_isBarred := fun w h => (List.mem_cons_of_mem _ (List.mem_append_right _ h))
theorem jnX4_isBarred_X5_at : Cond.initialized yX5_at.cls ∈ wsX4_isBarred := (List.mem_of_getElem? (i := 3) rfl)
theorem jsX4_isBarred_X5_at : Cond.static yX5_at ∈ wsX4_isBarred := (List.mem_of_getElem? (i := 2) rfl)
set_option maxHeartbeats 4000000 in
set_option maxRecDepth 100000 in
theorem MX4_isBarred (l : Launch) (D : va_G) (q : Nat → ClassId) (h : Nat → Nat) (v : Nat → Nat → Int32) (a1 : Int32)  : roM l D (tyq q) yX4_isBarred wsX4_isBarred ({ frames := 1, cells := 0, slots := 0, locals := 21 } : Room) [.ref (h 0), .int a1] (wV q h v) (some (.int (mX4_isBarred v a1))) := by
  obtain ⟨R, hR⟩ : ∃ z, (mX4_isBarred v a1) = z := ⟨_, rfl⟩
  rw [hR]
  unfold mX4_isBarred at hR
  refine roM.of (cc := cX4_isBarred) (maxL := 2) (ret := (some .boolean)) (by decide) rfl (Nat.le_of_ble_eq_true rfl) ?_
  intro p e s m below meth c ls hx hb hr hk hml hown hts hP hD hG hl
  have hl : lv_has ls 2 [(0, .ref (h 0)), (1, .int a1)] := hl
  refine lv_aload_n hx hb dX4_isBarred_0 rfl (lv_at hl 0 rfl) ?_
  refine va_get (D := D) (ci := 2) (v := .ref (h 8)) (C := RX4) (T := TX4) (N := 11) hx hb hts iX4_isBarred_X4 hown hG.1 hP 0 rfl rfl 9 (by decide) (hts (.fieldLink RX4 43 "MillComplaints$Village" "vain" "[I") (List.mem_of_getElem? (i := 1) rfl)) (fun _ h9 => h9) rfl dX4_isBarred_1 ?_
  refine lv_iload_n hx hb dX4_isBarred_4 rfl (lv_at hl 1 rfl) ?_
  refine ro_SN (v := .int (mX5_at 10 (v 7) a1)) (rest := []) (As := [.ref (h 8), .int a1]) hx hb hml hown hts hl (MX5_at l D q (h 8) 10 (v 7) a1 (by decide)) ggX4_isBarred_X5_at rfl kX5_at ⟨Nat.le_of_ble_eq_true rfl, Nat.le_of_ble_eq_true rfl⟩ rfl rfl (nwm_1 hG) jnX4_isBarred_X5_at jsX4_isBarred_X5_at (hP.sub (ws' := (wR q (h 8) 10 (v 7))) [8] rfl) (dT (hD.sub (ws' := (wR q (h 8) 10 (v 7))) [8] (by decide) rfl)) hG rfl rfl (Nat.le_of_ble_eq_true rfl) dX4_isBarred_5 ⟨Nat.zero_le _, Nat.zero_le _⟩ ?_
  refine lv_iconst (v := 3) hx hb dX4_isBarred_8 (by decide) ?_
  refine lv_icmp_lt (tgt := 16) hx hb dX4_isBarred_9 (by decide) (fun c_1 => ?_) (fun c_1 => ?_)
  · rw [if_pos c_1] at hR
    refine lv_iconst (v := 0) hx hb dX4_isBarred_16 (by decide) ?_
    exact ro_zret hx hb hr hk (Or.inl rfl) hR dX4_isBarred_17
  · rw [if_neg c_1] at hR
    refine lv_iconst (v := 1) hx hb dX4_isBarred_12 (by decide) ?_
    refine lv_goto (tgt := 17) hx hb dX4_isBarred_13 (by decide) ?_
    exact ro_zret hx hb hr hk (Or.inr rfl) hR dX4_isBarred_17

def mX4_reasonAgainst (v : Nat → Nat → Int32) (a1 a2 a3 a4 : Int32) : Int32 := (if (mX4_hasHouse v a1) = 0 then (-1) else (if (mX4_hasMill v a2) = 0 then (-1) else (if (mX5_isHour a4) = 0 then (-1) else (if a3 = 0 then (if (mX4_isBarred v a1) = 0 then (if (mX4_stands v a1 a2 a3 a4) = 0 then (if (mX4_isTied v a2 a4) = 0 then (if (mX4_blows v a4) = 0 then 4 else (if a3 = 1 then (if (mX2_hasSun a4) = 0 then 5 else (if (mX4_troublesIfUntied v a2 a1 a3 a4) = 0 then (if a3 = 0 then 5 else 6) else 0)) else (if (mX4_troublesIfUntied v a2 a1 a3 a4) = 0 then (if a3 = 0 then 5 else 6) else 0))) else 3) else 2) else 1) else (if a3 = 1 then (if (mX4_isBarred v a1) = 0 then (if (mX4_stands v a1 a2 a3 a4) = 0 then (if (mX4_isTied v a2 a4) = 0 then (if (mX4_blows v a4) = 0 then 4 else (if a3 = 1 then (if (mX2_hasSun a4) = 0 then 5 else (if (mX4_troublesIfUntied v a2 a1 a3 a4) = 0 then (if a3 = 0 then 5 else 6) else 0)) else (if (mX4_troublesIfUntied v a2 a1 a3 a4) = 0 then (if a3 = 0 then 5 else 6) else 0))) else 3) else 2) else 1) else (-2))))))
theorem kX4_reasonAgainst : yX4_reasonAgainst.cls = RX4 ∧ yX4_reasonAgainst.cls ≠ "java/lang/invoke/MethodHandle" ∧ yX4_reasonAgainst.cls ≠ "java/lang/invoke/VarHandle" ∧ (parseMethodDescriptor yX4_reasonAgainst.desc).map (fun d => d.parameters.length) = some 4 := by decide +kernel
theorem jnX4_reasonAgainst_X5_isHour : Cond.initialized yX5_isHour.cls ∈ wsX4_reasonAgainst := (List.mem_of_getElem? (i := 13) rfl)
theorem jsX4_reasonAgainst_X5_isHour : Cond.static yX5_isHour ∈ wsX4_reasonAgainst := (List.mem_of_getElem? (i := 12) rfl)
set_option maxHeartbeats 4000000 in
set_option maxRecDepth 100000 in
theorem MX4_reasonAgainst (l : Launch) (D : va_G) (q : Nat → ClassId) (h : Nat → Nat) (v : Nat → Nat → Int32) (a1 a2 a3 a4 : Int32)  : roM l D (tyq q) yX4_reasonAgainst wsX4_reasonAgainst ({ frames := 4, cells := 0, slots := 0, locals := 96 } : Room) [.ref (h 0), .int a1, .int a2, .int a3, .int a4] (wV q h v) (some (.int (mX4_reasonAgainst v a1 a2 a3 a4))) := by
  obtain ⟨R, hR⟩ : ∃ z, (mX4_reasonAgainst v a1 a2 a3 a4) = z := ⟨_, rfl⟩
  rw [hR]
  unfold mX4_reasonAgainst at hR
  refine roM.of (cc := cX4_reasonAgainst) (maxL := 5) (ret := (some .int)) (by decide) rfl (Nat.le_of_ble_eq_true rfl) ?_
  intro p e s m below meth c ls hx hb hr hk hml hown hts hP hD hG hl
  have hl : lv_has ls 5 [(0, .ref (h 0)), (1, .int a1), (2, .int a2), (3, .int a3), (4, .int a4)] := hl
  refine lv_aload_n hx hb dX4_reasonAgainst_0 rfl (lv_at hl 0 rfl) ?_
  refine lv_iload_n hx hb dX4_reasonAgainst_1 rfl (lv_at hl 1 rfl) ?_
  refine ro_V (v := .int (mX4_hasHouse v a1)) (rest := []) (As := [.int a1]) hx hb hml hown hts hl (MX4_hasHouse l D q h v a1) gX4_reasonAgainst_X4_hasHouse rfl kX4_hasHouse ⟨Nat.le_of_ble_eq_true rfl, Nat.le_of_ble_eq_true rfl⟩ rfl rfl hP (dT hD) hG (ci := 2) rfl rfl rfl rfl (Nat.le_of_ble_eq_true rfl) dX4_reasonAgainst_2 ⟨Nat.zero_le _, Nat.zero_le _⟩ ?_
  refine lv_if_eq (tgt := 24) hx hb dX4_reasonAgainst_5 (by decide) (fun c_1 => ?_) (fun c_1 => ?_)
  · rw [if_pos c_1] at hR
    refine lv_iconst (v := (-1)) hx hb dX4_reasonAgainst_24 (by decide) ?_
    exact ro_iret hx hb hr hk hR dX4_reasonAgainst_25
  · rw [if_neg c_1] at hR
    refine lv_aload_n hx hb dX4_reasonAgainst_8 rfl (lv_at hl 0 rfl) ?_
    refine lv_iload_n hx hb dX4_reasonAgainst_9 rfl (lv_at hl 2 rfl) ?_
    refine ro_V (v := .int (mX4_hasMill v a2)) (rest := []) (As := [.int a2]) hx hb hml hown hts hl (MX4_hasMill l D q h v a2) gX4_reasonAgainst_X4_hasMill rfl kX4_hasMill ⟨Nat.le_of_ble_eq_true rfl, Nat.le_of_ble_eq_true rfl⟩ rfl rfl hP (dT hD) hG (ci := 2) rfl rfl rfl rfl (Nat.le_of_ble_eq_true rfl) dX4_reasonAgainst_10 ⟨Nat.zero_le _, Nat.zero_le _⟩ ?_
    refine lv_if_eq (tgt := 24) hx hb dX4_reasonAgainst_13 (by decide) (fun c_2 => ?_) (fun c_2 => ?_)
    · rw [if_pos c_2] at hR
      refine lv_iconst (v := (-1)) hx hb dX4_reasonAgainst_24 (by decide) ?_
      exact ro_iret hx hb hr hk hR dX4_reasonAgainst_25
    · rw [if_neg c_2] at hR
      refine lv_iload hx hb dX4_reasonAgainst_16 (lv_at hl 4 rfl) ?_
      refine ro_SN (v := .int (mX5_isHour a4)) (rest := []) (As := [.int a4]) hx hb hml hown hts hl (MX5_isHour l D q a4) ggX4_reasonAgainst_X5_isHour rfl kX5_isHour ⟨Nat.le_of_ble_eq_true rfl, Nat.le_of_ble_eq_true rfl⟩ rfl rfl (nwm_2 hG) jnX4_reasonAgainst_X5_isHour jsX4_reasonAgainst_X5_isHour (hP.sub (ws' := []) [] rfl) (dT (hD.sub (ws' := []) [] (by decide) rfl)) hG rfl rfl (Nat.le_of_ble_eq_true rfl) dX4_reasonAgainst_18 ⟨Nat.zero_le _, Nat.zero_le _⟩ ?_
      refine lv_if_ne (tgt := 26) hx hb dX4_reasonAgainst_21 (by decide) (fun c_3 => ?_) (fun c_3 => ?_)
      · rw [if_neg c_3] at hR
        have fc_3 := f_isHour c_3
        refine lv_iload_n hx hb dX4_reasonAgainst_26 rfl (lv_at hl 3 rfl) ?_
        refine lv_if_eq (tgt := 38) hx hb dX4_reasonAgainst_27 (by decide) (fun c_4 => ?_) (fun c_4 => ?_)
        · rw [if_pos c_4] at hR
          refine lv_aload_n hx hb dX4_reasonAgainst_38 rfl (lv_at hl 0 rfl) ?_
          refine lv_iload_n hx hb dX4_reasonAgainst_39 rfl (lv_at hl 1 rfl) ?_
          refine ro_V (v := .int (mX4_isBarred v a1)) (rest := []) (As := [.int a1]) hx hb hml hown hts hl (MX4_isBarred l D q h v a1) gX4_reasonAgainst_X4_isBarred rfl kX4_isBarred ⟨Nat.le_of_ble_eq_true rfl, Nat.le_of_ble_eq_true rfl⟩ rfl rfl hP (dT hD) hG (ci := 2) rfl rfl rfl rfl (Nat.le_of_ble_eq_true rfl) dX4_reasonAgainst_40 ⟨Nat.zero_le _, Nat.zero_le _⟩ ?_
          refine lv_if_eq (tgt := 48) hx hb dX4_reasonAgainst_43 (by decide) (fun c_5 => ?_) (fun c_5 => ?_)
          · rw [if_pos c_5] at hR
            refine lv_aload_n hx hb dX4_reasonAgainst_48 rfl (lv_at hl 0 rfl) ?_
            refine lv_iload_n hx hb dX4_reasonAgainst_49 rfl (lv_at hl 1 rfl) ?_
            refine lv_iload_n hx hb dX4_reasonAgainst_50 rfl (lv_at hl 2 rfl) ?_
            refine lv_iload_n hx hb dX4_reasonAgainst_51 rfl (lv_at hl 3 rfl) ?_
            refine lv_iload hx hb dX4_reasonAgainst_52 (lv_at hl 4 rfl) ?_
            refine ro_V (v := .int (mX4_stands v a1 a2 a3 a4)) (rest := []) (As := [.int a1, .int a2, .int a3, .int a4]) hx hb hml hown hts hl (MX4_stands l D q h v a1 a2 a3 a4) gX4_reasonAgainst_X4_stands rfl kX4_stands ⟨Nat.le_of_ble_eq_true rfl, Nat.le_of_ble_eq_true rfl⟩ rfl rfl hP (dT hD) hG (ci := 2) rfl rfl rfl rfl (Nat.le_of_ble_eq_true rfl) dX4_reasonAgainst_54 ⟨Nat.zero_le _, Nat.zero_le _⟩ ?_
            refine lv_if_eq (tgt := 62) hx hb dX4_reasonAgainst_57 (by decide) (fun c_6 => ?_) (fun c_6 => ?_)
            · rw [if_pos c_6] at hR
              refine lv_aload_n hx hb dX4_reasonAgainst_62 rfl (lv_at hl 0 rfl) ?_
              refine lv_iload_n hx hb dX4_reasonAgainst_63 rfl (lv_at hl 2 rfl) ?_
              refine lv_iload hx hb dX4_reasonAgainst_64 (lv_at hl 4 rfl) ?_
              refine ro_V (v := .int (mX4_isTied v a2 a4)) (rest := []) (As := [.int a2, .int a4]) hx hb hml hown hts hl (MX4_isTied l D q h v a2 a4) gX4_reasonAgainst_X4_isTied rfl kX4_isTied ⟨Nat.le_of_ble_eq_true rfl, Nat.le_of_ble_eq_true rfl⟩ rfl rfl hP (dT hD) hG (ci := 2) rfl rfl rfl rfl (Nat.le_of_ble_eq_true rfl) dX4_reasonAgainst_66 ⟨Nat.zero_le _, Nat.zero_le _⟩ ?_
              refine lv_if_eq (tgt := 74) hx hb dX4_reasonAgainst_69 (by decide) (fun c_7 => ?_) (fun c_7 => ?_)
              · rw [if_pos c_7] at hR
                refine lv_aload_n hx hb dX4_reasonAgainst_74 rfl (lv_at hl 0 rfl) ?_
                refine lv_iload hx hb dX4_reasonAgainst_75 (lv_at hl 4 rfl) ?_
                refine ro_V (v := .int (mX4_blows v a4)) (rest := []) (As := [.int a4]) hx hb hml hown hts hl (MX4_blows l D q h v a4) gX4_reasonAgainst_X4_blows rfl kX4_blows ⟨Nat.le_of_ble_eq_true rfl, Nat.le_of_ble_eq_true rfl⟩ rfl rfl hP (dT hD) hG (ci := 2) rfl rfl rfl rfl (Nat.le_of_ble_eq_true rfl) dX4_reasonAgainst_77 ⟨Nat.zero_le _, Nat.zero_le _⟩ ?_
                refine lv_if_ne (tgt := 85) hx hb dX4_reasonAgainst_80 (by decide) (fun c_8 => ?_) (fun c_8 => ?_)
                · rw [if_neg c_8] at hR
                  refine lv_iload_n hx hb dX4_reasonAgainst_85 rfl (lv_at hl 3 rfl) ?_
                  refine lv_iconst (v := 1) hx hb dX4_reasonAgainst_86 (by decide) ?_
                  refine lv_icmp_ne (tgt := 100) hx hb dX4_reasonAgainst_87 (by decide) (fun c_9 => ?_) (fun c_9 => ?_)
                  · rw [if_neg c_9] at hR
                    refine lv_aload_n hx hb dX4_reasonAgainst_100 rfl (lv_at hl 0 rfl) ?_
                    refine lv_iload_n hx hb dX4_reasonAgainst_101 rfl (lv_at hl 2 rfl) ?_
                    refine lv_iload_n hx hb dX4_reasonAgainst_102 rfl (lv_at hl 1 rfl) ?_
                    refine lv_iload_n hx hb dX4_reasonAgainst_103 rfl (lv_at hl 3 rfl) ?_
                    refine lv_iload hx hb dX4_reasonAgainst_104 (lv_at hl 4 rfl) ?_
                    refine ro_V (v := .int (mX4_troublesIfUntied v a2 a1 a3 a4)) (rest := []) (As := [.int a2, .int a1, .int a3, .int a4]) hx hb hml hown hts hl (MX4_troublesIfUntied l D q h v a2 a1 a3 a4) gX4_reasonAgainst_X4_troublesIfUntied rfl kX4_troublesIfUntied ⟨Nat.le_of_ble_eq_true rfl, Nat.le_of_ble_eq_true rfl⟩ rfl rfl hP (dT hD) hG (ci := 2) rfl rfl rfl rfl (Nat.le_of_ble_eq_true rfl) dX4_reasonAgainst_106 ⟨Nat.zero_le _, Nat.zero_le _⟩ ?_
                    refine lv_if_eq (tgt := 114) hx hb dX4_reasonAgainst_109 (by decide) (fun c_10 => ?_) (fun c_10 => ?_)
                    · rw [if_pos c_10] at hR
                      refine lv_iload_n hx hb dX4_reasonAgainst_114 rfl (lv_at hl 3 rfl) ?_
                      refine lv_if_ne (tgt := 122) hx hb dX4_reasonAgainst_115 (by decide) (fun c_11 => ?_) (fun c_11 => ?_)
                      · rw [if_neg c_11] at hR
                        refine lv_bipush (v := 6) hx hb dX4_reasonAgainst_122 (by decide) ?_
                        exact ro_iret hx hb hr hk hR dX4_reasonAgainst_124
                      · rw [if_pos c_11] at hR
                        refine lv_iconst (v := 5) hx hb dX4_reasonAgainst_118 (by decide) ?_
                        refine lv_goto (tgt := 124) hx hb dX4_reasonAgainst_119 (by decide) ?_
                        exact ro_iret hx hb hr hk hR dX4_reasonAgainst_124
                    · rw [if_neg c_10] at hR
                      refine lv_iconst (v := 0) hx hb dX4_reasonAgainst_112 (by decide) ?_
                      exact ro_iret hx hb hr hk hR dX4_reasonAgainst_113
                  · rw [if_pos c_9] at hR
                    refine lv_iload hx hb dX4_reasonAgainst_90 (lv_at hl 4 rfl) ?_
                    refine ro_S (v := .int (mX2_hasSun a4)) (rest := []) (As := [.int a4]) hx hb hml hown hts hl (MX2_hasSun l D q a4) gX4_reasonAgainst_X2_hasSun rfl kX2_hasSun ⟨Nat.le_of_ble_eq_true rfl, Nat.le_of_ble_eq_true rfl⟩ rfl rfl (hP.sub (ws' := []) [] rfl) (dT (hD.sub (ws' := []) [] (by decide) rfl)) hG rfl rfl (Nat.le_of_ble_eq_true rfl) dX4_reasonAgainst_92 ⟨Nat.zero_le _, Nat.zero_le _⟩ ?_
                    refine lv_if_ne (tgt := 100) hx hb dX4_reasonAgainst_95 (by decide) (fun c_12 => ?_) (fun c_12 => ?_)
                    · rw [if_neg c_12] at hR
                      refine lv_aload_n hx hb dX4_reasonAgainst_100 rfl (lv_at hl 0 rfl) ?_
                      refine lv_iload_n hx hb dX4_reasonAgainst_101 rfl (lv_at hl 2 rfl) ?_
                      refine lv_iload_n hx hb dX4_reasonAgainst_102 rfl (lv_at hl 1 rfl) ?_
                      refine lv_iload_n hx hb dX4_reasonAgainst_103 rfl (lv_at hl 3 rfl) ?_
                      refine lv_iload hx hb dX4_reasonAgainst_104 (lv_at hl 4 rfl) ?_
                      refine ro_V (v := .int (mX4_troublesIfUntied v a2 a1 a3 a4)) (rest := []) (As := [.int a2, .int a1, .int a3, .int a4]) hx hb hml hown hts hl (MX4_troublesIfUntied l D q h v a2 a1 a3 a4) gX4_reasonAgainst_X4_troublesIfUntied rfl kX4_troublesIfUntied ⟨Nat.le_of_ble_eq_true rfl, Nat.le_of_ble_eq_true rfl⟩ rfl rfl hP (dT hD) hG (ci := 2) rfl rfl rfl rfl (Nat.le_of_ble_eq_true rfl) dX4_reasonAgainst_106 ⟨Nat.zero_le _, Nat.zero_le _⟩ ?_
                      refine lv_if_eq (tgt := 114) hx hb dX4_reasonAgainst_109 (by decide) (fun c_13 => ?_) (fun c_13 => ?_)
                      · rw [if_pos c_13] at hR
                        refine lv_iload_n hx hb dX4_reasonAgainst_114 rfl (lv_at hl 3 rfl) ?_
                        refine lv_if_ne (tgt := 122) hx hb dX4_reasonAgainst_115 (by decide) (fun c_14 => ?_) (fun c_14 => ?_)
                        · rw [if_neg c_14] at hR
                          refine lv_bipush (v := 6) hx hb dX4_reasonAgainst_122 (by decide) ?_
                          exact ro_iret hx hb hr hk hR dX4_reasonAgainst_124
                        · rw [if_pos c_14] at hR
                          refine lv_iconst (v := 5) hx hb dX4_reasonAgainst_118 (by decide) ?_
                          refine lv_goto (tgt := 124) hx hb dX4_reasonAgainst_119 (by decide) ?_
                          exact ro_iret hx hb hr hk hR dX4_reasonAgainst_124
                      · rw [if_neg c_13] at hR
                        refine lv_iconst (v := 0) hx hb dX4_reasonAgainst_112 (by decide) ?_
                        exact ro_iret hx hb hr hk hR dX4_reasonAgainst_113
                    · rw [if_pos c_12] at hR
                      refine lv_iconst (v := 5) hx hb dX4_reasonAgainst_98 (by decide) ?_
                      exact ro_iret hx hb hr hk hR dX4_reasonAgainst_99
                · rw [if_pos c_8] at hR
                  refine lv_iconst (v := 4) hx hb dX4_reasonAgainst_83 (by decide) ?_
                  exact ro_iret hx hb hr hk hR dX4_reasonAgainst_84
              · rw [if_neg c_7] at hR
                refine lv_iconst (v := 3) hx hb dX4_reasonAgainst_72 (by decide) ?_
                exact ro_iret hx hb hr hk hR dX4_reasonAgainst_73
            · rw [if_neg c_6] at hR
              refine lv_iconst (v := 2) hx hb dX4_reasonAgainst_60 (by decide) ?_
              exact ro_iret hx hb hr hk hR dX4_reasonAgainst_61
          · rw [if_neg c_5] at hR
            refine lv_iconst (v := 1) hx hb dX4_reasonAgainst_46 (by decide) ?_
            exact ro_iret hx hb hr hk hR dX4_reasonAgainst_47
        · rw [if_neg c_4] at hR
          refine lv_iload_n hx hb dX4_reasonAgainst_30 rfl (lv_at hl 3 rfl) ?_
          refine lv_iconst (v := 1) hx hb dX4_reasonAgainst_31 (by decide) ?_
          refine lv_icmp_eq (tgt := 38) hx hb dX4_reasonAgainst_32 (by decide) (fun c_15 => ?_) (fun c_15 => ?_)
          · rw [if_pos c_15] at hR
            refine lv_aload_n hx hb dX4_reasonAgainst_38 rfl (lv_at hl 0 rfl) ?_
            refine lv_iload_n hx hb dX4_reasonAgainst_39 rfl (lv_at hl 1 rfl) ?_
            refine ro_V (v := .int (mX4_isBarred v a1)) (rest := []) (As := [.int a1]) hx hb hml hown hts hl (MX4_isBarred l D q h v a1) gX4_reasonAgainst_X4_isBarred rfl kX4_isBarred ⟨Nat.le_of_ble_eq_true rfl, Nat.le_of_ble_eq_true rfl⟩ rfl rfl hP (dT hD) hG (ci := 2) rfl rfl rfl rfl (Nat.le_of_ble_eq_true rfl) dX4_reasonAgainst_40 ⟨Nat.zero_le _, Nat.zero_le _⟩ ?_
            refine lv_if_eq (tgt := 48) hx hb dX4_reasonAgainst_43 (by decide) (fun c_16 => ?_) (fun c_16 => ?_)
            · rw [if_pos c_16] at hR
              refine lv_aload_n hx hb dX4_reasonAgainst_48 rfl (lv_at hl 0 rfl) ?_
              refine lv_iload_n hx hb dX4_reasonAgainst_49 rfl (lv_at hl 1 rfl) ?_
              refine lv_iload_n hx hb dX4_reasonAgainst_50 rfl (lv_at hl 2 rfl) ?_
              refine lv_iload_n hx hb dX4_reasonAgainst_51 rfl (lv_at hl 3 rfl) ?_
              refine lv_iload hx hb dX4_reasonAgainst_52 (lv_at hl 4 rfl) ?_
              refine ro_V (v := .int (mX4_stands v a1 a2 a3 a4)) (rest := []) (As := [.int a1, .int a2, .int a3, .int a4]) hx hb hml hown hts hl (MX4_stands l D q h v a1 a2 a3 a4) gX4_reasonAgainst_X4_stands rfl kX4_stands ⟨Nat.le_of_ble_eq_true rfl, Nat.le_of_ble_eq_true rfl⟩ rfl rfl hP (dT hD) hG (ci := 2) rfl rfl rfl rfl (Nat.le_of_ble_eq_true rfl) dX4_reasonAgainst_54 ⟨Nat.zero_le _, Nat.zero_le _⟩ ?_
              refine lv_if_eq (tgt := 62) hx hb dX4_reasonAgainst_57 (by decide) (fun c_17 => ?_) (fun c_17 => ?_)
              · rw [if_pos c_17] at hR
                refine lv_aload_n hx hb dX4_reasonAgainst_62 rfl (lv_at hl 0 rfl) ?_
                refine lv_iload_n hx hb dX4_reasonAgainst_63 rfl (lv_at hl 2 rfl) ?_
                refine lv_iload hx hb dX4_reasonAgainst_64 (lv_at hl 4 rfl) ?_
                refine ro_V (v := .int (mX4_isTied v a2 a4)) (rest := []) (As := [.int a2, .int a4]) hx hb hml hown hts hl (MX4_isTied l D q h v a2 a4) gX4_reasonAgainst_X4_isTied rfl kX4_isTied ⟨Nat.le_of_ble_eq_true rfl, Nat.le_of_ble_eq_true rfl⟩ rfl rfl hP (dT hD) hG (ci := 2) rfl rfl rfl rfl (Nat.le_of_ble_eq_true rfl) dX4_reasonAgainst_66 ⟨Nat.zero_le _, Nat.zero_le _⟩ ?_
                refine lv_if_eq (tgt := 74) hx hb dX4_reasonAgainst_69 (by decide) (fun c_18 => ?_) (fun c_18 => ?_)
                · rw [if_pos c_18] at hR
                  refine lv_aload_n hx hb dX4_reasonAgainst_74 rfl (lv_at hl 0 rfl) ?_
                  refine lv_iload hx hb dX4_reasonAgainst_75 (lv_at hl 4 rfl) ?_
                  refine ro_V (v := .int (mX4_blows v a4)) (rest := []) (As := [.int a4]) hx hb hml hown hts hl (MX4_blows l D q h v a4) gX4_reasonAgainst_X4_blows rfl kX4_blows ⟨Nat.le_of_ble_eq_true rfl, Nat.le_of_ble_eq_true rfl⟩ rfl rfl hP (dT hD) hG (ci := 2) rfl rfl rfl rfl (Nat.le_of_ble_eq_true rfl) dX4_reasonAgainst_77 ⟨Nat.zero_le _, Nat.zero_le _⟩ ?_
                  refine lv_if_ne (tgt := 85) hx hb dX4_reasonAgainst_80 (by decide) (fun c_19 => ?_) (fun c_19 => ?_)
                  · rw [if_neg c_19] at hR
                    refine lv_iload_n hx hb dX4_reasonAgainst_85 rfl (lv_at hl 3 rfl) ?_
                    refine lv_iconst (v := 1) hx hb dX4_reasonAgainst_86 (by decide) ?_
                    refine lv_icmp_ne (tgt := 100) hx hb dX4_reasonAgainst_87 (by decide) (fun c_20 => ?_) (fun c_20 => ?_)
                    · rw [if_neg c_20] at hR
                      refine lv_aload_n hx hb dX4_reasonAgainst_100 rfl (lv_at hl 0 rfl) ?_
                      refine lv_iload_n hx hb dX4_reasonAgainst_101 rfl (lv_at hl 2 rfl) ?_
                      refine lv_iload_n hx hb dX4_reasonAgainst_102 rfl (lv_at hl 1 rfl) ?_
                      refine lv_iload_n hx hb dX4_reasonAgainst_103 rfl (lv_at hl 3 rfl) ?_
                      refine lv_iload hx hb dX4_reasonAgainst_104 (lv_at hl 4 rfl) ?_
                      refine ro_V (v := .int (mX4_troublesIfUntied v a2 a1 a3 a4)) (rest := []) (As := [.int a2, .int a1, .int a3, .int a4]) hx hb hml hown hts hl (MX4_troublesIfUntied l D q h v a2 a1 a3 a4) gX4_reasonAgainst_X4_troublesIfUntied rfl kX4_troublesIfUntied ⟨Nat.le_of_ble_eq_true rfl, Nat.le_of_ble_eq_true rfl⟩ rfl rfl hP (dT hD) hG (ci := 2) rfl rfl rfl rfl (Nat.le_of_ble_eq_true rfl) dX4_reasonAgainst_106 ⟨Nat.zero_le _, Nat.zero_le _⟩ ?_
                      refine lv_if_eq (tgt := 114) hx hb dX4_reasonAgainst_109 (by decide) (fun c_21 => ?_) (fun c_21 => ?_)
                      · rw [if_pos c_21] at hR
                        refine lv_iload_n hx hb dX4_reasonAgainst_114 rfl (lv_at hl 3 rfl) ?_
                        refine lv_if_ne (tgt := 122) hx hb dX4_reasonAgainst_115 (by decide) (fun c_22 => ?_) (fun c_22 => ?_)
                        · rw [if_neg c_22] at hR
                          refine lv_bipush (v := 6) hx hb dX4_reasonAgainst_122 (by decide) ?_
                          exact ro_iret hx hb hr hk hR dX4_reasonAgainst_124
                        · rw [if_pos c_22] at hR
                          refine lv_iconst (v := 5) hx hb dX4_reasonAgainst_118 (by decide) ?_
                          refine lv_goto (tgt := 124) hx hb dX4_reasonAgainst_119 (by decide) ?_
                          exact ro_iret hx hb hr hk hR dX4_reasonAgainst_124
                      · rw [if_neg c_21] at hR
                        refine lv_iconst (v := 0) hx hb dX4_reasonAgainst_112 (by decide) ?_
                        exact ro_iret hx hb hr hk hR dX4_reasonAgainst_113
                    · rw [if_pos c_20] at hR
                      refine lv_iload hx hb dX4_reasonAgainst_90 (lv_at hl 4 rfl) ?_
                      refine ro_S (v := .int (mX2_hasSun a4)) (rest := []) (As := [.int a4]) hx hb hml hown hts hl (MX2_hasSun l D q a4) gX4_reasonAgainst_X2_hasSun rfl kX2_hasSun ⟨Nat.le_of_ble_eq_true rfl, Nat.le_of_ble_eq_true rfl⟩ rfl rfl (hP.sub (ws' := []) [] rfl) (dT (hD.sub (ws' := []) [] (by decide) rfl)) hG rfl rfl (Nat.le_of_ble_eq_true rfl) dX4_reasonAgainst_92 ⟨Nat.zero_le _, Nat.zero_le _⟩ ?_
                      refine lv_if_ne (tgt := 100) hx hb dX4_reasonAgainst_95 (by decide) (fun c_23 => ?_) (fun c_23 => ?_)
                      · rw [if_neg c_23] at hR
                        refine lv_aload_n hx hb dX4_reasonAgainst_100 rfl (lv_at hl 0 rfl) ?_
                        refine lv_iload_n hx hb dX4_reasonAgainst_101 rfl (lv_at hl 2 rfl) ?_
                        refine lv_iload_n hx hb dX4_reasonAgainst_102 rfl (lv_at hl 1 rfl) ?_
                        refine lv_iload_n hx hb dX4_reasonAgainst_103 rfl (lv_at hl 3 rfl) ?_
                        refine lv_iload hx hb dX4_reasonAgainst_104 (lv_at hl 4 rfl) ?_
                        refine ro_V (v := .int (mX4_troublesIfUntied v a2 a1 a3 a4)) (rest := []) (As := [.int a2, .int a1, .int a3, .int a4]) hx hb hml hown hts hl (MX4_troublesIfUntied l D q h v a2 a1 a3 a4) gX4_reasonAgainst_X4_troublesIfUntied rfl kX4_troublesIfUntied ⟨Nat.le_of_ble_eq_true rfl, Nat.le_of_ble_eq_true rfl⟩ rfl rfl hP (dT hD) hG (ci := 2) rfl rfl rfl rfl (Nat.le_of_ble_eq_true rfl) dX4_reasonAgainst_106 ⟨Nat.zero_le _, Nat.zero_le _⟩ ?_
                        refine lv_if_eq (tgt := 114) hx hb dX4_reasonAgainst_109 (by decide) (fun c_24 => ?_) (fun c_24 => ?_)
                        · rw [if_pos c_24] at hR
                          refine lv_iload_n hx hb dX4_reasonAgainst_114 rfl (lv_at hl 3 rfl) ?_
                          refine lv_if_ne (tgt := 122) hx hb dX4_reasonAgainst_115 (by decide) (fun c_25 => ?_) (fun c_25 => ?_)
                          · rw [if_neg c_25] at hR
                            refine lv_bipush (v := 6) hx hb dX4_reasonAgainst_122 (by decide) ?_
                            exact ro_iret hx hb hr hk hR dX4_reasonAgainst_124
                          · rw [if_pos c_25] at hR
                            refine lv_iconst (v := 5) hx hb dX4_reasonAgainst_118 (by decide) ?_
                            refine lv_goto (tgt := 124) hx hb dX4_reasonAgainst_119 (by decide) ?_
                            exact ro_iret hx hb hr hk hR dX4_reasonAgainst_124
                        · rw [if_neg c_24] at hR
                          refine lv_iconst (v := 0) hx hb dX4_reasonAgainst_112 (by decide) ?_
                          exact ro_iret hx hb hr hk hR dX4_reasonAgainst_113
                      · rw [if_pos c_23] at hR
                        refine lv_iconst (v := 5) hx hb dX4_reasonAgainst_98 (by decide) ?_
                        exact ro_iret hx hb hr hk hR dX4_reasonAgainst_99
                  · rw [if_pos c_19] at hR
                    refine lv_iconst (v := 4) hx hb dX4_reasonAgainst_83 (by decide) ?_
                    exact ro_iret hx hb hr hk hR dX4_reasonAgainst_84
                · rw [if_neg c_18] at hR
                  refine lv_iconst (v := 3) hx hb dX4_reasonAgainst_72 (by decide) ?_
                  exact ro_iret hx hb hr hk hR dX4_reasonAgainst_73
              · rw [if_neg c_17] at hR
                refine lv_iconst (v := 2) hx hb dX4_reasonAgainst_60 (by decide) ?_
                exact ro_iret hx hb hr hk hR dX4_reasonAgainst_61
            · rw [if_neg c_16] at hR
              refine lv_iconst (v := 1) hx hb dX4_reasonAgainst_46 (by decide) ?_
              exact ro_iret hx hb hr hk hR dX4_reasonAgainst_47
          · rw [if_neg c_15] at hR
            refine lv_bipush (v := (-2)) hx hb dX4_reasonAgainst_35 (by decide) ?_
            exact ro_iret hx hb hr hk hR dX4_reasonAgainst_37
      · rw [if_pos c_3] at hR
        refine lv_iconst (v := (-1)) hx hb dX4_reasonAgainst_24 (by decide) ?_
        exact ro_iret hx hb hr hk hR dX4_reasonAgainst_25
