theorem ix_d {i : Int32} {n : Nat} (h0 : ¬ i < 0) (h : i < nI n) (hn : n < 2147483648) : vp_in i n := by
  refine ix_c h0 (fun h2 => ?_) hn
  rw [i_lt] at h
  rw [i_le] at h2
  omega

def mX3_signAt (t : Nat → Nat → Int32) (a1 : Int32) : Int32 := (if a1 < 0 then 0 else (if (t 1 0) ≤ a1 then 0 else (if 60 ≤ a1 then 0 else ((t 0) (a1).toNatClampNeg))))
theorem kX3_signAt : yX3_signAt.cls = RX3 ∧ yX3_signAt.cls ≠ "java/lang/invoke/MethodHandle" ∧ yX3_signAt.cls ≠ "java/lang/invoke/VarHandle" ∧ (parseMethodDescriptor yX3_signAt.desc).map (fun d => d.parameters.length) = some 1 := by decide +kernel
theorem iX3_signAt_X3 : ∀ w ∈ wsX30, w ∈ wsX3_signAt := fun w h => (List.mem_cons_of_mem _ (List.mem_append_right _ h))
set_option maxHeartbeats 4000000 in
set_option maxRecDepth 100000 in
theorem MX3_signAt (l : Launch) (D : va_G) (q : Nat → ClassId) (h : Nat → Nat) (t : Nat → Nat → Int32) (a1 : Int32) (hch : chOk t) : roM l D (tyq q) yX3_signAt wsX3_signAt ({ frames := 0, cells := 0, slots := 0, locals := 0 } : Room) [.ref (h 0), .int a1] (wT q h t) (some (.int (mX3_signAt t a1))) := by
  obtain ⟨R, hR⟩ : ∃ z, (mX3_signAt t a1) = z := ⟨_, rfl⟩
  rw [hR]
  unfold mX3_signAt at hR
  refine roM.of (cc := cX3_signAt) (maxL := 2) (ret := (some .char)) (by decide) rfl (Nat.le_of_ble_eq_true rfl) ?_
  intro p e s m below meth c ls hx hb hr hk hml hown hts hP hD hG hl
  have hl : lv_has ls 2 [(0, .ref (h 0)), (1, .int a1)] := hl
  refine lv_iload_n hx hb dX3_signAt_0 rfl (lv_at hl 1 rfl) ?_
  refine lv_if_lt (tgt := 30) hx hb dX3_signAt_1 (by decide) (fun c_1 => ?_) (fun c_1 => ?_)
  · rw [if_pos c_1] at hR
    refine lv_iconst (v := 0) hx hb dX3_signAt_30 (by decide) ?_
    exact ro_cret hx hb hr hk (by decide) hR dX3_signAt_31
  · rw [if_neg c_1] at hR
    refine lv_iload_n hx hb dX3_signAt_4 rfl (lv_at hl 1 rfl) ?_
    refine lv_aload_n hx hb dX3_signAt_5 rfl (lv_at hl 0 rfl) ?_
    refine va_get (D := D) (ci := 1) (v := .int (t 1 0)) (C := RX3) (T := TX3) (N := 2) hx hb hts iX3_signAt_X3 hown hG.1 hP 0 rfl rfl 1 (by decide) (hts (.fieldLink RX3 15 "MillComplaints$Text" "length" "I") (List.mem_of_getElem? (i := 1) rfl)) (fun _ h9 => h9) rfl dX3_signAt_6 ?_
    refine lv_icmp_ge (tgt := 30) hx hb dX3_signAt_9 (by decide) (fun c_2 => ?_) (fun c_2 => ?_)
    · rw [if_pos c_2] at hR
      refine lv_iconst (v := 0) hx hb dX3_signAt_30 (by decide) ?_
      exact ro_cret hx hb hr hk (by decide) hR dX3_signAt_31
    · rw [if_neg c_2] at hR
      refine lv_iload_n hx hb dX3_signAt_12 rfl (lv_at hl 1 rfl) ?_
      refine lv_aload_n hx hb dX3_signAt_13 rfl (lv_at hl 0 rfl) ?_
      refine va_get (D := D) (ci := 1) (v := .ref (h 1)) (C := RX3) (T := TX3) (N := 2) hx hb hts iX3_signAt_X3 hown hG.1 hP 0 rfl rfl 0 (by decide) (hts (.fieldLink RX3 9 "MillComplaints$Text" "signs" "[C") (List.mem_of_getElem? (i := 2) rfl)) (fun _ h9 => h9) rfl dX3_signAt_14 ?_
      refine va_alen (v := 60) hx hb hG.1 hP 1 1 rfl rfl rfl dX3_signAt_17 ?_
      refine lv_icmp_ge (tgt := 30) hx hb dX3_signAt_18 (by decide) (fun c_3 => ?_) (fun c_3 => ?_)
      · rw [if_pos c_3] at hR
        refine lv_iconst (v := 0) hx hb dX3_signAt_30 (by decide) ?_
        exact ro_cret hx hb hr hk (by decide) hR dX3_signAt_31
      · rw [if_neg c_3] at hR
        refine lv_aload_n hx hb dX3_signAt_21 rfl (lv_at hl 0 rfl) ?_
        refine va_get (D := D) (ci := 1) (v := .ref (h 1)) (C := RX3) (T := TX3) (N := 2) hx hb hts iX3_signAt_X3 hown hG.1 hP 0 rfl rfl 0 (by decide) (hts (.fieldLink RX3 9 "MillComplaints$Text" "signs" "[C") (List.mem_of_getElem? (i := 2) rfl)) (fun _ h9 => h9) rfl dX3_signAt_22 ?_
        refine lv_iload_n hx hb dX3_signAt_25 rfl (lv_at hl 1 rfl) ?_
        refine va_cald hx hb hG.1 hP 1 1 rfl rfl (by first | exact ix_c (n := 60) (by assumption) (by assumption) (by decide) | exact ix_d (n := 60) (by assumption) (by assumption) (by decide)) dX3_signAt_26 ?_
        refine lv_goto (tgt := 31) hx hb dX3_signAt_27 (by decide) ?_
        exact ro_cret hx hb hr hk (hch _) hR dX3_signAt_31

def mX3_firstFault_4 (t : Nat → Nat → Int32) (C : Int32 → Int32 → Int32) : Nat → Int32 → Int32 → Int32
  | 0, x2_4, x1_4 => C x2_4 x1_4
  | n_4 + 1, x2_4, x1_4 => (if (mX0_after x1_4 (mX3_signAt t x2_4)) = (-1) then x2_4 else (mX3_firstFault_4 t C n_4 (x2_4 + 1) (mX0_after x1_4 (mX3_signAt t x2_4))))
def mX3_firstFault (t : Nat → Nat → Int32) : Int32 := (mX3_firstFault_4 t (fun x2_4 x1_4 => (if (mX0_mayEnd x1_4) = 0 then (t 1 0) else (-5))) (tr 0 (t 1 0)) 0 0)
theorem kX3_firstFault : yX3_firstFault.cls = RX3 ∧ yX3_firstFault.cls ≠ "java/lang/invoke/MethodHandle" ∧ yX3_firstFault.cls ≠ "java/lang/invoke/VarHandle" ∧ (parseMethodDescriptor yX3_firstFault.desc).map (fun d => d.parameters.length) = some 0 := by decide +kernel
theorem iX3_firstFault_X3 : ∀ w ∈ wsX30, w ∈ wsX3_firstFault := fun w h => (List.mem_cons_of_mem _ (List.mem_append_right _ h))
set_option maxHeartbeats 4000000 in
set_option maxRecDepth 100000 in
theorem MX3_firstFault (l : Launch) (D : va_G) (q : Nat → ClassId) (h : Nat → Nat) (t : Nat → Nat → Int32)  (hch : chOk t) : roM l D (tyq q) yX3_firstFault wsX3_firstFault ({ frames := 3, cells := 0, slots := 0, locals := 66 } : Room) [.ref (h 0)] (wT q h t) (some (.int (mX3_firstFault t))) := by
  obtain ⟨R, hR⟩ : ∃ z, (mX3_firstFault t) = z := ⟨_, rfl⟩
  rw [hR]
  unfold mX3_firstFault at hR
  refine roM.of (cc := cX3_firstFault) (maxL := 3) (ret := (some .int)) (by decide) rfl (Nat.le_of_ble_eq_true rfl) ?_
  intro p e s m below meth c ls hx hb hr hk hml hown hts hP hD hG hl
  have hl : lv_has ls 3 [(0, .ref (h 0))] := hl
  refine lv_iconst (v := 0) hx hb dX3_firstFault_0 (by decide) ?_
  refine lv_istore_n (lv' := [(1, .int 0), (0, .ref (h 0))]) hx hb dX3_firstFault_1 rfl hl (by decide) rfl (fun ls hl => ?_)
  refine lv_iconst (v := 0) hx hb dX3_firstFault_2 (by decide) ?_
  refine lv_istore_n (lv' := [(2, .int 0), (1, .int 0), (0, .ref (h 0))]) hx hb dX3_firstFault_3 rfl hl (by decide) rfl (fun ls hl => ?_)
  have key_4 : ∀ (n_4 : Nat) (x2_4 : Int32) (x1_4 : Int32), tr x2_4 (t 1 0) = n_4 → mX3_firstFault_4 t (fun x2_4 x1_4 => (if (mX0_mayEnd x1_4) = 0 then (t 1 0) else (-5))) n_4 x2_4 x1_4 = R → ∀ ls : Array Slot, lv_has ls 3 [(2, .int x2_4), (1, .int x1_4), (0, .ref (h 0))] → W p l e ({ frames := 3, cells := 0, slots := 0, locals := 66 } : Room) s m ([.ref (h 0)] : List Value).toArray below meth c s.heap [] 0 0 (MQ below (roQ (some (.int R))) ([.ref (h 0)] : List Value).toArray s 0 0 (fun _ => False)) (F0 m 4 ls []) := by
    intro n_4
    induction n_4 with
    | zero =>
      intro x2_4 x1_4 hn_4 hR ls hl
      rw [mX3_firstFault_4] at hR
      refine lv_iload_n hx hb dX3_firstFault_4 rfl (lv_at hl 0 rfl) ?_
      refine lv_aload_n hx hb dX3_firstFault_5 rfl (lv_at hl 2 rfl) ?_
      refine va_get (D := D) (ci := 1) (v := .int (t 1 0)) (C := RX3) (T := TX3) (N := 2) hx hb hts iX3_firstFault_X3 hown hG.1 hP 0 rfl rfl 1 (by decide) (hts (.fieldLink RX3 15 "MillComplaints$Text" "length" "I") (List.mem_of_getElem? (i := 1) rfl)) (fun _ h9 => h9) rfl dX3_firstFault_6 ?_
      refine lv_icmp_ge (tgt := 35) hx hb dX3_firstFault_9 (by decide) (fun c_1 => ?_) (fun c_1 => (tr0 hn_4 c_1).elim)
      refine lv_iload_n hx hb dX3_firstFault_35 rfl (lv_at hl 1 rfl) ?_
      refine ro_S (v := .int (mX0_mayEnd x1_4)) (rest := []) (As := [.int x1_4]) hx hb hml hown hts hl (MX0_mayEnd l D q x1_4) gX3_firstFault_X0_mayEnd rfl kX0_mayEnd ⟨Nat.le_of_ble_eq_true rfl, Nat.le_of_ble_eq_true rfl⟩ rfl rfl (hP.sub (ws' := []) [] rfl) (dT (hD.sub (ws' := []) [] (by decide) rfl)) hG rfl rfl (Nat.le_of_ble_eq_true rfl) dX3_firstFault_36 ⟨Nat.zero_le _, Nat.zero_le _⟩ ?_
      refine lv_if_eq (tgt := 47) hx hb dX3_firstFault_39 (by decide) (fun c_2 => ?_) (fun c_2 => ?_)
      · rw [if_pos c_2] at hR
        refine lv_aload_n hx hb dX3_firstFault_47 rfl (lv_at hl 2 rfl) ?_
        refine va_get (D := D) (ci := 1) (v := .int (t 1 0)) (C := RX3) (T := TX3) (N := 2) hx hb hts iX3_firstFault_X3 hown hG.1 hP 0 rfl rfl 1 (by decide) (hts (.fieldLink RX3 15 "MillComplaints$Text" "length" "I") (List.mem_of_getElem? (i := 1) rfl)) (fun _ h9 => h9) rfl dX3_firstFault_48 ?_
        exact ro_iret hx hb hr hk hR dX3_firstFault_51
      · rw [if_neg c_2] at hR
        refine lv_bipush (v := (-5)) hx hb dX3_firstFault_42 (by decide) ?_
        refine lv_goto (tgt := 51) hx hb dX3_firstFault_44 (by decide) ?_
        exact ro_iret hx hb hr hk hR dX3_firstFault_51
    | succ n_4 ih_4 =>
      intro x2_4 x1_4 hn_4 hR ls hl
      rw [mX3_firstFault_4] at hR
      refine lv_iload_n hx hb dX3_firstFault_4 rfl (lv_at hl 0 rfl) ?_
      refine lv_aload_n hx hb dX3_firstFault_5 rfl (lv_at hl 2 rfl) ?_
      refine va_get (D := D) (ci := 1) (v := .int (t 1 0)) (C := RX3) (T := TX3) (N := 2) hx hb hts iX3_firstFault_X3 hown hG.1 hP 0 rfl rfl 1 (by decide) (hts (.fieldLink RX3 15 "MillComplaints$Text" "length" "I") (List.mem_of_getElem? (i := 1) rfl)) (fun _ h9 => h9) rfl dX3_firstFault_6 ?_
      refine lv_icmp_ge (tgt := 35) hx hb dX3_firstFault_9 (by decide) (fun c_1 => (trS hn_4 c_1).elim) (fun c_1 => ?_)
      refine lv_iload_n hx hb dX3_firstFault_12 rfl (lv_at hl 1 rfl) ?_
      refine lv_aload_n hx hb dX3_firstFault_13 rfl (lv_at hl 2 rfl) ?_
      refine lv_iload_n hx hb dX3_firstFault_14 rfl (lv_at hl 0 rfl) ?_
      refine ro_V (v := .int (mX3_signAt t x2_4)) (rest := [.int x1_4]) (As := [.int x2_4]) hx hb hml hown hts hl (MX3_signAt l D q h t x2_4 hch) gX3_firstFault_X3_signAt rfl kX3_signAt ⟨Nat.le_of_ble_eq_true rfl, Nat.le_of_ble_eq_true rfl⟩ rfl rfl hP (dT hD) hG (ci := 1) rfl rfl rfl rfl (Nat.le_of_ble_eq_true rfl) dX3_firstFault_15 ⟨Nat.zero_le _, Nat.zero_le _⟩ ?_
      refine ro_S (v := .int (mX0_after x1_4 (mX3_signAt t x2_4))) (rest := []) (As := [.int x1_4, .int (mX3_signAt t x2_4)]) hx hb hml hown hts hl (MX0_after l D q x1_4 (mX3_signAt t x2_4)) gX3_firstFault_X0_after rfl kX0_after ⟨Nat.le_of_ble_eq_true rfl, Nat.le_of_ble_eq_true rfl⟩ rfl rfl (hP.sub (ws' := []) [] rfl) (dT (hD.sub (ws' := []) [] (by decide) rfl)) hG rfl rfl (Nat.le_of_ble_eq_true rfl) dX3_firstFault_18 ⟨Nat.zero_le _, Nat.zero_le _⟩ ?_
      refine lv_istore_n (lv' := [(1, .int (mX0_after x1_4 (mX3_signAt t x2_4))), (2, .int x2_4), (0, .ref (h 0))]) hx hb dX3_firstFault_21 rfl hl (by decide) rfl (fun ls hl => ?_)
      refine lv_iload_n hx hb dX3_firstFault_22 rfl (lv_at hl 0 rfl) ?_
      refine lv_iconst (v := (-1)) hx hb dX3_firstFault_23 (by decide) ?_
      refine lv_icmp_ne (tgt := 29) hx hb dX3_firstFault_24 (by decide) (fun c_3 => ?_) (fun c_3 => ?_)
      · rw [if_neg c_3] at hR
        refine lv_iinc (v := (x2_4 + 1)) (lv' := [(2, .int (x2_4 + 1)), (1, .int (mX0_after x1_4 (mX3_signAt t x2_4))), (0, .ref (h 0))]) hx hb dX3_firstFault_29 hl (k := 1) rfl rfl (by decide) rfl (fun ls hl => ?_)
        refine lv_goto (tgt := 4) hx hb dX3_firstFault_32 (by decide) ?_
        exact ih_4 (x2_4 + 1) (mX0_after x1_4 (mX3_signAt t x2_4)) (trN hn_4) hR ls (lv_sub hl [0, 1, 2] rfl)
      · rw [if_pos c_3] at hR
        refine lv_iload_n hx hb dX3_firstFault_27 rfl (lv_at hl 1 rfl) ?_
        exact ro_iret hx hb hr hk hR dX3_firstFault_28
  exact key_4 _ 0 0 rfl hR ls hl

def mX3_digitAt (t : Nat → Nat → Int32) (a1 : Int32) : Int32 := ((mX3_signAt t a1) - 48)
theorem kX3_digitAt : yX3_digitAt.cls = RX3 ∧ yX3_digitAt.cls ≠ "java/lang/invoke/MethodHandle" ∧ yX3_digitAt.cls ≠ "java/lang/invoke/VarHandle" ∧ (parseMethodDescriptor yX3_digitAt.desc).map (fun d => d.parameters.length) = some 1 := by decide +kernel
set_option maxHeartbeats 4000000 in
set_option maxRecDepth 100000 in
theorem MX3_digitAt (l : Launch) (D : va_G) (q : Nat → ClassId) (h : Nat → Nat) (t : Nat → Nat → Int32) (a1 : Int32) (hch : chOk t) : roM l D (tyq q) yX3_digitAt wsX3_digitAt ({ frames := 1, cells := 0, slots := 0, locals := 21 } : Room) [.ref (h 0), .int a1] (wT q h t) (some (.int (mX3_digitAt t a1))) := by
  obtain ⟨R, hR⟩ : ∃ z, (mX3_digitAt t a1) = z := ⟨_, rfl⟩
  rw [hR]
  unfold mX3_digitAt at hR
  refine roM.of (cc := cX3_digitAt) (maxL := 2) (ret := (some .int)) (by decide) rfl (Nat.le_of_ble_eq_true rfl) ?_
  intro p e s m below meth c ls hx hb hr hk hml hown hts hP hD hG hl
  have hl : lv_has ls 2 [(0, .ref (h 0)), (1, .int a1)] := hl
  refine lv_aload_n hx hb dX3_digitAt_0 rfl (lv_at hl 0 rfl) ?_
  refine lv_iload_n hx hb dX3_digitAt_1 rfl (lv_at hl 1 rfl) ?_
  refine ro_V (v := .int (mX3_signAt t a1)) (rest := []) (As := [.int a1]) hx hb hml hown hts hl (MX3_signAt l D q h t a1 hch) gX3_digitAt_X3_signAt rfl kX3_signAt ⟨Nat.le_of_ble_eq_true rfl, Nat.le_of_ble_eq_true rfl⟩ rfl rfl hP (dT hD) hG (ci := 1) rfl rfl rfl rfl (Nat.le_of_ble_eq_true rfl) dX3_digitAt_2 ⟨Nat.zero_le _, Nat.zero_le _⟩ ?_
  refine lv_bipush (v := 48) hx hb dX3_digitAt_5 (by decide) ?_
  refine lv_isub hx hb dX3_digitAt_7 ?_
  exact ro_iret hx hb hr hk hR dX3_digitAt_8

def mX3_yardAt (t : Nat → Nat → Int32) (a1 : Int32) : Int32 := (((12 * (mX3_digitAt t (a1 + 1))) + (mX3_signAt t a1)) - 97)
theorem kX3_yardAt : yX3_yardAt.cls = RX3 ∧ yX3_yardAt.cls ≠ "java/lang/invoke/MethodHandle" ∧ yX3_yardAt.cls ≠ "java/lang/invoke/VarHandle" ∧ (parseMethodDescriptor yX3_yardAt.desc).map (fun d => d.parameters.length) = some 1 := by decide +kernel
set_option maxHeartbeats 4000000 in
set_option maxRecDepth 100000 in
theorem MX3_yardAt (l : Launch) (D : va_G) (q : Nat → ClassId) (h : Nat → Nat) (t : Nat → Nat → Int32) (a1 : Int32) (hch : chOk t) : roM l D (tyq q) yX3_yardAt wsX3_yardAt ({ frames := 2, cells := 0, slots := 0, locals := 42 } : Room) [.ref (h 0), .int a1] (wT q h t) (some (.int (mX3_yardAt t a1))) := by
  obtain ⟨R, hR⟩ : ∃ z, (mX3_yardAt t a1) = z := ⟨_, rfl⟩
  rw [hR]
  unfold mX3_yardAt at hR
  refine roM.of (cc := cX3_yardAt) (maxL := 2) (ret := (some .int)) (by decide) rfl (Nat.le_of_ble_eq_true rfl) ?_
  intro p e s m below meth c ls hx hb hr hk hml hown hts hP hD hG hl
  have hl : lv_has ls 2 [(0, .ref (h 0)), (1, .int a1)] := hl
  refine lv_bipush (v := 12) hx hb dX3_yardAt_0 (by decide) ?_
  refine lv_aload_n hx hb dX3_yardAt_2 rfl (lv_at hl 0 rfl) ?_
  refine lv_iload_n hx hb dX3_yardAt_3 rfl (lv_at hl 1 rfl) ?_
  refine lv_iconst (v := 1) hx hb dX3_yardAt_4 (by decide) ?_
  refine lv_iadd hx hb dX3_yardAt_5 ?_
  refine ro_V (v := .int (mX3_digitAt t (a1 + 1))) (rest := [.int 12]) (As := [.int (a1 + 1)]) hx hb hml hown hts hl (MX3_digitAt l D q h t (a1 + 1) hch) gX3_yardAt_X3_digitAt rfl kX3_digitAt ⟨Nat.le_of_ble_eq_true rfl, Nat.le_of_ble_eq_true rfl⟩ rfl rfl hP (dT hD) hG (ci := 1) rfl rfl rfl rfl (Nat.le_of_ble_eq_true rfl) dX3_yardAt_6 ⟨Nat.zero_le _, Nat.zero_le _⟩ ?_
  refine lv_imul hx hb dX3_yardAt_9 ?_
  refine lv_aload_n hx hb dX3_yardAt_10 rfl (lv_at hl 0 rfl) ?_
  refine lv_iload_n hx hb dX3_yardAt_11 rfl (lv_at hl 1 rfl) ?_
  refine ro_V (v := .int (mX3_signAt t a1)) (rest := [.int (12 * (mX3_digitAt t (a1 + 1)))]) (As := [.int a1]) hx hb hml hown hts hl (MX3_signAt l D q h t a1 hch) gX3_yardAt_X3_signAt rfl kX3_signAt ⟨Nat.le_of_ble_eq_true rfl, Nat.le_of_ble_eq_true rfl⟩ rfl rfl hP (dT hD) hG (ci := 1) rfl rfl rfl rfl (Nat.le_of_ble_eq_true rfl) dX3_yardAt_12 ⟨Nat.zero_le _, Nat.zero_le _⟩ ?_
  refine lv_iadd hx hb dX3_yardAt_15 ?_
  refine lv_bipush (v := 97) hx hb dX3_yardAt_16 (by decide) ?_
  refine lv_isub hx hb dX3_yardAt_18 ?_
  exact ro_iret hx hb hr hk hR dX3_yardAt_19

def mX3_numberAt_5 (t : Nat → Nat → Int32) (C : Int32 → Int32 → Int32) : Nat → Int32 → Int32 → Int32
  | 0, x4_5, x3_5 => C x4_5 x3_5
  | n_5 + 1, x4_5, x3_5 => (mX3_numberAt_5 t C n_5 (x4_5 + 1) ((10 * x3_5) + (mX3_digitAt t x4_5)))
def mX3_numberAt (t : Nat → Nat → Int32) (a1 a2 : Int32) : Int32 := (mX3_numberAt_5 t (fun x4_5 x3_5 => x3_5) (tr a1 a2) a1 0)
theorem kX3_numberAt : yX3_numberAt.cls = RX3 ∧ yX3_numberAt.cls ≠ "java/lang/invoke/MethodHandle" ∧ yX3_numberAt.cls ≠ "java/lang/invoke/VarHandle" ∧ (parseMethodDescriptor yX3_numberAt.desc).map (fun d => d.parameters.length) = some 2 := by decide +kernel
set_option maxHeartbeats 4000000 in
set_option maxRecDepth 100000 in
theorem MX3_numberAt (l : Launch) (D : va_G) (q : Nat → ClassId) (h : Nat → Nat) (t : Nat → Nat → Int32) (a1 a2 : Int32) (hch : chOk t) : roM l D (tyq q) yX3_numberAt wsX3_numberAt ({ frames := 2, cells := 0, slots := 0, locals := 42 } : Room) [.ref (h 0), .int a1, .int a2] (wT q h t) (some (.int (mX3_numberAt t a1 a2))) := by
  obtain ⟨R, hR⟩ : ∃ z, (mX3_numberAt t a1 a2) = z := ⟨_, rfl⟩
  rw [hR]
  unfold mX3_numberAt at hR
  refine roM.of (cc := cX3_numberAt) (maxL := 5) (ret := (some .int)) (by decide) rfl (Nat.le_of_ble_eq_true rfl) ?_
  intro p e s m below meth c ls hx hb hr hk hml hown hts hP hD hG hl
  have hl : lv_has ls 5 [(0, .ref (h 0)), (1, .int a1), (2, .int a2)] := hl
  refine lv_iconst (v := 0) hx hb dX3_numberAt_0 (by decide) ?_
  refine lv_istore_n (lv' := [(3, .int 0), (0, .ref (h 0)), (1, .int a1), (2, .int a2)]) hx hb dX3_numberAt_1 rfl hl (by decide) rfl (fun ls hl => ?_)
  refine lv_iload_n hx hb dX3_numberAt_2 rfl (lv_at hl 2 rfl) ?_
  refine lv_istore (lv' := [(4, .int a1), (3, .int 0), (0, .ref (h 0)), (1, .int a1), (2, .int a2)]) hx hb dX3_numberAt_3 hl (by decide) rfl (fun ls hl => ?_)
  have key_5 : ∀ (n_5 : Nat) (x4_5 : Int32) (x3_5 : Int32), tr x4_5 a2 = n_5 → mX3_numberAt_5 t (fun x4_5 x3_5 => x3_5) n_5 x4_5 x3_5 = R → ∀ ls : Array Slot, lv_has ls 5 [(4, .int x4_5), (3, .int x3_5), (0, .ref (h 0)), (1, .int a1), (2, .int a2)] → W p l e ({ frames := 2, cells := 0, slots := 0, locals := 42 } : Room) s m ([.ref (h 0), .int a1, .int a2] : List Value).toArray below meth c s.heap [] 0 0 (MQ below (roQ (some (.int R))) ([.ref (h 0), .int a1, .int a2] : List Value).toArray s 0 0 (fun _ => False)) (F0 m 5 ls []) := by
    intro n_5
    induction n_5 with
    | zero =>
      intro x4_5 x3_5 hn_5 hR ls hl
      rw [mX3_numberAt_5] at hR
      refine lv_iload hx hb dX3_numberAt_5 (lv_at hl 0 rfl) ?_
      refine lv_iload_n hx hb dX3_numberAt_7 rfl (lv_at hl 4 rfl) ?_
      refine lv_icmp_ge (tgt := 29) hx hb dX3_numberAt_8 (by decide) (fun c_1 => ?_) (fun c_1 => (tr0 hn_5 c_1).elim)
      refine lv_iload_n hx hb dX3_numberAt_29 rfl (lv_at hl 1 rfl) ?_
      exact ro_iret hx hb hr hk hR dX3_numberAt_30
    | succ n_5 ih_5 =>
      intro x4_5 x3_5 hn_5 hR ls hl
      rw [mX3_numberAt_5] at hR
      refine lv_iload hx hb dX3_numberAt_5 (lv_at hl 0 rfl) ?_
      refine lv_iload_n hx hb dX3_numberAt_7 rfl (lv_at hl 4 rfl) ?_
      refine lv_icmp_ge (tgt := 29) hx hb dX3_numberAt_8 (by decide) (fun c_1 => (trS hn_5 c_1).elim) (fun c_1 => ?_)
      refine lv_bipush (v := 10) hx hb dX3_numberAt_11 (by decide) ?_
      refine lv_iload_n hx hb dX3_numberAt_13 rfl (lv_at hl 1 rfl) ?_
      refine lv_imul hx hb dX3_numberAt_14 ?_
      refine lv_aload_n hx hb dX3_numberAt_15 rfl (lv_at hl 2 rfl) ?_
      refine lv_iload hx hb dX3_numberAt_16 (lv_at hl 0 rfl) ?_
      refine ro_V (v := .int (mX3_digitAt t x4_5)) (rest := [.int (10 * x3_5)]) (As := [.int x4_5]) hx hb hml hown hts hl (MX3_digitAt l D q h t x4_5 hch) gX3_numberAt_X3_digitAt rfl kX3_digitAt ⟨Nat.le_of_ble_eq_true rfl, Nat.le_of_ble_eq_true rfl⟩ rfl rfl hP (dT hD) hG (ci := 1) rfl rfl rfl rfl (Nat.le_of_ble_eq_true rfl) dX3_numberAt_18 ⟨Nat.zero_le _, Nat.zero_le _⟩ ?_
      refine lv_iadd hx hb dX3_numberAt_21 ?_
      refine lv_istore_n (lv' := [(3, .int ((10 * x3_5) + (mX3_digitAt t x4_5))), (4, .int x4_5), (0, .ref (h 0)), (1, .int a1), (2, .int a2)]) hx hb dX3_numberAt_22 rfl hl (by decide) rfl (fun ls hl => ?_)
      refine lv_iinc (v := (x4_5 + 1)) (lv' := [(4, .int (x4_5 + 1)), (3, .int ((10 * x3_5) + (mX3_digitAt t x4_5))), (0, .ref (h 0)), (1, .int a1), (2, .int a2)]) hx hb dX3_numberAt_23 hl (k := 1) rfl rfl (by decide) rfl (fun ls hl => ?_)
      refine lv_goto (tgt := 5) hx hb dX3_numberAt_26 (by decide) ?_
      exact ih_5 (x4_5 + 1) ((10 * x3_5) + (mX3_digitAt t x4_5)) (trN hn_5) hR ls (lv_sub hl [0, 1, 2, 3, 4] rfl)
  exact key_5 _ a1 0 rfl hR ls hl
