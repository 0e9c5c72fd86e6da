def mX4_hasMill (v : Nat → Nat → Int32) (a1 : Int32) : Int32 := (if a1 < 0 then 0 else (if (v 9 0) ≤ a1 then 0 else 1))
theorem kX4_hasMill : yX4_hasMill.cls = RX4 ∧ yX4_hasMill.cls ≠ "java/lang/invoke/MethodHandle" ∧ yX4_hasMill.cls ≠ "java/lang/invoke/VarHandle" ∧ (parseMethodDescriptor yX4_hasMill.desc).map (fun d => d.parameters.length) = some 1 := by decide +kernel
theorem iX4_hasMill_X4 : ∀ w ∈ wsX40, w ∈ wsX4_hasMill := fun w h => (List.mem_cons_of_mem _ (List.mem_append_right _ h))
set_option maxHeartbeats 4000000 in
set_option maxRecDepth 100000 in
theorem MX4_hasMill (l : Launch) (D : va_G) (q : Nat → ClassId) (h : Nat → Nat) (v : Nat → Nat → Int32) (a1 : Int32)  : roM l D (tyq q) yX4_hasMill wsX4_hasMill ({ frames := 0, cells := 0, slots := 0, locals := 0 } : Room) [.ref (h 0), .int a1] (wV q h v) (some (.int (mX4_hasMill v a1))) := by
  obtain ⟨R, hR⟩ : ∃ z, (mX4_hasMill v a1) = z := ⟨_, rfl⟩
  rw [hR]
  unfold mX4_hasMill at hR
  refine roM.of (cc := cX4_hasMill) (maxL := 2) (ret := (some .boolean)) (by decide) rfl (Nat.le_of_ble_eq_true rfl) ?_
  intro p e s m below meth c ls hx hb hr hk hml hown hts hP hD hG hl
  have hl : lv_has ls 2 [(0, .ref (h 0)), (1, .int a1)] := hl
  refine lv_iload_n hx hb dX4_hasMill_0 rfl (lv_at hl 1 rfl) ?_
  refine lv_if_lt (tgt := 16) hx hb dX4_hasMill_1 (by decide) (fun c_1 => ?_) (fun c_1 => ?_)
  · rw [if_pos c_1] at hR
    refine lv_iconst (v := 0) hx hb dX4_hasMill_16 (by decide) ?_
    exact ro_zret hx hb hr hk (Or.inl rfl) hR dX4_hasMill_17
  · rw [if_neg c_1] at hR
    refine lv_iload_n hx hb dX4_hasMill_4 rfl (lv_at hl 1 rfl) ?_
    refine lv_aload_n hx hb dX4_hasMill_5 rfl (lv_at hl 0 rfl) ?_
    refine va_get (D := D) (ci := 2) (v := .int (v 9 0)) (C := RX4) (T := TX4) (N := 11) hx hb hts iX4_hasMill_X4 hown hG.1 hP 0 rfl rfl 3 (by decide) (hts (.fieldLink RX4 24 "MillComplaints$Village" "mills" "I") (List.mem_of_getElem? (i := 1) rfl)) (fun _ h9 => h9) rfl dX4_hasMill_6 ?_
    refine lv_icmp_ge (tgt := 16) hx hb dX4_hasMill_9 (by decide) (fun c_2 => ?_) (fun c_2 => ?_)
    · rw [if_pos c_2] at hR
      refine lv_iconst (v := 0) hx hb dX4_hasMill_16 (by decide) ?_
      exact ro_zret hx hb hr hk (Or.inl rfl) hR dX4_hasMill_17
    · rw [if_neg c_2] at hR
      refine lv_iconst (v := 1) hx hb dX4_hasMill_12 (by decide) ?_
      refine lv_goto (tgt := 17) hx hb dX4_hasMill_13 (by decide) ?_
      exact ro_zret hx hb hr hk (Or.inr rfl) hR dX4_hasMill_17

def mX4_hasHouse (v : Nat → Nat → Int32) (a1 : Int32) : Int32 := (if a1 < 0 then 0 else (if (v 10 0) ≤ a1 then 0 else 1))
theorem kX4_hasHouse : yX4_hasHouse.cls = RX4 ∧ yX4_hasHouse.cls ≠ "java/lang/invoke/MethodHandle" ∧ yX4_hasHouse.cls ≠ "java/lang/invoke/VarHandle" ∧ (parseMethodDescriptor yX4_hasHouse.desc).map (fun d => d.parameters.length) = some 1 := by decide +kernel
theorem iX4_hasHouse_X4 : ∀ w ∈ wsX40, w ∈ wsX4_hasHouse := fun w h => (List.mem_cons_of_mem _ (List.mem_append_right _ h))
set_option maxHeartbeats 4000000 in
set_option maxRecDepth 100000 in
theorem MX4_hasHouse (l : Launch) (D : va_G) (q : Nat → ClassId) (h : Nat → Nat) (v : Nat → Nat → Int32) (a1 : Int32)  : roM l D (tyq q) yX4_hasHouse wsX4_hasHouse ({ frames := 0, cells := 0, slots := 0, locals := 0 } : Room) [.ref (h 0), .int a1] (wV q h v) (some (.int (mX4_hasHouse v a1))) := by
  obtain ⟨R, hR⟩ : ∃ z, (mX4_hasHouse v a1) = z := ⟨_, rfl⟩
  rw [hR]
  unfold mX4_hasHouse at hR
  refine roM.of (cc := cX4_hasHouse) (maxL := 2) (ret := (some .boolean)) (by decide) rfl (Nat.le_of_ble_eq_true rfl) ?_
  intro p e s m below meth c ls hx hb hr hk hml hown hts hP hD hG hl
  have hl : lv_has ls 2 [(0, .ref (h 0)), (1, .int a1)] := hl
  refine lv_iload_n hx hb dX4_hasHouse_0 rfl (lv_at hl 1 rfl) ?_
  refine lv_if_lt (tgt := 16) hx hb dX4_hasHouse_1 (by decide) (fun c_1 => ?_) (fun c_1 => ?_)
  · rw [if_pos c_1] at hR
    refine lv_iconst (v := 0) hx hb dX4_hasHouse_16 (by decide) ?_
    exact ro_zret hx hb hr hk (Or.inl rfl) hR dX4_hasHouse_17
  · rw [if_neg c_1] at hR
    refine lv_iload_n hx hb dX4_hasHouse_4 rfl (lv_at hl 1 rfl) ?_
    refine lv_aload_n hx hb dX4_hasHouse_5 rfl (lv_at hl 0 rfl) ?_
    refine va_get (D := D) (ci := 2) (v := .int (v 10 0)) (C := RX4) (T := TX4) (N := 11) hx hb hts iX4_hasHouse_X4 hown hG.1 hP 0 rfl rfl 7 (by decide) (hts (.fieldLink RX4 37 "MillComplaints$Village" "houses" "I") (List.mem_of_getElem? (i := 1) rfl)) (fun _ h9 => h9) rfl dX4_hasHouse_6 ?_
    refine lv_icmp_ge (tgt := 16) hx hb dX4_hasHouse_9 (by decide) (fun c_2 => ?_) (fun c_2 => ?_)
    · rw [if_pos c_2] at hR
      refine lv_iconst (v := 0) hx hb dX4_hasHouse_16 (by decide) ?_
      exact ro_zret hx hb hr hk (Or.inl rfl) hR dX4_hasHouse_17
    · rw [if_neg c_2] at hR
      refine lv_iconst (v := 1) hx hb dX4_hasHouse_12 (by decide) ?_
      refine lv_goto (tgt := 17) hx hb dX4_hasHouse_13 (by decide) ?_
      exact ro_zret hx hb hr hk (Or.inr rfl) hR dX4_hasHouse_17

def mX4_firstWith_2 (n : Nat) (f : Nat → Int32) (y : Int32) (C : Int32 → Int32) : Nat → Int32 → Int32
  | 0, x3_2 => C x3_2
  | n_2 + 1, x3_2 => (if (mX5_at n f x3_2) = y then x3_2 else (mX4_firstWith_2 n f y C n_2 (x3_2 + 1)))
def mX4_firstWith (n : Nat) (f : Nat → Int32) (i y : Int32) : Int32 := (mX4_firstWith_2 n f y (fun x3_2 => (-5)) (tr 0 i) 0)
theorem kX4_firstWith : yX4_firstWith.cls ≠ "java/lang/invoke/MethodHandle" ∧ yX4_firstWith.cls ≠ "java/lang/invoke/VarHandle" ∧ (parseMethodDescriptor yX4_firstWith.desc).map (fun d => d.parameters.length) = some 3 := by decide +kernel
theorem jnX4_firstWith_X5_at : Cond.initialized yX5_at.cls ∈ wsX4_firstWith := (List.mem_of_getElem? (i := 2) rfl)
theorem jsX4_firstWith_X5_at : Cond.static yX5_at ∈ wsX4_firstWith := (List.mem_of_getElem? (i := 1) rfl)
set_option maxHeartbeats 4000000 in
set_option maxRecDepth 100000 in
theorem MX4_firstWith (l : Launch) (D : va_G) (q : Nat → ClassId) (a n : Nat) (f : Nat → Int32) (i y : Int32) (hn : n < 2147483648) : roM l D (tyq q) yX4_firstWith wsX4_firstWith ({ frames := 1, cells := 0, slots := 0, locals := 21 } : Room) [.ref a, .int i, .int y] (wR q a n f) (some (.int (mX4_firstWith n f i y))) := by
  obtain ⟨R, hR⟩ : ∃ z, (mX4_firstWith n f i y) = z := ⟨_, rfl⟩
  rw [hR]
  unfold mX4_firstWith at hR
  refine roM.of (cc := cX4_firstWith) (maxL := 4) (ret := (some .int)) (by decide) rfl (Nat.le_of_ble_eq_true rfl) ?_
  intro p e s m below meth c ls hx hb hr hk hml hown hts hP hD hG hl
  have hl : lv_has ls 4 [(0, .ref a), (1, .int i), (2, .int y)] := hl
  refine lv_iconst (v := 0) hx hb dX4_firstWith_0 (by decide) ?_
  refine lv_istore_n (lv' := [(3, .int 0), (0, .ref a), (1, .int i), (2, .int y)]) hx hb dX4_firstWith_1 rfl hl (by decide) rfl (fun ls hl => ?_)
  have key_2 : ∀ (n_2 : Nat) (x3_2 : Int32), tr x3_2 i = n_2 → mX4_firstWith_2 n f y (fun x3_2 => (-5)) n_2 x3_2 = R → ∀ ls : Array Slot, lv_has ls 4 [(3, .int x3_2), (0, .ref a), (1, .int i), (2, .int y)] → W p l e ({ frames := 1, cells := 0, slots := 0, locals := 21 } : Room) s m ([.ref a, .int i, .int y] : List Value).toArray below meth c s.heap [] 0 0 (MQ below (roQ (some (.int R))) ([.ref a, .int i, .int y] : List Value).toArray s 0 0 (fun _ => False)) (F0 m 2 ls []) := by
    intro n_2
    induction n_2 with
    | zero =>
      intro x3_2 hn_2 hR ls hl
      rw [mX4_firstWith_2] at hR
      refine lv_iload_n hx hb dX4_firstWith_2 rfl (lv_at hl 0 rfl) ?_
      refine lv_iload_n hx hb dX4_firstWith_3 rfl (lv_at hl 2 rfl) ?_
      refine lv_icmp_ge (tgt := 24) hx hb dX4_firstWith_4 (by decide) (fun c_1 => ?_) (fun c_1 => (tr0 hn_2 c_1).elim)
      refine lv_bipush (v := (-5)) hx hb dX4_firstWith_24 (by decide) ?_
      exact ro_iret hx hb hr hk hR dX4_firstWith_26
    | succ n_2 ih_2 =>
      intro x3_2 hn_2 hR ls hl
      rw [mX4_firstWith_2] at hR
      refine lv_iload_n hx hb dX4_firstWith_2 rfl (lv_at hl 0 rfl) ?_
      refine lv_iload_n hx hb dX4_firstWith_3 rfl (lv_at hl 2 rfl) ?_
      refine lv_icmp_ge (tgt := 24) hx hb dX4_firstWith_4 (by decide) (fun c_1 => (trS hn_2 c_1).elim) (fun c_1 => ?_)
      refine lv_aload_n hx hb dX4_firstWith_7 rfl (lv_at hl 1 rfl) ?_
      refine lv_iload_n hx hb dX4_firstWith_8 rfl (lv_at hl 0 rfl) ?_
      refine ro_SN (v := .int (mX5_at n f x3_2)) (rest := []) (As := [.ref a, .int x3_2]) hx hb hml hown hts hl (MX5_at l D q a n f x3_2 hn) ggX4_firstWith_X5_at rfl kX5_at ⟨Nat.le_of_ble_eq_true rfl, Nat.le_of_ble_eq_true rfl⟩ rfl rfl (nwm_1 hG) jnX4_firstWith_X5_at jsX4_firstWith_X5_at hP (dT hD) hG rfl rfl (Nat.le_of_ble_eq_true rfl) dX4_firstWith_9 ⟨Nat.zero_le _, Nat.zero_le _⟩ ?_
      refine lv_iload_n hx hb dX4_firstWith_12 rfl (lv_at hl 3 rfl) ?_
      refine lv_icmp_ne (tgt := 18) hx hb dX4_firstWith_13 (by decide) (fun c_2 => ?_) (fun c_2 => ?_)
      · rw [if_neg c_2] at hR
        refine lv_iinc (v := (x3_2 + 1)) (lv' := [(3, .int (x3_2 + 1)), (0, .ref a), (1, .int i), (2, .int y)]) hx hb dX4_firstWith_18 hl (k := 0) rfl rfl (by decide) rfl (fun ls hl => ?_)
        refine lv_goto (tgt := 2) hx hb dX4_firstWith_21 (by decide) ?_
        exact ih_2 (x3_2 + 1) (trN hn_2) hR ls (lv_sub hl [0, 1, 2, 3] rfl)
      · rw [if_pos c_2] at hR
        refine lv_iload_n hx hb dX4_firstWith_16 rfl (lv_at hl 0 rfl) ?_
        exact ro_iret hx hb hr hk hR dX4_firstWith_17
  exact key_2 _ 0 rfl hR ls hl

def mX4_millAt (v : Nat → Nat → Int32) (a1 : Int32) : Int32 := (mX4_firstWith 4 (v 4) (v 9 0) a1)
theorem kX4_millAt : yX4_millAt.cls = RX4 ∧ yX4_millAt.cls ≠ "java/lang/invoke/MethodHandle" ∧ yX4_millAt.cls ≠ "java/lang/invoke/VarHandle" ∧ (parseMethodDescriptor yX4_millAt.desc).map (fun d => d.parameters.length) = some 1 := by decide +kernel
theorem iX4_millAt_X4 : ∀ w ∈ wsX40, w ∈ wsX4_millAt := fun w h => (List.mem_cons_of_mem _ (List.mem_append_right _ h))
set_option maxHeartbeats 4000000 in
set_option maxRecDepth 100000 in
theorem MX4_millAt (l : Launch) (D : va_G) (q : Nat → ClassId) (h : Nat → Nat) (v : Nat → Nat → Int32) (a1 : Int32)  : roM l D (tyq q) yX4_millAt wsX4_millAt ({ frames := 2, cells := 0, slots := 0, locals := 44 } : Room) [.ref (h 0), .int a1] (wV q h v) (some (.int (mX4_millAt v a1))) := by
  obtain ⟨R, hR⟩ : ∃ z, (mX4_millAt v a1) = z := ⟨_, rfl⟩
  rw [hR]
  unfold mX4_millAt at hR
  refine roM.of (cc := cX4_millAt) (maxL := 2) (ret := (some .int)) (by decide) rfl (Nat.le_of_ble_eq_true rfl) ?_
  intro p e s m below meth c ls hx hb hr hk hml hown hts hP hD hG hl
  have hl : lv_has ls 2 [(0, .ref (h 0)), (1, .int a1)] := hl
  refine lv_aload_n hx hb dX4_millAt_0 rfl (lv_at hl 0 rfl) ?_
  refine va_get (D := D) (ci := 2) (v := .ref (h 5)) (C := RX4) (T := TX4) (N := 11) hx hb hts iX4_millAt_X4 hown hG.1 hP 0 rfl rfl 5 (by decide) (hts (.fieldLink RX4 31 "MillComplaints$Village" "millYards" "[I") (List.mem_of_getElem? (i := 1) rfl)) (fun _ h9 => h9) rfl dX4_millAt_1 ?_
  refine lv_aload_n hx hb dX4_millAt_4 rfl (lv_at hl 0 rfl) ?_
  refine va_get (D := D) (ci := 2) (v := .int (v 9 0)) (C := RX4) (T := TX4) (N := 11) hx hb hts iX4_millAt_X4 hown hG.1 hP 0 rfl rfl 3 (by decide) (hts (.fieldLink RX4 24 "MillComplaints$Village" "mills" "I") (List.mem_of_getElem? (i := 2) rfl)) (fun _ h9 => h9) rfl dX4_millAt_5 ?_
  refine lv_iload_n hx hb dX4_millAt_8 rfl (lv_at hl 1 rfl) ?_
  refine ro_S (v := .int (mX4_firstWith 4 (v 4) (v 9 0) a1)) (rest := []) (As := [.ref (h 5), .int (v 9 0), .int a1]) hx hb hml hown hts hl (MX4_firstWith l D q (h 5) 4 (v 4) (v 9 0) a1 (by decide)) gX4_millAt_X4_firstWith rfl kX4_firstWith ⟨Nat.le_of_ble_eq_true rfl, Nat.le_of_ble_eq_true rfl⟩ rfl rfl (hP.sub (ws' := (wR q (h 5) 4 (v 4))) [5] rfl) (dT (hD.sub (ws' := (wR q (h 5) 4 (v 4))) [5] (by decide) rfl)) hG rfl rfl (Nat.le_of_ble_eq_true rfl) dX4_millAt_9 ⟨Nat.zero_le _, Nat.zero_le _⟩ ?_
  exact ro_iret hx hb hr hk hR dX4_millAt_12

def mX4_houseAt (v : Nat → Nat → Int32) (a1 : Int32) : Int32 := (mX4_firstWith 10 (v 6) (v 10 0) a1)
theorem kX4_houseAt : yX4_houseAt.cls = RX4 ∧ yX4_houseAt.cls ≠ "java/lang/invoke/MethodHandle" ∧ yX4_houseAt.cls ≠ "java/lang/invoke/VarHandle" ∧ (parseMethodDescriptor yX4_houseAt.desc).map (fun d => d.parameters.length) = some 1 := by decide +kernel
theorem iX4_houseAt_X4 : ∀ w ∈ wsX40, w ∈ wsX4_houseAt := fun w h => (List.mem_cons_of_mem _ (List.mem_append_right _ h))
set_option maxHeartbeats 4000000 in
set_option maxRecDepth 100000 in
theorem MX4_houseAt (l : Launch) (D : va_G) (q : Nat → ClassId) (h : Nat → Nat) (v : Nat → Nat → Int32) (a1 : Int32)  : roM l D (tyq q) yX4_houseAt wsX4_houseAt ({ frames := 2, cells := 0, slots := 0, locals := 44 } : Room) [.ref (h 0), .int a1] (wV q h v) (some (.int (mX4_houseAt v a1))) := by
  obtain ⟨R, hR⟩ : ∃ z, (mX4_houseAt v a1) = z := ⟨_, rfl⟩
  rw [hR]
  unfold mX4_houseAt at hR
  refine roM.of (cc := cX4_houseAt) (maxL := 2) (ret := (some .int)) (by decide) rfl (Nat.le_of_ble_eq_true rfl) ?_
  intro p e s m below meth c ls hx hb hr hk hml hown hts hP hD hG hl
  have hl : lv_has ls 2 [(0, .ref (h 0)), (1, .int a1)] := hl
  refine lv_aload_n hx hb dX4_houseAt_0 rfl (lv_at hl 0 rfl) ?_
  refine va_get (D := D) (ci := 2) (v := .ref (h 7)) (C := RX4) (T := TX4) (N := 11) hx hb hts iX4_houseAt_X4 hown hG.1 hP 0 rfl rfl 8 (by decide) (hts (.fieldLink RX4 40 "MillComplaints$Village" "houseYards" "[I") (List.mem_of_getElem? (i := 1) rfl)) (fun _ h9 => h9) rfl dX4_houseAt_1 ?_
  refine lv_aload_n hx hb dX4_houseAt_4 rfl (lv_at hl 0 rfl) ?_
  refine va_get (D := D) (ci := 2) (v := .int (v 10 0)) (C := RX4) (T := TX4) (N := 11) hx hb hts iX4_houseAt_X4 hown hG.1 hP 0 rfl rfl 7 (by decide) (hts (.fieldLink RX4 37 "MillComplaints$Village" "houses" "I") (List.mem_of_getElem? (i := 2) rfl)) (fun _ h9 => h9) rfl dX4_houseAt_5 ?_
  refine lv_iload_n hx hb dX4_houseAt_8 rfl (lv_at hl 1 rfl) ?_
  refine ro_S (v := .int (mX4_firstWith 10 (v 6) (v 10 0) a1)) (rest := []) (As := [.ref (h 7), .int (v 10 0), .int a1]) hx hb hml hown hts hl (MX4_firstWith l D q (h 7) 10 (v 6) (v 10 0) a1 (by decide)) gX4_houseAt_X4_firstWith rfl kX4_firstWith ⟨Nat.le_of_ble_eq_true rfl, Nat.le_of_ble_eq_true rfl⟩ rfl rfl (hP.sub (ws' := (wR q (h 7) 10 (v 6))) [7] rfl) (dT (hD.sub (ws' := (wR q (h 7) 10 (v 6))) [7] (by decide) rfl)) hG rfl rfl (Nat.le_of_ble_eq_true rfl) dX4_houseAt_9 ⟨Nat.zero_le _, Nat.zero_le _⟩ ?_
  exact ro_iret hx hb hr hk hR dX4_houseAt_12

def mX4_isFree (v : Nat → Nat → Int32) (a1 : Int32) : Int32 := (if (mX4_millAt v a1) = (-5) then (if (mX4_houseAt v a1) = (-5) then 1 else 0) else 0)
theorem kX4_isFree : yX4_isFree.cls = RX4 ∧ yX4_isFree.cls ≠ "java/lang/invoke/MethodHandle" ∧ yX4_isFree.cls ≠ "java/lang/invoke/VarHandle" ∧ (parseMethodDescriptor yX4_isFree.desc).map (fun d => d.parameters.length) = some 1 := by decide +kernel
set_option maxHeartbeats 4000000 in
set_option maxRecDepth 100000 in
theorem MX4_isFree (l : Launch) (D : va_G) (q : Nat → ClassId) (h : Nat → Nat) (v : Nat → Nat → Int32) (a1 : Int32)  : roM l D (tyq q) yX4_isFree wsX4_isFree ({ frames := 3, cells := 0, slots := 0, locals := 65 } : Room) [.ref (h 0), .int a1] (wV q h v) (some (.int (mX4_isFree v a1))) := by
  obtain ⟨R, hR⟩ : ∃ z, (mX4_isFree v a1) = z := ⟨_, rfl⟩
  rw [hR]
  unfold mX4_isFree at hR
  refine roM.of (cc := cX4_isFree) (maxL := 2) (ret := (some .boolean)) (by decide) rfl (Nat.le_of_ble_eq_true rfl) ?_
  intro p e s m below meth c ls hx hb hr hk hml hown hts hP hD hG hl
  have hl : lv_has ls 2 [(0, .ref (h 0)), (1, .int a1)] := hl
  refine lv_aload_n hx hb dX4_isFree_0 rfl (lv_at hl 0 rfl) ?_
  refine lv_iload_n hx hb dX4_isFree_1 rfl (lv_at hl 1 rfl) ?_
  refine ro_V (v := .int (mX4_millAt v a1)) (rest := []) (As := [.int a1]) hx hb hml hown hts hl (MX4_millAt l D q h v a1) gX4_isFree_X4_millAt rfl kX4_millAt ⟨Nat.le_of_ble_eq_true rfl, Nat.le_of_ble_eq_true rfl⟩ rfl rfl hP (dT hD) hG (ci := 2) rfl rfl rfl rfl (Nat.le_of_ble_eq_true rfl) dX4_isFree_2 ⟨Nat.zero_le _, Nat.zero_le _⟩ ?_
  refine lv_bipush (v := (-5)) hx hb dX4_isFree_5 (by decide) ?_
  refine lv_icmp_ne (tgt := 24) hx hb dX4_isFree_7 (by decide) (fun c_1 => ?_) (fun c_1 => ?_)
  · rw [if_neg c_1] at hR
    refine lv_iconst (v := 0) hx hb dX4_isFree_24 (by decide) ?_
    exact ro_zret hx hb hr hk (Or.inl rfl) hR dX4_isFree_25
  · rw [if_pos c_1] at hR
    refine lv_aload_n hx hb dX4_isFree_10 rfl (lv_at hl 0 rfl) ?_
    refine lv_iload_n hx hb dX4_isFree_11 rfl (lv_at hl 1 rfl) ?_
    refine ro_V (v := .int (mX4_houseAt v a1)) (rest := []) (As := [.int a1]) hx hb hml hown hts hl (MX4_houseAt l D q h v a1) gX4_isFree_X4_houseAt rfl kX4_houseAt ⟨Nat.le_of_ble_eq_true rfl, Nat.le_of_ble_eq_true rfl⟩ rfl rfl hP (dT hD) hG (ci := 2) rfl rfl rfl rfl (Nat.le_of_ble_eq_true rfl) dX4_isFree_12 ⟨Nat.zero_le _, Nat.zero_le _⟩ ?_
    refine lv_bipush (v := (-5)) hx hb dX4_isFree_15 (by decide) ?_
    refine lv_icmp_ne (tgt := 24) hx hb dX4_isFree_17 (by decide) (fun c_2 => ?_) (fun c_2 => ?_)
    · rw [if_neg c_2] at hR
      refine lv_iconst (v := 0) hx hb dX4_isFree_24 (by decide) ?_
      exact ro_zret hx hb hr hk (Or.inl rfl) hR dX4_isFree_25
    · rw [if_pos c_2] at hR
      refine lv_iconst (v := 1) hx hb dX4_isFree_20 (by decide) ?_
      refine lv_goto (tgt := 25) hx hb dX4_isFree_21 (by decide) ?_
      exact ro_zret hx hb hr hk (Or.inr rfl) hR dX4_isFree_25

def mX4_setting (v : Nat → Nat → Int32) (a1 : Int32) : Int32 := (mX5_at 4 (v 1) a1)
theorem kX4_setting : yX4_setting.cls = RX4 ∧ yX4_setting.cls ≠ "java/lang/invoke/MethodHandle" ∧ yX4_setting.cls ≠ "java/lang/invoke/VarHandle" ∧ (parseMethodDescriptor yX4_setting.desc).map (fun d => d.parameters.length) = some 1 := by decide +kernel
theorem iX4_setting_X4 : ∀ w ∈ wsX40, w ∈ wsX4_setting := fun w h => (List.mem_cons_of_mem _ (List.mem_append_right _ h))
theorem jnX4_setting_X5_at : Cond.initialized yX5_at.cls ∈ wsX4_setting := (List.mem_of_getElem? (i := 3) rfl)
theorem jsX4_setting_X5_at : Cond.static yX5_at ∈ wsX4_setting := (List.mem_of_getElem? (i := 2) rfl)
set_option maxHeartbeats 4000000 in
set_option maxRecDepth 100000 in
theorem MX4_setting (l : Launch) (D : va_G) (q : Nat → ClassId) (h : Nat → Nat) (v : Nat → Nat → Int32) (a1 : Int32)  : roM l D (tyq q) yX4_setting wsX4_setting ({ frames := 1, cells := 0, slots := 0, locals := 21 } : Room) [.ref (h 0), .int a1] (wV q h v) (some (.int (mX4_setting v a1))) := by
  obtain ⟨R, hR⟩ : ∃ z, (mX4_setting v a1) = z := ⟨_, rfl⟩
  rw [hR]
  unfold mX4_setting at hR
  refine roM.of (cc := cX4_setting) (maxL := 2) (ret := (some .int)) (by decide) rfl (Nat.le_of_ble_eq_true rfl) ?_
  intro p e s m below meth c ls hx hb hr hk hml hown hts hP hD hG hl
  have hl : lv_has ls 2 [(0, .ref (h 0)), (1, .int a1)] := hl
  refine lv_aload_n hx hb dX4_setting_0 rfl (lv_at hl 0 rfl) ?_
  refine va_get (D := D) (ci := 2) (v := .ref (h 2)) (C := RX4) (T := TX4) (N := 11) hx hb hts iX4_setting_X4 hown hG.1 hP 0 rfl rfl 1 (by decide) (hts (.fieldLink RX4 18 "MillComplaints$Village" "settings" "[I") (List.mem_of_getElem? (i := 1) rfl)) (fun _ h9 => h9) rfl dX4_setting_1 ?_
  refine lv_iload_n hx hb dX4_setting_4 rfl (lv_at hl 1 rfl) ?_
  refine ro_SN (v := .int (mX5_at 4 (v 1) a1)) (rest := []) (As := [.ref (h 2), .int a1]) hx hb hml hown hts hl (MX5_at l D q (h 2) 4 (v 1) a1 (by decide)) ggX4_setting_X5_at rfl kX5_at ⟨Nat.le_of_ble_eq_true rfl, Nat.le_of_ble_eq_true rfl⟩ rfl rfl (nwm_1 hG) jnX4_setting_X5_at jsX4_setting_X5_at (hP.sub (ws' := (wR q (h 2) 4 (v 1))) [2] rfl) (dT (hD.sub (ws' := (wR q (h 2) 4 (v 1))) [2] (by decide) rfl)) hG rfl rfl (Nat.le_of_ble_eq_true rfl) dX4_setting_5 ⟨Nat.zero_le _, Nat.zero_le _⟩ ?_
  exact ro_iret hx hb hr hk hR dX4_setting_8

def mX4_windAt (v : Nat → Nat → Int32) (a1 : Int32) : Int32 := (mX5_at 24 (v 0) a1)
theorem kX4_windAt : yX4_windAt.cls = RX4 ∧ yX4_windAt.cls ≠ "java/lang/invoke/MethodHandle" ∧ yX4_windAt.cls ≠ "java/lang/invoke/VarHandle" ∧ (parseMethodDescriptor yX4_windAt.desc).map (fun d => d.parameters.length) = some 1 := by decide +kernel
theorem iX4_windAt_X4 : ∀ w ∈ wsX40, w ∈ wsX4_windAt := fun w h => (List.mem_cons_of_mem _ (List.mem_append_right _ h))
theorem jnX4_windAt_X5_at : Cond.initialized yX5_at.cls ∈ wsX4_windAt := (List.mem_of_getElem? (i := 3) rfl)
theorem jsX4_windAt_X5_at : Cond.static yX5_at ∈ wsX4_windAt := (List.mem_of_getElem? (i := 2) rfl)
set_option maxHeartbeats 4000000 in
set_option maxRecDepth 100000 in
theorem MX4_windAt (l : Launch) (D : va_G) (q : Nat → ClassId) (h : Nat → Nat) (v : Nat → Nat → Int32) (a1 : Int32)  : roM l D (tyq q) yX4_windAt wsX4_windAt ({ frames := 1, cells := 0, slots := 0, locals := 21 } : Room) [.ref (h 0), .int a1] (wV q h v) (some (.int (mX4_windAt v a1))) := by
  obtain ⟨R, hR⟩ : ∃ z, (mX4_windAt v a1) = z := ⟨_, rfl⟩
  rw [hR]
  unfold mX4_windAt at hR
  refine roM.of (cc := cX4_windAt) (maxL := 2) (ret := (some .int)) (by decide) rfl (Nat.le_of_ble_eq_true rfl) ?_
  intro p e s m below meth c ls hx hb hr hk hml hown hts hP hD hG hl
  have hl : lv_has ls 2 [(0, .ref (h 0)), (1, .int a1)] := hl
  refine lv_aload_n hx hb dX4_windAt_0 rfl (lv_at hl 0 rfl) ?_
  refine va_get (D := D) (ci := 2) (v := .ref (h 1)) (C := RX4) (T := TX4) (N := 11) hx hb hts iX4_windAt_X4 hown hG.1 hP 0 rfl rfl 0 (by decide) (hts (.fieldLink RX4 9 "MillComplaints$Village" "winds" "[I") (List.mem_of_getElem? (i := 1) rfl)) (fun _ h9 => h9) rfl dX4_windAt_1 ?_
  refine lv_iload_n hx hb dX4_windAt_4 rfl (lv_at hl 1 rfl) ?_
  refine ro_SN (v := .int (mX5_at 24 (v 0) a1)) (rest := []) (As := [.ref (h 1), .int a1]) hx hb hml hown hts hl (MX5_at l D q (h 1) 24 (v 0) a1 (by decide)) ggX4_windAt_X5_at rfl kX5_at ⟨Nat.le_of_ble_eq_true rfl, Nat.le_of_ble_eq_true rfl⟩ rfl rfl (nwm_1 hG) jnX4_windAt_X5_at jsX4_windAt_X5_at (hP.sub (ws' := (wR q (h 1) 24 (v 0))) [1] rfl) (dT (hD.sub (ws' := (wR q (h 1) 24 (v 0))) [1] (by decide) rfl)) hG rfl rfl (Nat.le_of_ble_eq_true rfl) dX4_windAt_5 ⟨Nat.zero_le _, Nat.zero_le _⟩ ?_
  exact ro_iret hx hb hr hk hR dX4_windAt_8

def mX4_blows (v : Nat → Nat → Int32) (a1 : Int32) : Int32 := (if (mX4_windAt v a1) < 2 then 0 else 1)
theorem kX4_blows : yX4_blows.cls = RX4 ∧ yX4_blows.cls ≠ "java/lang/invoke/MethodHandle" ∧ yX4_blows.cls ≠ "java/lang/invoke/VarHandle" ∧ (parseMethodDescriptor yX4_blows.desc).map (fun d => d.parameters.length) = some 1 := by decide +kernel
set_option maxHeartbeats 4000000 in
set_option maxRecDepth 100000 in
theorem MX4_blows (l : Launch) (D : va_G) (q : Nat → ClassId) (h : Nat → Nat) (v : Nat → Nat → Int32) (a1 : Int32)  : roM l D (tyq q) yX4_blows wsX4_blows ({ frames := 2, cells := 0, slots := 0, locals := 42 } : Room) [.ref (h 0), .int a1] (wV q h v) (some (.int (mX4_blows v a1))) := by
  obtain ⟨R, hR⟩ : ∃ z, (mX4_blows v a1) = z := ⟨_, rfl⟩
  rw [hR]
  unfold mX4_blows at hR
  refine roM.of (cc := cX4_blows) (maxL := 2) (ret := (some .boolean)) (by decide) rfl (Nat.le_of_ble_eq_true rfl) ?_
  intro p e s m below meth c ls hx hb hr hk hml hown hts hP hD hG hl
  have hl : lv_has ls 2 [(0, .ref (h 0)), (1, .int a1)] := hl
  refine lv_aload_n hx hb dX4_blows_0 rfl (lv_at hl 0 rfl) ?_
  refine lv_iload_n hx hb dX4_blows_1 rfl (lv_at hl 1 rfl) ?_
  refine ro_V (v := .int (mX4_windAt v a1)) (rest := []) (As := [.int a1]) hx hb hml hown hts hl (MX4_windAt l D q h v a1) gX4_blows_X4_windAt rfl kX4_windAt ⟨Nat.le_of_ble_eq_true rfl, Nat.le_of_ble_eq_true rfl⟩ rfl rfl hP (dT hD) hG (ci := 2) rfl rfl rfl rfl (Nat.le_of_ble_eq_true rfl) dX4_blows_2 ⟨Nat.zero_le _, Nat.zero_le _⟩ ?_
  refine lv_iconst (v := 2) hx hb dX4_blows_5 (by decide) ?_
  refine lv_icmp_lt (tgt := 13) hx hb dX4_blows_6 (by decide) (fun c_1 => ?_) (fun c_1 => ?_)
  · rw [if_pos c_1] at hR
    refine lv_iconst (v := 0) hx hb dX4_blows_13 (by decide) ?_
    exact ro_zret hx hb hr hk (Or.inl rfl) hR dX4_blows_14
  · rw [if_neg c_1] at hR
    refine lv_iconst (v := 1) hx hb dX4_blows_9 (by decide) ?_
    refine lv_goto (tgt := 14) hx hb dX4_blows_10 (by decide) ?_
    exact ro_zret hx hb hr hk (Or.inr rfl) hR dX4_blows_14

def mX4_tiedHours (v : Nat → Nat → Int32) (a1 : Int32) : Int32 := (mX5_at 4 (v 5) a1)
theorem kX4_tiedHours : yX4_tiedHours.cls = RX4 ∧ yX4_tiedHours.cls ≠ "java/lang/invoke/MethodHandle" ∧ yX4_tiedHours.cls ≠ "java/lang/invoke/VarHandle" ∧ (parseMethodDescriptor yX4_tiedHours.desc).map (fun d => d.parameters.length) = some 1 := by decide +kernel
theorem iX4_tiedHours_X4 : ∀ w ∈ wsX40, w ∈ wsX4_tiedHours := fun w h => (List.mem_cons_of_mem _ (List.mem_append_right _ h))
theorem jnX4_tiedHours_X5_at : Cond.initialized yX5_at.cls ∈ wsX4_tiedHours := (List.mem_of_getElem? (i := 3) rfl)
theorem jsX4_tiedHours_X5_at : Cond.static yX5_at ∈ wsX4_tiedHours := (List.mem_of_getElem? (i := 2) rfl)
set_option maxHeartbeats 4000000 in
set_option maxRecDepth 100000 in
theorem MX4_tiedHours (l : Launch) (D : va_G) (q : Nat → ClassId) (h : Nat → Nat) (v : Nat → Nat → Int32) (a1 : Int32)  : roM l D (tyq q) yX4_tiedHours wsX4_tiedHours ({ frames := 1, cells := 0, slots := 0, locals := 21 } : Room) [.ref (h 0), .int a1] (wV q h v) (some (.int (mX4_tiedHours v a1))) := by
  obtain ⟨R, hR⟩ : ∃ z, (mX4_tiedHours v a1) = z := ⟨_, rfl⟩
  rw [hR]
  unfold mX4_tiedHours at hR
  refine roM.of (cc := cX4_tiedHours) (maxL := 2) (ret := (some .int)) (by decide) rfl (Nat.le_of_ble_eq_true rfl) ?_
  intro p e s m below meth c ls hx hb hr hk hml hown hts hP hD hG hl
  have hl : lv_has ls 2 [(0, .ref (h 0)), (1, .int a1)] := hl
  refine lv_aload_n hx hb dX4_tiedHours_0 rfl (lv_at hl 0 rfl) ?_
  refine va_get (D := D) (ci := 2) (v := .ref (h 6)) (C := RX4) (T := TX4) (N := 11) hx hb hts iX4_tiedHours_X4 hown hG.1 hP 0 rfl rfl 6 (by decide) (hts (.fieldLink RX4 34 "MillComplaints$Village" "tied" "[I") (List.mem_of_getElem? (i := 1) rfl)) (fun _ h9 => h9) rfl dX4_tiedHours_1 ?_
  refine lv_iload_n hx hb dX4_tiedHours_4 rfl (lv_at hl 1 rfl) ?_
  refine ro_SN (v := .int (mX5_at 4 (v 5) a1)) (rest := []) (As := [.ref (h 6), .int a1]) hx hb hml hown hts hl (MX5_at l D q (h 6) 4 (v 5) a1 (by decide)) ggX4_tiedHours_X5_at rfl kX5_at ⟨Nat.le_of_ble_eq_true rfl, Nat.le_of_ble_eq_true rfl⟩ rfl rfl (nwm_1 hG) jnX4_tiedHours_X5_at jsX4_tiedHours_X5_at (hP.sub (ws' := (wR q (h 6) 4 (v 5))) [6] rfl) (dT (hD.sub (ws' := (wR q (h 6) 4 (v 5))) [6] (by decide) rfl)) hG rfl rfl (Nat.le_of_ble_eq_true rfl) dX4_tiedHours_5 ⟨Nat.zero_le _, Nat.zero_le _⟩ ?_
  exact ro_iret hx hb hr hk hR dX4_tiedHours_8

def mX4_tiedHoursOfAll_4 (v : Nat → Nat → Int32) (C : Int32 → Int32 → Int32) : Nat → Int32 → Int32 → Int32
  | 0, x2_4, x1_4 => C x2_4 x1_4
  | n_4 + 1, x2_4, x1_4 => (mX4_tiedHoursOfAll_4 v C n_4 (x2_4 + 1) (x1_4 + (mJ6_bitCount_0f7a4 (mX4_tiedHours v x2_4))))
def mX4_tiedHoursOfAll (v : Nat → Nat → Int32) : Int32 := (mX4_tiedHoursOfAll_4 v (fun x2_4 x1_4 => x1_4) (tr 0 (v 9 0)) 0 0)
theorem kX4_tiedHoursOfAll : yX4_tiedHoursOfAll.cls = RX4 ∧ yX4_tiedHoursOfAll.cls ≠ "java/lang/invoke/MethodHandle" ∧ yX4_tiedHoursOfAll.cls ≠ "java/lang/invoke/VarHandle" ∧ (parseMethodDescriptor yX4_tiedHoursOfAll.desc).map (fun d => d.parameters.length) = some 0 := by decide +kernel
theorem iX4_tiedHoursOfAll_X4 : ∀ w ∈ wsX40, w ∈ wsX4_tiedHoursOfAll := fun w h => (List.mem_cons_of_mem _ (List.mem_append_right _ h))
set_option maxHeartbeats 4000000 in
set_option maxRecDepth 100000 in
theorem MX4_tiedHoursOfAll (l : Launch) (D : va_G) (q : Nat → ClassId) (h : Nat → Nat) (v : Nat → Nat → Int32)   : roM l D (tyq q) yX4_tiedHoursOfAll wsX4_tiedHoursOfAll ({ frames := 2, cells := 0, slots := 0, locals := 42 } : Room) [.ref (h 0)] (wV q h v) (some (.int (mX4_tiedHoursOfAll v))) := by
  obtain ⟨R, hR⟩ : ∃ z, (mX4_tiedHoursOfAll v) = z := ⟨_, rfl⟩
  rw [hR]
  unfold mX4_tiedHoursOfAll at hR
  refine roM.of (cc := cX4_tiedHoursOfAll) (maxL := 3) (ret := (some .int)) (by decide) rfl (Nat.le_of_ble_eq_true rfl) ?_
  intro p e s m below meth c ls hx hb hr hk hml hown hts hP hD hG hl
  have hl : lv_has ls 3 [(0, .ref (h 0))] := hl
  refine lv_iconst (v := 0) hx hb dX4_tiedHoursOfAll_0 (by decide) ?_
  refine lv_istore_n (lv' := [(1, .int 0), (0, .ref (h 0))]) hx hb dX4_tiedHoursOfAll_1 rfl hl (by decide) rfl (fun ls hl => ?_)
  refine lv_iconst (v := 0) hx hb dX4_tiedHoursOfAll_2 (by decide) ?_
  refine lv_istore_n (lv' := [(2, .int 0), (1, .int 0), (0, .ref (h 0))]) hx hb dX4_tiedHoursOfAll_3 rfl hl (by decide) rfl (fun ls hl => ?_)
  have key_4 : ∀ (n_4 : Nat) (x2_4 : Int32) (x1_4 : Int32), tr x2_4 (v 9 0) = n_4 → mX4_tiedHoursOfAll_4 v (fun x2_4 x1_4 => x1_4) n_4 x2_4 x1_4 = R → ∀ ls : Array Slot, lv_has ls 3 [(2, .int x2_4), (1, .int x1_4), (0, .ref (h 0))] → W p l e ({ frames := 2, cells := 0, slots := 0, locals := 42 } : Room) s m ([.ref (h 0)] : List Value).toArray below meth c s.heap [] 0 0 (MQ below (roQ (some (.int R))) ([.ref (h 0)] : List Value).toArray s 0 0 (fun _ => False)) (F0 m 4 ls []) := by
    intro n_4
    induction n_4 with
    | zero =>
      intro x2_4 x1_4 hn_4 hR ls hl
      rw [mX4_tiedHoursOfAll_4] at hR
      refine lv_iload_n hx hb dX4_tiedHoursOfAll_4 rfl (lv_at hl 0 rfl) ?_
      refine lv_aload_n hx hb dX4_tiedHoursOfAll_5 rfl (lv_at hl 2 rfl) ?_
      refine va_get (D := D) (ci := 2) (v := .int (v 9 0)) (C := RX4) (T := TX4) (N := 11) hx hb hts iX4_tiedHoursOfAll_X4 hown hG.1 hP 0 rfl rfl 3 (by decide) (hts (.fieldLink RX4 24 "MillComplaints$Village" "mills" "I") (List.mem_of_getElem? (i := 1) rfl)) (fun _ h9 => h9) rfl dX4_tiedHoursOfAll_6 ?_
      refine lv_icmp_ge (tgt := 29) hx hb dX4_tiedHoursOfAll_9 (by decide) (fun c_1 => ?_) (fun c_1 => (tr0 hn_4 c_1).elim)
      refine lv_iload_n hx hb dX4_tiedHoursOfAll_29 rfl (lv_at hl 1 rfl) ?_
      exact ro_iret hx hb hr hk hR dX4_tiedHoursOfAll_30
    | succ n_4 ih_4 =>
      intro x2_4 x1_4 hn_4 hR ls hl
      rw [mX4_tiedHoursOfAll_4] at hR
      refine lv_iload_n hx hb dX4_tiedHoursOfAll_4 rfl (lv_at hl 0 rfl) ?_
      refine lv_aload_n hx hb dX4_tiedHoursOfAll_5 rfl (lv_at hl 2 rfl) ?_
      refine va_get (D := D) (ci := 2) (v := .int (v 9 0)) (C := RX4) (T := TX4) (N := 11) hx hb hts iX4_tiedHoursOfAll_X4 hown hG.1 hP 0 rfl rfl 3 (by decide) (hts (.fieldLink RX4 24 "MillComplaints$Village" "mills" "I") (List.mem_of_getElem? (i := 1) rfl)) (fun _ h9 => h9) rfl dX4_tiedHoursOfAll_6 ?_
      refine lv_icmp_ge (tgt := 29) hx hb dX4_tiedHoursOfAll_9 (by decide) (fun c_1 => (trS hn_4 c_1).elim) (fun c_1 => ?_)
      refine lv_iload_n hx hb dX4_tiedHoursOfAll_12 rfl (lv_at hl 1 rfl) ?_
      refine lv_aload_n hx hb dX4_tiedHoursOfAll_13 rfl (lv_at hl 2 rfl) ?_
      refine lv_iload_n hx hb dX4_tiedHoursOfAll_14 rfl (lv_at hl 0 rfl) ?_
      refine ro_V (v := .int (mX4_tiedHours v x2_4)) (rest := [.int x1_4]) (As := [.int x2_4]) hx hb hml hown hts hl (MX4_tiedHours l D q h v x2_4) gX4_tiedHoursOfAll_X4_tiedHours rfl kX4_tiedHours ⟨Nat.le_of_ble_eq_true rfl, Nat.le_of_ble_eq_true rfl⟩ rfl rfl hP (dT hD) hG (ci := 2) rfl rfl rfl rfl (Nat.le_of_ble_eq_true rfl) dX4_tiedHoursOfAll_15 ⟨Nat.zero_le _, Nat.zero_le _⟩ ?_
      refine ro_S (v := .int (mJ6_bitCount_0f7a4 (mX4_tiedHours v x2_4))) (rest := [.int x1_4]) (As := [.int (mX4_tiedHours v x2_4)]) hx hb hml hown hts hl (MJ6_bitCount_0f7a4 l D q (mX4_tiedHours v x2_4)) gX4_tiedHoursOfAll_J6_bitCount_0f7a4 rfl kJ6_bitCount_0f7a4 ⟨Nat.le_of_ble_eq_true rfl, Nat.le_of_ble_eq_true rfl⟩ rfl rfl (hP.sub (ws' := []) [] rfl) (dT (hD.sub (ws' := []) [] (by decide) rfl)) hG rfl rfl (Nat.le_of_ble_eq_true rfl) dX4_tiedHoursOfAll_18 ⟨Nat.zero_le _, Nat.zero_le _⟩ ?_
      refine lv_iadd hx hb dX4_tiedHoursOfAll_21 ?_
      refine lv_istore_n (lv' := [(1, .int (x1_4 + (mJ6_bitCount_0f7a4 (mX4_tiedHours v x2_4)))), (2, .int x2_4), (0, .ref (h 0))]) hx hb dX4_tiedHoursOfAll_22 rfl hl (by decide) rfl (fun ls hl => ?_)
      refine lv_iinc (v := (x2_4 + 1)) (lv' := [(2, .int (x2_4 + 1)), (1, .int (x1_4 + (mJ6_bitCount_0f7a4 (mX4_tiedHours v x2_4)))), (0, .ref (h 0))]) hx hb dX4_tiedHoursOfAll_23 hl (k := 1) rfl rfl (by decide) rfl (fun ls hl => ?_)
      refine lv_goto (tgt := 4) hx hb dX4_tiedHoursOfAll_26 (by decide) ?_
      exact ih_4 (x2_4 + 1) (x1_4 + (mJ6_bitCount_0f7a4 (mX4_tiedHours v x2_4))) (trN hn_4) hR ls (lv_sub hl [0, 1, 2] rfl)
  exact key_4 _ 0 0 rfl hR ls hl

def mX4_isTied (v : Nat → Nat → Int32) (a1 a2 : Int32) : Int32 := (if (((mX4_tiedHours v a1) >>> (a2 &&& 31)) &&& 1) = 0 then 0 else 1)
theorem kX4_isTied : yX4_isTied.cls = RX4 ∧ yX4_isTied.cls ≠ "java/lang/invoke/MethodHandle" ∧ yX4_isTied.cls ≠ "java/lang/invoke/VarHandle" ∧ (parseMethodDescriptor yX4_isTied.desc).map (fun d => d.parameters.length) = some 2 := by decide +kernel
set_option maxHeartbeats 4000000 in
set_option maxRecDepth 100000 in
theorem MX4_isTied (l : Launch) (D : va_G) (q : Nat → ClassId) (h : Nat → Nat) (v : Nat → Nat → Int32) (a1 a2 : Int32)  : roM l D (tyq q) yX4_isTied wsX4_isTied ({ frames := 2, cells := 0, slots := 0, locals := 42 } : Room) [.ref (h 0), .int a1, .int a2] (wV q h v) (some (.int (mX4_isTied v a1 a2))) := by
  obtain ⟨R, hR⟩ : ∃ z, (mX4_isTied v a1 a2) = z := ⟨_, rfl⟩
  rw [hR]
  unfold mX4_isTied at hR
  refine roM.of (cc := cX4_isTied) (maxL := 3) (ret := (some .boolean)) (by decide) rfl (Nat.le_of_ble_eq_true rfl) ?_
  intro p e s m below meth c ls hx hb hr hk hml hown hts hP hD hG hl
  have hl : lv_has ls 3 [(0, .ref (h 0)), (1, .int a1), (2, .int a2)] := hl
  refine lv_aload_n hx hb dX4_isTied_0 rfl (lv_at hl 0 rfl) ?_
  refine lv_iload_n hx hb dX4_isTied_1 rfl (lv_at hl 1 rfl) ?_
  refine ro_V (v := .int (mX4_tiedHours v a1)) (rest := []) (As := [.int a1]) hx hb hml hown hts hl (MX4_tiedHours l D q h v a1) gX4_isTied_X4_tiedHours rfl kX4_tiedHours ⟨Nat.le_of_ble_eq_true rfl, Nat.le_of_ble_eq_true rfl⟩ rfl rfl hP (dT hD) hG (ci := 2) rfl rfl rfl rfl (Nat.le_of_ble_eq_true rfl) dX4_isTied_2 ⟨Nat.zero_le _, Nat.zero_le _⟩ ?_
  refine lv_iload_n hx hb dX4_isTied_5 rfl (lv_at hl 2 rfl) ?_
  refine lv_ishr hx hb dX4_isTied_6 ?_
  refine lv_iconst (v := 1) hx hb dX4_isTied_7 (by decide) ?_
  refine lv_iand hx hb dX4_isTied_8 ?_
  refine lv_if_eq (tgt := 16) hx hb dX4_isTied_9 (by decide) (fun c_1 => ?_) (fun c_1 => ?_)
  · rw [if_pos c_1] at hR
    refine lv_iconst (v := 0) hx hb dX4_isTied_16 (by decide) ?_
    exact ro_zret hx hb hr hk (Or.inl rfl) hR dX4_isTied_17
  · rw [if_neg c_1] at hR
    refine lv_iconst (v := 1) hx hb dX4_isTied_12 (by decide) ?_
    refine lv_goto (tgt := 17) hx hb dX4_isTied_13 (by decide) ?_
    exact ro_zret hx hb hr hk (Or.inr rfl) hR dX4_isTied_17

def mX4_tie (v : Nat → Nat → Int32) (a1 a2 : Int32) : (Nat → Nat → Int32) := (lt (mX5_put 4 (v 5) a1 ((mX4_tiedHours v a1) ||| (1 <<< (a2 &&& 31)))) (fun q_1 => (lt (setA v 5 q_1) (fun v_2 => v_2))))
theorem kX4_tie : yX4_tie.cls = RX4 ∧ yX4_tie.cls ≠ "java/lang/invoke/MethodHandle" ∧ yX4_tie.cls ≠ "java/lang/invoke/VarHandle" ∧ (parseMethodDescriptor yX4_tie.desc).map (fun d => d.parameters.length) = some 2 := by decide +kernel
theorem iX4_tie_X4 : ∀ w ∈ wsX40, w ∈ wsX4_tie := fun w h => (List.mem_cons_of_mem _ (List.mem_append_right _ h))
theorem jnX4_tie_X5_put : Cond.initialized yX5_put.cls ∈ wsX4_tie := (List.mem_of_getElem? (i := 8) rfl)
theorem jsX4_tie_X5_put : Cond.static yX5_put ∈ wsX4_tie := (List.mem_of_getElem? (i := 10) rfl)
set_option maxHeartbeats 4000000 in
set_option maxRecDepth 100000 in
theorem MX4_tie (l : Launch) (D : va_G) (q : Nat → ClassId) (h : Nat → Nat) (v : Nat → Nat → Int32) (a1 a2 : Int32)  : muM l D (tyq q) yX4_tie wsX4_tie ({ frames := 2, cells := 0, slots := 0, locals := 42 } : Room) [.ref (h 0), .int a1, .int a2] (wV q h v) none (wV q h (mX4_tie v a1 a2)) := by
  obtain ⟨R, hR⟩ : ∃ z, (mX4_tie v a1 a2) = z := ⟨_, rfl⟩
  rw [hR]
  unfold mX4_tie at hR
  refine muM.of (cc := cX4_tie) (maxL := 3) (ret := none) (by decide) rfl (Nat.le_of_ble_eq_true rfl) ?_
  intro p e s m below meth c ls A hx hb hr hk hml hown hts hP hD hG hA hl
  have hS : va_S A s.heap s.heap [] := va_S.rf
  have hl : lv_has ls 3 [(0, .ref (h 0)), (1, .int a1), (2, .int a2)] := hl
  refine lv_aload_n hx hb dX4_tie_0 rfl (lv_at hl 0 rfl) ?_
  refine va_get (D := D) (ci := 2) (v := .ref (h 6)) (C := RX4) (T := TX4) (N := 11) hx hb hts iX4_tie_X4 hown hG.1 hP 0 rfl rfl 6 (by decide) (hts (.fieldLink RX4 34 "MillComplaints$Village" "tied" "[I") (List.mem_of_getElem? (i := 1) rfl)) (fun _ h9 => h9) rfl dX4_tie_1 ?_
  refine lv_iload_n hx hb dX4_tie_4 rfl (lv_at hl 1 rfl) ?_
  refine lv_aload_n hx hb dX4_tie_5 rfl (lv_at hl 0 rfl) ?_
  refine lv_iload_n hx hb dX4_tie_6 rfl (lv_at hl 1 rfl) ?_
  refine ro_V (v := .int (mX4_tiedHours v a1)) (rest := [.int a1, .ref (h 6)]) (As := [.int a1]) hx hb hml hown hts hl (MX4_tiedHours l D q h v a1) gX4_tie_X4_tiedHours rfl kX4_tiedHours ⟨Nat.le_of_ble_eq_true rfl, Nat.le_of_ble_eq_true rfl⟩ rfl rfl hP (dT hD) hG (ci := 2) rfl rfl rfl rfl (Nat.le_of_ble_eq_true rfl) dX4_tie_7 ⟨Nat.zero_le _, Nat.zero_le _⟩ ?_
  refine lv_iconst (v := 1) hx hb dX4_tie_10 (by decide) ?_
  refine lv_iload_n hx hb dX4_tie_11 rfl (lv_at hl 2 rfl) ?_
  refine lv_ishl hx hb dX4_tie_12 ?_
  refine lv_ior hx hb dX4_tie_13 ?_
  obtain ⟨q_1, eq_1⟩ : ∃ z, z = (mX5_put 4 (v 5) a1 ((mX4_tiedHours v a1) ||| (1 <<< (a2 &&& 31)))) := ⟨_, rfl⟩
  have hM := MX5_put l D q (h 6) 4 (v 5) a1 ((mX4_tiedHours v a1) ||| (1 <<< (a2 &&& 31))) (by decide)
  rw [← eq_1] at hM
  replace hR := lt_e hR eq_1
  refine mu_SN (D := D) (ws := (wV q h v)) (ws' := (wV q h (setA v 5 q_1))) (rest := []) (As := [.ref (h 6), .int a1, .int ((mX4_tiedHours v a1) ||| (1 <<< (a2 &&& 31)))]) hx hb hml hown hts hl hM ggX4_tie_X5_put rfl kX5_put ⟨Nat.le_of_ble_eq_true rfl, Nat.le_of_ble_eq_true rfl⟩ rfl rfl (nwm_5 hG) jnX4_tie_X5_put jsX4_tie_X5_put hP hD hS hG [6] rfl rfl (by decide) [0, 1, 2, 3, 4, 5, 10, 7, 8, 9] rfl (by decide) rfl rfl rfl (Nat.le_of_ble_eq_true rfl) dX4_tie_14 ⟨Nat.zero_le _, Nat.zero_le _⟩ (fun H locs hP hD hS => ?_)
  obtain ⟨v_2, ev_2⟩ : ∃ z, z = (setA v 5 q_1) := ⟨_, rfl⟩
  rw [← ev_2] at hP hD
  replace hR := lt_e hR ev_2
  subst hR
  exact mu_vret hx hb hr hk hA hS hP dX4_tie_17

def mX4_untie (v : Nat → Nat → Int32) (a1 a2 : Int32) : (Nat → Nat → Int32) := (lt (mX5_put 4 (v 5) a1 ((mX4_tiedHours v a1) &&& ((1 <<< (a2 &&& 31)) ^^^ (-1)))) (fun q_1 => (lt (setA v 5 q_1) (fun v_2 => v_2))))
theorem kX4_untie : yX4_untie.cls = RX4 ∧ yX4_untie.cls ≠ "java/lang/invoke/MethodHandle" ∧ yX4_untie.cls ≠ "java/lang/invoke/VarHandle" ∧ (parseMethodDescriptor yX4_untie.desc).map (fun d => d.parameters.length) = some 2 := by decide +kernel
theorem iX4_untie_X4 : ∀ w ∈ wsX40, w ∈ wsX4_untie := fun w h => (List.mem_cons_of_mem _ (List.mem_append_right _ h))
theorem jnX4_untie_X5_put : Cond.initialized yX5_put.cls ∈ wsX4_untie := (List.mem_of_getElem? (i := 8) rfl)
theorem jsX4_untie_X5_put : Cond.static yX5_put ∈ wsX4_untie := (List.mem_of_getElem? (i := 10) rfl)
set_option maxHeartbeats 4000000 in
set_option maxRecDepth 100000 in
theorem MX4_untie (l : Launch) (D : va_G) (q : Nat → ClassId) (h : Nat → Nat) (v : Nat → Nat → Int32) (a1 a2 : Int32)  : muM l D (tyq q) yX4_untie wsX4_untie ({ frames := 2, cells := 0, slots := 0, locals := 42 } : Room) [.ref (h 0), .int a1, .int a2] (wV q h v) none (wV q h (mX4_untie v a1 a2)) := by
  obtain ⟨R, hR⟩ : ∃ z, (mX4_untie v a1 a2) = z := ⟨_, rfl⟩
  rw [hR]
  unfold mX4_untie at hR
  refine muM.of (cc := cX4_untie) (maxL := 3) (ret := none) (by decide) rfl (Nat.le_of_ble_eq_true rfl) ?_
  intro p e s m below meth c ls A hx hb hr hk hml hown hts hP hD hG hA hl
  have hS : va_S A s.heap s.heap [] := va_S.rf
  have hl : lv_has ls 3 [(0, .ref (h 0)), (1, .int a1), (2, .int a2)] := hl
  refine lv_aload_n hx hb dX4_untie_0 rfl (lv_at hl 0 rfl) ?_
  refine va_get (D := D) (ci := 2) (v := .ref (h 6)) (C := RX4) (T := TX4) (N := 11) hx hb hts iX4_untie_X4 hown hG.1 hP 0 rfl rfl 6 (by decide) (hts (.fieldLink RX4 34 "MillComplaints$Village" "tied" "[I") (List.mem_of_getElem? (i := 1) rfl)) (fun _ h9 => h9) rfl dX4_untie_1 ?_
  refine lv_iload_n hx hb dX4_untie_4 rfl (lv_at hl 1 rfl) ?_
  refine lv_aload_n hx hb dX4_untie_5 rfl (lv_at hl 0 rfl) ?_
  refine lv_iload_n hx hb dX4_untie_6 rfl (lv_at hl 1 rfl) ?_
  refine ro_V (v := .int (mX4_tiedHours v a1)) (rest := [.int a1, .ref (h 6)]) (As := [.int a1]) hx hb hml hown hts hl (MX4_tiedHours l D q h v a1) gX4_untie_X4_tiedHours rfl kX4_tiedHours ⟨Nat.le_of_ble_eq_true rfl, Nat.le_of_ble_eq_true rfl⟩ rfl rfl hP (dT hD) hG (ci := 2) rfl rfl rfl rfl (Nat.le_of_ble_eq_true rfl) dX4_untie_7 ⟨Nat.zero_le _, Nat.zero_le _⟩ ?_
  refine lv_iconst (v := 1) hx hb dX4_untie_10 (by decide) ?_
  refine lv_iload_n hx hb dX4_untie_11 rfl (lv_at hl 2 rfl) ?_
  refine lv_ishl hx hb dX4_untie_12 ?_
  refine lv_iconst (v := (-1)) hx hb dX4_untie_13 (by decide) ?_
  refine lv_ixor hx hb dX4_untie_14 ?_
  refine lv_iand hx hb dX4_untie_15 ?_
  obtain ⟨q_1, eq_1⟩ : ∃ z, z = (mX5_put 4 (v 5) a1 ((mX4_tiedHours v a1) &&& ((1 <<< (a2 &&& 31)) ^^^ (-1)))) := ⟨_, rfl⟩
  have hM := MX5_put l D q (h 6) 4 (v 5) a1 ((mX4_tiedHours v a1) &&& ((1 <<< (a2 &&& 31)) ^^^ (-1))) (by decide)
  rw [← eq_1] at hM
  replace hR := lt_e hR eq_1
  refine mu_SN (D := D) (ws := (wV q h v)) (ws' := (wV q h (setA v 5 q_1))) (rest := []) (As := [.ref (h 6), .int a1, .int ((mX4_tiedHours v a1) &&& ((1 <<< (a2 &&& 31)) ^^^ (-1)))]) hx hb hml hown hts hl hM ggX4_untie_X5_put rfl kX5_put ⟨Nat.le_of_ble_eq_true rfl, Nat.le_of_ble_eq_true rfl⟩ rfl rfl (nwm_5 hG) jnX4_untie_X5_put jsX4_untie_X5_put hP hD hS hG [6] rfl rfl (by decide) [0, 1, 2, 3, 4, 5, 10, 7, 8, 9] rfl (by decide) rfl rfl rfl (Nat.le_of_ble_eq_true rfl) dX4_untie_16 ⟨Nat.zero_le _, Nat.zero_le _⟩ (fun H locs hP hD hS => ?_)
  obtain ⟨v_2, ev_2⟩ : ∃ z, z = (setA v 5 q_1) := ⟨_, rfl⟩
  rw [← ev_2] at hP hD
  replace hR := lt_e hR ev_2
  subst hR
  exact mu_vret hx hb hr hk hA hS hP dX4_untie_19

def mX4_turns (v : Nat → Nat → Int32) (a1 a2 : Int32) : Int32 := (if (mX4_blows v a2) = 0 then 0 else (if (mX4_isTied v a1 a2) = 0 then 1 else 0))
theorem kX4_turns : yX4_turns.cls = RX4 ∧ yX4_turns.cls ≠ "java/lang/invoke/MethodHandle" ∧ yX4_turns.cls ≠ "java/lang/invoke/VarHandle" ∧ (parseMethodDescriptor yX4_turns.desc).map (fun d => d.parameters.length) = some 2 := by decide +kernel
set_option maxHeartbeats 4000000 in
set_option maxRecDepth 100000 in
theorem MX4_turns (l : Launch) (D : va_G) (q : Nat → ClassId) (h : Nat → Nat) (v : Nat → Nat → Int32) (a1 a2 : Int32)  : roM l D (tyq q) yX4_turns wsX4_turns ({ frames := 3, cells := 0, slots := 0, locals := 64 } : Room) [.ref (h 0), .int a1, .int a2] (wV q h v) (some (.int (mX4_turns v a1 a2))) := by
  obtain ⟨R, hR⟩ : ∃ z, (mX4_turns v a1 a2) = z := ⟨_, rfl⟩
  rw [hR]
  unfold mX4_turns at hR
  refine roM.of (cc := cX4_turns) (maxL := 3) (ret := (some .boolean)) (by decide) rfl (Nat.le_of_ble_eq_true rfl) ?_
  intro p e s m below meth c ls hx hb hr hk hml hown hts hP hD hG hl
  have hl : lv_has ls 3 [(0, .ref (h 0)), (1, .int a1), (2, .int a2)] := hl
  refine lv_aload_n hx hb dX4_turns_0 rfl (lv_at hl 0 rfl) ?_
  refine lv_iload_n hx hb dX4_turns_1 rfl (lv_at hl 2 rfl) ?_
  refine ro_V (v := .int (mX4_blows v a2)) (rest := []) (As := [.int a2]) hx hb hml hown hts hl (MX4_blows l D q h v a2) gX4_turns_X4_blows rfl kX4_blows ⟨Nat.le_of_ble_eq_true rfl, Nat.le_of_ble_eq_true rfl⟩ rfl rfl hP (dT hD) hG (ci := 2) rfl rfl rfl rfl (Nat.le_of_ble_eq_true rfl) dX4_turns_2 ⟨Nat.zero_le _, Nat.zero_le _⟩ ?_
  refine lv_if_eq (tgt := 21) hx hb dX4_turns_5 (by decide) (fun c_1 => ?_) (fun c_1 => ?_)
  · rw [if_pos c_1] at hR
    refine lv_iconst (v := 0) hx hb dX4_turns_21 (by decide) ?_
    exact ro_zret hx hb hr hk (Or.inl rfl) hR dX4_turns_22
  · rw [if_neg c_1] at hR
    refine lv_aload_n hx hb dX4_turns_8 rfl (lv_at hl 0 rfl) ?_
    refine lv_iload_n hx hb dX4_turns_9 rfl (lv_at hl 1 rfl) ?_
    refine lv_iload_n hx hb dX4_turns_10 rfl (lv_at hl 2 rfl) ?_
    refine ro_V (v := .int (mX4_isTied v a1 a2)) (rest := []) (As := [.int a1, .int a2]) hx hb hml hown hts hl (MX4_isTied l D q h v a1 a2) gX4_turns_X4_isTied rfl kX4_isTied ⟨Nat.le_of_ble_eq_true rfl, Nat.le_of_ble_eq_true rfl⟩ rfl rfl hP (dT hD) hG (ci := 2) rfl rfl rfl rfl (Nat.le_of_ble_eq_true rfl) dX4_turns_11 ⟨Nat.zero_le _, Nat.zero_le _⟩ ?_
    refine lv_if_ne (tgt := 21) hx hb dX4_turns_14 (by decide) (fun c_2 => ?_) (fun c_2 => ?_)
    · rw [if_neg c_2] at hR
      refine lv_iconst (v := 0) hx hb dX4_turns_21 (by decide) ?_
      exact ro_zret hx hb hr hk (Or.inl rfl) hR dX4_turns_22
    · rw [if_pos c_2] at hR
      refine lv_iconst (v := 1) hx hb dX4_turns_17 (by decide) ?_
      refine lv_goto (tgt := 22) hx hb dX4_turns_18 (by decide) ?_
      exact ro_zret hx hb hr hk (Or.inr rfl) hR dX4_turns_22

def mX4_turningHours_4 (v : Nat → Nat → Int32) (a1 : Int32) (C : Int32 → Int32 → Int32) : Nat → Int32 → Int32 → Int32
  | 0, x3_4, x2_4 => C x3_4 x2_4
  | n_4 + 1, x3_4, x2_4 => (if (mX4_turns v a1 x3_4) = 0 then (mX4_turningHours_4 v a1 C n_4 (x3_4 + 1) x2_4) else (mX4_turningHours_4 v a1 C n_4 (x3_4 + 1) (x2_4 ||| (1 <<< (x3_4 &&& 31)))))
def mX4_turningHours (v : Nat → Nat → Int32) (a1 : Int32) : Int32 := (mX4_turningHours_4 v a1 (fun x3_4 x2_4 => x2_4) (tr 0 24) 0 0)
theorem kX4_turningHours : yX4_turningHours.cls = RX4 ∧ yX4_turningHours.cls ≠ "java/lang/invoke/MethodHandle" ∧ yX4_turningHours.cls ≠ "java/lang/invoke/VarHandle" ∧ (parseMethodDescriptor yX4_turningHours.desc).map (fun d => d.parameters.length) = some 1 := by decide +kernel
set_option maxHeartbeats 4000000 in
set_option maxRecDepth 100000 in
theorem MX4_turningHours (l : Launch) (D : va_G) (q : Nat → ClassId) (h : Nat → Nat) (v : Nat → Nat → Int32) (a1 : Int32)  : roM l D (tyq q) yX4_turningHours wsX4_turningHours ({ frames := 4, cells := 0, slots := 0, locals := 86 } : Room) [.ref (h 0), .int a1] (wV q h v) (some (.int (mX4_turningHours v a1))) := by
  obtain ⟨R, hR⟩ : ∃ z, (mX4_turningHours v a1) = z := ⟨_, rfl⟩
  rw [hR]
  unfold mX4_turningHours at hR
  refine roM.of (cc := cX4_turningHours) (maxL := 4) (ret := (some .int)) (by decide) rfl (Nat.le_of_ble_eq_true rfl) ?_
  intro p e s m below meth c ls hx hb hr hk hml hown hts hP hD hG hl
  have hl : lv_has ls 4 [(0, .ref (h 0)), (1, .int a1)] := hl
  refine lv_iconst (v := 0) hx hb dX4_turningHours_0 (by decide) ?_
  refine lv_istore_n (lv' := [(2, .int 0), (0, .ref (h 0)), (1, .int a1)]) hx hb dX4_turningHours_1 rfl hl (by decide) rfl (fun ls hl => ?_)
  refine lv_iconst (v := 0) hx hb dX4_turningHours_2 (by decide) ?_
  refine lv_istore_n (lv' := [(3, .int 0), (2, .int 0), (0, .ref (h 0)), (1, .int a1)]) hx hb dX4_turningHours_3 rfl hl (by decide) rfl (fun ls hl => ?_)
  have key_4 : ∀ (n_4 : Nat) (x3_4 : Int32) (x2_4 : Int32), tr x3_4 24 = n_4 → mX4_turningHours_4 v a1 (fun x3_4 x2_4 => x2_4) n_4 x3_4 x2_4 = R → ∀ ls : Array Slot, lv_has ls 4 [(3, .int x3_4), (2, .int x2_4), (0, .ref (h 0)), (1, .int a1)] → W p l e ({ frames := 4, cells := 0, slots := 0, locals := 86 } : Room) s m ([.ref (h 0), .int a1] : List Value).toArray below meth c s.heap [] 0 0 (MQ below (roQ (some (.int R))) ([.ref (h 0), .int a1] : List Value).toArray s 0 0 (fun _ => False)) (F0 m 4 ls []) := by
    intro n_4
    induction n_4 with
    | zero =>
      intro x3_4 x2_4 hn_4 hR ls hl
      rw [mX4_turningHours_4] at hR
      refine lv_iload_n hx hb dX4_turningHours_4 rfl (lv_at hl 0 rfl) ?_
      refine lv_bipush (v := 24) hx hb dX4_turningHours_5 (by decide) ?_
      refine lv_icmp_ge (tgt := 31) hx hb dX4_turningHours_7 (by decide) (fun c_1 => ?_) (fun c_1 => (tr0 hn_4 c_1).elim)
      refine lv_iload_n hx hb dX4_turningHours_31 rfl (lv_at hl 1 rfl) ?_
      exact ro_iret hx hb hr hk hR dX4_turningHours_32
    | succ n_4 ih_4 =>
      intro x3_4 x2_4 hn_4 hR ls hl
      rw [mX4_turningHours_4] at hR
      refine lv_iload_n hx hb dX4_turningHours_4 rfl (lv_at hl 0 rfl) ?_
      refine lv_bipush (v := 24) hx hb dX4_turningHours_5 (by decide) ?_
      refine lv_icmp_ge (tgt := 31) hx hb dX4_turningHours_7 (by decide) (fun c_1 => (trS hn_4 c_1).elim) (fun c_1 => ?_)
      refine lv_aload_n hx hb dX4_turningHours_10 rfl (lv_at hl 2 rfl) ?_
      refine lv_iload_n hx hb dX4_turningHours_11 rfl (lv_at hl 3 rfl) ?_
      refine lv_iload_n hx hb dX4_turningHours_12 rfl (lv_at hl 0 rfl) ?_
      refine ro_V (v := .int (mX4_turns v a1 x3_4)) (rest := []) (As := [.int a1, .int x3_4]) hx hb hml hown hts hl (MX4_turns l D q h v a1 x3_4) gX4_turningHours_X4_turns rfl kX4_turns ⟨Nat.le_of_ble_eq_true rfl, Nat.le_of_ble_eq_true rfl⟩ rfl rfl hP (dT hD) hG (ci := 2) rfl rfl rfl rfl (Nat.le_of_ble_eq_true rfl) dX4_turningHours_13 ⟨Nat.zero_le _, Nat.zero_le _⟩ ?_
      refine lv_if_eq (tgt := 25) hx hb dX4_turningHours_16 (by decide) (fun c_2 => ?_) (fun c_2 => ?_)
      · rw [if_pos c_2] at hR
        refine lv_iinc (v := (x3_4 + 1)) (lv' := [(3, .int (x3_4 + 1)), (2, .int x2_4), (0, .ref (h 0)), (1, .int a1)]) hx hb dX4_turningHours_25 hl (k := 0) rfl rfl (by decide) rfl (fun ls hl => ?_)
        refine lv_goto (tgt := 4) hx hb dX4_turningHours_28 (by decide) ?_
        exact ih_4 (x3_4 + 1) x2_4 (trN hn_4) hR ls (lv_sub hl [0, 1, 2, 3] rfl)
      · rw [if_neg c_2] at hR
        refine lv_iload_n hx hb dX4_turningHours_19 rfl (lv_at hl 1 rfl) ?_
        refine lv_iconst (v := 1) hx hb dX4_turningHours_20 (by decide) ?_
        refine lv_iload_n hx hb dX4_turningHours_21 rfl (lv_at hl 0 rfl) ?_
        refine lv_ishl hx hb dX4_turningHours_22 ?_
        refine lv_ior hx hb dX4_turningHours_23 ?_
        refine lv_istore_n (lv' := [(2, .int (x2_4 ||| (1 <<< (x3_4 &&& 31)))), (3, .int x3_4), (0, .ref (h 0)), (1, .int a1)]) hx hb dX4_turningHours_24 rfl hl (by decide) rfl (fun ls hl => ?_)
        refine lv_iinc (v := (x3_4 + 1)) (lv' := [(3, .int (x3_4 + 1)), (2, .int (x2_4 ||| (1 <<< (x3_4 &&& 31)))), (0, .ref (h 0)), (1, .int a1)]) hx hb dX4_turningHours_25 hl (k := 1) rfl rfl (by decide) rfl (fun ls hl => ?_)
        refine lv_goto (tgt := 4) hx hb dX4_turningHours_28 (by decide) ?_
        exact ih_4 (x3_4 + 1) (x2_4 ||| (1 <<< (x3_4 &&& 31))) (trN hn_4) hR ls (lv_sub hl [0, 1, 2, 3] rfl)
  exact key_4 _ 0 0 rfl hR ls hl

def mX4_grainOf_4 (v : Nat → Nat → Int32) (a1 : Int32) (C : Int32 → Int32 → Int32) : Nat → Int32 → Int32 → Int32
  | 0, x3_4, x2_4 => C x3_4 x2_4
  | n_4 + 1, x3_4, x2_4 => (if (mX4_turns v a1 x3_4) = 0 then (mX4_grainOf_4 v a1 C n_4 (x3_4 + 1) x2_4) else (mX4_grainOf_4 v a1 C n_4 (x3_4 + 1) (x2_4 + (mX4_windAt v x3_4))))
def mX4_grainOf (v : Nat → Nat → Int32) (a1 : Int32) : Int32 := (mX4_grainOf_4 v a1 (fun x3_4 x2_4 => x2_4) (tr 0 24) 0 0)
theorem kX4_grainOf : yX4_grainOf.cls = RX4 ∧ yX4_grainOf.cls ≠ "java/lang/invoke/MethodHandle" ∧ yX4_grainOf.cls ≠ "java/lang/invoke/VarHandle" ∧ (parseMethodDescriptor yX4_grainOf.desc).map (fun d => d.parameters.length) = some 1 := by decide +kernel
set_option maxHeartbeats 4000000 in
set_option maxRecDepth 100000 in
theorem MX4_grainOf (l : Launch) (D : va_G) (q : Nat → ClassId) (h : Nat → Nat) (v : Nat → Nat → Int32) (a1 : Int32)  : roM l D (tyq q) yX4_grainOf wsX4_grainOf ({ frames := 4, cells := 0, slots := 0, locals := 86 } : Room) [.ref (h 0), .int a1] (wV q h v) (some (.int (mX4_grainOf v a1))) := by
  obtain ⟨R, hR⟩ : ∃ z, (mX4_grainOf v a1) = z := ⟨_, rfl⟩
  rw [hR]
  unfold mX4_grainOf at hR
  refine roM.of (cc := cX4_grainOf) (maxL := 4) (ret := (some .int)) (by decide) rfl (Nat.le_of_ble_eq_true rfl) ?_
  intro p e s m below meth c ls hx hb hr hk hml hown hts hP hD hG hl
  have hl : lv_has ls 4 [(0, .ref (h 0)), (1, .int a1)] := hl
  refine lv_iconst (v := 0) hx hb dX4_grainOf_0 (by decide) ?_
  refine lv_istore_n (lv' := [(2, .int 0), (0, .ref (h 0)), (1, .int a1)]) hx hb dX4_grainOf_1 rfl hl (by decide) rfl (fun ls hl => ?_)
  refine lv_iconst (v := 0) hx hb dX4_grainOf_2 (by decide) ?_
  refine lv_istore_n (lv' := [(3, .int 0), (2, .int 0), (0, .ref (h 0)), (1, .int a1)]) hx hb dX4_grainOf_3 rfl hl (by decide) rfl (fun ls hl => ?_)
  have key_4 : ∀ (n_4 : Nat) (x3_4 : Int32) (x2_4 : Int32), tr x3_4 24 = n_4 → mX4_grainOf_4 v a1 (fun x3_4 x2_4 => x2_4) n_4 x3_4 x2_4 = R → ∀ ls : Array Slot, lv_has ls 4 [(3, .int x3_4), (2, .int x2_4), (0, .ref (h 0)), (1, .int a1)] → W p l e ({ frames := 4, cells := 0, slots := 0, locals := 86 } : Room) s m ([.ref (h 0), .int a1] : List Value).toArray below meth c s.heap [] 0 0 (MQ below (roQ (some (.int R))) ([.ref (h 0), .int a1] : List Value).toArray s 0 0 (fun _ => False)) (F0 m 4 ls []) := by
    intro n_4
    induction n_4 with
    | zero =>
      intro x3_4 x2_4 hn_4 hR ls hl
      rw [mX4_grainOf_4] at hR
      refine lv_iload_n hx hb dX4_grainOf_4 rfl (lv_at hl 0 rfl) ?_
      refine lv_bipush (v := 24) hx hb dX4_grainOf_5 (by decide) ?_
      refine lv_icmp_ge (tgt := 33) hx hb dX4_grainOf_7 (by decide) (fun c_1 => ?_) (fun c_1 => (tr0 hn_4 c_1).elim)
      refine lv_iload_n hx hb dX4_grainOf_33 rfl (lv_at hl 1 rfl) ?_
      exact ro_iret hx hb hr hk hR dX4_grainOf_34
    | succ n_4 ih_4 =>
      intro x3_4 x2_4 hn_4 hR ls hl
      rw [mX4_grainOf_4] at hR
      refine lv_iload_n hx hb dX4_grainOf_4 rfl (lv_at hl 0 rfl) ?_
      refine lv_bipush (v := 24) hx hb dX4_grainOf_5 (by decide) ?_
      refine lv_icmp_ge (tgt := 33) hx hb dX4_grainOf_7 (by decide) (fun c_1 => (trS hn_4 c_1).elim) (fun c_1 => ?_)
      refine lv_aload_n hx hb dX4_grainOf_10 rfl (lv_at hl 2 rfl) ?_
      refine lv_iload_n hx hb dX4_grainOf_11 rfl (lv_at hl 3 rfl) ?_
      refine lv_iload_n hx hb dX4_grainOf_12 rfl (lv_at hl 0 rfl) ?_
      refine ro_V (v := .int (mX4_turns v a1 x3_4)) (rest := []) (As := [.int a1, .int x3_4]) hx hb hml hown hts hl (MX4_turns l D q h v a1 x3_4) gX4_grainOf_X4_turns rfl kX4_turns ⟨Nat.le_of_ble_eq_true rfl, Nat.le_of_ble_eq_true rfl⟩ rfl rfl hP (dT hD) hG (ci := 2) rfl rfl rfl rfl (Nat.le_of_ble_eq_true rfl) dX4_grainOf_13 ⟨Nat.zero_le _, Nat.zero_le _⟩ ?_
      refine lv_if_eq (tgt := 27) hx hb dX4_grainOf_16 (by decide) (fun c_2 => ?_) (fun c_2 => ?_)
      · rw [if_pos c_2] at hR
        refine lv_iinc (v := (x3_4 + 1)) (lv' := [(3, .int (x3_4 + 1)), (2, .int x2_4), (0, .ref (h 0)), (1, .int a1)]) hx hb dX4_grainOf_27 hl (k := 0) rfl rfl (by decide) rfl (fun ls hl => ?_)
        refine lv_goto (tgt := 4) hx hb dX4_grainOf_30 (by decide) ?_
        exact ih_4 (x3_4 + 1) x2_4 (trN hn_4) hR ls (lv_sub hl [0, 1, 2, 3] rfl)
      · rw [if_neg c_2] at hR
        refine lv_iload_n hx hb dX4_grainOf_19 rfl (lv_at hl 1 rfl) ?_
        refine lv_aload_n hx hb dX4_grainOf_20 rfl (lv_at hl 2 rfl) ?_
        refine lv_iload_n hx hb dX4_grainOf_21 rfl (lv_at hl 0 rfl) ?_
        refine ro_V (v := .int (mX4_windAt v x3_4)) (rest := [.int x2_4]) (As := [.int x3_4]) hx hb hml hown hts hl (MX4_windAt l D q h v x3_4) gX4_grainOf_X4_windAt rfl kX4_windAt ⟨Nat.le_of_ble_eq_true rfl, Nat.le_of_ble_eq_true rfl⟩ rfl rfl hP (dT hD) hG (ci := 2) rfl rfl rfl rfl (Nat.le_of_ble_eq_true rfl) dX4_grainOf_22 ⟨Nat.zero_le _, Nat.zero_le _⟩ ?_
        refine lv_iadd hx hb dX4_grainOf_25 ?_
        refine lv_istore_n (lv' := [(2, .int (x2_4 + (mX4_windAt v x3_4))), (3, .int x3_4), (0, .ref (h 0)), (1, .int a1)]) hx hb dX4_grainOf_26 rfl hl (by decide) rfl (fun ls hl => ?_)
        refine lv_iinc (v := (x3_4 + 1)) (lv' := [(3, .int (x3_4 + 1)), (2, .int (x2_4 + (mX4_windAt v x3_4))), (0, .ref (h 0)), (1, .int a1)]) hx hb dX4_grainOf_27 hl (k := 1) rfl rfl (by decide) rfl (fun ls hl => ?_)
        refine lv_goto (tgt := 4) hx hb dX4_grainOf_30 (by decide) ?_
        exact ih_4 (x3_4 + 1) (x2_4 + (mX4_windAt v x3_4)) (trN hn_4) hR ls (lv_sub hl [0, 1, 2, 3] rfl)
  exact key_4 _ 0 0 rfl hR ls hl

def mX4_grainOfAll_4 (v : Nat → Nat → Int32) (C : Int32 → Int32 → Int32) : Nat → Int32 → Int32 → Int32
  | 0, x2_4, x1_4 => C x2_4 x1_4
  | n_4 + 1, x2_4, x1_4 => (mX4_grainOfAll_4 v C n_4 (x2_4 + 1) (x1_4 + (mX4_grainOf v x2_4)))
def mX4_grainOfAll (v : Nat → Nat → Int32) : Int32 := (mX4_grainOfAll_4 v (fun x2_4 x1_4 => x1_4) (tr 0 (v 9 0)) 0 0)
theorem kX4_grainOfAll : yX4_grainOfAll.cls = RX4 ∧ yX4_grainOfAll.cls ≠ "java/lang/invoke/MethodHandle" ∧ yX4_grainOfAll.cls ≠ "java/lang/invoke/VarHandle" ∧ (parseMethodDescriptor yX4_grainOfAll.desc).map (fun d => d.parameters.length) = some 0 := by decide +kernel
theorem iX4_grainOfAll_X4 : ∀ w ∈ wsX40, w ∈ wsX4_grainOfAll := fun w h => (List.mem_cons_of_mem _ (List.mem_append_right _ h))
set_option maxHeartbeats 4000000 in
set_option maxRecDepth 100000 in
theorem MX4_grainOfAll (l : Launch) (D : va_G) (q : Nat → ClassId) (h : Nat → Nat) (v : Nat → Nat → Int32)   : roM l D (tyq q) yX4_grainOfAll wsX4_grainOfAll ({ frames := 5, cells := 0, slots := 0, locals := 109 } : Room) [.ref (h 0)] (wV q h v) (some (.int (mX4_grainOfAll v))) := by
  obtain ⟨R, hR⟩ : ∃ z, (mX4_grainOfAll v) = z := ⟨_, rfl⟩
  rw [hR]
  unfold mX4_grainOfAll at hR
  refine roM.of (cc := cX4_grainOfAll) (maxL := 3) (ret := (some .int)) (by decide) rfl (Nat.le_of_ble_eq_true rfl) ?_
  intro p e s m below meth c ls hx hb hr hk hml hown hts hP hD hG hl
  have hl : lv_has ls 3 [(0, .ref (h 0))] := hl
  refine lv_iconst (v := 0) hx hb dX4_grainOfAll_0 (by decide) ?_
  refine lv_istore_n (lv' := [(1, .int 0), (0, .ref (h 0))]) hx hb dX4_grainOfAll_1 rfl hl (by decide) rfl (fun ls hl => ?_)
  refine lv_iconst (v := 0) hx hb dX4_grainOfAll_2 (by decide) ?_
  refine lv_istore_n (lv' := [(2, .int 0), (1, .int 0), (0, .ref (h 0))]) hx hb dX4_grainOfAll_3 rfl hl (by decide) rfl (fun ls hl => ?_)
  have key_4 : ∀ (n_4 : Nat) (x2_4 : Int32) (x1_4 : Int32), tr x2_4 (v 9 0) = n_4 → mX4_grainOfAll_4 v (fun x2_4 x1_4 => x1_4) n_4 x2_4 x1_4 = R → ∀ ls : Array Slot, lv_has ls 3 [(2, .int x2_4), (1, .int x1_4), (0, .ref (h 0))] → W p l e ({ frames := 5, cells := 0, slots := 0, locals := 109 } : Room) s m ([.ref (h 0)] : List Value).toArray below meth c s.heap [] 0 0 (MQ below (roQ (some (.int R))) ([.ref (h 0)] : List Value).toArray s 0 0 (fun _ => False)) (F0 m 4 ls []) := by
    intro n_4
    induction n_4 with
    | zero =>
      intro x2_4 x1_4 hn_4 hR ls hl
      rw [mX4_grainOfAll_4] at hR
      refine lv_iload_n hx hb dX4_grainOfAll_4 rfl (lv_at hl 0 rfl) ?_
      refine lv_aload_n hx hb dX4_grainOfAll_5 rfl (lv_at hl 2 rfl) ?_
      refine va_get (D := D) (ci := 2) (v := .int (v 9 0)) (C := RX4) (T := TX4) (N := 11) hx hb hts iX4_grainOfAll_X4 hown hG.1 hP 0 rfl rfl 3 (by decide) (hts (.fieldLink RX4 24 "MillComplaints$Village" "mills" "I") (List.mem_of_getElem? (i := 1) rfl)) (fun _ h9 => h9) rfl dX4_grainOfAll_6 ?_
      refine lv_icmp_ge (tgt := 26) hx hb dX4_grainOfAll_9 (by decide) (fun c_1 => ?_) (fun c_1 => (tr0 hn_4 c_1).elim)
      refine lv_iload_n hx hb dX4_grainOfAll_26 rfl (lv_at hl 1 rfl) ?_
      exact ro_iret hx hb hr hk hR dX4_grainOfAll_27
    | succ n_4 ih_4 =>
      intro x2_4 x1_4 hn_4 hR ls hl
      rw [mX4_grainOfAll_4] at hR
      refine lv_iload_n hx hb dX4_grainOfAll_4 rfl (lv_at hl 0 rfl) ?_
      refine lv_aload_n hx hb dX4_grainOfAll_5 rfl (lv_at hl 2 rfl) ?_
      refine va_get (D := D) (ci := 2) (v := .int (v 9 0)) (C := RX4) (T := TX4) (N := 11) hx hb hts iX4_grainOfAll_X4 hown hG.1 hP 0 rfl rfl 3 (by decide) (hts (.fieldLink RX4 24 "MillComplaints$Village" "mills" "I") (List.mem_of_getElem? (i := 1) rfl)) (fun _ h9 => h9) rfl dX4_grainOfAll_6 ?_
      refine lv_icmp_ge (tgt := 26) hx hb dX4_grainOfAll_9 (by decide) (fun c_1 => (trS hn_4 c_1).elim) (fun c_1 => ?_)
      refine lv_iload_n hx hb dX4_grainOfAll_12 rfl (lv_at hl 1 rfl) ?_
      refine lv_aload_n hx hb dX4_grainOfAll_13 rfl (lv_at hl 2 rfl) ?_
      refine lv_iload_n hx hb dX4_grainOfAll_14 rfl (lv_at hl 0 rfl) ?_
      refine ro_V (v := .int (mX4_grainOf v x2_4)) (rest := [.int x1_4]) (As := [.int x2_4]) hx hb hml hown hts hl (MX4_grainOf l D q h v x2_4) gX4_grainOfAll_X4_grainOf rfl kX4_grainOf ⟨Nat.le_of_ble_eq_true rfl, Nat.le_of_ble_eq_true rfl⟩ rfl rfl hP (dT hD) hG (ci := 2) rfl rfl rfl rfl (Nat.le_of_ble_eq_true rfl) dX4_grainOfAll_15 ⟨Nat.zero_le _, Nat.zero_le _⟩ ?_
      refine lv_iadd hx hb dX4_grainOfAll_18 ?_
      refine lv_istore_n (lv' := [(1, .int (x1_4 + (mX4_grainOf v x2_4))), (2, .int x2_4), (0, .ref (h 0))]) hx hb dX4_grainOfAll_19 rfl hl (by decide) rfl (fun ls hl => ?_)
      refine lv_iinc (v := (x2_4 + 1)) (lv' := [(2, .int (x2_4 + 1)), (1, .int (x1_4 + (mX4_grainOf v x2_4))), (0, .ref (h 0))]) hx hb dX4_grainOfAll_20 hl (k := 1) rfl rfl (by decide) rfl (fun ls hl => ?_)
      refine lv_goto (tgt := 4) hx hb dX4_grainOfAll_23 (by decide) ?_
      exact ih_4 (x2_4 + 1) (x1_4 + (mX4_grainOf v x2_4)) (trN hn_4) hR ls (lv_sub hl [0, 1, 2] rfl)
  exact key_4 _ 0 0 rfl hR ls hl

def mX4_grainOfAllIfUntied_4 (v : Nat → Nat → Int32) (C : Int32 → Int32 → Int32) : Nat → Int32 → Int32 → Int32
  | 0, x2_4, x1_4 => C x2_4 x1_4
  | n_4 + 1, x2_4, x1_4 => (if (mX4_blows v x2_4) = 0 then (mX4_grainOfAllIfUntied_4 v C n_4 (x2_4 + 1) x1_4) else (mX4_grainOfAllIfUntied_4 v C n_4 (x2_4 + 1) (x1_4 + (mX4_windAt v x2_4))))
def mX4_grainOfAllIfUntied (v : Nat → Nat → Int32) : Int32 := (mX4_grainOfAllIfUntied_4 v (fun x2_4 x1_4 => (x1_4 * (v 9 0))) (tr 0 24) 0 0)
theorem kX4_grainOfAllIfUntied : yX4_grainOfAllIfUntied.cls = RX4 ∧ yX4_grainOfAllIfUntied.cls ≠ "java/lang/invoke/MethodHandle" ∧ yX4_grainOfAllIfUntied.cls ≠ "java/lang/invoke/VarHandle" ∧ (parseMethodDescriptor yX4_grainOfAllIfUntied.desc).map (fun d => d.parameters.length) = some 0 := by decide +kernel
theorem iX4_grainOfAllIfUntied_X4 : ∀ w ∈ wsX40, w ∈ wsX4_grainOfAllIfUntied := fun w h => (List.mem_cons_of_mem _ (List.mem_append_right _ h))
set_option maxHeartbeats 4000000 in
set_option maxRecDepth 100000 in
theorem MX4_grainOfAllIfUntied (l : Launch) (D : va_G) (q : Nat → ClassId) (h : Nat → Nat) (v : Nat → Nat → Int32)   : roM l D (tyq q) yX4_grainOfAllIfUntied wsX4_grainOfAllIfUntied ({ frames := 3, cells := 0, slots := 0, locals := 63 } : Room) [.ref (h 0)] (wV q h v) (some (.int (mX4_grainOfAllIfUntied v))) := by
  obtain ⟨R, hR⟩ : ∃ z, (mX4_grainOfAllIfUntied v) = z := ⟨_, rfl⟩
  rw [hR]
  unfold mX4_grainOfAllIfUntied at hR
  refine roM.of (cc := cX4_grainOfAllIfUntied) (maxL := 3) (ret := (some .int)) (by decide) rfl (Nat.le_of_ble_eq_true rfl) ?_
  intro p e s m below meth c ls hx hb hr hk hml hown hts hP hD hG hl
  have hl : lv_has ls 3 [(0, .ref (h 0))] := hl
  refine lv_iconst (v := 0) hx hb dX4_grainOfAllIfUntied_0 (by decide) ?_
  refine lv_istore_n (lv' := [(1, .int 0), (0, .ref (h 0))]) hx hb dX4_grainOfAllIfUntied_1 rfl hl (by decide) rfl (fun ls hl => ?_)
  refine lv_iconst (v := 0) hx hb dX4_grainOfAllIfUntied_2 (by decide) ?_
  refine lv_istore_n (lv' := [(2, .int 0), (1, .int 0), (0, .ref (h 0))]) hx hb dX4_grainOfAllIfUntied_3 rfl hl (by decide) rfl (fun ls hl => ?_)
  have key_4 : ∀ (n_4 : Nat) (x2_4 : Int32) (x1_4 : Int32), tr x2_4 24 = n_4 → mX4_grainOfAllIfUntied_4 v (fun x2_4 x1_4 => (x1_4 * (v 9 0))) n_4 x2_4 x1_4 = R → ∀ ls : Array Slot, lv_has ls 3 [(2, .int x2_4), (1, .int x1_4), (0, .ref (h 0))] → W p l e ({ frames := 3, cells := 0, slots := 0, locals := 63 } : Room) s m ([.ref (h 0)] : List Value).toArray below meth c s.heap [] 0 0 (MQ below (roQ (some (.int R))) ([.ref (h 0)] : List Value).toArray s 0 0 (fun _ => False)) (F0 m 4 ls []) := by
    intro n_4
    induction n_4 with
    | zero =>
      intro x2_4 x1_4 hn_4 hR ls hl
      rw [mX4_grainOfAllIfUntied_4] at hR
      refine lv_iload_n hx hb dX4_grainOfAllIfUntied_4 rfl (lv_at hl 0 rfl) ?_
      refine lv_bipush (v := 24) hx hb dX4_grainOfAllIfUntied_5 (by decide) ?_
      refine lv_icmp_ge (tgt := 32) hx hb dX4_grainOfAllIfUntied_7 (by decide) (fun c_1 => ?_) (fun c_1 => (tr0 hn_4 c_1).elim)
      refine lv_iload_n hx hb dX4_grainOfAllIfUntied_32 rfl (lv_at hl 1 rfl) ?_
      refine lv_aload_n hx hb dX4_grainOfAllIfUntied_33 rfl (lv_at hl 2 rfl) ?_
      refine va_get (D := D) (ci := 2) (v := .int (v 9 0)) (C := RX4) (T := TX4) (N := 11) hx hb hts iX4_grainOfAllIfUntied_X4 hown hG.1 hP 0 rfl rfl 3 (by decide) (hts (.fieldLink RX4 24 "MillComplaints$Village" "mills" "I") (List.mem_of_getElem? (i := 1) rfl)) (fun _ h9 => h9) rfl dX4_grainOfAllIfUntied_34 ?_
      refine lv_imul hx hb dX4_grainOfAllIfUntied_37 ?_
      exact ro_iret hx hb hr hk hR dX4_grainOfAllIfUntied_38
    | succ n_4 ih_4 =>
      intro x2_4 x1_4 hn_4 hR ls hl
      rw [mX4_grainOfAllIfUntied_4] at hR
      refine lv_iload_n hx hb dX4_grainOfAllIfUntied_4 rfl (lv_at hl 0 rfl) ?_
      refine lv_bipush (v := 24) hx hb dX4_grainOfAllIfUntied_5 (by decide) ?_
      refine lv_icmp_ge (tgt := 32) hx hb dX4_grainOfAllIfUntied_7 (by decide) (fun c_1 => (trS hn_4 c_1).elim) (fun c_1 => ?_)
      refine lv_aload_n hx hb dX4_grainOfAllIfUntied_10 rfl (lv_at hl 2 rfl) ?_
      refine lv_iload_n hx hb dX4_grainOfAllIfUntied_11 rfl (lv_at hl 0 rfl) ?_
      refine ro_V (v := .int (mX4_blows v x2_4)) (rest := []) (As := [.int x2_4]) hx hb hml hown hts hl (MX4_blows l D q h v x2_4) gX4_grainOfAllIfUntied_X4_blows rfl kX4_blows ⟨Nat.le_of_ble_eq_true rfl, Nat.le_of_ble_eq_true rfl⟩ rfl rfl hP (dT hD) hG (ci := 2) rfl rfl rfl rfl (Nat.le_of_ble_eq_true rfl) dX4_grainOfAllIfUntied_12 ⟨Nat.zero_le _, Nat.zero_le _⟩ ?_
      refine lv_if_eq (tgt := 26) hx hb dX4_grainOfAllIfUntied_15 (by decide) (fun c_2 => ?_) (fun c_2 => ?_)
      · rw [if_pos c_2] at hR
        refine lv_iinc (v := (x2_4 + 1)) (lv' := [(2, .int (x2_4 + 1)), (1, .int x1_4), (0, .ref (h 0))]) hx hb dX4_grainOfAllIfUntied_26 hl (k := 0) rfl rfl (by decide) rfl (fun ls hl => ?_)
        refine lv_goto (tgt := 4) hx hb dX4_grainOfAllIfUntied_29 (by decide) ?_
        exact ih_4 (x2_4 + 1) x1_4 (trN hn_4) hR ls (lv_sub hl [0, 1, 2] rfl)
      · rw [if_neg c_2] at hR
        refine lv_iload_n hx hb dX4_grainOfAllIfUntied_18 rfl (lv_at hl 1 rfl) ?_
        refine lv_aload_n hx hb dX4_grainOfAllIfUntied_19 rfl (lv_at hl 2 rfl) ?_
        refine lv_iload_n hx hb dX4_grainOfAllIfUntied_20 rfl (lv_at hl 0 rfl) ?_
        refine ro_V (v := .int (mX4_windAt v x2_4)) (rest := [.int x1_4]) (As := [.int x2_4]) hx hb hml hown hts hl (MX4_windAt l D q h v x2_4) gX4_grainOfAllIfUntied_X4_windAt rfl kX4_windAt ⟨Nat.le_of_ble_eq_true rfl, Nat.le_of_ble_eq_true rfl⟩ rfl rfl hP (dT hD) hG (ci := 2) rfl rfl rfl rfl (Nat.le_of_ble_eq_true rfl) dX4_grainOfAllIfUntied_21 ⟨Nat.zero_le _, Nat.zero_le _⟩ ?_
        refine lv_iadd hx hb dX4_grainOfAllIfUntied_24 ?_
        refine lv_istore_n (lv' := [(1, .int (x1_4 + (mX4_windAt v x2_4))), (2, .int x2_4), (0, .ref (h 0))]) hx hb dX4_grainOfAllIfUntied_25 rfl hl (by decide) rfl (fun ls hl => ?_)
        refine lv_iinc (v := (x2_4 + 1)) (lv' := [(2, .int (x2_4 + 1)), (1, .int (x1_4 + (mX4_windAt v x2_4))), (0, .ref (h 0))]) hx hb dX4_grainOfAllIfUntied_26 hl (k := 1) rfl rfl (by decide) rfl (fun ls hl => ?_)
        refine lv_goto (tgt := 4) hx hb dX4_grainOfAllIfUntied_29 (by decide) ?_
        exact ih_4 (x2_4 + 1) (x1_4 + (mX4_windAt v x2_4)) (trN hn_4) hR ls (lv_sub hl [0, 1, 2] rfl)
  exact key_4 _ 0 0 rfl hR ls hl
