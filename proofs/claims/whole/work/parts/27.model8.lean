def mX6_takes_6  (C : (Nat → Nat → Int32) → Int32 → ((Nat → Nat → Int32))) : Nat → (Nat → Nat → Int32) → Int32 → ((Nat → Nat → Int32))
  | 0, xL_6, x1_6 => C xL_6 x1_6
  | n_6 + 1, xL_6, x1_6 => (lt (setA xL_6 0 (upd (xL_6 0) (x1_6 : Int32).toNatClampNeg ((xL_6 0) ((148 + x1_6)).toNatClampNeg))) (fun x_3 => (mX6_takes_6  C n_6 x_3 (x1_6 + 1))))
def mX6_takes (x : Nat → Nat → Int32) : (Nat → Nat → Int32) := (lt (mX6_remembers x) (fun q_1 => (mX6_takes_6  (fun xL_6 x1_6 => xL_6) (tr 0 148) q_1 0)))
theorem kX6_takes : yX6_takes.cls = RX6 ∧ yX6_takes.cls ≠ "java/lang/invoke/MethodHandle" ∧ yX6_takes.cls ≠ "java/lang/invoke/VarHandle" ∧ (parseMethodDescriptor yX6_takes.desc).map (fun d => d.parameters.length) = some 0 := by decide +kernel
theorem iX6_takes_X6 : ∀ w ∈ wsX60, w ∈ wsX6_takes := fun w h => (List.mem_cons_of_mem _ (List.mem_append_right _ h))
set_option maxHeartbeats 4000000 in
set_option maxRecDepth 100000 in
theorem MX6_takes (l : Launch) (D : va_G) (q : Nat → ClassId) (h : Nat → Nat) (x : Nat → Nat → Int32)  (hkn : 0 ≤ (x 4 0).toInt ∧ (x 4 0).toInt < 5) : muM l D (tyq q) yX6_takes wsX6_takes ({ frames := 1, cells := 0, slots := 0, locals := 21 } : Room) [.ref (h 0)] (wM q h x) none (wM q h (mX6_takes x)) := by
  obtain ⟨R, hR⟩ : ∃ z, (mX6_takes x) = z := ⟨_, rfl⟩
  rw [hR]
  unfold mX6_takes at hR
  refine muM.of (cc := cX6_takes) (maxL := 2) (ret := none) (by decide) rfl (Nat.le_of_ble_eq_true rfl) ?_
  intro p e s m below meth c ls A hx hb hr hk hml hown hts hP hD hG hA hl
  have hS : va_S A s.heap s.heap [] := va_S.rf
  have hl : lv_has ls 2 [(0, .ref (h 0))] := hl
  refine lv_aload_n hx hb dX6_takes_0 rfl (lv_at hl 0 rfl) ?_
  obtain ⟨q_1, eq_1⟩ : ∃ z, z = (mX6_remembers x) := ⟨_, rfl⟩
  have hM := MX6_remembers l D q h x hkn
  rw [← eq_1] at hM
  replace hR := lt_e hR eq_1
  refine mu_V (D := D) (ws := (wM q h x)) (ws' := (wM q h q_1)) (rest := []) (As := []) hx hb hml hown hts hl hM gX6_takes_X6_remembers rfl kX6_remembers ⟨Nat.le_of_ble_eq_true rfl, Nat.le_of_ble_eq_true rfl⟩ rfl rfl hP hD hS hG [0, 1, 2, 3, 4] rfl rfl (by decide) [5, 6, 7, 8, 9] rfl (by decide) rfl (ci := 4) rfl rfl rfl rfl (Nat.le_of_ble_eq_true rfl) dX6_takes_1 ⟨Nat.zero_le _, Nat.zero_le _⟩ (fun H locs hP hD hS => ?_)
  refine lv_iconst (v := 0) hx hb dX6_takes_4 (by decide) ?_
  refine lv_istore_n (lv' := [(1, .int 0), (0, .ref (h 0))]) hx hb dX6_takes_5 rfl hl (by decide) rfl (fun ls hl => ?_)
  have key_6 : ∀ (n_6 : Nat) (xL_6 : Nat → Nat → Int32) (x1_6 : Int32) (H : Heap) (locs : List Loc) , tr x1_6 148 = n_6 → 0 ≤ x1_6.toInt → mX6_takes_6  (fun xL_6 x1_6 => xL_6) n_6 xL_6 x1_6 = R → va_P D vwCl (wM q h xL_6) H → va_D A (wM q h xL_6) → va_S A s.heap H locs → ∀ ls : Array Slot, lv_has ls 2 [(1, .int x1_6), (0, .ref (h 0))] → W p l e ({ frames := 1, cells := 0, slots := 0, locals := 21 } : Room) s m ([.ref (h 0)] : List Value).toArray below meth c H locs 0 0 (MQ below (muQ D none (wM q h x) (wM q h R)) ([.ref (h 0)] : List Value).toArray s 0 0 (wAt (wM q h x))) (F0 m 6 ls []) := by
    intro n_6
    induction n_6 with
    | zero =>
      intro xL_6 x1_6 H locs hn_6 hk_6 hR hP hD hS ls hl
      rw [mX6_takes_6] at hR
      refine lv_iload_n hx hb dX6_takes_6 rfl (lv_at hl 0 rfl) ?_
      refine lv_sipush (v := 148) hx hb dX6_takes_7 (by decide) ?_
      refine lv_icmp_ge (tgt := 35) hx hb dX6_takes_10 (by decide) (fun c_2 => ?_) (fun c_2 => (tr0 hn_6 c_2).elim)
      subst hR
      exact mu_vret hx hb hr hk hA hS hP dX6_takes_35
    | succ n_6 ih_6 =>
      intro xL_6 x1_6 H locs hn_6 hk_6 hR hP hD hS ls hl
      rw [mX6_takes_6] at hR
      refine lv_iload_n hx hb dX6_takes_6 rfl (lv_at hl 0 rfl) ?_
      refine lv_sipush (v := 148) hx hb dX6_takes_7 (by decide) ?_
      refine lv_icmp_ge (tgt := 35) hx hb dX6_takes_10 (by decide) (fun c_2 => (trS hn_6 c_2).elim) (fun c_2 => ?_)
      have hlt_c_2 : x1_6.toInt < 148 := k_lt c_2
      refine lv_aload_n hx hb dX6_takes_13 rfl (lv_at hl 1 rfl) ?_
      refine va_get (D := D) (ci := 4) (v := .ref (h 1)) (C := RX6) (T := TX6) (N := 7) hx hb hts iX6_takes_X6 hown hG.1 hP 0 rfl rfl 0 (by decide) (hts (.fieldLink RX6 7 "MillComplaintsModel" "s" "[I") (List.mem_of_getElem? (i := 1) rfl)) (fun _ h9 => h9) rfl dX6_takes_14 ?_
      refine lv_iload_n hx hb dX6_takes_17 rfl (lv_at hl 0 rfl) ?_
      refine lv_aload_n hx hb dX6_takes_18 rfl (lv_at hl 1 rfl) ?_
      refine va_get (D := D) (ci := 4) (v := .ref (h 1)) (C := RX6) (T := TX6) (N := 7) hx hb hts iX6_takes_X6 hown hG.1 hP 0 rfl rfl 0 (by decide) (hts (.fieldLink RX6 7 "MillComplaintsModel" "s" "[I") (List.mem_of_getElem? (i := 1) rfl)) (fun _ h9 => h9) rfl dX6_takes_19 ?_
      refine lv_sipush (v := 148) hx hb dX6_takes_22 (by decide) ?_
      refine lv_iload_n hx hb dX6_takes_25 rfl (lv_at hl 0 rfl) ?_
      refine lv_iadd hx hb dX6_takes_26 ?_
      refine va_iald hx hb hG.1 hP 1 0 rfl rfl (ix_t (i := (148 + x1_6)) (x := (148 + (x1_6).toInt)) (n := 296) (ti_add (show (148 : Int32).toInt = 148 from rfl) rfl (by omega)) (by omega)) dX6_takes_27 ?_
      refine va_iast hx hb hG.1 hP hD hS 1 0 rfl rfl (ix_t (i := x1_6) (x := (x1_6).toInt) (n := 296) rfl (by omega)) dX6_takes_28 (fun H locs hP hD hS => ?_)
      have hP : va_P D vwCl (wM q h (setA xL_6 0 (upd (xL_6 0) (x1_6 : Int32).toNatClampNeg ((xL_6 0) ((148 + x1_6)).toNatClampNeg)))) H := hP
      have hD : va_D A (wM q h (setA xL_6 0 (upd (xL_6 0) (x1_6 : Int32).toNatClampNeg ((xL_6 0) ((148 + x1_6)).toNatClampNeg)))) := hD
      obtain ⟨x_3, ex_3⟩ : ∃ z, z = (setA xL_6 0 (upd (xL_6 0) (x1_6 : Int32).toNatClampNeg ((xL_6 0) ((148 + x1_6)).toNatClampNeg))) := ⟨_, rfl⟩
      rw [← ex_3] at hP hD
      replace hR := lt_e hR ex_3
      refine lv_iinc (v := (x1_6 + 1)) (lv' := [(1, .int (x1_6 + 1)), (0, .ref (h 0))]) hx hb dX6_takes_29 hl (k := 0) rfl rfl (by decide) rfl (fun ls hl => ?_)
      refine lv_goto (tgt := 6) hx hb dX6_takes_32 (by decide) ?_
      exact ih_6 x_3 (x1_6 + 1) _ _ (trN hn_6) (k_up hk_6 c_2) hR hP hD hS ls (lv_sub hl [0, 1] rfl)
  exact key_6 _ q_1 0 _ _ rfl (by decide) hR hP hD hS ls hl

def mX6_acts (x : Nat → Nat → Int32) (told : Int32) : Int32 × (Nat → Nat → Int32) := (if told < 0 then (told, x) else (lt (mX6_takes x) (fun q_2 => (told, q_2))))
theorem kX6_acts : yX6_acts.cls = RX6 ∧ yX6_acts.cls ≠ "java/lang/invoke/MethodHandle" ∧ yX6_acts.cls ≠ "java/lang/invoke/VarHandle" ∧ (parseMethodDescriptor yX6_acts.desc).map (fun d => d.parameters.length) = some 1 := by decide +kernel
set_option maxHeartbeats 4000000 in
set_option maxRecDepth 100000 in
theorem MX6_acts (l : Launch) (D : va_G) (q : Nat → ClassId) (h : Nat → Nat) (x : Nat → Nat → Int32) (told : Int32) (hkn : 0 ≤ (x 4 0).toInt ∧ (x 4 0).toInt < 5) : muM l D (tyq q) yX6_acts wsX6_acts ({ frames := 2, cells := 0, slots := 0, locals := 42 } : Room) [.ref (h 0), .int told] (wM q h x) (some (.int (mX6_acts x told).1)) (wM q h (mX6_acts x told).2) := by
  obtain ⟨R, hR⟩ : ∃ z, (mX6_acts x told) = z := ⟨_, rfl⟩
  rw [hR]
  unfold mX6_acts at hR
  refine muM.of (cc := cX6_acts) (maxL := 2) (ret := (some .int)) (by decide) rfl (Nat.le_of_ble_eq_true rfl) ?_
  intro p e s m below meth c ls A hx hb hr hk hml hown hts hP hD hG hA hl
  have hS : va_S A s.heap s.heap [] := va_S.rf
  have hl : lv_has ls 2 [(0, .ref (h 0)), (1, .int told)] := hl
  refine lv_iload_n hx hb dX6_acts_0 rfl (lv_at hl 1 rfl) ?_
  refine lv_if_lt (tgt := 8) hx hb dX6_acts_1 (by decide) (fun c_1 => ?_) (fun c_1 => ?_)
  · rw [if_pos c_1] at hR
    have tc_1 : told.toInt < 0 := i_lt.mp c_1
    refine lv_iload_n hx hb dX6_acts_8 rfl (lv_at hl 1 rfl) ?_
    subst hR
    exact mu_iret hx hb hr hk hA hS hP rfl dX6_acts_9
  · rw [if_neg c_1] at hR
    have tc_1 : ¬ told.toInt < 0 := fun z => c_1 (i_lt.mpr z)
    refine lv_aload_n hx hb dX6_acts_4 rfl (lv_at hl 0 rfl) ?_
    obtain ⟨q_2, eq_2⟩ : ∃ z, z = (mX6_takes x) := ⟨_, rfl⟩
    have hM := MX6_takes l D q h x hkn
    rw [← eq_2] at hM
    replace hR := lt_e hR eq_2
    refine mu_V (D := D) (ws := (wM q h x)) (ws' := (wM q h q_2)) (rest := []) (As := []) hx hb hml hown hts hl hM gX6_acts_X6_takes rfl kX6_takes ⟨Nat.le_of_ble_eq_true rfl, Nat.le_of_ble_eq_true rfl⟩ rfl rfl hP hD hS hG [0, 1, 2, 3, 4] rfl rfl (by decide) [5, 6, 7, 8, 9] rfl (by decide) rfl (ci := 4) rfl rfl rfl rfl (Nat.le_of_ble_eq_true rfl) dX6_acts_5 ⟨Nat.zero_le _, Nat.zero_le _⟩ (fun H locs hP hD hS => ?_)
    refine lv_iload_n hx hb dX6_acts_8 rfl (lv_at hl 1 rfl) ?_
    subst hR
    exact mu_iret hx hb hr hk hA hS hP rfl dX6_acts_9

def mX6_clears (x : Nat → Nat → Int32) (house mill hour : Int32) : (Nat → Nat → Int32) := (lt (setA x 0 (upd (x 0) (((((0 + 68) + (8 * house)) + (2 * mill)) + 0) : Int32).toNatClampNeg (((x 0) (((((0 + 68) + (8 * house)) + (2 * mill)) + 0)).toNatClampNeg) &&& ((1 <<< (hour &&& 31)) ^^^ (-1))))) (fun x_1 => (lt (setA x_1 0 (upd (x_1 0) (((((0 + 68) + (8 * house)) + (2 * mill)) + 1) : Int32).toNatClampNeg (((x_1 0) (((((0 + 68) + (8 * house)) + (2 * mill)) + 1)).toNatClampNeg) &&& ((1 <<< (hour &&& 31)) ^^^ (-1))))) (fun x_2 => x_2))))
theorem kX6_clears : yX6_clears.cls = RX6 ∧ yX6_clears.cls ≠ "java/lang/invoke/MethodHandle" ∧ yX6_clears.cls ≠ "java/lang/invoke/VarHandle" ∧ (parseMethodDescriptor yX6_clears.desc).map (fun d => d.parameters.length) = some 3 := by decide +kernel
theorem iX6_clears_X6 : ∀ w ∈ wsX60, w ∈ wsX6_clears := fun w h => (List.mem_cons_of_mem _ (List.mem_append_right _ h))
set_option maxHeartbeats 4000000 in
set_option maxRecDepth 100000 in
theorem MX6_clears (l : Launch) (D : va_G) (q : Nat → ClassId) (h : Nat → Nat) (x : Nat → Nat → Int32) (house mill hour : Int32) (hhouse : 0 ≤ house.toInt ∧ house.toInt < 10) (hmill : 0 ≤ mill.toInt ∧ mill.toInt < 4) : muM l D (tyq q) yX6_clears wsX6_clears ({ frames := 1, cells := 0, slots := 0, locals := 23 } : Room) [.ref (h 0), .int house, .int mill, .int hour] (wM q h x) none (wM q h (mX6_clears x house mill hour)) := by
  obtain ⟨R, hR⟩ : ∃ z, (mX6_clears x house mill hour) = z := ⟨_, rfl⟩
  rw [hR]
  unfold mX6_clears at hR
  refine muM.of (cc := cX6_clears) (maxL := 4) (ret := none) (by decide) rfl (Nat.le_of_ble_eq_true rfl) ?_
  intro p e s m below meth c ls A hx hb hr hk hml hown hts hP hD hG hA hl
  have hS : va_S A s.heap s.heap [] := va_S.rf
  have hl : lv_has ls 4 [(0, .ref (h 0)), (1, .int house), (2, .int mill), (3, .int hour)] := hl
  refine lv_aload_n hx hb dX6_clears_0 rfl (lv_at hl 0 rfl) ?_
  refine va_get (D := D) (ci := 4) (v := .ref (h 1)) (C := RX6) (T := TX6) (N := 7) hx hb hts iX6_clears_X6 hown hG.1 hP 0 rfl rfl 0 (by decide) (hts (.fieldLink RX6 7 "MillComplaintsModel" "s" "[I") (List.mem_of_getElem? (i := 1) rfl)) (fun _ h9 => h9) rfl dX6_clears_1 ?_
  refine lv_iconst (v := 0) hx hb dX6_clears_4 (by decide) ?_
  refine lv_iload_n hx hb dX6_clears_5 rfl (lv_at hl 1 rfl) ?_
  refine lv_iload_n hx hb dX6_clears_6 rfl (lv_at hl 2 rfl) ?_
  refine lv_iconst (v := 0) hx hb dX6_clears_7 (by decide) ?_
  refine ro_S (v := .int ((((0 + 68) + (8 * house)) + (2 * mill)) + 0)) (rest := [.ref (h 1)]) (As := [.int 0, .int house, .int mill, .int 0]) hx hb hml hown hts hl (MX6_stands l D q 0 house mill 0) gX6_clears_X6_stands rfl kX6_stands ⟨Nat.le_of_ble_eq_true rfl, Nat.le_of_ble_eq_true rfl⟩ rfl rfl (hP.sub (ws' := []) [] rfl) (dT (hD.sub (ws' := []) [] (by decide) rfl)) hG rfl rfl (Nat.le_of_ble_eq_true rfl) dX6_clears_8 ⟨Nat.zero_le _, Nat.zero_le _⟩ ?_
  refine lv_dup2_11 hx hb dX6_clears_11 rfl rfl ?_
  refine va_iald hx hb hG.1 hP 1 0 rfl rfl (ix_t (i := ((((0 + 68) + (8 * house)) + (2 * mill)) + 0)) (x := ((((0 + 68) + (8 * (house).toInt)) + (2 * (mill).toInt)) + 0)) (n := 296) (ti_add (ti_add (ti_add (ti_add (show (0 : Int32).toInt = 0 from rfl) (show (68 : Int32).toInt = 68 from rfl) (by omega)) (ti_mul (show (8 : Int32).toInt = 8 from rfl) rfl (by omega)) (by omega)) (ti_mul (show (2 : Int32).toInt = 2 from rfl) rfl (by omega)) (by omega)) (show (0 : Int32).toInt = 0 from rfl) (by omega)) (by omega)) dX6_clears_12 ?_
  refine lv_iconst (v := 1) hx hb dX6_clears_13 (by decide) ?_
  refine lv_iload_n hx hb dX6_clears_14 rfl (lv_at hl 3 rfl) ?_
  refine lv_ishl hx hb dX6_clears_15 ?_
  refine lv_iconst (v := (-1)) hx hb dX6_clears_16 (by decide) ?_
  refine lv_ixor hx hb dX6_clears_17 ?_
  refine lv_iand hx hb dX6_clears_18 ?_
  refine va_iast hx hb hG.1 hP hD hS 1 0 rfl rfl (ix_t (i := ((((0 + 68) + (8 * house)) + (2 * mill)) + 0)) (x := ((((0 + 68) + (8 * (house).toInt)) + (2 * (mill).toInt)) + 0)) (n := 296) (ti_add (ti_add (ti_add (ti_add (show (0 : Int32).toInt = 0 from rfl) (show (68 : Int32).toInt = 68 from rfl) (by omega)) (ti_mul (show (8 : Int32).toInt = 8 from rfl) rfl (by omega)) (by omega)) (ti_mul (show (2 : Int32).toInt = 2 from rfl) rfl (by omega)) (by omega)) (show (0 : Int32).toInt = 0 from rfl) (by omega)) (by omega)) dX6_clears_19 (fun H locs hP hD hS => ?_)
  have hP : va_P D vwCl (wM q h (setA x 0 (upd (x 0) (((((0 + 68) + (8 * house)) + (2 * mill)) + 0) : Int32).toNatClampNeg (((x 0) (((((0 + 68) + (8 * house)) + (2 * mill)) + 0)).toNatClampNeg) &&& ((1 <<< (hour &&& 31)) ^^^ (-1)))))) H := hP
  have hD : va_D A (wM q h (setA x 0 (upd (x 0) (((((0 + 68) + (8 * house)) + (2 * mill)) + 0) : Int32).toNatClampNeg (((x 0) (((((0 + 68) + (8 * house)) + (2 * mill)) + 0)).toNatClampNeg) &&& ((1 <<< (hour &&& 31)) ^^^ (-1)))))) := hD
  obtain ⟨x_1, ex_1⟩ : ∃ z, z = (setA x 0 (upd (x 0) (((((0 + 68) + (8 * house)) + (2 * mill)) + 0) : Int32).toNatClampNeg (((x 0) (((((0 + 68) + (8 * house)) + (2 * mill)) + 0)).toNatClampNeg) &&& ((1 <<< (hour &&& 31)) ^^^ (-1))))) := ⟨_, rfl⟩
  rw [← ex_1] at hP hD
  replace hR := lt_e hR ex_1
  refine lv_aload_n hx hb dX6_clears_20 rfl (lv_at hl 0 rfl) ?_
  refine va_get (D := D) (ci := 4) (v := .ref (h 1)) (C := RX6) (T := TX6) (N := 7) hx hb hts iX6_clears_X6 hown hG.1 hP 0 rfl rfl 0 (by decide) (hts (.fieldLink RX6 7 "MillComplaintsModel" "s" "[I") (List.mem_of_getElem? (i := 1) rfl)) (fun _ h9 => h9) rfl dX6_clears_21 ?_
  refine lv_iconst (v := 0) hx hb dX6_clears_24 (by decide) ?_
  refine lv_iload_n hx hb dX6_clears_25 rfl (lv_at hl 1 rfl) ?_
  refine lv_iload_n hx hb dX6_clears_26 rfl (lv_at hl 2 rfl) ?_
  refine lv_iconst (v := 1) hx hb dX6_clears_27 (by decide) ?_
  refine ro_S (v := .int ((((0 + 68) + (8 * house)) + (2 * mill)) + 1)) (rest := [.ref (h 1)]) (As := [.int 0, .int house, .int mill, .int 1]) hx hb hml hown hts hl (MX6_stands l D q 0 house mill 1) gX6_clears_X6_stands rfl kX6_stands ⟨Nat.le_of_ble_eq_true rfl, Nat.le_of_ble_eq_true rfl⟩ rfl rfl (hP.sub (ws' := []) [] rfl) (dT (hD.sub (ws' := []) [] (by decide) rfl)) hG rfl rfl (Nat.le_of_ble_eq_true rfl) dX6_clears_28 ⟨Nat.zero_le _, Nat.zero_le _⟩ ?_
  refine lv_dup2_11 hx hb dX6_clears_31 rfl rfl ?_
  refine va_iald hx hb hG.1 hP 1 0 rfl rfl (ix_t (i := ((((0 + 68) + (8 * house)) + (2 * mill)) + 1)) (x := ((((0 + 68) + (8 * (house).toInt)) + (2 * (mill).toInt)) + 1)) (n := 296) (ti_add (ti_add (ti_add (ti_add (show (0 : Int32).toInt = 0 from rfl) (show (68 : Int32).toInt = 68 from rfl) (by omega)) (ti_mul (show (8 : Int32).toInt = 8 from rfl) rfl (by omega)) (by omega)) (ti_mul (show (2 : Int32).toInt = 2 from rfl) rfl (by omega)) (by omega)) (show (1 : Int32).toInt = 1 from rfl) (by omega)) (by omega)) dX6_clears_32 ?_
  refine lv_iconst (v := 1) hx hb dX6_clears_33 (by decide) ?_
  refine lv_iload_n hx hb dX6_clears_34 rfl (lv_at hl 3 rfl) ?_
  refine lv_ishl hx hb dX6_clears_35 ?_
  refine lv_iconst (v := (-1)) hx hb dX6_clears_36 (by decide) ?_
  refine lv_ixor hx hb dX6_clears_37 ?_
  refine lv_iand hx hb dX6_clears_38 ?_
  refine va_iast hx hb hG.1 hP hD hS 1 0 rfl rfl (ix_t (i := ((((0 + 68) + (8 * house)) + (2 * mill)) + 1)) (x := ((((0 + 68) + (8 * (house).toInt)) + (2 * (mill).toInt)) + 1)) (n := 296) (ti_add (ti_add (ti_add (ti_add (show (0 : Int32).toInt = 0 from rfl) (show (68 : Int32).toInt = 68 from rfl) (by omega)) (ti_mul (show (8 : Int32).toInt = 8 from rfl) rfl (by omega)) (by omega)) (ti_mul (show (2 : Int32).toInt = 2 from rfl) rfl (by omega)) (by omega)) (show (1 : Int32).toInt = 1 from rfl) (by omega)) (by omega)) dX6_clears_39 (fun H locs hP hD hS => ?_)
  have hP : va_P D vwCl (wM q h (setA x_1 0 (upd (x_1 0) (((((0 + 68) + (8 * house)) + (2 * mill)) + 1) : Int32).toNatClampNeg (((x_1 0) (((((0 + 68) + (8 * house)) + (2 * mill)) + 1)).toNatClampNeg) &&& ((1 <<< (hour &&& 31)) ^^^ (-1)))))) H := hP
  have hD : va_D A (wM q h (setA x_1 0 (upd (x_1 0) (((((0 + 68) + (8 * house)) + (2 * mill)) + 1) : Int32).toNatClampNeg (((x_1 0) (((((0 + 68) + (8 * house)) + (2 * mill)) + 1)).toNatClampNeg) &&& ((1 <<< (hour &&& 31)) ^^^ (-1)))))) := hD
  obtain ⟨x_2, ex_2⟩ : ∃ z, z = (setA x_1 0 (upd (x_1 0) (((((0 + 68) + (8 * house)) + (2 * mill)) + 1) : Int32).toNatClampNeg (((x_1 0) (((((0 + 68) + (8 * house)) + (2 * mill)) + 1)).toNatClampNeg) &&& ((1 <<< (hour &&& 31)) ^^^ (-1))))) := ⟨_, rfl⟩
  rw [← ex_2] at hP hD
  replace hR := lt_e hR ex_2
  subst hR
  exact mu_vret hx hb hr hk hA hS hP dX6_clears_40
theorem k4_clears (x : Nat → Nat → Int32) (house mill hour : Int32) : (mX6_clears x house mill hour) 4 = x 4 := rfl

def mX6_complains (x : Nat → Nat → Int32) (pp house mill kind hour : Int32) : Int32 × (Nat → Nat → Int32) := (if (mX6_reason x pp house mill kind hour) < 4 then (if (mX6_reason x pp house mill kind hour) ≤ 0 then (lt (setA x 0 (upd (x 0) (((((pp + 68) + (8 * house)) + (2 * mill)) + kind) : Int32).toNatClampNeg (((x 0) (((((pp + 68) + (8 * house)) + (2 * mill)) + kind)).toNatClampNeg) ||| (1 <<< (hour &&& 31))))) (fun x_3 => (lt (setA x_3 0 (upd (x_3 0) ((pp + 62) : Int32).toNatClampNeg (((x_3 0) ((pp + 62)).toNatClampNeg) + 1))) (fun x_4 => (if (mX6_points x_4 pp mill hour) < ((x_4 0) (((pp + 58) + 2)).toNatClampNeg) then ((mX6_points x_4 pp mill hour), x_4) else (lt (setA x_4 0 (upd (x_4 0) ((((pp + 1) + (3 * mill)) + 2) : Int32).toNatClampNeg (((x_4 0) ((((pp + 1) + (3 * mill)) + 2)).toNatClampNeg) ||| (1 <<< (hour &&& 31))))) (fun x_6 => ((mX6_points x_4 pp mill hour), x_6)))))))) else (((-10) - (mX6_reason x pp house mill kind hour)), x)) else (lt (setA x 0 (upd (x 0) ((((pp + 14) + (2 * house)) + 1) : Int32).toNatClampNeg (((x 0) ((((pp + 14) + (2 * house)) + 1)).toNatClampNeg) + 1))) (fun x_7 => (lt (setA x_7 0 (upd (x_7 0) ((pp + 63) : Int32).toNatClampNeg (((x_7 0) ((pp + 63)).toNatClampNeg) + 1))) (fun x_8 => (if (mX6_reason x pp house mill kind hour) ≤ 0 then (lt (setA x_8 0 (upd (x_8 0) (((((pp + 68) + (8 * house)) + (2 * mill)) + kind) : Int32).toNatClampNeg (((x_8 0) (((((pp + 68) + (8 * house)) + (2 * mill)) + kind)).toNatClampNeg) ||| (1 <<< (hour &&& 31))))) (fun x_10 => (lt (setA x_10 0 (upd (x_10 0) ((pp + 62) : Int32).toNatClampNeg (((x_10 0) ((pp + 62)).toNatClampNeg) + 1))) (fun x_11 => (if (mX6_points x_11 pp mill hour) < ((x_11 0) (((pp + 58) + 2)).toNatClampNeg) then ((mX6_points x_11 pp mill hour), x_11) else (lt (setA x_11 0 (upd (x_11 0) ((((pp + 1) + (3 * mill)) + 2) : Int32).toNatClampNeg (((x_11 0) ((((pp + 1) + (3 * mill)) + 2)).toNatClampNeg) ||| (1 <<< (hour &&& 31))))) (fun x_13 => ((mX6_points x_11 pp mill hour), x_13)))))))) else (((-10) - (mX6_reason x pp house mill kind hour)), x_8)))))))
theorem kX6_complains : yX6_complains.cls = RX6 ∧ yX6_complains.cls ≠ "java/lang/invoke/MethodHandle" ∧ yX6_complains.cls ≠ "java/lang/invoke/VarHandle" ∧ (parseMethodDescriptor yX6_complains.desc).map (fun d => d.parameters.length) = some 5 := by decide +kernel
theorem iX6_complains_X6 : ∀ w ∈ wsX60, w ∈ wsX6_complains := fun w h => (List.mem_cons_of_mem _ (List.mem_append_right _ h))
set_option maxHeartbeats 4000000 in
set_option maxRecDepth 100000 in
theorem MX6_complains (l : Launch) (D : va_G) (q : Nat → ClassId) (h : Nat → Nat) (x : Nat → Nat → Int32) (pp house mill kind hour : Int32) (hpp : 0 ≤ pp.toInt ∧ pp.toInt < 149) (hhouse : 0 ≤ house.toInt ∧ house.toInt < 10) (hmill : 0 ≤ mill.toInt ∧ mill.toInt < 4) (hkind : 0 ≤ kind.toInt ∧ kind.toInt < 2) (hhour : 0 ≤ hour.toInt ∧ hour.toInt < 24) : muM l D (tyq q) yX6_complains wsX6_complains ({ frames := 6, cells := 0, slots := 0, locals := 147 } : Room) [.ref (h 0), .int pp, .int house, .int mill, .int kind, .int hour] (wM q h x) (some (.int (mX6_complains x pp house mill kind hour).1)) (wM q h (mX6_complains x pp house mill kind hour).2) := by
  obtain ⟨R, hR⟩ : ∃ z, (mX6_complains x pp house mill kind hour) = z := ⟨_, rfl⟩
  rw [hR]
  unfold mX6_complains at hR
  refine muM.of (cc := cX6_complains) (maxL := 8) (ret := (some .int)) (by decide) rfl (Nat.le_of_ble_eq_true rfl) ?_
  intro p e s m below meth c ls A hx hb hr hk hml hown hts hP hD hG hA hl
  have hS : va_S A s.heap s.heap [] := va_S.rf
  have hl : lv_has ls 8 [(0, .ref (h 0)), (1, .int pp), (2, .int house), (3, .int mill), (4, .int kind), (5, .int hour)] := hl
  refine lv_aload_n hx hb dX6_complains_0 rfl (lv_at hl 0 rfl) ?_
  refine lv_iload_n hx hb dX6_complains_1 rfl (lv_at hl 1 rfl) ?_
  refine lv_iload_n hx hb dX6_complains_2 rfl (lv_at hl 2 rfl) ?_
  refine lv_iload_n hx hb dX6_complains_3 rfl (lv_at hl 3 rfl) ?_
  refine lv_iload hx hb dX6_complains_4 (lv_at hl 4 rfl) ?_
  refine lv_iload hx hb dX6_complains_6 (lv_at hl 5 rfl) ?_
  refine ro_V (v := .int (mX6_reason x pp house mill kind hour)) (rest := []) (As := [.int pp, .int house, .int mill, .int kind, .int hour]) hx hb hml hown hts hl (MX6_reason l D q h x pp house mill kind hour (rg_t (i := pp) (x := (pp).toInt) rfl (by omega)) (rg_t (i := house) (x := (house).toInt) rfl (by omega)) (rg_t (i := mill) (x := (mill).toInt) rfl (by omega)) (rg_t (i := kind) (x := (kind).toInt) rfl (by omega)) (rg_t (i := hour) (x := (hour).toInt) rfl (by omega))) gX6_complains_X6_reason rfl kX6_reason ⟨Nat.le_of_ble_eq_true rfl, Nat.le_of_ble_eq_true rfl⟩ rfl rfl hP (dT hD) hG (ci := 4) rfl rfl rfl rfl (Nat.le_of_ble_eq_true rfl) dX6_complains_8 ⟨Nat.zero_le _, Nat.zero_le _⟩ ?_
  refine lv_istore (lv' := [(6, .int (mX6_reason x pp house mill kind hour)), (0, .ref (h 0)), (1, .int pp), (2, .int house), (3, .int mill), (4, .int kind), (5, .int hour)]) hx hb dX6_complains_11 hl (by decide) rfl (fun ls hl => ?_)
  refine lv_iload hx hb dX6_complains_13 (lv_at hl 0 rfl) ?_
  refine lv_iconst (v := 4) hx hb dX6_complains_15 (by decide) ?_
  refine lv_icmp_lt (tgt := 47) hx hb dX6_complains_16 (by decide) (fun c_1 => ?_) (fun c_1 => ?_)
  · rw [if_pos c_1] at hR
    have tc_1 : (mX6_reason x pp house mill kind hour).toInt < 4 := i_lt.mp c_1
    refine lv_iload hx hb dX6_complains_47 (lv_at hl 0 rfl) ?_
    refine lv_if_le (tgt := 58) hx hb dX6_complains_49 (by decide) (fun c_2 => ?_) (fun c_2 => ?_)
    · rw [if_pos c_2] at hR
      have tc_2 : (mX6_reason x pp house mill kind hour).toInt ≤ 0 := i_le.mp c_2
      refine lv_aload_n hx hb dX6_complains_58 rfl (lv_at hl 1 rfl) ?_
      refine va_get (D := D) (ci := 4) (v := .ref (h 1)) (C := RX6) (T := TX6) (N := 7) hx hb hts iX6_complains_X6 hown hG.1 hP 0 rfl rfl 0 (by decide) (hts (.fieldLink RX6 7 "MillComplaintsModel" "s" "[I") (List.mem_of_getElem? (i := 1) rfl)) (fun _ h9 => h9) rfl dX6_complains_59 ?_
      refine lv_iload_n hx hb dX6_complains_62 rfl (lv_at hl 2 rfl) ?_
      refine lv_iload_n hx hb dX6_complains_63 rfl (lv_at hl 3 rfl) ?_
      refine lv_iload_n hx hb dX6_complains_64 rfl (lv_at hl 4 rfl) ?_
      refine lv_iload hx hb dX6_complains_65 (lv_at hl 5 rfl) ?_
      refine ro_S (v := .int ((((pp + 68) + (8 * house)) + (2 * mill)) + kind)) (rest := [.ref (h 1)]) (As := [.int pp, .int house, .int mill, .int kind]) hx hb hml hown hts hl (MX6_stands l D q pp house mill kind) gX6_complains_X6_stands rfl kX6_stands ⟨Nat.le_of_ble_eq_true rfl, Nat.le_of_ble_eq_true rfl⟩ rfl rfl (hP.sub (ws' := []) [] rfl) (dT (hD.sub (ws' := []) [] (by decide) rfl)) hG rfl rfl (Nat.le_of_ble_eq_true rfl) dX6_complains_67 ⟨Nat.zero_le _, Nat.zero_le _⟩ ?_
      refine lv_dup2_11 hx hb dX6_complains_70 rfl rfl ?_
      refine va_iald hx hb hG.1 hP 1 0 rfl rfl (ix_t (i := ((((pp + 68) + (8 * house)) + (2 * mill)) + kind)) (x := (((((pp).toInt + 68) + (8 * (house).toInt)) + (2 * (mill).toInt)) + (kind).toInt)) (n := 296) (ti_add (ti_add (ti_add (ti_add rfl (show (68 : Int32).toInt = 68 from rfl) (by omega)) (ti_mul (show (8 : Int32).toInt = 8 from rfl) rfl (by omega)) (by omega)) (ti_mul (show (2 : Int32).toInt = 2 from rfl) rfl (by omega)) (by omega)) rfl (by omega)) (by omega)) dX6_complains_71 ?_
      refine lv_iconst (v := 1) hx hb dX6_complains_72 (by decide) ?_
      refine lv_iload hx hb dX6_complains_73 (lv_at hl 6 rfl) ?_
      refine lv_ishl hx hb dX6_complains_75 ?_
      refine lv_ior hx hb dX6_complains_76 ?_
      refine va_iast hx hb hG.1 hP hD hS 1 0 rfl rfl (ix_t (i := ((((pp + 68) + (8 * house)) + (2 * mill)) + kind)) (x := (((((pp).toInt + 68) + (8 * (house).toInt)) + (2 * (mill).toInt)) + (kind).toInt)) (n := 296) (ti_add (ti_add (ti_add (ti_add rfl (show (68 : Int32).toInt = 68 from rfl) (by omega)) (ti_mul (show (8 : Int32).toInt = 8 from rfl) rfl (by omega)) (by omega)) (ti_mul (show (2 : Int32).toInt = 2 from rfl) rfl (by omega)) (by omega)) rfl (by omega)) (by omega)) dX6_complains_77 (fun H locs hP hD hS => ?_)
      have hP : va_P D vwCl (wM q h (setA x 0 (upd (x 0) (((((pp + 68) + (8 * house)) + (2 * mill)) + kind) : Int32).toNatClampNeg (((x 0) (((((pp + 68) + (8 * house)) + (2 * mill)) + kind)).toNatClampNeg) ||| (1 <<< (hour &&& 31)))))) H := hP
      have hD : va_D A (wM q h (setA x 0 (upd (x 0) (((((pp + 68) + (8 * house)) + (2 * mill)) + kind) : Int32).toNatClampNeg (((x 0) (((((pp + 68) + (8 * house)) + (2 * mill)) + kind)).toNatClampNeg) ||| (1 <<< (hour &&& 31)))))) := hD
      obtain ⟨x_3, ex_3⟩ : ∃ z, z = (setA x 0 (upd (x 0) (((((pp + 68) + (8 * house)) + (2 * mill)) + kind) : Int32).toNatClampNeg (((x 0) (((((pp + 68) + (8 * house)) + (2 * mill)) + kind)).toNatClampNeg) ||| (1 <<< (hour &&& 31))))) := ⟨_, rfl⟩
      rw [← ex_3] at hP hD
      replace hR := lt_e hR ex_3
      refine lv_aload_n hx hb dX6_complains_78 rfl (lv_at hl 1 rfl) ?_
      refine va_get (D := D) (ci := 4) (v := .ref (h 1)) (C := RX6) (T := TX6) (N := 7) hx hb hts iX6_complains_X6 hown hG.1 hP 0 rfl rfl 0 (by decide) (hts (.fieldLink RX6 7 "MillComplaintsModel" "s" "[I") (List.mem_of_getElem? (i := 1) rfl)) (fun _ h9 => h9) rfl dX6_complains_79 ?_
      refine lv_iload_n hx hb dX6_complains_82 rfl (lv_at hl 2 rfl) ?_
      refine lv_bipush (v := 62) hx hb dX6_complains_83 (by decide) ?_
      refine lv_iadd hx hb dX6_complains_85 ?_
      refine lv_dup2_11 hx hb dX6_complains_86 rfl rfl ?_
      refine va_iald hx hb hG.1 hP 1 0 rfl rfl (ix_t (i := (pp + 62)) (x := ((pp).toInt + 62)) (n := 296) (ti_add rfl (show (62 : Int32).toInt = 62 from rfl) (by omega)) (by omega)) dX6_complains_87 ?_
      refine lv_iconst (v := 1) hx hb dX6_complains_88 (by decide) ?_
      refine lv_iadd hx hb dX6_complains_89 ?_
      refine va_iast hx hb hG.1 hP hD hS 1 0 rfl rfl (ix_t (i := (pp + 62)) (x := ((pp).toInt + 62)) (n := 296) (ti_add rfl (show (62 : Int32).toInt = 62 from rfl) (by omega)) (by omega)) dX6_complains_90 (fun H locs hP hD hS => ?_)
      have hP : va_P D vwCl (wM q h (setA x_3 0 (upd (x_3 0) ((pp + 62) : Int32).toNatClampNeg (((x_3 0) ((pp + 62)).toNatClampNeg) + 1)))) H := hP
      have hD : va_D A (wM q h (setA x_3 0 (upd (x_3 0) ((pp + 62) : Int32).toNatClampNeg (((x_3 0) ((pp + 62)).toNatClampNeg) + 1)))) := hD
      obtain ⟨x_4, ex_4⟩ : ∃ z, z = (setA x_3 0 (upd (x_3 0) ((pp + 62) : Int32).toNatClampNeg (((x_3 0) ((pp + 62)).toNatClampNeg) + 1))) := ⟨_, rfl⟩
      rw [← ex_4] at hP hD
      replace hR := lt_e hR ex_4
      refine lv_aload_n hx hb dX6_complains_91 rfl (lv_at hl 1 rfl) ?_
      refine lv_iload_n hx hb dX6_complains_92 rfl (lv_at hl 2 rfl) ?_
      refine lv_iload_n hx hb dX6_complains_93 rfl (lv_at hl 4 rfl) ?_
      refine lv_iload hx hb dX6_complains_94 (lv_at hl 6 rfl) ?_
      refine ro_V (v := .int (mX6_points x_4 pp mill hour)) (rest := []) (As := [.int pp, .int mill, .int hour]) hx hb hml hown hts hl (MX6_points l D q h x_4 pp mill hour (rg_t (i := pp) (x := (pp).toInt) rfl (by omega)) (rg_t (i := mill) (x := (mill).toInt) rfl (by omega))) gX6_complains_X6_points rfl kX6_points ⟨Nat.le_of_ble_eq_true rfl, Nat.le_of_ble_eq_true rfl⟩ rfl rfl hP (dT hD) hG (ci := 4) rfl rfl rfl rfl (Nat.le_of_ble_eq_true rfl) dX6_complains_96 ⟨Nat.zero_le _, Nat.zero_le _⟩ ?_
      refine lv_istore (lv' := [(7, .int (mX6_points x_4 pp mill hour)), (6, .int (mX6_reason x pp house mill kind hour)), (0, .ref (h 0)), (1, .int pp), (2, .int house), (3, .int mill), (4, .int kind), (5, .int hour)]) hx hb dX6_complains_99 hl (by decide) rfl (fun ls hl => ?_)
      refine lv_iload hx hb dX6_complains_101 (lv_at hl 0 rfl) ?_
      refine lv_aload_n hx hb dX6_complains_103 rfl (lv_at hl 2 rfl) ?_
      refine va_get (D := D) (ci := 4) (v := .ref (h 1)) (C := RX6) (T := TX6) (N := 7) hx hb hts iX6_complains_X6 hown hG.1 hP 0 rfl rfl 0 (by decide) (hts (.fieldLink RX6 7 "MillComplaintsModel" "s" "[I") (List.mem_of_getElem? (i := 1) rfl)) (fun _ h9 => h9) rfl dX6_complains_104 ?_
      refine lv_iload_n hx hb dX6_complains_107 rfl (lv_at hl 3 rfl) ?_
      refine lv_bipush (v := 58) hx hb dX6_complains_108 (by decide) ?_
      refine lv_iadd hx hb dX6_complains_110 ?_
      refine lv_iconst (v := 2) hx hb dX6_complains_111 (by decide) ?_
      refine lv_iadd hx hb dX6_complains_112 ?_
      refine va_iald hx hb hG.1 hP 1 0 rfl rfl (ix_t (i := ((pp + 58) + 2)) (x := (((pp).toInt + 58) + 2)) (n := 296) (ti_add (ti_add rfl (show (58 : Int32).toInt = 58 from rfl) (by omega)) (show (2 : Int32).toInt = 2 from rfl) (by omega)) (by omega)) dX6_complains_113 ?_
      refine lv_icmp_lt (tgt := 135) hx hb dX6_complains_114 (by decide) (fun c_5 => ?_) (fun c_5 => ?_)
      · rw [if_pos c_5] at hR
        have tc_5 : (mX6_points x_4 pp mill hour).toInt < ((x_4 0) (((pp + 58) + 2)).toNatClampNeg).toInt := i_lt.mp c_5
        refine lv_iload hx hb dX6_complains_135 (lv_at hl 0 rfl) ?_
        subst hR
        exact mu_iret hx hb hr hk hA hS hP rfl dX6_complains_137
      · rw [if_neg c_5] at hR
        have tc_5 : ¬ (mX6_points x_4 pp mill hour).toInt < ((x_4 0) (((pp + 58) + 2)).toNatClampNeg).toInt := fun z => c_5 (i_lt.mpr z)
        refine lv_aload_n hx hb dX6_complains_117 rfl (lv_at hl 2 rfl) ?_
        refine va_get (D := D) (ci := 4) (v := .ref (h 1)) (C := RX6) (T := TX6) (N := 7) hx hb hts iX6_complains_X6 hown hG.1 hP 0 rfl rfl 0 (by decide) (hts (.fieldLink RX6 7 "MillComplaintsModel" "s" "[I") (List.mem_of_getElem? (i := 1) rfl)) (fun _ h9 => h9) rfl dX6_complains_118 ?_
        refine lv_iload_n hx hb dX6_complains_121 rfl (lv_at hl 3 rfl) ?_
        refine lv_iload_n hx hb dX6_complains_122 rfl (lv_at hl 5 rfl) ?_
        refine lv_iconst (v := 2) hx hb dX6_complains_123 (by decide) ?_
        refine ro_S (v := .int (((pp + 1) + (3 * mill)) + 2)) (rest := [.ref (h 1)]) (As := [.int pp, .int mill, .int 2]) hx hb hml hown hts hl (MX6_ofMill l D q pp mill 2) gX6_complains_X6_ofMill rfl kX6_ofMill ⟨Nat.le_of_ble_eq_true rfl, Nat.le_of_ble_eq_true rfl⟩ rfl rfl (hP.sub (ws' := []) [] rfl) (dT (hD.sub (ws' := []) [] (by decide) rfl)) hG rfl rfl (Nat.le_of_ble_eq_true rfl) dX6_complains_124 ⟨Nat.zero_le _, Nat.zero_le _⟩ ?_
        refine lv_dup2_11 hx hb dX6_complains_127 rfl rfl ?_
        refine va_iald hx hb hG.1 hP 1 0 rfl rfl (ix_t (i := (((pp + 1) + (3 * mill)) + 2)) (x := ((((pp).toInt + 1) + (3 * (mill).toInt)) + 2)) (n := 296) (ti_add (ti_add (ti_add rfl (show (1 : Int32).toInt = 1 from rfl) (by omega)) (ti_mul (show (3 : Int32).toInt = 3 from rfl) rfl (by omega)) (by omega)) (show (2 : Int32).toInt = 2 from rfl) (by omega)) (by omega)) dX6_complains_128 ?_
        refine lv_iconst (v := 1) hx hb dX6_complains_129 (by decide) ?_
        refine lv_iload hx hb dX6_complains_130 (lv_at hl 7 rfl) ?_
        refine lv_ishl hx hb dX6_complains_132 ?_
        refine lv_ior hx hb dX6_complains_133 ?_
        refine va_iast hx hb hG.1 hP hD hS 1 0 rfl rfl (ix_t (i := (((pp + 1) + (3 * mill)) + 2)) (x := ((((pp).toInt + 1) + (3 * (mill).toInt)) + 2)) (n := 296) (ti_add (ti_add (ti_add rfl (show (1 : Int32).toInt = 1 from rfl) (by omega)) (ti_mul (show (3 : Int32).toInt = 3 from rfl) rfl (by omega)) (by omega)) (show (2 : Int32).toInt = 2 from rfl) (by omega)) (by omega)) dX6_complains_134 (fun H locs hP hD hS => ?_)
        have hP : va_P D vwCl (wM q h (setA x_4 0 (upd (x_4 0) ((((pp + 1) + (3 * mill)) + 2) : Int32).toNatClampNeg (((x_4 0) ((((pp + 1) + (3 * mill)) + 2)).toNatClampNeg) ||| (1 <<< (hour &&& 31)))))) H := hP
        have hD : va_D A (wM q h (setA x_4 0 (upd (x_4 0) ((((pp + 1) + (3 * mill)) + 2) : Int32).toNatClampNeg (((x_4 0) ((((pp + 1) + (3 * mill)) + 2)).toNatClampNeg) ||| (1 <<< (hour &&& 31)))))) := hD
        obtain ⟨x_6, ex_6⟩ : ∃ z, z = (setA x_4 0 (upd (x_4 0) ((((pp + 1) + (3 * mill)) + 2) : Int32).toNatClampNeg (((x_4 0) ((((pp + 1) + (3 * mill)) + 2)).toNatClampNeg) ||| (1 <<< (hour &&& 31))))) := ⟨_, rfl⟩
        rw [← ex_6] at hP hD
        replace hR := lt_e hR ex_6
        refine lv_iload hx hb dX6_complains_135 (lv_at hl 0 rfl) ?_
        subst hR
        exact mu_iret hx hb hr hk hA hS hP rfl dX6_complains_137
    · rw [if_neg c_2] at hR
      have tc_2 : ¬ (mX6_reason x pp house mill kind hour).toInt ≤ 0 := fun z => c_2 (i_le.mpr z)
      refine lv_bipush (v := (-10)) hx hb dX6_complains_52 (by decide) ?_
      refine lv_iload hx hb dX6_complains_54 (lv_at hl 0 rfl) ?_
      refine lv_isub hx hb dX6_complains_56 ?_
      subst hR
      exact mu_iret hx hb hr hk hA hS hP rfl dX6_complains_57
  · rw [if_neg c_1] at hR
    have tc_1 : ¬ (mX6_reason x pp house mill kind hour).toInt < 4 := fun z => c_1 (i_lt.mpr z)
    refine lv_aload_n hx hb dX6_complains_19 rfl (lv_at hl 1 rfl) ?_
    refine va_get (D := D) (ci := 4) (v := .ref (h 1)) (C := RX6) (T := TX6) (N := 7) hx hb hts iX6_complains_X6 hown hG.1 hP 0 rfl rfl 0 (by decide) (hts (.fieldLink RX6 7 "MillComplaintsModel" "s" "[I") (List.mem_of_getElem? (i := 1) rfl)) (fun _ h9 => h9) rfl dX6_complains_20 ?_
    refine lv_iload_n hx hb dX6_complains_23 rfl (lv_at hl 2 rfl) ?_
    refine lv_iload_n hx hb dX6_complains_24 rfl (lv_at hl 3 rfl) ?_
    refine lv_iconst (v := 1) hx hb dX6_complains_25 (by decide) ?_
    refine ro_S (v := .int (((pp + 14) + (2 * house)) + 1)) (rest := [.ref (h 1)]) (As := [.int pp, .int house, .int 1]) hx hb hml hown hts hl (MX6_ofHouse l D q pp house 1) gX6_complains_X6_ofHouse rfl kX6_ofHouse ⟨Nat.le_of_ble_eq_true rfl, Nat.le_of_ble_eq_true rfl⟩ rfl rfl (hP.sub (ws' := []) [] rfl) (dT (hD.sub (ws' := []) [] (by decide) rfl)) hG rfl rfl (Nat.le_of_ble_eq_true rfl) dX6_complains_26 ⟨Nat.zero_le _, Nat.zero_le _⟩ ?_
    refine lv_dup2_11 hx hb dX6_complains_29 rfl rfl ?_
    refine va_iald hx hb hG.1 hP 1 0 rfl rfl (ix_t (i := (((pp + 14) + (2 * house)) + 1)) (x := ((((pp).toInt + 14) + (2 * (house).toInt)) + 1)) (n := 296) (ti_add (ti_add (ti_add rfl (show (14 : Int32).toInt = 14 from rfl) (by omega)) (ti_mul (show (2 : Int32).toInt = 2 from rfl) rfl (by omega)) (by omega)) (show (1 : Int32).toInt = 1 from rfl) (by omega)) (by omega)) dX6_complains_30 ?_
    refine lv_iconst (v := 1) hx hb dX6_complains_31 (by decide) ?_
    refine lv_iadd hx hb dX6_complains_32 ?_
    refine va_iast hx hb hG.1 hP hD hS 1 0 rfl rfl (ix_t (i := (((pp + 14) + (2 * house)) + 1)) (x := ((((pp).toInt + 14) + (2 * (house).toInt)) + 1)) (n := 296) (ti_add (ti_add (ti_add rfl (show (14 : Int32).toInt = 14 from rfl) (by omega)) (ti_mul (show (2 : Int32).toInt = 2 from rfl) rfl (by omega)) (by omega)) (show (1 : Int32).toInt = 1 from rfl) (by omega)) (by omega)) dX6_complains_33 (fun H locs hP hD hS => ?_)
    have hP : va_P D vwCl (wM q h (setA x 0 (upd (x 0) ((((pp + 14) + (2 * house)) + 1) : Int32).toNatClampNeg (((x 0) ((((pp + 14) + (2 * house)) + 1)).toNatClampNeg) + 1)))) H := hP
    have hD : va_D A (wM q h (setA x 0 (upd (x 0) ((((pp + 14) + (2 * house)) + 1) : Int32).toNatClampNeg (((x 0) ((((pp + 14) + (2 * house)) + 1)).toNatClampNeg) + 1)))) := hD
    obtain ⟨x_7, ex_7⟩ : ∃ z, z = (setA x 0 (upd (x 0) ((((pp + 14) + (2 * house)) + 1) : Int32).toNatClampNeg (((x 0) ((((pp + 14) + (2 * house)) + 1)).toNatClampNeg) + 1))) := ⟨_, rfl⟩
    rw [← ex_7] at hP hD
    replace hR := lt_e hR ex_7
    refine lv_aload_n hx hb dX6_complains_34 rfl (lv_at hl 1 rfl) ?_
    refine va_get (D := D) (ci := 4) (v := .ref (h 1)) (C := RX6) (T := TX6) (N := 7) hx hb hts iX6_complains_X6 hown hG.1 hP 0 rfl rfl 0 (by decide) (hts (.fieldLink RX6 7 "MillComplaintsModel" "s" "[I") (List.mem_of_getElem? (i := 1) rfl)) (fun _ h9 => h9) rfl dX6_complains_35 ?_
    refine lv_iload_n hx hb dX6_complains_38 rfl (lv_at hl 2 rfl) ?_
    refine lv_bipush (v := 63) hx hb dX6_complains_39 (by decide) ?_
    refine lv_iadd hx hb dX6_complains_41 ?_
    refine lv_dup2_11 hx hb dX6_complains_42 rfl rfl ?_
    refine va_iald hx hb hG.1 hP 1 0 rfl rfl (ix_t (i := (pp + 63)) (x := ((pp).toInt + 63)) (n := 296) (ti_add rfl (show (63 : Int32).toInt = 63 from rfl) (by omega)) (by omega)) dX6_complains_43 ?_
    refine lv_iconst (v := 1) hx hb dX6_complains_44 (by decide) ?_
    refine lv_iadd hx hb dX6_complains_45 ?_
    refine va_iast hx hb hG.1 hP hD hS 1 0 rfl rfl (ix_t (i := (pp + 63)) (x := ((pp).toInt + 63)) (n := 296) (ti_add rfl (show (63 : Int32).toInt = 63 from rfl) (by omega)) (by omega)) dX6_complains_46 (fun H locs hP hD hS => ?_)
    have hP : va_P D vwCl (wM q h (setA x_7 0 (upd (x_7 0) ((pp + 63) : Int32).toNatClampNeg (((x_7 0) ((pp + 63)).toNatClampNeg) + 1)))) H := hP
    have hD : va_D A (wM q h (setA x_7 0 (upd (x_7 0) ((pp + 63) : Int32).toNatClampNeg (((x_7 0) ((pp + 63)).toNatClampNeg) + 1)))) := hD
    obtain ⟨x_8, ex_8⟩ : ∃ z, z = (setA x_7 0 (upd (x_7 0) ((pp + 63) : Int32).toNatClampNeg (((x_7 0) ((pp + 63)).toNatClampNeg) + 1))) := ⟨_, rfl⟩
    rw [← ex_8] at hP hD
    replace hR := lt_e hR ex_8
    refine lv_iload hx hb dX6_complains_47 (lv_at hl 0 rfl) ?_
    refine lv_if_le (tgt := 58) hx hb dX6_complains_49 (by decide) (fun c_9 => ?_) (fun c_9 => ?_)
    · rw [if_pos c_9] at hR
      have tc_9 : (mX6_reason x pp house mill kind hour).toInt ≤ 0 := i_le.mp c_9
      refine lv_aload_n hx hb dX6_complains_58 rfl (lv_at hl 1 rfl) ?_
      refine va_get (D := D) (ci := 4) (v := .ref (h 1)) (C := RX6) (T := TX6) (N := 7) hx hb hts iX6_complains_X6 hown hG.1 hP 0 rfl rfl 0 (by decide) (hts (.fieldLink RX6 7 "MillComplaintsModel" "s" "[I") (List.mem_of_getElem? (i := 1) rfl)) (fun _ h9 => h9) rfl dX6_complains_59 ?_
      refine lv_iload_n hx hb dX6_complains_62 rfl (lv_at hl 2 rfl) ?_
      refine lv_iload_n hx hb dX6_complains_63 rfl (lv_at hl 3 rfl) ?_
      refine lv_iload_n hx hb dX6_complains_64 rfl (lv_at hl 4 rfl) ?_
      refine lv_iload hx hb dX6_complains_65 (lv_at hl 5 rfl) ?_
      refine ro_S (v := .int ((((pp + 68) + (8 * house)) + (2 * mill)) + kind)) (rest := [.ref (h 1)]) (As := [.int pp, .int house, .int mill, .int kind]) hx hb hml hown hts hl (MX6_stands l D q pp house mill kind) gX6_complains_X6_stands rfl kX6_stands ⟨Nat.le_of_ble_eq_true rfl, Nat.le_of_ble_eq_true rfl⟩ rfl rfl (hP.sub (ws' := []) [] rfl) (dT (hD.sub (ws' := []) [] (by decide) rfl)) hG rfl rfl (Nat.le_of_ble_eq_true rfl) dX6_complains_67 ⟨Nat.zero_le _, Nat.zero_le _⟩ ?_
      refine lv_dup2_11 hx hb dX6_complains_70 rfl rfl ?_
      refine va_iald hx hb hG.1 hP 1 0 rfl rfl (ix_t (i := ((((pp + 68) + (8 * house)) + (2 * mill)) + kind)) (x := (((((pp).toInt + 68) + (8 * (house).toInt)) + (2 * (mill).toInt)) + (kind).toInt)) (n := 296) (ti_add (ti_add (ti_add (ti_add rfl (show (68 : Int32).toInt = 68 from rfl) (by omega)) (ti_mul (show (8 : Int32).toInt = 8 from rfl) rfl (by omega)) (by omega)) (ti_mul (show (2 : Int32).toInt = 2 from rfl) rfl (by omega)) (by omega)) rfl (by omega)) (by omega)) dX6_complains_71 ?_
      refine lv_iconst (v := 1) hx hb dX6_complains_72 (by decide) ?_
      refine lv_iload hx hb dX6_complains_73 (lv_at hl 6 rfl) ?_
      refine lv_ishl hx hb dX6_complains_75 ?_
      refine lv_ior hx hb dX6_complains_76 ?_
      refine va_iast hx hb hG.1 hP hD hS 1 0 rfl rfl (ix_t (i := ((((pp + 68) + (8 * house)) + (2 * mill)) + kind)) (x := (((((pp).toInt + 68) + (8 * (house).toInt)) + (2 * (mill).toInt)) + (kind).toInt)) (n := 296) (ti_add (ti_add (ti_add (ti_add rfl (show (68 : Int32).toInt = 68 from rfl) (by omega)) (ti_mul (show (8 : Int32).toInt = 8 from rfl) rfl (by omega)) (by omega)) (ti_mul (show (2 : Int32).toInt = 2 from rfl) rfl (by omega)) (by omega)) rfl (by omega)) (by omega)) dX6_complains_77 (fun H locs hP hD hS => ?_)
      have hP : va_P D vwCl (wM q h (setA x_8 0 (upd (x_8 0) (((((pp + 68) + (8 * house)) + (2 * mill)) + kind) : Int32).toNatClampNeg (((x_8 0) (((((pp + 68) + (8 * house)) + (2 * mill)) + kind)).toNatClampNeg) ||| (1 <<< (hour &&& 31)))))) H := hP
      have hD : va_D A (wM q h (setA x_8 0 (upd (x_8 0) (((((pp + 68) + (8 * house)) + (2 * mill)) + kind) : Int32).toNatClampNeg (((x_8 0) (((((pp + 68) + (8 * house)) + (2 * mill)) + kind)).toNatClampNeg) ||| (1 <<< (hour &&& 31)))))) := hD
      obtain ⟨x_10, ex_10⟩ : ∃ z, z = (setA x_8 0 (upd (x_8 0) (((((pp + 68) + (8 * house)) + (2 * mill)) + kind) : Int32).toNatClampNeg (((x_8 0) (((((pp + 68) + (8 * house)) + (2 * mill)) + kind)).toNatClampNeg) ||| (1 <<< (hour &&& 31))))) := ⟨_, rfl⟩
      rw [← ex_10] at hP hD
      replace hR := lt_e hR ex_10
      refine lv_aload_n hx hb dX6_complains_78 rfl (lv_at hl 1 rfl) ?_
      refine va_get (D := D) (ci := 4) (v := .ref (h 1)) (C := RX6) (T := TX6) (N := 7) hx hb hts iX6_complains_X6 hown hG.1 hP 0 rfl rfl 0 (by decide) (hts (.fieldLink RX6 7 "MillComplaintsModel" "s" "[I") (List.mem_of_getElem? (i := 1) rfl)) (fun _ h9 => h9) rfl dX6_complains_79 ?_
      refine lv_iload_n hx hb dX6_complains_82 rfl (lv_at hl 2 rfl) ?_
      refine lv_bipush (v := 62) hx hb dX6_complains_83 (by decide) ?_
      refine lv_iadd hx hb dX6_complains_85 ?_
      refine lv_dup2_11 hx hb dX6_complains_86 rfl rfl ?_
      refine va_iald hx hb hG.1 hP 1 0 rfl rfl (ix_t (i := (pp + 62)) (x := ((pp).toInt + 62)) (n := 296) (ti_add rfl (show (62 : Int32).toInt = 62 from rfl) (by omega)) (by omega)) dX6_complains_87 ?_
      refine lv_iconst (v := 1) hx hb dX6_complains_88 (by decide) ?_
      refine lv_iadd hx hb dX6_complains_89 ?_
      refine va_iast hx hb hG.1 hP hD hS 1 0 rfl rfl (ix_t (i := (pp + 62)) (x := ((pp).toInt + 62)) (n := 296) (ti_add rfl (show (62 : Int32).toInt = 62 from rfl) (by omega)) (by omega)) dX6_complains_90 (fun H locs hP hD hS => ?_)
      have hP : va_P D vwCl (wM q h (setA x_10 0 (upd (x_10 0) ((pp + 62) : Int32).toNatClampNeg (((x_10 0) ((pp + 62)).toNatClampNeg) + 1)))) H := hP
      have hD : va_D A (wM q h (setA x_10 0 (upd (x_10 0) ((pp + 62) : Int32).toNatClampNeg (((x_10 0) ((pp + 62)).toNatClampNeg) + 1)))) := hD
      obtain ⟨x_11, ex_11⟩ : ∃ z, z = (setA x_10 0 (upd (x_10 0) ((pp + 62) : Int32).toNatClampNeg (((x_10 0) ((pp + 62)).toNatClampNeg) + 1))) := ⟨_, rfl⟩
      rw [← ex_11] at hP hD
      replace hR := lt_e hR ex_11
      refine lv_aload_n hx hb dX6_complains_91 rfl (lv_at hl 1 rfl) ?_
      refine lv_iload_n hx hb dX6_complains_92 rfl (lv_at hl 2 rfl) ?_
      refine lv_iload_n hx hb dX6_complains_93 rfl (lv_at hl 4 rfl) ?_
      refine lv_iload hx hb dX6_complains_94 (lv_at hl 6 rfl) ?_
      refine ro_V (v := .int (mX6_points x_11 pp mill hour)) (rest := []) (As := [.int pp, .int mill, .int hour]) hx hb hml hown hts hl (MX6_points l D q h x_11 pp mill hour (rg_t (i := pp) (x := (pp).toInt) rfl (by omega)) (rg_t (i := mill) (x := (mill).toInt) rfl (by omega))) gX6_complains_X6_points rfl kX6_points ⟨Nat.le_of_ble_eq_true rfl, Nat.le_of_ble_eq_true rfl⟩ rfl rfl hP (dT hD) hG (ci := 4) rfl rfl rfl rfl (Nat.le_of_ble_eq_true rfl) dX6_complains_96 ⟨Nat.zero_le _, Nat.zero_le _⟩ ?_
      refine lv_istore (lv' := [(7, .int (mX6_points x_11 pp mill hour)), (6, .int (mX6_reason x pp house mill kind hour)), (0, .ref (h 0)), (1, .int pp), (2, .int house), (3, .int mill), (4, .int kind), (5, .int hour)]) hx hb dX6_complains_99 hl (by decide) rfl (fun ls hl => ?_)
      refine lv_iload hx hb dX6_complains_101 (lv_at hl 0 rfl) ?_
      refine lv_aload_n hx hb dX6_complains_103 rfl (lv_at hl 2 rfl) ?_
      refine va_get (D := D) (ci := 4) (v := .ref (h 1)) (C := RX6) (T := TX6) (N := 7) hx hb hts iX6_complains_X6 hown hG.1 hP 0 rfl rfl 0 (by decide) (hts (.fieldLink RX6 7 "MillComplaintsModel" "s" "[I") (List.mem_of_getElem? (i := 1) rfl)) (fun _ h9 => h9) rfl dX6_complains_104 ?_
      refine lv_iload_n hx hb dX6_complains_107 rfl (lv_at hl 3 rfl) ?_
      refine lv_bipush (v := 58) hx hb dX6_complains_108 (by decide) ?_
      refine lv_iadd hx hb dX6_complains_110 ?_
      refine lv_iconst (v := 2) hx hb dX6_complains_111 (by decide) ?_
      refine lv_iadd hx hb dX6_complains_112 ?_
      refine va_iald hx hb hG.1 hP 1 0 rfl rfl (ix_t (i := ((pp + 58) + 2)) (x := (((pp).toInt + 58) + 2)) (n := 296) (ti_add (ti_add rfl (show (58 : Int32).toInt = 58 from rfl) (by omega)) (show (2 : Int32).toInt = 2 from rfl) (by omega)) (by omega)) dX6_complains_113 ?_
      refine lv_icmp_lt (tgt := 135) hx hb dX6_complains_114 (by decide) (fun c_12 => ?_) (fun c_12 => ?_)
      · rw [if_pos c_12] at hR
        have tc_12 : (mX6_points x_11 pp mill hour).toInt < ((x_11 0) (((pp + 58) + 2)).toNatClampNeg).toInt := i_lt.mp c_12
        refine lv_iload hx hb dX6_complains_135 (lv_at hl 0 rfl) ?_
        subst hR
        exact mu_iret hx hb hr hk hA hS hP rfl dX6_complains_137
      · rw [if_neg c_12] at hR
        have tc_12 : ¬ (mX6_points x_11 pp mill hour).toInt < ((x_11 0) (((pp + 58) + 2)).toNatClampNeg).toInt := fun z => c_12 (i_lt.mpr z)
        refine lv_aload_n hx hb dX6_complains_117 rfl (lv_at hl 2 rfl) ?_
        refine va_get (D := D) (ci := 4) (v := .ref (h 1)) (C := RX6) (T := TX6) (N := 7) hx hb hts iX6_complains_X6 hown hG.1 hP 0 rfl rfl 0 (by decide) (hts (.fieldLink RX6 7 "MillComplaintsModel" "s" "[I") (List.mem_of_getElem? (i := 1) rfl)) (fun _ h9 => h9) rfl dX6_complains_118 ?_
        refine lv_iload_n hx hb dX6_complains_121 rfl (lv_at hl 3 rfl) ?_
        refine lv_iload_n hx hb dX6_complains_122 rfl (lv_at hl 5 rfl) ?_
        refine lv_iconst (v := 2) hx hb dX6_complains_123 (by decide) ?_
        refine ro_S (v := .int (((pp + 1) + (3 * mill)) + 2)) (rest := [.ref (h 1)]) (As := [.int pp, .int mill, .int 2]) hx hb hml hown hts hl (MX6_ofMill l D q pp mill 2) gX6_complains_X6_ofMill rfl kX6_ofMill ⟨Nat.le_of_ble_eq_true rfl, Nat.le_of_ble_eq_true rfl⟩ rfl rfl (hP.sub (ws' := []) [] rfl) (dT (hD.sub (ws' := []) [] (by decide) rfl)) hG rfl rfl (Nat.le_of_ble_eq_true rfl) dX6_complains_124 ⟨Nat.zero_le _, Nat.zero_le _⟩ ?_
        refine lv_dup2_11 hx hb dX6_complains_127 rfl rfl ?_
        refine va_iald hx hb hG.1 hP 1 0 rfl rfl (ix_t (i := (((pp + 1) + (3 * mill)) + 2)) (x := ((((pp).toInt + 1) + (3 * (mill).toInt)) + 2)) (n := 296) (ti_add (ti_add (ti_add rfl (show (1 : Int32).toInt = 1 from rfl) (by omega)) (ti_mul (show (3 : Int32).toInt = 3 from rfl) rfl (by omega)) (by omega)) (show (2 : Int32).toInt = 2 from rfl) (by omega)) (by omega)) dX6_complains_128 ?_
        refine lv_iconst (v := 1) hx hb dX6_complains_129 (by decide) ?_
        refine lv_iload hx hb dX6_complains_130 (lv_at hl 7 rfl) ?_
        refine lv_ishl hx hb dX6_complains_132 ?_
        refine lv_ior hx hb dX6_complains_133 ?_
        refine va_iast hx hb hG.1 hP hD hS 1 0 rfl rfl (ix_t (i := (((pp + 1) + (3 * mill)) + 2)) (x := ((((pp).toInt + 1) + (3 * (mill).toInt)) + 2)) (n := 296) (ti_add (ti_add (ti_add rfl (show (1 : Int32).toInt = 1 from rfl) (by omega)) (ti_mul (show (3 : Int32).toInt = 3 from rfl) rfl (by omega)) (by omega)) (show (2 : Int32).toInt = 2 from rfl) (by omega)) (by omega)) dX6_complains_134 (fun H locs hP hD hS => ?_)
        have hP : va_P D vwCl (wM q h (setA x_11 0 (upd (x_11 0) ((((pp + 1) + (3 * mill)) + 2) : Int32).toNatClampNeg (((x_11 0) ((((pp + 1) + (3 * mill)) + 2)).toNatClampNeg) ||| (1 <<< (hour &&& 31)))))) H := hP
        have hD : va_D A (wM q h (setA x_11 0 (upd (x_11 0) ((((pp + 1) + (3 * mill)) + 2) : Int32).toNatClampNeg (((x_11 0) ((((pp + 1) + (3 * mill)) + 2)).toNatClampNeg) ||| (1 <<< (hour &&& 31)))))) := hD
        obtain ⟨x_13, ex_13⟩ : ∃ z, z = (setA x_11 0 (upd (x_11 0) ((((pp + 1) + (3 * mill)) + 2) : Int32).toNatClampNeg (((x_11 0) ((((pp + 1) + (3 * mill)) + 2)).toNatClampNeg) ||| (1 <<< (hour &&& 31))))) := ⟨_, rfl⟩
        rw [← ex_13] at hP hD
        replace hR := lt_e hR ex_13
        refine lv_iload hx hb dX6_complains_135 (lv_at hl 0 rfl) ?_
        subst hR
        exact mu_iret hx hb hr hk hA hS hP rfl dX6_complains_137
    · rw [if_neg c_9] at hR
      have tc_9 : ¬ (mX6_reason x pp house mill kind hour).toInt ≤ 0 := fun z => c_9 (i_le.mpr z)
      refine lv_bipush (v := (-10)) hx hb dX6_complains_52 (by decide) ?_
      refine lv_iload hx hb dX6_complains_54 (lv_at hl 0 rfl) ?_
      refine lv_isub hx hb dX6_complains_56 ?_
      subst hR
      exact mu_iret hx hb hr hk hA hS hP rfl dX6_complains_57
theorem k4_complains (x : Nat → Nat → Int32) (pp house mill kind hour : Int32) : (mX6_complains x pp house mill kind hour).2 4 = x 4 := by
  unfold mX6_complains
  dsimp only [lt]
  repeat' split
  all_goals rfl
