def mX6_turning_4 (x : Nat → Nat → Int32) (mill : Int32) (C : Int32 → Int32 → Int32) : Nat → Int32 → Int32 → Int32
  | 0, x3_4, x2_4 => C x3_4 x2_4
  | n_4 + 1, x3_4, x2_4 => (if (mX6_turns x 0 mill x3_4) = 0 then (mX6_turning_4 x mill C n_4 (x3_4 + 1) (x2_4 ||| 0)) else (mX6_turning_4 x mill C n_4 (x3_4 + 1) (x2_4 ||| (1 <<< (x3_4 &&& 31)))))
def mX6_turning (x : Nat → Nat → Int32) (mill : Int32) : Int32 := (mX6_turning_4 x mill (fun x3_4 x2_4 => x2_4) (tr 0 24) 0 0)
theorem kX6_turning : yX6_turning.cls = RX6 ∧ yX6_turning.cls ≠ "java/lang/invoke/MethodHandle" ∧ yX6_turning.cls ≠ "java/lang/invoke/VarHandle" ∧ (parseMethodDescriptor yX6_turning.desc).map (fun d => d.parameters.length) = some 1 := by decide +kernel
set_option maxHeartbeats 4000000 in
set_option maxRecDepth 100000 in
theorem MX6_turning (l : Launch) (D : va_G) (q : Nat → ClassId) (h : Nat → Nat) (x : Nat → Nat → Int32) (mill : Int32) (hmill : 0 ≤ mill.toInt ∧ mill.toInt < 4) : roM l D (tyq q) yX6_turning wsX6_turning ({ frames := 3, cells := 0, slots := 0, locals := 68 } : Room) [.ref (h 0), .int mill] (wM q h x) (some (.int (mX6_turning x mill))) := by
  obtain ⟨R, hR⟩ : ∃ z, (mX6_turning x mill) = z := ⟨_, rfl⟩
  rw [hR]
  unfold mX6_turning at hR
  refine roM.of (cc := cX6_turning) (maxL := 4) (ret := (some .int)) (by decide) rfl (Nat.le_of_ble_eq_true rfl) ?_
  intro p e s m below meth c ls hx hb hr hk hml hown hts hP hD hG hl
  have hl : lv_has ls 4 [(0, .ref (h 0)), (1, .int mill)] := hl
  refine lv_iconst (v := 0) hx hb dX6_turning_0 (by decide) ?_
  refine lv_istore_n (lv' := [(2, .int 0), (0, .ref (h 0)), (1, .int mill)]) hx hb dX6_turning_1 rfl hl (by decide) rfl (fun ls hl => ?_)
  refine lv_iconst (v := 0) hx hb dX6_turning_2 (by decide) ?_
  refine lv_istore_n (lv' := [(3, .int 0), (2, .int 0), (0, .ref (h 0)), (1, .int mill)]) hx hb dX6_turning_3 rfl hl (by decide) rfl (fun ls hl => ?_)
  have key_4 : ∀ (n_4 : Nat) (x3_4 : Int32) (x2_4 : Int32), tr x3_4 24 = n_4 → 0 ≤ x3_4.toInt → mX6_turning_4 x mill (fun x3_4 x2_4 => x2_4) n_4 x3_4 x2_4 = R → ∀ ls : Array Slot, lv_has ls 4 [(3, .int x3_4), (2, .int x2_4), (0, .ref (h 0)), (1, .int mill)] → W p l e ({ frames := 3, cells := 0, slots := 0, locals := 68 } : Room) s m ([.ref (h 0), .int mill] : List Value).toArray below meth c s.heap [] 0 0 (MQ below (roQ (some (.int R))) ([.ref (h 0), .int mill] : List Value).toArray s 0 0 (fun _ => False)) (F0 m 4 ls []) := by
    intro n_4
    induction n_4 with
    | zero =>
      intro x3_4 x2_4 hn_4 hk_4 hR ls hl
      rw [mX6_turning_4] at hR
      refine lv_iload_n hx hb dX6_turning_4 rfl (lv_at hl 0 rfl) ?_
      refine lv_bipush (v := 24) hx hb dX6_turning_5 (by decide) ?_
      refine lv_icmp_ge (tgt := 36) hx hb dX6_turning_7 (by decide) (fun c_1 => ?_) (fun c_1 => (tr0 hn_4 c_1).elim)
      refine lv_iload_n hx hb dX6_turning_36 rfl (lv_at hl 1 rfl) ?_
      exact ro_iret hx hb hr hk hR dX6_turning_37
    | succ n_4 ih_4 =>
      intro x3_4 x2_4 hn_4 hk_4 hR ls hl
      rw [mX6_turning_4] at hR
      refine lv_iload_n hx hb dX6_turning_4 rfl (lv_at hl 0 rfl) ?_
      refine lv_bipush (v := 24) hx hb dX6_turning_5 (by decide) ?_
      refine lv_icmp_ge (tgt := 36) hx hb dX6_turning_7 (by decide) (fun c_1 => (trS hn_4 c_1).elim) (fun c_1 => ?_)
      have hlt_c_1 : x3_4.toInt < 24 := k_lt c_1
      refine lv_iload_n hx hb dX6_turning_10 rfl (lv_at hl 1 rfl) ?_
      refine lv_aload_n hx hb dX6_turning_11 rfl (lv_at hl 2 rfl) ?_
      refine lv_iconst (v := 0) hx hb dX6_turning_12 (by decide) ?_
      refine lv_iload_n hx hb dX6_turning_13 rfl (lv_at hl 3 rfl) ?_
      refine lv_iload_n hx hb dX6_turning_14 rfl (lv_at hl 0 rfl) ?_
      refine ro_V (v := .int (mX6_turns x 0 mill x3_4)) (rest := [.int x2_4]) (As := [.int 0, .int mill, .int x3_4]) hx hb hml hown hts hl (MX6_turns l D q h x 0 mill x3_4 (rg_t (i := 0) (x := 0) (show (0 : Int32).toInt = 0 from rfl) (by omega)) (rg_t (i := mill) (x := (mill).toInt) rfl (by omega)) (rg_t (i := x3_4) (x := (x3_4).toInt) rfl (by omega))) gX6_turning_X6_turns rfl kX6_turns ⟨Nat.le_of_ble_eq_true rfl, Nat.le_of_ble_eq_true rfl⟩ rfl rfl hP (dT hD) hG (ci := 4) rfl rfl rfl rfl (Nat.le_of_ble_eq_true rfl) dX6_turning_15 ⟨Nat.zero_le _, Nat.zero_le _⟩ ?_
      refine lv_if_eq (tgt := 27) hx hb dX6_turning_18 (by decide) (fun c_2 => ?_) (fun c_2 => ?_)
      · rw [if_pos c_2] at hR
        refine lv_iconst (v := 0) hx hb dX6_turning_27 (by decide) ?_
        refine lv_ior hx hb dX6_turning_28 ?_
        refine lv_istore_n (lv' := [(2, .int (x2_4 ||| 0)), (3, .int x3_4), (0, .ref (h 0)), (1, .int mill)]) hx hb dX6_turning_29 rfl hl (by decide) rfl (fun ls hl => ?_)
        refine lv_iinc (v := (x3_4 + 1)) (lv' := [(3, .int (x3_4 + 1)), (2, .int (x2_4 ||| 0)), (0, .ref (h 0)), (1, .int mill)]) hx hb dX6_turning_30 hl (k := 1) rfl rfl (by decide) rfl (fun ls hl => ?_)
        refine lv_goto (tgt := 4) hx hb dX6_turning_33 (by decide) ?_
        exact ih_4 (x3_4 + 1) (x2_4 ||| 0) (trN hn_4) (k_up hk_4 c_1) hR ls (lv_sub hl [0, 1, 2, 3] rfl)
      · rw [if_neg c_2] at hR
        refine lv_iconst (v := 1) hx hb dX6_turning_21 (by decide) ?_
        refine lv_iload_n hx hb dX6_turning_22 rfl (lv_at hl 0 rfl) ?_
        refine lv_ishl hx hb dX6_turning_23 ?_
        refine lv_goto (tgt := 28) hx hb dX6_turning_24 (by decide) ?_
        refine lv_ior hx hb dX6_turning_28 ?_
        refine lv_istore_n (lv' := [(2, .int (x2_4 ||| (1 <<< (x3_4 &&& 31)))), (3, .int x3_4), (0, .ref (h 0)), (1, .int mill)]) hx hb dX6_turning_29 rfl hl (by decide) rfl (fun ls hl => ?_)
        refine lv_iinc (v := (x3_4 + 1)) (lv' := [(3, .int (x3_4 + 1)), (2, .int (x2_4 ||| (1 <<< (x3_4 &&& 31)))), (0, .ref (h 0)), (1, .int mill)]) hx hb dX6_turning_30 hl (k := 1) rfl rfl (by decide) rfl (fun ls hl => ?_)
        refine lv_goto (tgt := 4) hx hb dX6_turning_33 (by decide) ?_
        exact ih_4 (x3_4 + 1) (x2_4 ||| (1 <<< (x3_4 &&& 31))) (trN hn_4) (k_up hk_4 c_1) hR ls (lv_sub hl [0, 1, 2, 3] rfl)
  exact key_4 _ 0 0 rfl (by decide) hR ls hl

def mX6_grain_4 (x : Nat → Nat → Int32) (hours : Int32) (C : Int32 → Int32 → Int32) : Nat → Int32 → Int32 → Int32
  | 0, x3_4, x2_4 => C x3_4 x2_4
  | n_4 + 1, x3_4, x2_4 => (if ((hours >>> (x3_4 &&& 31)) &&& 1) = 1 then (if ((x 0) ((34 + x3_4)).toNatClampNeg) < 2 then (mX6_grain_4 x hours C n_4 (x3_4 + 1) (x2_4 + 0)) else (mX6_grain_4 x hours C n_4 (x3_4 + 1) (x2_4 + ((x 0) ((34 + x3_4)).toNatClampNeg)))) else (mX6_grain_4 x hours C n_4 (x3_4 + 1) (x2_4 + 0)))
def mX6_grain (x : Nat → Nat → Int32) (hours : Int32) : Int32 := (mX6_grain_4 x hours (fun x3_4 x2_4 => x2_4) (tr 0 24) 0 0)
theorem kX6_grain : yX6_grain.cls = RX6 ∧ yX6_grain.cls ≠ "java/lang/invoke/MethodHandle" ∧ yX6_grain.cls ≠ "java/lang/invoke/VarHandle" ∧ (parseMethodDescriptor yX6_grain.desc).map (fun d => d.parameters.length) = some 1 := by decide +kernel
theorem iX6_grain_X6 : ∀ w ∈ wsX60, w ∈ wsX6_grain := fun w h => (List.mem_cons_of_mem _ (List.mem_append_right _ h))
set_option maxHeartbeats 4000000 in
set_option maxRecDepth 100000 in
theorem MX6_grain (l : Launch) (D : va_G) (q : Nat → ClassId) (h : Nat → Nat) (x : Nat → Nat → Int32) (hours : Int32)  : roM l D (tyq q) yX6_grain wsX6_grain ({ frames := 0, cells := 0, slots := 0, locals := 0 } : Room) [.ref (h 0), .int hours] (wM q h x) (some (.int (mX6_grain x hours))) := by
  obtain ⟨R, hR⟩ : ∃ z, (mX6_grain x hours) = z := ⟨_, rfl⟩
  rw [hR]
  unfold mX6_grain at hR
  refine roM.of (cc := cX6_grain) (maxL := 4) (ret := (some .int)) (by decide) rfl (Nat.le_of_ble_eq_true rfl) ?_
  intro p e s m below meth c ls hx hb hr hk hml hown hts hP hD hG hl
  have hl : lv_has ls 4 [(0, .ref (h 0)), (1, .int hours)] := hl
  refine lv_iconst (v := 0) hx hb dX6_grain_0 (by decide) ?_
  refine lv_istore_n (lv' := [(2, .int 0), (0, .ref (h 0)), (1, .int hours)]) hx hb dX6_grain_1 rfl hl (by decide) rfl (fun ls hl => ?_)
  refine lv_iconst (v := 0) hx hb dX6_grain_2 (by decide) ?_
  refine lv_istore_n (lv' := [(3, .int 0), (2, .int 0), (0, .ref (h 0)), (1, .int hours)]) hx hb dX6_grain_3 rfl hl (by decide) rfl (fun ls hl => ?_)
  have key_4 : ∀ (n_4 : Nat) (x3_4 : Int32) (x2_4 : Int32), tr x3_4 24 = n_4 → 0 ≤ x3_4.toInt → mX6_grain_4 x hours (fun x3_4 x2_4 => x2_4) n_4 x3_4 x2_4 = R → ∀ ls : Array Slot, lv_has ls 4 [(3, .int x3_4), (2, .int x2_4), (0, .ref (h 0)), (1, .int hours)] → W p l e ({ frames := 0, cells := 0, slots := 0, locals := 0 } : Room) s m ([.ref (h 0), .int hours] : List Value).toArray below meth c s.heap [] 0 0 (MQ below (roQ (some (.int R))) ([.ref (h 0), .int hours] : List Value).toArray s 0 0 (fun _ => False)) (F0 m 4 ls []) := by
    intro n_4
    induction n_4 with
    | zero =>
      intro x3_4 x2_4 hn_4 hk_4 hR ls hl
      rw [mX6_grain_4] at hR
      refine lv_iload_n hx hb dX6_grain_4 rfl (lv_at hl 0 rfl) ?_
      refine lv_bipush (v := 24) hx hb dX6_grain_5 (by decide) ?_
      refine lv_icmp_ge (tgt := 54) hx hb dX6_grain_7 (by decide) (fun c_1 => ?_) (fun c_1 => (tr0 hn_4 c_1).elim)
      refine lv_iload_n hx hb dX6_grain_54 rfl (lv_at hl 1 rfl) ?_
      exact ro_iret hx hb hr hk hR dX6_grain_55
    | succ n_4 ih_4 =>
      intro x3_4 x2_4 hn_4 hk_4 hR ls hl
      rw [mX6_grain_4] at hR
      refine lv_iload_n hx hb dX6_grain_4 rfl (lv_at hl 0 rfl) ?_
      refine lv_bipush (v := 24) hx hb dX6_grain_5 (by decide) ?_
      refine lv_icmp_ge (tgt := 54) hx hb dX6_grain_7 (by decide) (fun c_1 => (trS hn_4 c_1).elim) (fun c_1 => ?_)
      have hlt_c_1 : x3_4.toInt < 24 := k_lt c_1
      refine lv_iload_n hx hb dX6_grain_10 rfl (lv_at hl 1 rfl) ?_
      refine lv_iload_n hx hb dX6_grain_11 rfl (lv_at hl 3 rfl) ?_
      refine lv_iload_n hx hb dX6_grain_12 rfl (lv_at hl 0 rfl) ?_
      refine lv_ishr hx hb dX6_grain_13 ?_
      refine lv_iconst (v := 1) hx hb dX6_grain_14 (by decide) ?_
      refine lv_iand hx hb dX6_grain_15 ?_
      refine lv_iconst (v := 1) hx hb dX6_grain_16 (by decide) ?_
      refine lv_icmp_ne (tgt := 45) hx hb dX6_grain_17 (by decide) (fun c_2 => ?_) (fun c_2 => ?_)
      · rw [if_neg c_2] at hR
        have tc_2 : ¬ ((hours >>> (x3_4 &&& 31)) &&& 1).toInt = 1 := fun z => c_2 (i_eq.mpr z)
        refine lv_iconst (v := 0) hx hb dX6_grain_45 (by decide) ?_
        refine lv_iadd hx hb dX6_grain_46 ?_
        refine lv_istore_n (lv' := [(2, .int (x2_4 + 0)), (3, .int x3_4), (0, .ref (h 0)), (1, .int hours)]) hx hb dX6_grain_47 rfl hl (by decide) rfl (fun ls hl => ?_)
        refine lv_iinc (v := (x3_4 + 1)) (lv' := [(3, .int (x3_4 + 1)), (2, .int (x2_4 + 0)), (0, .ref (h 0)), (1, .int hours)]) hx hb dX6_grain_48 hl (k := 1) rfl rfl (by decide) rfl (fun ls hl => ?_)
        refine lv_goto (tgt := 4) hx hb dX6_grain_51 (by decide) ?_
        exact ih_4 (x3_4 + 1) (x2_4 + 0) (trN hn_4) (k_up hk_4 c_1) hR ls (lv_sub hl [0, 1, 2, 3] rfl)
      · rw [if_pos c_2] at hR
        have tc_2 : ((hours >>> (x3_4 &&& 31)) &&& 1).toInt = 1 := i_eq.mp c_2
        refine lv_aload_n hx hb dX6_grain_20 rfl (lv_at hl 2 rfl) ?_
        refine va_get (D := D) (ci := 4) (v := .ref (h 1)) (C := RX6) (T := TX6) (N := 7) hx hb hts iX6_grain_X6 hown hG.1 hP 0 rfl rfl 0 (by decide) (hts (.fieldLink RX6 7 "MillComplaintsModel" "s" "[I") (List.mem_of_getElem? (i := 1) rfl)) (fun _ h9 => h9) rfl dX6_grain_21 ?_
        refine lv_bipush (v := 34) hx hb dX6_grain_24 (by decide) ?_
        refine lv_iload_n hx hb dX6_grain_26 rfl (lv_at hl 0 rfl) ?_
        refine lv_iadd hx hb dX6_grain_27 ?_
        refine va_iald hx hb hG.1 hP 1 0 rfl rfl (ix_t (i := (34 + x3_4)) (x := (34 + (x3_4).toInt)) (n := 296) (ti_add (show (34 : Int32).toInt = 34 from rfl) rfl (by omega)) (by omega)) dX6_grain_28 ?_
        refine lv_iconst (v := 2) hx hb dX6_grain_29 (by decide) ?_
        refine lv_icmp_lt (tgt := 45) hx hb dX6_grain_30 (by decide) (fun c_3 => ?_) (fun c_3 => ?_)
        · rw [if_pos c_3] at hR
          have tc_3 : ((x 0) ((34 + x3_4)).toNatClampNeg).toInt < 2 := i_lt.mp c_3
          refine lv_iconst (v := 0) hx hb dX6_grain_45 (by decide) ?_
          refine lv_iadd hx hb dX6_grain_46 ?_
          refine lv_istore_n (lv' := [(2, .int (x2_4 + 0)), (3, .int x3_4), (0, .ref (h 0)), (1, .int hours)]) hx hb dX6_grain_47 rfl hl (by decide) rfl (fun ls hl => ?_)
          refine lv_iinc (v := (x3_4 + 1)) (lv' := [(3, .int (x3_4 + 1)), (2, .int (x2_4 + 0)), (0, .ref (h 0)), (1, .int hours)]) hx hb dX6_grain_48 hl (k := 1) rfl rfl (by decide) rfl (fun ls hl => ?_)
          refine lv_goto (tgt := 4) hx hb dX6_grain_51 (by decide) ?_
          exact ih_4 (x3_4 + 1) (x2_4 + 0) (trN hn_4) (k_up hk_4 c_1) hR ls (lv_sub hl [0, 1, 2, 3] rfl)
        · rw [if_neg c_3] at hR
          have tc_3 : ¬ ((x 0) ((34 + x3_4)).toNatClampNeg).toInt < 2 := fun z => c_3 (i_lt.mpr z)
          refine lv_aload_n hx hb dX6_grain_33 rfl (lv_at hl 2 rfl) ?_
          refine va_get (D := D) (ci := 4) (v := .ref (h 1)) (C := RX6) (T := TX6) (N := 7) hx hb hts iX6_grain_X6 hown hG.1 hP 0 rfl rfl 0 (by decide) (hts (.fieldLink RX6 7 "MillComplaintsModel" "s" "[I") (List.mem_of_getElem? (i := 1) rfl)) (fun _ h9 => h9) rfl dX6_grain_34 ?_
          refine lv_bipush (v := 34) hx hb dX6_grain_37 (by decide) ?_
          refine lv_iload_n hx hb dX6_grain_39 rfl (lv_at hl 0 rfl) ?_
          refine lv_iadd hx hb dX6_grain_40 ?_
          refine va_iald hx hb hG.1 hP 1 0 rfl rfl (ix_t (i := (34 + x3_4)) (x := (34 + (x3_4).toInt)) (n := 296) (ti_add (show (34 : Int32).toInt = 34 from rfl) rfl (by omega)) (by omega)) dX6_grain_41 ?_
          refine lv_goto (tgt := 46) hx hb dX6_grain_42 (by decide) ?_
          refine lv_iadd hx hb dX6_grain_46 ?_
          refine lv_istore_n (lv' := [(2, .int (x2_4 + ((x 0) ((34 + x3_4)).toNatClampNeg))), (3, .int x3_4), (0, .ref (h 0)), (1, .int hours)]) hx hb dX6_grain_47 rfl hl (by decide) rfl (fun ls hl => ?_)
          refine lv_iinc (v := (x3_4 + 1)) (lv' := [(3, .int (x3_4 + 1)), (2, .int (x2_4 + ((x 0) ((34 + x3_4)).toNatClampNeg))), (0, .ref (h 0)), (1, .int hours)]) hx hb dX6_grain_48 hl (k := 1) rfl rfl (by decide) rfl (fun ls hl => ?_)
          refine lv_goto (tgt := 4) hx hb dX6_grain_51 (by decide) ?_
          exact ih_4 (x3_4 + 1) (x2_4 + ((x 0) ((34 + x3_4)).toNatClampNeg)) (trN hn_4) (k_up hk_4 c_1) hR ls (lv_sub hl [0, 1, 2, 3] rfl)
  exact key_4 _ 0 0 rfl (by decide) hR ls hl

def mX6_allPoints_4 (x : Nat → Nat → Int32) (mill : Int32) (C : Int32 → Int32 → Int32) : Nat → Int32 → Int32 → Int32
  | 0, x3_4, x2_4 => C x3_4 x2_4
  | n_4 + 1, x3_4, x2_4 => (mX6_allPoints_4 x mill C n_4 (x3_4 + 1) (x2_4 + (mX6_points x 0 mill x3_4)))
def mX6_allPoints (x : Nat → Nat → Int32) (mill : Int32) : Int32 := (mX6_allPoints_4 x mill (fun x3_4 x2_4 => x2_4) (tr 0 24) 0 0)
theorem kX6_allPoints : yX6_allPoints.cls = RX6 ∧ yX6_allPoints.cls ≠ "java/lang/invoke/MethodHandle" ∧ yX6_allPoints.cls ≠ "java/lang/invoke/VarHandle" ∧ (parseMethodDescriptor yX6_allPoints.desc).map (fun d => d.parameters.length) = some 1 := by decide +kernel
set_option maxHeartbeats 4000000 in
set_option maxRecDepth 100000 in
theorem MX6_allPoints (l : Launch) (D : va_G) (q : Nat → ClassId) (h : Nat → Nat) (x : Nat → Nat → Int32) (mill : Int32) (hmill : 0 ≤ mill.toInt ∧ mill.toInt < 4) : roM l D (tyq q) yX6_allPoints wsX6_allPoints ({ frames := 2, cells := 0, slots := 0, locals := 48 } : Room) [.ref (h 0), .int mill] (wM q h x) (some (.int (mX6_allPoints x mill))) := by
  obtain ⟨R, hR⟩ : ∃ z, (mX6_allPoints x mill) = z := ⟨_, rfl⟩
  rw [hR]
  unfold mX6_allPoints at hR
  refine roM.of (cc := cX6_allPoints) (maxL := 4) (ret := (some .int)) (by decide) rfl (Nat.le_of_ble_eq_true rfl) ?_
  intro p e s m below meth c ls hx hb hr hk hml hown hts hP hD hG hl
  have hl : lv_has ls 4 [(0, .ref (h 0)), (1, .int mill)] := hl
  refine lv_iconst (v := 0) hx hb dX6_allPoints_0 (by decide) ?_
  refine lv_istore_n (lv' := [(2, .int 0), (0, .ref (h 0)), (1, .int mill)]) hx hb dX6_allPoints_1 rfl hl (by decide) rfl (fun ls hl => ?_)
  refine lv_iconst (v := 0) hx hb dX6_allPoints_2 (by decide) ?_
  refine lv_istore_n (lv' := [(3, .int 0), (2, .int 0), (0, .ref (h 0)), (1, .int mill)]) hx hb dX6_allPoints_3 rfl hl (by decide) rfl (fun ls hl => ?_)
  have key_4 : ∀ (n_4 : Nat) (x3_4 : Int32) (x2_4 : Int32), tr x3_4 24 = n_4 → 0 ≤ x3_4.toInt → mX6_allPoints_4 x mill (fun x3_4 x2_4 => x2_4) n_4 x3_4 x2_4 = R → ∀ ls : Array Slot, lv_has ls 4 [(3, .int x3_4), (2, .int x2_4), (0, .ref (h 0)), (1, .int mill)] → W p l e ({ frames := 2, cells := 0, slots := 0, locals := 48 } : Room) s m ([.ref (h 0), .int mill] : List Value).toArray below meth c s.heap [] 0 0 (MQ below (roQ (some (.int R))) ([.ref (h 0), .int mill] : List Value).toArray s 0 0 (fun _ => False)) (F0 m 4 ls []) := by
    intro n_4
    induction n_4 with
    | zero =>
      intro x3_4 x2_4 hn_4 hk_4 hR ls hl
      rw [mX6_allPoints_4] at hR
      refine lv_iload_n hx hb dX6_allPoints_4 rfl (lv_at hl 0 rfl) ?_
      refine lv_bipush (v := 24) hx hb dX6_allPoints_5 (by decide) ?_
      refine lv_icmp_ge (tgt := 26) hx hb dX6_allPoints_7 (by decide) (fun c_1 => ?_) (fun c_1 => (tr0 hn_4 c_1).elim)
      refine lv_iload_n hx hb dX6_allPoints_26 rfl (lv_at hl 1 rfl) ?_
      exact ro_iret hx hb hr hk hR dX6_allPoints_27
    | succ n_4 ih_4 =>
      intro x3_4 x2_4 hn_4 hk_4 hR ls hl
      rw [mX6_allPoints_4] at hR
      refine lv_iload_n hx hb dX6_allPoints_4 rfl (lv_at hl 0 rfl) ?_
      refine lv_bipush (v := 24) hx hb dX6_allPoints_5 (by decide) ?_
      refine lv_icmp_ge (tgt := 26) hx hb dX6_allPoints_7 (by decide) (fun c_1 => (trS hn_4 c_1).elim) (fun c_1 => ?_)
      have hlt_c_1 := k_lt c_1
      refine lv_iload_n hx hb dX6_allPoints_10 rfl (lv_at hl 1 rfl) ?_
      refine lv_aload_n hx hb dX6_allPoints_11 rfl (lv_at hl 2 rfl) ?_
      refine lv_iconst (v := 0) hx hb dX6_allPoints_12 (by decide) ?_
      refine lv_iload_n hx hb dX6_allPoints_13 rfl (lv_at hl 3 rfl) ?_
      refine lv_iload_n hx hb dX6_allPoints_14 rfl (lv_at hl 0 rfl) ?_
      refine ro_V (v := .int (mX6_points x 0 mill x3_4)) (rest := [.int x2_4]) (As := [.int 0, .int mill, .int x3_4]) hx hb hml hown hts hl (MX6_points l D q h x 0 mill x3_4 (rg_t (i := 0) (x := 0) (show (0 : Int32).toInt = 0 from rfl) (by omega)) (rg_t (i := mill) (x := (mill).toInt) rfl (by omega))) gX6_allPoints_X6_points rfl kX6_points ⟨Nat.le_of_ble_eq_true rfl, Nat.le_of_ble_eq_true rfl⟩ rfl rfl hP (dT hD) hG (ci := 4) rfl rfl rfl rfl (Nat.le_of_ble_eq_true rfl) dX6_allPoints_15 ⟨Nat.zero_le _, Nat.zero_le _⟩ ?_
      refine lv_iadd hx hb dX6_allPoints_18 ?_
      refine lv_istore_n (lv' := [(2, .int (x2_4 + (mX6_points x 0 mill x3_4))), (3, .int x3_4), (0, .ref (h 0)), (1, .int mill)]) hx hb dX6_allPoints_19 rfl hl (by decide) rfl (fun ls hl => ?_)
      refine lv_iinc (v := (x3_4 + 1)) (lv' := [(3, .int (x3_4 + 1)), (2, .int (x2_4 + (mX6_points x 0 mill x3_4))), (0, .ref (h 0)), (1, .int mill)]) hx hb dX6_allPoints_20 hl (k := 1) rfl rfl (by decide) rfl (fun ls hl => ?_)
      refine lv_goto (tgt := 4) hx hb dX6_allPoints_23 (by decide) ?_
      exact ih_4 (x3_4 + 1) (x2_4 + (mX6_points x 0 mill x3_4)) (trN hn_4) (k_up hk_4 c_1) hR ls (lv_sub hl [0, 1, 2, 3] rfl)
  exact key_4 _ 0 0 rfl (by decide) hR ls hl

def mX6_standing_4 (x : Nat → Nat → Int32) (house : Int32) (C : Int32 → Int32 → Int32) : Nat → Int32 → Int32 → Int32
  | 0, x3_4, x2_4 => C x3_4 x2_4
  | n_4 + 1, x3_4, x2_4 => (mX6_standing_4 x house C n_4 (x3_4 + 1) (x2_4 + (mX6_ones ((x 0) (((68 + (8 * house)) + x3_4)).toNatClampNeg))))
def mX6_standing (x : Nat → Nat → Int32) (house : Int32) : Int32 := (mX6_standing_4 x house (fun x3_4 x2_4 => x2_4) (tr 0 8) 0 0)
theorem kX6_standing : yX6_standing.cls = RX6 ∧ yX6_standing.cls ≠ "java/lang/invoke/MethodHandle" ∧ yX6_standing.cls ≠ "java/lang/invoke/VarHandle" ∧ (parseMethodDescriptor yX6_standing.desc).map (fun d => d.parameters.length) = some 1 := by decide +kernel
theorem iX6_standing_X6 : ∀ w ∈ wsX60, w ∈ wsX6_standing := fun w h => (List.mem_cons_of_mem _ (List.mem_append_right _ h))
set_option maxHeartbeats 4000000 in
set_option maxRecDepth 100000 in
theorem MX6_standing (l : Launch) (D : va_G) (q : Nat → ClassId) (h : Nat → Nat) (x : Nat → Nat → Int32) (house : Int32) (hhouse : 0 ≤ house.toInt ∧ house.toInt < 10) : roM l D (tyq q) yX6_standing wsX6_standing ({ frames := 1, cells := 0, slots := 0, locals := 22 } : Room) [.ref (h 0), .int house] (wM q h x) (some (.int (mX6_standing x house))) := by
  obtain ⟨R, hR⟩ : ∃ z, (mX6_standing x house) = z := ⟨_, rfl⟩
  rw [hR]
  unfold mX6_standing at hR
  refine roM.of (cc := cX6_standing) (maxL := 4) (ret := (some .int)) (by decide) rfl (Nat.le_of_ble_eq_true rfl) ?_
  intro p e s m below meth c ls hx hb hr hk hml hown hts hP hD hG hl
  have hl : lv_has ls 4 [(0, .ref (h 0)), (1, .int house)] := hl
  refine lv_iconst (v := 0) hx hb dX6_standing_0 (by decide) ?_
  refine lv_istore_n (lv' := [(2, .int 0), (0, .ref (h 0)), (1, .int house)]) hx hb dX6_standing_1 rfl hl (by decide) rfl (fun ls hl => ?_)
  refine lv_iconst (v := 0) hx hb dX6_standing_2 (by decide) ?_
  refine lv_istore_n (lv' := [(3, .int 0), (2, .int 0), (0, .ref (h 0)), (1, .int house)]) hx hb dX6_standing_3 rfl hl (by decide) rfl (fun ls hl => ?_)
  have key_4 : ∀ (n_4 : Nat) (x3_4 : Int32) (x2_4 : Int32), tr x3_4 8 = n_4 → 0 ≤ x3_4.toInt → mX6_standing_4 x house (fun x3_4 x2_4 => x2_4) n_4 x3_4 x2_4 = R → ∀ ls : Array Slot, lv_has ls 4 [(3, .int x3_4), (2, .int x2_4), (0, .ref (h 0)), (1, .int house)] → W p l e ({ frames := 1, cells := 0, slots := 0, locals := 22 } : Room) s m ([.ref (h 0), .int house] : List Value).toArray below meth c s.heap [] 0 0 (MQ below (roQ (some (.int R))) ([.ref (h 0), .int house] : List Value).toArray s 0 0 (fun _ => False)) (F0 m 4 ls []) := by
    intro n_4
    induction n_4 with
    | zero =>
      intro x3_4 x2_4 hn_4 hk_4 hR ls hl
      rw [mX6_standing_4] at hR
      refine lv_iload_n hx hb dX6_standing_4 rfl (lv_at hl 0 rfl) ?_
      refine lv_bipush (v := 8) hx hb dX6_standing_5 (by decide) ?_
      refine lv_icmp_ge (tgt := 36) hx hb dX6_standing_7 (by decide) (fun c_1 => ?_) (fun c_1 => (tr0 hn_4 c_1).elim)
      refine lv_iload_n hx hb dX6_standing_36 rfl (lv_at hl 1 rfl) ?_
      exact ro_iret hx hb hr hk hR dX6_standing_37
    | succ n_4 ih_4 =>
      intro x3_4 x2_4 hn_4 hk_4 hR ls hl
      rw [mX6_standing_4] at hR
      refine lv_iload_n hx hb dX6_standing_4 rfl (lv_at hl 0 rfl) ?_
      refine lv_bipush (v := 8) hx hb dX6_standing_5 (by decide) ?_
      refine lv_icmp_ge (tgt := 36) hx hb dX6_standing_7 (by decide) (fun c_1 => (trS hn_4 c_1).elim) (fun c_1 => ?_)
      have hlt_c_1 : x3_4.toInt < 8 := k_lt c_1
      refine lv_iload_n hx hb dX6_standing_10 rfl (lv_at hl 1 rfl) ?_
      refine lv_aload_n hx hb dX6_standing_11 rfl (lv_at hl 2 rfl) ?_
      refine va_get (D := D) (ci := 4) (v := .ref (h 1)) (C := RX6) (T := TX6) (N := 7) hx hb hts iX6_standing_X6 hown hG.1 hP 0 rfl rfl 0 (by decide) (hts (.fieldLink RX6 7 "MillComplaintsModel" "s" "[I") (List.mem_of_getElem? (i := 1) rfl)) (fun _ h9 => h9) rfl dX6_standing_12 ?_
      refine lv_bipush (v := 68) hx hb dX6_standing_15 (by decide) ?_
      refine lv_bipush (v := 8) hx hb dX6_standing_17 (by decide) ?_
      refine lv_iload_n hx hb dX6_standing_19 rfl (lv_at hl 3 rfl) ?_
      refine lv_imul hx hb dX6_standing_20 ?_
      refine lv_iadd hx hb dX6_standing_21 ?_
      refine lv_iload_n hx hb dX6_standing_22 rfl (lv_at hl 0 rfl) ?_
      refine lv_iadd hx hb dX6_standing_23 ?_
      refine va_iald hx hb hG.1 hP 1 0 rfl rfl (ix_t (i := ((68 + (8 * house)) + x3_4)) (x := ((68 + (8 * (house).toInt)) + (x3_4).toInt)) (n := 296) (ti_add (ti_add (show (68 : Int32).toInt = 68 from rfl) (ti_mul (show (8 : Int32).toInt = 8 from rfl) rfl (by omega)) (by omega)) rfl (by omega)) (by omega)) dX6_standing_24 ?_
      refine ro_S (v := .int (mX6_ones ((x 0) (((68 + (8 * house)) + x3_4)).toNatClampNeg))) (rest := [.int x2_4]) (As := [.int ((x 0) (((68 + (8 * house)) + x3_4)).toNatClampNeg)]) hx hb hml hown hts hl (MX6_ones l D q ((x 0) (((68 + (8 * house)) + x3_4)).toNatClampNeg)) gX6_standing_X6_ones rfl kX6_ones ⟨Nat.le_of_ble_eq_true rfl, Nat.le_of_ble_eq_true rfl⟩ rfl rfl (hP.sub (ws' := []) [] rfl) (dT (hD.sub (ws' := []) [] (by decide) rfl)) hG rfl rfl (Nat.le_of_ble_eq_true rfl) dX6_standing_25 ⟨Nat.zero_le _, Nat.zero_le _⟩ ?_
      refine lv_iadd hx hb dX6_standing_28 ?_
      refine lv_istore_n (lv' := [(2, .int (x2_4 + (mX6_ones ((x 0) (((68 + (8 * house)) + x3_4)).toNatClampNeg)))), (3, .int x3_4), (0, .ref (h 0)), (1, .int house)]) hx hb dX6_standing_29 rfl hl (by decide) rfl (fun ls hl => ?_)
      refine lv_iinc (v := (x3_4 + 1)) (lv' := [(3, .int (x3_4 + 1)), (2, .int (x2_4 + (mX6_ones ((x 0) (((68 + (8 * house)) + x3_4)).toNatClampNeg)))), (0, .ref (h 0)), (1, .int house)]) hx hb dX6_standing_30 hl (k := 1) rfl rfl (by decide) rfl (fun ls hl => ?_)
      refine lv_goto (tgt := 4) hx hb dX6_standing_33 (by decide) ?_
      exact ih_4 (x3_4 + 1) (x2_4 + (mX6_ones ((x 0) (((68 + (8 * house)) + x3_4)).toNatClampNeg))) (trN hn_4) (k_up hk_4 c_1) hR ls (lv_sub hl [0, 1, 2, 3] rfl)
  exact key_4 _ 0 0 rfl (by decide) hR ls hl

def mX6_troubled_5 (x : Nat → Nat → Int32) (house : Int32) (kind : Int32) (C : Int32 → Int32 → Int32) : Nat → Int32 → Int32 → Int32
  | 0, x4_5, x3_5 => C x4_5 x3_5
  | n_5 + 1, x4_5, x3_5 => (if (mX6_turns x 0 (x4_5 / 24) (x4_5 - x4_5 / 24 * 24)) = 0 then (mX6_troubled_5 x house kind C n_5 (x4_5 + 1) (x3_5 ||| 0)) else (if (mX6_wouldTrouble x 0 house (x4_5 / 24) kind (x4_5 - x4_5 / 24 * 24)) = 0 then (mX6_troubled_5 x house kind C n_5 (x4_5 + 1) (x3_5 ||| 0)) else (mX6_troubled_5 x house kind C n_5 (x4_5 + 1) (x3_5 ||| (1 <<< ((x4_5 - x4_5 / 24 * 24) &&& 31))))))
def mX6_troubled (x : Nat → Nat → Int32) (house kind : Int32) : Int32 := (mX6_troubled_5 x house kind (fun x4_5 x3_5 => x3_5) (tr 0 (((x 0) 0) * 24)) 0 0)
theorem kX6_troubled : yX6_troubled.cls = RX6 ∧ yX6_troubled.cls ≠ "java/lang/invoke/MethodHandle" ∧ yX6_troubled.cls ≠ "java/lang/invoke/VarHandle" ∧ (parseMethodDescriptor yX6_troubled.desc).map (fun d => d.parameters.length) = some 2 := by decide +kernel
theorem iX6_troubled_X6 : ∀ w ∈ wsX60, w ∈ wsX6_troubled := fun w h => (List.mem_cons_of_mem _ (List.mem_append_right _ h))
set_option maxHeartbeats 4000000 in
set_option maxRecDepth 100000 in
theorem MX6_troubled (l : Launch) (D : va_G) (q : Nat → ClassId) (h : Nat → Nat) (x : Nat → Nat → Int32) (house kind : Int32) (hC : cntP x 0) (hhouse : 0 ≤ house.toInt ∧ house.toInt < 10) : roM l D (tyq q) yX6_troubled wsX6_troubled ({ frames := 5, cells := 0, slots := 0, locals := 121 } : Room) [.ref (h 0), .int house, .int kind] (wM q h x) (some (.int (mX6_troubled x house kind))) := by
  obtain ⟨R, hR⟩ : ∃ z, (mX6_troubled x house kind) = z := ⟨_, rfl⟩
  rw [hR]
  unfold mX6_troubled at hR
  refine roM.of (cc := cX6_troubled) (maxL := 7) (ret := (some .int)) (by decide) rfl (Nat.le_of_ble_eq_true rfl) ?_
  intro p e s m below meth c ls hx hb hr hk hml hown hts hP hD hG hl
  have hl : lv_has ls 7 [(0, .ref (h 0)), (1, .int house), (2, .int kind)] := hl
  have hC1 : 0 ≤ (x 0 0).toInt ∧ (x 0 0).toInt < 5 := hC.1
  have hC2 : 0 ≤ (x 0 13).toInt ∧ (x 0 13).toInt < 11 := hC.2
  refine lv_iconst (v := 0) hx hb dX6_troubled_0 (by decide) ?_
  refine lv_istore_n (lv' := [(3, .int 0), (0, .ref (h 0)), (1, .int house), (2, .int kind)]) hx hb dX6_troubled_1 rfl hl (by decide) rfl (fun ls hl => ?_)
  refine lv_iconst (v := 0) hx hb dX6_troubled_2 (by decide) ?_
  refine lv_istore (lv' := [(4, .int 0), (3, .int 0), (0, .ref (h 0)), (1, .int house), (2, .int kind)]) hx hb dX6_troubled_3 hl (by decide) rfl (fun ls hl => ?_)
  have key_5 : ∀ (n_5 : Nat) (x4_5 : Int32) (x3_5 : Int32), tr x4_5 (((x 0) 0) * 24) = n_5 → 0 ≤ x4_5.toInt → mX6_troubled_5 x house kind (fun x4_5 x3_5 => x3_5) n_5 x4_5 x3_5 = R → ∀ ls : Array Slot, lv_has ls 7 [(4, .int x4_5), (3, .int x3_5), (0, .ref (h 0)), (1, .int house), (2, .int kind)] → W p l e ({ frames := 5, cells := 0, slots := 0, locals := 121 } : Room) s m ([.ref (h 0), .int house, .int kind] : List Value).toArray below meth c s.heap [] 0 0 (MQ below (roQ (some (.int R))) ([.ref (h 0), .int house, .int kind] : List Value).toArray s 0 0 (fun _ => False)) (F0 m 5 ls []) := by
    intro n_5
    induction n_5 with
    | zero =>
      intro x4_5 x3_5 hn_5 hk_5 hR ls hl
      rw [mX6_troubled_5] at hR
      refine lv_iload hx hb dX6_troubled_5 (lv_at hl 0 rfl) ?_
      refine lv_aload_n hx hb dX6_troubled_7 rfl (lv_at hl 2 rfl) ?_
      refine va_get (D := D) (ci := 4) (v := .ref (h 1)) (C := RX6) (T := TX6) (N := 7) hx hb hts iX6_troubled_X6 hown hG.1 hP 0 rfl rfl 0 (by decide) (hts (.fieldLink RX6 7 "MillComplaintsModel" "s" "[I") (List.mem_of_getElem? (i := 1) rfl)) (fun _ h9 => h9) rfl dX6_troubled_8 ?_
      refine lv_iconst (v := 0) hx hb dX6_troubled_11 (by decide) ?_
      refine va_iald hx hb hG.1 hP 1 0 rfl rfl (ix_t (i := 0) (x := 0) (n := 296) (show (0 : Int32).toInt = 0 from rfl) (by omega)) dX6_troubled_12 ?_
      refine lv_tope (y := ((x 0) 0)) (congrArg _ (by decide)) ?_
      refine lv_bipush (v := 24) hx hb dX6_troubled_13 (by decide) ?_
      refine lv_imul hx hb dX6_troubled_15 ?_
      refine lv_icmp_ge (tgt := 87) hx hb dX6_troubled_16 (by decide) (fun c_1 => ?_) (fun c_1 => (tr0 hn_5 c_1).elim)
      refine lv_iload_n hx hb dX6_troubled_87 rfl (lv_at hl 1 rfl) ?_
      exact ro_iret hx hb hr hk hR dX6_troubled_88
    | succ n_5 ih_5 =>
      intro x4_5 x3_5 hn_5 hk_5 hR ls hl
      rw [mX6_troubled_5] at hR
      refine lv_iload hx hb dX6_troubled_5 (lv_at hl 0 rfl) ?_
      refine lv_aload_n hx hb dX6_troubled_7 rfl (lv_at hl 2 rfl) ?_
      refine va_get (D := D) (ci := 4) (v := .ref (h 1)) (C := RX6) (T := TX6) (N := 7) hx hb hts iX6_troubled_X6 hown hG.1 hP 0 rfl rfl 0 (by decide) (hts (.fieldLink RX6 7 "MillComplaintsModel" "s" "[I") (List.mem_of_getElem? (i := 1) rfl)) (fun _ h9 => h9) rfl dX6_troubled_8 ?_
      refine lv_iconst (v := 0) hx hb dX6_troubled_11 (by decide) ?_
      refine va_iald hx hb hG.1 hP 1 0 rfl rfl (ix_t (i := 0) (x := 0) (n := 296) (show (0 : Int32).toInt = 0 from rfl) (by omega)) dX6_troubled_12 ?_
      refine lv_tope (y := ((x 0) 0)) (congrArg _ (by decide)) ?_
      refine lv_bipush (v := 24) hx hb dX6_troubled_13 (by decide) ?_
      refine lv_imul hx hb dX6_troubled_15 ?_
      refine lv_icmp_ge (tgt := 87) hx hb dX6_troubled_16 (by decide) (fun c_1 => (trS hn_5 c_1).elim) (fun c_1 => ?_)
      have hlt_c_1 := k_lt c_1
      have hN_c_1 : ((x 0 0) * 24).toInt = (x 0 0).toInt * 24 := ti_mul rfl (show (24 : Int32).toInt = 24 from rfl) (by omega)
      rw [hN_c_1] at hlt_c_1
      refine lv_iload hx hb dX6_troubled_19 (lv_at hl 0 rfl) ?_
      refine lv_bipush (v := 24) hx hb dX6_troubled_21 (by decide) ?_
      refine lv_irem hx hb dX6_troubled_23 (by decide) ?_
      refine lv_istore (lv' := [(5, .int (x4_5 - x4_5 / 24 * 24)), (4, .int x4_5), (3, .int x3_5), (0, .ref (h 0)), (1, .int house), (2, .int kind)]) hx hb dX6_troubled_24 hl (by decide) rfl (fun ls hl => ?_)
      refine lv_aload_n hx hb dX6_troubled_26 rfl (lv_at hl 3 rfl) ?_
      refine lv_iconst (v := 0) hx hb dX6_troubled_27 (by decide) ?_
      refine lv_iload hx hb dX6_troubled_28 (lv_at hl 1 rfl) ?_
      refine lv_bipush (v := 24) hx hb dX6_troubled_30 (by decide) ?_
      refine lv_idiv hx hb dX6_troubled_32 (by decide) ?_
      refine lv_iload hx hb dX6_troubled_33 (lv_at hl 0 rfl) ?_
      refine ro_V (v := .int (mX6_turns x 0 (x4_5 / 24) (x4_5 - x4_5 / 24 * 24))) (rest := []) (As := [.int 0, .int (x4_5 / 24), .int (x4_5 - x4_5 / 24 * 24)]) hx hb hml hown hts hl (MX6_turns l D q h x 0 (x4_5 / 24) (x4_5 - x4_5 / 24 * 24) (rg_t (i := 0) (x := 0) (show (0 : Int32).toInt = 0 from rfl) (by omega)) (rg_t (i := (x4_5 / 24)) (x := ((x4_5).toInt / 24)) (ti_div rfl (d := 24) rfl (by omega) (by omega)) (by omega)) (rg_t (i := (x4_5 - x4_5 / 24 * 24)) (x := ((x4_5).toInt % 24)) (ti_rem rfl (d := 24) rfl (by omega) (by omega)) (by omega))) gX6_troubled_X6_turns rfl kX6_turns ⟨Nat.le_of_ble_eq_true rfl, Nat.le_of_ble_eq_true rfl⟩ rfl rfl hP (dT hD) hG (ci := 4) rfl rfl rfl rfl (Nat.le_of_ble_eq_true rfl) dX6_troubled_35 ⟨Nat.zero_le _, Nat.zero_le _⟩ ?_
      refine lv_if_eq (tgt := 62) hx hb dX6_troubled_38 (by decide) (fun c_2 => ?_) (fun c_2 => ?_)
      · rw [if_pos c_2] at hR
        refine lv_iconst (v := 0) hx hb dX6_troubled_62 (by decide) ?_
        refine lv_istore (lv' := [(6, .int 0), (5, .int (x4_5 - x4_5 / 24 * 24)), (4, .int x4_5), (3, .int x3_5), (0, .ref (h 0)), (1, .int house), (2, .int kind)]) hx hb dX6_troubled_63 hl (by decide) rfl (fun ls hl => ?_)
        refine lv_iload_n hx hb dX6_troubled_65 rfl (lv_at hl 3 rfl) ?_
        refine lv_iload hx hb dX6_troubled_66 (lv_at hl 0 rfl) ?_
        refine lv_if_eq (tgt := 78) hx hb dX6_troubled_68 (by decide) (fun _ => ?_) (fun c_3 => absurd (by decide) c_3)
        refine lv_iconst (v := 0) hx hb dX6_troubled_78 (by decide) ?_
        refine lv_ior hx hb dX6_troubled_79 ?_
        refine lv_istore_n (lv' := [(3, .int (x3_5 ||| 0)), (6, .int 0), (5, .int (x4_5 - x4_5 / 24 * 24)), (4, .int x4_5), (0, .ref (h 0)), (1, .int house), (2, .int kind)]) hx hb dX6_troubled_80 rfl hl (by decide) rfl (fun ls hl => ?_)
        refine lv_iinc (v := (x4_5 + 1)) (lv' := [(4, .int (x4_5 + 1)), (3, .int (x3_5 ||| 0)), (6, .int 0), (5, .int (x4_5 - x4_5 / 24 * 24)), (0, .ref (h 0)), (1, .int house), (2, .int kind)]) hx hb dX6_troubled_81 hl (k := 3) rfl rfl (by decide) rfl (fun ls hl => ?_)
        refine lv_goto (tgt := 5) hx hb dX6_troubled_84 (by decide) ?_
        exact ih_5 (x4_5 + 1) (x3_5 ||| 0) (trN hn_5) (k_up hk_5 c_1) hR ls (lv_sub hl [0, 1, 4, 5, 6] rfl)
      · rw [if_neg c_2] at hR
        refine lv_aload_n hx hb dX6_troubled_41 rfl (lv_at hl 3 rfl) ?_
        refine lv_iconst (v := 0) hx hb dX6_troubled_42 (by decide) ?_
        refine lv_iload_n hx hb dX6_troubled_43 rfl (lv_at hl 4 rfl) ?_
        refine lv_iload hx hb dX6_troubled_44 (lv_at hl 1 rfl) ?_
        refine lv_bipush (v := 24) hx hb dX6_troubled_46 (by decide) ?_
        refine lv_idiv hx hb dX6_troubled_48 (by decide) ?_
        refine lv_iload_n hx hb dX6_troubled_49 rfl (lv_at hl 5 rfl) ?_
        refine lv_iload hx hb dX6_troubled_50 (lv_at hl 0 rfl) ?_
        refine ro_V (v := .int (mX6_wouldTrouble x 0 house (x4_5 / 24) kind (x4_5 - x4_5 / 24 * 24))) (rest := []) (As := [.int 0, .int house, .int (x4_5 / 24), .int kind, .int (x4_5 - x4_5 / 24 * 24)]) hx hb hml hown hts hl (MX6_wouldTrouble l D q h x 0 house (x4_5 / 24) kind (x4_5 - x4_5 / 24 * 24) (rg_t (i := 0) (x := 0) (show (0 : Int32).toInt = 0 from rfl) (by omega)) (rg_t (i := house) (x := (house).toInt) rfl (by omega)) (rg_t (i := (x4_5 / 24)) (x := ((x4_5).toInt / 24)) (ti_div rfl (d := 24) rfl (by omega) (by omega)) (by omega)) (rg_t (i := (x4_5 - x4_5 / 24 * 24)) (x := ((x4_5).toInt % 24)) (ti_rem rfl (d := 24) rfl (by omega) (by omega)) (by omega))) gX6_troubled_X6_wouldTrouble rfl kX6_wouldTrouble ⟨Nat.le_of_ble_eq_true rfl, Nat.le_of_ble_eq_true rfl⟩ rfl rfl hP (dT hD) hG (ci := 4) rfl rfl rfl rfl (Nat.le_of_ble_eq_true rfl) dX6_troubled_52 ⟨Nat.zero_le _, Nat.zero_le _⟩ ?_
        refine lv_if_eq (tgt := 62) hx hb dX6_troubled_55 (by decide) (fun c_4 => ?_) (fun c_4 => ?_)
        · rw [if_pos c_4] at hR
          refine lv_iconst (v := 0) hx hb dX6_troubled_62 (by decide) ?_
          refine lv_istore (lv' := [(6, .int 0), (5, .int (x4_5 - x4_5 / 24 * 24)), (4, .int x4_5), (3, .int x3_5), (0, .ref (h 0)), (1, .int house), (2, .int kind)]) hx hb dX6_troubled_63 hl (by decide) rfl (fun ls hl => ?_)
          refine lv_iload_n hx hb dX6_troubled_65 rfl (lv_at hl 3 rfl) ?_
          refine lv_iload hx hb dX6_troubled_66 (lv_at hl 0 rfl) ?_
          refine lv_if_eq (tgt := 78) hx hb dX6_troubled_68 (by decide) (fun _ => ?_) (fun c_5 => absurd (by decide) c_5)
          refine lv_iconst (v := 0) hx hb dX6_troubled_78 (by decide) ?_
          refine lv_ior hx hb dX6_troubled_79 ?_
          refine lv_istore_n (lv' := [(3, .int (x3_5 ||| 0)), (6, .int 0), (5, .int (x4_5 - x4_5 / 24 * 24)), (4, .int x4_5), (0, .ref (h 0)), (1, .int house), (2, .int kind)]) hx hb dX6_troubled_80 rfl hl (by decide) rfl (fun ls hl => ?_)
          refine lv_iinc (v := (x4_5 + 1)) (lv' := [(4, .int (x4_5 + 1)), (3, .int (x3_5 ||| 0)), (6, .int 0), (5, .int (x4_5 - x4_5 / 24 * 24)), (0, .ref (h 0)), (1, .int house), (2, .int kind)]) hx hb dX6_troubled_81 hl (k := 3) rfl rfl (by decide) rfl (fun ls hl => ?_)
          refine lv_goto (tgt := 5) hx hb dX6_troubled_84 (by decide) ?_
          exact ih_5 (x4_5 + 1) (x3_5 ||| 0) (trN hn_5) (k_up hk_5 c_1) hR ls (lv_sub hl [0, 1, 4, 5, 6] rfl)
        · rw [if_neg c_4] at hR
          refine lv_iconst (v := 1) hx hb dX6_troubled_58 (by decide) ?_
          refine lv_goto (tgt := 63) hx hb dX6_troubled_59 (by decide) ?_
          refine lv_istore (lv' := [(6, .int 1), (5, .int (x4_5 - x4_5 / 24 * 24)), (4, .int x4_5), (3, .int x3_5), (0, .ref (h 0)), (1, .int house), (2, .int kind)]) hx hb dX6_troubled_63 hl (by decide) rfl (fun ls hl => ?_)
          refine lv_iload_n hx hb dX6_troubled_65 rfl (lv_at hl 3 rfl) ?_
          refine lv_iload hx hb dX6_troubled_66 (lv_at hl 0 rfl) ?_
          refine lv_if_eq (tgt := 78) hx hb dX6_troubled_68 (by decide) (fun c_6 => absurd c_6 (by decide)) (fun _ => ?_)
          refine lv_iconst (v := 1) hx hb dX6_troubled_71 (by decide) ?_
          refine lv_iload hx hb dX6_troubled_72 (lv_at hl 1 rfl) ?_
          refine lv_ishl hx hb dX6_troubled_74 ?_
          refine lv_goto (tgt := 79) hx hb dX6_troubled_75 (by decide) ?_
          refine lv_ior hx hb dX6_troubled_79 ?_
          refine lv_istore_n (lv' := [(3, .int (x3_5 ||| (1 <<< ((x4_5 - x4_5 / 24 * 24) &&& 31)))), (6, .int 1), (5, .int (x4_5 - x4_5 / 24 * 24)), (4, .int x4_5), (0, .ref (h 0)), (1, .int house), (2, .int kind)]) hx hb dX6_troubled_80 rfl hl (by decide) rfl (fun ls hl => ?_)
          refine lv_iinc (v := (x4_5 + 1)) (lv' := [(4, .int (x4_5 + 1)), (3, .int (x3_5 ||| (1 <<< ((x4_5 - x4_5 / 24 * 24) &&& 31)))), (6, .int 1), (5, .int (x4_5 - x4_5 / 24 * 24)), (0, .ref (h 0)), (1, .int house), (2, .int kind)]) hx hb dX6_troubled_81 hl (k := 3) rfl rfl (by decide) rfl (fun ls hl => ?_)
          refine lv_goto (tgt := 5) hx hb dX6_troubled_84 (by decide) ?_
          exact ih_5 (x4_5 + 1) (x3_5 ||| (1 <<< ((x4_5 - x4_5 / 24 * 24) &&& 31))) (trN hn_5) (k_up hk_5 c_1) hR ls (lv_sub hl [0, 1, 4, 5, 6] rfl)
  exact key_5 _ 0 0 rfl (by decide) hR ls hl

def mX6_noiseOf (x : Nat → Nat → Int32) (mill yard hour : Int32) : Int32 := (if (mX6_turns x 0 mill hour) = 0 then 0 else (mX6_loud x 0 mill yard hour))
theorem kX6_noiseOf : yX6_noiseOf.cls = RX6 ∧ yX6_noiseOf.cls ≠ "java/lang/invoke/MethodHandle" ∧ yX6_noiseOf.cls ≠ "java/lang/invoke/VarHandle" ∧ (parseMethodDescriptor yX6_noiseOf.desc).map (fun d => d.parameters.length) = some 3 := by decide +kernel
set_option maxHeartbeats 4000000 in
set_option maxRecDepth 100000 in
theorem MX6_noiseOf (l : Launch) (D : va_G) (q : Nat → ClassId) (h : Nat → Nat) (x : Nat → Nat → Int32) (mill yard hour : Int32) (hmill : 0 ≤ mill.toInt ∧ mill.toInt < 4) (hhour : 0 ≤ hour.toInt ∧ hour.toInt < 24) : roM l D (tyq q) yX6_noiseOf wsX6_noiseOf ({ frames := 3, cells := 0, slots := 0, locals := 68 } : Room) [.ref (h 0), .int mill, .int yard, .int hour] (wM q h x) (some (.int (mX6_noiseOf x mill yard hour))) := by
  obtain ⟨R, hR⟩ : ∃ z, (mX6_noiseOf x mill yard hour) = z := ⟨_, rfl⟩
  rw [hR]
  unfold mX6_noiseOf at hR
  refine roM.of (cc := cX6_noiseOf) (maxL := 4) (ret := (some .int)) (by decide) rfl (Nat.le_of_ble_eq_true rfl) ?_
  intro p e s m below meth c ls hx hb hr hk hml hown hts hP hD hG hl
  have hl : lv_has ls 4 [(0, .ref (h 0)), (1, .int mill), (2, .int yard), (3, .int hour)] := hl
  refine lv_aload_n hx hb dX6_noiseOf_0 rfl (lv_at hl 0 rfl) ?_
  refine lv_iconst (v := 0) hx hb dX6_noiseOf_1 (by decide) ?_
  refine lv_iload_n hx hb dX6_noiseOf_2 rfl (lv_at hl 1 rfl) ?_
  refine lv_iload_n hx hb dX6_noiseOf_3 rfl (lv_at hl 3 rfl) ?_
  refine ro_V (v := .int (mX6_turns x 0 mill hour)) (rest := []) (As := [.int 0, .int mill, .int hour]) hx hb hml hown hts hl (MX6_turns l D q h x 0 mill hour (rg_t (i := 0) (x := 0) (show (0 : Int32).toInt = 0 from rfl) (by omega)) (rg_t (i := mill) (x := (mill).toInt) rfl (by omega)) (rg_t (i := hour) (x := (hour).toInt) rfl (by omega))) gX6_noiseOf_X6_turns rfl kX6_turns ⟨Nat.le_of_ble_eq_true rfl, Nat.le_of_ble_eq_true rfl⟩ rfl rfl hP (dT hD) hG (ci := 4) rfl rfl rfl rfl (Nat.le_of_ble_eq_true rfl) dX6_noiseOf_4 ⟨Nat.zero_le _, Nat.zero_le _⟩ ?_
  refine lv_if_eq (tgt := 21) hx hb dX6_noiseOf_7 (by decide) (fun c_1 => ?_) (fun c_1 => ?_)
  · rw [if_pos c_1] at hR
    refine lv_iconst (v := 0) hx hb dX6_noiseOf_21 (by decide) ?_
    exact ro_iret hx hb hr hk hR dX6_noiseOf_22
  · rw [if_neg c_1] at hR
    refine lv_aload_n hx hb dX6_noiseOf_10 rfl (lv_at hl 0 rfl) ?_
    refine lv_iconst (v := 0) hx hb dX6_noiseOf_11 (by decide) ?_
    refine lv_iload_n hx hb dX6_noiseOf_12 rfl (lv_at hl 1 rfl) ?_
    refine lv_iload_n hx hb dX6_noiseOf_13 rfl (lv_at hl 2 rfl) ?_
    refine lv_iload_n hx hb dX6_noiseOf_14 rfl (lv_at hl 3 rfl) ?_
    refine ro_V (v := .int (mX6_loud x 0 mill yard hour)) (rest := []) (As := [.int 0, .int mill, .int yard, .int hour]) hx hb hml hown hts hl (MX6_loud l D q h x 0 mill yard hour (rg_t (i := 0) (x := 0) (show (0 : Int32).toInt = 0 from rfl) (by omega)) (rg_t (i := mill) (x := (mill).toInt) rfl (by omega)) (rg_t (i := hour) (x := (hour).toInt) rfl (by omega))) gX6_noiseOf_X6_loud rfl kX6_loud ⟨Nat.le_of_ble_eq_true rfl, Nat.le_of_ble_eq_true rfl⟩ rfl rfl hP (dT hD) hG (ci := 4) rfl rfl rfl rfl (Nat.le_of_ble_eq_true rfl) dX6_noiseOf_15 ⟨Nat.zero_le _, Nat.zero_le _⟩ ?_
    refine lv_goto (tgt := 22) hx hb dX6_noiseOf_18 (by decide) ?_
    exact ro_iret hx hb hr hk hR dX6_noiseOf_22

def mX6_ofMills_4 (x : Nat → Nat → Int32) (what : Int32) (C : Int32 → Int32 → Int32) : Nat → Int32 → Int32 → Int32
  | 0, x3_4, x2_4 => C x3_4 x2_4
  | n_4 + 1, x3_4, x2_4 => (if what = 8 then (mX6_ofMills_4 x what C n_4 (x3_4 + 1) (x2_4 + (mX6_ones ((x 0) ((((0 + 1) + (3 * x3_4)) + 2)).toNatClampNeg)))) else (if what = 9 then (mX6_ofMills_4 x what C n_4 (x3_4 + 1) (x2_4 + (mX6_grain x (mX6_turning x x3_4)))) else (mX6_ofMills_4 x what C n_4 (x3_4 + 1) (x2_4 + (mX6_grain x (-1))))))
def mX6_ofMills (x : Nat → Nat → Int32) (what : Int32) : Int32 := (mX6_ofMills_4 x what (fun x3_4 x2_4 => x2_4) (tr 0 ((x 0) 0)) 0 0)
theorem kX6_ofMills : yX6_ofMills.cls = RX6 ∧ yX6_ofMills.cls ≠ "java/lang/invoke/MethodHandle" ∧ yX6_ofMills.cls ≠ "java/lang/invoke/VarHandle" ∧ (parseMethodDescriptor yX6_ofMills.desc).map (fun d => d.parameters.length) = some 1 := by decide +kernel
theorem iX6_ofMills_X6 : ∀ w ∈ wsX60, w ∈ wsX6_ofMills := fun w h => (List.mem_cons_of_mem _ (List.mem_append_right _ h))
set_option maxHeartbeats 4000000 in
set_option maxRecDepth 100000 in
theorem MX6_ofMills (l : Launch) (D : va_G) (q : Nat → ClassId) (h : Nat → Nat) (x : Nat → Nat → Int32) (what : Int32) (hC : cntP x 0) : roM l D (tyq q) yX6_ofMills wsX6_ofMills ({ frames := 4, cells := 0, slots := 0, locals := 91 } : Room) [.ref (h 0), .int what] (wM q h x) (some (.int (mX6_ofMills x what))) := by
  obtain ⟨R, hR⟩ : ∃ z, (mX6_ofMills x what) = z := ⟨_, rfl⟩
  rw [hR]
  unfold mX6_ofMills at hR
  refine roM.of (cc := cX6_ofMills) (maxL := 4) (ret := (some .int)) (by decide) rfl (Nat.le_of_ble_eq_true rfl) ?_
  intro p e s m below meth c ls hx hb hr hk hml hown hts hP hD hG hl
  have hl : lv_has ls 4 [(0, .ref (h 0)), (1, .int what)] := hl
  have hC1 : 0 ≤ (x 0 0).toInt ∧ (x 0 0).toInt < 5 := hC.1
  have hC2 : 0 ≤ (x 0 13).toInt ∧ (x 0 13).toInt < 11 := hC.2
  refine lv_iconst (v := 0) hx hb dX6_ofMills_0 (by decide) ?_
  refine lv_istore_n (lv' := [(2, .int 0), (0, .ref (h 0)), (1, .int what)]) hx hb dX6_ofMills_1 rfl hl (by decide) rfl (fun ls hl => ?_)
  refine lv_iconst (v := 0) hx hb dX6_ofMills_2 (by decide) ?_
  refine lv_istore_n (lv' := [(3, .int 0), (2, .int 0), (0, .ref (h 0)), (1, .int what)]) hx hb dX6_ofMills_3 rfl hl (by decide) rfl (fun ls hl => ?_)
  have key_4 : ∀ (n_4 : Nat) (x3_4 : Int32) (x2_4 : Int32), tr x3_4 ((x 0) 0) = n_4 → 0 ≤ x3_4.toInt → mX6_ofMills_4 x what (fun x3_4 x2_4 => x2_4) n_4 x3_4 x2_4 = R → ∀ ls : Array Slot, lv_has ls 4 [(3, .int x3_4), (2, .int x2_4), (0, .ref (h 0)), (1, .int what)] → W p l e ({ frames := 4, cells := 0, slots := 0, locals := 91 } : Room) s m ([.ref (h 0), .int what] : List Value).toArray below meth c s.heap [] 0 0 (MQ below (roQ (some (.int R))) ([.ref (h 0), .int what] : List Value).toArray s 0 0 (fun _ => False)) (F0 m 4 ls []) := by
    intro n_4
    induction n_4 with
    | zero =>
      intro x3_4 x2_4 hn_4 hk_4 hR ls hl
      rw [mX6_ofMills_4] at hR
      refine lv_iload_n hx hb dX6_ofMills_4 rfl (lv_at hl 0 rfl) ?_
      refine lv_aload_n hx hb dX6_ofMills_5 rfl (lv_at hl 2 rfl) ?_
      refine va_get (D := D) (ci := 4) (v := .ref (h 1)) (C := RX6) (T := TX6) (N := 7) hx hb hts iX6_ofMills_X6 hown hG.1 hP 0 rfl rfl 0 (by decide) (hts (.fieldLink RX6 7 "MillComplaintsModel" "s" "[I") (List.mem_of_getElem? (i := 1) rfl)) (fun _ h9 => h9) rfl dX6_ofMills_6 ?_
      refine lv_iconst (v := 0) hx hb dX6_ofMills_9 (by decide) ?_
      refine va_iald hx hb hG.1 hP 1 0 rfl rfl (ix_t (i := 0) (x := 0) (n := 296) (show (0 : Int32).toInt = 0 from rfl) (by omega)) dX6_ofMills_10 ?_
      refine lv_tope (y := ((x 0) 0)) (congrArg _ (by decide)) ?_
      refine lv_icmp_ge (tgt := 69) hx hb dX6_ofMills_11 (by decide) (fun c_1 => ?_) (fun c_1 => (tr0 hn_4 c_1).elim)
      refine lv_iload_n hx hb dX6_ofMills_69 rfl (lv_at hl 1 rfl) ?_
      exact ro_iret hx hb hr hk hR dX6_ofMills_70
    | succ n_4 ih_4 =>
      intro x3_4 x2_4 hn_4 hk_4 hR ls hl
      rw [mX6_ofMills_4] at hR
      refine lv_iload_n hx hb dX6_ofMills_4 rfl (lv_at hl 0 rfl) ?_
      refine lv_aload_n hx hb dX6_ofMills_5 rfl (lv_at hl 2 rfl) ?_
      refine va_get (D := D) (ci := 4) (v := .ref (h 1)) (C := RX6) (T := TX6) (N := 7) hx hb hts iX6_ofMills_X6 hown hG.1 hP 0 rfl rfl 0 (by decide) (hts (.fieldLink RX6 7 "MillComplaintsModel" "s" "[I") (List.mem_of_getElem? (i := 1) rfl)) (fun _ h9 => h9) rfl dX6_ofMills_6 ?_
      refine lv_iconst (v := 0) hx hb dX6_ofMills_9 (by decide) ?_
      refine va_iald hx hb hG.1 hP 1 0 rfl rfl (ix_t (i := 0) (x := 0) (n := 296) (show (0 : Int32).toInt = 0 from rfl) (by omega)) dX6_ofMills_10 ?_
      refine lv_tope (y := ((x 0) 0)) (congrArg _ (by decide)) ?_
      refine lv_icmp_ge (tgt := 69) hx hb dX6_ofMills_11 (by decide) (fun c_1 => (trS hn_4 c_1).elim) (fun c_1 => ?_)
      have hlt_c_1 := k_lt c_1
      refine lv_iload_n hx hb dX6_ofMills_14 rfl (lv_at hl 1 rfl) ?_
      refine lv_iload_n hx hb dX6_ofMills_15 rfl (lv_at hl 3 rfl) ?_
      refine lv_bipush (v := 8) hx hb dX6_ofMills_16 (by decide) ?_
      refine lv_icmp_ne (tgt := 38) hx hb dX6_ofMills_18 (by decide) (fun c_2 => ?_) (fun c_2 => ?_)
      · rw [if_neg c_2] at hR
        have tc_2 : ¬ what.toInt = 8 := fun z => c_2 (i_eq.mpr z)
        refine lv_iload_n hx hb dX6_ofMills_38 rfl (lv_at hl 3 rfl) ?_
        refine lv_bipush (v := 9) hx hb dX6_ofMills_39 (by decide) ?_
        refine lv_icmp_ne (tgt := 56) hx hb dX6_ofMills_41 (by decide) (fun c_3 => ?_) (fun c_3 => ?_)
        · rw [if_neg c_3] at hR
          have tc_3 : ¬ what.toInt = 9 := fun z => c_3 (i_eq.mpr z)
          refine lv_aload_n hx hb dX6_ofMills_56 rfl (lv_at hl 2 rfl) ?_
          refine lv_iconst (v := (-1)) hx hb dX6_ofMills_57 (by decide) ?_
          refine ro_V (v := .int (mX6_grain x (-1))) (rest := [.int x2_4]) (As := [.int (-1)]) hx hb hml hown hts hl (MX6_grain l D q h x (-1)) gX6_ofMills_X6_grain rfl kX6_grain ⟨Nat.le_of_ble_eq_true rfl, Nat.le_of_ble_eq_true rfl⟩ rfl rfl hP (dT hD) hG (ci := 4) rfl rfl rfl rfl (Nat.le_of_ble_eq_true rfl) dX6_ofMills_58 ⟨Nat.zero_le _, Nat.zero_le _⟩ ?_
          refine lv_iadd hx hb dX6_ofMills_61 ?_
          refine lv_istore_n (lv' := [(2, .int (x2_4 + (mX6_grain x (-1)))), (3, .int x3_4), (0, .ref (h 0)), (1, .int what)]) hx hb dX6_ofMills_62 rfl hl (by decide) rfl (fun ls hl => ?_)
          refine lv_iinc (v := (x3_4 + 1)) (lv' := [(3, .int (x3_4 + 1)), (2, .int (x2_4 + (mX6_grain x (-1)))), (0, .ref (h 0)), (1, .int what)]) hx hb dX6_ofMills_63 hl (k := 1) rfl rfl (by decide) rfl (fun ls hl => ?_)
          refine lv_goto (tgt := 4) hx hb dX6_ofMills_66 (by decide) ?_
          exact ih_4 (x3_4 + 1) (x2_4 + (mX6_grain x (-1))) (trN hn_4) (k_up hk_4 c_1) hR ls (lv_sub hl [0, 1, 2, 3] rfl)
        · rw [if_pos c_3] at hR
          have tc_3 : what.toInt = 9 := i_eq.mp c_3
          refine lv_aload_n hx hb dX6_ofMills_44 rfl (lv_at hl 2 rfl) ?_
          refine lv_aload_n hx hb dX6_ofMills_45 rfl (lv_at hl 2 rfl) ?_
          refine lv_iload_n hx hb dX6_ofMills_46 rfl (lv_at hl 0 rfl) ?_
          refine ro_V (v := .int (mX6_turning x x3_4)) (rest := [.ref (h 0), .int x2_4]) (As := [.int x3_4]) hx hb hml hown hts hl (MX6_turning l D q h x x3_4 (rg_t (i := x3_4) (x := (x3_4).toInt) rfl (by omega))) gX6_ofMills_X6_turning rfl kX6_turning ⟨Nat.le_of_ble_eq_true rfl, Nat.le_of_ble_eq_true rfl⟩ rfl rfl hP (dT hD) hG (ci := 4) rfl rfl rfl rfl (Nat.le_of_ble_eq_true rfl) dX6_ofMills_47 ⟨Nat.zero_le _, Nat.zero_le _⟩ ?_
          refine ro_V (v := .int (mX6_grain x (mX6_turning x x3_4))) (rest := [.int x2_4]) (As := [.int (mX6_turning x x3_4)]) hx hb hml hown hts hl (MX6_grain l D q h x (mX6_turning x x3_4)) gX6_ofMills_X6_grain rfl kX6_grain ⟨Nat.le_of_ble_eq_true rfl, Nat.le_of_ble_eq_true rfl⟩ rfl rfl hP (dT hD) hG (ci := 4) rfl rfl rfl rfl (Nat.le_of_ble_eq_true rfl) dX6_ofMills_50 ⟨Nat.zero_le _, Nat.zero_le _⟩ ?_
          refine lv_goto (tgt := 61) hx hb dX6_ofMills_53 (by decide) ?_
          refine lv_iadd hx hb dX6_ofMills_61 ?_
          refine lv_istore_n (lv' := [(2, .int (x2_4 + (mX6_grain x (mX6_turning x x3_4)))), (3, .int x3_4), (0, .ref (h 0)), (1, .int what)]) hx hb dX6_ofMills_62 rfl hl (by decide) rfl (fun ls hl => ?_)
          refine lv_iinc (v := (x3_4 + 1)) (lv' := [(3, .int (x3_4 + 1)), (2, .int (x2_4 + (mX6_grain x (mX6_turning x x3_4)))), (0, .ref (h 0)), (1, .int what)]) hx hb dX6_ofMills_63 hl (k := 1) rfl rfl (by decide) rfl (fun ls hl => ?_)
          refine lv_goto (tgt := 4) hx hb dX6_ofMills_66 (by decide) ?_
          exact ih_4 (x3_4 + 1) (x2_4 + (mX6_grain x (mX6_turning x x3_4))) (trN hn_4) (k_up hk_4 c_1) hR ls (lv_sub hl [0, 1, 2, 3] rfl)
      · rw [if_pos c_2] at hR
        have tc_2 : what.toInt = 8 := i_eq.mp c_2
        refine lv_aload_n hx hb dX6_ofMills_21 rfl (lv_at hl 2 rfl) ?_
        refine va_get (D := D) (ci := 4) (v := .ref (h 1)) (C := RX6) (T := TX6) (N := 7) hx hb hts iX6_ofMills_X6 hown hG.1 hP 0 rfl rfl 0 (by decide) (hts (.fieldLink RX6 7 "MillComplaintsModel" "s" "[I") (List.mem_of_getElem? (i := 1) rfl)) (fun _ h9 => h9) rfl dX6_ofMills_22 ?_
        refine lv_iconst (v := 0) hx hb dX6_ofMills_25 (by decide) ?_
        refine lv_iload_n hx hb dX6_ofMills_26 rfl (lv_at hl 0 rfl) ?_
        refine lv_iconst (v := 2) hx hb dX6_ofMills_27 (by decide) ?_
        refine ro_S (v := .int (((0 + 1) + (3 * x3_4)) + 2)) (rest := [.ref (h 1), .int x2_4]) (As := [.int 0, .int x3_4, .int 2]) hx hb hml hown hts hl (MX6_ofMill l D q 0 x3_4 2) gX6_ofMills_X6_ofMill rfl kX6_ofMill ⟨Nat.le_of_ble_eq_true rfl, Nat.le_of_ble_eq_true rfl⟩ rfl rfl (hP.sub (ws' := []) [] rfl) (dT (hD.sub (ws' := []) [] (by decide) rfl)) hG rfl rfl (Nat.le_of_ble_eq_true rfl) dX6_ofMills_28 ⟨Nat.zero_le _, Nat.zero_le _⟩ ?_
        refine va_iald hx hb hG.1 hP 1 0 rfl rfl (ix_t (i := (((0 + 1) + (3 * x3_4)) + 2)) (x := (((0 + 1) + (3 * (x3_4).toInt)) + 2)) (n := 296) (ti_add (ti_add (ti_add (show (0 : Int32).toInt = 0 from rfl) (show (1 : Int32).toInt = 1 from rfl) (by omega)) (ti_mul (show (3 : Int32).toInt = 3 from rfl) rfl (by omega)) (by omega)) (show (2 : Int32).toInt = 2 from rfl) (by omega)) (by omega)) dX6_ofMills_31 ?_
        refine ro_S (v := .int (mX6_ones ((x 0) ((((0 + 1) + (3 * x3_4)) + 2)).toNatClampNeg))) (rest := [.int x2_4]) (As := [.int ((x 0) ((((0 + 1) + (3 * x3_4)) + 2)).toNatClampNeg)]) hx hb hml hown hts hl (MX6_ones l D q ((x 0) ((((0 + 1) + (3 * x3_4)) + 2)).toNatClampNeg)) gX6_ofMills_X6_ones rfl kX6_ones ⟨Nat.le_of_ble_eq_true rfl, Nat.le_of_ble_eq_true rfl⟩ rfl rfl (hP.sub (ws' := []) [] rfl) (dT (hD.sub (ws' := []) [] (by decide) rfl)) hG rfl rfl (Nat.le_of_ble_eq_true rfl) dX6_ofMills_32 ⟨Nat.zero_le _, Nat.zero_le _⟩ ?_
        refine lv_goto (tgt := 61) hx hb dX6_ofMills_35 (by decide) ?_
        refine lv_iadd hx hb dX6_ofMills_61 ?_
        refine lv_istore_n (lv' := [(2, .int (x2_4 + (mX6_ones ((x 0) ((((0 + 1) + (3 * x3_4)) + 2)).toNatClampNeg)))), (3, .int x3_4), (0, .ref (h 0)), (1, .int what)]) hx hb dX6_ofMills_62 rfl hl (by decide) rfl (fun ls hl => ?_)
        refine lv_iinc (v := (x3_4 + 1)) (lv' := [(3, .int (x3_4 + 1)), (2, .int (x2_4 + (mX6_ones ((x 0) ((((0 + 1) + (3 * x3_4)) + 2)).toNatClampNeg)))), (0, .ref (h 0)), (1, .int what)]) hx hb dX6_ofMills_63 hl (k := 1) rfl rfl (by decide) rfl (fun ls hl => ?_)
        refine lv_goto (tgt := 4) hx hb dX6_ofMills_66 (by decide) ?_
        exact ih_4 (x3_4 + 1) (x2_4 + (mX6_ones ((x 0) ((((0 + 1) + (3 * x3_4)) + 2)).toNatClampNeg))) (trN hn_4) (k_up hk_4 c_1) hR ls (lv_sub hl [0, 1, 2, 3] rfl)
  exact key_4 _ 0 0 rfl (by decide) hR ls hl

def mX6_troubles (x : Nat → Nat → Int32) (mill hour : Int32) : Int32 := (((x 0) 13) - (mX6_votes x mill hour))
theorem kX6_troubles : yX6_troubles.cls = RX6 ∧ yX6_troubles.cls ≠ "java/lang/invoke/MethodHandle" ∧ yX6_troubles.cls ≠ "java/lang/invoke/VarHandle" ∧ (parseMethodDescriptor yX6_troubles.desc).map (fun d => d.parameters.length) = some 2 := by decide +kernel
theorem iX6_troubles_X6 : ∀ w ∈ wsX60, w ∈ wsX6_troubles := fun w h => (List.mem_cons_of_mem _ (List.mem_append_right _ h))
set_option maxHeartbeats 4000000 in
set_option maxRecDepth 100000 in
theorem MX6_troubles (l : Launch) (D : va_G) (q : Nat → ClassId) (h : Nat → Nat) (x : Nat → Nat → Int32) (mill hour : Int32) (hC : cntP x 0) (hmill : 0 ≤ mill.toInt ∧ mill.toInt < 4) (hhour : 0 ≤ hour.toInt ∧ hour.toInt < 24) : roM l D (tyq q) yX6_troubles wsX6_troubles ({ frames := 7, cells := 0, slots := 0, locals := 169 } : Room) [.ref (h 0), .int mill, .int hour] (wM q h x) (some (.int (mX6_troubles x mill hour))) := by
  obtain ⟨R, hR⟩ : ∃ z, (mX6_troubles x mill hour) = z := ⟨_, rfl⟩
  rw [hR]
  unfold mX6_troubles at hR
  refine roM.of (cc := cX6_troubles) (maxL := 3) (ret := (some .int)) (by decide) rfl (Nat.le_of_ble_eq_true rfl) ?_
  intro p e s m below meth c ls hx hb hr hk hml hown hts hP hD hG hl
  have hl : lv_has ls 3 [(0, .ref (h 0)), (1, .int mill), (2, .int hour)] := hl
  refine lv_aload_n hx hb dX6_troubles_0 rfl (lv_at hl 0 rfl) ?_
  refine va_get (D := D) (ci := 4) (v := .ref (h 1)) (C := RX6) (T := TX6) (N := 7) hx hb hts iX6_troubles_X6 hown hG.1 hP 0 rfl rfl 0 (by decide) (hts (.fieldLink RX6 7 "MillComplaintsModel" "s" "[I") (List.mem_of_getElem? (i := 1) rfl)) (fun _ h9 => h9) rfl dX6_troubles_1 ?_
  refine lv_bipush (v := 13) hx hb dX6_troubles_4 (by decide) ?_
  refine va_iald hx hb hG.1 hP 1 0 rfl rfl (ix_t (i := 13) (x := 13) (n := 296) (show (13 : Int32).toInt = 13 from rfl) (by omega)) dX6_troubles_6 ?_
  refine lv_tope (y := ((x 0) 13)) (congrArg _ (by decide)) ?_
  refine lv_aload_n hx hb dX6_troubles_7 rfl (lv_at hl 0 rfl) ?_
  refine lv_iload_n hx hb dX6_troubles_8 rfl (lv_at hl 1 rfl) ?_
  refine lv_iload_n hx hb dX6_troubles_9 rfl (lv_at hl 2 rfl) ?_
  refine ro_V (v := .int (mX6_votes x mill hour)) (rest := [.int ((x 0) 13)]) (As := [.int mill, .int hour]) hx hb hml hown hts hl (MX6_votes l D q h x mill hour (by assumption) (rg_t (i := mill) (x := (mill).toInt) rfl (by omega)) (rg_t (i := hour) (x := (hour).toInt) rfl (by omega))) gX6_troubles_X6_votes rfl kX6_votes ⟨Nat.le_of_ble_eq_true rfl, Nat.le_of_ble_eq_true rfl⟩ rfl rfl hP (dT hD) hG (ci := 4) rfl rfl rfl rfl (Nat.le_of_ble_eq_true rfl) dX6_troubles_10 ⟨Nat.zero_le _, Nat.zero_le _⟩ ?_
  refine lv_isub hx hb dX6_troubles_13 ?_
  exact ro_iret hx hb hr hk hR dX6_troubles_14

def mX6_yardOf (x : Nat → Nat → Int32) (yard what : Int32) : Int32 := (if (mX6_isYard yard) = 0 then (-1) else (if what = 0 then (mX6_millAt x 0 yard) else (if what = 1 then (mX6_houseAt x 0 yard) else (-2))))
theorem kX6_yardOf : yX6_yardOf.cls = RX6 ∧ yX6_yardOf.cls ≠ "java/lang/invoke/MethodHandle" ∧ yX6_yardOf.cls ≠ "java/lang/invoke/VarHandle" ∧ (parseMethodDescriptor yX6_yardOf.desc).map (fun d => d.parameters.length) = some 2 := by decide +kernel
set_option maxHeartbeats 4000000 in
set_option maxRecDepth 100000 in
theorem MX6_yardOf (l : Launch) (D : va_G) (q : Nat → ClassId) (h : Nat → Nat) (x : Nat → Nat → Int32) (yard what : Int32) (hC : cntP x 0) : roM l D (tyq q) yX6_yardOf wsX6_yardOf ({ frames := 2, cells := 0, slots := 0, locals := 45 } : Room) [.ref (h 0), .int yard, .int what] (wM q h x) (some (.int (mX6_yardOf x yard what))) := by
  obtain ⟨R, hR⟩ : ∃ z, (mX6_yardOf x yard what) = z := ⟨_, rfl⟩
  rw [hR]
  unfold mX6_yardOf at hR
  refine roM.of (cc := cX6_yardOf) (maxL := 3) (ret := (some .int)) (by decide) rfl (Nat.le_of_ble_eq_true rfl) ?_
  intro p e s m below meth c ls hx hb hr hk hml hown hts hP hD hG hl
  have hl : lv_has ls 3 [(0, .ref (h 0)), (1, .int yard), (2, .int what)] := hl
  refine lv_iload_n hx hb dX6_yardOf_0 rfl (lv_at hl 1 rfl) ?_
  refine ro_S (v := .int (mX6_isYard yard)) (rest := []) (As := [.int yard]) hx hb hml hown hts hl (MX6_isYard l D q yard) gX6_yardOf_X6_isYard rfl kX6_isYard ⟨Nat.le_of_ble_eq_true rfl, Nat.le_of_ble_eq_true rfl⟩ rfl rfl (hP.sub (ws' := []) [] rfl) (dT (hD.sub (ws' := []) [] (by decide) rfl)) hG rfl rfl (Nat.le_of_ble_eq_true rfl) dX6_yardOf_1 ⟨Nat.zero_le _, Nat.zero_le _⟩ ?_
  refine lv_if_ne (tgt := 9) hx hb dX6_yardOf_4 (by decide) (fun c_1 => ?_) (fun c_1 => ?_)
  · rw [if_neg c_1] at hR
    refine lv_iload_n hx hb dX6_yardOf_9 rfl (lv_at hl 2 rfl) ?_
    refine lv_if_ne (tgt := 22) hx hb dX6_yardOf_10 (by decide) (fun c_2 => ?_) (fun c_2 => ?_)
    · rw [if_neg c_2] at hR
      have tc_2 : ¬ what.toInt = 0 := fun z => c_2 (i_eq.mpr z)
      refine lv_iload_n hx hb dX6_yardOf_22 rfl (lv_at hl 2 rfl) ?_
      refine lv_iconst (v := 1) hx hb dX6_yardOf_23 (by decide) ?_
      refine lv_icmp_ne (tgt := 36) hx hb dX6_yardOf_24 (by decide) (fun c_3 => ?_) (fun c_3 => ?_)
      · rw [if_neg c_3] at hR
        have tc_3 : ¬ what.toInt = 1 := fun z => c_3 (i_eq.mpr z)
        refine lv_bipush (v := (-2)) hx hb dX6_yardOf_36 (by decide) ?_
        exact ro_iret hx hb hr hk hR dX6_yardOf_38
      · rw [if_pos c_3] at hR
        have tc_3 : what.toInt = 1 := i_eq.mp c_3
        refine lv_aload_n hx hb dX6_yardOf_27 rfl (lv_at hl 0 rfl) ?_
        refine lv_iconst (v := 0) hx hb dX6_yardOf_28 (by decide) ?_
        refine lv_iload_n hx hb dX6_yardOf_29 rfl (lv_at hl 1 rfl) ?_
        refine ro_V (v := .int (mX6_houseAt x 0 yard)) (rest := []) (As := [.int 0, .int yard]) hx hb hml hown hts hl (MX6_houseAt l D q h x 0 yard (by assumption) (rg_t (i := 0) (x := 0) (show (0 : Int32).toInt = 0 from rfl) (by omega))) gX6_yardOf_X6_houseAt rfl kX6_houseAt ⟨Nat.le_of_ble_eq_true rfl, Nat.le_of_ble_eq_true rfl⟩ rfl rfl hP (dT hD) hG (ci := 4) rfl rfl rfl rfl (Nat.le_of_ble_eq_true rfl) dX6_yardOf_30 ⟨Nat.zero_le _, Nat.zero_le _⟩ ?_
        refine lv_goto (tgt := 38) hx hb dX6_yardOf_33 (by decide) ?_
        exact ro_iret hx hb hr hk hR dX6_yardOf_38
    · rw [if_pos c_2] at hR
      have tc_2 : what.toInt = 0 := i_eq.mp c_2
      refine lv_aload_n hx hb dX6_yardOf_13 rfl (lv_at hl 0 rfl) ?_
      refine lv_iconst (v := 0) hx hb dX6_yardOf_14 (by decide) ?_
      refine lv_iload_n hx hb dX6_yardOf_15 rfl (lv_at hl 1 rfl) ?_
      refine ro_V (v := .int (mX6_millAt x 0 yard)) (rest := []) (As := [.int 0, .int yard]) hx hb hml hown hts hl (MX6_millAt l D q h x 0 yard (by assumption) (rg_t (i := 0) (x := 0) (show (0 : Int32).toInt = 0 from rfl) (by omega))) gX6_yardOf_X6_millAt rfl kX6_millAt ⟨Nat.le_of_ble_eq_true rfl, Nat.le_of_ble_eq_true rfl⟩ rfl rfl hP (dT hD) hG (ci := 4) rfl rfl rfl rfl (Nat.le_of_ble_eq_true rfl) dX6_yardOf_16 ⟨Nat.zero_le _, Nat.zero_le _⟩ ?_
      refine lv_goto (tgt := 38) hx hb dX6_yardOf_19 (by decide) ?_
      exact ro_iret hx hb hr hk hR dX6_yardOf_38
  · rw [if_pos c_1] at hR
    refine lv_iconst (v := (-1)) hx hb dX6_yardOf_7 (by decide) ?_
    exact ro_iret hx hb hr hk hR dX6_yardOf_8

def mX6_millOf (x : Nat → Nat → Int32) (mill what : Int32) : Int32 := (if (mX6_isMill x 0 mill) = 0 then (-1) else (if what = 0 then ((x 0) ((((0 + 1) + (3 * mill)) + what)).toNatClampNeg) else (if what = 1 then ((x 0) ((((0 + 1) + (3 * mill)) + what)).toNatClampNeg) else (if what = 2 then ((x 0) ((((0 + 1) + (3 * mill)) + what)).toNatClampNeg) else (if what = 3 then (mX6_turning x mill) else (if what = 4 then (mX6_grain x (mX6_turning x mill)) else (if what = 5 then (mX6_allPoints x mill) else (-2))))))))
theorem kX6_millOf : yX6_millOf.cls = RX6 ∧ yX6_millOf.cls ≠ "java/lang/invoke/MethodHandle" ∧ yX6_millOf.cls ≠ "java/lang/invoke/VarHandle" ∧ (parseMethodDescriptor yX6_millOf.desc).map (fun d => d.parameters.length) = some 2 := by decide +kernel
theorem iX6_millOf_X6 : ∀ w ∈ wsX60, w ∈ wsX6_millOf := fun w h => (List.mem_cons_of_mem _ (List.mem_append_right _ h))
set_option maxHeartbeats 4000000 in
set_option maxRecDepth 100000 in
theorem MX6_millOf (l : Launch) (D : va_G) (q : Nat → ClassId) (h : Nat → Nat) (x : Nat → Nat → Int32) (mill what : Int32) (hC : cntP x 0) : roM l D (tyq q) yX6_millOf wsX6_millOf ({ frames := 4, cells := 0, slots := 0, locals := 91 } : Room) [.ref (h 0), .int mill, .int what] (wM q h x) (some (.int (mX6_millOf x mill what))) := by
  obtain ⟨R, hR⟩ : ∃ z, (mX6_millOf x mill what) = z := ⟨_, rfl⟩
  rw [hR]
  unfold mX6_millOf at hR
  refine roM.of (cc := cX6_millOf) (maxL := 3) (ret := (some .int)) (by decide) rfl (Nat.le_of_ble_eq_true rfl) ?_
  intro p e s m below meth c ls hx hb hr hk hml hown hts hP hD hG hl
  have hl : lv_has ls 3 [(0, .ref (h 0)), (1, .int mill), (2, .int what)] := hl
  have hC1 : 0 ≤ (x 0 0).toInt ∧ (x 0 0).toInt < 5 := hC.1
  have hC2 : 0 ≤ (x 0 13).toInt ∧ (x 0 13).toInt < 11 := hC.2
  refine lv_aload_n hx hb dX6_millOf_0 rfl (lv_at hl 0 rfl) ?_
  refine lv_iconst (v := 0) hx hb dX6_millOf_1 (by decide) ?_
  refine lv_iload_n hx hb dX6_millOf_2 rfl (lv_at hl 1 rfl) ?_
  refine ro_V (v := .int (mX6_isMill x 0 mill)) (rest := []) (As := [.int 0, .int mill]) hx hb hml hown hts hl (MX6_isMill l D q h x 0 mill (rg_t (i := 0) (x := 0) (show (0 : Int32).toInt = 0 from rfl) (by omega))) gX6_millOf_X6_isMill rfl kX6_isMill ⟨Nat.le_of_ble_eq_true rfl, Nat.le_of_ble_eq_true rfl⟩ rfl rfl hP (dT hD) hG (ci := 4) rfl rfl rfl rfl (Nat.le_of_ble_eq_true rfl) dX6_millOf_3 ⟨Nat.zero_le _, Nat.zero_le _⟩ ?_
  refine lv_if_ne (tgt := 11) hx hb dX6_millOf_6 (by decide) (fun c_1 => ?_) (fun c_1 => ?_)
  · rw [if_neg c_1] at hR
    have fc_1 := f_isMill hC c_1
    refine lv_iload_n hx hb dX6_millOf_11 rfl (lv_at hl 2 rfl) ?_
    by_cases c_2 : what = 0
    · rw [if_pos c_2] at hR
      have tc_2 : what.toInt = 0 := i_eq.mp c_2
      refine lv_tableIn (off := 40) (tgt := 52) hx hb dX6_millOf_12 (by rw [c_2]; decide) (by rw [c_2]; decide) (by rw [c_2]; rfl) (by decide) ?_
      refine lv_aload_n hx hb dX6_millOf_52 rfl (lv_at hl 0 rfl) ?_
      refine va_get (D := D) (ci := 4) (v := .ref (h 1)) (C := RX6) (T := TX6) (N := 7) hx hb hts iX6_millOf_X6 hown hG.1 hP 0 rfl rfl 0 (by decide) (hts (.fieldLink RX6 7 "MillComplaintsModel" "s" "[I") (List.mem_of_getElem? (i := 1) rfl)) (fun _ h9 => h9) rfl dX6_millOf_53 ?_
      refine lv_iconst (v := 0) hx hb dX6_millOf_56 (by decide) ?_
      refine lv_iload_n hx hb dX6_millOf_57 rfl (lv_at hl 1 rfl) ?_
      refine lv_iload_n hx hb dX6_millOf_58 rfl (lv_at hl 2 rfl) ?_
      refine ro_S (v := .int (((0 + 1) + (3 * mill)) + what)) (rest := [.ref (h 1)]) (As := [.int 0, .int mill, .int what]) hx hb hml hown hts hl (MX6_ofMill l D q 0 mill what) gX6_millOf_X6_ofMill rfl kX6_ofMill ⟨Nat.le_of_ble_eq_true rfl, Nat.le_of_ble_eq_true rfl⟩ rfl rfl (hP.sub (ws' := []) [] rfl) (dT (hD.sub (ws' := []) [] (by decide) rfl)) hG rfl rfl (Nat.le_of_ble_eq_true rfl) dX6_millOf_59 ⟨Nat.zero_le _, Nat.zero_le _⟩ ?_
      refine va_iald hx hb hG.1 hP 1 0 rfl rfl (ix_t (i := (((0 + 1) + (3 * mill)) + what)) (x := (((0 + 1) + (3 * (mill).toInt)) + (what).toInt)) (n := 296) (ti_add (ti_add (ti_add (show (0 : Int32).toInt = 0 from rfl) (show (1 : Int32).toInt = 1 from rfl) (by omega)) (ti_mul (show (3 : Int32).toInt = 3 from rfl) rfl (by omega)) (by omega)) rfl (by omega)) (by omega)) dX6_millOf_62 ?_
      exact ro_iret hx hb hr hk hR dX6_millOf_63
    · rw [if_neg c_2] at hR
      by_cases c_3 : what = 1
      · rw [if_pos c_3] at hR
        have tc_3 : what.toInt = 1 := i_eq.mp c_3
        refine lv_tableIn (off := 40) (tgt := 52) hx hb dX6_millOf_12 (by rw [c_3]; decide) (by rw [c_3]; decide) (by rw [c_3]; rfl) (by decide) ?_
        refine lv_aload_n hx hb dX6_millOf_52 rfl (lv_at hl 0 rfl) ?_
        refine va_get (D := D) (ci := 4) (v := .ref (h 1)) (C := RX6) (T := TX6) (N := 7) hx hb hts iX6_millOf_X6 hown hG.1 hP 0 rfl rfl 0 (by decide) (hts (.fieldLink RX6 7 "MillComplaintsModel" "s" "[I") (List.mem_of_getElem? (i := 1) rfl)) (fun _ h9 => h9) rfl dX6_millOf_53 ?_
        refine lv_iconst (v := 0) hx hb dX6_millOf_56 (by decide) ?_
        refine lv_iload_n hx hb dX6_millOf_57 rfl (lv_at hl 1 rfl) ?_
        refine lv_iload_n hx hb dX6_millOf_58 rfl (lv_at hl 2 rfl) ?_
        refine ro_S (v := .int (((0 + 1) + (3 * mill)) + what)) (rest := [.ref (h 1)]) (As := [.int 0, .int mill, .int what]) hx hb hml hown hts hl (MX6_ofMill l D q 0 mill what) gX6_millOf_X6_ofMill rfl kX6_ofMill ⟨Nat.le_of_ble_eq_true rfl, Nat.le_of_ble_eq_true rfl⟩ rfl rfl (hP.sub (ws' := []) [] rfl) (dT (hD.sub (ws' := []) [] (by decide) rfl)) hG rfl rfl (Nat.le_of_ble_eq_true rfl) dX6_millOf_59 ⟨Nat.zero_le _, Nat.zero_le _⟩ ?_
        refine va_iald hx hb hG.1 hP 1 0 rfl rfl (ix_t (i := (((0 + 1) + (3 * mill)) + what)) (x := (((0 + 1) + (3 * (mill).toInt)) + (what).toInt)) (n := 296) (ti_add (ti_add (ti_add (show (0 : Int32).toInt = 0 from rfl) (show (1 : Int32).toInt = 1 from rfl) (by omega)) (ti_mul (show (3 : Int32).toInt = 3 from rfl) rfl (by omega)) (by omega)) rfl (by omega)) (by omega)) dX6_millOf_62 ?_
        exact ro_iret hx hb hr hk hR dX6_millOf_63
      · rw [if_neg c_3] at hR
        by_cases c_4 : what = 2
        · rw [if_pos c_4] at hR
          have tc_4 : what.toInt = 2 := i_eq.mp c_4
          refine lv_tableIn (off := 40) (tgt := 52) hx hb dX6_millOf_12 (by rw [c_4]; decide) (by rw [c_4]; decide) (by rw [c_4]; rfl) (by decide) ?_
          refine lv_aload_n hx hb dX6_millOf_52 rfl (lv_at hl 0 rfl) ?_
          refine va_get (D := D) (ci := 4) (v := .ref (h 1)) (C := RX6) (T := TX6) (N := 7) hx hb hts iX6_millOf_X6 hown hG.1 hP 0 rfl rfl 0 (by decide) (hts (.fieldLink RX6 7 "MillComplaintsModel" "s" "[I") (List.mem_of_getElem? (i := 1) rfl)) (fun _ h9 => h9) rfl dX6_millOf_53 ?_
          refine lv_iconst (v := 0) hx hb dX6_millOf_56 (by decide) ?_
          refine lv_iload_n hx hb dX6_millOf_57 rfl (lv_at hl 1 rfl) ?_
          refine lv_iload_n hx hb dX6_millOf_58 rfl (lv_at hl 2 rfl) ?_
          refine ro_S (v := .int (((0 + 1) + (3 * mill)) + what)) (rest := [.ref (h 1)]) (As := [.int 0, .int mill, .int what]) hx hb hml hown hts hl (MX6_ofMill l D q 0 mill what) gX6_millOf_X6_ofMill rfl kX6_ofMill ⟨Nat.le_of_ble_eq_true rfl, Nat.le_of_ble_eq_true rfl⟩ rfl rfl (hP.sub (ws' := []) [] rfl) (dT (hD.sub (ws' := []) [] (by decide) rfl)) hG rfl rfl (Nat.le_of_ble_eq_true rfl) dX6_millOf_59 ⟨Nat.zero_le _, Nat.zero_le _⟩ ?_
          refine va_iald hx hb hG.1 hP 1 0 rfl rfl (ix_t (i := (((0 + 1) + (3 * mill)) + what)) (x := (((0 + 1) + (3 * (mill).toInt)) + (what).toInt)) (n := 296) (ti_add (ti_add (ti_add (show (0 : Int32).toInt = 0 from rfl) (show (1 : Int32).toInt = 1 from rfl) (by omega)) (ti_mul (show (3 : Int32).toInt = 3 from rfl) rfl (by omega)) (by omega)) rfl (by omega)) (by omega)) dX6_millOf_62 ?_
          exact ro_iret hx hb hr hk hR dX6_millOf_63
        · rw [if_neg c_4] at hR
          by_cases c_5 : what = 3
          · rw [if_pos c_5] at hR
            have tc_5 : what.toInt = 3 := i_eq.mp c_5
            refine lv_tableIn (off := 52) (tgt := 64) hx hb dX6_millOf_12 (by rw [c_5]; decide) (by rw [c_5]; decide) (by rw [c_5]; rfl) (by decide) ?_
            refine lv_aload_n hx hb dX6_millOf_64 rfl (lv_at hl 0 rfl) ?_
            refine lv_iload_n hx hb dX6_millOf_65 rfl (lv_at hl 1 rfl) ?_
            refine ro_V (v := .int (mX6_turning x mill)) (rest := []) (As := [.int mill]) hx hb hml hown hts hl (MX6_turning l D q h x mill (rg_t (i := mill) (x := (mill).toInt) rfl (by omega))) gX6_millOf_X6_turning rfl kX6_turning ⟨Nat.le_of_ble_eq_true rfl, Nat.le_of_ble_eq_true rfl⟩ rfl rfl hP (dT hD) hG (ci := 4) rfl rfl rfl rfl (Nat.le_of_ble_eq_true rfl) dX6_millOf_66 ⟨Nat.zero_le _, Nat.zero_le _⟩ ?_
            exact ro_iret hx hb hr hk hR dX6_millOf_69
          · rw [if_neg c_5] at hR
            by_cases c_6 : what = 4
            · rw [if_pos c_6] at hR
              have tc_6 : what.toInt = 4 := i_eq.mp c_6
              refine lv_tableIn (off := 58) (tgt := 70) hx hb dX6_millOf_12 (by rw [c_6]; decide) (by rw [c_6]; decide) (by rw [c_6]; rfl) (by decide) ?_
              refine lv_aload_n hx hb dX6_millOf_70 rfl (lv_at hl 0 rfl) ?_
              refine lv_aload_n hx hb dX6_millOf_71 rfl (lv_at hl 0 rfl) ?_
              refine lv_iload_n hx hb dX6_millOf_72 rfl (lv_at hl 1 rfl) ?_
              refine ro_V (v := .int (mX6_turning x mill)) (rest := [.ref (h 0)]) (As := [.int mill]) hx hb hml hown hts hl (MX6_turning l D q h x mill (rg_t (i := mill) (x := (mill).toInt) rfl (by omega))) gX6_millOf_X6_turning rfl kX6_turning ⟨Nat.le_of_ble_eq_true rfl, Nat.le_of_ble_eq_true rfl⟩ rfl rfl hP (dT hD) hG (ci := 4) rfl rfl rfl rfl (Nat.le_of_ble_eq_true rfl) dX6_millOf_73 ⟨Nat.zero_le _, Nat.zero_le _⟩ ?_
              refine ro_V (v := .int (mX6_grain x (mX6_turning x mill))) (rest := []) (As := [.int (mX6_turning x mill)]) hx hb hml hown hts hl (MX6_grain l D q h x (mX6_turning x mill)) gX6_millOf_X6_grain rfl kX6_grain ⟨Nat.le_of_ble_eq_true rfl, Nat.le_of_ble_eq_true rfl⟩ rfl rfl hP (dT hD) hG (ci := 4) rfl rfl rfl rfl (Nat.le_of_ble_eq_true rfl) dX6_millOf_76 ⟨Nat.zero_le _, Nat.zero_le _⟩ ?_
              exact ro_iret hx hb hr hk hR dX6_millOf_79
            · rw [if_neg c_6] at hR
              by_cases c_7 : what = 5
              · rw [if_pos c_7] at hR
                have tc_7 : what.toInt = 5 := i_eq.mp c_7
                refine lv_tableIn (off := 68) (tgt := 80) hx hb dX6_millOf_12 (by rw [c_7]; decide) (by rw [c_7]; decide) (by rw [c_7]; rfl) (by decide) ?_
                refine lv_aload_n hx hb dX6_millOf_80 rfl (lv_at hl 0 rfl) ?_
                refine lv_iload_n hx hb dX6_millOf_81 rfl (lv_at hl 1 rfl) ?_
                refine ro_V (v := .int (mX6_allPoints x mill)) (rest := []) (As := [.int mill]) hx hb hml hown hts hl (MX6_allPoints l D q h x mill (rg_t (i := mill) (x := (mill).toInt) rfl (by omega))) gX6_millOf_X6_allPoints rfl kX6_allPoints ⟨Nat.le_of_ble_eq_true rfl, Nat.le_of_ble_eq_true rfl⟩ rfl rfl hP (dT hD) hG (ci := 4) rfl rfl rfl rfl (Nat.le_of_ble_eq_true rfl) dX6_millOf_82 ⟨Nat.zero_le _, Nat.zero_le _⟩ ?_
                exact ro_iret hx hb hr hk hR dX6_millOf_85
              · rw [if_neg c_7] at hR
                refine lv_tableOut (tgt := 86) hx hb dX6_millOf_12 (by have z0 := lv_neT c_2 (a := 0) rfl; have z1 := lv_neT c_3 (a := 1) rfl; have z2 := lv_neT c_4 (a := 2) rfl; have z3 := lv_neT c_5 (a := 3) rfl; have z4 := lv_neT c_6 (a := 4) rfl; have z5 := lv_neT c_7 (a := 5) rfl; omega) (by decide) ?_
                refine lv_bipush (v := (-2)) hx hb dX6_millOf_86 (by decide) ?_
                exact ro_iret hx hb hr hk hR dX6_millOf_88
  · rw [if_pos c_1] at hR
    refine lv_iconst (v := (-1)) hx hb dX6_millOf_9 (by decide) ?_
    exact ro_iret hx hb hr hk hR dX6_millOf_10

def mX6_houseOf (x : Nat → Nat → Int32) (house what : Int32) : Int32 := (if (mX6_isHouse x 0 house) = 0 then (-1) else (if what = 0 then ((x 0) ((((0 + 14) + (2 * house)) + what)).toNatClampNeg) else (if what = 1 then ((x 0) ((((0 + 14) + (2 * house)) + what)).toNatClampNeg) else (if what = 2 then (if ((x 0) ((((0 + 14) + (2 * house)) + 1)).toNatClampNeg) < 3 then 0 else 1) else (if what = 3 then (mX6_standing x house) else (if what = 4 then (mX6_troubled x house (what - 4)) else (if what = 5 then (mX6_troubled x house (what - 4)) else (-2))))))))
theorem kX6_houseOf : yX6_houseOf.cls = RX6 ∧ yX6_houseOf.cls ≠ "java/lang/invoke/MethodHandle" ∧ yX6_houseOf.cls ≠ "java/lang/invoke/VarHandle" ∧ (parseMethodDescriptor yX6_houseOf.desc).map (fun d => d.parameters.length) = some 2 := by decide +kernel
theorem iX6_houseOf_X6 : ∀ w ∈ wsX60, w ∈ wsX6_houseOf := fun w h => (List.mem_cons_of_mem _ (List.mem_append_right _ h))
set_option maxHeartbeats 4000000 in
set_option maxRecDepth 100000 in
theorem MX6_houseOf (l : Launch) (D : va_G) (q : Nat → ClassId) (h : Nat → Nat) (x : Nat → Nat → Int32) (house what : Int32) (hC : cntP x 0) : roM l D (tyq q) yX6_houseOf wsX6_houseOf ({ frames := 6, cells := 0, slots := 0, locals := 147 } : Room) [.ref (h 0), .int house, .int what] (wM q h x) (some (.int (mX6_houseOf x house what))) := by
  obtain ⟨R, hR⟩ : ∃ z, (mX6_houseOf x house what) = z := ⟨_, rfl⟩
  rw [hR]
  unfold mX6_houseOf at hR
  refine roM.of (cc := cX6_houseOf) (maxL := 3) (ret := (some .int)) (by decide) rfl (Nat.le_of_ble_eq_true rfl) ?_
  intro p e s m below meth c ls hx hb hr hk hml hown hts hP hD hG hl
  have hl : lv_has ls 3 [(0, .ref (h 0)), (1, .int house), (2, .int what)] := hl
  have hC1 : 0 ≤ (x 0 0).toInt ∧ (x 0 0).toInt < 5 := hC.1
  have hC2 : 0 ≤ (x 0 13).toInt ∧ (x 0 13).toInt < 11 := hC.2
  refine lv_aload_n hx hb dX6_houseOf_0 rfl (lv_at hl 0 rfl) ?_
  refine lv_iconst (v := 0) hx hb dX6_houseOf_1 (by decide) ?_
  refine lv_iload_n hx hb dX6_houseOf_2 rfl (lv_at hl 1 rfl) ?_
  refine ro_V (v := .int (mX6_isHouse x 0 house)) (rest := []) (As := [.int 0, .int house]) hx hb hml hown hts hl (MX6_isHouse l D q h x 0 house (rg_t (i := 0) (x := 0) (show (0 : Int32).toInt = 0 from rfl) (by omega))) gX6_houseOf_X6_isHouse rfl kX6_isHouse ⟨Nat.le_of_ble_eq_true rfl, Nat.le_of_ble_eq_true rfl⟩ rfl rfl hP (dT hD) hG (ci := 4) rfl rfl rfl rfl (Nat.le_of_ble_eq_true rfl) dX6_houseOf_3 ⟨Nat.zero_le _, Nat.zero_le _⟩ ?_
  refine lv_if_ne (tgt := 11) hx hb dX6_houseOf_6 (by decide) (fun c_1 => ?_) (fun c_1 => ?_)
  · rw [if_neg c_1] at hR
    have fc_1 := f_isHouse hC c_1
    refine lv_iload_n hx hb dX6_houseOf_11 rfl (lv_at hl 2 rfl) ?_
    by_cases c_2 : what = 0
    · rw [if_pos c_2] at hR
      have tc_2 : what.toInt = 0 := i_eq.mp c_2
      refine lv_tableIn (off := 40) (tgt := 52) hx hb dX6_houseOf_12 (by rw [c_2]; decide) (by rw [c_2]; decide) (by rw [c_2]; rfl) (by decide) ?_
      refine lv_aload_n hx hb dX6_houseOf_52 rfl (lv_at hl 0 rfl) ?_
      refine va_get (D := D) (ci := 4) (v := .ref (h 1)) (C := RX6) (T := TX6) (N := 7) hx hb hts iX6_houseOf_X6 hown hG.1 hP 0 rfl rfl 0 (by decide) (hts (.fieldLink RX6 7 "MillComplaintsModel" "s" "[I") (List.mem_of_getElem? (i := 1) rfl)) (fun _ h9 => h9) rfl dX6_houseOf_53 ?_
      refine lv_iconst (v := 0) hx hb dX6_houseOf_56 (by decide) ?_
      refine lv_iload_n hx hb dX6_houseOf_57 rfl (lv_at hl 1 rfl) ?_
      refine lv_iload_n hx hb dX6_houseOf_58 rfl (lv_at hl 2 rfl) ?_
      refine ro_S (v := .int (((0 + 14) + (2 * house)) + what)) (rest := [.ref (h 1)]) (As := [.int 0, .int house, .int what]) hx hb hml hown hts hl (MX6_ofHouse l D q 0 house what) gX6_houseOf_X6_ofHouse rfl kX6_ofHouse ⟨Nat.le_of_ble_eq_true rfl, Nat.le_of_ble_eq_true rfl⟩ rfl rfl (hP.sub (ws' := []) [] rfl) (dT (hD.sub (ws' := []) [] (by decide) rfl)) hG rfl rfl (Nat.le_of_ble_eq_true rfl) dX6_houseOf_59 ⟨Nat.zero_le _, Nat.zero_le _⟩ ?_
      refine va_iald hx hb hG.1 hP 1 0 rfl rfl (ix_t (i := (((0 + 14) + (2 * house)) + what)) (x := (((0 + 14) + (2 * (house).toInt)) + (what).toInt)) (n := 296) (ti_add (ti_add (ti_add (show (0 : Int32).toInt = 0 from rfl) (show (14 : Int32).toInt = 14 from rfl) (by omega)) (ti_mul (show (2 : Int32).toInt = 2 from rfl) rfl (by omega)) (by omega)) rfl (by omega)) (by omega)) dX6_houseOf_62 ?_
      exact ro_iret hx hb hr hk hR dX6_houseOf_63
    · rw [if_neg c_2] at hR
      by_cases c_3 : what = 1
      · rw [if_pos c_3] at hR
        have tc_3 : what.toInt = 1 := i_eq.mp c_3
        refine lv_tableIn (off := 40) (tgt := 52) hx hb dX6_houseOf_12 (by rw [c_3]; decide) (by rw [c_3]; decide) (by rw [c_3]; rfl) (by decide) ?_
        refine lv_aload_n hx hb dX6_houseOf_52 rfl (lv_at hl 0 rfl) ?_
        refine va_get (D := D) (ci := 4) (v := .ref (h 1)) (C := RX6) (T := TX6) (N := 7) hx hb hts iX6_houseOf_X6 hown hG.1 hP 0 rfl rfl 0 (by decide) (hts (.fieldLink RX6 7 "MillComplaintsModel" "s" "[I") (List.mem_of_getElem? (i := 1) rfl)) (fun _ h9 => h9) rfl dX6_houseOf_53 ?_
        refine lv_iconst (v := 0) hx hb dX6_houseOf_56 (by decide) ?_
        refine lv_iload_n hx hb dX6_houseOf_57 rfl (lv_at hl 1 rfl) ?_
        refine lv_iload_n hx hb dX6_houseOf_58 rfl (lv_at hl 2 rfl) ?_
        refine ro_S (v := .int (((0 + 14) + (2 * house)) + what)) (rest := [.ref (h 1)]) (As := [.int 0, .int house, .int what]) hx hb hml hown hts hl (MX6_ofHouse l D q 0 house what) gX6_houseOf_X6_ofHouse rfl kX6_ofHouse ⟨Nat.le_of_ble_eq_true rfl, Nat.le_of_ble_eq_true rfl⟩ rfl rfl (hP.sub (ws' := []) [] rfl) (dT (hD.sub (ws' := []) [] (by decide) rfl)) hG rfl rfl (Nat.le_of_ble_eq_true rfl) dX6_houseOf_59 ⟨Nat.zero_le _, Nat.zero_le _⟩ ?_
        refine va_iald hx hb hG.1 hP 1 0 rfl rfl (ix_t (i := (((0 + 14) + (2 * house)) + what)) (x := (((0 + 14) + (2 * (house).toInt)) + (what).toInt)) (n := 296) (ti_add (ti_add (ti_add (show (0 : Int32).toInt = 0 from rfl) (show (14 : Int32).toInt = 14 from rfl) (by omega)) (ti_mul (show (2 : Int32).toInt = 2 from rfl) rfl (by omega)) (by omega)) rfl (by omega)) (by omega)) dX6_houseOf_62 ?_
        exact ro_iret hx hb hr hk hR dX6_houseOf_63
      · rw [if_neg c_3] at hR
        by_cases c_4 : what = 2
        · rw [if_pos c_4] at hR
          have tc_4 : what.toInt = 2 := i_eq.mp c_4
          refine lv_tableIn (off := 52) (tgt := 64) hx hb dX6_houseOf_12 (by rw [c_4]; decide) (by rw [c_4]; decide) (by rw [c_4]; rfl) (by decide) ?_
          refine lv_aload_n hx hb dX6_houseOf_64 rfl (lv_at hl 0 rfl) ?_
          refine va_get (D := D) (ci := 4) (v := .ref (h 1)) (C := RX6) (T := TX6) (N := 7) hx hb hts iX6_houseOf_X6 hown hG.1 hP 0 rfl rfl 0 (by decide) (hts (.fieldLink RX6 7 "MillComplaintsModel" "s" "[I") (List.mem_of_getElem? (i := 1) rfl)) (fun _ h9 => h9) rfl dX6_houseOf_65 ?_
          refine lv_iconst (v := 0) hx hb dX6_houseOf_68 (by decide) ?_
          refine lv_iload_n hx hb dX6_houseOf_69 rfl (lv_at hl 1 rfl) ?_
          refine lv_iconst (v := 1) hx hb dX6_houseOf_70 (by decide) ?_
          refine ro_S (v := .int (((0 + 14) + (2 * house)) + 1)) (rest := [.ref (h 1)]) (As := [.int 0, .int house, .int 1]) hx hb hml hown hts hl (MX6_ofHouse l D q 0 house 1) gX6_houseOf_X6_ofHouse rfl kX6_ofHouse ⟨Nat.le_of_ble_eq_true rfl, Nat.le_of_ble_eq_true rfl⟩ rfl rfl (hP.sub (ws' := []) [] rfl) (dT (hD.sub (ws' := []) [] (by decide) rfl)) hG rfl rfl (Nat.le_of_ble_eq_true rfl) dX6_houseOf_71 ⟨Nat.zero_le _, Nat.zero_le _⟩ ?_
          refine va_iald hx hb hG.1 hP 1 0 rfl rfl (ix_t (i := (((0 + 14) + (2 * house)) + 1)) (x := (((0 + 14) + (2 * (house).toInt)) + 1)) (n := 296) (ti_add (ti_add (ti_add (show (0 : Int32).toInt = 0 from rfl) (show (14 : Int32).toInt = 14 from rfl) (by omega)) (ti_mul (show (2 : Int32).toInt = 2 from rfl) rfl (by omega)) (by omega)) (show (1 : Int32).toInt = 1 from rfl) (by omega)) (by omega)) dX6_houseOf_74 ?_
          refine lv_iconst (v := 3) hx hb dX6_houseOf_75 (by decide) ?_
          refine lv_icmp_lt (tgt := 83) hx hb dX6_houseOf_76 (by decide) (fun c_5 => ?_) (fun c_5 => ?_)
          · rw [if_pos c_5] at hR
            have tc_5 : ((x 0) ((((0 + 14) + (2 * house)) + 1)).toNatClampNeg).toInt < 3 := i_lt.mp c_5
            refine lv_iconst (v := 0) hx hb dX6_houseOf_83 (by decide) ?_
            exact ro_iret hx hb hr hk hR dX6_houseOf_84
          · rw [if_neg c_5] at hR
            have tc_5 : ¬ ((x 0) ((((0 + 14) + (2 * house)) + 1)).toNatClampNeg).toInt < 3 := fun z => c_5 (i_lt.mpr z)
            refine lv_iconst (v := 1) hx hb dX6_houseOf_79 (by decide) ?_
            refine lv_goto (tgt := 84) hx hb dX6_houseOf_80 (by decide) ?_
            exact ro_iret hx hb hr hk hR dX6_houseOf_84
        · rw [if_neg c_4] at hR
          by_cases c_6 : what = 3
          · rw [if_pos c_6] at hR
            have tc_6 : what.toInt = 3 := i_eq.mp c_6
            refine lv_tableIn (off := 73) (tgt := 85) hx hb dX6_houseOf_12 (by rw [c_6]; decide) (by rw [c_6]; decide) (by rw [c_6]; rfl) (by decide) ?_
            refine lv_aload_n hx hb dX6_houseOf_85 rfl (lv_at hl 0 rfl) ?_
            refine lv_iload_n hx hb dX6_houseOf_86 rfl (lv_at hl 1 rfl) ?_
            refine ro_V (v := .int (mX6_standing x house)) (rest := []) (As := [.int house]) hx hb hml hown hts hl (MX6_standing l D q h x house (rg_t (i := house) (x := (house).toInt) rfl (by omega))) gX6_houseOf_X6_standing rfl kX6_standing ⟨Nat.le_of_ble_eq_true rfl, Nat.le_of_ble_eq_true rfl⟩ rfl rfl hP (dT hD) hG (ci := 4) rfl rfl rfl rfl (Nat.le_of_ble_eq_true rfl) dX6_houseOf_87 ⟨Nat.zero_le _, Nat.zero_le _⟩ ?_
            exact ro_iret hx hb hr hk hR dX6_houseOf_90
          · rw [if_neg c_6] at hR
            by_cases c_7 : what = 4
            · rw [if_pos c_7] at hR
              have tc_7 : what.toInt = 4 := i_eq.mp c_7
              refine lv_tableIn (off := 79) (tgt := 91) hx hb dX6_houseOf_12 (by rw [c_7]; decide) (by rw [c_7]; decide) (by rw [c_7]; rfl) (by decide) ?_
              refine lv_aload_n hx hb dX6_houseOf_91 rfl (lv_at hl 0 rfl) ?_
              refine lv_iload_n hx hb dX6_houseOf_92 rfl (lv_at hl 1 rfl) ?_
              refine lv_iload_n hx hb dX6_houseOf_93 rfl (lv_at hl 2 rfl) ?_
              refine lv_iconst (v := 4) hx hb dX6_houseOf_94 (by decide) ?_
              refine lv_isub hx hb dX6_houseOf_95 ?_
              refine ro_V (v := .int (mX6_troubled x house (what - 4))) (rest := []) (As := [.int house, .int (what - 4)]) hx hb hml hown hts hl (MX6_troubled l D q h x house (what - 4) (by assumption) (rg_t (i := house) (x := (house).toInt) rfl (by omega))) gX6_houseOf_X6_troubled rfl kX6_troubled ⟨Nat.le_of_ble_eq_true rfl, Nat.le_of_ble_eq_true rfl⟩ rfl rfl hP (dT hD) hG (ci := 4) rfl rfl rfl rfl (Nat.le_of_ble_eq_true rfl) dX6_houseOf_96 ⟨Nat.zero_le _, Nat.zero_le _⟩ ?_
              exact ro_iret hx hb hr hk hR dX6_houseOf_99
            · rw [if_neg c_7] at hR
              by_cases c_8 : what = 5
              · rw [if_pos c_8] at hR
                have tc_8 : what.toInt = 5 := i_eq.mp c_8
                refine lv_tableIn (off := 79) (tgt := 91) hx hb dX6_houseOf_12 (by rw [c_8]; decide) (by rw [c_8]; decide) (by rw [c_8]; rfl) (by decide) ?_
                refine lv_aload_n hx hb dX6_houseOf_91 rfl (lv_at hl 0 rfl) ?_
                refine lv_iload_n hx hb dX6_houseOf_92 rfl (lv_at hl 1 rfl) ?_
                refine lv_iload_n hx hb dX6_houseOf_93 rfl (lv_at hl 2 rfl) ?_
                refine lv_iconst (v := 4) hx hb dX6_houseOf_94 (by decide) ?_
                refine lv_isub hx hb dX6_houseOf_95 ?_
                refine ro_V (v := .int (mX6_troubled x house (what - 4))) (rest := []) (As := [.int house, .int (what - 4)]) hx hb hml hown hts hl (MX6_troubled l D q h x house (what - 4) (by assumption) (rg_t (i := house) (x := (house).toInt) rfl (by omega))) gX6_houseOf_X6_troubled rfl kX6_troubled ⟨Nat.le_of_ble_eq_true rfl, Nat.le_of_ble_eq_true rfl⟩ rfl rfl hP (dT hD) hG (ci := 4) rfl rfl rfl rfl (Nat.le_of_ble_eq_true rfl) dX6_houseOf_96 ⟨Nat.zero_le _, Nat.zero_le _⟩ ?_
                exact ro_iret hx hb hr hk hR dX6_houseOf_99
              · rw [if_neg c_8] at hR
                refine lv_tableOut (tgt := 100) hx hb dX6_houseOf_12 (by have z0 := lv_neT c_2 (a := 0) rfl; have z1 := lv_neT c_3 (a := 1) rfl; have z2 := lv_neT c_4 (a := 2) rfl; have z3 := lv_neT c_6 (a := 3) rfl; have z4 := lv_neT c_7 (a := 4) rfl; have z5 := lv_neT c_8 (a := 5) rfl; omega) (by decide) ?_
                refine lv_bipush (v := (-2)) hx hb dX6_houseOf_100 (by decide) ?_
                exact ro_iret hx hb hr hk hR dX6_houseOf_102
  · rw [if_pos c_1] at hR
    refine lv_iconst (v := (-1)) hx hb dX6_houseOf_9 (by decide) ?_
    exact ro_iret hx hb hr hk hR dX6_houseOf_10

def mX6_noise (x : Nat → Nat → Int32) (mill yard hour : Int32) : Int32 := (if (mX6_isMill x 0 mill) = 0 then (-1) else (if (mX6_isYard yard) = 0 then (-1) else (if (mX6_isHour hour) = 0 then (-1) else (mX6_noiseOf x mill yard hour))))
theorem kX6_noise : yX6_noise.cls = RX6 ∧ yX6_noise.cls ≠ "java/lang/invoke/MethodHandle" ∧ yX6_noise.cls ≠ "java/lang/invoke/VarHandle" ∧ (parseMethodDescriptor yX6_noise.desc).map (fun d => d.parameters.length) = some 3 := by decide +kernel
set_option maxHeartbeats 4000000 in
set_option maxRecDepth 100000 in
theorem MX6_noise (l : Launch) (D : va_G) (q : Nat → ClassId) (h : Nat → Nat) (x : Nat → Nat → Int32) (mill yard hour : Int32) (hC : cntP x 0) : roM l D (tyq q) yX6_noise wsX6_noise ({ frames := 4, cells := 0, slots := 0, locals := 91 } : Room) [.ref (h 0), .int mill, .int yard, .int hour] (wM q h x) (some (.int (mX6_noise x mill yard hour))) := by
  obtain ⟨R, hR⟩ : ∃ z, (mX6_noise x mill yard hour) = z := ⟨_, rfl⟩
  rw [hR]
  unfold mX6_noise at hR
  refine roM.of (cc := cX6_noise) (maxL := 4) (ret := (some .int)) (by decide) rfl (Nat.le_of_ble_eq_true rfl) ?_
  intro p e s m below meth c ls hx hb hr hk hml hown hts hP hD hG hl
  have hl : lv_has ls 4 [(0, .ref (h 0)), (1, .int mill), (2, .int yard), (3, .int hour)] := hl
  have hC1 : 0 ≤ (x 0 0).toInt ∧ (x 0 0).toInt < 5 := hC.1
  have hC2 : 0 ≤ (x 0 13).toInt ∧ (x 0 13).toInt < 11 := hC.2
  refine lv_aload_n hx hb dX6_noise_0 rfl (lv_at hl 0 rfl) ?_
  refine lv_iconst (v := 0) hx hb dX6_noise_1 (by decide) ?_
  refine lv_iload_n hx hb dX6_noise_2 rfl (lv_at hl 1 rfl) ?_
  refine ro_V (v := .int (mX6_isMill x 0 mill)) (rest := []) (As := [.int 0, .int mill]) hx hb hml hown hts hl (MX6_isMill l D q h x 0 mill (rg_t (i := 0) (x := 0) (show (0 : Int32).toInt = 0 from rfl) (by omega))) gX6_noise_X6_isMill rfl kX6_isMill ⟨Nat.le_of_ble_eq_true rfl, Nat.le_of_ble_eq_true rfl⟩ rfl rfl hP (dT hD) hG (ci := 4) rfl rfl rfl rfl (Nat.le_of_ble_eq_true rfl) dX6_noise_3 ⟨Nat.zero_le _, Nat.zero_le _⟩ ?_
  refine lv_if_eq (tgt := 33) hx hb dX6_noise_6 (by decide) (fun c_1 => ?_) (fun c_1 => ?_)
  · rw [if_pos c_1] at hR
    refine lv_iconst (v := (-1)) hx hb dX6_noise_33 (by decide) ?_
    exact ro_iret hx hb hr hk hR dX6_noise_34
  · rw [if_neg c_1] at hR
    have fc_1 := f_isMill hC c_1
    refine lv_iload_n hx hb dX6_noise_9 rfl (lv_at hl 2 rfl) ?_
    refine ro_S (v := .int (mX6_isYard yard)) (rest := []) (As := [.int yard]) hx hb hml hown hts hl (MX6_isYard l D q yard) gX6_noise_X6_isYard rfl kX6_isYard ⟨Nat.le_of_ble_eq_true rfl, Nat.le_of_ble_eq_true rfl⟩ rfl rfl (hP.sub (ws' := []) [] rfl) (dT (hD.sub (ws' := []) [] (by decide) rfl)) hG rfl rfl (Nat.le_of_ble_eq_true rfl) dX6_noise_10 ⟨Nat.zero_le _, Nat.zero_le _⟩ ?_
    refine lv_if_eq (tgt := 33) hx hb dX6_noise_13 (by decide) (fun c_2 => ?_) (fun c_2 => ?_)
    · rw [if_pos c_2] at hR
      refine lv_iconst (v := (-1)) hx hb dX6_noise_33 (by decide) ?_
      exact ro_iret hx hb hr hk hR dX6_noise_34
    · rw [if_neg c_2] at hR
      refine lv_iload_n hx hb dX6_noise_16 rfl (lv_at hl 3 rfl) ?_
      refine ro_S (v := .int (mX6_isHour hour)) (rest := []) (As := [.int hour]) hx hb hml hown hts hl (MX6_isHour l D q hour) gX6_noise_X6_isHour rfl kX6_isHour ⟨Nat.le_of_ble_eq_true rfl, Nat.le_of_ble_eq_true rfl⟩ rfl rfl (hP.sub (ws' := []) [] rfl) (dT (hD.sub (ws' := []) [] (by decide) rfl)) hG rfl rfl (Nat.le_of_ble_eq_true rfl) dX6_noise_17 ⟨Nat.zero_le _, Nat.zero_le _⟩ ?_
      refine lv_if_eq (tgt := 33) hx hb dX6_noise_20 (by decide) (fun c_3 => ?_) (fun c_3 => ?_)
      · rw [if_pos c_3] at hR
        refine lv_iconst (v := (-1)) hx hb dX6_noise_33 (by decide) ?_
        exact ro_iret hx hb hr hk hR dX6_noise_34
      · rw [if_neg c_3] at hR
        have fc_3 := f6_isHour c_3
        refine lv_aload_n hx hb dX6_noise_23 rfl (lv_at hl 0 rfl) ?_
        refine lv_iload_n hx hb dX6_noise_24 rfl (lv_at hl 1 rfl) ?_
        refine lv_iload_n hx hb dX6_noise_25 rfl (lv_at hl 2 rfl) ?_
        refine lv_iload_n hx hb dX6_noise_26 rfl (lv_at hl 3 rfl) ?_
        refine ro_V (v := .int (mX6_noiseOf x mill yard hour)) (rest := []) (As := [.int mill, .int yard, .int hour]) hx hb hml hown hts hl (MX6_noiseOf l D q h x mill yard hour (rg_t (i := mill) (x := (mill).toInt) rfl (by omega)) (rg_t (i := hour) (x := (hour).toInt) rfl (by omega))) gX6_noise_X6_noiseOf rfl kX6_noiseOf ⟨Nat.le_of_ble_eq_true rfl, Nat.le_of_ble_eq_true rfl⟩ rfl rfl hP (dT hD) hG (ci := 4) rfl rfl rfl rfl (Nat.le_of_ble_eq_true rfl) dX6_noise_27 ⟨Nat.zero_le _, Nat.zero_le _⟩ ?_
        refine lv_goto (tgt := 34) hx hb dX6_noise_30 (by decide) ?_
        exact ro_iret hx hb hr hk hR dX6_noise_34

def mX6_shadow (x : Nat → Nat → Int32) (mill yard hour way : Int32) : Int32 := (if (mX6_isMill x 0 mill) = 0 then (-1) else (if (mX6_isYard yard) = 0 then (-1) else (if (mX6_isHour hour) = 0 then (-1) else (if (mX6_in way 0 1) = 0 then (-2) else (if way = 0 then (if (mX6_walks x 0 mill yard hour) = 0 then 0 else 1) else (if (mX6_lies x 0 mill yard hour) = 0 then 0 else 1))))))
theorem kX6_shadow : yX6_shadow.cls = RX6 ∧ yX6_shadow.cls ≠ "java/lang/invoke/MethodHandle" ∧ yX6_shadow.cls ≠ "java/lang/invoke/VarHandle" ∧ (parseMethodDescriptor yX6_shadow.desc).map (fun d => d.parameters.length) = some 4 := by decide +kernel
set_option maxHeartbeats 4000000 in
set_option maxRecDepth 100000 in
theorem MX6_shadow (l : Launch) (D : va_G) (q : Nat → ClassId) (h : Nat → Nat) (x : Nat → Nat → Int32) (mill yard hour way : Int32) (hC : cntP x 0) : roM l D (tyq q) yX6_shadow wsX6_shadow ({ frames := 4, cells := 0, slots := 0, locals := 95 } : Room) [.ref (h 0), .int mill, .int yard, .int hour, .int way] (wM q h x) (some (.int (mX6_shadow x mill yard hour way))) := by
  obtain ⟨R, hR⟩ : ∃ z, (mX6_shadow x mill yard hour way) = z := ⟨_, rfl⟩
  rw [hR]
  unfold mX6_shadow at hR
  refine roM.of (cc := cX6_shadow) (maxL := 6) (ret := (some .int)) (by decide) rfl (Nat.le_of_ble_eq_true rfl) ?_
  intro p e s m below meth c ls hx hb hr hk hml hown hts hP hD hG hl
  have hl : lv_has ls 6 [(0, .ref (h 0)), (1, .int mill), (2, .int yard), (3, .int hour), (4, .int way)] := hl
  have hC1 : 0 ≤ (x 0 0).toInt ∧ (x 0 0).toInt < 5 := hC.1
  have hC2 : 0 ≤ (x 0 13).toInt ∧ (x 0 13).toInt < 11 := hC.2
  refine lv_aload_n hx hb dX6_shadow_0 rfl (lv_at hl 0 rfl) ?_
  refine lv_iconst (v := 0) hx hb dX6_shadow_1 (by decide) ?_
  refine lv_iload_n hx hb dX6_shadow_2 rfl (lv_at hl 1 rfl) ?_
  refine ro_V (v := .int (mX6_isMill x 0 mill)) (rest := []) (As := [.int 0, .int mill]) hx hb hml hown hts hl (MX6_isMill l D q h x 0 mill (rg_t (i := 0) (x := 0) (show (0 : Int32).toInt = 0 from rfl) (by omega))) gX6_shadow_X6_isMill rfl kX6_isMill ⟨Nat.le_of_ble_eq_true rfl, Nat.le_of_ble_eq_true rfl⟩ rfl rfl hP (dT hD) hG (ci := 4) rfl rfl rfl rfl (Nat.le_of_ble_eq_true rfl) dX6_shadow_3 ⟨Nat.zero_le _, Nat.zero_le _⟩ ?_
  refine lv_if_eq (tgt := 23) hx hb dX6_shadow_6 (by decide) (fun c_1 => ?_) (fun c_1 => ?_)
  · rw [if_pos c_1] at hR
    refine lv_iconst (v := (-1)) hx hb dX6_shadow_23 (by decide) ?_
    exact ro_iret hx hb hr hk hR dX6_shadow_24
  · rw [if_neg c_1] at hR
    have fc_1 := f_isMill hC c_1
    refine lv_iload_n hx hb dX6_shadow_9 rfl (lv_at hl 2 rfl) ?_
    refine ro_S (v := .int (mX6_isYard yard)) (rest := []) (As := [.int yard]) hx hb hml hown hts hl (MX6_isYard l D q yard) gX6_shadow_X6_isYard rfl kX6_isYard ⟨Nat.le_of_ble_eq_true rfl, Nat.le_of_ble_eq_true rfl⟩ rfl rfl (hP.sub (ws' := []) [] rfl) (dT (hD.sub (ws' := []) [] (by decide) rfl)) hG rfl rfl (Nat.le_of_ble_eq_true rfl) dX6_shadow_10 ⟨Nat.zero_le _, Nat.zero_le _⟩ ?_
    refine lv_if_eq (tgt := 23) hx hb dX6_shadow_13 (by decide) (fun c_2 => ?_) (fun c_2 => ?_)
    · rw [if_pos c_2] at hR
      refine lv_iconst (v := (-1)) hx hb dX6_shadow_23 (by decide) ?_
      exact ro_iret hx hb hr hk hR dX6_shadow_24
    · rw [if_neg c_2] at hR
      refine lv_iload_n hx hb dX6_shadow_16 rfl (lv_at hl 3 rfl) ?_
      refine ro_S (v := .int (mX6_isHour hour)) (rest := []) (As := [.int hour]) hx hb hml hown hts hl (MX6_isHour l D q hour) gX6_shadow_X6_isHour rfl kX6_isHour ⟨Nat.le_of_ble_eq_true rfl, Nat.le_of_ble_eq_true rfl⟩ rfl rfl (hP.sub (ws' := []) [] rfl) (dT (hD.sub (ws' := []) [] (by decide) rfl)) hG rfl rfl (Nat.le_of_ble_eq_true rfl) dX6_shadow_17 ⟨Nat.zero_le _, Nat.zero_le _⟩ ?_
      refine lv_if_ne (tgt := 25) hx hb dX6_shadow_20 (by decide) (fun c_3 => ?_) (fun c_3 => ?_)
      · rw [if_neg c_3] at hR
        have fc_3 := f6_isHour c_3
        refine lv_iload hx hb dX6_shadow_25 (lv_at hl 4 rfl) ?_
        refine lv_iconst (v := 0) hx hb dX6_shadow_27 (by decide) ?_
        refine lv_iconst (v := 1) hx hb dX6_shadow_28 (by decide) ?_
        refine ro_S (v := .int (mX6_in way 0 1)) (rest := []) (As := [.int way, .int 0, .int 1]) hx hb hml hown hts hl (MX6_in l D q way 0 1) gX6_shadow_X6_in rfl kX6_in ⟨Nat.le_of_ble_eq_true rfl, Nat.le_of_ble_eq_true rfl⟩ rfl rfl (hP.sub (ws' := []) [] rfl) (dT (hD.sub (ws' := []) [] (by decide) rfl)) hG rfl rfl (Nat.le_of_ble_eq_true rfl) dX6_shadow_29 ⟨Nat.zero_le _, Nat.zero_le _⟩ ?_
        refine lv_if_ne (tgt := 38) hx hb dX6_shadow_32 (by decide) (fun c_4 => ?_) (fun c_4 => ?_)
        · rw [if_neg c_4] at hR
          have fc_4 : 0 ≤ way.toInt ∧ way.toInt ≤ 1 := f6_in c_4
          refine lv_iload hx hb dX6_shadow_38 (lv_at hl 4 rfl) ?_
          refine lv_if_ne (tgt := 54) hx hb dX6_shadow_40 (by decide) (fun c_5 => ?_) (fun c_5 => ?_)
          · rw [if_neg c_5] at hR
            have tc_5 : ¬ way.toInt = 0 := fun z => c_5 (i_eq.mpr z)
            refine lv_aload_n hx hb dX6_shadow_54 rfl (lv_at hl 0 rfl) ?_
            refine lv_iconst (v := 0) hx hb dX6_shadow_55 (by decide) ?_
            refine lv_iload_n hx hb dX6_shadow_56 rfl (lv_at hl 1 rfl) ?_
            refine lv_iload_n hx hb dX6_shadow_57 rfl (lv_at hl 2 rfl) ?_
            refine lv_iload_n hx hb dX6_shadow_58 rfl (lv_at hl 3 rfl) ?_
            refine ro_V (v := .int (mX6_lies x 0 mill yard hour)) (rest := []) (As := [.int 0, .int mill, .int yard, .int hour]) hx hb hml hown hts hl (MX6_lies l D q h x 0 mill yard hour (rg_t (i := 0) (x := 0) (show (0 : Int32).toInt = 0 from rfl) (by omega)) (rg_t (i := mill) (x := (mill).toInt) rfl (by omega))) gX6_shadow_X6_lies rfl kX6_lies ⟨Nat.le_of_ble_eq_true rfl, Nat.le_of_ble_eq_true rfl⟩ rfl rfl hP (dT hD) hG (ci := 4) rfl rfl rfl rfl (Nat.le_of_ble_eq_true rfl) dX6_shadow_59 ⟨Nat.zero_le _, Nat.zero_le _⟩ ?_
            refine lv_istore (lv' := [(5, .int (mX6_lies x 0 mill yard hour)), (0, .ref (h 0)), (1, .int mill), (2, .int yard), (3, .int hour), (4, .int way)]) hx hb dX6_shadow_62 hl (by decide) rfl (fun ls hl => ?_)
            refine lv_iload hx hb dX6_shadow_64 (lv_at hl 0 rfl) ?_
            refine lv_if_eq (tgt := 73) hx hb dX6_shadow_66 (by decide) (fun c_6 => ?_) (fun c_6 => ?_)
            · rw [if_pos c_6] at hR
              refine lv_iconst (v := 0) hx hb dX6_shadow_73 (by decide) ?_
              exact ro_iret hx hb hr hk hR dX6_shadow_74
            · rw [if_neg c_6] at hR
              refine lv_iconst (v := 1) hx hb dX6_shadow_69 (by decide) ?_
              refine lv_goto (tgt := 74) hx hb dX6_shadow_70 (by decide) ?_
              exact ro_iret hx hb hr hk hR dX6_shadow_74
          · rw [if_pos c_5] at hR
            have tc_5 : way.toInt = 0 := i_eq.mp c_5
            refine lv_aload_n hx hb dX6_shadow_43 rfl (lv_at hl 0 rfl) ?_
            refine lv_iconst (v := 0) hx hb dX6_shadow_44 (by decide) ?_
            refine lv_iload_n hx hb dX6_shadow_45 rfl (lv_at hl 1 rfl) ?_
            refine lv_iload_n hx hb dX6_shadow_46 rfl (lv_at hl 2 rfl) ?_
            refine lv_iload_n hx hb dX6_shadow_47 rfl (lv_at hl 3 rfl) ?_
            refine ro_V (v := .int (mX6_walks x 0 mill yard hour)) (rest := []) (As := [.int 0, .int mill, .int yard, .int hour]) hx hb hml hown hts hl (MX6_walks l D q h x 0 mill yard hour (rg_t (i := 0) (x := 0) (show (0 : Int32).toInt = 0 from rfl) (by omega)) (rg_t (i := mill) (x := (mill).toInt) rfl (by omega))) gX6_shadow_X6_walks rfl kX6_walks ⟨Nat.le_of_ble_eq_true rfl, Nat.le_of_ble_eq_true rfl⟩ rfl rfl hP (dT hD) hG (ci := 4) rfl rfl rfl rfl (Nat.le_of_ble_eq_true rfl) dX6_shadow_48 ⟨Nat.zero_le _, Nat.zero_le _⟩ ?_
            refine lv_goto (tgt := 62) hx hb dX6_shadow_51 (by decide) ?_
            refine lv_istore (lv' := [(5, .int (mX6_walks x 0 mill yard hour)), (0, .ref (h 0)), (1, .int mill), (2, .int yard), (3, .int hour), (4, .int way)]) hx hb dX6_shadow_62 hl (by decide) rfl (fun ls hl => ?_)
            refine lv_iload hx hb dX6_shadow_64 (lv_at hl 0 rfl) ?_
            refine lv_if_eq (tgt := 73) hx hb dX6_shadow_66 (by decide) (fun c_7 => ?_) (fun c_7 => ?_)
            · rw [if_pos c_7] at hR
              refine lv_iconst (v := 0) hx hb dX6_shadow_73 (by decide) ?_
              exact ro_iret hx hb hr hk hR dX6_shadow_74
            · rw [if_neg c_7] at hR
              refine lv_iconst (v := 1) hx hb dX6_shadow_69 (by decide) ?_
              refine lv_goto (tgt := 74) hx hb dX6_shadow_70 (by decide) ?_
              exact ro_iret hx hb hr hk hR dX6_shadow_74
        · rw [if_pos c_4] at hR
          refine lv_bipush (v := (-2)) hx hb dX6_shadow_35 (by decide) ?_
          exact ro_iret hx hb hr hk hR dX6_shadow_37
      · rw [if_pos c_3] at hR
        refine lv_iconst (v := (-1)) hx hb dX6_shadow_23 (by decide) ?_
        exact ro_iret hx hb hr hk hR dX6_shadow_24

def mX6_why (x : Nat → Nat → Int32) (house mill kind hour : Int32) : Int32 := (if 0 ≤ (mX6_wrong x 0 house mill kind hour) then (mX6_reason x 0 house mill kind hour) else (mX6_wrong x 0 house mill kind hour))
theorem kX6_why : yX6_why.cls = RX6 ∧ yX6_why.cls ≠ "java/lang/invoke/MethodHandle" ∧ yX6_why.cls ≠ "java/lang/invoke/VarHandle" ∧ (parseMethodDescriptor yX6_why.desc).map (fun d => d.parameters.length) = some 4 := by decide +kernel
set_option maxHeartbeats 4000000 in
set_option maxRecDepth 100000 in
theorem MX6_why (l : Launch) (D : va_G) (q : Nat → ClassId) (h : Nat → Nat) (x : Nat → Nat → Int32) (house mill kind hour : Int32) (hC : cntP x 0) : roM l D (tyq q) yX6_why wsX6_why ({ frames := 6, cells := 0, slots := 0, locals := 147 } : Room) [.ref (h 0), .int house, .int mill, .int kind, .int hour] (wM q h x) (some (.int (mX6_why x house mill kind hour))) := by
  obtain ⟨R, hR⟩ : ∃ z, (mX6_why x house mill kind hour) = z := ⟨_, rfl⟩
  rw [hR]
  unfold mX6_why at hR
  refine roM.of (cc := cX6_why) (maxL := 6) (ret := (some .int)) (by decide) rfl (Nat.le_of_ble_eq_true rfl) ?_
  intro p e s m below meth c ls hx hb hr hk hml hown hts hP hD hG hl
  have hl : lv_has ls 6 [(0, .ref (h 0)), (1, .int house), (2, .int mill), (3, .int kind), (4, .int hour)] := hl
  have hC1 : 0 ≤ (x 0 0).toInt ∧ (x 0 0).toInt < 5 := hC.1
  have hC2 : 0 ≤ (x 0 13).toInt ∧ (x 0 13).toInt < 11 := hC.2
  refine lv_aload_n hx hb dX6_why_0 rfl (lv_at hl 0 rfl) ?_
  refine lv_iconst (v := 0) hx hb dX6_why_1 (by decide) ?_
  refine lv_iload_n hx hb dX6_why_2 rfl (lv_at hl 1 rfl) ?_
  refine lv_iload_n hx hb dX6_why_3 rfl (lv_at hl 2 rfl) ?_
  refine lv_iload_n hx hb dX6_why_4 rfl (lv_at hl 3 rfl) ?_
  refine lv_iload hx hb dX6_why_5 (lv_at hl 4 rfl) ?_
  refine ro_V (v := .int (mX6_wrong x 0 house mill kind hour)) (rest := []) (As := [.int 0, .int house, .int mill, .int kind, .int hour]) hx hb hml hown hts hl (MX6_wrong l D q h x 0 house mill kind hour (rg_t (i := 0) (x := 0) (show (0 : Int32).toInt = 0 from rfl) (by omega))) gX6_why_X6_wrong rfl kX6_wrong ⟨Nat.le_of_ble_eq_true rfl, Nat.le_of_ble_eq_true rfl⟩ rfl rfl hP (dT hD) hG (ci := 4) rfl rfl rfl rfl (Nat.le_of_ble_eq_true rfl) dX6_why_7 ⟨Nat.zero_le _, Nat.zero_le _⟩ ?_
  refine lv_istore (lv' := [(5, .int (mX6_wrong x 0 house mill kind hour)), (0, .ref (h 0)), (1, .int house), (2, .int mill), (3, .int kind), (4, .int hour)]) hx hb dX6_why_10 hl (by decide) rfl (fun ls hl => ?_)
  refine lv_iload hx hb dX6_why_12 (lv_at hl 0 rfl) ?_
  refine lv_if_ge (tgt := 22) hx hb dX6_why_14 (by decide) (fun c_1 => ?_) (fun c_1 => ?_)
  · rw [if_pos c_1] at hR
    have tc_1 : 0 ≤ (mX6_wrong x 0 house mill kind hour).toInt := i_le.mp c_1
    have fc_1 := f_wrongP hC c_1
    refine lv_aload_n hx hb dX6_why_22 rfl (lv_at hl 1 rfl) ?_
    refine lv_iconst (v := 0) hx hb dX6_why_23 (by decide) ?_
    refine lv_iload_n hx hb dX6_why_24 rfl (lv_at hl 2 rfl) ?_
    refine lv_iload_n hx hb dX6_why_25 rfl (lv_at hl 3 rfl) ?_
    refine lv_iload_n hx hb dX6_why_26 rfl (lv_at hl 4 rfl) ?_
    refine lv_iload hx hb dX6_why_27 (lv_at hl 5 rfl) ?_
    refine ro_V (v := .int (mX6_reason x 0 house mill kind hour)) (rest := []) (As := [.int 0, .int house, .int mill, .int kind, .int hour]) hx hb hml hown hts hl (MX6_reason l D q h x 0 house mill kind hour (rg_t (i := 0) (x := 0) (show (0 : Int32).toInt = 0 from rfl) (by omega)) (rg_t (i := house) (x := (house).toInt) rfl (by omega)) (rg_t (i := mill) (x := (mill).toInt) rfl (by omega)) (rg_t (i := kind) (x := (kind).toInt) rfl (by omega)) (rg_t (i := hour) (x := (hour).toInt) rfl (by omega))) gX6_why_X6_reason rfl kX6_reason ⟨Nat.le_of_ble_eq_true rfl, Nat.le_of_ble_eq_true rfl⟩ rfl rfl hP (dT hD) hG (ci := 4) rfl rfl rfl rfl (Nat.le_of_ble_eq_true rfl) dX6_why_29 ⟨Nat.zero_le _, Nat.zero_le _⟩ ?_
    exact ro_iret hx hb hr hk hR dX6_why_32
  · rw [if_neg c_1] at hR
    have tc_1 : ¬ 0 ≤ (mX6_wrong x 0 house mill kind hour).toInt := fun z => c_1 (i_le.mpr z)
    refine lv_iload hx hb dX6_why_17 (lv_at hl 0 rfl) ?_
    refine lv_goto (tgt := 32) hx hb dX6_why_19 (by decide) ?_
    exact ro_iret hx hb hr hk hR dX6_why_32

def mX6_count (x : Nat → Nat → Int32) (what : Int32) : Int32 := (if what = 0 then ((x 0) 0) else (if what = 1 then ((x 0) 13) else (if what = 2 then ((x 0) (((62 + what) - 2)).toNatClampNeg) else (if what = 3 then ((x 0) (((62 + what) - 2)).toNatClampNeg) else (if what = 4 then ((x 0) (((62 + what) - 2)).toNatClampNeg) else (if what = 5 then ((x 0) (((62 + what) - 2)).toNatClampNeg) else (if what = 6 then ((x 0) (((62 + what) - 2)).toNatClampNeg) else (if what = 7 then ((x 0) (((62 + what) - 2)).toNatClampNeg) else (if what = 8 then (mX6_ofMills x what) else (if what = 9 then (mX6_ofMills x what) else (if what = 10 then (x 4 0) else (if what = 11 then (x 4 2) else (if (mX6_in what 12 15) = 0 then (-2) else ((x 0) (((58 + what) - 12)).toNatClampNeg))))))))))))))
theorem kX6_count : yX6_count.cls = RX6 ∧ yX6_count.cls ≠ "java/lang/invoke/MethodHandle" ∧ yX6_count.cls ≠ "java/lang/invoke/VarHandle" ∧ (parseMethodDescriptor yX6_count.desc).map (fun d => d.parameters.length) = some 1 := by decide +kernel
theorem iX6_count_X6 : ∀ w ∈ wsX60, w ∈ wsX6_count := fun w h => (List.mem_cons_of_mem _ (List.mem_append_right _ h))
set_option maxHeartbeats 4000000 in
set_option maxRecDepth 100000 in
theorem MX6_count (l : Launch) (D : va_G) (q : Nat → ClassId) (h : Nat → Nat) (x : Nat → Nat → Int32) (what : Int32) (hC : cntP x 0) : roM l D (tyq q) yX6_count wsX6_count ({ frames := 5, cells := 0, slots := 0, locals := 114 } : Room) [.ref (h 0), .int what] (wM q h x) (some (.int (mX6_count x what))) := by
  obtain ⟨R, hR⟩ : ∃ z, (mX6_count x what) = z := ⟨_, rfl⟩
  rw [hR]
  unfold mX6_count at hR
  refine roM.of (cc := cX6_count) (maxL := 2) (ret := (some .int)) (by decide) rfl (Nat.le_of_ble_eq_true rfl) ?_
  intro p e s m below meth c ls hx hb hr hk hml hown hts hP hD hG hl
  have hl : lv_has ls 2 [(0, .ref (h 0)), (1, .int what)] := hl
  have hC1 : 0 ≤ (x 0 0).toInt ∧ (x 0 0).toInt < 5 := hC.1
  have hC2 : 0 ≤ (x 0 13).toInt ∧ (x 0 13).toInt < 11 := hC.2
  refine lv_iload_n hx hb dX6_count_0 rfl (lv_at hl 1 rfl) ?_
  by_cases c_1 : what = 0
  · rw [if_pos c_1] at hR
    have tc_1 : what.toInt = 0 := i_eq.mp c_1
    refine lv_tableIn (off := 63) (tgt := 64) hx hb dX6_count_1 (by rw [c_1]; decide) (by rw [c_1]; decide) (by rw [c_1]; rfl) (by decide) ?_
    refine lv_aload_n hx hb dX6_count_64 rfl (lv_at hl 0 rfl) ?_
    refine va_get (D := D) (ci := 4) (v := .ref (h 1)) (C := RX6) (T := TX6) (N := 7) hx hb hts iX6_count_X6 hown hG.1 hP 0 rfl rfl 0 (by decide) (hts (.fieldLink RX6 7 "MillComplaintsModel" "s" "[I") (List.mem_of_getElem? (i := 1) rfl)) (fun _ h9 => h9) rfl dX6_count_65 ?_
    refine lv_iconst (v := 0) hx hb dX6_count_68 (by decide) ?_
    refine va_iald hx hb hG.1 hP 1 0 rfl rfl (ix_t (i := 0) (x := 0) (n := 296) (show (0 : Int32).toInt = 0 from rfl) (by omega)) dX6_count_69 ?_
    refine lv_tope (y := ((x 0) 0)) (congrArg _ (by decide)) ?_
    exact ro_iret hx hb hr hk hR dX6_count_70
  · rw [if_neg c_1] at hR
    by_cases c_2 : what = 1
    · rw [if_pos c_2] at hR
      have tc_2 : what.toInt = 1 := i_eq.mp c_2
      refine lv_tableIn (off := 70) (tgt := 71) hx hb dX6_count_1 (by rw [c_2]; decide) (by rw [c_2]; decide) (by rw [c_2]; rfl) (by decide) ?_
      refine lv_aload_n hx hb dX6_count_71 rfl (lv_at hl 0 rfl) ?_
      refine va_get (D := D) (ci := 4) (v := .ref (h 1)) (C := RX6) (T := TX6) (N := 7) hx hb hts iX6_count_X6 hown hG.1 hP 0 rfl rfl 0 (by decide) (hts (.fieldLink RX6 7 "MillComplaintsModel" "s" "[I") (List.mem_of_getElem? (i := 1) rfl)) (fun _ h9 => h9) rfl dX6_count_72 ?_
      refine lv_bipush (v := 13) hx hb dX6_count_75 (by decide) ?_
      refine va_iald hx hb hG.1 hP 1 0 rfl rfl (ix_t (i := 13) (x := 13) (n := 296) (show (13 : Int32).toInt = 13 from rfl) (by omega)) dX6_count_77 ?_
      refine lv_tope (y := ((x 0) 13)) (congrArg _ (by decide)) ?_
      exact ro_iret hx hb hr hk hR dX6_count_78
    · rw [if_neg c_2] at hR
      by_cases c_3 : what = 2
      · rw [if_pos c_3] at hR
        have tc_3 : what.toInt = 2 := i_eq.mp c_3
        refine lv_tableIn (off := 78) (tgt := 79) hx hb dX6_count_1 (by rw [c_3]; decide) (by rw [c_3]; decide) (by rw [c_3]; rfl) (by decide) ?_
        refine lv_aload_n hx hb dX6_count_79 rfl (lv_at hl 0 rfl) ?_
        refine va_get (D := D) (ci := 4) (v := .ref (h 1)) (C := RX6) (T := TX6) (N := 7) hx hb hts iX6_count_X6 hown hG.1 hP 0 rfl rfl 0 (by decide) (hts (.fieldLink RX6 7 "MillComplaintsModel" "s" "[I") (List.mem_of_getElem? (i := 1) rfl)) (fun _ h9 => h9) rfl dX6_count_80 ?_
        refine lv_bipush (v := 62) hx hb dX6_count_83 (by decide) ?_
        refine lv_iload_n hx hb dX6_count_85 rfl (lv_at hl 1 rfl) ?_
        refine lv_iadd hx hb dX6_count_86 ?_
        refine lv_iconst (v := 2) hx hb dX6_count_87 (by decide) ?_
        refine lv_isub hx hb dX6_count_88 ?_
        refine va_iald hx hb hG.1 hP 1 0 rfl rfl (ix_t (i := ((62 + what) - 2)) (x := ((62 + (what).toInt) - 2)) (n := 296) (ti_sub (ti_add (show (62 : Int32).toInt = 62 from rfl) rfl (by omega)) (show (2 : Int32).toInt = 2 from rfl) (by omega)) (by omega)) dX6_count_89 ?_
        exact ro_iret hx hb hr hk hR dX6_count_90
      · rw [if_neg c_3] at hR
        by_cases c_4 : what = 3
        · rw [if_pos c_4] at hR
          have tc_4 : what.toInt = 3 := i_eq.mp c_4
          refine lv_tableIn (off := 78) (tgt := 79) hx hb dX6_count_1 (by rw [c_4]; decide) (by rw [c_4]; decide) (by rw [c_4]; rfl) (by decide) ?_
          refine lv_aload_n hx hb dX6_count_79 rfl (lv_at hl 0 rfl) ?_
          refine va_get (D := D) (ci := 4) (v := .ref (h 1)) (C := RX6) (T := TX6) (N := 7) hx hb hts iX6_count_X6 hown hG.1 hP 0 rfl rfl 0 (by decide) (hts (.fieldLink RX6 7 "MillComplaintsModel" "s" "[I") (List.mem_of_getElem? (i := 1) rfl)) (fun _ h9 => h9) rfl dX6_count_80 ?_
          refine lv_bipush (v := 62) hx hb dX6_count_83 (by decide) ?_
          refine lv_iload_n hx hb dX6_count_85 rfl (lv_at hl 1 rfl) ?_
          refine lv_iadd hx hb dX6_count_86 ?_
          refine lv_iconst (v := 2) hx hb dX6_count_87 (by decide) ?_
          refine lv_isub hx hb dX6_count_88 ?_
          refine va_iald hx hb hG.1 hP 1 0 rfl rfl (ix_t (i := ((62 + what) - 2)) (x := ((62 + (what).toInt) - 2)) (n := 296) (ti_sub (ti_add (show (62 : Int32).toInt = 62 from rfl) rfl (by omega)) (show (2 : Int32).toInt = 2 from rfl) (by omega)) (by omega)) dX6_count_89 ?_
          exact ro_iret hx hb hr hk hR dX6_count_90
        · rw [if_neg c_4] at hR
          by_cases c_5 : what = 4
          · rw [if_pos c_5] at hR
            have tc_5 : what.toInt = 4 := i_eq.mp c_5
            refine lv_tableIn (off := 78) (tgt := 79) hx hb dX6_count_1 (by rw [c_5]; decide) (by rw [c_5]; decide) (by rw [c_5]; rfl) (by decide) ?_
            refine lv_aload_n hx hb dX6_count_79 rfl (lv_at hl 0 rfl) ?_
            refine va_get (D := D) (ci := 4) (v := .ref (h 1)) (C := RX6) (T := TX6) (N := 7) hx hb hts iX6_count_X6 hown hG.1 hP 0 rfl rfl 0 (by decide) (hts (.fieldLink RX6 7 "MillComplaintsModel" "s" "[I") (List.mem_of_getElem? (i := 1) rfl)) (fun _ h9 => h9) rfl dX6_count_80 ?_
            refine lv_bipush (v := 62) hx hb dX6_count_83 (by decide) ?_
            refine lv_iload_n hx hb dX6_count_85 rfl (lv_at hl 1 rfl) ?_
            refine lv_iadd hx hb dX6_count_86 ?_
            refine lv_iconst (v := 2) hx hb dX6_count_87 (by decide) ?_
            refine lv_isub hx hb dX6_count_88 ?_
            refine va_iald hx hb hG.1 hP 1 0 rfl rfl (ix_t (i := ((62 + what) - 2)) (x := ((62 + (what).toInt) - 2)) (n := 296) (ti_sub (ti_add (show (62 : Int32).toInt = 62 from rfl) rfl (by omega)) (show (2 : Int32).toInt = 2 from rfl) (by omega)) (by omega)) dX6_count_89 ?_
            exact ro_iret hx hb hr hk hR dX6_count_90
          · rw [if_neg c_5] at hR
            by_cases c_6 : what = 5
            · rw [if_pos c_6] at hR
              have tc_6 : what.toInt = 5 := i_eq.mp c_6
              refine lv_tableIn (off := 78) (tgt := 79) hx hb dX6_count_1 (by rw [c_6]; decide) (by rw [c_6]; decide) (by rw [c_6]; rfl) (by decide) ?_
              refine lv_aload_n hx hb dX6_count_79 rfl (lv_at hl 0 rfl) ?_
              refine va_get (D := D) (ci := 4) (v := .ref (h 1)) (C := RX6) (T := TX6) (N := 7) hx hb hts iX6_count_X6 hown hG.1 hP 0 rfl rfl 0 (by decide) (hts (.fieldLink RX6 7 "MillComplaintsModel" "s" "[I") (List.mem_of_getElem? (i := 1) rfl)) (fun _ h9 => h9) rfl dX6_count_80 ?_
              refine lv_bipush (v := 62) hx hb dX6_count_83 (by decide) ?_
              refine lv_iload_n hx hb dX6_count_85 rfl (lv_at hl 1 rfl) ?_
              refine lv_iadd hx hb dX6_count_86 ?_
              refine lv_iconst (v := 2) hx hb dX6_count_87 (by decide) ?_
              refine lv_isub hx hb dX6_count_88 ?_
              refine va_iald hx hb hG.1 hP 1 0 rfl rfl (ix_t (i := ((62 + what) - 2)) (x := ((62 + (what).toInt) - 2)) (n := 296) (ti_sub (ti_add (show (62 : Int32).toInt = 62 from rfl) rfl (by omega)) (show (2 : Int32).toInt = 2 from rfl) (by omega)) (by omega)) dX6_count_89 ?_
              exact ro_iret hx hb hr hk hR dX6_count_90
            · rw [if_neg c_6] at hR
              by_cases c_7 : what = 6
              · rw [if_pos c_7] at hR
                have tc_7 : what.toInt = 6 := i_eq.mp c_7
                refine lv_tableIn (off := 78) (tgt := 79) hx hb dX6_count_1 (by rw [c_7]; decide) (by rw [c_7]; decide) (by rw [c_7]; rfl) (by decide) ?_
                refine lv_aload_n hx hb dX6_count_79 rfl (lv_at hl 0 rfl) ?_
                refine va_get (D := D) (ci := 4) (v := .ref (h 1)) (C := RX6) (T := TX6) (N := 7) hx hb hts iX6_count_X6 hown hG.1 hP 0 rfl rfl 0 (by decide) (hts (.fieldLink RX6 7 "MillComplaintsModel" "s" "[I") (List.mem_of_getElem? (i := 1) rfl)) (fun _ h9 => h9) rfl dX6_count_80 ?_
                refine lv_bipush (v := 62) hx hb dX6_count_83 (by decide) ?_
                refine lv_iload_n hx hb dX6_count_85 rfl (lv_at hl 1 rfl) ?_
                refine lv_iadd hx hb dX6_count_86 ?_
                refine lv_iconst (v := 2) hx hb dX6_count_87 (by decide) ?_
                refine lv_isub hx hb dX6_count_88 ?_
                refine va_iald hx hb hG.1 hP 1 0 rfl rfl (ix_t (i := ((62 + what) - 2)) (x := ((62 + (what).toInt) - 2)) (n := 296) (ti_sub (ti_add (show (62 : Int32).toInt = 62 from rfl) rfl (by omega)) (show (2 : Int32).toInt = 2 from rfl) (by omega)) (by omega)) dX6_count_89 ?_
                exact ro_iret hx hb hr hk hR dX6_count_90
              · rw [if_neg c_7] at hR
                by_cases c_8 : what = 7
                · rw [if_pos c_8] at hR
                  have tc_8 : what.toInt = 7 := i_eq.mp c_8
                  refine lv_tableIn (off := 78) (tgt := 79) hx hb dX6_count_1 (by rw [c_8]; decide) (by rw [c_8]; decide) (by rw [c_8]; rfl) (by decide) ?_
                  refine lv_aload_n hx hb dX6_count_79 rfl (lv_at hl 0 rfl) ?_
                  refine va_get (D := D) (ci := 4) (v := .ref (h 1)) (C := RX6) (T := TX6) (N := 7) hx hb hts iX6_count_X6 hown hG.1 hP 0 rfl rfl 0 (by decide) (hts (.fieldLink RX6 7 "MillComplaintsModel" "s" "[I") (List.mem_of_getElem? (i := 1) rfl)) (fun _ h9 => h9) rfl dX6_count_80 ?_
                  refine lv_bipush (v := 62) hx hb dX6_count_83 (by decide) ?_
                  refine lv_iload_n hx hb dX6_count_85 rfl (lv_at hl 1 rfl) ?_
                  refine lv_iadd hx hb dX6_count_86 ?_
                  refine lv_iconst (v := 2) hx hb dX6_count_87 (by decide) ?_
                  refine lv_isub hx hb dX6_count_88 ?_
                  refine va_iald hx hb hG.1 hP 1 0 rfl rfl (ix_t (i := ((62 + what) - 2)) (x := ((62 + (what).toInt) - 2)) (n := 296) (ti_sub (ti_add (show (62 : Int32).toInt = 62 from rfl) rfl (by omega)) (show (2 : Int32).toInt = 2 from rfl) (by omega)) (by omega)) dX6_count_89 ?_
                  exact ro_iret hx hb hr hk hR dX6_count_90
                · rw [if_neg c_8] at hR
                  by_cases c_9 : what = 8
                  · rw [if_pos c_9] at hR
                    have tc_9 : what.toInt = 8 := i_eq.mp c_9
                    refine lv_tableIn (off := 90) (tgt := 91) hx hb dX6_count_1 (by rw [c_9]; decide) (by rw [c_9]; decide) (by rw [c_9]; rfl) (by decide) ?_
                    refine lv_aload_n hx hb dX6_count_91 rfl (lv_at hl 0 rfl) ?_
                    refine lv_iload_n hx hb dX6_count_92 rfl (lv_at hl 1 rfl) ?_
                    refine ro_V (v := .int (mX6_ofMills x what)) (rest := []) (As := [.int what]) hx hb hml hown hts hl (MX6_ofMills l D q h x what (by assumption)) gX6_count_X6_ofMills rfl kX6_ofMills ⟨Nat.le_of_ble_eq_true rfl, Nat.le_of_ble_eq_true rfl⟩ rfl rfl hP (dT hD) hG (ci := 4) rfl rfl rfl rfl (Nat.le_of_ble_eq_true rfl) dX6_count_93 ⟨Nat.zero_le _, Nat.zero_le _⟩ ?_
                    exact ro_iret hx hb hr hk hR dX6_count_96
                  · rw [if_neg c_9] at hR
                    by_cases c_10 : what = 9
                    · rw [if_pos c_10] at hR
                      have tc_10 : what.toInt = 9 := i_eq.mp c_10
                      refine lv_tableIn (off := 90) (tgt := 91) hx hb dX6_count_1 (by rw [c_10]; decide) (by rw [c_10]; decide) (by rw [c_10]; rfl) (by decide) ?_
                      refine lv_aload_n hx hb dX6_count_91 rfl (lv_at hl 0 rfl) ?_
                      refine lv_iload_n hx hb dX6_count_92 rfl (lv_at hl 1 rfl) ?_
                      refine ro_V (v := .int (mX6_ofMills x what)) (rest := []) (As := [.int what]) hx hb hml hown hts hl (MX6_ofMills l D q h x what (by assumption)) gX6_count_X6_ofMills rfl kX6_ofMills ⟨Nat.le_of_ble_eq_true rfl, Nat.le_of_ble_eq_true rfl⟩ rfl rfl hP (dT hD) hG (ci := 4) rfl rfl rfl rfl (Nat.le_of_ble_eq_true rfl) dX6_count_93 ⟨Nat.zero_le _, Nat.zero_le _⟩ ?_
                      exact ro_iret hx hb hr hk hR dX6_count_96
                    · rw [if_neg c_10] at hR
                      by_cases c_11 : what = 10
                      · rw [if_pos c_11] at hR
                        have tc_11 : what.toInt = 10 := i_eq.mp c_11
                        refine lv_tableIn (off := 96) (tgt := 97) hx hb dX6_count_1 (by rw [c_11]; decide) (by rw [c_11]; decide) (by rw [c_11]; rfl) (by decide) ?_
                        refine lv_aload_n hx hb dX6_count_97 rfl (lv_at hl 0 rfl) ?_
                        refine va_get (D := D) (ci := 4) (v := .int (x 4 0)) (C := RX6) (T := TX6) (N := 7) hx hb hts iX6_count_X6 hown hG.1 hP 0 rfl rfl 2 (by decide) (hts (.fieldLink RX6 26 "MillComplaintsModel" "known" "I") (List.mem_of_getElem? (i := 2) rfl)) (fun _ h9 => h9) rfl dX6_count_98 ?_
                        exact ro_iret hx hb hr hk hR dX6_count_101
                      · rw [if_neg c_11] at hR
                        by_cases c_12 : what = 11
                        · rw [if_pos c_12] at hR
                          have tc_12 : what.toInt = 11 := i_eq.mp c_12
                          refine lv_tableIn (off := 101) (tgt := 102) hx hb dX6_count_1 (by rw [c_12]; decide) (by rw [c_12]; decide) (by rw [c_12]; rfl) (by decide) ?_
                          refine lv_aload_n hx hb dX6_count_102 rfl (lv_at hl 0 rfl) ?_
                          refine va_get (D := D) (ci := 4) (v := .int (x 4 2)) (C := RX6) (T := TX6) (N := 7) hx hb hts iX6_count_X6 hown hG.1 hP 0 rfl rfl 6 (by decide) (hts (.fieldLink RX6 154 "MillComplaintsModel" "length" "I") (List.mem_of_getElem? (i := 3) rfl)) (fun _ h9 => h9) rfl dX6_count_103 ?_
                          exact ro_iret hx hb hr hk hR dX6_count_106
                        · rw [if_neg c_12] at hR
                          refine lv_tableOut (tgt := 107) hx hb dX6_count_1 (by have z0 := lv_neT c_1 (a := 0) rfl; have z1 := lv_neT c_2 (a := 1) rfl; have z2 := lv_neT c_3 (a := 2) rfl; have z3 := lv_neT c_4 (a := 3) rfl; have z4 := lv_neT c_5 (a := 4) rfl; have z5 := lv_neT c_6 (a := 5) rfl; have z6 := lv_neT c_7 (a := 6) rfl; have z7 := lv_neT c_8 (a := 7) rfl; have z8 := lv_neT c_9 (a := 8) rfl; have z9 := lv_neT c_10 (a := 9) rfl; have z10 := lv_neT c_11 (a := 10) rfl; have z11 := lv_neT c_12 (a := 11) rfl; omega) (by decide) ?_
                          refine lv_iload_n hx hb dX6_count_107 rfl (lv_at hl 1 rfl) ?_
                          refine lv_bipush (v := 12) hx hb dX6_count_108 (by decide) ?_
                          refine lv_bipush (v := 15) hx hb dX6_count_110 (by decide) ?_
                          refine ro_S (v := .int (mX6_in what 12 15)) (rest := []) (As := [.int what, .int 12, .int 15]) hx hb hml hown hts hl (MX6_in l D q what 12 15) gX6_count_X6_in rfl kX6_in ⟨Nat.le_of_ble_eq_true rfl, Nat.le_of_ble_eq_true rfl⟩ rfl rfl (hP.sub (ws' := []) [] rfl) (dT (hD.sub (ws' := []) [] (by decide) rfl)) hG rfl rfl (Nat.le_of_ble_eq_true rfl) dX6_count_112 ⟨Nat.zero_le _, Nat.zero_le _⟩ ?_
                          refine lv_if_eq (tgt := 133) hx hb dX6_count_115 (by decide) (fun c_13 => ?_) (fun c_13 => ?_)
                          · rw [if_pos c_13] at hR
                            refine lv_bipush (v := (-2)) hx hb dX6_count_133 (by decide) ?_
                            exact ro_iret hx hb hr hk hR dX6_count_135
                          · rw [if_neg c_13] at hR
                            have fc_13 : 12 ≤ what.toInt ∧ what.toInt ≤ 15 := f6_in c_13
                            refine lv_aload_n hx hb dX6_count_118 rfl (lv_at hl 0 rfl) ?_
                            refine va_get (D := D) (ci := 4) (v := .ref (h 1)) (C := RX6) (T := TX6) (N := 7) hx hb hts iX6_count_X6 hown hG.1 hP 0 rfl rfl 0 (by decide) (hts (.fieldLink RX6 7 "MillComplaintsModel" "s" "[I") (List.mem_of_getElem? (i := 1) rfl)) (fun _ h9 => h9) rfl dX6_count_119 ?_
                            refine lv_bipush (v := 58) hx hb dX6_count_122 (by decide) ?_
                            refine lv_iload_n hx hb dX6_count_124 rfl (lv_at hl 1 rfl) ?_
                            refine lv_iadd hx hb dX6_count_125 ?_
                            refine lv_bipush (v := 12) hx hb dX6_count_126 (by decide) ?_
                            refine lv_isub hx hb dX6_count_128 ?_
                            refine va_iald hx hb hG.1 hP 1 0 rfl rfl (ix_t (i := ((58 + what) - 12)) (x := ((58 + (what).toInt) - 12)) (n := 296) (ti_sub (ti_add (show (58 : Int32).toInt = 58 from rfl) rfl (by omega)) (show (12 : Int32).toInt = 12 from rfl) (by omega)) (by omega)) dX6_count_129 ?_
                            refine lv_goto (tgt := 135) hx hb dX6_count_130 (by decide) ?_
                            exact ro_iret hx hb hr hk hR dX6_count_135

def mX6_quietHours_15 (x : Nat → Nat → Int32) (mill : Int32) (C : Int32 → Int32 → Int32) : Nat → Int32 → Int32 → Int32
  | 0, x3_15, x2_15 => C x3_15 x2_15
  | n_15 + 1, x3_15, x2_15 => (if ((x 0) ((34 + x3_15)).toNatClampNeg) < 2 then (mX6_quietHours_15 x mill C n_15 (x3_15 + 1) (x2_15 ||| 0)) else (if (mX6_troubles x mill x3_15) = 0 then (mX6_quietHours_15 x mill C n_15 (x3_15 + 1) (x2_15 ||| (1 <<< (x3_15 &&& 31)))) else (mX6_quietHours_15 x mill C n_15 (x3_15 + 1) (x2_15 ||| 0))))
def mX6_quietHours (x : Nat → Nat → Int32) (mill : Int32) : Int32 := (if (mX6_isMill x 0 mill) = 0 then (-1) else (mX6_quietHours_15 x mill (fun x3_15 x2_15 => x2_15) (tr 0 24) 0 0))
theorem kX6_quietHours : yX6_quietHours.cls = RX6 ∧ yX6_quietHours.cls ≠ "java/lang/invoke/MethodHandle" ∧ yX6_quietHours.cls ≠ "java/lang/invoke/VarHandle" ∧ (parseMethodDescriptor yX6_quietHours.desc).map (fun d => d.parameters.length) = some 1 := by decide +kernel
theorem iX6_quietHours_X6 : ∀ w ∈ wsX60, w ∈ wsX6_quietHours := fun w h => (List.mem_cons_of_mem _ (List.mem_append_right _ h))
set_option maxHeartbeats 4000000 in
set_option maxRecDepth 100000 in
theorem MX6_quietHours (l : Launch) (D : va_G) (q : Nat → ClassId) (h : Nat → Nat) (x : Nat → Nat → Int32) (mill : Int32) (hC : cntP x 0) : roM l D (tyq q) yX6_quietHours wsX6_quietHours ({ frames := 8, cells := 0, slots := 0, locals := 191 } : Room) [.ref (h 0), .int mill] (wM q h x) (some (.int (mX6_quietHours x mill))) := by
  obtain ⟨R, hR⟩ : ∃ z, (mX6_quietHours x mill) = z := ⟨_, rfl⟩
  rw [hR]
  unfold mX6_quietHours at hR
  refine roM.of (cc := cX6_quietHours) (maxL := 4) (ret := (some .int)) (by decide) rfl (Nat.le_of_ble_eq_true rfl) ?_
  intro p e s m below meth c ls hx hb hr hk hml hown hts hP hD hG hl
  have hl : lv_has ls 4 [(0, .ref (h 0)), (1, .int mill)] := hl
  have hC1 : 0 ≤ (x 0 0).toInt ∧ (x 0 0).toInt < 5 := hC.1
  have hC2 : 0 ≤ (x 0 13).toInt ∧ (x 0 13).toInt < 11 := hC.2
  refine lv_aload_n hx hb dX6_quietHours_0 rfl (lv_at hl 0 rfl) ?_
  refine lv_iconst (v := 0) hx hb dX6_quietHours_1 (by decide) ?_
  refine lv_iload_n hx hb dX6_quietHours_2 rfl (lv_at hl 1 rfl) ?_
  refine ro_V (v := .int (mX6_isMill x 0 mill)) (rest := []) (As := [.int 0, .int mill]) hx hb hml hown hts hl (MX6_isMill l D q h x 0 mill (rg_t (i := 0) (x := 0) (show (0 : Int32).toInt = 0 from rfl) (by omega))) gX6_quietHours_X6_isMill rfl kX6_isMill ⟨Nat.le_of_ble_eq_true rfl, Nat.le_of_ble_eq_true rfl⟩ rfl rfl hP (dT hD) hG (ci := 4) rfl rfl rfl rfl (Nat.le_of_ble_eq_true rfl) dX6_quietHours_3 ⟨Nat.zero_le _, Nat.zero_le _⟩ ?_
  refine lv_if_ne (tgt := 11) hx hb dX6_quietHours_6 (by decide) (fun c_1 => ?_) (fun c_1 => ?_)
  · rw [if_neg c_1] at hR
    have fc_1 := f_isMill hC c_1
    refine lv_iconst (v := 0) hx hb dX6_quietHours_11 (by decide) ?_
    refine lv_istore_n (lv' := [(2, .int 0), (0, .ref (h 0)), (1, .int mill)]) hx hb dX6_quietHours_12 rfl hl (by decide) rfl (fun ls hl => ?_)
    refine lv_iconst (v := 0) hx hb dX6_quietHours_13 (by decide) ?_
    refine lv_istore_n (lv' := [(3, .int 0), (2, .int 0), (0, .ref (h 0)), (1, .int mill)]) hx hb dX6_quietHours_14 rfl hl (by decide) rfl (fun ls hl => ?_)
    have key_15 : ∀ (n_15 : Nat) (x3_15 : Int32) (x2_15 : Int32), tr x3_15 24 = n_15 → 0 ≤ x3_15.toInt → mX6_quietHours_15 x mill (fun x3_15 x2_15 => x2_15) n_15 x3_15 x2_15 = R → ∀ ls : Array Slot, lv_has ls 4 [(3, .int x3_15), (2, .int x2_15), (0, .ref (h 0)), (1, .int mill)] → W p l e ({ frames := 8, cells := 0, slots := 0, locals := 191 } : Room) s m ([.ref (h 0), .int mill] : List Value).toArray below meth c s.heap [] 0 0 (MQ below (roQ (some (.int R))) ([.ref (h 0), .int mill] : List Value).toArray s 0 0 (fun _ => False)) (F0 m 15 ls []) := by
      intro n_15
      induction n_15 with
      | zero =>
        intro x3_15 x2_15 hn_15 hk_15 hR ls hl
        rw [mX6_quietHours_15] at hR
        refine lv_iload_n hx hb dX6_quietHours_15 rfl (lv_at hl 0 rfl) ?_
        refine lv_bipush (v := 24) hx hb dX6_quietHours_16 (by decide) ?_
        refine lv_icmp_ge (tgt := 59) hx hb dX6_quietHours_18 (by decide) (fun c_2 => ?_) (fun c_2 => (tr0 hn_15 c_2).elim)
        refine lv_iload_n hx hb dX6_quietHours_59 rfl (lv_at hl 1 rfl) ?_
        exact ro_iret hx hb hr hk hR dX6_quietHours_60
      | succ n_15 ih_15 =>
        intro x3_15 x2_15 hn_15 hk_15 hR ls hl
        rw [mX6_quietHours_15] at hR
        refine lv_iload_n hx hb dX6_quietHours_15 rfl (lv_at hl 0 rfl) ?_
        refine lv_bipush (v := 24) hx hb dX6_quietHours_16 (by decide) ?_
        refine lv_icmp_ge (tgt := 59) hx hb dX6_quietHours_18 (by decide) (fun c_2 => (trS hn_15 c_2).elim) (fun c_2 => ?_)
        have hlt_c_2 : x3_15.toInt < 24 := k_lt c_2
        refine lv_iload_n hx hb dX6_quietHours_21 rfl (lv_at hl 1 rfl) ?_
        refine lv_aload_n hx hb dX6_quietHours_22 rfl (lv_at hl 2 rfl) ?_
        refine va_get (D := D) (ci := 4) (v := .ref (h 1)) (C := RX6) (T := TX6) (N := 7) hx hb hts iX6_quietHours_X6 hown hG.1 hP 0 rfl rfl 0 (by decide) (hts (.fieldLink RX6 7 "MillComplaintsModel" "s" "[I") (List.mem_of_getElem? (i := 1) rfl)) (fun _ h9 => h9) rfl dX6_quietHours_23 ?_
        refine lv_bipush (v := 34) hx hb dX6_quietHours_26 (by decide) ?_
        refine lv_iload_n hx hb dX6_quietHours_28 rfl (lv_at hl 0 rfl) ?_
        refine lv_iadd hx hb dX6_quietHours_29 ?_
        refine va_iald hx hb hG.1 hP 1 0 rfl rfl (ix_t (i := (34 + x3_15)) (x := (34 + (x3_15).toInt)) (n := 296) (ti_add (show (34 : Int32).toInt = 34 from rfl) rfl (by omega)) (by omega)) dX6_quietHours_30 ?_
        refine lv_iconst (v := 2) hx hb dX6_quietHours_31 (by decide) ?_
        refine lv_icmp_lt (tgt := 50) hx hb dX6_quietHours_32 (by decide) (fun c_3 => ?_) (fun c_3 => ?_)
        · rw [if_pos c_3] at hR
          have tc_3 : ((x 0) ((34 + x3_15)).toNatClampNeg).toInt < 2 := i_lt.mp c_3
          refine lv_iconst (v := 0) hx hb dX6_quietHours_50 (by decide) ?_
          refine lv_ior hx hb dX6_quietHours_51 ?_
          refine lv_istore_n (lv' := [(2, .int (x2_15 ||| 0)), (3, .int x3_15), (0, .ref (h 0)), (1, .int mill)]) hx hb dX6_quietHours_52 rfl hl (by decide) rfl (fun ls hl => ?_)
          refine lv_iinc (v := (x3_15 + 1)) (lv' := [(3, .int (x3_15 + 1)), (2, .int (x2_15 ||| 0)), (0, .ref (h 0)), (1, .int mill)]) hx hb dX6_quietHours_53 hl (k := 1) rfl rfl (by decide) rfl (fun ls hl => ?_)
          refine lv_goto (tgt := 15) hx hb dX6_quietHours_56 (by decide) ?_
          exact ih_15 (x3_15 + 1) (x2_15 ||| 0) (trN hn_15) (k_up hk_15 c_2) hR ls (lv_sub hl [0, 1, 2, 3] rfl)
        · rw [if_neg c_3] at hR
          have tc_3 : ¬ ((x 0) ((34 + x3_15)).toNatClampNeg).toInt < 2 := fun z => c_3 (i_lt.mpr z)
          refine lv_aload_n hx hb dX6_quietHours_35 rfl (lv_at hl 2 rfl) ?_
          refine lv_iload_n hx hb dX6_quietHours_36 rfl (lv_at hl 3 rfl) ?_
          refine lv_iload_n hx hb dX6_quietHours_37 rfl (lv_at hl 0 rfl) ?_
          refine ro_V (v := .int (mX6_troubles x mill x3_15)) (rest := [.int x2_15]) (As := [.int mill, .int x3_15]) hx hb hml hown hts hl (MX6_troubles l D q h x mill x3_15 (by assumption) (rg_t (i := mill) (x := (mill).toInt) rfl (by omega)) (rg_t (i := x3_15) (x := (x3_15).toInt) rfl (by omega))) gX6_quietHours_X6_troubles rfl kX6_troubles ⟨Nat.le_of_ble_eq_true rfl, Nat.le_of_ble_eq_true rfl⟩ rfl rfl hP (dT hD) hG (ci := 4) rfl rfl rfl rfl (Nat.le_of_ble_eq_true rfl) dX6_quietHours_38 ⟨Nat.zero_le _, Nat.zero_le _⟩ ?_
          refine lv_if_ne (tgt := 50) hx hb dX6_quietHours_41 (by decide) (fun c_4 => ?_) (fun c_4 => ?_)
          · rw [if_neg c_4] at hR
            have tc_4 : ¬ (mX6_troubles x mill x3_15).toInt = 0 := fun z => c_4 (i_eq.mpr z)
            refine lv_iconst (v := 0) hx hb dX6_quietHours_50 (by decide) ?_
            refine lv_ior hx hb dX6_quietHours_51 ?_
            refine lv_istore_n (lv' := [(2, .int (x2_15 ||| 0)), (3, .int x3_15), (0, .ref (h 0)), (1, .int mill)]) hx hb dX6_quietHours_52 rfl hl (by decide) rfl (fun ls hl => ?_)
            refine lv_iinc (v := (x3_15 + 1)) (lv' := [(3, .int (x3_15 + 1)), (2, .int (x2_15 ||| 0)), (0, .ref (h 0)), (1, .int mill)]) hx hb dX6_quietHours_53 hl (k := 1) rfl rfl (by decide) rfl (fun ls hl => ?_)
            refine lv_goto (tgt := 15) hx hb dX6_quietHours_56 (by decide) ?_
            exact ih_15 (x3_15 + 1) (x2_15 ||| 0) (trN hn_15) (k_up hk_15 c_2) hR ls (lv_sub hl [0, 1, 2, 3] rfl)
          · rw [if_pos c_4] at hR
            have tc_4 : (mX6_troubles x mill x3_15).toInt = 0 := i_eq.mp c_4
            refine lv_iconst (v := 1) hx hb dX6_quietHours_44 (by decide) ?_
            refine lv_iload_n hx hb dX6_quietHours_45 rfl (lv_at hl 0 rfl) ?_
            refine lv_ishl hx hb dX6_quietHours_46 ?_
            refine lv_goto (tgt := 51) hx hb dX6_quietHours_47 (by decide) ?_
            refine lv_ior hx hb dX6_quietHours_51 ?_
            refine lv_istore_n (lv' := [(2, .int (x2_15 ||| (1 <<< (x3_15 &&& 31)))), (3, .int x3_15), (0, .ref (h 0)), (1, .int mill)]) hx hb dX6_quietHours_52 rfl hl (by decide) rfl (fun ls hl => ?_)
            refine lv_iinc (v := (x3_15 + 1)) (lv' := [(3, .int (x3_15 + 1)), (2, .int (x2_15 ||| (1 <<< (x3_15 &&& 31)))), (0, .ref (h 0)), (1, .int mill)]) hx hb dX6_quietHours_53 hl (k := 1) rfl rfl (by decide) rfl (fun ls hl => ?_)
            refine lv_goto (tgt := 15) hx hb dX6_quietHours_56 (by decide) ?_
            exact ih_15 (x3_15 + 1) (x2_15 ||| (1 <<< (x3_15 &&& 31))) (trN hn_15) (k_up hk_15 c_2) hR ls (lv_sub hl [0, 1, 2, 3] rfl)
    exact key_15 _ 0 0 rfl (by decide) hR ls hl
  · rw [if_pos c_1] at hR
    refine lv_iconst (v := (-1)) hx hb dX6_quietHours_9 (by decide) ?_
    exact ro_iret hx hb hr hk hR dX6_quietHours_10

def mX6_loudest_35 (x : Nat → Nat → Int32) (hour : Int32) (x4_17 : Int32) (C : Int32 → Int32 → Int32) : Nat → Int32 → Int32 → Int32
  | 0, x6_35, x5_35 => C x6_35 x5_35
  | n_35 + 1, x6_35, x5_35 => (mX6_loudest_35 x hour x4_17 C n_35 (x6_35 + 1) (x5_35 + (mX6_noiseOf x x6_35 ((x 0) ((((0 + 14) + (2 * x4_17)) + 0)).toNatClampNeg) hour)))
def mX6_loudest_17 (x : Nat → Nat → Int32) (hour : Int32) (C : Int32 → Int32 → Int32 → Int32) : Nat → Int32 → Int32 → Int32 → Int32
  | 0, x4_17, x3_17, x2_17 => C x4_17 x3_17 x2_17
  | n_17 + 1, x4_17, x3_17, x2_17 => (mX6_loudest_35 x hour x4_17 (fun x6_35 x5_35 => (if x5_35 ≤ x3_17 then (if x5_35 ≤ x3_17 then (mX6_loudest_17 x hour C n_17 (x4_17 + 1) x3_17 x2_17) else (mX6_loudest_17 x hour C n_17 (x4_17 + 1) x5_35 x2_17)) else (if x5_35 ≤ x3_17 then (mX6_loudest_17 x hour C n_17 (x4_17 + 1) x3_17 x4_17) else (mX6_loudest_17 x hour C n_17 (x4_17 + 1) x5_35 x4_17)))) (tr 0 ((x 0) 0)) 0 0)
def mX6_loudest (x : Nat → Nat → Int32) (hour : Int32) : Int32 := (if (mX6_isHour hour) = 0 then (-1) else (mX6_loudest_17 x hour (fun x4_17 x3_17 x2_17 => x2_17) (tr 0 ((x 0) 13)) 0 0 (-5)))
theorem kX6_loudest : yX6_loudest.cls = RX6 ∧ yX6_loudest.cls ≠ "java/lang/invoke/MethodHandle" ∧ yX6_loudest.cls ≠ "java/lang/invoke/VarHandle" ∧ (parseMethodDescriptor yX6_loudest.desc).map (fun d => d.parameters.length) = some 1 := by decide +kernel
theorem iX6_loudest_X6 : ∀ w ∈ wsX60, w ∈ wsX6_loudest := fun w h => (List.mem_cons_of_mem _ (List.mem_append_right _ h))
set_option maxHeartbeats 4000000 in
set_option maxRecDepth 100000 in
theorem MX6_loudest (l : Launch) (D : va_G) (q : Nat → ClassId) (h : Nat → Nat) (x : Nat → Nat → Int32) (hour : Int32) (hC : cntP x 0) : roM l D (tyq q) yX6_loudest wsX6_loudest ({ frames := 4, cells := 0, slots := 0, locals := 91 } : Room) [.ref (h 0), .int hour] (wM q h x) (some (.int (mX6_loudest x hour))) := by
  obtain ⟨R, hR⟩ : ∃ z, (mX6_loudest x hour) = z := ⟨_, rfl⟩
  rw [hR]
  unfold mX6_loudest at hR
  refine roM.of (cc := cX6_loudest) (maxL := 7) (ret := (some .int)) (by decide) rfl (Nat.le_of_ble_eq_true rfl) ?_
  intro p e s m below meth c ls hx hb hr hk hml hown hts hP hD hG hl
  have hl : lv_has ls 7 [(0, .ref (h 0)), (1, .int hour)] := hl
  have hC1 : 0 ≤ (x 0 0).toInt ∧ (x 0 0).toInt < 5 := hC.1
  have hC2 : 0 ≤ (x 0 13).toInt ∧ (x 0 13).toInt < 11 := hC.2
  refine lv_iload_n hx hb dX6_loudest_0 rfl (lv_at hl 1 rfl) ?_
  refine ro_S (v := .int (mX6_isHour hour)) (rest := []) (As := [.int hour]) hx hb hml hown hts hl (MX6_isHour l D q hour) gX6_loudest_X6_isHour rfl kX6_isHour ⟨Nat.le_of_ble_eq_true rfl, Nat.le_of_ble_eq_true rfl⟩ rfl rfl (hP.sub (ws' := []) [] rfl) (dT (hD.sub (ws' := []) [] (by decide) rfl)) hG rfl rfl (Nat.le_of_ble_eq_true rfl) dX6_loudest_1 ⟨Nat.zero_le _, Nat.zero_le _⟩ ?_
  refine lv_if_ne (tgt := 9) hx hb dX6_loudest_4 (by decide) (fun c_1 => ?_) (fun c_1 => ?_)
  · rw [if_neg c_1] at hR
    have fc_1 := f6_isHour c_1
    refine lv_bipush (v := (-5)) hx hb dX6_loudest_9 (by decide) ?_
    refine lv_istore_n (lv' := [(2, .int (-5)), (0, .ref (h 0)), (1, .int hour)]) hx hb dX6_loudest_11 rfl hl (by decide) rfl (fun ls hl => ?_)
    refine lv_iconst (v := 0) hx hb dX6_loudest_12 (by decide) ?_
    refine lv_istore_n (lv' := [(3, .int 0), (2, .int (-5)), (0, .ref (h 0)), (1, .int hour)]) hx hb dX6_loudest_13 rfl hl (by decide) rfl (fun ls hl => ?_)
    refine lv_iconst (v := 0) hx hb dX6_loudest_14 (by decide) ?_
    refine lv_istore (lv' := [(4, .int 0), (3, .int 0), (2, .int (-5)), (0, .ref (h 0)), (1, .int hour)]) hx hb dX6_loudest_15 hl (by decide) rfl (fun ls hl => ?_)
    have key_17 : ∀ (n_17 : Nat) (x4_17 : Int32) (x3_17 : Int32) (x2_17 : Int32), tr x4_17 ((x 0) 13) = n_17 → 0 ≤ x4_17.toInt → mX6_loudest_17 x hour (fun x4_17 x3_17 x2_17 => x2_17) n_17 x4_17 x3_17 x2_17 = R → ∀ ls : Array Slot, lv_has ls 7 [(4, .int x4_17), (3, .int x3_17), (2, .int x2_17), (0, .ref (h 0)), (1, .int hour)] → W p l e ({ frames := 4, cells := 0, slots := 0, locals := 91 } : Room) s m ([.ref (h 0), .int hour] : List Value).toArray below meth c s.heap [] 0 0 (MQ below (roQ (some (.int R))) ([.ref (h 0), .int hour] : List Value).toArray s 0 0 (fun _ => False)) (F0 m 17 ls []) := by
      intro n_17
      induction n_17 with
      | zero =>
        intro x4_17 x3_17 x2_17 hn_17 hk_17 hR ls hl
        rw [mX6_loudest_17] at hR
        refine lv_iload hx hb dX6_loudest_17 (lv_at hl 0 rfl) ?_
        refine lv_aload_n hx hb dX6_loudest_19 rfl (lv_at hl 3 rfl) ?_
        refine va_get (D := D) (ci := 4) (v := .ref (h 1)) (C := RX6) (T := TX6) (N := 7) hx hb hts iX6_loudest_X6 hown hG.1 hP 0 rfl rfl 0 (by decide) (hts (.fieldLink RX6 7 "MillComplaintsModel" "s" "[I") (List.mem_of_getElem? (i := 1) rfl)) (fun _ h9 => h9) rfl dX6_loudest_20 ?_
        refine lv_bipush (v := 13) hx hb dX6_loudest_23 (by decide) ?_
        refine va_iald hx hb hG.1 hP 1 0 rfl rfl (ix_t (i := 13) (x := 13) (n := 296) (show (13 : Int32).toInt = 13 from rfl) (by omega)) dX6_loudest_25 ?_
        refine lv_tope (y := ((x 0) 13)) (congrArg _ (by decide)) ?_
        refine lv_icmp_ge (tgt := 108) hx hb dX6_loudest_26 (by decide) (fun c_2 => ?_) (fun c_2 => (tr0 hn_17 c_2).elim)
        refine lv_iload_n hx hb dX6_loudest_108 rfl (lv_at hl 2 rfl) ?_
        exact ro_iret hx hb hr hk hR dX6_loudest_109
      | succ n_17 ih_17 =>
        intro x4_17 x3_17 x2_17 hn_17 hk_17 hR ls hl
        rw [mX6_loudest_17] at hR
        refine lv_iload hx hb dX6_loudest_17 (lv_at hl 0 rfl) ?_
        refine lv_aload_n hx hb dX6_loudest_19 rfl (lv_at hl 3 rfl) ?_
        refine va_get (D := D) (ci := 4) (v := .ref (h 1)) (C := RX6) (T := TX6) (N := 7) hx hb hts iX6_loudest_X6 hown hG.1 hP 0 rfl rfl 0 (by decide) (hts (.fieldLink RX6 7 "MillComplaintsModel" "s" "[I") (List.mem_of_getElem? (i := 1) rfl)) (fun _ h9 => h9) rfl dX6_loudest_20 ?_
        refine lv_bipush (v := 13) hx hb dX6_loudest_23 (by decide) ?_
        refine va_iald hx hb hG.1 hP 1 0 rfl rfl (ix_t (i := 13) (x := 13) (n := 296) (show (13 : Int32).toInt = 13 from rfl) (by omega)) dX6_loudest_25 ?_
        refine lv_tope (y := ((x 0) 13)) (congrArg _ (by decide)) ?_
        refine lv_icmp_ge (tgt := 108) hx hb dX6_loudest_26 (by decide) (fun c_2 => (trS hn_17 c_2).elim) (fun c_2 => ?_)
        have hlt_c_2 := k_lt c_2
        refine lv_iconst (v := 0) hx hb dX6_loudest_29 (by decide) ?_
        refine lv_istore (lv' := [(5, .int 0), (4, .int x4_17), (3, .int x3_17), (2, .int x2_17), (0, .ref (h 0)), (1, .int hour)]) hx hb dX6_loudest_30 hl (by decide) rfl (fun ls hl => ?_)
        refine lv_iconst (v := 0) hx hb dX6_loudest_32 (by decide) ?_
        refine lv_istore (lv' := [(6, .int 0), (5, .int 0), (4, .int x4_17), (3, .int x3_17), (2, .int x2_17), (0, .ref (h 0)), (1, .int hour)]) hx hb dX6_loudest_33 hl (by decide) rfl (fun ls hl => ?_)
        have key_35 : ∀ (n_35 : Nat) (x6_35 : Int32) (x5_35 : Int32), tr x6_35 ((x 0) 0) = n_35 → 0 ≤ x6_35.toInt → mX6_loudest_35 x hour x4_17 (fun x6_35 x5_35 => (if x5_35 ≤ x3_17 then (if x5_35 ≤ x3_17 then (mX6_loudest_17 x hour (fun x4_17 x3_17 x2_17 => x2_17) n_17 (x4_17 + 1) x3_17 x2_17) else (mX6_loudest_17 x hour (fun x4_17 x3_17 x2_17 => x2_17) n_17 (x4_17 + 1) x5_35 x2_17)) else (if x5_35 ≤ x3_17 then (mX6_loudest_17 x hour (fun x4_17 x3_17 x2_17 => x2_17) n_17 (x4_17 + 1) x3_17 x4_17) else (mX6_loudest_17 x hour (fun x4_17 x3_17 x2_17 => x2_17) n_17 (x4_17 + 1) x5_35 x4_17)))) n_35 x6_35 x5_35 = R → ∀ ls : Array Slot, lv_has ls 7 [(6, .int x6_35), (5, .int x5_35), (4, .int x4_17), (3, .int x3_17), (2, .int x2_17), (0, .ref (h 0)), (1, .int hour)] → W p l e ({ frames := 4, cells := 0, slots := 0, locals := 91 } : Room) s m ([.ref (h 0), .int hour] : List Value).toArray below meth c s.heap [] 0 0 (MQ below (roQ (some (.int R))) ([.ref (h 0), .int hour] : List Value).toArray s 0 0 (fun _ => False)) (F0 m 35 ls []) := by
          intro n_35
          induction n_35 with
          | zero =>
            intro x6_35 x5_35 hn_35 hk_35 hR ls hl
            rw [mX6_loudest_35] at hR
            refine lv_iload hx hb dX6_loudest_35 (lv_at hl 0 rfl) ?_
            refine lv_aload_n hx hb dX6_loudest_37 rfl (lv_at hl 5 rfl) ?_
            refine va_get (D := D) (ci := 4) (v := .ref (h 1)) (C := RX6) (T := TX6) (N := 7) hx hb hts iX6_loudest_X6 hown hG.1 hP 0 rfl rfl 0 (by decide) (hts (.fieldLink RX6 7 "MillComplaintsModel" "s" "[I") (List.mem_of_getElem? (i := 1) rfl)) (fun _ h9 => h9) rfl dX6_loudest_38 ?_
            refine lv_iconst (v := 0) hx hb dX6_loudest_41 (by decide) ?_
            refine va_iald hx hb hG.1 hP 1 0 rfl rfl (ix_t (i := 0) (x := 0) (n := 296) (show (0 : Int32).toInt = 0 from rfl) (by omega)) dX6_loudest_42 ?_
            refine lv_tope (y := ((x 0) 0)) (congrArg _ (by decide)) ?_
            refine lv_icmp_ge (tgt := 76) hx hb dX6_loudest_43 (by decide) (fun c_3 => ?_) (fun c_3 => (tr0 hn_35 c_3).elim)
            refine lv_iload hx hb dX6_loudest_76 (lv_at hl 1 rfl) ?_
            refine lv_iload_n hx hb dX6_loudest_78 rfl (lv_at hl 3 rfl) ?_
            refine lv_icmp_le (tgt := 87) hx hb dX6_loudest_79 (by decide) (fun c_4 => ?_) (fun c_4 => ?_)
            · rw [if_pos c_4] at hR
              have tc_4 : x5_35.toInt ≤ x3_17.toInt := i_le.mp c_4
              refine lv_iload_n hx hb dX6_loudest_87 rfl (lv_at hl 4 rfl) ?_
              refine lv_istore_n (lv' := [(2, .int x2_17), (6, .int x6_35), (5, .int x5_35), (4, .int x4_17), (3, .int x3_17), (0, .ref (h 0)), (1, .int hour)]) hx hb dX6_loudest_88 rfl hl (by decide) rfl (fun ls hl => ?_)
              refine lv_iload hx hb dX6_loudest_89 (lv_at hl 2 rfl) ?_
              refine lv_iload_n hx hb dX6_loudest_91 rfl (lv_at hl 4 rfl) ?_
              refine lv_icmp_le (tgt := 100) hx hb dX6_loudest_92 (by decide) (fun c_5 => ?_) (fun c_5 => ?_)
              · rw [if_pos c_5] at hR
                have tc_5 : x5_35.toInt ≤ x3_17.toInt := i_le.mp c_5
                refine lv_iload_n hx hb dX6_loudest_100 rfl (lv_at hl 4 rfl) ?_
                refine lv_istore_n (lv' := [(3, .int x3_17), (2, .int x2_17), (6, .int x6_35), (5, .int x5_35), (4, .int x4_17), (0, .ref (h 0)), (1, .int hour)]) hx hb dX6_loudest_101 rfl hl (by decide) rfl (fun ls hl => ?_)
                refine lv_iinc (v := (x4_17 + 1)) (lv' := [(4, .int (x4_17 + 1)), (3, .int x3_17), (2, .int x2_17), (6, .int x6_35), (5, .int x5_35), (0, .ref (h 0)), (1, .int hour)]) hx hb dX6_loudest_102 hl (k := 4) rfl rfl (by decide) rfl (fun ls hl => ?_)
                refine lv_goto (tgt := 17) hx hb dX6_loudest_105 (by decide) ?_
                exact ih_17 (x4_17 + 1) x3_17 x2_17 (trN hn_17) (k_up hk_17 c_2) hR ls (lv_sub hl [0, 1, 2, 5, 6] rfl)
              · rw [if_neg c_5] at hR
                have tc_5 : ¬ x5_35.toInt ≤ x3_17.toInt := fun z => c_5 (i_le.mpr z)
                refine lv_iload hx hb dX6_loudest_95 (lv_at hl 2 rfl) ?_
                refine lv_goto (tgt := 101) hx hb dX6_loudest_97 (by decide) ?_
                refine lv_istore_n (lv' := [(3, .int x5_35), (2, .int x2_17), (6, .int x6_35), (5, .int x5_35), (4, .int x4_17), (0, .ref (h 0)), (1, .int hour)]) hx hb dX6_loudest_101 rfl hl (by decide) rfl (fun ls hl => ?_)
                refine lv_iinc (v := (x4_17 + 1)) (lv' := [(4, .int (x4_17 + 1)), (3, .int x5_35), (2, .int x2_17), (6, .int x6_35), (5, .int x5_35), (0, .ref (h 0)), (1, .int hour)]) hx hb dX6_loudest_102 hl (k := 4) rfl rfl (by decide) rfl (fun ls hl => ?_)
                refine lv_goto (tgt := 17) hx hb dX6_loudest_105 (by decide) ?_
                exact ih_17 (x4_17 + 1) x5_35 x2_17 (trN hn_17) (k_up hk_17 c_2) hR ls (lv_sub hl [0, 1, 2, 5, 6] rfl)
            · rw [if_neg c_4] at hR
              have tc_4 : ¬ x5_35.toInt ≤ x3_17.toInt := fun z => c_4 (i_le.mpr z)
              refine lv_iload hx hb dX6_loudest_82 (lv_at hl 2 rfl) ?_
              refine lv_goto (tgt := 88) hx hb dX6_loudest_84 (by decide) ?_
              refine lv_istore_n (lv' := [(2, .int x4_17), (6, .int x6_35), (5, .int x5_35), (4, .int x4_17), (3, .int x3_17), (0, .ref (h 0)), (1, .int hour)]) hx hb dX6_loudest_88 rfl hl (by decide) rfl (fun ls hl => ?_)
              refine lv_iload hx hb dX6_loudest_89 (lv_at hl 2 rfl) ?_
              refine lv_iload_n hx hb dX6_loudest_91 rfl (lv_at hl 4 rfl) ?_
              refine lv_icmp_le (tgt := 100) hx hb dX6_loudest_92 (by decide) (fun c_6 => ?_) (fun c_6 => ?_)
              · rw [if_pos c_6] at hR
                have tc_6 : x5_35.toInt ≤ x3_17.toInt := i_le.mp c_6
                refine lv_iload_n hx hb dX6_loudest_100 rfl (lv_at hl 4 rfl) ?_
                refine lv_istore_n (lv' := [(3, .int x3_17), (2, .int x4_17), (6, .int x6_35), (5, .int x5_35), (4, .int x4_17), (0, .ref (h 0)), (1, .int hour)]) hx hb dX6_loudest_101 rfl hl (by decide) rfl (fun ls hl => ?_)
                refine lv_iinc (v := (x4_17 + 1)) (lv' := [(4, .int (x4_17 + 1)), (3, .int x3_17), (2, .int x4_17), (6, .int x6_35), (5, .int x5_35), (0, .ref (h 0)), (1, .int hour)]) hx hb dX6_loudest_102 hl (k := 4) rfl rfl (by decide) rfl (fun ls hl => ?_)
                refine lv_goto (tgt := 17) hx hb dX6_loudest_105 (by decide) ?_
                exact ih_17 (x4_17 + 1) x3_17 x4_17 (trN hn_17) (k_up hk_17 c_2) hR ls (lv_sub hl [0, 1, 2, 5, 6] rfl)
              · rw [if_neg c_6] at hR
                have tc_6 : ¬ x5_35.toInt ≤ x3_17.toInt := fun z => c_6 (i_le.mpr z)
                refine lv_iload hx hb dX6_loudest_95 (lv_at hl 2 rfl) ?_
                refine lv_goto (tgt := 101) hx hb dX6_loudest_97 (by decide) ?_
                refine lv_istore_n (lv' := [(3, .int x5_35), (2, .int x4_17), (6, .int x6_35), (5, .int x5_35), (4, .int x4_17), (0, .ref (h 0)), (1, .int hour)]) hx hb dX6_loudest_101 rfl hl (by decide) rfl (fun ls hl => ?_)
                refine lv_iinc (v := (x4_17 + 1)) (lv' := [(4, .int (x4_17 + 1)), (3, .int x5_35), (2, .int x4_17), (6, .int x6_35), (5, .int x5_35), (0, .ref (h 0)), (1, .int hour)]) hx hb dX6_loudest_102 hl (k := 4) rfl rfl (by decide) rfl (fun ls hl => ?_)
                refine lv_goto (tgt := 17) hx hb dX6_loudest_105 (by decide) ?_
                exact ih_17 (x4_17 + 1) x5_35 x4_17 (trN hn_17) (k_up hk_17 c_2) hR ls (lv_sub hl [0, 1, 2, 5, 6] rfl)
          | succ n_35 ih_35 =>
            intro x6_35 x5_35 hn_35 hk_35 hR ls hl
            rw [mX6_loudest_35] at hR
            refine lv_iload hx hb dX6_loudest_35 (lv_at hl 0 rfl) ?_
            refine lv_aload_n hx hb dX6_loudest_37 rfl (lv_at hl 5 rfl) ?_
            refine va_get (D := D) (ci := 4) (v := .ref (h 1)) (C := RX6) (T := TX6) (N := 7) hx hb hts iX6_loudest_X6 hown hG.1 hP 0 rfl rfl 0 (by decide) (hts (.fieldLink RX6 7 "MillComplaintsModel" "s" "[I") (List.mem_of_getElem? (i := 1) rfl)) (fun _ h9 => h9) rfl dX6_loudest_38 ?_
            refine lv_iconst (v := 0) hx hb dX6_loudest_41 (by decide) ?_
            refine va_iald hx hb hG.1 hP 1 0 rfl rfl (ix_t (i := 0) (x := 0) (n := 296) (show (0 : Int32).toInt = 0 from rfl) (by omega)) dX6_loudest_42 ?_
            refine lv_tope (y := ((x 0) 0)) (congrArg _ (by decide)) ?_
            refine lv_icmp_ge (tgt := 76) hx hb dX6_loudest_43 (by decide) (fun c_3 => (trS hn_35 c_3).elim) (fun c_3 => ?_)
            have hlt_c_3 := k_lt c_3
            refine lv_iload hx hb dX6_loudest_46 (lv_at hl 1 rfl) ?_
            refine lv_aload_n hx hb dX6_loudest_48 rfl (lv_at hl 5 rfl) ?_
            refine lv_iload hx hb dX6_loudest_49 (lv_at hl 0 rfl) ?_
            refine lv_aload_n hx hb dX6_loudest_51 rfl (lv_at hl 5 rfl) ?_
            refine va_get (D := D) (ci := 4) (v := .ref (h 1)) (C := RX6) (T := TX6) (N := 7) hx hb hts iX6_loudest_X6 hown hG.1 hP 0 rfl rfl 0 (by decide) (hts (.fieldLink RX6 7 "MillComplaintsModel" "s" "[I") (List.mem_of_getElem? (i := 1) rfl)) (fun _ h9 => h9) rfl dX6_loudest_52 ?_
            refine lv_iconst (v := 0) hx hb dX6_loudest_55 (by decide) ?_
            refine lv_iload hx hb dX6_loudest_56 (lv_at hl 2 rfl) ?_
            refine lv_iconst (v := 0) hx hb dX6_loudest_58 (by decide) ?_
            refine ro_S (v := .int (((0 + 14) + (2 * x4_17)) + 0)) (rest := [.ref (h 1), .int x6_35, .ref (h 0), .int x5_35]) (As := [.int 0, .int x4_17, .int 0]) hx hb hml hown hts hl (MX6_ofHouse l D q 0 x4_17 0) gX6_loudest_X6_ofHouse rfl kX6_ofHouse ⟨Nat.le_of_ble_eq_true rfl, Nat.le_of_ble_eq_true rfl⟩ rfl rfl (hP.sub (ws' := []) [] rfl) (dT (hD.sub (ws' := []) [] (by decide) rfl)) hG rfl rfl (Nat.le_of_ble_eq_true rfl) dX6_loudest_59 ⟨Nat.zero_le _, Nat.zero_le _⟩ ?_
            refine va_iald hx hb hG.1 hP 1 0 rfl rfl (ix_t (i := (((0 + 14) + (2 * x4_17)) + 0)) (x := (((0 + 14) + (2 * (x4_17).toInt)) + 0)) (n := 296) (ti_add (ti_add (ti_add (show (0 : Int32).toInt = 0 from rfl) (show (14 : Int32).toInt = 14 from rfl) (by omega)) (ti_mul (show (2 : Int32).toInt = 2 from rfl) rfl (by omega)) (by omega)) (show (0 : Int32).toInt = 0 from rfl) (by omega)) (by omega)) dX6_loudest_62 ?_
            refine lv_iload_n hx hb dX6_loudest_63 rfl (lv_at hl 6 rfl) ?_
            refine ro_V (v := .int (mX6_noiseOf x x6_35 ((x 0) ((((0 + 14) + (2 * x4_17)) + 0)).toNatClampNeg) hour)) (rest := [.int x5_35]) (As := [.int x6_35, .int ((x 0) ((((0 + 14) + (2 * x4_17)) + 0)).toNatClampNeg), .int hour]) hx hb hml hown hts hl (MX6_noiseOf l D q h x x6_35 ((x 0) ((((0 + 14) + (2 * x4_17)) + 0)).toNatClampNeg) hour (rg_t (i := x6_35) (x := (x6_35).toInt) rfl (by omega)) (rg_t (i := hour) (x := (hour).toInt) rfl (by omega))) gX6_loudest_X6_noiseOf rfl kX6_noiseOf ⟨Nat.le_of_ble_eq_true rfl, Nat.le_of_ble_eq_true rfl⟩ rfl rfl hP (dT hD) hG (ci := 4) rfl rfl rfl rfl (Nat.le_of_ble_eq_true rfl) dX6_loudest_64 ⟨Nat.zero_le _, Nat.zero_le _⟩ ?_
            refine lv_iadd hx hb dX6_loudest_67 ?_
            refine lv_istore (lv' := [(5, .int (x5_35 + (mX6_noiseOf x x6_35 ((x 0) ((((0 + 14) + (2 * x4_17)) + 0)).toNatClampNeg) hour))), (6, .int x6_35), (4, .int x4_17), (3, .int x3_17), (2, .int x2_17), (0, .ref (h 0)), (1, .int hour)]) hx hb dX6_loudest_68 hl (by decide) rfl (fun ls hl => ?_)
            refine lv_iinc (v := (x6_35 + 1)) (lv' := [(6, .int (x6_35 + 1)), (5, .int (x5_35 + (mX6_noiseOf x x6_35 ((x 0) ((((0 + 14) + (2 * x4_17)) + 0)).toNatClampNeg) hour))), (4, .int x4_17), (3, .int x3_17), (2, .int x2_17), (0, .ref (h 0)), (1, .int hour)]) hx hb dX6_loudest_70 hl (k := 1) rfl rfl (by decide) rfl (fun ls hl => ?_)
            refine lv_goto (tgt := 35) hx hb dX6_loudest_73 (by decide) ?_
            exact ih_35 (x6_35 + 1) (x5_35 + (mX6_noiseOf x x6_35 ((x 0) ((((0 + 14) + (2 * x4_17)) + 0)).toNatClampNeg) hour)) (trN hn_35) (k_up hk_35 c_3) hR ls (lv_sub hl [0, 1, 2, 3, 4, 5, 6] rfl)
        exact key_35 _ 0 0 rfl (by decide) hR ls hl
    exact key_17 _ 0 0 (-5) rfl (by decide) hR ls hl
  · rw [if_pos c_1] at hR
    refine lv_iconst (v := (-1)) hx hb dX6_loudest_7 (by decide) ?_
    exact ro_iret hx hb hr hk hR dX6_loudest_8

def mX6_bestTied_19 (x : Nat → Nat → Int32) (mill : Int32) (C : Int32 → Int32 → Int32 → Int32) : Nat → Int32 → Int32 → Int32 → Int32
  | 0, x4_19, x3_19, x2_19 => C x4_19 x3_19 x2_19
  | n_19 + 1, x4_19, x3_19, x2_19 => (if (mX6_turns x 0 mill x4_19) = 0 then (if x2_19 = (-5) then (if x3_19 < 0 then (if 0 ≤ x3_19 then (mX6_bestTied_19 x mill C n_19 (x4_19 + 1) x3_19 x4_19) else (mX6_bestTied_19 x mill C n_19 (x4_19 + 1) 0 x4_19)) else (if 0 ≤ x3_19 then (mX6_bestTied_19 x mill C n_19 (x4_19 + 1) x3_19 x2_19) else (mX6_bestTied_19 x mill C n_19 (x4_19 + 1) 0 x2_19))) else (if 0 = x3_19 then (if ((x 0) ((34 + x2_19)).toNatClampNeg) ≤ ((x 0) ((34 + x4_19)).toNatClampNeg) then (if x3_19 < 0 then (if 0 ≤ x3_19 then (mX6_bestTied_19 x mill C n_19 (x4_19 + 1) x3_19 x4_19) else (mX6_bestTied_19 x mill C n_19 (x4_19 + 1) 0 x4_19)) else (if 0 ≤ x3_19 then (mX6_bestTied_19 x mill C n_19 (x4_19 + 1) x3_19 x2_19) else (mX6_bestTied_19 x mill C n_19 (x4_19 + 1) 0 x2_19))) else (if x3_19 < 0 then (if 0 ≤ x3_19 then (mX6_bestTied_19 x mill C n_19 (x4_19 + 1) x3_19 x4_19) else (mX6_bestTied_19 x mill C n_19 (x4_19 + 1) 0 x4_19)) else (if 0 ≤ x3_19 then (mX6_bestTied_19 x mill C n_19 (x4_19 + 1) x3_19 x4_19) else (mX6_bestTied_19 x mill C n_19 (x4_19 + 1) 0 x4_19)))) else (if x3_19 < 0 then (if 0 ≤ x3_19 then (mX6_bestTied_19 x mill C n_19 (x4_19 + 1) x3_19 x4_19) else (mX6_bestTied_19 x mill C n_19 (x4_19 + 1) 0 x4_19)) else (if 0 ≤ x3_19 then (mX6_bestTied_19 x mill C n_19 (x4_19 + 1) x3_19 x2_19) else (mX6_bestTied_19 x mill C n_19 (x4_19 + 1) 0 x2_19))))) else (if x2_19 = (-5) then (if x3_19 < (mX6_troubles x mill x4_19) then (if (mX6_troubles x mill x4_19) ≤ x3_19 then (mX6_bestTied_19 x mill C n_19 (x4_19 + 1) x3_19 x4_19) else (mX6_bestTied_19 x mill C n_19 (x4_19 + 1) (mX6_troubles x mill x4_19) x4_19)) else (if (mX6_troubles x mill x4_19) ≤ x3_19 then (mX6_bestTied_19 x mill C n_19 (x4_19 + 1) x3_19 x2_19) else (mX6_bestTied_19 x mill C n_19 (x4_19 + 1) (mX6_troubles x mill x4_19) x2_19))) else (if (mX6_troubles x mill x4_19) = x3_19 then (if ((x 0) ((34 + x2_19)).toNatClampNeg) ≤ ((x 0) ((34 + x4_19)).toNatClampNeg) then (if x3_19 < (mX6_troubles x mill x4_19) then (if (mX6_troubles x mill x4_19) ≤ x3_19 then (mX6_bestTied_19 x mill C n_19 (x4_19 + 1) x3_19 x4_19) else (mX6_bestTied_19 x mill C n_19 (x4_19 + 1) (mX6_troubles x mill x4_19) x4_19)) else (if (mX6_troubles x mill x4_19) ≤ x3_19 then (mX6_bestTied_19 x mill C n_19 (x4_19 + 1) x3_19 x2_19) else (mX6_bestTied_19 x mill C n_19 (x4_19 + 1) (mX6_troubles x mill x4_19) x2_19))) else (if x3_19 < (mX6_troubles x mill x4_19) then (if (mX6_troubles x mill x4_19) ≤ x3_19 then (mX6_bestTied_19 x mill C n_19 (x4_19 + 1) x3_19 x4_19) else (mX6_bestTied_19 x mill C n_19 (x4_19 + 1) (mX6_troubles x mill x4_19) x4_19)) else (if (mX6_troubles x mill x4_19) ≤ x3_19 then (mX6_bestTied_19 x mill C n_19 (x4_19 + 1) x3_19 x4_19) else (mX6_bestTied_19 x mill C n_19 (x4_19 + 1) (mX6_troubles x mill x4_19) x4_19)))) else (if x3_19 < (mX6_troubles x mill x4_19) then (if (mX6_troubles x mill x4_19) ≤ x3_19 then (mX6_bestTied_19 x mill C n_19 (x4_19 + 1) x3_19 x4_19) else (mX6_bestTied_19 x mill C n_19 (x4_19 + 1) (mX6_troubles x mill x4_19) x4_19)) else (if (mX6_troubles x mill x4_19) ≤ x3_19 then (mX6_bestTied_19 x mill C n_19 (x4_19 + 1) x3_19 x2_19) else (mX6_bestTied_19 x mill C n_19 (x4_19 + 1) (mX6_troubles x mill x4_19) x2_19))))))
def mX6_bestTied (x : Nat → Nat → Int32) (mill : Int32) : Int32 := (if (mX6_isMill x 0 mill) = 0 then (-1) else (mX6_bestTied_19 x mill (fun x4_19 x3_19 x2_19 => x2_19) (tr 0 24) 0 0 (-5)))
theorem kX6_bestTied : yX6_bestTied.cls = RX6 ∧ yX6_bestTied.cls ≠ "java/lang/invoke/MethodHandle" ∧ yX6_bestTied.cls ≠ "java/lang/invoke/VarHandle" ∧ (parseMethodDescriptor yX6_bestTied.desc).map (fun d => d.parameters.length) = some 1 := by decide +kernel
theorem iX6_bestTied_X6 : ∀ w ∈ wsX60, w ∈ wsX6_bestTied := fun w h => (List.mem_cons_of_mem _ (List.mem_append_right _ h))
set_option maxHeartbeats 4000000 in
set_option maxRecDepth 100000 in
theorem MX6_bestTied (l : Launch) (D : va_G) (q : Nat → ClassId) (h : Nat → Nat) (x : Nat → Nat → Int32) (mill : Int32) (hC : cntP x 0) : roM l D (tyq q) yX6_bestTied wsX6_bestTied ({ frames := 8, cells := 0, slots := 0, locals := 191 } : Room) [.ref (h 0), .int mill] (wM q h x) (some (.int (mX6_bestTied x mill))) := by
  obtain ⟨R, hR⟩ : ∃ z, (mX6_bestTied x mill) = z := ⟨_, rfl⟩
  rw [hR]
  unfold mX6_bestTied at hR
  refine roM.of (cc := cX6_bestTied) (maxL := 7) (ret := (some .int)) (by decide) rfl (Nat.le_of_ble_eq_true rfl) ?_
  intro p e s m below meth c ls hx hb hr hk hml hown hts hP hD hG hl
  have hl : lv_has ls 7 [(0, .ref (h 0)), (1, .int mill)] := hl
  have hC1 : 0 ≤ (x 0 0).toInt ∧ (x 0 0).toInt < 5 := hC.1
  have hC2 : 0 ≤ (x 0 13).toInt ∧ (x 0 13).toInt < 11 := hC.2
  refine lv_aload_n hx hb dX6_bestTied_0 rfl (lv_at hl 0 rfl) ?_
  refine lv_iconst (v := 0) hx hb dX6_bestTied_1 (by decide) ?_
  refine lv_iload_n hx hb dX6_bestTied_2 rfl (lv_at hl 1 rfl) ?_
  refine ro_V (v := .int (mX6_isMill x 0 mill)) (rest := []) (As := [.int 0, .int mill]) hx hb hml hown hts hl (MX6_isMill l D q h x 0 mill (rg_t (i := 0) (x := 0) (show (0 : Int32).toInt = 0 from rfl) (by omega))) gX6_bestTied_X6_isMill rfl kX6_isMill ⟨Nat.le_of_ble_eq_true rfl, Nat.le_of_ble_eq_true rfl⟩ rfl rfl hP (dT hD) hG (ci := 4) rfl rfl rfl rfl (Nat.le_of_ble_eq_true rfl) dX6_bestTied_3 ⟨Nat.zero_le _, Nat.zero_le _⟩ ?_
  refine lv_if_ne (tgt := 11) hx hb dX6_bestTied_6 (by decide) (fun c_1 => ?_) (fun c_1 => ?_)
  · rw [if_neg c_1] at hR
    have fc_1 := f_isMill hC c_1
    refine lv_bipush (v := (-5)) hx hb dX6_bestTied_11 (by decide) ?_
    refine lv_istore_n (lv' := [(2, .int (-5)), (0, .ref (h 0)), (1, .int mill)]) hx hb dX6_bestTied_13 rfl hl (by decide) rfl (fun ls hl => ?_)
    refine lv_iconst (v := 0) hx hb dX6_bestTied_14 (by decide) ?_
    refine lv_istore_n (lv' := [(3, .int 0), (2, .int (-5)), (0, .ref (h 0)), (1, .int mill)]) hx hb dX6_bestTied_15 rfl hl (by decide) rfl (fun ls hl => ?_)
    refine lv_iconst (v := 0) hx hb dX6_bestTied_16 (by decide) ?_
    refine lv_istore (lv' := [(4, .int 0), (3, .int 0), (2, .int (-5)), (0, .ref (h 0)), (1, .int mill)]) hx hb dX6_bestTied_17 hl (by decide) rfl (fun ls hl => ?_)
    have key_19 : ∀ (n_19 : Nat) (x4_19 : Int32) (x3_19 : Int32) (x2_19 : Int32), tr x4_19 24 = n_19 → 0 ≤ x4_19.toInt → (x2_19.toInt = -5 ∨ (0 ≤ x2_19.toInt ∧ x2_19.toInt < 24)) → mX6_bestTied_19 x mill (fun x4_19 x3_19 x2_19 => x2_19) n_19 x4_19 x3_19 x2_19 = R → ∀ ls : Array Slot, lv_has ls 7 [(4, .int x4_19), (3, .int x3_19), (2, .int x2_19), (0, .ref (h 0)), (1, .int mill)] → W p l e ({ frames := 8, cells := 0, slots := 0, locals := 191 } : Room) s m ([.ref (h 0), .int mill] : List Value).toArray below meth c s.heap [] 0 0 (MQ below (roQ (some (.int R))) ([.ref (h 0), .int mill] : List Value).toArray s 0 0 (fun _ => False)) (F0 m 19 ls []) := by
      intro n_19
      induction n_19 with
      | zero =>
        intro x4_19 x3_19 x2_19 hn_19 hk_19 hb_19 hR ls hl
        rw [mX6_bestTied_19] at hR
        refine lv_iload hx hb dX6_bestTied_19 (lv_at hl 0 rfl) ?_
        refine lv_bipush (v := 24) hx hb dX6_bestTied_21 (by decide) ?_
        refine lv_icmp_ge (tgt := 128) hx hb dX6_bestTied_23 (by decide) (fun c_2 => ?_) (fun c_2 => (tr0 hn_19 c_2).elim)
        refine lv_iload_n hx hb dX6_bestTied_128 rfl (lv_at hl 2 rfl) ?_
        exact ro_iret hx hb hr hk hR dX6_bestTied_129
      | succ n_19 ih_19 =>
        intro x4_19 x3_19 x2_19 hn_19 hk_19 hb_19 hR ls hl
        rw [mX6_bestTied_19] at hR
        refine lv_iload hx hb dX6_bestTied_19 (lv_at hl 0 rfl) ?_
        refine lv_bipush (v := 24) hx hb dX6_bestTied_21 (by decide) ?_
        refine lv_icmp_ge (tgt := 128) hx hb dX6_bestTied_23 (by decide) (fun c_2 => (trS hn_19 c_2).elim) (fun c_2 => ?_)
        have hlt_c_2 : x4_19.toInt < 24 := k_lt c_2
        refine lv_aload_n hx hb dX6_bestTied_26 rfl (lv_at hl 3 rfl) ?_
        refine lv_iconst (v := 0) hx hb dX6_bestTied_27 (by decide) ?_
        refine lv_iload_n hx hb dX6_bestTied_28 rfl (lv_at hl 4 rfl) ?_
        refine lv_iload hx hb dX6_bestTied_29 (lv_at hl 0 rfl) ?_
        refine ro_V (v := .int (mX6_turns x 0 mill x4_19)) (rest := []) (As := [.int 0, .int mill, .int x4_19]) hx hb hml hown hts hl (MX6_turns l D q h x 0 mill x4_19 (rg_t (i := 0) (x := 0) (show (0 : Int32).toInt = 0 from rfl) (by omega)) (rg_t (i := mill) (x := (mill).toInt) rfl (by omega)) (rg_t (i := x4_19) (x := (x4_19).toInt) rfl (by omega))) gX6_bestTied_X6_turns rfl kX6_turns ⟨Nat.le_of_ble_eq_true rfl, Nat.le_of_ble_eq_true rfl⟩ rfl rfl hP (dT hD) hG (ci := 4) rfl rfl rfl rfl (Nat.le_of_ble_eq_true rfl) dX6_bestTied_31 ⟨Nat.zero_le _, Nat.zero_le _⟩ ?_
        refine lv_if_eq (tgt := 47) hx hb dX6_bestTied_34 (by decide) (fun c_3 => ?_) (fun c_3 => ?_)
        · rw [if_pos c_3] at hR
          refine lv_iconst (v := 0) hx hb dX6_bestTied_47 (by decide) ?_
          refine lv_istore (lv' := [(5, .int 0), (4, .int x4_19), (3, .int x3_19), (2, .int x2_19), (0, .ref (h 0)), (1, .int mill)]) hx hb dX6_bestTied_48 hl (by decide) rfl (fun ls hl => ?_)
          refine lv_iload_n hx hb dX6_bestTied_50 rfl (lv_at hl 3 rfl) ?_
          refine lv_bipush (v := (-5)) hx hb dX6_bestTied_51 (by decide) ?_
          refine lv_icmp_eq (tgt := 88) hx hb dX6_bestTied_53 (by decide) (fun c_4 => ?_) (fun c_4 => ?_)
          · rw [if_pos c_4] at hR
            have tc_4 : x2_19.toInt = (-5) := i_eq.mp c_4
            refine lv_iconst (v := 0) hx hb dX6_bestTied_88 (by decide) ?_
            refine lv_istore (lv' := [(6, .int 0), (5, .int 0), (4, .int x4_19), (3, .int x3_19), (2, .int x2_19), (0, .ref (h 0)), (1, .int mill)]) hx hb dX6_bestTied_89 hl (by decide) rfl (fun ls hl => ?_)
            refine lv_iload hx hb dX6_bestTied_91 (lv_at hl 1 rfl) ?_
            refine lv_iload_n hx hb dX6_bestTied_93 rfl (lv_at hl 3 rfl) ?_
            refine lv_icmp_gt (tgt := 102) hx hb dX6_bestTied_94 (by decide) (fun c_5 => ?_) (fun c_5 => ?_)
            · rw [if_pos c_5] at hR
              have tc_5 : x3_19.toInt < 0 := i_lt.mp c_5
              refine lv_iload hx hb dX6_bestTied_102 (lv_at hl 2 rfl) ?_
              refine lv_goto (tgt := 108) hx hb dX6_bestTied_104 (by decide) ?_
              refine lv_istore_n (lv' := [(2, .int x4_19), (6, .int 0), (5, .int 0), (4, .int x4_19), (3, .int x3_19), (0, .ref (h 0)), (1, .int mill)]) hx hb dX6_bestTied_108 rfl hl (by decide) rfl (fun ls hl => ?_)
              refine lv_iload hx hb dX6_bestTied_109 (lv_at hl 2 rfl) ?_
              refine lv_iload_n hx hb dX6_bestTied_111 rfl (lv_at hl 4 rfl) ?_
              refine lv_icmp_le (tgt := 120) hx hb dX6_bestTied_112 (by decide) (fun c_6 => ?_) (fun c_6 => ?_)
              · rw [if_pos c_6] at hR
                have tc_6 : 0 ≤ x3_19.toInt := i_le.mp c_6
                refine lv_iload_n hx hb dX6_bestTied_120 rfl (lv_at hl 4 rfl) ?_
                refine lv_istore_n (lv' := [(3, .int x3_19), (2, .int x4_19), (6, .int 0), (5, .int 0), (4, .int x4_19), (0, .ref (h 0)), (1, .int mill)]) hx hb dX6_bestTied_121 rfl hl (by decide) rfl (fun ls hl => ?_)
                refine lv_iinc (v := (x4_19 + 1)) (lv' := [(4, .int (x4_19 + 1)), (3, .int x3_19), (2, .int x4_19), (6, .int 0), (5, .int 0), (0, .ref (h 0)), (1, .int mill)]) hx hb dX6_bestTied_122 hl (k := 4) rfl rfl (by decide) rfl (fun ls hl => ?_)
                refine lv_goto (tgt := 19) hx hb dX6_bestTied_125 (by decide) ?_
                exact ih_19 (x4_19 + 1) x3_19 x4_19 (trN hn_19) (k_up hk_19 c_2) (Or.inr (by omega)) hR ls (lv_sub hl [0, 1, 2, 5, 6] rfl)
              · rw [if_neg c_6] at hR
                have tc_6 : ¬ 0 ≤ x3_19.toInt := fun z => c_6 (i_le.mpr z)
                refine lv_iload hx hb dX6_bestTied_115 (lv_at hl 2 rfl) ?_
                refine lv_goto (tgt := 121) hx hb dX6_bestTied_117 (by decide) ?_
                refine lv_istore_n (lv' := [(3, .int 0), (2, .int x4_19), (6, .int 0), (5, .int 0), (4, .int x4_19), (0, .ref (h 0)), (1, .int mill)]) hx hb dX6_bestTied_121 rfl hl (by decide) rfl (fun ls hl => ?_)
                refine lv_iinc (v := (x4_19 + 1)) (lv' := [(4, .int (x4_19 + 1)), (3, .int 0), (2, .int x4_19), (6, .int 0), (5, .int 0), (0, .ref (h 0)), (1, .int mill)]) hx hb dX6_bestTied_122 hl (k := 4) rfl rfl (by decide) rfl (fun ls hl => ?_)
                refine lv_goto (tgt := 19) hx hb dX6_bestTied_125 (by decide) ?_
                exact ih_19 (x4_19 + 1) 0 x4_19 (trN hn_19) (k_up hk_19 c_2) (Or.inr (by omega)) hR ls (lv_sub hl [0, 1, 2, 5, 6] rfl)
            · rw [if_neg c_5] at hR
              have tc_5 : ¬ x3_19.toInt < 0 := fun z => c_5 (i_lt.mpr z)
              refine lv_iload hx hb dX6_bestTied_97 (lv_at hl 0 rfl) ?_
              refine lv_if_eq (tgt := 107) hx hb dX6_bestTied_99 (by decide) (fun _ => ?_) (fun c_7 => absurd (by decide) c_7)
              refine lv_iload_n hx hb dX6_bestTied_107 rfl (lv_at hl 4 rfl) ?_
              refine lv_istore_n (lv' := [(2, .int x2_19), (6, .int 0), (5, .int 0), (4, .int x4_19), (3, .int x3_19), (0, .ref (h 0)), (1, .int mill)]) hx hb dX6_bestTied_108 rfl hl (by decide) rfl (fun ls hl => ?_)
              refine lv_iload hx hb dX6_bestTied_109 (lv_at hl 2 rfl) ?_
              refine lv_iload_n hx hb dX6_bestTied_111 rfl (lv_at hl 4 rfl) ?_
              refine lv_icmp_le (tgt := 120) hx hb dX6_bestTied_112 (by decide) (fun c_8 => ?_) (fun c_8 => ?_)
              · rw [if_pos c_8] at hR
                have tc_8 : 0 ≤ x3_19.toInt := i_le.mp c_8
                refine lv_iload_n hx hb dX6_bestTied_120 rfl (lv_at hl 4 rfl) ?_
                refine lv_istore_n (lv' := [(3, .int x3_19), (2, .int x2_19), (6, .int 0), (5, .int 0), (4, .int x4_19), (0, .ref (h 0)), (1, .int mill)]) hx hb dX6_bestTied_121 rfl hl (by decide) rfl (fun ls hl => ?_)
                refine lv_iinc (v := (x4_19 + 1)) (lv' := [(4, .int (x4_19 + 1)), (3, .int x3_19), (2, .int x2_19), (6, .int 0), (5, .int 0), (0, .ref (h 0)), (1, .int mill)]) hx hb dX6_bestTied_122 hl (k := 4) rfl rfl (by decide) rfl (fun ls hl => ?_)
                refine lv_goto (tgt := 19) hx hb dX6_bestTied_125 (by decide) ?_
                exact ih_19 (x4_19 + 1) x3_19 x2_19 (trN hn_19) (k_up hk_19 c_2) hb_19 hR ls (lv_sub hl [0, 1, 2, 5, 6] rfl)
              · rw [if_neg c_8] at hR
                have tc_8 : ¬ 0 ≤ x3_19.toInt := fun z => c_8 (i_le.mpr z)
                refine lv_iload hx hb dX6_bestTied_115 (lv_at hl 2 rfl) ?_
                refine lv_goto (tgt := 121) hx hb dX6_bestTied_117 (by decide) ?_
                refine lv_istore_n (lv' := [(3, .int 0), (2, .int x2_19), (6, .int 0), (5, .int 0), (4, .int x4_19), (0, .ref (h 0)), (1, .int mill)]) hx hb dX6_bestTied_121 rfl hl (by decide) rfl (fun ls hl => ?_)
                refine lv_iinc (v := (x4_19 + 1)) (lv' := [(4, .int (x4_19 + 1)), (3, .int 0), (2, .int x2_19), (6, .int 0), (5, .int 0), (0, .ref (h 0)), (1, .int mill)]) hx hb dX6_bestTied_122 hl (k := 4) rfl rfl (by decide) rfl (fun ls hl => ?_)
                refine lv_goto (tgt := 19) hx hb dX6_bestTied_125 (by decide) ?_
                exact ih_19 (x4_19 + 1) 0 x2_19 (trN hn_19) (k_up hk_19 c_2) hb_19 hR ls (lv_sub hl [0, 1, 2, 5, 6] rfl)
          · rw [if_neg c_4] at hR
            have tc_4 : ¬ x2_19.toInt = (-5) := fun z => c_4 (i_eq.mpr z)
            refine lv_iload hx hb dX6_bestTied_56 (lv_at hl 0 rfl) ?_
            refine lv_iload_n hx hb dX6_bestTied_58 rfl (lv_at hl 2 rfl) ?_
            refine lv_icmp_ne (tgt := 88) hx hb dX6_bestTied_59 (by decide) (fun c_9 => ?_) (fun c_9 => ?_)
            · rw [if_neg c_9] at hR
              have tc_9 : ¬ 0 = x3_19.toInt := fun z => c_9 (i_eq.mpr z)
              refine lv_iconst (v := 0) hx hb dX6_bestTied_88 (by decide) ?_
              refine lv_istore (lv' := [(6, .int 0), (5, .int 0), (4, .int x4_19), (3, .int x3_19), (2, .int x2_19), (0, .ref (h 0)), (1, .int mill)]) hx hb dX6_bestTied_89 hl (by decide) rfl (fun ls hl => ?_)
              refine lv_iload hx hb dX6_bestTied_91 (lv_at hl 1 rfl) ?_
              refine lv_iload_n hx hb dX6_bestTied_93 rfl (lv_at hl 3 rfl) ?_
              refine lv_icmp_gt (tgt := 102) hx hb dX6_bestTied_94 (by decide) (fun c_10 => ?_) (fun c_10 => ?_)
              · rw [if_pos c_10] at hR
                have tc_10 : x3_19.toInt < 0 := i_lt.mp c_10
                refine lv_iload hx hb dX6_bestTied_102 (lv_at hl 2 rfl) ?_
                refine lv_goto (tgt := 108) hx hb dX6_bestTied_104 (by decide) ?_
                refine lv_istore_n (lv' := [(2, .int x4_19), (6, .int 0), (5, .int 0), (4, .int x4_19), (3, .int x3_19), (0, .ref (h 0)), (1, .int mill)]) hx hb dX6_bestTied_108 rfl hl (by decide) rfl (fun ls hl => ?_)
                refine lv_iload hx hb dX6_bestTied_109 (lv_at hl 2 rfl) ?_
                refine lv_iload_n hx hb dX6_bestTied_111 rfl (lv_at hl 4 rfl) ?_
                refine lv_icmp_le (tgt := 120) hx hb dX6_bestTied_112 (by decide) (fun c_11 => ?_) (fun c_11 => ?_)
                · rw [if_pos c_11] at hR
                  have tc_11 : 0 ≤ x3_19.toInt := i_le.mp c_11
                  refine lv_iload_n hx hb dX6_bestTied_120 rfl (lv_at hl 4 rfl) ?_
                  refine lv_istore_n (lv' := [(3, .int x3_19), (2, .int x4_19), (6, .int 0), (5, .int 0), (4, .int x4_19), (0, .ref (h 0)), (1, .int mill)]) hx hb dX6_bestTied_121 rfl hl (by decide) rfl (fun ls hl => ?_)
                  refine lv_iinc (v := (x4_19 + 1)) (lv' := [(4, .int (x4_19 + 1)), (3, .int x3_19), (2, .int x4_19), (6, .int 0), (5, .int 0), (0, .ref (h 0)), (1, .int mill)]) hx hb dX6_bestTied_122 hl (k := 4) rfl rfl (by decide) rfl (fun ls hl => ?_)
                  refine lv_goto (tgt := 19) hx hb dX6_bestTied_125 (by decide) ?_
                  exact ih_19 (x4_19 + 1) x3_19 x4_19 (trN hn_19) (k_up hk_19 c_2) (Or.inr (by omega)) hR ls (lv_sub hl [0, 1, 2, 5, 6] rfl)
                · rw [if_neg c_11] at hR
                  have tc_11 : ¬ 0 ≤ x3_19.toInt := fun z => c_11 (i_le.mpr z)
                  refine lv_iload hx hb dX6_bestTied_115 (lv_at hl 2 rfl) ?_
                  refine lv_goto (tgt := 121) hx hb dX6_bestTied_117 (by decide) ?_
                  refine lv_istore_n (lv' := [(3, .int 0), (2, .int x4_19), (6, .int 0), (5, .int 0), (4, .int x4_19), (0, .ref (h 0)), (1, .int mill)]) hx hb dX6_bestTied_121 rfl hl (by decide) rfl (fun ls hl => ?_)
                  refine lv_iinc (v := (x4_19 + 1)) (lv' := [(4, .int (x4_19 + 1)), (3, .int 0), (2, .int x4_19), (6, .int 0), (5, .int 0), (0, .ref (h 0)), (1, .int mill)]) hx hb dX6_bestTied_122 hl (k := 4) rfl rfl (by decide) rfl (fun ls hl => ?_)
                  refine lv_goto (tgt := 19) hx hb dX6_bestTied_125 (by decide) ?_
                  exact ih_19 (x4_19 + 1) 0 x4_19 (trN hn_19) (k_up hk_19 c_2) (Or.inr (by omega)) hR ls (lv_sub hl [0, 1, 2, 5, 6] rfl)
              · rw [if_neg c_10] at hR
                have tc_10 : ¬ x3_19.toInt < 0 := fun z => c_10 (i_lt.mpr z)
                refine lv_iload hx hb dX6_bestTied_97 (lv_at hl 0 rfl) ?_
                refine lv_if_eq (tgt := 107) hx hb dX6_bestTied_99 (by decide) (fun _ => ?_) (fun c_12 => absurd (by decide) c_12)
                refine lv_iload_n hx hb dX6_bestTied_107 rfl (lv_at hl 4 rfl) ?_
                refine lv_istore_n (lv' := [(2, .int x2_19), (6, .int 0), (5, .int 0), (4, .int x4_19), (3, .int x3_19), (0, .ref (h 0)), (1, .int mill)]) hx hb dX6_bestTied_108 rfl hl (by decide) rfl (fun ls hl => ?_)
                refine lv_iload hx hb dX6_bestTied_109 (lv_at hl 2 rfl) ?_
                refine lv_iload_n hx hb dX6_bestTied_111 rfl (lv_at hl 4 rfl) ?_
                refine lv_icmp_le (tgt := 120) hx hb dX6_bestTied_112 (by decide) (fun c_13 => ?_) (fun c_13 => ?_)
                · rw [if_pos c_13] at hR
                  have tc_13 : 0 ≤ x3_19.toInt := i_le.mp c_13
                  refine lv_iload_n hx hb dX6_bestTied_120 rfl (lv_at hl 4 rfl) ?_
                  refine lv_istore_n (lv' := [(3, .int x3_19), (2, .int x2_19), (6, .int 0), (5, .int 0), (4, .int x4_19), (0, .ref (h 0)), (1, .int mill)]) hx hb dX6_bestTied_121 rfl hl (by decide) rfl (fun ls hl => ?_)
                  refine lv_iinc (v := (x4_19 + 1)) (lv' := [(4, .int (x4_19 + 1)), (3, .int x3_19), (2, .int x2_19), (6, .int 0), (5, .int 0), (0, .ref (h 0)), (1, .int mill)]) hx hb dX6_bestTied_122 hl (k := 4) rfl rfl (by decide) rfl (fun ls hl => ?_)
                  refine lv_goto (tgt := 19) hx hb dX6_bestTied_125 (by decide) ?_
                  exact ih_19 (x4_19 + 1) x3_19 x2_19 (trN hn_19) (k_up hk_19 c_2) hb_19 hR ls (lv_sub hl [0, 1, 2, 5, 6] rfl)
                · rw [if_neg c_13] at hR
                  have tc_13 : ¬ 0 ≤ x3_19.toInt := fun z => c_13 (i_le.mpr z)
                  refine lv_iload hx hb dX6_bestTied_115 (lv_at hl 2 rfl) ?_
                  refine lv_goto (tgt := 121) hx hb dX6_bestTied_117 (by decide) ?_
                  refine lv_istore_n (lv' := [(3, .int 0), (2, .int x2_19), (6, .int 0), (5, .int 0), (4, .int x4_19), (0, .ref (h 0)), (1, .int mill)]) hx hb dX6_bestTied_121 rfl hl (by decide) rfl (fun ls hl => ?_)
                  refine lv_iinc (v := (x4_19 + 1)) (lv' := [(4, .int (x4_19 + 1)), (3, .int 0), (2, .int x2_19), (6, .int 0), (5, .int 0), (0, .ref (h 0)), (1, .int mill)]) hx hb dX6_bestTied_122 hl (k := 4) rfl rfl (by decide) rfl (fun ls hl => ?_)
                  refine lv_goto (tgt := 19) hx hb dX6_bestTied_125 (by decide) ?_
                  exact ih_19 (x4_19 + 1) 0 x2_19 (trN hn_19) (k_up hk_19 c_2) hb_19 hR ls (lv_sub hl [0, 1, 2, 5, 6] rfl)
            · rw [if_pos c_9] at hR
              have tc_9 : 0 = x3_19.toInt := i_eq.mp c_9
              refine lv_aload_n hx hb dX6_bestTied_62 rfl (lv_at hl 4 rfl) ?_
              refine va_get (D := D) (ci := 4) (v := .ref (h 1)) (C := RX6) (T := TX6) (N := 7) hx hb hts iX6_bestTied_X6 hown hG.1 hP 0 rfl rfl 0 (by decide) (hts (.fieldLink RX6 7 "MillComplaintsModel" "s" "[I") (List.mem_of_getElem? (i := 1) rfl)) (fun _ h9 => h9) rfl dX6_bestTied_63 ?_
              refine lv_bipush (v := 34) hx hb dX6_bestTied_66 (by decide) ?_
              refine lv_iload hx hb dX6_bestTied_68 (lv_at hl 1 rfl) ?_
              refine lv_iadd hx hb dX6_bestTied_70 ?_
              refine va_iald hx hb hG.1 hP 1 0 rfl rfl (ix_t (i := (34 + x4_19)) (x := (34 + (x4_19).toInt)) (n := 296) (ti_add (show (34 : Int32).toInt = 34 from rfl) rfl (by omega)) (by omega)) dX6_bestTied_71 ?_
              refine lv_aload_n hx hb dX6_bestTied_72 rfl (lv_at hl 4 rfl) ?_
              refine va_get (D := D) (ci := 4) (v := .ref (h 1)) (C := RX6) (T := TX6) (N := 7) hx hb hts iX6_bestTied_X6 hown hG.1 hP 0 rfl rfl 0 (by decide) (hts (.fieldLink RX6 7 "MillComplaintsModel" "s" "[I") (List.mem_of_getElem? (i := 1) rfl)) (fun _ h9 => h9) rfl dX6_bestTied_73 ?_
              refine lv_bipush (v := 34) hx hb dX6_bestTied_76 (by decide) ?_
              refine lv_iload_n hx hb dX6_bestTied_78 rfl (lv_at hl 3 rfl) ?_
              refine lv_iadd hx hb dX6_bestTied_79 ?_
              refine va_iald hx hb hG.1 hP 1 0 rfl rfl (ix_t (i := (34 + x2_19)) (x := (34 + (x2_19).toInt)) (n := 296) (ti_add (show (34 : Int32).toInt = 34 from rfl) rfl (by omega)) (by omega)) dX6_bestTied_80 ?_
              refine lv_icmp_ge (tgt := 88) hx hb dX6_bestTied_81 (by decide) (fun c_14 => ?_) (fun c_14 => ?_)
              · rw [if_pos c_14] at hR
                have tc_14 : ((x 0) ((34 + x2_19)).toNatClampNeg).toInt ≤ ((x 0) ((34 + x4_19)).toNatClampNeg).toInt := i_le.mp c_14
                refine lv_iconst (v := 0) hx hb dX6_bestTied_88 (by decide) ?_
                refine lv_istore (lv' := [(6, .int 0), (5, .int 0), (4, .int x4_19), (3, .int x3_19), (2, .int x2_19), (0, .ref (h 0)), (1, .int mill)]) hx hb dX6_bestTied_89 hl (by decide) rfl (fun ls hl => ?_)
                refine lv_iload hx hb dX6_bestTied_91 (lv_at hl 1 rfl) ?_
                refine lv_iload_n hx hb dX6_bestTied_93 rfl (lv_at hl 3 rfl) ?_
                refine lv_icmp_gt (tgt := 102) hx hb dX6_bestTied_94 (by decide) (fun c_15 => ?_) (fun c_15 => ?_)
                · rw [if_pos c_15] at hR
                  have tc_15 : x3_19.toInt < 0 := i_lt.mp c_15
                  refine lv_iload hx hb dX6_bestTied_102 (lv_at hl 2 rfl) ?_
                  refine lv_goto (tgt := 108) hx hb dX6_bestTied_104 (by decide) ?_
                  refine lv_istore_n (lv' := [(2, .int x4_19), (6, .int 0), (5, .int 0), (4, .int x4_19), (3, .int x3_19), (0, .ref (h 0)), (1, .int mill)]) hx hb dX6_bestTied_108 rfl hl (by decide) rfl (fun ls hl => ?_)
                  refine lv_iload hx hb dX6_bestTied_109 (lv_at hl 2 rfl) ?_
                  refine lv_iload_n hx hb dX6_bestTied_111 rfl (lv_at hl 4 rfl) ?_
                  refine lv_icmp_le (tgt := 120) hx hb dX6_bestTied_112 (by decide) (fun c_16 => ?_) (fun c_16 => ?_)
                  · rw [if_pos c_16] at hR
                    have tc_16 : 0 ≤ x3_19.toInt := i_le.mp c_16
                    refine lv_iload_n hx hb dX6_bestTied_120 rfl (lv_at hl 4 rfl) ?_
                    refine lv_istore_n (lv' := [(3, .int x3_19), (2, .int x4_19), (6, .int 0), (5, .int 0), (4, .int x4_19), (0, .ref (h 0)), (1, .int mill)]) hx hb dX6_bestTied_121 rfl hl (by decide) rfl (fun ls hl => ?_)
                    refine lv_iinc (v := (x4_19 + 1)) (lv' := [(4, .int (x4_19 + 1)), (3, .int x3_19), (2, .int x4_19), (6, .int 0), (5, .int 0), (0, .ref (h 0)), (1, .int mill)]) hx hb dX6_bestTied_122 hl (k := 4) rfl rfl (by decide) rfl (fun ls hl => ?_)
                    refine lv_goto (tgt := 19) hx hb dX6_bestTied_125 (by decide) ?_
                    exact ih_19 (x4_19 + 1) x3_19 x4_19 (trN hn_19) (k_up hk_19 c_2) (Or.inr (by omega)) hR ls (lv_sub hl [0, 1, 2, 5, 6] rfl)
                  · rw [if_neg c_16] at hR
                    have tc_16 : ¬ 0 ≤ x3_19.toInt := fun z => c_16 (i_le.mpr z)
                    refine lv_iload hx hb dX6_bestTied_115 (lv_at hl 2 rfl) ?_
                    refine lv_goto (tgt := 121) hx hb dX6_bestTied_117 (by decide) ?_
                    refine lv_istore_n (lv' := [(3, .int 0), (2, .int x4_19), (6, .int 0), (5, .int 0), (4, .int x4_19), (0, .ref (h 0)), (1, .int mill)]) hx hb dX6_bestTied_121 rfl hl (by decide) rfl (fun ls hl => ?_)
                    refine lv_iinc (v := (x4_19 + 1)) (lv' := [(4, .int (x4_19 + 1)), (3, .int 0), (2, .int x4_19), (6, .int 0), (5, .int 0), (0, .ref (h 0)), (1, .int mill)]) hx hb dX6_bestTied_122 hl (k := 4) rfl rfl (by decide) rfl (fun ls hl => ?_)
                    refine lv_goto (tgt := 19) hx hb dX6_bestTied_125 (by decide) ?_
                    exact ih_19 (x4_19 + 1) 0 x4_19 (trN hn_19) (k_up hk_19 c_2) (Or.inr (by omega)) hR ls (lv_sub hl [0, 1, 2, 5, 6] rfl)
                · rw [if_neg c_15] at hR
                  have tc_15 : ¬ x3_19.toInt < 0 := fun z => c_15 (i_lt.mpr z)
                  refine lv_iload hx hb dX6_bestTied_97 (lv_at hl 0 rfl) ?_
                  refine lv_if_eq (tgt := 107) hx hb dX6_bestTied_99 (by decide) (fun _ => ?_) (fun c_17 => absurd (by decide) c_17)
                  refine lv_iload_n hx hb dX6_bestTied_107 rfl (lv_at hl 4 rfl) ?_
                  refine lv_istore_n (lv' := [(2, .int x2_19), (6, .int 0), (5, .int 0), (4, .int x4_19), (3, .int x3_19), (0, .ref (h 0)), (1, .int mill)]) hx hb dX6_bestTied_108 rfl hl (by decide) rfl (fun ls hl => ?_)
                  refine lv_iload hx hb dX6_bestTied_109 (lv_at hl 2 rfl) ?_
                  refine lv_iload_n hx hb dX6_bestTied_111 rfl (lv_at hl 4 rfl) ?_
                  refine lv_icmp_le (tgt := 120) hx hb dX6_bestTied_112 (by decide) (fun c_18 => ?_) (fun c_18 => ?_)
                  · rw [if_pos c_18] at hR
                    have tc_18 : 0 ≤ x3_19.toInt := i_le.mp c_18
                    refine lv_iload_n hx hb dX6_bestTied_120 rfl (lv_at hl 4 rfl) ?_
                    refine lv_istore_n (lv' := [(3, .int x3_19), (2, .int x2_19), (6, .int 0), (5, .int 0), (4, .int x4_19), (0, .ref (h 0)), (1, .int mill)]) hx hb dX6_bestTied_121 rfl hl (by decide) rfl (fun ls hl => ?_)
                    refine lv_iinc (v := (x4_19 + 1)) (lv' := [(4, .int (x4_19 + 1)), (3, .int x3_19), (2, .int x2_19), (6, .int 0), (5, .int 0), (0, .ref (h 0)), (1, .int mill)]) hx hb dX6_bestTied_122 hl (k := 4) rfl rfl (by decide) rfl (fun ls hl => ?_)
                    refine lv_goto (tgt := 19) hx hb dX6_bestTied_125 (by decide) ?_
                    exact ih_19 (x4_19 + 1) x3_19 x2_19 (trN hn_19) (k_up hk_19 c_2) hb_19 hR ls (lv_sub hl [0, 1, 2, 5, 6] rfl)
                  · rw [if_neg c_18] at hR
                    have tc_18 : ¬ 0 ≤ x3_19.toInt := fun z => c_18 (i_le.mpr z)
                    refine lv_iload hx hb dX6_bestTied_115 (lv_at hl 2 rfl) ?_
                    refine lv_goto (tgt := 121) hx hb dX6_bestTied_117 (by decide) ?_
                    refine lv_istore_n (lv' := [(3, .int 0), (2, .int x2_19), (6, .int 0), (5, .int 0), (4, .int x4_19), (0, .ref (h 0)), (1, .int mill)]) hx hb dX6_bestTied_121 rfl hl (by decide) rfl (fun ls hl => ?_)
                    refine lv_iinc (v := (x4_19 + 1)) (lv' := [(4, .int (x4_19 + 1)), (3, .int 0), (2, .int x2_19), (6, .int 0), (5, .int 0), (0, .ref (h 0)), (1, .int mill)]) hx hb dX6_bestTied_122 hl (k := 4) rfl rfl (by decide) rfl (fun ls hl => ?_)
                    refine lv_goto (tgt := 19) hx hb dX6_bestTied_125 (by decide) ?_
                    exact ih_19 (x4_19 + 1) 0 x2_19 (trN hn_19) (k_up hk_19 c_2) hb_19 hR ls (lv_sub hl [0, 1, 2, 5, 6] rfl)
              · rw [if_neg c_14] at hR
                have tc_14 : ¬ ((x 0) ((34 + x2_19)).toNatClampNeg).toInt ≤ ((x 0) ((34 + x4_19)).toNatClampNeg).toInt := fun z => c_14 (i_le.mpr z)
                refine lv_iconst (v := 1) hx hb dX6_bestTied_84 (by decide) ?_
                refine lv_goto (tgt := 89) hx hb dX6_bestTied_85 (by decide) ?_
                refine lv_istore (lv' := [(6, .int 1), (5, .int 0), (4, .int x4_19), (3, .int x3_19), (2, .int x2_19), (0, .ref (h 0)), (1, .int mill)]) hx hb dX6_bestTied_89 hl (by decide) rfl (fun ls hl => ?_)
                refine lv_iload hx hb dX6_bestTied_91 (lv_at hl 1 rfl) ?_
                refine lv_iload_n hx hb dX6_bestTied_93 rfl (lv_at hl 3 rfl) ?_
                refine lv_icmp_gt (tgt := 102) hx hb dX6_bestTied_94 (by decide) (fun c_19 => ?_) (fun c_19 => ?_)
                · rw [if_pos c_19] at hR
                  have tc_19 : x3_19.toInt < 0 := i_lt.mp c_19
                  refine lv_iload hx hb dX6_bestTied_102 (lv_at hl 2 rfl) ?_
                  refine lv_goto (tgt := 108) hx hb dX6_bestTied_104 (by decide) ?_
                  refine lv_istore_n (lv' := [(2, .int x4_19), (6, .int 1), (5, .int 0), (4, .int x4_19), (3, .int x3_19), (0, .ref (h 0)), (1, .int mill)]) hx hb dX6_bestTied_108 rfl hl (by decide) rfl (fun ls hl => ?_)
                  refine lv_iload hx hb dX6_bestTied_109 (lv_at hl 2 rfl) ?_
                  refine lv_iload_n hx hb dX6_bestTied_111 rfl (lv_at hl 4 rfl) ?_
                  refine lv_icmp_le (tgt := 120) hx hb dX6_bestTied_112 (by decide) (fun c_20 => ?_) (fun c_20 => ?_)
                  · rw [if_pos c_20] at hR
                    have tc_20 : 0 ≤ x3_19.toInt := i_le.mp c_20
                    refine lv_iload_n hx hb dX6_bestTied_120 rfl (lv_at hl 4 rfl) ?_
                    refine lv_istore_n (lv' := [(3, .int x3_19), (2, .int x4_19), (6, .int 1), (5, .int 0), (4, .int x4_19), (0, .ref (h 0)), (1, .int mill)]) hx hb dX6_bestTied_121 rfl hl (by decide) rfl (fun ls hl => ?_)
                    refine lv_iinc (v := (x4_19 + 1)) (lv' := [(4, .int (x4_19 + 1)), (3, .int x3_19), (2, .int x4_19), (6, .int 1), (5, .int 0), (0, .ref (h 0)), (1, .int mill)]) hx hb dX6_bestTied_122 hl (k := 4) rfl rfl (by decide) rfl (fun ls hl => ?_)
                    refine lv_goto (tgt := 19) hx hb dX6_bestTied_125 (by decide) ?_
                    exact ih_19 (x4_19 + 1) x3_19 x4_19 (trN hn_19) (k_up hk_19 c_2) (Or.inr (by omega)) hR ls (lv_sub hl [0, 1, 2, 5, 6] rfl)
                  · rw [if_neg c_20] at hR
                    have tc_20 : ¬ 0 ≤ x3_19.toInt := fun z => c_20 (i_le.mpr z)
                    refine lv_iload hx hb dX6_bestTied_115 (lv_at hl 2 rfl) ?_
                    refine lv_goto (tgt := 121) hx hb dX6_bestTied_117 (by decide) ?_
                    refine lv_istore_n (lv' := [(3, .int 0), (2, .int x4_19), (6, .int 1), (5, .int 0), (4, .int x4_19), (0, .ref (h 0)), (1, .int mill)]) hx hb dX6_bestTied_121 rfl hl (by decide) rfl (fun ls hl => ?_)
                    refine lv_iinc (v := (x4_19 + 1)) (lv' := [(4, .int (x4_19 + 1)), (3, .int 0), (2, .int x4_19), (6, .int 1), (5, .int 0), (0, .ref (h 0)), (1, .int mill)]) hx hb dX6_bestTied_122 hl (k := 4) rfl rfl (by decide) rfl (fun ls hl => ?_)
                    refine lv_goto (tgt := 19) hx hb dX6_bestTied_125 (by decide) ?_
                    exact ih_19 (x4_19 + 1) 0 x4_19 (trN hn_19) (k_up hk_19 c_2) (Or.inr (by omega)) hR ls (lv_sub hl [0, 1, 2, 5, 6] rfl)
                · rw [if_neg c_19] at hR
                  have tc_19 : ¬ x3_19.toInt < 0 := fun z => c_19 (i_lt.mpr z)
                  refine lv_iload hx hb dX6_bestTied_97 (lv_at hl 0 rfl) ?_
                  refine lv_if_eq (tgt := 107) hx hb dX6_bestTied_99 (by decide) (fun c_21 => absurd c_21 (by decide)) (fun _ => ?_)
                  refine lv_iload hx hb dX6_bestTied_102 (lv_at hl 2 rfl) ?_
                  refine lv_goto (tgt := 108) hx hb dX6_bestTied_104 (by decide) ?_
                  refine lv_istore_n (lv' := [(2, .int x4_19), (6, .int 1), (5, .int 0), (4, .int x4_19), (3, .int x3_19), (0, .ref (h 0)), (1, .int mill)]) hx hb dX6_bestTied_108 rfl hl (by decide) rfl (fun ls hl => ?_)
                  refine lv_iload hx hb dX6_bestTied_109 (lv_at hl 2 rfl) ?_
                  refine lv_iload_n hx hb dX6_bestTied_111 rfl (lv_at hl 4 rfl) ?_
                  refine lv_icmp_le (tgt := 120) hx hb dX6_bestTied_112 (by decide) (fun c_22 => ?_) (fun c_22 => ?_)
                  · rw [if_pos c_22] at hR
                    have tc_22 : 0 ≤ x3_19.toInt := i_le.mp c_22
                    refine lv_iload_n hx hb dX6_bestTied_120 rfl (lv_at hl 4 rfl) ?_
                    refine lv_istore_n (lv' := [(3, .int x3_19), (2, .int x4_19), (6, .int 1), (5, .int 0), (4, .int x4_19), (0, .ref (h 0)), (1, .int mill)]) hx hb dX6_bestTied_121 rfl hl (by decide) rfl (fun ls hl => ?_)
                    refine lv_iinc (v := (x4_19 + 1)) (lv' := [(4, .int (x4_19 + 1)), (3, .int x3_19), (2, .int x4_19), (6, .int 1), (5, .int 0), (0, .ref (h 0)), (1, .int mill)]) hx hb dX6_bestTied_122 hl (k := 4) rfl rfl (by decide) rfl (fun ls hl => ?_)
                    refine lv_goto (tgt := 19) hx hb dX6_bestTied_125 (by decide) ?_
                    exact ih_19 (x4_19 + 1) x3_19 x4_19 (trN hn_19) (k_up hk_19 c_2) (Or.inr (by omega)) hR ls (lv_sub hl [0, 1, 2, 5, 6] rfl)
                  · rw [if_neg c_22] at hR
                    have tc_22 : ¬ 0 ≤ x3_19.toInt := fun z => c_22 (i_le.mpr z)
                    refine lv_iload hx hb dX6_bestTied_115 (lv_at hl 2 rfl) ?_
                    refine lv_goto (tgt := 121) hx hb dX6_bestTied_117 (by decide) ?_
                    refine lv_istore_n (lv' := [(3, .int 0), (2, .int x4_19), (6, .int 1), (5, .int 0), (4, .int x4_19), (0, .ref (h 0)), (1, .int mill)]) hx hb dX6_bestTied_121 rfl hl (by decide) rfl (fun ls hl => ?_)
                    refine lv_iinc (v := (x4_19 + 1)) (lv' := [(4, .int (x4_19 + 1)), (3, .int 0), (2, .int x4_19), (6, .int 1), (5, .int 0), (0, .ref (h 0)), (1, .int mill)]) hx hb dX6_bestTied_122 hl (k := 4) rfl rfl (by decide) rfl (fun ls hl => ?_)
                    refine lv_goto (tgt := 19) hx hb dX6_bestTied_125 (by decide) ?_
                    exact ih_19 (x4_19 + 1) 0 x4_19 (trN hn_19) (k_up hk_19 c_2) (Or.inr (by omega)) hR ls (lv_sub hl [0, 1, 2, 5, 6] rfl)
        · rw [if_neg c_3] at hR
          refine lv_aload_n hx hb dX6_bestTied_37 rfl (lv_at hl 3 rfl) ?_
          refine lv_iload_n hx hb dX6_bestTied_38 rfl (lv_at hl 4 rfl) ?_
          refine lv_iload hx hb dX6_bestTied_39 (lv_at hl 0 rfl) ?_
          refine ro_V (v := .int (mX6_troubles x mill x4_19)) (rest := []) (As := [.int mill, .int x4_19]) hx hb hml hown hts hl (MX6_troubles l D q h x mill x4_19 (by assumption) (rg_t (i := mill) (x := (mill).toInt) rfl (by omega)) (rg_t (i := x4_19) (x := (x4_19).toInt) rfl (by omega))) gX6_bestTied_X6_troubles rfl kX6_troubles ⟨Nat.le_of_ble_eq_true rfl, Nat.le_of_ble_eq_true rfl⟩ rfl rfl hP (dT hD) hG (ci := 4) rfl rfl rfl rfl (Nat.le_of_ble_eq_true rfl) dX6_bestTied_41 ⟨Nat.zero_le _, Nat.zero_le _⟩ ?_
          refine lv_goto (tgt := 48) hx hb dX6_bestTied_44 (by decide) ?_
          refine lv_istore (lv' := [(5, .int (mX6_troubles x mill x4_19)), (4, .int x4_19), (3, .int x3_19), (2, .int x2_19), (0, .ref (h 0)), (1, .int mill)]) hx hb dX6_bestTied_48 hl (by decide) rfl (fun ls hl => ?_)
          refine lv_iload_n hx hb dX6_bestTied_50 rfl (lv_at hl 3 rfl) ?_
          refine lv_bipush (v := (-5)) hx hb dX6_bestTied_51 (by decide) ?_
          refine lv_icmp_eq (tgt := 88) hx hb dX6_bestTied_53 (by decide) (fun c_23 => ?_) (fun c_23 => ?_)
          · rw [if_pos c_23] at hR
            have tc_23 : x2_19.toInt = (-5) := i_eq.mp c_23
            refine lv_iconst (v := 0) hx hb dX6_bestTied_88 (by decide) ?_
            refine lv_istore (lv' := [(6, .int 0), (5, .int (mX6_troubles x mill x4_19)), (4, .int x4_19), (3, .int x3_19), (2, .int x2_19), (0, .ref (h 0)), (1, .int mill)]) hx hb dX6_bestTied_89 hl (by decide) rfl (fun ls hl => ?_)
            refine lv_iload hx hb dX6_bestTied_91 (lv_at hl 1 rfl) ?_
            refine lv_iload_n hx hb dX6_bestTied_93 rfl (lv_at hl 3 rfl) ?_
            refine lv_icmp_gt (tgt := 102) hx hb dX6_bestTied_94 (by decide) (fun c_24 => ?_) (fun c_24 => ?_)
            · rw [if_pos c_24] at hR
              have tc_24 : x3_19.toInt < (mX6_troubles x mill x4_19).toInt := i_lt.mp c_24
              refine lv_iload hx hb dX6_bestTied_102 (lv_at hl 2 rfl) ?_
              refine lv_goto (tgt := 108) hx hb dX6_bestTied_104 (by decide) ?_
              refine lv_istore_n (lv' := [(2, .int x4_19), (6, .int 0), (5, .int (mX6_troubles x mill x4_19)), (4, .int x4_19), (3, .int x3_19), (0, .ref (h 0)), (1, .int mill)]) hx hb dX6_bestTied_108 rfl hl (by decide) rfl (fun ls hl => ?_)
              refine lv_iload hx hb dX6_bestTied_109 (lv_at hl 2 rfl) ?_
              refine lv_iload_n hx hb dX6_bestTied_111 rfl (lv_at hl 4 rfl) ?_
              refine lv_icmp_le (tgt := 120) hx hb dX6_bestTied_112 (by decide) (fun c_25 => ?_) (fun c_25 => ?_)
              · rw [if_pos c_25] at hR
                have tc_25 : (mX6_troubles x mill x4_19).toInt ≤ x3_19.toInt := i_le.mp c_25
                refine lv_iload_n hx hb dX6_bestTied_120 rfl (lv_at hl 4 rfl) ?_
                refine lv_istore_n (lv' := [(3, .int x3_19), (2, .int x4_19), (6, .int 0), (5, .int (mX6_troubles x mill x4_19)), (4, .int x4_19), (0, .ref (h 0)), (1, .int mill)]) hx hb dX6_bestTied_121 rfl hl (by decide) rfl (fun ls hl => ?_)
                refine lv_iinc (v := (x4_19 + 1)) (lv' := [(4, .int (x4_19 + 1)), (3, .int x3_19), (2, .int x4_19), (6, .int 0), (5, .int (mX6_troubles x mill x4_19)), (0, .ref (h 0)), (1, .int mill)]) hx hb dX6_bestTied_122 hl (k := 4) rfl rfl (by decide) rfl (fun ls hl => ?_)
                refine lv_goto (tgt := 19) hx hb dX6_bestTied_125 (by decide) ?_
                exact ih_19 (x4_19 + 1) x3_19 x4_19 (trN hn_19) (k_up hk_19 c_2) (Or.inr (by omega)) hR ls (lv_sub hl [0, 1, 2, 5, 6] rfl)
              · rw [if_neg c_25] at hR
                have tc_25 : ¬ (mX6_troubles x mill x4_19).toInt ≤ x3_19.toInt := fun z => c_25 (i_le.mpr z)
                refine lv_iload hx hb dX6_bestTied_115 (lv_at hl 2 rfl) ?_
                refine lv_goto (tgt := 121) hx hb dX6_bestTied_117 (by decide) ?_
                refine lv_istore_n (lv' := [(3, .int (mX6_troubles x mill x4_19)), (2, .int x4_19), (6, .int 0), (5, .int (mX6_troubles x mill x4_19)), (4, .int x4_19), (0, .ref (h 0)), (1, .int mill)]) hx hb dX6_bestTied_121 rfl hl (by decide) rfl (fun ls hl => ?_)
                refine lv_iinc (v := (x4_19 + 1)) (lv' := [(4, .int (x4_19 + 1)), (3, .int (mX6_troubles x mill x4_19)), (2, .int x4_19), (6, .int 0), (5, .int (mX6_troubles x mill x4_19)), (0, .ref (h 0)), (1, .int mill)]) hx hb dX6_bestTied_122 hl (k := 4) rfl rfl (by decide) rfl (fun ls hl => ?_)
                refine lv_goto (tgt := 19) hx hb dX6_bestTied_125 (by decide) ?_
                exact ih_19 (x4_19 + 1) (mX6_troubles x mill x4_19) x4_19 (trN hn_19) (k_up hk_19 c_2) (Or.inr (by omega)) hR ls (lv_sub hl [0, 1, 2, 5, 6] rfl)
            · rw [if_neg c_24] at hR
              have tc_24 : ¬ x3_19.toInt < (mX6_troubles x mill x4_19).toInt := fun z => c_24 (i_lt.mpr z)
              refine lv_iload hx hb dX6_bestTied_97 (lv_at hl 0 rfl) ?_
              refine lv_if_eq (tgt := 107) hx hb dX6_bestTied_99 (by decide) (fun _ => ?_) (fun c_26 => absurd (by decide) c_26)
              refine lv_iload_n hx hb dX6_bestTied_107 rfl (lv_at hl 4 rfl) ?_
              refine lv_istore_n (lv' := [(2, .int x2_19), (6, .int 0), (5, .int (mX6_troubles x mill x4_19)), (4, .int x4_19), (3, .int x3_19), (0, .ref (h 0)), (1, .int mill)]) hx hb dX6_bestTied_108 rfl hl (by decide) rfl (fun ls hl => ?_)
              refine lv_iload hx hb dX6_bestTied_109 (lv_at hl 2 rfl) ?_
              refine lv_iload_n hx hb dX6_bestTied_111 rfl (lv_at hl 4 rfl) ?_
              refine lv_icmp_le (tgt := 120) hx hb dX6_bestTied_112 (by decide) (fun c_27 => ?_) (fun c_27 => ?_)
              · rw [if_pos c_27] at hR
                have tc_27 : (mX6_troubles x mill x4_19).toInt ≤ x3_19.toInt := i_le.mp c_27
                refine lv_iload_n hx hb dX6_bestTied_120 rfl (lv_at hl 4 rfl) ?_
                refine lv_istore_n (lv' := [(3, .int x3_19), (2, .int x2_19), (6, .int 0), (5, .int (mX6_troubles x mill x4_19)), (4, .int x4_19), (0, .ref (h 0)), (1, .int mill)]) hx hb dX6_bestTied_121 rfl hl (by decide) rfl (fun ls hl => ?_)
                refine lv_iinc (v := (x4_19 + 1)) (lv' := [(4, .int (x4_19 + 1)), (3, .int x3_19), (2, .int x2_19), (6, .int 0), (5, .int (mX6_troubles x mill x4_19)), (0, .ref (h 0)), (1, .int mill)]) hx hb dX6_bestTied_122 hl (k := 4) rfl rfl (by decide) rfl (fun ls hl => ?_)
                refine lv_goto (tgt := 19) hx hb dX6_bestTied_125 (by decide) ?_
                exact ih_19 (x4_19 + 1) x3_19 x2_19 (trN hn_19) (k_up hk_19 c_2) hb_19 hR ls (lv_sub hl [0, 1, 2, 5, 6] rfl)
              · rw [if_neg c_27] at hR
                have tc_27 : ¬ (mX6_troubles x mill x4_19).toInt ≤ x3_19.toInt := fun z => c_27 (i_le.mpr z)
                refine lv_iload hx hb dX6_bestTied_115 (lv_at hl 2 rfl) ?_
                refine lv_goto (tgt := 121) hx hb dX6_bestTied_117 (by decide) ?_
                refine lv_istore_n (lv' := [(3, .int (mX6_troubles x mill x4_19)), (2, .int x2_19), (6, .int 0), (5, .int (mX6_troubles x mill x4_19)), (4, .int x4_19), (0, .ref (h 0)), (1, .int mill)]) hx hb dX6_bestTied_121 rfl hl (by decide) rfl (fun ls hl => ?_)
                refine lv_iinc (v := (x4_19 + 1)) (lv' := [(4, .int (x4_19 + 1)), (3, .int (mX6_troubles x mill x4_19)), (2, .int x2_19), (6, .int 0), (5, .int (mX6_troubles x mill x4_19)), (0, .ref (h 0)), (1, .int mill)]) hx hb dX6_bestTied_122 hl (k := 4) rfl rfl (by decide) rfl (fun ls hl => ?_)
                refine lv_goto (tgt := 19) hx hb dX6_bestTied_125 (by decide) ?_
                exact ih_19 (x4_19 + 1) (mX6_troubles x mill x4_19) x2_19 (trN hn_19) (k_up hk_19 c_2) hb_19 hR ls (lv_sub hl [0, 1, 2, 5, 6] rfl)
          · rw [if_neg c_23] at hR
            have tc_23 : ¬ x2_19.toInt = (-5) := fun z => c_23 (i_eq.mpr z)
            refine lv_iload hx hb dX6_bestTied_56 (lv_at hl 0 rfl) ?_
            refine lv_iload_n hx hb dX6_bestTied_58 rfl (lv_at hl 2 rfl) ?_
            refine lv_icmp_ne (tgt := 88) hx hb dX6_bestTied_59 (by decide) (fun c_28 => ?_) (fun c_28 => ?_)
            · rw [if_neg c_28] at hR
              have tc_28 : ¬ (mX6_troubles x mill x4_19).toInt = x3_19.toInt := fun z => c_28 (i_eq.mpr z)
              refine lv_iconst (v := 0) hx hb dX6_bestTied_88 (by decide) ?_
              refine lv_istore (lv' := [(6, .int 0), (5, .int (mX6_troubles x mill x4_19)), (4, .int x4_19), (3, .int x3_19), (2, .int x2_19), (0, .ref (h 0)), (1, .int mill)]) hx hb dX6_bestTied_89 hl (by decide) rfl (fun ls hl => ?_)
              refine lv_iload hx hb dX6_bestTied_91 (lv_at hl 1 rfl) ?_
              refine lv_iload_n hx hb dX6_bestTied_93 rfl (lv_at hl 3 rfl) ?_
              refine lv_icmp_gt (tgt := 102) hx hb dX6_bestTied_94 (by decide) (fun c_29 => ?_) (fun c_29 => ?_)
              · rw [if_pos c_29] at hR
                have tc_29 : x3_19.toInt < (mX6_troubles x mill x4_19).toInt := i_lt.mp c_29
                refine lv_iload hx hb dX6_bestTied_102 (lv_at hl 2 rfl) ?_
                refine lv_goto (tgt := 108) hx hb dX6_bestTied_104 (by decide) ?_
                refine lv_istore_n (lv' := [(2, .int x4_19), (6, .int 0), (5, .int (mX6_troubles x mill x4_19)), (4, .int x4_19), (3, .int x3_19), (0, .ref (h 0)), (1, .int mill)]) hx hb dX6_bestTied_108 rfl hl (by decide) rfl (fun ls hl => ?_)
                refine lv_iload hx hb dX6_bestTied_109 (lv_at hl 2 rfl) ?_
                refine lv_iload_n hx hb dX6_bestTied_111 rfl (lv_at hl 4 rfl) ?_
                refine lv_icmp_le (tgt := 120) hx hb dX6_bestTied_112 (by decide) (fun c_30 => ?_) (fun c_30 => ?_)
                · rw [if_pos c_30] at hR
                  have tc_30 : (mX6_troubles x mill x4_19).toInt ≤ x3_19.toInt := i_le.mp c_30
                  refine lv_iload_n hx hb dX6_bestTied_120 rfl (lv_at hl 4 rfl) ?_
                  refine lv_istore_n (lv' := [(3, .int x3_19), (2, .int x4_19), (6, .int 0), (5, .int (mX6_troubles x mill x4_19)), (4, .int x4_19), (0, .ref (h 0)), (1, .int mill)]) hx hb dX6_bestTied_121 rfl hl (by decide) rfl (fun ls hl => ?_)
                  refine lv_iinc (v := (x4_19 + 1)) (lv' := [(4, .int (x4_19 + 1)), (3, .int x3_19), (2, .int x4_19), (6, .int 0), (5, .int (mX6_troubles x mill x4_19)), (0, .ref (h 0)), (1, .int mill)]) hx hb dX6_bestTied_122 hl (k := 4) rfl rfl (by decide) rfl (fun ls hl => ?_)
                  refine lv_goto (tgt := 19) hx hb dX6_bestTied_125 (by decide) ?_
                  exact ih_19 (x4_19 + 1) x3_19 x4_19 (trN hn_19) (k_up hk_19 c_2) (Or.inr (by omega)) hR ls (lv_sub hl [0, 1, 2, 5, 6] rfl)
                · rw [if_neg c_30] at hR
                  have tc_30 : ¬ (mX6_troubles x mill x4_19).toInt ≤ x3_19.toInt := fun z => c_30 (i_le.mpr z)
                  refine lv_iload hx hb dX6_bestTied_115 (lv_at hl 2 rfl) ?_
                  refine lv_goto (tgt := 121) hx hb dX6_bestTied_117 (by decide) ?_
                  refine lv_istore_n (lv' := [(3, .int (mX6_troubles x mill x4_19)), (2, .int x4_19), (6, .int 0), (5, .int (mX6_troubles x mill x4_19)), (4, .int x4_19), (0, .ref (h 0)), (1, .int mill)]) hx hb dX6_bestTied_121 rfl hl (by decide) rfl (fun ls hl => ?_)
                  refine lv_iinc (v := (x4_19 + 1)) (lv' := [(4, .int (x4_19 + 1)), (3, .int (mX6_troubles x mill x4_19)), (2, .int x4_19), (6, .int 0), (5, .int (mX6_troubles x mill x4_19)), (0, .ref (h 0)), (1, .int mill)]) hx hb dX6_bestTied_122 hl (k := 4) rfl rfl (by decide) rfl (fun ls hl => ?_)
                  refine lv_goto (tgt := 19) hx hb dX6_bestTied_125 (by decide) ?_
                  exact ih_19 (x4_19 + 1) (mX6_troubles x mill x4_19) x4_19 (trN hn_19) (k_up hk_19 c_2) (Or.inr (by omega)) hR ls (lv_sub hl [0, 1, 2, 5, 6] rfl)
              · rw [if_neg c_29] at hR
                have tc_29 : ¬ x3_19.toInt < (mX6_troubles x mill x4_19).toInt := fun z => c_29 (i_lt.mpr z)
                refine lv_iload hx hb dX6_bestTied_97 (lv_at hl 0 rfl) ?_
                refine lv_if_eq (tgt := 107) hx hb dX6_bestTied_99 (by decide) (fun _ => ?_) (fun c_31 => absurd (by decide) c_31)
                refine lv_iload_n hx hb dX6_bestTied_107 rfl (lv_at hl 4 rfl) ?_
                refine lv_istore_n (lv' := [(2, .int x2_19), (6, .int 0), (5, .int (mX6_troubles x mill x4_19)), (4, .int x4_19), (3, .int x3_19), (0, .ref (h 0)), (1, .int mill)]) hx hb dX6_bestTied_108 rfl hl (by decide) rfl (fun ls hl => ?_)
                refine lv_iload hx hb dX6_bestTied_109 (lv_at hl 2 rfl) ?_
                refine lv_iload_n hx hb dX6_bestTied_111 rfl (lv_at hl 4 rfl) ?_
                refine lv_icmp_le (tgt := 120) hx hb dX6_bestTied_112 (by decide) (fun c_32 => ?_) (fun c_32 => ?_)
                · rw [if_pos c_32] at hR
                  have tc_32 : (mX6_troubles x mill x4_19).toInt ≤ x3_19.toInt := i_le.mp c_32
                  refine lv_iload_n hx hb dX6_bestTied_120 rfl (lv_at hl 4 rfl) ?_
                  refine lv_istore_n (lv' := [(3, .int x3_19), (2, .int x2_19), (6, .int 0), (5, .int (mX6_troubles x mill x4_19)), (4, .int x4_19), (0, .ref (h 0)), (1, .int mill)]) hx hb dX6_bestTied_121 rfl hl (by decide) rfl (fun ls hl => ?_)
                  refine lv_iinc (v := (x4_19 + 1)) (lv' := [(4, .int (x4_19 + 1)), (3, .int x3_19), (2, .int x2_19), (6, .int 0), (5, .int (mX6_troubles x mill x4_19)), (0, .ref (h 0)), (1, .int mill)]) hx hb dX6_bestTied_122 hl (k := 4) rfl rfl (by decide) rfl (fun ls hl => ?_)
                  refine lv_goto (tgt := 19) hx hb dX6_bestTied_125 (by decide) ?_
                  exact ih_19 (x4_19 + 1) x3_19 x2_19 (trN hn_19) (k_up hk_19 c_2) hb_19 hR ls (lv_sub hl [0, 1, 2, 5, 6] rfl)
                · rw [if_neg c_32] at hR
                  have tc_32 : ¬ (mX6_troubles x mill x4_19).toInt ≤ x3_19.toInt := fun z => c_32 (i_le.mpr z)
                  refine lv_iload hx hb dX6_bestTied_115 (lv_at hl 2 rfl) ?_
                  refine lv_goto (tgt := 121) hx hb dX6_bestTied_117 (by decide) ?_
                  refine lv_istore_n (lv' := [(3, .int (mX6_troubles x mill x4_19)), (2, .int x2_19), (6, .int 0), (5, .int (mX6_troubles x mill x4_19)), (4, .int x4_19), (0, .ref (h 0)), (1, .int mill)]) hx hb dX6_bestTied_121 rfl hl (by decide) rfl (fun ls hl => ?_)
                  refine lv_iinc (v := (x4_19 + 1)) (lv' := [(4, .int (x4_19 + 1)), (3, .int (mX6_troubles x mill x4_19)), (2, .int x2_19), (6, .int 0), (5, .int (mX6_troubles x mill x4_19)), (0, .ref (h 0)), (1, .int mill)]) hx hb dX6_bestTied_122 hl (k := 4) rfl rfl (by decide) rfl (fun ls hl => ?_)
                  refine lv_goto (tgt := 19) hx hb dX6_bestTied_125 (by decide) ?_
                  exact ih_19 (x4_19 + 1) (mX6_troubles x mill x4_19) x2_19 (trN hn_19) (k_up hk_19 c_2) hb_19 hR ls (lv_sub hl [0, 1, 2, 5, 6] rfl)
            · rw [if_pos c_28] at hR
              have tc_28 : (mX6_troubles x mill x4_19).toInt = x3_19.toInt := i_eq.mp c_28
              refine lv_aload_n hx hb dX6_bestTied_62 rfl (lv_at hl 4 rfl) ?_
              refine va_get (D := D) (ci := 4) (v := .ref (h 1)) (C := RX6) (T := TX6) (N := 7) hx hb hts iX6_bestTied_X6 hown hG.1 hP 0 rfl rfl 0 (by decide) (hts (.fieldLink RX6 7 "MillComplaintsModel" "s" "[I") (List.mem_of_getElem? (i := 1) rfl)) (fun _ h9 => h9) rfl dX6_bestTied_63 ?_
              refine lv_bipush (v := 34) hx hb dX6_bestTied_66 (by decide) ?_
              refine lv_iload hx hb dX6_bestTied_68 (lv_at hl 1 rfl) ?_
              refine lv_iadd hx hb dX6_bestTied_70 ?_
              refine va_iald hx hb hG.1 hP 1 0 rfl rfl (ix_t (i := (34 + x4_19)) (x := (34 + (x4_19).toInt)) (n := 296) (ti_add (show (34 : Int32).toInt = 34 from rfl) rfl (by omega)) (by omega)) dX6_bestTied_71 ?_
              refine lv_aload_n hx hb dX6_bestTied_72 rfl (lv_at hl 4 rfl) ?_
              refine va_get (D := D) (ci := 4) (v := .ref (h 1)) (C := RX6) (T := TX6) (N := 7) hx hb hts iX6_bestTied_X6 hown hG.1 hP 0 rfl rfl 0 (by decide) (hts (.fieldLink RX6 7 "MillComplaintsModel" "s" "[I") (List.mem_of_getElem? (i := 1) rfl)) (fun _ h9 => h9) rfl dX6_bestTied_73 ?_
              refine lv_bipush (v := 34) hx hb dX6_bestTied_76 (by decide) ?_
              refine lv_iload_n hx hb dX6_bestTied_78 rfl (lv_at hl 3 rfl) ?_
              refine lv_iadd hx hb dX6_bestTied_79 ?_
              refine va_iald hx hb hG.1 hP 1 0 rfl rfl (ix_t (i := (34 + x2_19)) (x := (34 + (x2_19).toInt)) (n := 296) (ti_add (show (34 : Int32).toInt = 34 from rfl) rfl (by omega)) (by omega)) dX6_bestTied_80 ?_
              refine lv_icmp_ge (tgt := 88) hx hb dX6_bestTied_81 (by decide) (fun c_33 => ?_) (fun c_33 => ?_)
              · rw [if_pos c_33] at hR
                have tc_33 : ((x 0) ((34 + x2_19)).toNatClampNeg).toInt ≤ ((x 0) ((34 + x4_19)).toNatClampNeg).toInt := i_le.mp c_33
                refine lv_iconst (v := 0) hx hb dX6_bestTied_88 (by decide) ?_
                refine lv_istore (lv' := [(6, .int 0), (5, .int (mX6_troubles x mill x4_19)), (4, .int x4_19), (3, .int x3_19), (2, .int x2_19), (0, .ref (h 0)), (1, .int mill)]) hx hb dX6_bestTied_89 hl (by decide) rfl (fun ls hl => ?_)
                refine lv_iload hx hb dX6_bestTied_91 (lv_at hl 1 rfl) ?_
                refine lv_iload_n hx hb dX6_bestTied_93 rfl (lv_at hl 3 rfl) ?_
                refine lv_icmp_gt (tgt := 102) hx hb dX6_bestTied_94 (by decide) (fun c_34 => ?_) (fun c_34 => ?_)
                · rw [if_pos c_34] at hR
                  have tc_34 : x3_19.toInt < (mX6_troubles x mill x4_19).toInt := i_lt.mp c_34
                  refine lv_iload hx hb dX6_bestTied_102 (lv_at hl 2 rfl) ?_
                  refine lv_goto (tgt := 108) hx hb dX6_bestTied_104 (by decide) ?_
                  refine lv_istore_n (lv' := [(2, .int x4_19), (6, .int 0), (5, .int (mX6_troubles x mill x4_19)), (4, .int x4_19), (3, .int x3_19), (0, .ref (h 0)), (1, .int mill)]) hx hb dX6_bestTied_108 rfl hl (by decide) rfl (fun ls hl => ?_)
                  refine lv_iload hx hb dX6_bestTied_109 (lv_at hl 2 rfl) ?_
                  refine lv_iload_n hx hb dX6_bestTied_111 rfl (lv_at hl 4 rfl) ?_
                  refine lv_icmp_le (tgt := 120) hx hb dX6_bestTied_112 (by decide) (fun c_35 => ?_) (fun c_35 => ?_)
                  · rw [if_pos c_35] at hR
                    have tc_35 : (mX6_troubles x mill x4_19).toInt ≤ x3_19.toInt := i_le.mp c_35
                    refine lv_iload_n hx hb dX6_bestTied_120 rfl (lv_at hl 4 rfl) ?_
                    refine lv_istore_n (lv' := [(3, .int x3_19), (2, .int x4_19), (6, .int 0), (5, .int (mX6_troubles x mill x4_19)), (4, .int x4_19), (0, .ref (h 0)), (1, .int mill)]) hx hb dX6_bestTied_121 rfl hl (by decide) rfl (fun ls hl => ?_)
                    refine lv_iinc (v := (x4_19 + 1)) (lv' := [(4, .int (x4_19 + 1)), (3, .int x3_19), (2, .int x4_19), (6, .int 0), (5, .int (mX6_troubles x mill x4_19)), (0, .ref (h 0)), (1, .int mill)]) hx hb dX6_bestTied_122 hl (k := 4) rfl rfl (by decide) rfl (fun ls hl => ?_)
                    refine lv_goto (tgt := 19) hx hb dX6_bestTied_125 (by decide) ?_
                    exact ih_19 (x4_19 + 1) x3_19 x4_19 (trN hn_19) (k_up hk_19 c_2) (Or.inr (by omega)) hR ls (lv_sub hl [0, 1, 2, 5, 6] rfl)
                  · rw [if_neg c_35] at hR
                    have tc_35 : ¬ (mX6_troubles x mill x4_19).toInt ≤ x3_19.toInt := fun z => c_35 (i_le.mpr z)
                    refine lv_iload hx hb dX6_bestTied_115 (lv_at hl 2 rfl) ?_
                    refine lv_goto (tgt := 121) hx hb dX6_bestTied_117 (by decide) ?_
                    refine lv_istore_n (lv' := [(3, .int (mX6_troubles x mill x4_19)), (2, .int x4_19), (6, .int 0), (5, .int (mX6_troubles x mill x4_19)), (4, .int x4_19), (0, .ref (h 0)), (1, .int mill)]) hx hb dX6_bestTied_121 rfl hl (by decide) rfl (fun ls hl => ?_)
                    refine lv_iinc (v := (x4_19 + 1)) (lv' := [(4, .int (x4_19 + 1)), (3, .int (mX6_troubles x mill x4_19)), (2, .int x4_19), (6, .int 0), (5, .int (mX6_troubles x mill x4_19)), (0, .ref (h 0)), (1, .int mill)]) hx hb dX6_bestTied_122 hl (k := 4) rfl rfl (by decide) rfl (fun ls hl => ?_)
                    refine lv_goto (tgt := 19) hx hb dX6_bestTied_125 (by decide) ?_
                    exact ih_19 (x4_19 + 1) (mX6_troubles x mill x4_19) x4_19 (trN hn_19) (k_up hk_19 c_2) (Or.inr (by omega)) hR ls (lv_sub hl [0, 1, 2, 5, 6] rfl)
                · rw [if_neg c_34] at hR
                  have tc_34 : ¬ x3_19.toInt < (mX6_troubles x mill x4_19).toInt := fun z => c_34 (i_lt.mpr z)
                  refine lv_iload hx hb dX6_bestTied_97 (lv_at hl 0 rfl) ?_
                  refine lv_if_eq (tgt := 107) hx hb dX6_bestTied_99 (by decide) (fun _ => ?_) (fun c_36 => absurd (by decide) c_36)
                  refine lv_iload_n hx hb dX6_bestTied_107 rfl (lv_at hl 4 rfl) ?_
                  refine lv_istore_n (lv' := [(2, .int x2_19), (6, .int 0), (5, .int (mX6_troubles x mill x4_19)), (4, .int x4_19), (3, .int x3_19), (0, .ref (h 0)), (1, .int mill)]) hx hb dX6_bestTied_108 rfl hl (by decide) rfl (fun ls hl => ?_)
                  refine lv_iload hx hb dX6_bestTied_109 (lv_at hl 2 rfl) ?_
                  refine lv_iload_n hx hb dX6_bestTied_111 rfl (lv_at hl 4 rfl) ?_
                  refine lv_icmp_le (tgt := 120) hx hb dX6_bestTied_112 (by decide) (fun c_37 => ?_) (fun c_37 => ?_)
                  · rw [if_pos c_37] at hR
                    have tc_37 : (mX6_troubles x mill x4_19).toInt ≤ x3_19.toInt := i_le.mp c_37
                    refine lv_iload_n hx hb dX6_bestTied_120 rfl (lv_at hl 4 rfl) ?_
                    refine lv_istore_n (lv' := [(3, .int x3_19), (2, .int x2_19), (6, .int 0), (5, .int (mX6_troubles x mill x4_19)), (4, .int x4_19), (0, .ref (h 0)), (1, .int mill)]) hx hb dX6_bestTied_121 rfl hl (by decide) rfl (fun ls hl => ?_)
                    refine lv_iinc (v := (x4_19 + 1)) (lv' := [(4, .int (x4_19 + 1)), (3, .int x3_19), (2, .int x2_19), (6, .int 0), (5, .int (mX6_troubles x mill x4_19)), (0, .ref (h 0)), (1, .int mill)]) hx hb dX6_bestTied_122 hl (k := 4) rfl rfl (by decide) rfl (fun ls hl => ?_)
                    refine lv_goto (tgt := 19) hx hb dX6_bestTied_125 (by decide) ?_
                    exact ih_19 (x4_19 + 1) x3_19 x2_19 (trN hn_19) (k_up hk_19 c_2) hb_19 hR ls (lv_sub hl [0, 1, 2, 5, 6] rfl)
                  · rw [if_neg c_37] at hR
                    have tc_37 : ¬ (mX6_troubles x mill x4_19).toInt ≤ x3_19.toInt := fun z => c_37 (i_le.mpr z)
                    refine lv_iload hx hb dX6_bestTied_115 (lv_at hl 2 rfl) ?_
                    refine lv_goto (tgt := 121) hx hb dX6_bestTied_117 (by decide) ?_
                    refine lv_istore_n (lv' := [(3, .int (mX6_troubles x mill x4_19)), (2, .int x2_19), (6, .int 0), (5, .int (mX6_troubles x mill x4_19)), (4, .int x4_19), (0, .ref (h 0)), (1, .int mill)]) hx hb dX6_bestTied_121 rfl hl (by decide) rfl (fun ls hl => ?_)
                    refine lv_iinc (v := (x4_19 + 1)) (lv' := [(4, .int (x4_19 + 1)), (3, .int (mX6_troubles x mill x4_19)), (2, .int x2_19), (6, .int 0), (5, .int (mX6_troubles x mill x4_19)), (0, .ref (h 0)), (1, .int mill)]) hx hb dX6_bestTied_122 hl (k := 4) rfl rfl (by decide) rfl (fun ls hl => ?_)
                    refine lv_goto (tgt := 19) hx hb dX6_bestTied_125 (by decide) ?_
                    exact ih_19 (x4_19 + 1) (mX6_troubles x mill x4_19) x2_19 (trN hn_19) (k_up hk_19 c_2) hb_19 hR ls (lv_sub hl [0, 1, 2, 5, 6] rfl)
              · rw [if_neg c_33] at hR
                have tc_33 : ¬ ((x 0) ((34 + x2_19)).toNatClampNeg).toInt ≤ ((x 0) ((34 + x4_19)).toNatClampNeg).toInt := fun z => c_33 (i_le.mpr z)
                refine lv_iconst (v := 1) hx hb dX6_bestTied_84 (by decide) ?_
                refine lv_goto (tgt := 89) hx hb dX6_bestTied_85 (by decide) ?_
                refine lv_istore (lv' := [(6, .int 1), (5, .int (mX6_troubles x mill x4_19)), (4, .int x4_19), (3, .int x3_19), (2, .int x2_19), (0, .ref (h 0)), (1, .int mill)]) hx hb dX6_bestTied_89 hl (by decide) rfl (fun ls hl => ?_)
                refine lv_iload hx hb dX6_bestTied_91 (lv_at hl 1 rfl) ?_
                refine lv_iload_n hx hb dX6_bestTied_93 rfl (lv_at hl 3 rfl) ?_
                refine lv_icmp_gt (tgt := 102) hx hb dX6_bestTied_94 (by decide) (fun c_38 => ?_) (fun c_38 => ?_)
                · rw [if_pos c_38] at hR
                  have tc_38 : x3_19.toInt < (mX6_troubles x mill x4_19).toInt := i_lt.mp c_38
                  refine lv_iload hx hb dX6_bestTied_102 (lv_at hl 2 rfl) ?_
                  refine lv_goto (tgt := 108) hx hb dX6_bestTied_104 (by decide) ?_
                  refine lv_istore_n (lv' := [(2, .int x4_19), (6, .int 1), (5, .int (mX6_troubles x mill x4_19)), (4, .int x4_19), (3, .int x3_19), (0, .ref (h 0)), (1, .int mill)]) hx hb dX6_bestTied_108 rfl hl (by decide) rfl (fun ls hl => ?_)
                  refine lv_iload hx hb dX6_bestTied_109 (lv_at hl 2 rfl) ?_
                  refine lv_iload_n hx hb dX6_bestTied_111 rfl (lv_at hl 4 rfl) ?_
                  refine lv_icmp_le (tgt := 120) hx hb dX6_bestTied_112 (by decide) (fun c_39 => ?_) (fun c_39 => ?_)
                  · rw [if_pos c_39] at hR
                    have tc_39 : (mX6_troubles x mill x4_19).toInt ≤ x3_19.toInt := i_le.mp c_39
                    refine lv_iload_n hx hb dX6_bestTied_120 rfl (lv_at hl 4 rfl) ?_
                    refine lv_istore_n (lv' := [(3, .int x3_19), (2, .int x4_19), (6, .int 1), (5, .int (mX6_troubles x mill x4_19)), (4, .int x4_19), (0, .ref (h 0)), (1, .int mill)]) hx hb dX6_bestTied_121 rfl hl (by decide) rfl (fun ls hl => ?_)
                    refine lv_iinc (v := (x4_19 + 1)) (lv' := [(4, .int (x4_19 + 1)), (3, .int x3_19), (2, .int x4_19), (6, .int 1), (5, .int (mX6_troubles x mill x4_19)), (0, .ref (h 0)), (1, .int mill)]) hx hb dX6_bestTied_122 hl (k := 4) rfl rfl (by decide) rfl (fun ls hl => ?_)
                    refine lv_goto (tgt := 19) hx hb dX6_bestTied_125 (by decide) ?_
                    exact ih_19 (x4_19 + 1) x3_19 x4_19 (trN hn_19) (k_up hk_19 c_2) (Or.inr (by omega)) hR ls (lv_sub hl [0, 1, 2, 5, 6] rfl)
                  · rw [if_neg c_39] at hR
                    have tc_39 : ¬ (mX6_troubles x mill x4_19).toInt ≤ x3_19.toInt := fun z => c_39 (i_le.mpr z)
                    refine lv_iload hx hb dX6_bestTied_115 (lv_at hl 2 rfl) ?_
                    refine lv_goto (tgt := 121) hx hb dX6_bestTied_117 (by decide) ?_
                    refine lv_istore_n (lv' := [(3, .int (mX6_troubles x mill x4_19)), (2, .int x4_19), (6, .int 1), (5, .int (mX6_troubles x mill x4_19)), (4, .int x4_19), (0, .ref (h 0)), (1, .int mill)]) hx hb dX6_bestTied_121 rfl hl (by decide) rfl (fun ls hl => ?_)
                    refine lv_iinc (v := (x4_19 + 1)) (lv' := [(4, .int (x4_19 + 1)), (3, .int (mX6_troubles x mill x4_19)), (2, .int x4_19), (6, .int 1), (5, .int (mX6_troubles x mill x4_19)), (0, .ref (h 0)), (1, .int mill)]) hx hb dX6_bestTied_122 hl (k := 4) rfl rfl (by decide) rfl (fun ls hl => ?_)
                    refine lv_goto (tgt := 19) hx hb dX6_bestTied_125 (by decide) ?_
                    exact ih_19 (x4_19 + 1) (mX6_troubles x mill x4_19) x4_19 (trN hn_19) (k_up hk_19 c_2) (Or.inr (by omega)) hR ls (lv_sub hl [0, 1, 2, 5, 6] rfl)
                · rw [if_neg c_38] at hR
                  have tc_38 : ¬ x3_19.toInt < (mX6_troubles x mill x4_19).toInt := fun z => c_38 (i_lt.mpr z)
                  refine lv_iload hx hb dX6_bestTied_97 (lv_at hl 0 rfl) ?_
                  refine lv_if_eq (tgt := 107) hx hb dX6_bestTied_99 (by decide) (fun c_40 => absurd c_40 (by decide)) (fun _ => ?_)
                  refine lv_iload hx hb dX6_bestTied_102 (lv_at hl 2 rfl) ?_
                  refine lv_goto (tgt := 108) hx hb dX6_bestTied_104 (by decide) ?_
                  refine lv_istore_n (lv' := [(2, .int x4_19), (6, .int 1), (5, .int (mX6_troubles x mill x4_19)), (4, .int x4_19), (3, .int x3_19), (0, .ref (h 0)), (1, .int mill)]) hx hb dX6_bestTied_108 rfl hl (by decide) rfl (fun ls hl => ?_)
                  refine lv_iload hx hb dX6_bestTied_109 (lv_at hl 2 rfl) ?_
                  refine lv_iload_n hx hb dX6_bestTied_111 rfl (lv_at hl 4 rfl) ?_
                  refine lv_icmp_le (tgt := 120) hx hb dX6_bestTied_112 (by decide) (fun c_41 => ?_) (fun c_41 => ?_)
                  · rw [if_pos c_41] at hR
                    have tc_41 : (mX6_troubles x mill x4_19).toInt ≤ x3_19.toInt := i_le.mp c_41
                    refine lv_iload_n hx hb dX6_bestTied_120 rfl (lv_at hl 4 rfl) ?_
                    refine lv_istore_n (lv' := [(3, .int x3_19), (2, .int x4_19), (6, .int 1), (5, .int (mX6_troubles x mill x4_19)), (4, .int x4_19), (0, .ref (h 0)), (1, .int mill)]) hx hb dX6_bestTied_121 rfl hl (by decide) rfl (fun ls hl => ?_)
                    refine lv_iinc (v := (x4_19 + 1)) (lv' := [(4, .int (x4_19 + 1)), (3, .int x3_19), (2, .int x4_19), (6, .int 1), (5, .int (mX6_troubles x mill x4_19)), (0, .ref (h 0)), (1, .int mill)]) hx hb dX6_bestTied_122 hl (k := 4) rfl rfl (by decide) rfl (fun ls hl => ?_)
                    refine lv_goto (tgt := 19) hx hb dX6_bestTied_125 (by decide) ?_
                    exact ih_19 (x4_19 + 1) x3_19 x4_19 (trN hn_19) (k_up hk_19 c_2) (Or.inr (by omega)) hR ls (lv_sub hl [0, 1, 2, 5, 6] rfl)
                  · rw [if_neg c_41] at hR
                    have tc_41 : ¬ (mX6_troubles x mill x4_19).toInt ≤ x3_19.toInt := fun z => c_41 (i_le.mpr z)
                    refine lv_iload hx hb dX6_bestTied_115 (lv_at hl 2 rfl) ?_
                    refine lv_goto (tgt := 121) hx hb dX6_bestTied_117 (by decide) ?_
                    refine lv_istore_n (lv' := [(3, .int (mX6_troubles x mill x4_19)), (2, .int x4_19), (6, .int 1), (5, .int (mX6_troubles x mill x4_19)), (4, .int x4_19), (0, .ref (h 0)), (1, .int mill)]) hx hb dX6_bestTied_121 rfl hl (by decide) rfl (fun ls hl => ?_)
                    refine lv_iinc (v := (x4_19 + 1)) (lv' := [(4, .int (x4_19 + 1)), (3, .int (mX6_troubles x mill x4_19)), (2, .int x4_19), (6, .int 1), (5, .int (mX6_troubles x mill x4_19)), (0, .ref (h 0)), (1, .int mill)]) hx hb dX6_bestTied_122 hl (k := 4) rfl rfl (by decide) rfl (fun ls hl => ?_)
                    refine lv_goto (tgt := 19) hx hb dX6_bestTied_125 (by decide) ?_
                    exact ih_19 (x4_19 + 1) (mX6_troubles x mill x4_19) x4_19 (trN hn_19) (k_up hk_19 c_2) (Or.inr (by omega)) hR ls (lv_sub hl [0, 1, 2, 5, 6] rfl)
    exact key_19 _ 0 0 (-5) rfl (by decide) (Or.inl rfl) hR ls hl
  · rw [if_pos c_1] at hR
    refine lv_iconst (v := (-1)) hx hb dX6_bestTied_9 (by decide) ?_
    exact ro_iret hx hb hr hk hR dX6_bestTied_10

def mX6_ifVoted (x : Nat → Nat → Int32) (mill hour : Int32) : Int32 := (if (mX6_isMill x 0 mill) = 0 then (-1) else (if (mX6_isHour hour) = 0 then (-1) else (mX6_votes x mill hour)))
theorem kX6_ifVoted : yX6_ifVoted.cls = RX6 ∧ yX6_ifVoted.cls ≠ "java/lang/invoke/MethodHandle" ∧ yX6_ifVoted.cls ≠ "java/lang/invoke/VarHandle" ∧ (parseMethodDescriptor yX6_ifVoted.desc).map (fun d => d.parameters.length) = some 2 := by decide +kernel
set_option maxHeartbeats 4000000 in
set_option maxRecDepth 100000 in
theorem MX6_ifVoted (l : Launch) (D : va_G) (q : Nat → ClassId) (h : Nat → Nat) (x : Nat → Nat → Int32) (mill hour : Int32) (hC : cntP x 0) : roM l D (tyq q) yX6_ifVoted wsX6_ifVoted ({ frames := 7, cells := 0, slots := 0, locals := 169 } : Room) [.ref (h 0), .int mill, .int hour] (wM q h x) (some (.int (mX6_ifVoted x mill hour))) := by
  obtain ⟨R, hR⟩ : ∃ z, (mX6_ifVoted x mill hour) = z := ⟨_, rfl⟩
  rw [hR]
  unfold mX6_ifVoted at hR
  refine roM.of (cc := cX6_ifVoted) (maxL := 3) (ret := (some .int)) (by decide) rfl (Nat.le_of_ble_eq_true rfl) ?_
  intro p e s m below meth c ls hx hb hr hk hml hown hts hP hD hG hl
  have hl : lv_has ls 3 [(0, .ref (h 0)), (1, .int mill), (2, .int hour)] := hl
  have hC1 : 0 ≤ (x 0 0).toInt ∧ (x 0 0).toInt < 5 := hC.1
  have hC2 : 0 ≤ (x 0 13).toInt ∧ (x 0 13).toInt < 11 := hC.2
  refine lv_aload_n hx hb dX6_ifVoted_0 rfl (lv_at hl 0 rfl) ?_
  refine lv_iconst (v := 0) hx hb dX6_ifVoted_1 (by decide) ?_
  refine lv_iload_n hx hb dX6_ifVoted_2 rfl (lv_at hl 1 rfl) ?_
  refine ro_V (v := .int (mX6_isMill x 0 mill)) (rest := []) (As := [.int 0, .int mill]) hx hb hml hown hts hl (MX6_isMill l D q h x 0 mill (rg_t (i := 0) (x := 0) (show (0 : Int32).toInt = 0 from rfl) (by omega))) gX6_ifVoted_X6_isMill rfl kX6_isMill ⟨Nat.le_of_ble_eq_true rfl, Nat.le_of_ble_eq_true rfl⟩ rfl rfl hP (dT hD) hG (ci := 4) rfl rfl rfl rfl (Nat.le_of_ble_eq_true rfl) dX6_ifVoted_3 ⟨Nat.zero_le _, Nat.zero_le _⟩ ?_
  refine lv_if_eq (tgt := 25) hx hb dX6_ifVoted_6 (by decide) (fun c_1 => ?_) (fun c_1 => ?_)
  · rw [if_pos c_1] at hR
    refine lv_iconst (v := (-1)) hx hb dX6_ifVoted_25 (by decide) ?_
    exact ro_iret hx hb hr hk hR dX6_ifVoted_26
  · rw [if_neg c_1] at hR
    have fc_1 := f_isMill hC c_1
    refine lv_iload_n hx hb dX6_ifVoted_9 rfl (lv_at hl 2 rfl) ?_
    refine ro_S (v := .int (mX6_isHour hour)) (rest := []) (As := [.int hour]) hx hb hml hown hts hl (MX6_isHour l D q hour) gX6_ifVoted_X6_isHour rfl kX6_isHour ⟨Nat.le_of_ble_eq_true rfl, Nat.le_of_ble_eq_true rfl⟩ rfl rfl (hP.sub (ws' := []) [] rfl) (dT (hD.sub (ws' := []) [] (by decide) rfl)) hG rfl rfl (Nat.le_of_ble_eq_true rfl) dX6_ifVoted_10 ⟨Nat.zero_le _, Nat.zero_le _⟩ ?_
    refine lv_if_eq (tgt := 25) hx hb dX6_ifVoted_13 (by decide) (fun c_2 => ?_) (fun c_2 => ?_)
    · rw [if_pos c_2] at hR
      refine lv_iconst (v := (-1)) hx hb dX6_ifVoted_25 (by decide) ?_
      exact ro_iret hx hb hr hk hR dX6_ifVoted_26
    · rw [if_neg c_2] at hR
      have fc_2 := f6_isHour c_2
      refine lv_aload_n hx hb dX6_ifVoted_16 rfl (lv_at hl 0 rfl) ?_
      refine lv_iload_n hx hb dX6_ifVoted_17 rfl (lv_at hl 1 rfl) ?_
      refine lv_iload_n hx hb dX6_ifVoted_18 rfl (lv_at hl 2 rfl) ?_
      refine ro_V (v := .int (mX6_votes x mill hour)) (rest := []) (As := [.int mill, .int hour]) hx hb hml hown hts hl (MX6_votes l D q h x mill hour (by assumption) (rg_t (i := mill) (x := (mill).toInt) rfl (by omega)) (rg_t (i := hour) (x := (hour).toInt) rfl (by omega))) gX6_ifVoted_X6_votes rfl kX6_votes ⟨Nat.le_of_ble_eq_true rfl, Nat.le_of_ble_eq_true rfl⟩ rfl rfl hP (dT hD) hG (ci := 4) rfl rfl rfl rfl (Nat.le_of_ble_eq_true rfl) dX6_ifVoted_19 ⟨Nat.zero_le _, Nat.zero_le _⟩ ?_
      refine lv_goto (tgt := 26) hx hb dX6_ifVoted_22 (by decide) ?_
      exact ro_iret hx hb hr hk hR dX6_ifVoted_26
