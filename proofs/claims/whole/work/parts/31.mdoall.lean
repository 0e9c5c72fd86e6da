def mX6_doAll_24  (C : (Nat → Nat → Int32) → Int32 → Int32 → (Int32 × (Nat → Nat → Int32))) : Nat → (Nat → Nat → Int32) → Int32 → Int32 → (Int32 × (Nat → Nat → Int32))
  | 0, xL_24, x3_24, x2_24 => C xL_24 x3_24 x2_24
  | n_24 + 1, xL_24, x3_24, x2_24 => (if (xL_24 4 2) ≤ x3_24 then (C xL_24 x3_24 x2_24) else (lt (mX6_does xL_24 x3_24) (fun q_6 => (if 0 ≤ q_6.1 then (lt (mX6_partEnd q_6.2 x3_24) (fun r_8 => (mX6_doAll_24  C n_24 q_6.2 (r_8 + 1) (x2_24 + 1)))) else (q_6.1, q_6.2)))))
def mX6_doAll (x : Nat → Nat → Int32) : Int32 × (Nat → Nat → Int32) := (lt (mX6_fault x) (fun r_1 => (if r_1 = (-5) then (lt (mX6_copies x) (fun q_3 => (mX6_doAll_24  (fun xL_24 x3_24 x2_24 => (lt (mX6_acts xL_24 x2_24) (fun q_5 => (q_5.1, q_5.2)))) 200 q_3 0 0))) else (((-100) - r_1), x))))
theorem kX6_doAll : yX6_doAll.cls = RX6 ∧ yX6_doAll.cls ≠ "java/lang/invoke/MethodHandle" ∧ yX6_doAll.cls ≠ "java/lang/invoke/VarHandle" ∧ (parseMethodDescriptor yX6_doAll.desc).map (fun d => d.parameters.length) = some 0 := by decide +kernel
theorem iX6_doAll_X6 : ∀ w ∈ wsX60, w ∈ wsX6_doAll := fun w h => (List.mem_cons_of_mem _ (List.mem_append_right _ h))
set_option maxHeartbeats 4000000 in
set_option maxRecDepth 100000 in
theorem MX6_doAll (l : Launch) (D : va_G) (q : Nat → ClassId) (h : Nat → Nat) (x : Nat → Nat → Int32)  (hC : cntP x 0) (hkn : 0 ≤ (x 4 0).toInt ∧ (x 4 0).toInt < 5) (hL : 0 ≤ (x 4 2).toInt ∧ (x 4 2).toInt < 61) : muM l D (tyq q) yX6_doAll wsX6_doAll ({ frames := 9, cells := 0, slots := 0, locals := 223 } : Room) [.ref (h 0)] (wM q h x) (some (.int (mX6_doAll x).1)) (wM q h (mX6_doAll x).2) := by
  obtain ⟨R, hR⟩ : ∃ z, (mX6_doAll x) = z := ⟨_, rfl⟩
  rw [hR]
  unfold mX6_doAll at hR
  refine muM.of (cc := cX6_doAll) (maxL := 5) (ret := (some .int)) (by decide) rfl (Nat.le_of_ble_eq_true rfl) ?_
  intro p e s m below meth c ls A hx hb hr hk hml hown hts hP hD hG hA hl
  have hS : va_S A s.heap s.heap [] := va_S.rf
  have hl : lv_has ls 5 [(0, .ref (h 0))] := hl
  refine lv_aload_n hx hb dX6_doAll_0 rfl (lv_at hl 0 rfl) ?_
  refine ro_V (v := .int (mX6_fault x)) (rest := []) (As := []) hx hb hml hown hts hl (MX6_fault l D q h x hL) gX6_doAll_X6_fault rfl kX6_fault ⟨Nat.le_of_ble_eq_true rfl, Nat.le_of_ble_eq_true rfl⟩ rfl rfl hP (dT hD) hG (ci := 4) rfl rfl rfl rfl (Nat.le_of_ble_eq_true rfl) dX6_doAll_1 ⟨Nat.zero_le _, Nat.zero_le _⟩ ?_
  obtain ⟨r_1, er_1⟩ : ∃ z, z = (mX6_fault x) := ⟨_, rfl⟩
  rw [← er_1]
  replace hR := lt_e hR er_1
  refine lv_istore_n (lv' := [(1, .int r_1), (0, .ref (h 0))]) hx hb dX6_doAll_4 rfl hl (by decide) rfl (fun ls hl => ?_)
  refine lv_iload_n hx hb dX6_doAll_5 rfl (lv_at hl 0 rfl) ?_
  refine lv_bipush (v := (-5)) hx hb dX6_doAll_6 (by decide) ?_
  refine lv_icmp_eq (tgt := 16) hx hb dX6_doAll_8 (by decide) (fun c_2 => ?_) (fun c_2 => ?_)
  · rw [if_pos c_2] at hR
    have tc_2 : r_1.toInt = (-5) := i_eq.mp c_2
    refine lv_aload_n hx hb dX6_doAll_16 rfl (lv_at hl 1 rfl) ?_
    obtain ⟨q_3, eq_3⟩ : ∃ z, z = (mX6_copies x) := ⟨_, rfl⟩
    have hM := MX6_copies l D q h x
    rw [← eq_3] at hM
    replace hR := lt_e hR eq_3
    refine mu_V (D := D) (ws := (wM q h x)) (ws' := (wM q h q_3)) (rest := []) (As := []) hx hb hml hown hts hl hM gX6_doAll_X6_copies rfl kX6_copies ⟨Nat.le_of_ble_eq_true rfl, Nat.le_of_ble_eq_true rfl⟩ rfl rfl hP hD hS hG [0, 1, 2, 3, 4] rfl rfl (by decide) [5, 6, 7, 8, 9] rfl (by decide) rfl (ci := 4) rfl rfl rfl rfl (Nat.le_of_ble_eq_true rfl) dX6_doAll_17 ⟨Nat.zero_le _, Nat.zero_le _⟩ (fun H locs hP hD hS => ?_)
    refine lv_iconst (v := 0) hx hb dX6_doAll_20 (by decide) ?_
    refine lv_istore_n (lv' := [(2, .int 0), (1, .int r_1), (0, .ref (h 0))]) hx hb dX6_doAll_21 rfl hl (by decide) rfl (fun ls hl => ?_)
    refine lv_iconst (v := 0) hx hb dX6_doAll_22 (by decide) ?_
    refine lv_istore_n (lv' := [(3, .int 0), (2, .int 0), (1, .int r_1), (0, .ref (h 0))]) hx hb dX6_doAll_23 rfl hl (by decide) rfl (fun ls hl => ?_)
    have key_24 : ∀ (n_24 : Nat) (xL_24 : Nat → Nat → Int32) (x3_24 : Int32) (x2_24 : Int32) (H : Heap) (locs : List Loc) , tw x3_24 ≤ n_24 → xL_24 4 = x 4 → 0 ≤ (xL_24 4 2).toInt ∧ (xL_24 4 2).toInt < 61 → cntP xL_24 148 → vch xL_24 x3_24 → mX6_doAll_24  (fun xL_24 x3_24 x2_24 => (lt (mX6_acts xL_24 x2_24) (fun q_5 => (q_5.1, q_5.2)))) n_24 xL_24 x3_24 x2_24 = R → va_P D vwCl (wM q h xL_24) H → va_D A (wM q h xL_24) → va_S A s.heap H locs → ∀ ls : Array Slot, lv_has ls 5 [(3, .int x3_24), (2, .int x2_24), (1, .int r_1), (0, .ref (h 0))] → W p l e ({ frames := 9, cells := 0, slots := 0, locals := 223 } : Room) s m ([.ref (h 0)] : List Value).toArray below meth c H locs 0 0 (MQ below (muQ D (some (.int R.1)) (wM q h x) (wM q h R.2)) ([.ref (h 0)] : List Value).toArray s 0 0 (wAt (wM q h x))) (F0 m 24 ls []) := by
      intro n_24
      induction n_24 with
      | zero =>
        intro xL_24 x3_24 x2_24 H locs hn_24 h4_24 hL_24 hC8_24 hv_24 hR hP hD hS ls hl
        rw [mX6_doAll_24] at hR
        refine lv_iload_n hx hb dX6_doAll_24 rfl (lv_at hl 0 rfl) ?_
        refine lv_aload_n hx hb dX6_doAll_25 rfl (lv_at hl 3 rfl) ?_
        refine va_get (D := D) (ci := 4) (v := .int (xL_24 4 2)) (C := RX6) (T := TX6) (N := 7) hx hb hts iX6_doAll_X6 hown hG.1 hP 0 rfl rfl 6 (by decide) (hts (.fieldLink RX6 154 "MillComplaintsModel" "length" "I") (List.mem_of_getElem? (i := 1) rfl)) (fun _ h9 => h9) rfl dX6_doAll_26 ?_
        refine lv_icmp_ge (tgt := 61) hx hb dX6_doAll_29 (by decide) (fun c_4 => ?_) (fun c_4 => (tw0 hn_24 c_4 (by omega)).elim)
        refine lv_aload_n hx hb dX6_doAll_61 rfl (lv_at hl 3 rfl) ?_
        refine lv_iload_n hx hb dX6_doAll_62 rfl (lv_at hl 1 rfl) ?_
        obtain ⟨q_5, eq_5⟩ : ∃ z, z = (mX6_acts xL_24 x2_24) := ⟨_, rfl⟩
        have hM := MX6_acts l D q h xL_24 x2_24 (by rw [show xL_24 4 = x 4 from h4_24]; exact hkn)
        rw [← eq_5] at hM
        replace hR := lt_e hR eq_5
        refine mu_V (D := D) (ws := (wM q h xL_24)) (ws' := (wM q h q_5.2)) (rest := []) (As := [.int x2_24]) hx hb hml hown hts hl hM gX6_doAll_X6_acts rfl kX6_acts ⟨Nat.le_of_ble_eq_true rfl, Nat.le_of_ble_eq_true rfl⟩ rfl rfl hP hD hS hG [0, 1, 2, 3, 4] rfl rfl (by decide) [5, 6, 7, 8, 9] rfl (by decide) rfl (ci := 4) rfl rfl rfl rfl (Nat.le_of_ble_eq_true rfl) dX6_doAll_63 ⟨Nat.zero_le _, Nat.zero_le _⟩ (fun H locs hP hD hS => ?_)
        subst hR
        exact mu_iret hx hb hr hk hA hS hP rfl dX6_doAll_66
      | succ n_24 ih_24 =>
        intro xL_24 x3_24 x2_24 H locs hn_24 h4_24 hL_24 hC8_24 hv_24 hR hP hD hS ls hl
        rw [mX6_doAll_24] at hR
        refine lv_iload_n hx hb dX6_doAll_24 rfl (lv_at hl 0 rfl) ?_
        refine lv_aload_n hx hb dX6_doAll_25 rfl (lv_at hl 3 rfl) ?_
        refine va_get (D := D) (ci := 4) (v := .int (xL_24 4 2)) (C := RX6) (T := TX6) (N := 7) hx hb hts iX6_doAll_X6 hown hG.1 hP 0 rfl rfl 6 (by decide) (hts (.fieldLink RX6 154 "MillComplaintsModel" "length" "I") (List.mem_of_getElem? (i := 1) rfl)) (fun _ h9 => h9) rfl dX6_doAll_26 ?_
        refine lv_icmp_ge (tgt := 61) hx hb dX6_doAll_29 (by decide) (fun c_4 => ?_) (fun c_4 => ?_)
        · rw [if_pos c_4] at hR
          refine lv_aload_n hx hb dX6_doAll_61 rfl (lv_at hl 3 rfl) ?_
          refine lv_iload_n hx hb dX6_doAll_62 rfl (lv_at hl 1 rfl) ?_
          obtain ⟨q_5, eq_5⟩ : ∃ z, z = (mX6_acts xL_24 x2_24) := ⟨_, rfl⟩
          have hM := MX6_acts l D q h xL_24 x2_24 (by rw [show xL_24 4 = x 4 from h4_24]; exact hkn)
          rw [← eq_5] at hM
          replace hR := lt_e hR eq_5
          refine mu_V (D := D) (ws := (wM q h xL_24)) (ws' := (wM q h q_5.2)) (rest := []) (As := [.int x2_24]) hx hb hml hown hts hl hM gX6_doAll_X6_acts rfl kX6_acts ⟨Nat.le_of_ble_eq_true rfl, Nat.le_of_ble_eq_true rfl⟩ rfl rfl hP hD hS hG [0, 1, 2, 3, 4] rfl rfl (by decide) [5, 6, 7, 8, 9] rfl (by decide) rfl (ci := 4) rfl rfl rfl rfl (Nat.le_of_ble_eq_true rfl) dX6_doAll_63 ⟨Nat.zero_le _, Nat.zero_le _⟩ (fun H locs hP hD hS => ?_)
          subst hR
          exact mu_iret hx hb hr hk hA hS hP rfl dX6_doAll_66
        · rw [if_neg c_4] at hR
          have hpl := vch_in hv_24 c_4
          refine lv_aload_n hx hb dX6_doAll_32 rfl (lv_at hl 3 rfl) ?_
          refine lv_iload_n hx hb dX6_doAll_33 rfl (lv_at hl 0 rfl) ?_
          obtain ⟨q_6, eq_6⟩ : ∃ z, z = (mX6_does xL_24 x3_24) := ⟨_, rfl⟩
          have hM := MX6_does l D q h xL_24 x3_24 hC8_24 (by rw [show xL_24 4 = x 4 from h4_24]; exact hL) (rg_t (i := x3_24) (x := (x3_24).toInt) rfl (by omega)) (vch_part hL_24 hv_24 c_4)
          rw [← eq_6] at hM
          replace hR := lt_e hR eq_6
          refine mu_V (D := D) (ws := (wM q h xL_24)) (ws' := (wM q h q_6.2)) (rest := []) (As := [.int x3_24]) hx hb hml hown hts hl hM gX6_doAll_X6_does rfl kX6_does ⟨Nat.le_of_ble_eq_true rfl, Nat.le_of_ble_eq_true rfl⟩ rfl rfl hP hD hS hG [0, 1, 2, 3, 4] rfl rfl (by decide) [5, 6, 7, 8, 9] rfl (by decide) rfl (ci := 4) rfl rfl rfl rfl (Nat.le_of_ble_eq_true rfl) dX6_doAll_34 ⟨Nat.zero_le _, Nat.zero_le _⟩ (fun H locs hP hD hS => ?_)
          refine lv_istore (lv' := [(4, .int q_6.1), (3, .int x3_24), (2, .int x2_24), (1, .int r_1), (0, .ref (h 0))]) hx hb dX6_doAll_37 hl (by decide) rfl (fun ls hl => ?_)
          refine lv_iload hx hb dX6_doAll_39 (lv_at hl 0 rfl) ?_
          refine lv_if_ge (tgt := 47) hx hb dX6_doAll_41 (by decide) (fun c_7 => ?_) (fun c_7 => ?_)
          · rw [if_pos c_7] at hR
            have tc_7 : 0 ≤ q_6.1.toInt := i_le.mp c_7
            refine lv_iinc (v := (x2_24 + 1)) (lv' := [(2, .int (x2_24 + 1)), (4, .int q_6.1), (3, .int x3_24), (1, .int r_1), (0, .ref (h 0))]) hx hb dX6_doAll_47 hl (k := 2) rfl rfl (by decide) rfl (fun ls hl => ?_)
            refine lv_aload_n hx hb dX6_doAll_50 rfl (lv_at hl 4 rfl) ?_
            refine lv_iload_n hx hb dX6_doAll_51 rfl (lv_at hl 2 rfl) ?_
            refine ro_V (v := .int (mX6_partEnd q_6.2 x3_24)) (rest := []) (As := [.int x3_24]) hx hb hml hown hts hl (MX6_partEnd l D q h q_6.2 x3_24 (by rw [show q_6.2 4 = x 4 from (by rw [eq_6]; exact (k4_does _ _).trans h4_24)]; exact hL) (rg_t (i := x3_24) (x := (x3_24).toInt) rfl (by omega))) gX6_doAll_X6_partEnd rfl kX6_partEnd ⟨Nat.le_of_ble_eq_true rfl, Nat.le_of_ble_eq_true rfl⟩ rfl rfl hP (dT hD) hG (ci := 4) rfl rfl rfl rfl (Nat.le_of_ble_eq_true rfl) dX6_doAll_52 ⟨Nat.zero_le _, Nat.zero_le _⟩ ?_
            obtain ⟨r_8, er_8⟩ : ∃ z, z = (mX6_partEnd q_6.2 x3_24) := ⟨_, rfl⟩
            have b0_r_8 := b_partEnd q_6.2 x3_24 (by omega)
            rw [← er_8] at b0_r_8
            rw [← er_8]
            replace hR := lt_e hR er_8
            refine lv_iconst (v := 1) hx hb dX6_doAll_55 (by decide) ?_
            refine lv_iadd hx hb dX6_doAll_56 ?_
            refine lv_istore_n (lv' := [(3, .int (r_8 + 1)), (2, .int (x2_24 + 1)), (4, .int q_6.1), (1, .int r_1), (0, .ref (h 0))]) hx hb dX6_doAll_57 rfl hl (by decide) rfl (fun ls hl => ?_)
            refine lv_goto (tgt := 24) hx hb dX6_doAll_58 (by decide) ?_
            have h3_n : q_6.2 3 = xL_24 3 := by rw [eq_6]; exact k3_does _ _
            have h4_m : q_6.2 4 = xL_24 4 := by rw [eq_6]; exact k4_does _ _
            have h4_n : q_6.2 4 = x 4 := h4_m.trans h4_24
            have hL_n : 0 ≤ (q_6.2 4 2).toInt ∧ (q_6.2 4 2).toInt < 61 := by rw [h4_m]; exact hL_24
            have hC_n : cntP q_6.2 148 := by rw [eq_6]; exact cnt_does hC8_24 (by omega)
            have hv_m := vch_next hL_n (vch_cong h3_n.symm h4_m.symm hv_24) (by rw [h4_m]; exact c_4)
            rw [← er_8] at hv_m
            have hv_n := hv_m.1
            have hs_n := hv_m.2
            exact ih_24 q_6.2 (r_8 + 1) (x2_24 + 1) _ _ (twN hn_24 hs_n) h4_n hL_n hC_n hv_n hR hP hD hS ls (lv_sub hl [0, 1, 3, 4] rfl)
          · rw [if_neg c_7] at hR
            have tc_7 : ¬ 0 ≤ q_6.1.toInt := fun z => c_7 (i_le.mpr z)
            refine lv_iload hx hb dX6_doAll_44 (lv_at hl 0 rfl) ?_
            subst hR
            exact mu_iret hx hb hr hk hA hS hP rfl dX6_doAll_46
    exact key_24 _ q_3 0 0 _ _ (by decide) (by rw [eq_3]; exact (k4_copies _).trans rfl) (by rw [show q_3 4 = x 4 from (by rw [eq_3]; exact (k4_copies _).trans rfl)]; exact hL) (by rw [eq_3]; exact cnt_copies hC) (by rw [eq_3]; exact vch_cong (k3_copies x).symm (k4_copies x).symm (vch_0 (by rw [← er_1]; exact c_2))) hR hP hD hS ls hl
  · rw [if_neg c_2] at hR
    have tc_2 : ¬ r_1.toInt = (-5) := fun z => c_2 (i_eq.mpr z)
    refine lv_bipush (v := (-100)) hx hb dX6_doAll_11 (by decide) ?_
    refine lv_iload_n hx hb dX6_doAll_13 rfl (lv_at hl 0 rfl) ?_
    refine lv_isub hx hb dX6_doAll_14 ?_
    subst hR
    exact mu_iret hx hb hr hk hA hS hP rfl dX6_doAll_15
