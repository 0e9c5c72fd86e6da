def mX6_points_6 (x : Nat → Nat → Int32) (pp : Int32) (mill : Int32) (hour : Int32) (C : Int32 → Int32 → Int32) : Nat → Int32 → Int32 → Int32
  | 0, x5_6, x4_6 => C x5_6 x4_6
  | n_6 + 1, x5_6, x4_6 => (mX6_points_6 x pp mill hour C n_6 (x5_6 + 1) (x4_6 + ((((x 0) (((((pp + 68) + (8 * (x5_6 / 2))) + (2 * mill)) + (x5_6 - x5_6 / 2 * 2))).toNatClampNeg) >>> (hour &&& 31)) &&& 1)))
def mX6_points (x : Nat → Nat → Int32) (pp mill hour : Int32) : Int32 := (mX6_points_6 x pp mill hour (fun x5_6 x4_6 => x4_6) (tr 0 20) 0 0)
theorem kX6_points : yX6_points.cls = RX6 ∧ yX6_points.cls ≠ "java/lang/invoke/MethodHandle" ∧ yX6_points.cls ≠ "java/lang/invoke/VarHandle" ∧ (parseMethodDescriptor yX6_points.desc).map (fun d => d.parameters.length) = some 3 := by decide +kernel
theorem iX6_points_X6 : ∀ w ∈ wsX60, w ∈ wsX6_points := fun w h => (List.mem_cons_of_mem _ (List.mem_append_right _ h))
set_option maxHeartbeats 4000000 in
set_option maxRecDepth 100000 in
theorem MX6_points (l : Launch) (D : va_G) (q : Nat → ClassId) (h : Nat → Nat) (x : Nat → Nat → Int32) (pp mill hour : Int32) (hpp : 0 ≤ pp.toInt ∧ pp.toInt < 149) (hmill : 0 ≤ mill.toInt ∧ mill.toInt < 4) : roM l D (tyq q) yX6_points wsX6_points ({ frames := 1, cells := 0, slots := 0, locals := 23 } : Room) [.ref (h 0), .int pp, .int mill, .int hour] (wM q h x) (some (.int (mX6_points x pp mill hour))) := by
  obtain ⟨R, hR⟩ : ∃ z, (mX6_points x pp mill hour) = z := ⟨_, rfl⟩
  rw [hR]
  unfold mX6_points at hR
  refine roM.of (cc := cX6_points) (maxL := 6) (ret := (some .int)) (by decide) rfl (Nat.le_of_ble_eq_true rfl) ?_
  intro p e s m below meth c ls hx hb hr hk hml hown hts hP hD hG hl
  have hl : lv_has ls 6 [(0, .ref (h 0)), (1, .int pp), (2, .int mill), (3, .int hour)] := hl
  refine lv_iconst (v := 0) hx hb dX6_points_0 (by decide) ?_
  refine lv_istore (lv' := [(4, .int 0), (0, .ref (h 0)), (1, .int pp), (2, .int mill), (3, .int hour)]) hx hb dX6_points_1 hl (by decide) rfl (fun ls hl => ?_)
  refine lv_iconst (v := 0) hx hb dX6_points_3 (by decide) ?_
  refine lv_istore (lv' := [(5, .int 0), (4, .int 0), (0, .ref (h 0)), (1, .int pp), (2, .int mill), (3, .int hour)]) hx hb dX6_points_4 hl (by decide) rfl (fun ls hl => ?_)
  have key_6 : ∀ (n_6 : Nat) (x5_6 : Int32) (x4_6 : Int32), tr x5_6 20 = n_6 → 0 ≤ x5_6.toInt → mX6_points_6 x pp mill hour (fun x5_6 x4_6 => x4_6) n_6 x5_6 x4_6 = R → ∀ ls : Array Slot, lv_has ls 6 [(5, .int x5_6), (4, .int x4_6), (0, .ref (h 0)), (1, .int pp), (2, .int mill), (3, .int hour)] → W p l e ({ frames := 1, cells := 0, slots := 0, locals := 23 } : Room) s m ([.ref (h 0), .int pp, .int mill, .int hour] : List Value).toArray below meth c s.heap [] 0 0 (MQ below (roQ (some (.int R))) ([.ref (h 0), .int pp, .int mill, .int hour] : List Value).toArray s 0 0 (fun _ => False)) (F0 m 6 ls []) := by
    intro n_6
    induction n_6 with
    | zero =>
      intro x5_6 x4_6 hn_6 hk_6 hR ls hl
      rw [mX6_points_6] at hR
      refine lv_iload hx hb dX6_points_6 (lv_at hl 0 rfl) ?_
      refine lv_bipush (v := 20) hx hb dX6_points_8 (by decide) ?_
      refine lv_icmp_ge (tgt := 46) hx hb dX6_points_10 (by decide) (fun c_1 => ?_) (fun c_1 => (tr0 hn_6 c_1).elim)
      refine lv_iload hx hb dX6_points_46 (lv_at hl 1 rfl) ?_
      exact ro_iret hx hb hr hk hR dX6_points_48
    | succ n_6 ih_6 =>
      intro x5_6 x4_6 hn_6 hk_6 hR ls hl
      rw [mX6_points_6] at hR
      refine lv_iload hx hb dX6_points_6 (lv_at hl 0 rfl) ?_
      refine lv_bipush (v := 20) hx hb dX6_points_8 (by decide) ?_
      refine lv_icmp_ge (tgt := 46) hx hb dX6_points_10 (by decide) (fun c_1 => (trS hn_6 c_1).elim) (fun c_1 => ?_)
      have hlt_c_1 : x5_6.toInt < 20 := k_lt c_1
      refine lv_iload hx hb dX6_points_13 (lv_at hl 1 rfl) ?_
      refine lv_aload_n hx hb dX6_points_15 rfl (lv_at hl 2 rfl) ?_
      refine va_get (D := D) (ci := 4) (v := .ref (h 1)) (C := RX6) (T := TX6) (N := 7) hx hb hts iX6_points_X6 hown hG.1 hP 0 rfl rfl 0 (by decide) (hts (.fieldLink RX6 7 "MillComplaintsModel" "s" "[I") (List.mem_of_getElem? (i := 1) rfl)) (fun _ h9 => h9) rfl dX6_points_16 ?_
      refine lv_iload_n hx hb dX6_points_19 rfl (lv_at hl 3 rfl) ?_
      refine lv_iload hx hb dX6_points_20 (lv_at hl 0 rfl) ?_
      refine lv_iconst (v := 2) hx hb dX6_points_22 (by decide) ?_
      refine lv_idiv hx hb dX6_points_23 (by decide) ?_
      refine lv_iload_n hx hb dX6_points_24 rfl (lv_at hl 4 rfl) ?_
      refine lv_iload hx hb dX6_points_25 (lv_at hl 0 rfl) ?_
      refine lv_iconst (v := 2) hx hb dX6_points_27 (by decide) ?_
      refine lv_irem hx hb dX6_points_28 (by decide) ?_
      refine ro_S (v := .int ((((pp + 68) + (8 * (x5_6 / 2))) + (2 * mill)) + (x5_6 - x5_6 / 2 * 2))) (rest := [.ref (h 1), .int x4_6]) (As := [.int pp, .int (x5_6 / 2), .int mill, .int (x5_6 - x5_6 / 2 * 2)]) hx hb hml hown hts hl (MX6_stands l D q pp (x5_6 / 2) mill (x5_6 - x5_6 / 2 * 2)) gX6_points_X6_stands rfl kX6_stands ⟨Nat.le_of_ble_eq_true rfl, Nat.le_of_ble_eq_true rfl⟩ rfl rfl (hP.sub (ws' := []) [] rfl) (dT (hD.sub (ws' := []) [] (by decide) rfl)) hG rfl rfl (Nat.le_of_ble_eq_true rfl) dX6_points_29 ⟨Nat.zero_le _, Nat.zero_le _⟩ ?_
      refine va_iald hx hb hG.1 hP 1 0 rfl rfl (ix_t (i := ((((pp + 68) + (8 * (x5_6 / 2))) + (2 * mill)) + (x5_6 - x5_6 / 2 * 2))) (x := (((((pp).toInt + 68) + (8 * ((x5_6).toInt / 2))) + (2 * (mill).toInt)) + ((x5_6).toInt % 2))) (n := 296) (ti_add (ti_add (ti_add (ti_add rfl (show (68 : Int32).toInt = 68 from rfl) (by omega)) (ti_mul (show (8 : Int32).toInt = 8 from rfl) (ti_div rfl (d := 2) rfl (by omega) (by omega)) (by omega)) (by omega)) (ti_mul (show (2 : Int32).toInt = 2 from rfl) rfl (by omega)) (by omega)) (ti_rem rfl (d := 2) rfl (by omega) (by omega)) (by omega)) (by omega)) dX6_points_32 ?_
      refine lv_iload_n hx hb dX6_points_33 rfl (lv_at hl 5 rfl) ?_
      refine lv_ishr hx hb dX6_points_34 ?_
      refine lv_iconst (v := 1) hx hb dX6_points_35 (by decide) ?_
      refine lv_iand hx hb dX6_points_36 ?_
      refine lv_iadd hx hb dX6_points_37 ?_
      refine lv_istore (lv' := [(4, .int (x4_6 + ((((x 0) (((((pp + 68) + (8 * (x5_6 / 2))) + (2 * mill)) + (x5_6 - x5_6 / 2 * 2))).toNatClampNeg) >>> (hour &&& 31)) &&& 1))), (5, .int x5_6), (0, .ref (h 0)), (1, .int pp), (2, .int mill), (3, .int hour)]) hx hb dX6_points_38 hl (by decide) rfl (fun ls hl => ?_)
      refine lv_iinc (v := (x5_6 + 1)) (lv' := [(5, .int (x5_6 + 1)), (4, .int (x4_6 + ((((x 0) (((((pp + 68) + (8 * (x5_6 / 2))) + (2 * mill)) + (x5_6 - x5_6 / 2 * 2))).toNatClampNeg) >>> (hour &&& 31)) &&& 1))), (0, .ref (h 0)), (1, .int pp), (2, .int mill), (3, .int hour)]) hx hb dX6_points_40 hl (k := 1) rfl rfl (by decide) rfl (fun ls hl => ?_)
      refine lv_goto (tgt := 6) hx hb dX6_points_43 (by decide) ?_
      exact ih_6 (x5_6 + 1) (x4_6 + ((((x 0) (((((pp + 68) + (8 * (x5_6 / 2))) + (2 * mill)) + (x5_6 - x5_6 / 2 * 2))).toNatClampNeg) >>> (hour &&& 31)) &&& 1)) (trN hn_6) (k_up hk_6 c_1) hR ls (lv_sub hl [0, 1, 2, 3, 4, 5] rfl)
  exact key_6 _ 0 0 rfl (by decide) hR ls hl

def mX6_standsAny (x : Nat → Nat → Int32) (house mill hour : Int32) : Int32 := (if (((((x 0) (((((0 + 68) + (8 * house)) + (2 * mill)) + 0)).toNatClampNeg) ||| ((x 0) (((((0 + 68) + (8 * house)) + (2 * mill)) + 1)).toNatClampNeg)) >>> (hour &&& 31)) &&& 1) = 1 then 1 else 0)
theorem kX6_standsAny : yX6_standsAny.cls = RX6 ∧ yX6_standsAny.cls ≠ "java/lang/invoke/MethodHandle" ∧ yX6_standsAny.cls ≠ "java/lang/invoke/VarHandle" ∧ (parseMethodDescriptor yX6_standsAny.desc).map (fun d => d.parameters.length) = some 3 := by decide +kernel
theorem iX6_standsAny_X6 : ∀ w ∈ wsX60, w ∈ wsX6_standsAny := fun w h => (List.mem_cons_of_mem _ (List.mem_append_right _ h))
set_option maxHeartbeats 4000000 in
set_option maxRecDepth 100000 in
theorem MX6_standsAny (l : Launch) (D : va_G) (q : Nat → ClassId) (h : Nat → Nat) (x : Nat → Nat → Int32) (house mill hour : Int32) (hhouse : 0 ≤ house.toInt ∧ house.toInt < 10) (hmill : 0 ≤ mill.toInt ∧ mill.toInt < 4) : roM l D (tyq q) yX6_standsAny wsX6_standsAny ({ frames := 1, cells := 0, slots := 0, locals := 23 } : Room) [.ref (h 0), .int house, .int mill, .int hour] (wM q h x) (some (.int (mX6_standsAny x house mill hour))) := by
  obtain ⟨R, hR⟩ : ∃ z, (mX6_standsAny x house mill hour) = z := ⟨_, rfl⟩
  rw [hR]
  unfold mX6_standsAny at hR
  refine roM.of (cc := cX6_standsAny) (maxL := 4) (ret := (some .boolean)) (by decide) rfl (Nat.le_of_ble_eq_true rfl) ?_
  intro p e s m below meth c ls hx hb hr hk hml hown hts hP hD hG hl
  have hl : lv_has ls 4 [(0, .ref (h 0)), (1, .int house), (2, .int mill), (3, .int hour)] := hl
  refine lv_aload_n hx hb dX6_standsAny_0 rfl (lv_at hl 0 rfl) ?_
  refine va_get (D := D) (ci := 4) (v := .ref (h 1)) (C := RX6) (T := TX6) (N := 7) hx hb hts iX6_standsAny_X6 hown hG.1 hP 0 rfl rfl 0 (by decide) (hts (.fieldLink RX6 7 "MillComplaintsModel" "s" "[I") (List.mem_of_getElem? (i := 1) rfl)) (fun _ h9 => h9) rfl dX6_standsAny_1 ?_
  refine lv_iconst (v := 0) hx hb dX6_standsAny_4 (by decide) ?_
  refine lv_iload_n hx hb dX6_standsAny_5 rfl (lv_at hl 1 rfl) ?_
  refine lv_iload_n hx hb dX6_standsAny_6 rfl (lv_at hl 2 rfl) ?_
  refine lv_iconst (v := 0) hx hb dX6_standsAny_7 (by decide) ?_
  refine ro_S (v := .int ((((0 + 68) + (8 * house)) + (2 * mill)) + 0)) (rest := [.ref (h 1)]) (As := [.int 0, .int house, .int mill, .int 0]) hx hb hml hown hts hl (MX6_stands l D q 0 house mill 0) gX6_standsAny_X6_stands rfl kX6_stands ⟨Nat.le_of_ble_eq_true rfl, Nat.le_of_ble_eq_true rfl⟩ rfl rfl (hP.sub (ws' := []) [] rfl) (dT (hD.sub (ws' := []) [] (by decide) rfl)) hG rfl rfl (Nat.le_of_ble_eq_true rfl) dX6_standsAny_8 ⟨Nat.zero_le _, Nat.zero_le _⟩ ?_
  refine va_iald hx hb hG.1 hP 1 0 rfl rfl (ix_t (i := ((((0 + 68) + (8 * house)) + (2 * mill)) + 0)) (x := ((((0 + 68) + (8 * (house).toInt)) + (2 * (mill).toInt)) + 0)) (n := 296) (ti_add (ti_add (ti_add (ti_add (show (0 : Int32).toInt = 0 from rfl) (show (68 : Int32).toInt = 68 from rfl) (by omega)) (ti_mul (show (8 : Int32).toInt = 8 from rfl) rfl (by omega)) (by omega)) (ti_mul (show (2 : Int32).toInt = 2 from rfl) rfl (by omega)) (by omega)) (show (0 : Int32).toInt = 0 from rfl) (by omega)) (by omega)) dX6_standsAny_11 ?_
  refine lv_aload_n hx hb dX6_standsAny_12 rfl (lv_at hl 0 rfl) ?_
  refine va_get (D := D) (ci := 4) (v := .ref (h 1)) (C := RX6) (T := TX6) (N := 7) hx hb hts iX6_standsAny_X6 hown hG.1 hP 0 rfl rfl 0 (by decide) (hts (.fieldLink RX6 7 "MillComplaintsModel" "s" "[I") (List.mem_of_getElem? (i := 1) rfl)) (fun _ h9 => h9) rfl dX6_standsAny_13 ?_
  refine lv_iconst (v := 0) hx hb dX6_standsAny_16 (by decide) ?_
  refine lv_iload_n hx hb dX6_standsAny_17 rfl (lv_at hl 1 rfl) ?_
  refine lv_iload_n hx hb dX6_standsAny_18 rfl (lv_at hl 2 rfl) ?_
  refine lv_iconst (v := 1) hx hb dX6_standsAny_19 (by decide) ?_
  refine ro_S (v := .int ((((0 + 68) + (8 * house)) + (2 * mill)) + 1)) (rest := [.ref (h 1), .int ((x 0) (((((0 + 68) + (8 * house)) + (2 * mill)) + 0)).toNatClampNeg)]) (As := [.int 0, .int house, .int mill, .int 1]) hx hb hml hown hts hl (MX6_stands l D q 0 house mill 1) gX6_standsAny_X6_stands rfl kX6_stands ⟨Nat.le_of_ble_eq_true rfl, Nat.le_of_ble_eq_true rfl⟩ rfl rfl (hP.sub (ws' := []) [] rfl) (dT (hD.sub (ws' := []) [] (by decide) rfl)) hG rfl rfl (Nat.le_of_ble_eq_true rfl) dX6_standsAny_20 ⟨Nat.zero_le _, Nat.zero_le _⟩ ?_
  refine va_iald hx hb hG.1 hP 1 0 rfl rfl (ix_t (i := ((((0 + 68) + (8 * house)) + (2 * mill)) + 1)) (x := ((((0 + 68) + (8 * (house).toInt)) + (2 * (mill).toInt)) + 1)) (n := 296) (ti_add (ti_add (ti_add (ti_add (show (0 : Int32).toInt = 0 from rfl) (show (68 : Int32).toInt = 68 from rfl) (by omega)) (ti_mul (show (8 : Int32).toInt = 8 from rfl) rfl (by omega)) (by omega)) (ti_mul (show (2 : Int32).toInt = 2 from rfl) rfl (by omega)) (by omega)) (show (1 : Int32).toInt = 1 from rfl) (by omega)) (by omega)) dX6_standsAny_23 ?_
  refine lv_ior hx hb dX6_standsAny_24 ?_
  refine lv_iload_n hx hb dX6_standsAny_25 rfl (lv_at hl 3 rfl) ?_
  refine lv_ishr hx hb dX6_standsAny_26 ?_
  refine lv_iconst (v := 1) hx hb dX6_standsAny_27 (by decide) ?_
  refine lv_iand hx hb dX6_standsAny_28 ?_
  refine lv_iconst (v := 1) hx hb dX6_standsAny_29 (by decide) ?_
  refine lv_icmp_ne (tgt := 37) hx hb dX6_standsAny_30 (by decide) (fun c_1 => ?_) (fun c_1 => ?_)
  · rw [if_neg c_1] at hR
    have tc_1 : ¬ (((((x 0) (((((0 + 68) + (8 * house)) + (2 * mill)) + 0)).toNatClampNeg) ||| ((x 0) (((((0 + 68) + (8 * house)) + (2 * mill)) + 1)).toNatClampNeg)) >>> (hour &&& 31)) &&& 1).toInt = 1 := fun z => c_1 (i_eq.mpr z)
    refine lv_iconst (v := 0) hx hb dX6_standsAny_37 (by decide) ?_
    exact ro_zret hx hb hr hk (Or.inl rfl) hR dX6_standsAny_38
  · rw [if_pos c_1] at hR
    have tc_1 : (((((x 0) (((((0 + 68) + (8 * house)) + (2 * mill)) + 0)).toNatClampNeg) ||| ((x 0) (((((0 + 68) + (8 * house)) + (2 * mill)) + 1)).toNatClampNeg)) >>> (hour &&& 31)) &&& 1).toInt = 1 := i_eq.mp c_1
    refine lv_iconst (v := 1) hx hb dX6_standsAny_33 (by decide) ?_
    refine lv_goto (tgt := 38) hx hb dX6_standsAny_34 (by decide) ?_
    exact ro_zret hx hb hr hk (Or.inr rfl) hR dX6_standsAny_38

def mX6_votes_5 (x : Nat → Nat → Int32) (mill : Int32) (hour : Int32) (C : Int32 → Int32 → Int32) : Nat → Int32 → Int32 → Int32
  | 0, x4_5, x3_5 => C x4_5 x3_5
  | n_5 + 1, x4_5, x3_5 => (if (mX6_wouldTroubleAny x 0 x4_5 mill hour) = 0 then (mX6_votes_5 x mill hour C n_5 (x4_5 + 1) (x3_5 + 1)) else (mX6_votes_5 x mill hour C n_5 (x4_5 + 1) (x3_5 + 0)))
def mX6_votes (x : Nat → Nat → Int32) (mill hour : Int32) : Int32 := (mX6_votes_5 x mill hour (fun x4_5 x3_5 => x3_5) (tr 0 ((x 0) 13)) 0 0)
theorem kX6_votes : yX6_votes.cls = RX6 ∧ yX6_votes.cls ≠ "java/lang/invoke/MethodHandle" ∧ yX6_votes.cls ≠ "java/lang/invoke/VarHandle" ∧ (parseMethodDescriptor yX6_votes.desc).map (fun d => d.parameters.length) = some 2 := by decide +kernel
theorem iX6_votes_X6 : ∀ w ∈ wsX60, w ∈ wsX6_votes := fun w h => (List.mem_cons_of_mem _ (List.mem_append_right _ h))
set_option maxHeartbeats 4000000 in
set_option maxRecDepth 100000 in
theorem MX6_votes (l : Launch) (D : va_G) (q : Nat → ClassId) (h : Nat → Nat) (x : Nat → Nat → Int32) (mill hour : Int32) (hC : cntP x 0) (hmill : 0 ≤ mill.toInt ∧ mill.toInt < 4) (hhour : 0 ≤ hour.toInt ∧ hour.toInt < 24) : roM l D (tyq q) yX6_votes wsX6_votes ({ frames := 6, cells := 0, slots := 0, locals := 145 } : Room) [.ref (h 0), .int mill, .int hour] (wM q h x) (some (.int (mX6_votes x mill hour))) := by
  obtain ⟨R, hR⟩ : ∃ z, (mX6_votes x mill hour) = z := ⟨_, rfl⟩
  rw [hR]
  unfold mX6_votes at hR
  refine roM.of (cc := cX6_votes) (maxL := 5) (ret := (some .int)) (by decide) rfl (Nat.le_of_ble_eq_true rfl) ?_
  intro p e s m below meth c ls hx hb hr hk hml hown hts hP hD hG hl
  have hl : lv_has ls 5 [(0, .ref (h 0)), (1, .int mill), (2, .int hour)] := hl
  have hC1 : 0 ≤ (x 0 0).toInt ∧ (x 0 0).toInt < 5 := hC.1
  have hC2 : 0 ≤ (x 0 13).toInt ∧ (x 0 13).toInt < 11 := hC.2
  refine lv_iconst (v := 0) hx hb dX6_votes_0 (by decide) ?_
  refine lv_istore_n (lv' := [(3, .int 0), (0, .ref (h 0)), (1, .int mill), (2, .int hour)]) hx hb dX6_votes_1 rfl hl (by decide) rfl (fun ls hl => ?_)
  refine lv_iconst (v := 0) hx hb dX6_votes_2 (by decide) ?_
  refine lv_istore (lv' := [(4, .int 0), (3, .int 0), (0, .ref (h 0)), (1, .int mill), (2, .int hour)]) hx hb dX6_votes_3 hl (by decide) rfl (fun ls hl => ?_)
  have key_5 : ∀ (n_5 : Nat) (x4_5 : Int32) (x3_5 : Int32), tr x4_5 ((x 0) 13) = n_5 → 0 ≤ x4_5.toInt → mX6_votes_5 x mill hour (fun x4_5 x3_5 => x3_5) n_5 x4_5 x3_5 = R → ∀ ls : Array Slot, lv_has ls 5 [(4, .int x4_5), (3, .int x3_5), (0, .ref (h 0)), (1, .int mill), (2, .int hour)] → W p l e ({ frames := 6, cells := 0, slots := 0, locals := 145 } : Room) s m ([.ref (h 0), .int mill, .int hour] : List Value).toArray below meth c s.heap [] 0 0 (MQ below (roQ (some (.int R))) ([.ref (h 0), .int mill, .int hour] : List Value).toArray s 0 0 (fun _ => False)) (F0 m 5 ls []) := by
    intro n_5
    induction n_5 with
    | zero =>
      intro x4_5 x3_5 hn_5 hk_5 hR ls hl
      rw [mX6_votes_5] at hR
      refine lv_iload hx hb dX6_votes_5 (lv_at hl 0 rfl) ?_
      refine lv_aload_n hx hb dX6_votes_7 rfl (lv_at hl 2 rfl) ?_
      refine va_get (D := D) (ci := 4) (v := .ref (h 1)) (C := RX6) (T := TX6) (N := 7) hx hb hts iX6_votes_X6 hown hG.1 hP 0 rfl rfl 0 (by decide) (hts (.fieldLink RX6 7 "MillComplaintsModel" "s" "[I") (List.mem_of_getElem? (i := 1) rfl)) (fun _ h9 => h9) rfl dX6_votes_8 ?_
      refine lv_bipush (v := 13) hx hb dX6_votes_11 (by decide) ?_
      refine va_iald hx hb hG.1 hP 1 0 rfl rfl (ix_t (i := 13) (x := 13) (n := 296) (show (13 : Int32).toInt = 13 from rfl) (by omega)) dX6_votes_13 ?_
      refine lv_tope (y := ((x 0) 13)) (congrArg _ (by decide)) ?_
      refine lv_icmp_ge (tgt := 43) hx hb dX6_votes_14 (by decide) (fun c_1 => ?_) (fun c_1 => (tr0 hn_5 c_1).elim)
      refine lv_iload_n hx hb dX6_votes_43 rfl (lv_at hl 1 rfl) ?_
      exact ro_iret hx hb hr hk hR dX6_votes_44
    | succ n_5 ih_5 =>
      intro x4_5 x3_5 hn_5 hk_5 hR ls hl
      rw [mX6_votes_5] at hR
      refine lv_iload hx hb dX6_votes_5 (lv_at hl 0 rfl) ?_
      refine lv_aload_n hx hb dX6_votes_7 rfl (lv_at hl 2 rfl) ?_
      refine va_get (D := D) (ci := 4) (v := .ref (h 1)) (C := RX6) (T := TX6) (N := 7) hx hb hts iX6_votes_X6 hown hG.1 hP 0 rfl rfl 0 (by decide) (hts (.fieldLink RX6 7 "MillComplaintsModel" "s" "[I") (List.mem_of_getElem? (i := 1) rfl)) (fun _ h9 => h9) rfl dX6_votes_8 ?_
      refine lv_bipush (v := 13) hx hb dX6_votes_11 (by decide) ?_
      refine va_iald hx hb hG.1 hP 1 0 rfl rfl (ix_t (i := 13) (x := 13) (n := 296) (show (13 : Int32).toInt = 13 from rfl) (by omega)) dX6_votes_13 ?_
      refine lv_tope (y := ((x 0) 13)) (congrArg _ (by decide)) ?_
      refine lv_icmp_ge (tgt := 43) hx hb dX6_votes_14 (by decide) (fun c_1 => (trS hn_5 c_1).elim) (fun c_1 => ?_)
      have hlt_c_1 := k_lt c_1
      refine lv_iload_n hx hb dX6_votes_17 rfl (lv_at hl 1 rfl) ?_
      refine lv_aload_n hx hb dX6_votes_18 rfl (lv_at hl 2 rfl) ?_
      refine lv_iconst (v := 0) hx hb dX6_votes_19 (by decide) ?_
      refine lv_iload hx hb dX6_votes_20 (lv_at hl 0 rfl) ?_
      refine lv_iload_n hx hb dX6_votes_22 rfl (lv_at hl 3 rfl) ?_
      refine lv_iload_n hx hb dX6_votes_23 rfl (lv_at hl 4 rfl) ?_
      refine ro_V (v := .int (mX6_wouldTroubleAny x 0 x4_5 mill hour)) (rest := [.int x3_5]) (As := [.int 0, .int x4_5, .int mill, .int hour]) hx hb hml hown hts hl (MX6_wouldTroubleAny l D q h x 0 x4_5 mill hour (rg_t (i := 0) (x := 0) (show (0 : Int32).toInt = 0 from rfl) (by omega)) (rg_t (i := x4_5) (x := (x4_5).toInt) rfl (by omega)) (rg_t (i := mill) (x := (mill).toInt) rfl (by omega)) (rg_t (i := hour) (x := (hour).toInt) rfl (by omega))) gX6_votes_X6_wouldTroubleAny rfl kX6_wouldTroubleAny ⟨Nat.le_of_ble_eq_true rfl, Nat.le_of_ble_eq_true rfl⟩ rfl rfl hP (dT hD) hG (ci := 4) rfl rfl rfl rfl (Nat.le_of_ble_eq_true rfl) dX6_votes_24 ⟨Nat.zero_le _, Nat.zero_le _⟩ ?_
      refine lv_if_eq (tgt := 34) hx hb dX6_votes_27 (by decide) (fun c_2 => ?_) (fun c_2 => ?_)
      · rw [if_pos c_2] at hR
        have tc_2 : (mX6_wouldTroubleAny x 0 x4_5 mill hour).toInt = 0 := i_eq.mp c_2
        refine lv_iconst (v := 1) hx hb dX6_votes_34 (by decide) ?_
        refine lv_iadd hx hb dX6_votes_35 ?_
        refine lv_istore_n (lv' := [(3, .int (x3_5 + 1)), (4, .int x4_5), (0, .ref (h 0)), (1, .int mill), (2, .int hour)]) hx hb dX6_votes_36 rfl hl (by decide) rfl (fun ls hl => ?_)
        refine lv_iinc (v := (x4_5 + 1)) (lv' := [(4, .int (x4_5 + 1)), (3, .int (x3_5 + 1)), (0, .ref (h 0)), (1, .int mill), (2, .int hour)]) hx hb dX6_votes_37 hl (k := 1) rfl rfl (by decide) rfl (fun ls hl => ?_)
        refine lv_goto (tgt := 5) hx hb dX6_votes_40 (by decide) ?_
        exact ih_5 (x4_5 + 1) (x3_5 + 1) (trN hn_5) (k_up hk_5 c_1) hR ls (lv_sub hl [0, 1, 2, 3, 4] rfl)
      · rw [if_neg c_2] at hR
        have tc_2 : ¬ (mX6_wouldTroubleAny x 0 x4_5 mill hour).toInt = 0 := fun z => c_2 (i_eq.mpr z)
        refine lv_iconst (v := 0) hx hb dX6_votes_30 (by decide) ?_
        refine lv_goto (tgt := 35) hx hb dX6_votes_31 (by decide) ?_
        refine lv_iadd hx hb dX6_votes_35 ?_
        refine lv_istore_n (lv' := [(3, .int (x3_5 + 0)), (4, .int x4_5), (0, .ref (h 0)), (1, .int mill), (2, .int hour)]) hx hb dX6_votes_36 rfl hl (by decide) rfl (fun ls hl => ?_)
        refine lv_iinc (v := (x4_5 + 1)) (lv' := [(4, .int (x4_5 + 1)), (3, .int (x3_5 + 0)), (0, .ref (h 0)), (1, .int mill), (2, .int hour)]) hx hb dX6_votes_37 hl (k := 1) rfl rfl (by decide) rfl (fun ls hl => ?_)
        refine lv_goto (tgt := 5) hx hb dX6_votes_40 (by decide) ?_
        exact ih_5 (x4_5 + 1) (x3_5 + 0) (trN hn_5) (k_up hk_5 c_1) hR ls (lv_sub hl [0, 1, 2, 3, 4] rfl)
  exact key_5 _ 0 0 rfl (by decide) hR ls hl

def mX6_millAt_2 (x : Nat → Nat → Int32) (pp : Int32) (yard : Int32) (C : Int32 → Int32) : Nat → Int32 → Int32
  | 0, x3_2 => C x3_2
  | n_2 + 1, x3_2 => (if ((x 0) ((((pp + 1) + (3 * x3_2)) + 1)).toNatClampNeg) = yard then x3_2 else (mX6_millAt_2 x pp yard C n_2 (x3_2 + 1)))
def mX6_millAt (x : Nat → Nat → Int32) (pp yard : Int32) : Int32 := (mX6_millAt_2 x pp yard (fun x3_2 => (-5)) (tr 0 ((x 0) ((pp + 0)).toNatClampNeg)) 0)
theorem kX6_millAt : yX6_millAt.cls = RX6 ∧ yX6_millAt.cls ≠ "java/lang/invoke/MethodHandle" ∧ yX6_millAt.cls ≠ "java/lang/invoke/VarHandle" ∧ (parseMethodDescriptor yX6_millAt.desc).map (fun d => d.parameters.length) = some 2 := by decide +kernel
theorem iX6_millAt_X6 : ∀ w ∈ wsX60, w ∈ wsX6_millAt := fun w h => (List.mem_cons_of_mem _ (List.mem_append_right _ h))
set_option maxHeartbeats 4000000 in
set_option maxRecDepth 100000 in
theorem MX6_millAt (l : Launch) (D : va_G) (q : Nat → ClassId) (h : Nat → Nat) (x : Nat → Nat → Int32) (pp yard : Int32) (hC : cntP x pp) (hpp : 0 ≤ pp.toInt ∧ pp.toInt < 149) : roM l D (tyq q) yX6_millAt wsX6_millAt ({ frames := 1, cells := 0, slots := 0, locals := 22 } : Room) [.ref (h 0), .int pp, .int yard] (wM q h x) (some (.int (mX6_millAt x pp yard))) := by
  obtain ⟨R, hR⟩ : ∃ z, (mX6_millAt x pp yard) = z := ⟨_, rfl⟩
  rw [hR]
  unfold mX6_millAt at hR
  refine roM.of (cc := cX6_millAt) (maxL := 4) (ret := (some .int)) (by decide) rfl (Nat.le_of_ble_eq_true rfl) ?_
  intro p e s m below meth c ls hx hb hr hk hml hown hts hP hD hG hl
  have hl : lv_has ls 4 [(0, .ref (h 0)), (1, .int pp), (2, .int yard)] := hl
  have hC1 := hC.1
  have hC2 := hC.2
  refine lv_iconst (v := 0) hx hb dX6_millAt_0 (by decide) ?_
  refine lv_istore_n (lv' := [(3, .int 0), (0, .ref (h 0)), (1, .int pp), (2, .int yard)]) hx hb dX6_millAt_1 rfl hl (by decide) rfl (fun ls hl => ?_)
  have key_2 : ∀ (n_2 : Nat) (x3_2 : Int32), tr x3_2 ((x 0) ((pp + 0)).toNatClampNeg) = n_2 → 0 ≤ x3_2.toInt → mX6_millAt_2 x pp yard (fun x3_2 => (-5)) n_2 x3_2 = R → ∀ ls : Array Slot, lv_has ls 4 [(3, .int x3_2), (0, .ref (h 0)), (1, .int pp), (2, .int yard)] → W p l e ({ frames := 1, cells := 0, slots := 0, locals := 22 } : Room) s m ([.ref (h 0), .int pp, .int yard] : List Value).toArray below meth c s.heap [] 0 0 (MQ below (roQ (some (.int R))) ([.ref (h 0), .int pp, .int yard] : List Value).toArray s 0 0 (fun _ => False)) (F0 m 2 ls []) := by
    intro n_2
    induction n_2 with
    | zero =>
      intro x3_2 hn_2 hk_2 hR ls hl
      rw [mX6_millAt_2] at hR
      refine lv_iload_n hx hb dX6_millAt_2 rfl (lv_at hl 0 rfl) ?_
      refine lv_aload_n hx hb dX6_millAt_3 rfl (lv_at hl 1 rfl) ?_
      refine va_get (D := D) (ci := 4) (v := .ref (h 1)) (C := RX6) (T := TX6) (N := 7) hx hb hts iX6_millAt_X6 hown hG.1 hP 0 rfl rfl 0 (by decide) (hts (.fieldLink RX6 7 "MillComplaintsModel" "s" "[I") (List.mem_of_getElem? (i := 1) rfl)) (fun _ h9 => h9) rfl dX6_millAt_4 ?_
      refine lv_iload_n hx hb dX6_millAt_7 rfl (lv_at hl 2 rfl) ?_
      refine lv_iconst (v := 0) hx hb dX6_millAt_8 (by decide) ?_
      refine lv_iadd hx hb dX6_millAt_9 ?_
      refine va_iald hx hb hG.1 hP 1 0 rfl rfl (ix_t (i := (pp + 0)) (x := ((pp).toInt + 0)) (n := 296) (ti_add rfl (show (0 : Int32).toInt = 0 from rfl) (by omega)) (by omega)) dX6_millAt_10 ?_
      refine lv_icmp_ge (tgt := 37) hx hb dX6_millAt_11 (by decide) (fun c_1 => ?_) (fun c_1 => (tr0 hn_2 c_1).elim)
      refine lv_bipush (v := (-5)) hx hb dX6_millAt_37 (by decide) ?_
      exact ro_iret hx hb hr hk hR dX6_millAt_39
    | succ n_2 ih_2 =>
      intro x3_2 hn_2 hk_2 hR ls hl
      rw [mX6_millAt_2] at hR
      refine lv_iload_n hx hb dX6_millAt_2 rfl (lv_at hl 0 rfl) ?_
      refine lv_aload_n hx hb dX6_millAt_3 rfl (lv_at hl 1 rfl) ?_
      refine va_get (D := D) (ci := 4) (v := .ref (h 1)) (C := RX6) (T := TX6) (N := 7) hx hb hts iX6_millAt_X6 hown hG.1 hP 0 rfl rfl 0 (by decide) (hts (.fieldLink RX6 7 "MillComplaintsModel" "s" "[I") (List.mem_of_getElem? (i := 1) rfl)) (fun _ h9 => h9) rfl dX6_millAt_4 ?_
      refine lv_iload_n hx hb dX6_millAt_7 rfl (lv_at hl 2 rfl) ?_
      refine lv_iconst (v := 0) hx hb dX6_millAt_8 (by decide) ?_
      refine lv_iadd hx hb dX6_millAt_9 ?_
      refine va_iald hx hb hG.1 hP 1 0 rfl rfl (ix_t (i := (pp + 0)) (x := ((pp).toInt + 0)) (n := 296) (ti_add rfl (show (0 : Int32).toInt = 0 from rfl) (by omega)) (by omega)) dX6_millAt_10 ?_
      refine lv_icmp_ge (tgt := 37) hx hb dX6_millAt_11 (by decide) (fun c_1 => (trS hn_2 c_1).elim) (fun c_1 => ?_)
      have hlt_c_1 := k_lt c_1
      refine lv_aload_n hx hb dX6_millAt_14 rfl (lv_at hl 1 rfl) ?_
      refine va_get (D := D) (ci := 4) (v := .ref (h 1)) (C := RX6) (T := TX6) (N := 7) hx hb hts iX6_millAt_X6 hown hG.1 hP 0 rfl rfl 0 (by decide) (hts (.fieldLink RX6 7 "MillComplaintsModel" "s" "[I") (List.mem_of_getElem? (i := 1) rfl)) (fun _ h9 => h9) rfl dX6_millAt_15 ?_
      refine lv_iload_n hx hb dX6_millAt_18 rfl (lv_at hl 2 rfl) ?_
      refine lv_iload_n hx hb dX6_millAt_19 rfl (lv_at hl 0 rfl) ?_
      refine lv_iconst (v := 1) hx hb dX6_millAt_20 (by decide) ?_
      refine ro_S (v := .int (((pp + 1) + (3 * x3_2)) + 1)) (rest := [.ref (h 1)]) (As := [.int pp, .int x3_2, .int 1]) hx hb hml hown hts hl (MX6_ofMill l D q pp x3_2 1) gX6_millAt_X6_ofMill rfl kX6_ofMill ⟨Nat.le_of_ble_eq_true rfl, Nat.le_of_ble_eq_true rfl⟩ rfl rfl (hP.sub (ws' := []) [] rfl) (dT (hD.sub (ws' := []) [] (by decide) rfl)) hG rfl rfl (Nat.le_of_ble_eq_true rfl) dX6_millAt_21 ⟨Nat.zero_le _, Nat.zero_le _⟩ ?_
      refine va_iald hx hb hG.1 hP 1 0 rfl rfl (ix_t (i := (((pp + 1) + (3 * x3_2)) + 1)) (x := ((((pp).toInt + 1) + (3 * (x3_2).toInt)) + 1)) (n := 296) (ti_add (ti_add (ti_add rfl (show (1 : Int32).toInt = 1 from rfl) (by omega)) (ti_mul (show (3 : Int32).toInt = 3 from rfl) rfl (by omega)) (by omega)) (show (1 : Int32).toInt = 1 from rfl) (by omega)) (by omega)) dX6_millAt_24 ?_
      refine lv_iload_n hx hb dX6_millAt_25 rfl (lv_at hl 3 rfl) ?_
      refine lv_icmp_ne (tgt := 31) hx hb dX6_millAt_26 (by decide) (fun c_2 => ?_) (fun c_2 => ?_)
      · rw [if_neg c_2] at hR
        have tc_2 : ¬ ((x 0) ((((pp + 1) + (3 * x3_2)) + 1)).toNatClampNeg).toInt = yard.toInt := fun z => c_2 (i_eq.mpr z)
        refine lv_iinc (v := (x3_2 + 1)) (lv' := [(3, .int (x3_2 + 1)), (0, .ref (h 0)), (1, .int pp), (2, .int yard)]) hx hb dX6_millAt_31 hl (k := 0) rfl rfl (by decide) rfl (fun ls hl => ?_)
        refine lv_goto (tgt := 2) hx hb dX6_millAt_34 (by decide) ?_
        exact ih_2 (x3_2 + 1) (trN hn_2) (k_up hk_2 c_1) hR ls (lv_sub hl [0, 1, 2, 3] rfl)
      · rw [if_pos c_2] at hR
        have tc_2 : ((x 0) ((((pp + 1) + (3 * x3_2)) + 1)).toNatClampNeg).toInt = yard.toInt := i_eq.mp c_2
        refine lv_iload_n hx hb dX6_millAt_29 rfl (lv_at hl 0 rfl) ?_
        exact ro_iret hx hb hr hk hR dX6_millAt_30
  exact key_2 _ 0 rfl (by decide) hR ls hl

def mX6_houseAt_2 (x : Nat → Nat → Int32) (pp : Int32) (yard : Int32) (C : Int32 → Int32) : Nat → Int32 → Int32
  | 0, x3_2 => C x3_2
  | n_2 + 1, x3_2 => (if ((x 0) ((((pp + 14) + (2 * x3_2)) + 0)).toNatClampNeg) = yard then x3_2 else (mX6_houseAt_2 x pp yard C n_2 (x3_2 + 1)))
def mX6_houseAt (x : Nat → Nat → Int32) (pp yard : Int32) : Int32 := (mX6_houseAt_2 x pp yard (fun x3_2 => (-5)) (tr 0 ((x 0) ((pp + 13)).toNatClampNeg)) 0)
theorem kX6_houseAt : yX6_houseAt.cls = RX6 ∧ yX6_houseAt.cls ≠ "java/lang/invoke/MethodHandle" ∧ yX6_houseAt.cls ≠ "java/lang/invoke/VarHandle" ∧ (parseMethodDescriptor yX6_houseAt.desc).map (fun d => d.parameters.length) = some 2 := by decide +kernel
theorem iX6_houseAt_X6 : ∀ w ∈ wsX60, w ∈ wsX6_houseAt := fun w h => (List.mem_cons_of_mem _ (List.mem_append_right _ h))
set_option maxHeartbeats 4000000 in
set_option maxRecDepth 100000 in
theorem MX6_houseAt (l : Launch) (D : va_G) (q : Nat → ClassId) (h : Nat → Nat) (x : Nat → Nat → Int32) (pp yard : Int32) (hC : cntP x pp) (hpp : 0 ≤ pp.toInt ∧ pp.toInt < 149) : roM l D (tyq q) yX6_houseAt wsX6_houseAt ({ frames := 1, cells := 0, slots := 0, locals := 22 } : Room) [.ref (h 0), .int pp, .int yard] (wM q h x) (some (.int (mX6_houseAt x pp yard))) := by
  obtain ⟨R, hR⟩ : ∃ z, (mX6_houseAt x pp yard) = z := ⟨_, rfl⟩
  rw [hR]
  unfold mX6_houseAt at hR
  refine roM.of (cc := cX6_houseAt) (maxL := 4) (ret := (some .int)) (by decide) rfl (Nat.le_of_ble_eq_true rfl) ?_
  intro p e s m below meth c ls hx hb hr hk hml hown hts hP hD hG hl
  have hl : lv_has ls 4 [(0, .ref (h 0)), (1, .int pp), (2, .int yard)] := hl
  have hC1 := hC.1
  have hC2 := hC.2
  refine lv_iconst (v := 0) hx hb dX6_houseAt_0 (by decide) ?_
  refine lv_istore_n (lv' := [(3, .int 0), (0, .ref (h 0)), (1, .int pp), (2, .int yard)]) hx hb dX6_houseAt_1 rfl hl (by decide) rfl (fun ls hl => ?_)
  have key_2 : ∀ (n_2 : Nat) (x3_2 : Int32), tr x3_2 ((x 0) ((pp + 13)).toNatClampNeg) = n_2 → 0 ≤ x3_2.toInt → mX6_houseAt_2 x pp yard (fun x3_2 => (-5)) n_2 x3_2 = R → ∀ ls : Array Slot, lv_has ls 4 [(3, .int x3_2), (0, .ref (h 0)), (1, .int pp), (2, .int yard)] → W p l e ({ frames := 1, cells := 0, slots := 0, locals := 22 } : Room) s m ([.ref (h 0), .int pp, .int yard] : List Value).toArray below meth c s.heap [] 0 0 (MQ below (roQ (some (.int R))) ([.ref (h 0), .int pp, .int yard] : List Value).toArray s 0 0 (fun _ => False)) (F0 m 2 ls []) := by
    intro n_2
    induction n_2 with
    | zero =>
      intro x3_2 hn_2 hk_2 hR ls hl
      rw [mX6_houseAt_2] at hR
      refine lv_iload_n hx hb dX6_houseAt_2 rfl (lv_at hl 0 rfl) ?_
      refine lv_aload_n hx hb dX6_houseAt_3 rfl (lv_at hl 1 rfl) ?_
      refine va_get (D := D) (ci := 4) (v := .ref (h 1)) (C := RX6) (T := TX6) (N := 7) hx hb hts iX6_houseAt_X6 hown hG.1 hP 0 rfl rfl 0 (by decide) (hts (.fieldLink RX6 7 "MillComplaintsModel" "s" "[I") (List.mem_of_getElem? (i := 1) rfl)) (fun _ h9 => h9) rfl dX6_houseAt_4 ?_
      refine lv_iload_n hx hb dX6_houseAt_7 rfl (lv_at hl 2 rfl) ?_
      refine lv_bipush (v := 13) hx hb dX6_houseAt_8 (by decide) ?_
      refine lv_iadd hx hb dX6_houseAt_10 ?_
      refine va_iald hx hb hG.1 hP 1 0 rfl rfl (ix_t (i := (pp + 13)) (x := ((pp).toInt + 13)) (n := 296) (ti_add rfl (show (13 : Int32).toInt = 13 from rfl) (by omega)) (by omega)) dX6_houseAt_11 ?_
      refine lv_icmp_ge (tgt := 38) hx hb dX6_houseAt_12 (by decide) (fun c_1 => ?_) (fun c_1 => (tr0 hn_2 c_1).elim)
      refine lv_bipush (v := (-5)) hx hb dX6_houseAt_38 (by decide) ?_
      exact ro_iret hx hb hr hk hR dX6_houseAt_40
    | succ n_2 ih_2 =>
      intro x3_2 hn_2 hk_2 hR ls hl
      rw [mX6_houseAt_2] at hR
      refine lv_iload_n hx hb dX6_houseAt_2 rfl (lv_at hl 0 rfl) ?_
      refine lv_aload_n hx hb dX6_houseAt_3 rfl (lv_at hl 1 rfl) ?_
      refine va_get (D := D) (ci := 4) (v := .ref (h 1)) (C := RX6) (T := TX6) (N := 7) hx hb hts iX6_houseAt_X6 hown hG.1 hP 0 rfl rfl 0 (by decide) (hts (.fieldLink RX6 7 "MillComplaintsModel" "s" "[I") (List.mem_of_getElem? (i := 1) rfl)) (fun _ h9 => h9) rfl dX6_houseAt_4 ?_
      refine lv_iload_n hx hb dX6_houseAt_7 rfl (lv_at hl 2 rfl) ?_
      refine lv_bipush (v := 13) hx hb dX6_houseAt_8 (by decide) ?_
      refine lv_iadd hx hb dX6_houseAt_10 ?_
      refine va_iald hx hb hG.1 hP 1 0 rfl rfl (ix_t (i := (pp + 13)) (x := ((pp).toInt + 13)) (n := 296) (ti_add rfl (show (13 : Int32).toInt = 13 from rfl) (by omega)) (by omega)) dX6_houseAt_11 ?_
      refine lv_icmp_ge (tgt := 38) hx hb dX6_houseAt_12 (by decide) (fun c_1 => (trS hn_2 c_1).elim) (fun c_1 => ?_)
      have hlt_c_1 := k_lt c_1
      refine lv_aload_n hx hb dX6_houseAt_15 rfl (lv_at hl 1 rfl) ?_
      refine va_get (D := D) (ci := 4) (v := .ref (h 1)) (C := RX6) (T := TX6) (N := 7) hx hb hts iX6_houseAt_X6 hown hG.1 hP 0 rfl rfl 0 (by decide) (hts (.fieldLink RX6 7 "MillComplaintsModel" "s" "[I") (List.mem_of_getElem? (i := 1) rfl)) (fun _ h9 => h9) rfl dX6_houseAt_16 ?_
      refine lv_iload_n hx hb dX6_houseAt_19 rfl (lv_at hl 2 rfl) ?_
      refine lv_iload_n hx hb dX6_houseAt_20 rfl (lv_at hl 0 rfl) ?_
      refine lv_iconst (v := 0) hx hb dX6_houseAt_21 (by decide) ?_
      refine ro_S (v := .int (((pp + 14) + (2 * x3_2)) + 0)) (rest := [.ref (h 1)]) (As := [.int pp, .int x3_2, .int 0]) hx hb hml hown hts hl (MX6_ofHouse l D q pp x3_2 0) gX6_houseAt_X6_ofHouse rfl kX6_ofHouse ⟨Nat.le_of_ble_eq_true rfl, Nat.le_of_ble_eq_true rfl⟩ rfl rfl (hP.sub (ws' := []) [] rfl) (dT (hD.sub (ws' := []) [] (by decide) rfl)) hG rfl rfl (Nat.le_of_ble_eq_true rfl) dX6_houseAt_22 ⟨Nat.zero_le _, Nat.zero_le _⟩ ?_
      refine va_iald hx hb hG.1 hP 1 0 rfl rfl (ix_t (i := (((pp + 14) + (2 * x3_2)) + 0)) (x := ((((pp).toInt + 14) + (2 * (x3_2).toInt)) + 0)) (n := 296) (ti_add (ti_add (ti_add rfl (show (14 : Int32).toInt = 14 from rfl) (by omega)) (ti_mul (show (2 : Int32).toInt = 2 from rfl) rfl (by omega)) (by omega)) (show (0 : Int32).toInt = 0 from rfl) (by omega)) (by omega)) dX6_houseAt_25 ?_
      refine lv_iload_n hx hb dX6_houseAt_26 rfl (lv_at hl 3 rfl) ?_
      refine lv_icmp_ne (tgt := 32) hx hb dX6_houseAt_27 (by decide) (fun c_2 => ?_) (fun c_2 => ?_)
      · rw [if_neg c_2] at hR
        have tc_2 : ¬ ((x 0) ((((pp + 14) + (2 * x3_2)) + 0)).toNatClampNeg).toInt = yard.toInt := fun z => c_2 (i_eq.mpr z)
        refine lv_iinc (v := (x3_2 + 1)) (lv' := [(3, .int (x3_2 + 1)), (0, .ref (h 0)), (1, .int pp), (2, .int yard)]) hx hb dX6_houseAt_32 hl (k := 0) rfl rfl (by decide) rfl (fun ls hl => ?_)
        refine lv_goto (tgt := 2) hx hb dX6_houseAt_35 (by decide) ?_
        exact ih_2 (x3_2 + 1) (trN hn_2) (k_up hk_2 c_1) hR ls (lv_sub hl [0, 1, 2, 3] rfl)
      · rw [if_pos c_2] at hR
        have tc_2 : ((x 0) ((((pp + 14) + (2 * x3_2)) + 0)).toNatClampNeg).toInt = yard.toInt := i_eq.mp c_2
        refine lv_iload_n hx hb dX6_houseAt_30 rfl (lv_at hl 0 rfl) ?_
        exact ro_iret hx hb hr hk hR dX6_houseAt_31
  exact key_2 _ 0 rfl (by decide) hR ls hl

def mX6_isBuilt (x : Nat → Nat → Int32) (pp yard : Int32) : Int32 := (if (mX6_millAt x pp yard) = (-5) then (if (mX6_houseAt x pp yard) = (-5) then 0 else 1) else 1)
theorem kX6_isBuilt : yX6_isBuilt.cls = RX6 ∧ yX6_isBuilt.cls ≠ "java/lang/invoke/MethodHandle" ∧ yX6_isBuilt.cls ≠ "java/lang/invoke/VarHandle" ∧ (parseMethodDescriptor yX6_isBuilt.desc).map (fun d => d.parameters.length) = some 2 := by decide +kernel
set_option maxHeartbeats 4000000 in
set_option maxRecDepth 100000 in
theorem MX6_isBuilt (l : Launch) (D : va_G) (q : Nat → ClassId) (h : Nat → Nat) (x : Nat → Nat → Int32) (pp yard : Int32) (hC : cntP x pp) (hpp : 0 ≤ pp.toInt ∧ pp.toInt < 149) : roM l D (tyq q) yX6_isBuilt wsX6_isBuilt ({ frames := 2, cells := 0, slots := 0, locals := 45 } : Room) [.ref (h 0), .int pp, .int yard] (wM q h x) (some (.int (mX6_isBuilt x pp yard))) := by
  obtain ⟨R, hR⟩ : ∃ z, (mX6_isBuilt x pp yard) = z := ⟨_, rfl⟩
  rw [hR]
  unfold mX6_isBuilt at hR
  refine roM.of (cc := cX6_isBuilt) (maxL := 3) (ret := (some .boolean)) (by decide) rfl (Nat.le_of_ble_eq_true rfl) ?_
  intro p e s m below meth c ls hx hb hr hk hml hown hts hP hD hG hl
  have hl : lv_has ls 3 [(0, .ref (h 0)), (1, .int pp), (2, .int yard)] := hl
  refine lv_aload_n hx hb dX6_isBuilt_0 rfl (lv_at hl 0 rfl) ?_
  refine lv_iload_n hx hb dX6_isBuilt_1 rfl (lv_at hl 1 rfl) ?_
  refine lv_iload_n hx hb dX6_isBuilt_2 rfl (lv_at hl 2 rfl) ?_
  refine ro_V (v := .int (mX6_millAt x pp yard)) (rest := []) (As := [.int pp, .int yard]) hx hb hml hown hts hl (MX6_millAt l D q h x pp yard (by assumption) (rg_t (i := pp) (x := (pp).toInt) rfl (by omega))) gX6_isBuilt_X6_millAt rfl kX6_millAt ⟨Nat.le_of_ble_eq_true rfl, Nat.le_of_ble_eq_true rfl⟩ rfl rfl hP (dT hD) hG (ci := 4) rfl rfl rfl rfl (Nat.le_of_ble_eq_true rfl) dX6_isBuilt_3 ⟨Nat.zero_le _, Nat.zero_le _⟩ ?_
  refine lv_bipush (v := (-5)) hx hb dX6_isBuilt_6 (by decide) ?_
  refine lv_icmp_ne (tgt := 22) hx hb dX6_isBuilt_8 (by decide) (fun c_1 => ?_) (fun c_1 => ?_)
  · rw [if_neg c_1] at hR
    have tc_1 : ¬ (mX6_millAt x pp yard).toInt = (-5) := fun z => c_1 (i_eq.mpr z)
    refine lv_iconst (v := 1) hx hb dX6_isBuilt_22 (by decide) ?_
    refine lv_goto (tgt := 27) hx hb dX6_isBuilt_23 (by decide) ?_
    exact ro_zret hx hb hr hk (Or.inr rfl) hR dX6_isBuilt_27
  · rw [if_pos c_1] at hR
    have tc_1 : (mX6_millAt x pp yard).toInt = (-5) := i_eq.mp c_1
    refine lv_aload_n hx hb dX6_isBuilt_11 rfl (lv_at hl 0 rfl) ?_
    refine lv_iload_n hx hb dX6_isBuilt_12 rfl (lv_at hl 1 rfl) ?_
    refine lv_iload_n hx hb dX6_isBuilt_13 rfl (lv_at hl 2 rfl) ?_
    refine ro_V (v := .int (mX6_houseAt x pp yard)) (rest := []) (As := [.int pp, .int yard]) hx hb hml hown hts hl (MX6_houseAt l D q h x pp yard (by assumption) (rg_t (i := pp) (x := (pp).toInt) rfl (by omega))) gX6_isBuilt_X6_houseAt rfl kX6_houseAt ⟨Nat.le_of_ble_eq_true rfl, Nat.le_of_ble_eq_true rfl⟩ rfl rfl hP (dT hD) hG (ci := 4) rfl rfl rfl rfl (Nat.le_of_ble_eq_true rfl) dX6_isBuilt_14 ⟨Nat.zero_le _, Nat.zero_le _⟩ ?_
    refine lv_bipush (v := (-5)) hx hb dX6_isBuilt_17 (by decide) ?_
    refine lv_icmp_eq (tgt := 26) hx hb dX6_isBuilt_19 (by decide) (fun c_2 => ?_) (fun c_2 => ?_)
    · rw [if_pos c_2] at hR
      have tc_2 : (mX6_houseAt x pp yard).toInt = (-5) := i_eq.mp c_2
      refine lv_iconst (v := 0) hx hb dX6_isBuilt_26 (by decide) ?_
      exact ro_zret hx hb hr hk (Or.inl rfl) hR dX6_isBuilt_27
    · rw [if_neg c_2] at hR
      have tc_2 : ¬ (mX6_houseAt x pp yard).toInt = (-5) := fun z => c_2 (i_eq.mpr z)
      refine lv_iconst (v := 1) hx hb dX6_isBuilt_22 (by decide) ?_
      refine lv_goto (tgt := 27) hx hb dX6_isBuilt_23 (by decide) ?_
      exact ro_zret hx hb hr hk (Or.inr rfl) hR dX6_isBuilt_27
