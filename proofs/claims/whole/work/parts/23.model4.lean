def mX6_sign (x : Nat → Nat → Int32) (pl : Int32) : Int32 := (if (x 4 2) ≤ pl then (-1) else ((x 3) (pl).toNatClampNeg))
theorem kX6_sign : yX6_sign.cls = RX6 ∧ yX6_sign.cls ≠ "java/lang/invoke/MethodHandle" ∧ yX6_sign.cls ≠ "java/lang/invoke/VarHandle" ∧ (parseMethodDescriptor yX6_sign.desc).map (fun d => d.parameters.length) = some 1 := by decide +kernel
theorem iX6_sign_X6 : ∀ w ∈ wsX60, w ∈ wsX6_sign := fun w h => (List.mem_cons_of_mem _ (List.mem_append_right _ h))
set_option maxHeartbeats 4000000 in
set_option maxRecDepth 100000 in
theorem MX6_sign (l : Launch) (D : va_G) (q : Nat → ClassId) (h : Nat → Nat) (x : Nat → Nat → Int32) (pl : Int32) (hL : 0 ≤ (x 4 2).toInt ∧ (x 4 2).toInt < 61) (hpl : 0 ≤ pl.toInt ∧ pl.toInt < 1000) : roM l D (tyq q) yX6_sign wsX6_sign ({ frames := 0, cells := 0, slots := 0, locals := 0 } : Room) [.ref (h 0), .int pl] (wM q h x) (some (.int (mX6_sign x pl))) := by
  obtain ⟨R, hR⟩ : ∃ z, (mX6_sign x pl) = z := ⟨_, rfl⟩
  rw [hR]
  unfold mX6_sign at hR
  refine roM.of (cc := cX6_sign) (maxL := 2) (ret := (some .int)) (by decide) rfl (Nat.le_of_ble_eq_true rfl) ?_
  intro p e s m below meth c ls hx hb hr hk hml hown hts hP hD hG hl
  have hl : lv_has ls 2 [(0, .ref (h 0)), (1, .int pl)] := hl
  refine lv_iload_n hx hb dX6_sign_0 rfl (lv_at hl 1 rfl) ?_
  refine lv_aload_n hx hb dX6_sign_1 rfl (lv_at hl 0 rfl) ?_
  refine va_get (D := D) (ci := 4) (v := .int (x 4 2)) (C := RX6) (T := TX6) (N := 7) hx hb hts iX6_sign_X6 hown hG.1 hP 0 rfl rfl 6 (by decide) (hts (.fieldLink RX6 154 "MillComplaintsModel" "length" "I") (List.mem_of_getElem? (i := 1) rfl)) (fun _ h9 => h9) rfl dX6_sign_2 ?_
  refine lv_icmp_ge (tgt := 17) hx hb dX6_sign_5 (by decide) (fun c_1 => ?_) (fun c_1 => ?_)
  · rw [if_pos c_1] at hR
    have tc_1 : (x 4 2).toInt ≤ pl.toInt := i_le.mp c_1
    refine lv_iconst (v := (-1)) hx hb dX6_sign_17 (by decide) ?_
    exact ro_iret hx hb hr hk hR dX6_sign_18
  · rw [if_neg c_1] at hR
    have tc_1 : ¬ (x 4 2).toInt ≤ pl.toInt := fun z => c_1 (i_le.mpr z)
    refine lv_aload_n hx hb dX6_sign_8 rfl (lv_at hl 0 rfl) ?_
    refine va_get (D := D) (ci := 4) (v := .ref (h 4)) (C := RX6) (T := TX6) (N := 7) hx hb hts iX6_sign_X6 hown hG.1 hP 0 rfl rfl 5 (by decide) (hts (.fieldLink RX6 19 "MillComplaintsModel" "text" "[I") (List.mem_of_getElem? (i := 2) rfl)) (fun _ h9 => h9) rfl dX6_sign_9 ?_
    refine lv_iload_n hx hb dX6_sign_12 rfl (lv_at hl 1 rfl) ?_
    refine va_iald hx hb hG.1 hP 4 0 rfl rfl (ix_t (i := pl) (x := (pl).toInt) (n := 60) rfl (by omega)) dX6_sign_13 ?_
    refine lv_goto (tgt := 18) hx hb dX6_sign_14 (by decide) ?_
    exact ro_iret hx hb hr hk hR dX6_sign_18

def mX6_digit (x : Nat → Nat → Int32) (pl : Int32) : Int32 := (lt (mX6_sign x pl) (fun r_1 => (if (mX6_in r_1 48 57) = 0 then (-1) else (lt (mX6_sign x pl) (fun r_3 => (r_3 - 48))))))
theorem kX6_digit : yX6_digit.cls = RX6 ∧ yX6_digit.cls ≠ "java/lang/invoke/MethodHandle" ∧ yX6_digit.cls ≠ "java/lang/invoke/VarHandle" ∧ (parseMethodDescriptor yX6_digit.desc).map (fun d => d.parameters.length) = some 1 := by decide +kernel
set_option maxHeartbeats 4000000 in
set_option maxRecDepth 100000 in
theorem MX6_digit (l : Launch) (D : va_G) (q : Nat → ClassId) (h : Nat → Nat) (x : Nat → Nat → Int32) (pl : Int32) (hL : 0 ≤ (x 4 2).toInt ∧ (x 4 2).toInt < 61) (hpl : 0 ≤ pl.toInt ∧ pl.toInt < 1000) : roM l D (tyq q) yX6_digit wsX6_digit ({ frames := 1, cells := 0, slots := 0, locals := 22 } : Room) [.ref (h 0), .int pl] (wM q h x) (some (.int (mX6_digit x pl))) := by
  obtain ⟨R, hR⟩ : ∃ z, (mX6_digit x pl) = z := ⟨_, rfl⟩
  rw [hR]
  unfold mX6_digit at hR
  refine roM.of (cc := cX6_digit) (maxL := 2) (ret := (some .int)) (by decide) rfl (Nat.le_of_ble_eq_true rfl) ?_
  intro p e s m below meth c ls hx hb hr hk hml hown hts hP hD hG hl
  have hl : lv_has ls 2 [(0, .ref (h 0)), (1, .int pl)] := hl
  refine lv_aload_n hx hb dX6_digit_0 rfl (lv_at hl 0 rfl) ?_
  refine lv_iload_n hx hb dX6_digit_1 rfl (lv_at hl 1 rfl) ?_
  refine ro_V (v := .int (mX6_sign x pl)) (rest := []) (As := [.int pl]) hx hb hml hown hts hl (MX6_sign l D q h x pl (by assumption) (rg_t (i := pl) (x := (pl).toInt) rfl (by omega))) gX6_digit_X6_sign rfl kX6_sign ⟨Nat.le_of_ble_eq_true rfl, Nat.le_of_ble_eq_true rfl⟩ rfl rfl hP (dT hD) hG (ci := 4) rfl rfl rfl rfl (Nat.le_of_ble_eq_true rfl) dX6_digit_2 ⟨Nat.zero_le _, Nat.zero_le _⟩ ?_
  obtain ⟨r_1, er_1⟩ : ∃ z, z = (mX6_sign x pl) := ⟨_, rfl⟩
  rw [← er_1]
  replace hR := lt_e hR er_1
  refine lv_bipush (v := 48) hx hb dX6_digit_5 (by decide) ?_
  refine lv_bipush (v := 57) hx hb dX6_digit_7 (by decide) ?_
  refine ro_S (v := .int (mX6_in r_1 48 57)) (rest := []) (As := [.int r_1, .int 48, .int 57]) hx hb hml hown hts hl (MX6_in l D q r_1 48 57) gX6_digit_X6_in rfl kX6_in ⟨Nat.le_of_ble_eq_true rfl, Nat.le_of_ble_eq_true rfl⟩ rfl rfl (hP.sub (ws' := []) [] rfl) (dT (hD.sub (ws' := []) [] (by decide) rfl)) hG rfl rfl (Nat.le_of_ble_eq_true rfl) dX6_digit_9 ⟨Nat.zero_le _, Nat.zero_le _⟩ ?_
  refine lv_if_eq (tgt := 26) hx hb dX6_digit_12 (by decide) (fun c_2 => ?_) (fun c_2 => ?_)
  · rw [if_pos c_2] at hR
    refine lv_iconst (v := (-1)) hx hb dX6_digit_26 (by decide) ?_
    exact ro_iret hx hb hr hk hR dX6_digit_27
  · rw [if_neg c_2] at hR
    have fc_2 : 48 ≤ r_1.toInt ∧ r_1.toInt ≤ 57 := f6_in c_2
    refine lv_aload_n hx hb dX6_digit_15 rfl (lv_at hl 0 rfl) ?_
    refine lv_iload_n hx hb dX6_digit_16 rfl (lv_at hl 1 rfl) ?_
    refine ro_V (v := .int (mX6_sign x pl)) (rest := []) (As := [.int pl]) hx hb hml hown hts hl (MX6_sign l D q h x pl (by assumption) (rg_t (i := pl) (x := (pl).toInt) rfl (by omega))) gX6_digit_X6_sign rfl kX6_sign ⟨Nat.le_of_ble_eq_true rfl, Nat.le_of_ble_eq_true rfl⟩ rfl rfl hP (dT hD) hG (ci := 4) rfl rfl rfl rfl (Nat.le_of_ble_eq_true rfl) dX6_digit_17 ⟨Nat.zero_le _, Nat.zero_le _⟩ ?_
    obtain ⟨r_3, er_3⟩ : ∃ z, z = (mX6_sign x pl) := ⟨_, rfl⟩
    rw [← er_3]
    replace hR := lt_e hR er_3
    refine lv_bipush (v := 48) hx hb dX6_digit_20 (by decide) ?_
    refine lv_isub hx hb dX6_digit_22 ?_
    refine lv_goto (tgt := 27) hx hb dX6_digit_23 (by decide) ?_
    exact ro_iret hx hb hr hk hR dX6_digit_27
theorem b_digit (x : Nat → Nat → Int32) (p : Int32) : -1 ≤ (mX6_digit x p).toInt ∧ (mX6_digit x p).toInt ≤ 9 := by
  unfold mX6_digit
  dsimp only [lt]
  split
  · exact ⟨by decide, by decide⟩
  · rename_i h
    have h1 := f6_in h
    have e0 : (48 : Int32).toInt = 48 := rfl
    have e1 : (57 : Int32).toInt = 57 := rfl
    rw [ti_sub (a := mX6_sign x p) (b := 48) rfl e0 (by omega)]
    omega

def mX6_behind (x : Nat → Nat → Int32) (pl sg : Int32) : Int32 := (if 0 ≤ pl then (lt (mX6_sign x pl) (fun r_2 => (if r_2 = sg then (pl + 1) else ((-1) - pl)))) else pl)
theorem kX6_behind : yX6_behind.cls = RX6 ∧ yX6_behind.cls ≠ "java/lang/invoke/MethodHandle" ∧ yX6_behind.cls ≠ "java/lang/invoke/VarHandle" ∧ (parseMethodDescriptor yX6_behind.desc).map (fun d => d.parameters.length) = some 2 := by decide +kernel
set_option maxHeartbeats 4000000 in
set_option maxRecDepth 100000 in
theorem MX6_behind (l : Launch) (D : va_G) (q : Nat → ClassId) (h : Nat → Nat) (x : Nat → Nat → Int32) (pl sg : Int32) (hL : 0 ≤ (x 4 2).toInt ∧ (x 4 2).toInt < 61) (hpl : -1000 ≤ pl.toInt ∧ pl.toInt < 1000) : roM l D (tyq q) yX6_behind wsX6_behind ({ frames := 1, cells := 0, slots := 0, locals := 21 } : Room) [.ref (h 0), .int pl, .int sg] (wM q h x) (some (.int (mX6_behind x pl sg))) := by
  obtain ⟨R, hR⟩ : ∃ z, (mX6_behind x pl sg) = z := ⟨_, rfl⟩
  rw [hR]
  unfold mX6_behind at hR
  refine roM.of (cc := cX6_behind) (maxL := 3) (ret := (some .int)) (by decide) rfl (Nat.le_of_ble_eq_true rfl) ?_
  intro p e s m below meth c ls hx hb hr hk hml hown hts hP hD hG hl
  have hl : lv_has ls 3 [(0, .ref (h 0)), (1, .int pl), (2, .int sg)] := hl
  refine lv_iload_n hx hb dX6_behind_0 rfl (lv_at hl 1 rfl) ?_
  refine lv_if_ge (tgt := 8) hx hb dX6_behind_1 (by decide) (fun c_1 => ?_) (fun c_1 => ?_)
  · rw [if_pos c_1] at hR
    have tc_1 : 0 ≤ pl.toInt := i_le.mp c_1
    refine lv_aload_n hx hb dX6_behind_8 rfl (lv_at hl 0 rfl) ?_
    refine lv_iload_n hx hb dX6_behind_9 rfl (lv_at hl 1 rfl) ?_
    refine ro_V (v := .int (mX6_sign x pl)) (rest := []) (As := [.int pl]) hx hb hml hown hts hl (MX6_sign l D q h x pl (by assumption) (rg_t (i := pl) (x := (pl).toInt) rfl (by omega))) gX6_behind_X6_sign rfl kX6_sign ⟨Nat.le_of_ble_eq_true rfl, Nat.le_of_ble_eq_true rfl⟩ rfl rfl hP (dT hD) hG (ci := 4) rfl rfl rfl rfl (Nat.le_of_ble_eq_true rfl) dX6_behind_10 ⟨Nat.zero_le _, Nat.zero_le _⟩ ?_
    obtain ⟨r_2, er_2⟩ : ∃ z, z = (mX6_sign x pl) := ⟨_, rfl⟩
    rw [← er_2]
    replace hR := lt_e hR er_2
    refine lv_iload_n hx hb dX6_behind_13 rfl (lv_at hl 2 rfl) ?_
    refine lv_icmp_ne (tgt := 23) hx hb dX6_behind_14 (by decide) (fun c_3 => ?_) (fun c_3 => ?_)
    · rw [if_neg c_3] at hR
      have tc_3 : ¬ r_2.toInt = sg.toInt := fun z => c_3 (i_eq.mpr z)
      refine lv_iconst (v := (-1)) hx hb dX6_behind_23 (by decide) ?_
      refine lv_iload_n hx hb dX6_behind_24 rfl (lv_at hl 1 rfl) ?_
      refine lv_isub hx hb dX6_behind_25 ?_
      exact ro_iret hx hb hr hk hR dX6_behind_26
    · rw [if_pos c_3] at hR
      have tc_3 : r_2.toInt = sg.toInt := i_eq.mp c_3
      refine lv_iload_n hx hb dX6_behind_17 rfl (lv_at hl 1 rfl) ?_
      refine lv_iconst (v := 1) hx hb dX6_behind_18 (by decide) ?_
      refine lv_iadd hx hb dX6_behind_19 ?_
      refine lv_goto (tgt := 26) hx hb dX6_behind_20 (by decide) ?_
      exact ro_iret hx hb hr hk hR dX6_behind_26
  · rw [if_neg c_1] at hR
    have tc_1 : ¬ 0 ≤ pl.toInt := fun z => c_1 (i_le.mpr z)
    refine lv_iload_n hx hb dX6_behind_4 rfl (lv_at hl 1 rfl) ?_
    refine lv_goto (tgt := 26) hx hb dX6_behind_5 (by decide) ?_
    exact ro_iret hx hb hr hk hR dX6_behind_26

def mX6_digitEnd (x : Nat → Nat → Int32) (pl lo hi : Int32) : Int32 := (if 0 ≤ pl then (lt (mX6_digit x pl) (fun r_2 => (if (mX6_in r_2 lo hi) = 0 then ((-1) - pl) else (pl + 1)))) else pl)
theorem kX6_digitEnd : yX6_digitEnd.cls = RX6 ∧ yX6_digitEnd.cls ≠ "java/lang/invoke/MethodHandle" ∧ yX6_digitEnd.cls ≠ "java/lang/invoke/VarHandle" ∧ (parseMethodDescriptor yX6_digitEnd.desc).map (fun d => d.parameters.length) = some 3 := by decide +kernel
set_option maxHeartbeats 4000000 in
set_option maxRecDepth 100000 in
theorem MX6_digitEnd (l : Launch) (D : va_G) (q : Nat → ClassId) (h : Nat → Nat) (x : Nat → Nat → Int32) (pl lo hi : Int32) (hL : 0 ≤ (x 4 2).toInt ∧ (x 4 2).toInt < 61) (hpl : -1000 ≤ pl.toInt ∧ pl.toInt < 1000) : roM l D (tyq q) yX6_digitEnd wsX6_digitEnd ({ frames := 2, cells := 0, slots := 0, locals := 43 } : Room) [.ref (h 0), .int pl, .int lo, .int hi] (wM q h x) (some (.int (mX6_digitEnd x pl lo hi))) := by
  obtain ⟨R, hR⟩ : ∃ z, (mX6_digitEnd x pl lo hi) = z := ⟨_, rfl⟩
  rw [hR]
  unfold mX6_digitEnd at hR
  refine roM.of (cc := cX6_digitEnd) (maxL := 4) (ret := (some .int)) (by decide) rfl (Nat.le_of_ble_eq_true rfl) ?_
  intro p e s m below meth c ls hx hb hr hk hml hown hts hP hD hG hl
  have hl : lv_has ls 4 [(0, .ref (h 0)), (1, .int pl), (2, .int lo), (3, .int hi)] := hl
  refine lv_iload_n hx hb dX6_digitEnd_0 rfl (lv_at hl 1 rfl) ?_
  refine lv_if_ge (tgt := 8) hx hb dX6_digitEnd_1 (by decide) (fun c_1 => ?_) (fun c_1 => ?_)
  · rw [if_pos c_1] at hR
    have tc_1 : 0 ≤ pl.toInt := i_le.mp c_1
    refine lv_aload_n hx hb dX6_digitEnd_8 rfl (lv_at hl 0 rfl) ?_
    refine lv_iload_n hx hb dX6_digitEnd_9 rfl (lv_at hl 1 rfl) ?_
    refine ro_V (v := .int (mX6_digit x pl)) (rest := []) (As := [.int pl]) hx hb hml hown hts hl (MX6_digit l D q h x pl (by assumption) (rg_t (i := pl) (x := (pl).toInt) rfl (by omega))) gX6_digitEnd_X6_digit rfl kX6_digit ⟨Nat.le_of_ble_eq_true rfl, Nat.le_of_ble_eq_true rfl⟩ rfl rfl hP (dT hD) hG (ci := 4) rfl rfl rfl rfl (Nat.le_of_ble_eq_true rfl) dX6_digitEnd_10 ⟨Nat.zero_le _, Nat.zero_le _⟩ ?_
    obtain ⟨r_2, er_2⟩ : ∃ z, z = (mX6_digit x pl) := ⟨_, rfl⟩
    have b0_r_2 := b_digit x pl
    rw [← er_2] at b0_r_2
    rw [← er_2]
    replace hR := lt_e hR er_2
    refine lv_iload_n hx hb dX6_digitEnd_13 rfl (lv_at hl 2 rfl) ?_
    refine lv_iload_n hx hb dX6_digitEnd_14 rfl (lv_at hl 3 rfl) ?_
    refine ro_S (v := .int (mX6_in r_2 lo hi)) (rest := []) (As := [.int r_2, .int lo, .int hi]) hx hb hml hown hts hl (MX6_in l D q r_2 lo hi) gX6_digitEnd_X6_in rfl kX6_in ⟨Nat.le_of_ble_eq_true rfl, Nat.le_of_ble_eq_true rfl⟩ rfl rfl (hP.sub (ws' := []) [] rfl) (dT (hD.sub (ws' := []) [] (by decide) rfl)) hG rfl rfl (Nat.le_of_ble_eq_true rfl) dX6_digitEnd_15 ⟨Nat.zero_le _, Nat.zero_le _⟩ ?_
    refine lv_if_eq (tgt := 27) hx hb dX6_digitEnd_18 (by decide) (fun c_3 => ?_) (fun c_3 => ?_)
    · rw [if_pos c_3] at hR
      refine lv_iconst (v := (-1)) hx hb dX6_digitEnd_27 (by decide) ?_
      refine lv_iload_n hx hb dX6_digitEnd_28 rfl (lv_at hl 1 rfl) ?_
      refine lv_isub hx hb dX6_digitEnd_29 ?_
      exact ro_iret hx hb hr hk hR dX6_digitEnd_30
    · rw [if_neg c_3] at hR
      have fc_3 : lo.toInt ≤ r_2.toInt ∧ r_2.toInt ≤ hi.toInt := f6_in c_3
      refine lv_iload_n hx hb dX6_digitEnd_21 rfl (lv_at hl 1 rfl) ?_
      refine lv_iconst (v := 1) hx hb dX6_digitEnd_22 (by decide) ?_
      refine lv_iadd hx hb dX6_digitEnd_23 ?_
      refine lv_goto (tgt := 30) hx hb dX6_digitEnd_24 (by decide) ?_
      exact ro_iret hx hb hr hk hR dX6_digitEnd_30
  · rw [if_neg c_1] at hR
    have tc_1 : ¬ 0 ≤ pl.toInt := fun z => c_1 (i_le.mpr z)
    refine lv_iload_n hx hb dX6_digitEnd_4 rfl (lv_at hl 1 rfl) ?_
    refine lv_goto (tgt := 30) hx hb dX6_digitEnd_5 (by decide) ?_
    exact ro_iret hx hb hr hk hR dX6_digitEnd_30
theorem b_up {p : Int32} (k : Int32) {n : Int} (hk : k.toInt = n) (hn : 0 ≤ n ∧ n < 100) (hp : -2000 ≤ p.toInt ∧ p.toInt < 2000) : (p + k).toInt = p.toInt + n := ti_add rfl hk (by omega)
theorem b_m1 {p : Int32} (hp : -2000 ≤ p.toInt ∧ p.toInt < 2000) : ((-1) - p).toInt = -1 - p.toInt := ti_sub (show (-1 : Int32).toInt = -1 from rfl) rfl (by omega)
theorem b_behind (x : Nat → Nat → Int32) (p g : Int32) (hp : -1000 ≤ p.toInt ∧ p.toInt < 1000) : (mX6_behind x p g).toInt = p.toInt ∨ (mX6_behind x p g).toInt = p.toInt + 1 ∨ (mX6_behind x p g).toInt = -1 - p.toInt := by
  unfold mX6_behind
  dsimp only [lt]
  repeat' split
  · exact Or.inr (Or.inl (b_up 1 (n := 1) rfl (by omega) (by omega)))
  · exact Or.inr (Or.inr (b_m1 (by omega)))
  · exact Or.inl rfl
theorem b_digitEnd (x : Nat → Nat → Int32) (p a b : Int32) (hp : -1000 ≤ p.toInt ∧ p.toInt < 1000) : (mX6_digitEnd x p a b).toInt = p.toInt ∨ (mX6_digitEnd x p a b).toInt = p.toInt + 1 ∨ (mX6_digitEnd x p a b).toInt = -1 - p.toInt := by
  unfold mX6_digitEnd
  dsimp only [lt]
  repeat' split
  · exact Or.inr (Or.inr (b_m1 (by omega)))
  · exact Or.inr (Or.inl (b_up 1 (n := 1) rfl (by omega) (by omega)))
  · exact Or.inl rfl
theorem g_behind (x : Nat → Nat → Int32) (p g : Int32) {B : Int} (h : -B ≤ p.toInt ∧ p.toInt ≤ B) (hB : B < 1000) : -(B + 1) ≤ (mX6_behind x p g).toInt ∧ (mX6_behind x p g).toInt ≤ B + 1 := by
  have h1 := b_behind x p g (by omega)
  omega
theorem g_digitEnd (x : Nat → Nat → Int32) (p a b : Int32) {B : Int} (h : -B ≤ p.toInt ∧ p.toInt ≤ B) (hB : B < 1000) : -(B + 1) ≤ (mX6_digitEnd x p a b).toInt ∧ (mX6_digitEnd x p a b).toInt ≤ B + 1 := by
  have h1 := b_digitEnd x p a b (by omega)
  omega

def mX6_yardEnd (x : Nat → Nat → Int32) (pl : Int32) : Int32 := (if 0 ≤ pl then (lt (mX6_sign x pl) (fun r_2 => (if (mX6_in r_2 97 108) = 0 then ((-1) - pl) else (lt (mX6_digitEnd x (pl + 1) 0 7) (fun r_5 => r_5))))) else pl)
theorem kX6_yardEnd : yX6_yardEnd.cls = RX6 ∧ yX6_yardEnd.cls ≠ "java/lang/invoke/MethodHandle" ∧ yX6_yardEnd.cls ≠ "java/lang/invoke/VarHandle" ∧ (parseMethodDescriptor yX6_yardEnd.desc).map (fun d => d.parameters.length) = some 1 := by decide +kernel
set_option maxHeartbeats 4000000 in
set_option maxRecDepth 100000 in
theorem MX6_yardEnd (l : Launch) (D : va_G) (q : Nat → ClassId) (h : Nat → Nat) (x : Nat → Nat → Int32) (pl : Int32) (hL : 0 ≤ (x 4 2).toInt ∧ (x 4 2).toInt < 61) (hpl : -999 ≤ pl.toInt ∧ pl.toInt < 999) : roM l D (tyq q) yX6_yardEnd wsX6_yardEnd ({ frames := 3, cells := 0, slots := 0, locals := 66 } : Room) [.ref (h 0), .int pl] (wM q h x) (some (.int (mX6_yardEnd x pl))) := by
  obtain ⟨R, hR⟩ : ∃ z, (mX6_yardEnd x pl) = z := ⟨_, rfl⟩
  rw [hR]
  unfold mX6_yardEnd at hR
  refine roM.of (cc := cX6_yardEnd) (maxL := 2) (ret := (some .int)) (by decide) rfl (Nat.le_of_ble_eq_true rfl) ?_
  intro p e s m below meth c ls hx hb hr hk hml hown hts hP hD hG hl
  have hl : lv_has ls 2 [(0, .ref (h 0)), (1, .int pl)] := hl
  refine lv_iload_n hx hb dX6_yardEnd_0 rfl (lv_at hl 1 rfl) ?_
  refine lv_if_ge (tgt := 6) hx hb dX6_yardEnd_1 (by decide) (fun c_1 => ?_) (fun c_1 => ?_)
  · rw [if_pos c_1] at hR
    have tc_1 : 0 ≤ pl.toInt := i_le.mp c_1
    refine lv_aload_n hx hb dX6_yardEnd_6 rfl (lv_at hl 0 rfl) ?_
    refine lv_iload_n hx hb dX6_yardEnd_7 rfl (lv_at hl 1 rfl) ?_
    refine ro_V (v := .int (mX6_sign x pl)) (rest := []) (As := [.int pl]) hx hb hml hown hts hl (MX6_sign l D q h x pl (by assumption) (rg_t (i := pl) (x := (pl).toInt) rfl (by omega))) gX6_yardEnd_X6_sign rfl kX6_sign ⟨Nat.le_of_ble_eq_true rfl, Nat.le_of_ble_eq_true rfl⟩ rfl rfl hP (dT hD) hG (ci := 4) rfl rfl rfl rfl (Nat.le_of_ble_eq_true rfl) dX6_yardEnd_8 ⟨Nat.zero_le _, Nat.zero_le _⟩ ?_
    obtain ⟨r_2, er_2⟩ : ∃ z, z = (mX6_sign x pl) := ⟨_, rfl⟩
    rw [← er_2]
    replace hR := lt_e hR er_2
    refine lv_bipush (v := 97) hx hb dX6_yardEnd_11 (by decide) ?_
    refine lv_bipush (v := 108) hx hb dX6_yardEnd_13 (by decide) ?_
    refine ro_S (v := .int (mX6_in r_2 97 108)) (rest := []) (As := [.int r_2, .int 97, .int 108]) hx hb hml hown hts hl (MX6_in l D q r_2 97 108) gX6_yardEnd_X6_in rfl kX6_in ⟨Nat.le_of_ble_eq_true rfl, Nat.le_of_ble_eq_true rfl⟩ rfl rfl (hP.sub (ws' := []) [] rfl) (dT (hD.sub (ws' := []) [] (by decide) rfl)) hG rfl rfl (Nat.le_of_ble_eq_true rfl) dX6_yardEnd_15 ⟨Nat.zero_le _, Nat.zero_le _⟩ ?_
    refine lv_if_eq (tgt := 34) hx hb dX6_yardEnd_18 (by decide) (fun c_3 => ?_) (fun c_3 => ?_)
    · rw [if_pos c_3] at hR
      refine lv_iconst (v := (-1)) hx hb dX6_yardEnd_34 (by decide) ?_
      refine lv_iload_n hx hb dX6_yardEnd_35 rfl (lv_at hl 1 rfl) ?_
      refine lv_isub hx hb dX6_yardEnd_36 ?_
      exact ro_iret hx hb hr hk hR dX6_yardEnd_37
    · rw [if_neg c_3] at hR
      have fc_3 : 97 ≤ r_2.toInt ∧ r_2.toInt ≤ 108 := f6_in c_3
      refine lv_aload_n hx hb dX6_yardEnd_21 rfl (lv_at hl 0 rfl) ?_
      refine lv_iload_n hx hb dX6_yardEnd_22 rfl (lv_at hl 1 rfl) ?_
      refine lv_iconst (v := 1) hx hb dX6_yardEnd_23 (by decide) ?_
      refine lv_iadd hx hb dX6_yardEnd_24 ?_
      refine lv_iconst (v := 0) hx hb dX6_yardEnd_25 (by decide) ?_
      refine lv_bipush (v := 7) hx hb dX6_yardEnd_26 (by decide) ?_
      have u_4 : ((pl + 1)).toInt = ((pl).toInt + 1) := (ti_add rfl (show (1 : Int32).toInt = 1 from rfl) (by omega))
      refine ro_V (v := .int (mX6_digitEnd x (pl + 1) 0 7)) (rest := []) (As := [.int (pl + 1), .int 0, .int 7]) hx hb hml hown hts hl (MX6_digitEnd l D q h x (pl + 1) 0 7 (by assumption) (rg_t (i := (pl + 1)) (x := ((pl).toInt + 1)) (ti_add rfl (show (1 : Int32).toInt = 1 from rfl) (by omega)) (by omega))) gX6_yardEnd_X6_digitEnd rfl kX6_digitEnd ⟨Nat.le_of_ble_eq_true rfl, Nat.le_of_ble_eq_true rfl⟩ rfl rfl hP (dT hD) hG (ci := 4) rfl rfl rfl rfl (Nat.le_of_ble_eq_true rfl) dX6_yardEnd_28 ⟨Nat.zero_le _, Nat.zero_le _⟩ ?_
      obtain ⟨r_5, er_5⟩ : ∃ z, z = (mX6_digitEnd x (pl + 1) 0 7) := ⟨_, rfl⟩
      have b0_r_5 := g_digitEnd x (pl + 1) 0 7 (B := pl.toInt + 1) (by omega) (by omega)
      rw [← er_5] at b0_r_5
      rw [← er_5]
      replace hR := lt_e hR er_5
      refine lv_goto (tgt := 37) hx hb dX6_yardEnd_31 (by decide) ?_
      exact ro_iret hx hb hr hk hR dX6_yardEnd_37
  · rw [if_neg c_1] at hR
    have tc_1 : ¬ 0 ≤ pl.toInt := fun z => c_1 (i_le.mpr z)
    refine lv_iload_n hx hb dX6_yardEnd_4 rfl (lv_at hl 1 rfl) ?_
    exact ro_iret hx hb hr hk hR dX6_yardEnd_5
theorem b_yardEnd (x : Nat → Nat → Int32) (p : Int32) (hp : -999 ≤ p.toInt ∧ p.toInt < 999) : (mX6_yardEnd x p).toInt = p.toInt ∨ (mX6_yardEnd x p).toInt = p.toInt + 1 ∨ (mX6_yardEnd x p).toInt = p.toInt + 2 ∨ (mX6_yardEnd x p).toInt = -1 - p.toInt ∨ (mX6_yardEnd x p).toInt = -2 - p.toInt := by
  unfold mX6_yardEnd
  dsimp only [lt]
  repeat' split
  · have h := b_m1 (p := p) (by omega); omega
  · have h1 := b_up (p := p) 1 (n := 1) rfl (by omega) (by omega)
    have h := b_digitEnd x (p + 1) 0 7 (by omega)
    omega
  · omega
theorem g_yardEnd (x : Nat → Nat → Int32) (p : Int32) {B : Int} (h : -B ≤ p.toInt ∧ p.toInt ≤ B) (hB : B < 999) : -(B + 2) ≤ (mX6_yardEnd x p).toInt ∧ (mX6_yardEnd x p).toInt ≤ B + 2 := by
  have h1 := b_yardEnd x p (by omega)
  omega

def mX6_hourEnd (x : Nat → Nat → Int32) (pl : Int32) : Int32 := (if 0 ≤ pl then (lt (mX6_digit x pl) (fun r_2 => (if 0 ≤ r_2 then (lt (mX6_digit x pl) (fun r_4 => (if r_4 ≤ 0 then (pl + 1) else (lt (mX6_digit x (pl + 1)) (fun r_8 => (if r_8 < 0 then (pl + 1) else (lt (mX6_digit x pl) (fun r_11 => (lt (mX6_digit x (pl + 1)) (fun r_13 => (if 24 ≤ ((10 * r_11) + r_13) then (pl + 1) else (pl + 2)))))))))))) else ((-1) - pl)))) else pl)
theorem kX6_hourEnd : yX6_hourEnd.cls = RX6 ∧ yX6_hourEnd.cls ≠ "java/lang/invoke/MethodHandle" ∧ yX6_hourEnd.cls ≠ "java/lang/invoke/VarHandle" ∧ (parseMethodDescriptor yX6_hourEnd.desc).map (fun d => d.parameters.length) = some 1 := by decide +kernel
set_option maxHeartbeats 4000000 in
set_option maxRecDepth 100000 in
theorem MX6_hourEnd (l : Launch) (D : va_G) (q : Nat → ClassId) (h : Nat → Nat) (x : Nat → Nat → Int32) (pl : Int32) (hL : 0 ≤ (x 4 2).toInt ∧ (x 4 2).toInt < 61) (hpl : -999 ≤ pl.toInt ∧ pl.toInt < 999) : roM l D (tyq q) yX6_hourEnd wsX6_hourEnd ({ frames := 2, cells := 0, slots := 0, locals := 43 } : Room) [.ref (h 0), .int pl] (wM q h x) (some (.int (mX6_hourEnd x pl))) := by
  obtain ⟨R, hR⟩ : ∃ z, (mX6_hourEnd x pl) = z := ⟨_, rfl⟩
  rw [hR]
  unfold mX6_hourEnd at hR
  refine roM.of (cc := cX6_hourEnd) (maxL := 3) (ret := (some .int)) (by decide) rfl (Nat.le_of_ble_eq_true rfl) ?_
  intro p e s m below meth c ls hx hb hr hk hml hown hts hP hD hG hl
  have hl : lv_has ls 3 [(0, .ref (h 0)), (1, .int pl)] := hl
  refine lv_iload_n hx hb dX6_hourEnd_0 rfl (lv_at hl 1 rfl) ?_
  refine lv_if_ge (tgt := 6) hx hb dX6_hourEnd_1 (by decide) (fun c_1 => ?_) (fun c_1 => ?_)
  · rw [if_pos c_1] at hR
    have tc_1 : 0 ≤ pl.toInt := i_le.mp c_1
    refine lv_aload_n hx hb dX6_hourEnd_6 rfl (lv_at hl 0 rfl) ?_
    refine lv_iload_n hx hb dX6_hourEnd_7 rfl (lv_at hl 1 rfl) ?_
    refine ro_V (v := .int (mX6_digit x pl)) (rest := []) (As := [.int pl]) hx hb hml hown hts hl (MX6_digit l D q h x pl (by assumption) (rg_t (i := pl) (x := (pl).toInt) rfl (by omega))) gX6_hourEnd_X6_digit rfl kX6_digit ⟨Nat.le_of_ble_eq_true rfl, Nat.le_of_ble_eq_true rfl⟩ rfl rfl hP (dT hD) hG (ci := 4) rfl rfl rfl rfl (Nat.le_of_ble_eq_true rfl) dX6_hourEnd_8 ⟨Nat.zero_le _, Nat.zero_le _⟩ ?_
    obtain ⟨r_2, er_2⟩ : ∃ z, z = (mX6_digit x pl) := ⟨_, rfl⟩
    have b0_r_2 := b_digit x pl
    rw [← er_2] at b0_r_2
    rw [← er_2]
    replace hR := lt_e hR er_2
    refine lv_if_ge (tgt := 18) hx hb dX6_hourEnd_11 (by decide) (fun c_3 => ?_) (fun c_3 => ?_)
    · rw [if_pos c_3] at hR
      have tc_3 : 0 ≤ r_2.toInt := i_le.mp c_3
      refine lv_aload_n hx hb dX6_hourEnd_18 rfl (lv_at hl 0 rfl) ?_
      refine lv_iload_n hx hb dX6_hourEnd_19 rfl (lv_at hl 1 rfl) ?_
      refine ro_V (v := .int (mX6_digit x pl)) (rest := []) (As := [.int pl]) hx hb hml hown hts hl (MX6_digit l D q h x pl (by assumption) (rg_t (i := pl) (x := (pl).toInt) rfl (by omega))) gX6_hourEnd_X6_digit rfl kX6_digit ⟨Nat.le_of_ble_eq_true rfl, Nat.le_of_ble_eq_true rfl⟩ rfl rfl hP (dT hD) hG (ci := 4) rfl rfl rfl rfl (Nat.le_of_ble_eq_true rfl) dX6_hourEnd_20 ⟨Nat.zero_le _, Nat.zero_le _⟩ ?_
      obtain ⟨r_4, er_4⟩ : ∃ z, z = (mX6_digit x pl) := ⟨_, rfl⟩
      have b0_r_4 := b_digit x pl
      rw [← er_4] at b0_r_4
      rw [← er_4]
      replace hR := lt_e hR er_4
      refine lv_if_le (tgt := 61) hx hb dX6_hourEnd_23 (by decide) (fun c_5 => ?_) (fun c_5 => ?_)
      · rw [if_pos c_5] at hR
        have tc_5 : r_4.toInt ≤ 0 := i_le.mp c_5
        refine lv_iconst (v := 0) hx hb dX6_hourEnd_61 (by decide) ?_
        refine lv_istore_n (lv' := [(2, .int 0), (0, .ref (h 0)), (1, .int pl)]) hx hb dX6_hourEnd_62 rfl hl (by decide) rfl (fun ls hl => ?_)
        refine lv_iload_n hx hb dX6_hourEnd_63 rfl (lv_at hl 0 rfl) ?_
        refine lv_if_eq (tgt := 73) hx hb dX6_hourEnd_64 (by decide) (fun _ => ?_) (fun c_6 => absurd (by decide) c_6)
        refine lv_iload_n hx hb dX6_hourEnd_73 rfl (lv_at hl 2 rfl) ?_
        refine lv_iconst (v := 1) hx hb dX6_hourEnd_74 (by decide) ?_
        refine lv_iadd hx hb dX6_hourEnd_75 ?_
        exact ro_iret hx hb hr hk hR dX6_hourEnd_76
      · rw [if_neg c_5] at hR
        have tc_5 : ¬ r_4.toInt ≤ 0 := fun z => c_5 (i_le.mpr z)
        refine lv_aload_n hx hb dX6_hourEnd_26 rfl (lv_at hl 0 rfl) ?_
        refine lv_iload_n hx hb dX6_hourEnd_27 rfl (lv_at hl 1 rfl) ?_
        refine lv_iconst (v := 1) hx hb dX6_hourEnd_28 (by decide) ?_
        refine lv_iadd hx hb dX6_hourEnd_29 ?_
        have u_7 : ((pl + 1)).toInt = ((pl).toInt + 1) := (ti_add rfl (show (1 : Int32).toInt = 1 from rfl) (by omega))
        refine ro_V (v := .int (mX6_digit x (pl + 1))) (rest := []) (As := [.int (pl + 1)]) hx hb hml hown hts hl (MX6_digit l D q h x (pl + 1) (by assumption) (rg_t (i := (pl + 1)) (x := ((pl).toInt + 1)) (ti_add rfl (show (1 : Int32).toInt = 1 from rfl) (by omega)) (by omega))) gX6_hourEnd_X6_digit rfl kX6_digit ⟨Nat.le_of_ble_eq_true rfl, Nat.le_of_ble_eq_true rfl⟩ rfl rfl hP (dT hD) hG (ci := 4) rfl rfl rfl rfl (Nat.le_of_ble_eq_true rfl) dX6_hourEnd_30 ⟨Nat.zero_le _, Nat.zero_le _⟩ ?_
        obtain ⟨r_8, er_8⟩ : ∃ z, z = (mX6_digit x (pl + 1)) := ⟨_, rfl⟩
        have b0_r_8 := b_digit x (pl + 1)
        rw [← er_8] at b0_r_8
        rw [← er_8]
        replace hR := lt_e hR er_8
        refine lv_if_lt (tgt := 61) hx hb dX6_hourEnd_33 (by decide) (fun c_9 => ?_) (fun c_9 => ?_)
        · rw [if_pos c_9] at hR
          have tc_9 : r_8.toInt < 0 := i_lt.mp c_9
          refine lv_iconst (v := 0) hx hb dX6_hourEnd_61 (by decide) ?_
          refine lv_istore_n (lv' := [(2, .int 0), (0, .ref (h 0)), (1, .int pl)]) hx hb dX6_hourEnd_62 rfl hl (by decide) rfl (fun ls hl => ?_)
          refine lv_iload_n hx hb dX6_hourEnd_63 rfl (lv_at hl 0 rfl) ?_
          refine lv_if_eq (tgt := 73) hx hb dX6_hourEnd_64 (by decide) (fun _ => ?_) (fun c_10 => absurd (by decide) c_10)
          refine lv_iload_n hx hb dX6_hourEnd_73 rfl (lv_at hl 2 rfl) ?_
          refine lv_iconst (v := 1) hx hb dX6_hourEnd_74 (by decide) ?_
          refine lv_iadd hx hb dX6_hourEnd_75 ?_
          exact ro_iret hx hb hr hk hR dX6_hourEnd_76
        · rw [if_neg c_9] at hR
          have tc_9 : ¬ r_8.toInt < 0 := fun z => c_9 (i_lt.mpr z)
          refine lv_bipush (v := 10) hx hb dX6_hourEnd_36 (by decide) ?_
          refine lv_aload_n hx hb dX6_hourEnd_38 rfl (lv_at hl 0 rfl) ?_
          refine lv_iload_n hx hb dX6_hourEnd_39 rfl (lv_at hl 1 rfl) ?_
          refine ro_V (v := .int (mX6_digit x pl)) (rest := [.int 10]) (As := [.int pl]) hx hb hml hown hts hl (MX6_digit l D q h x pl (by assumption) (rg_t (i := pl) (x := (pl).toInt) rfl (by omega))) gX6_hourEnd_X6_digit rfl kX6_digit ⟨Nat.le_of_ble_eq_true rfl, Nat.le_of_ble_eq_true rfl⟩ rfl rfl hP (dT hD) hG (ci := 4) rfl rfl rfl rfl (Nat.le_of_ble_eq_true rfl) dX6_hourEnd_40 ⟨Nat.zero_le _, Nat.zero_le _⟩ ?_
          obtain ⟨r_11, er_11⟩ : ∃ z, z = (mX6_digit x pl) := ⟨_, rfl⟩
          have b0_r_11 := b_digit x pl
          rw [← er_11] at b0_r_11
          rw [← er_11]
          replace hR := lt_e hR er_11
          refine lv_imul hx hb dX6_hourEnd_43 ?_
          refine lv_aload_n hx hb dX6_hourEnd_44 rfl (lv_at hl 0 rfl) ?_
          refine lv_iload_n hx hb dX6_hourEnd_45 rfl (lv_at hl 1 rfl) ?_
          refine lv_iconst (v := 1) hx hb dX6_hourEnd_46 (by decide) ?_
          refine lv_iadd hx hb dX6_hourEnd_47 ?_
          have u_12 : ((pl + 1)).toInt = ((pl).toInt + 1) := (ti_add rfl (show (1 : Int32).toInt = 1 from rfl) (by omega))
          refine ro_V (v := .int (mX6_digit x (pl + 1))) (rest := [.int (10 * r_11)]) (As := [.int (pl + 1)]) hx hb hml hown hts hl (MX6_digit l D q h x (pl + 1) (by assumption) (rg_t (i := (pl + 1)) (x := ((pl).toInt + 1)) (ti_add rfl (show (1 : Int32).toInt = 1 from rfl) (by omega)) (by omega))) gX6_hourEnd_X6_digit rfl kX6_digit ⟨Nat.le_of_ble_eq_true rfl, Nat.le_of_ble_eq_true rfl⟩ rfl rfl hP (dT hD) hG (ci := 4) rfl rfl rfl rfl (Nat.le_of_ble_eq_true rfl) dX6_hourEnd_48 ⟨Nat.zero_le _, Nat.zero_le _⟩ ?_
          obtain ⟨r_13, er_13⟩ : ∃ z, z = (mX6_digit x (pl + 1)) := ⟨_, rfl⟩
          have b0_r_13 := b_digit x (pl + 1)
          rw [← er_13] at b0_r_13
          rw [← er_13]
          replace hR := lt_e hR er_13
          refine lv_iadd hx hb dX6_hourEnd_51 ?_
          refine lv_bipush (v := 24) hx hb dX6_hourEnd_52 (by decide) ?_
          refine lv_icmp_ge (tgt := 61) hx hb dX6_hourEnd_54 (by decide) (fun c_14 => ?_) (fun c_14 => ?_)
          · rw [if_pos c_14] at hR
            have tc_14 : 24 ≤ ((10 * r_11) + r_13).toInt := i_le.mp c_14
            refine lv_iconst (v := 0) hx hb dX6_hourEnd_61 (by decide) ?_
            refine lv_istore_n (lv' := [(2, .int 0), (0, .ref (h 0)), (1, .int pl)]) hx hb dX6_hourEnd_62 rfl hl (by decide) rfl (fun ls hl => ?_)
            refine lv_iload_n hx hb dX6_hourEnd_63 rfl (lv_at hl 0 rfl) ?_
            refine lv_if_eq (tgt := 73) hx hb dX6_hourEnd_64 (by decide) (fun _ => ?_) (fun c_15 => absurd (by decide) c_15)
            refine lv_iload_n hx hb dX6_hourEnd_73 rfl (lv_at hl 2 rfl) ?_
            refine lv_iconst (v := 1) hx hb dX6_hourEnd_74 (by decide) ?_
            refine lv_iadd hx hb dX6_hourEnd_75 ?_
            exact ro_iret hx hb hr hk hR dX6_hourEnd_76
          · rw [if_neg c_14] at hR
            have tc_14 : ¬ 24 ≤ ((10 * r_11) + r_13).toInt := fun z => c_14 (i_le.mpr z)
            refine lv_iconst (v := 1) hx hb dX6_hourEnd_57 (by decide) ?_
            refine lv_goto (tgt := 62) hx hb dX6_hourEnd_58 (by decide) ?_
            refine lv_istore_n (lv' := [(2, .int 1), (0, .ref (h 0)), (1, .int pl)]) hx hb dX6_hourEnd_62 rfl hl (by decide) rfl (fun ls hl => ?_)
            refine lv_iload_n hx hb dX6_hourEnd_63 rfl (lv_at hl 0 rfl) ?_
            refine lv_if_eq (tgt := 73) hx hb dX6_hourEnd_64 (by decide) (fun c_16 => absurd c_16 (by decide)) (fun _ => ?_)
            refine lv_iload_n hx hb dX6_hourEnd_67 rfl (lv_at hl 2 rfl) ?_
            refine lv_iconst (v := 2) hx hb dX6_hourEnd_68 (by decide) ?_
            refine lv_iadd hx hb dX6_hourEnd_69 ?_
            refine lv_goto (tgt := 76) hx hb dX6_hourEnd_70 (by decide) ?_
            exact ro_iret hx hb hr hk hR dX6_hourEnd_76
    · rw [if_neg c_3] at hR
      have tc_3 : ¬ 0 ≤ r_2.toInt := fun z => c_3 (i_le.mpr z)
      refine lv_iconst (v := (-1)) hx hb dX6_hourEnd_14 (by decide) ?_
      refine lv_iload_n hx hb dX6_hourEnd_15 rfl (lv_at hl 1 rfl) ?_
      refine lv_isub hx hb dX6_hourEnd_16 ?_
      exact ro_iret hx hb hr hk hR dX6_hourEnd_17
  · rw [if_neg c_1] at hR
    have tc_1 : ¬ 0 ≤ pl.toInt := fun z => c_1 (i_le.mpr z)
    refine lv_iload_n hx hb dX6_hourEnd_4 rfl (lv_at hl 1 rfl) ?_
    exact ro_iret hx hb hr hk hR dX6_hourEnd_5
theorem b_hourEnd (x : Nat → Nat → Int32) (p : Int32) (hp : -999 ≤ p.toInt ∧ p.toInt < 999) : (mX6_hourEnd x p).toInt = p.toInt ∨ (mX6_hourEnd x p).toInt = p.toInt + 1 ∨ (mX6_hourEnd x p).toInt = p.toInt + 2 ∨ (mX6_hourEnd x p).toInt = -1 - p.toInt := by
  have h1 := b_up (p := p) 1 (n := 1) rfl (by omega) (by omega)
  have h2 := b_up (p := p) 2 (n := 2) rfl (by omega) (by omega)
  have h3 := b_m1 (p := p) (by omega)
  unfold mX6_hourEnd
  dsimp only [lt]
  repeat' split
  all_goals omega
theorem g_hourEnd (x : Nat → Nat → Int32) (p : Int32) {B : Int} (h : -B ≤ p.toInt ∧ p.toInt ≤ B) (hB : B < 999) : -(B + 2) ≤ (mX6_hourEnd x p).toInt ∧ (mX6_hourEnd x p).toInt ≤ B + 2 := by
  have h1 := b_hourEnd x p (by omega)
  omega

def mX6_yardIn (x : Nat → Nat → Int32) (pl : Int32) : Int32 := (lt (mX6_digit x (pl + 1)) (fun r_2 => (lt (mX6_sign x pl) (fun r_3 => (((12 * r_2) + r_3) - 97)))))
theorem kX6_yardIn : yX6_yardIn.cls = RX6 ∧ yX6_yardIn.cls ≠ "java/lang/invoke/MethodHandle" ∧ yX6_yardIn.cls ≠ "java/lang/invoke/VarHandle" ∧ (parseMethodDescriptor yX6_yardIn.desc).map (fun d => d.parameters.length) = some 1 := by decide +kernel
set_option maxHeartbeats 4000000 in
set_option maxRecDepth 100000 in
theorem MX6_yardIn (l : Launch) (D : va_G) (q : Nat → ClassId) (h : Nat → Nat) (x : Nat → Nat → Int32) (pl : Int32) (hL : 0 ≤ (x 4 2).toInt ∧ (x 4 2).toInt < 61) (hpl : 0 ≤ pl.toInt ∧ pl.toInt < 900) : roM l D (tyq q) yX6_yardIn wsX6_yardIn ({ frames := 2, cells := 0, slots := 0, locals := 43 } : Room) [.ref (h 0), .int pl] (wM q h x) (some (.int (mX6_yardIn x pl))) := by
  obtain ⟨R, hR⟩ : ∃ z, (mX6_yardIn x pl) = z := ⟨_, rfl⟩
  rw [hR]
  unfold mX6_yardIn at hR
  refine roM.of (cc := cX6_yardIn) (maxL := 2) (ret := (some .int)) (by decide) rfl (Nat.le_of_ble_eq_true rfl) ?_
  intro p e s m below meth c ls hx hb hr hk hml hown hts hP hD hG hl
  have hl : lv_has ls 2 [(0, .ref (h 0)), (1, .int pl)] := hl
  refine lv_bipush (v := 12) hx hb dX6_yardIn_0 (by decide) ?_
  refine lv_aload_n hx hb dX6_yardIn_2 rfl (lv_at hl 0 rfl) ?_
  refine lv_iload_n hx hb dX6_yardIn_3 rfl (lv_at hl 1 rfl) ?_
  refine lv_iconst (v := 1) hx hb dX6_yardIn_4 (by decide) ?_
  refine lv_iadd hx hb dX6_yardIn_5 ?_
  have u_1 : ((pl + 1)).toInt = ((pl).toInt + 1) := (ti_add rfl (show (1 : Int32).toInt = 1 from rfl) (by omega))
  refine ro_V (v := .int (mX6_digit x (pl + 1))) (rest := [.int 12]) (As := [.int (pl + 1)]) hx hb hml hown hts hl (MX6_digit l D q h x (pl + 1) (by assumption) (rg_t (i := (pl + 1)) (x := ((pl).toInt + 1)) (ti_add rfl (show (1 : Int32).toInt = 1 from rfl) (by omega)) (by omega))) gX6_yardIn_X6_digit rfl kX6_digit ⟨Nat.le_of_ble_eq_true rfl, Nat.le_of_ble_eq_true rfl⟩ rfl rfl hP (dT hD) hG (ci := 4) rfl rfl rfl rfl (Nat.le_of_ble_eq_true rfl) dX6_yardIn_6 ⟨Nat.zero_le _, Nat.zero_le _⟩ ?_
  obtain ⟨r_2, er_2⟩ : ∃ z, z = (mX6_digit x (pl + 1)) := ⟨_, rfl⟩
  have b0_r_2 := b_digit x (pl + 1)
  rw [← er_2] at b0_r_2
  rw [← er_2]
  replace hR := lt_e hR er_2
  refine lv_imul hx hb dX6_yardIn_9 ?_
  refine lv_aload_n hx hb dX6_yardIn_10 rfl (lv_at hl 0 rfl) ?_
  refine lv_iload_n hx hb dX6_yardIn_11 rfl (lv_at hl 1 rfl) ?_
  refine ro_V (v := .int (mX6_sign x pl)) (rest := [.int (12 * r_2)]) (As := [.int pl]) hx hb hml hown hts hl (MX6_sign l D q h x pl (by assumption) (rg_t (i := pl) (x := (pl).toInt) rfl (by omega))) gX6_yardIn_X6_sign rfl kX6_sign ⟨Nat.le_of_ble_eq_true rfl, Nat.le_of_ble_eq_true rfl⟩ rfl rfl hP (dT hD) hG (ci := 4) rfl rfl rfl rfl (Nat.le_of_ble_eq_true rfl) dX6_yardIn_12 ⟨Nat.zero_le _, Nat.zero_le _⟩ ?_
  obtain ⟨r_3, er_3⟩ : ∃ z, z = (mX6_sign x pl) := ⟨_, rfl⟩
  rw [← er_3]
  replace hR := lt_e hR er_3
  refine lv_iadd hx hb dX6_yardIn_15 ?_
  refine lv_bipush (v := 97) hx hb dX6_yardIn_16 (by decide) ?_
  refine lv_isub hx hb dX6_yardIn_18 ?_
  exact ro_iret hx hb hr hk hR dX6_yardIn_19

def mX6_hourIn (x : Nat → Nat → Int32) (pl : Int32) : Int32 := (lt (mX6_hourEnd x pl) (fun r_1 => (if r_1 = (pl + 1) then (lt (mX6_digit x pl) (fun r_6 => r_6)) else (lt (mX6_digit x pl) (fun r_3 => (lt (mX6_digit x (pl + 1)) (fun r_5 => ((10 * r_3) + r_5))))))))
theorem kX6_hourIn : yX6_hourIn.cls = RX6 ∧ yX6_hourIn.cls ≠ "java/lang/invoke/MethodHandle" ∧ yX6_hourIn.cls ≠ "java/lang/invoke/VarHandle" ∧ (parseMethodDescriptor yX6_hourIn.desc).map (fun d => d.parameters.length) = some 1 := by decide +kernel
set_option maxHeartbeats 4000000 in
set_option maxRecDepth 100000 in
theorem MX6_hourIn (l : Launch) (D : va_G) (q : Nat → ClassId) (h : Nat → Nat) (x : Nat → Nat → Int32) (pl : Int32) (hL : 0 ≤ (x 4 2).toInt ∧ (x 4 2).toInt < 61) (hpl : 0 ≤ pl.toInt ∧ pl.toInt < 900) : roM l D (tyq q) yX6_hourIn wsX6_hourIn ({ frames := 3, cells := 0, slots := 0, locals := 65 } : Room) [.ref (h 0), .int pl] (wM q h x) (some (.int (mX6_hourIn x pl))) := by
  obtain ⟨R, hR⟩ : ∃ z, (mX6_hourIn x pl) = z := ⟨_, rfl⟩
  rw [hR]
  unfold mX6_hourIn at hR
  refine roM.of (cc := cX6_hourIn) (maxL := 2) (ret := (some .int)) (by decide) rfl (Nat.le_of_ble_eq_true rfl) ?_
  intro p e s m below meth c ls hx hb hr hk hml hown hts hP hD hG hl
  have hl : lv_has ls 2 [(0, .ref (h 0)), (1, .int pl)] := hl
  refine lv_aload_n hx hb dX6_hourIn_0 rfl (lv_at hl 0 rfl) ?_
  refine lv_iload_n hx hb dX6_hourIn_1 rfl (lv_at hl 1 rfl) ?_
  refine ro_V (v := .int (mX6_hourEnd x pl)) (rest := []) (As := [.int pl]) hx hb hml hown hts hl (MX6_hourEnd l D q h x pl (by assumption) (rg_t (i := pl) (x := (pl).toInt) rfl (by omega))) gX6_hourIn_X6_hourEnd rfl kX6_hourEnd ⟨Nat.le_of_ble_eq_true rfl, Nat.le_of_ble_eq_true rfl⟩ rfl rfl hP (dT hD) hG (ci := 4) rfl rfl rfl rfl (Nat.le_of_ble_eq_true rfl) dX6_hourIn_2 ⟨Nat.zero_le _, Nat.zero_le _⟩ ?_
  obtain ⟨r_1, er_1⟩ : ∃ z, z = (mX6_hourEnd x pl) := ⟨_, rfl⟩
  have b0_r_1 := g_hourEnd x pl (B := pl.toInt) (by omega) (by omega)
  rw [← er_1] at b0_r_1
  rw [← er_1]
  replace hR := lt_e hR er_1
  refine lv_iload_n hx hb dX6_hourIn_5 rfl (lv_at hl 1 rfl) ?_
  refine lv_iconst (v := 1) hx hb dX6_hourIn_6 (by decide) ?_
  refine lv_iadd hx hb dX6_hourIn_7 ?_
  refine lv_icmp_ne (tgt := 19) hx hb dX6_hourIn_8 (by decide) (fun c_2 => ?_) (fun c_2 => ?_)
  · rw [if_neg c_2] at hR
    have tc_2 : ¬ r_1.toInt = (pl + 1).toInt := fun z => c_2 (i_eq.mpr z)
    refine lv_bipush (v := 10) hx hb dX6_hourIn_19 (by decide) ?_
    refine lv_aload_n hx hb dX6_hourIn_21 rfl (lv_at hl 0 rfl) ?_
    refine lv_iload_n hx hb dX6_hourIn_22 rfl (lv_at hl 1 rfl) ?_
    refine ro_V (v := .int (mX6_digit x pl)) (rest := [.int 10]) (As := [.int pl]) hx hb hml hown hts hl (MX6_digit l D q h x pl (by assumption) (rg_t (i := pl) (x := (pl).toInt) rfl (by omega))) gX6_hourIn_X6_digit rfl kX6_digit ⟨Nat.le_of_ble_eq_true rfl, Nat.le_of_ble_eq_true rfl⟩ rfl rfl hP (dT hD) hG (ci := 4) rfl rfl rfl rfl (Nat.le_of_ble_eq_true rfl) dX6_hourIn_23 ⟨Nat.zero_le _, Nat.zero_le _⟩ ?_
    obtain ⟨r_3, er_3⟩ : ∃ z, z = (mX6_digit x pl) := ⟨_, rfl⟩
    have b0_r_3 := b_digit x pl
    rw [← er_3] at b0_r_3
    rw [← er_3]
    replace hR := lt_e hR er_3
    refine lv_imul hx hb dX6_hourIn_26 ?_
    refine lv_aload_n hx hb dX6_hourIn_27 rfl (lv_at hl 0 rfl) ?_
    refine lv_iload_n hx hb dX6_hourIn_28 rfl (lv_at hl 1 rfl) ?_
    refine lv_iconst (v := 1) hx hb dX6_hourIn_29 (by decide) ?_
    refine lv_iadd hx hb dX6_hourIn_30 ?_
    have u_4 : ((pl + 1)).toInt = ((pl).toInt + 1) := (ti_add rfl (show (1 : Int32).toInt = 1 from rfl) (by omega))
    refine ro_V (v := .int (mX6_digit x (pl + 1))) (rest := [.int (10 * r_3)]) (As := [.int (pl + 1)]) hx hb hml hown hts hl (MX6_digit l D q h x (pl + 1) (by assumption) (rg_t (i := (pl + 1)) (x := ((pl).toInt + 1)) (ti_add rfl (show (1 : Int32).toInt = 1 from rfl) (by omega)) (by omega))) gX6_hourIn_X6_digit rfl kX6_digit ⟨Nat.le_of_ble_eq_true rfl, Nat.le_of_ble_eq_true rfl⟩ rfl rfl hP (dT hD) hG (ci := 4) rfl rfl rfl rfl (Nat.le_of_ble_eq_true rfl) dX6_hourIn_31 ⟨Nat.zero_le _, Nat.zero_le _⟩ ?_
    obtain ⟨r_5, er_5⟩ : ∃ z, z = (mX6_digit x (pl + 1)) := ⟨_, rfl⟩
    have b0_r_5 := b_digit x (pl + 1)
    rw [← er_5] at b0_r_5
    rw [← er_5]
    replace hR := lt_e hR er_5
    refine lv_iadd hx hb dX6_hourIn_34 ?_
    exact ro_iret hx hb hr hk hR dX6_hourIn_35
  · rw [if_pos c_2] at hR
    have tc_2 : r_1.toInt = (pl + 1).toInt := i_eq.mp c_2
    refine lv_aload_n hx hb dX6_hourIn_11 rfl (lv_at hl 0 rfl) ?_
    refine lv_iload_n hx hb dX6_hourIn_12 rfl (lv_at hl 1 rfl) ?_
    refine ro_V (v := .int (mX6_digit x pl)) (rest := []) (As := [.int pl]) hx hb hml hown hts hl (MX6_digit l D q h x pl (by assumption) (rg_t (i := pl) (x := (pl).toInt) rfl (by omega))) gX6_hourIn_X6_digit rfl kX6_digit ⟨Nat.le_of_ble_eq_true rfl, Nat.le_of_ble_eq_true rfl⟩ rfl rfl hP (dT hD) hG (ci := 4) rfl rfl rfl rfl (Nat.le_of_ble_eq_true rfl) dX6_hourIn_13 ⟨Nat.zero_le _, Nat.zero_le _⟩ ?_
    obtain ⟨r_6, er_6⟩ : ∃ z, z = (mX6_digit x pl) := ⟨_, rfl⟩
    have b0_r_6 := b_digit x pl
    rw [← er_6] at b0_r_6
    rw [← er_6]
    replace hR := lt_e hR er_6
    refine lv_goto (tgt := 35) hx hb dX6_hourIn_16 (by decide) ?_
    exact ro_iret hx hb hr hk hR dX6_hourIn_35
theorem b_hourIn (x : Nat → Nat → Int32) (p : Int32) (_ : 0 ≤ p.toInt) : -11 ≤ (mX6_hourIn x p).toInt ∧ (mX6_hourIn x p).toInt < 100 := by
  have h1 := b_digit x p
  have h2 := b_digit x (p + 1)
  have e0 : (10 : Int32).toInt = 10 := rfl
  unfold mX6_hourIn
  dsimp only [lt]
  split
  · omega
  · rw [ti_add (ti_mul e0 (b := mX6_digit x p) rfl (by omega)) (b := mX6_digit x (p + 1)) rfl (by omega)]
    omega

def mX6_partEnd (x : Nat → Nat → Int32) (pl : Int32) : Int32 := (lt (mX6_sign x pl) (fun r_1 => (if r_1 = 99 then (lt (mX6_digitEnd x (pl + 1) 0 9) (fun r_4 => (lt (mX6_digitEnd x r_4 0 3) (fun r_5 => (if r_5 < 0 then (if 0 ≤ r_5 then (lt (mX6_hourEnd x (r_5 + 1)) (fun r_10 => r_10)) else r_5) else (lt (mX6_sign x r_5) (fun r_11 => (if r_11 = 110 then (if 0 ≤ r_5 then (lt (mX6_hourEnd x (r_5 + 1)) (fun r_16 => r_16)) else r_5) else (lt (mX6_sign x r_5) (fun r_17 => (if r_17 = 115 then (if 0 ≤ r_5 then (lt (mX6_hourEnd x (r_5 + 1)) (fun r_24 => r_24)) else r_5) else (if 0 ≤ r_5 then ((-1) - r_5) else r_5)))))))))))) else (if r_1 = 104 then (lt (mX6_behind x (pl + 1) 64) (fun r_27 => (lt (mX6_yardEnd x r_27) (fun r_28 => r_28)))) else (if r_1 = 109 then (lt (mX6_digitEnd x (pl + 1) 1 5) (fun r_31 => (lt (mX6_behind x r_31 64) (fun r_32 => (lt (mX6_yardEnd x r_32) (fun r_33 => r_33)))))) else (if r_1 = 119 then (lt (mX6_hourEnd x (pl + 1)) (fun r_36 => (lt (mX6_behind x r_36 61) (fun r_37 => (lt (mX6_digitEnd x r_37 0 9) (fun r_38 => r_38)))))) else ((-1) - pl)))))))
theorem kX6_partEnd : yX6_partEnd.cls = RX6 ∧ yX6_partEnd.cls ≠ "java/lang/invoke/MethodHandle" ∧ yX6_partEnd.cls ≠ "java/lang/invoke/VarHandle" ∧ (parseMethodDescriptor yX6_partEnd.desc).map (fun d => d.parameters.length) = some 1 := by decide +kernel
set_option maxHeartbeats 4000000 in
set_option maxRecDepth 100000 in
theorem MX6_partEnd (l : Launch) (D : va_G) (q : Nat → ClassId) (h : Nat → Nat) (x : Nat → Nat → Int32) (pl : Int32) (hL : 0 ≤ (x 4 2).toInt ∧ (x 4 2).toInt < 61) (hpl : 0 ≤ pl.toInt ∧ pl.toInt < 900) : roM l D (tyq q) yX6_partEnd wsX6_partEnd ({ frames := 4, cells := 0, slots := 0, locals := 87 } : Room) [.ref (h 0), .int pl] (wM q h x) (some (.int (mX6_partEnd x pl))) := by
  obtain ⟨R, hR⟩ : ∃ z, (mX6_partEnd x pl) = z := ⟨_, rfl⟩
  rw [hR]
  unfold mX6_partEnd at hR
  refine roM.of (cc := cX6_partEnd) (maxL := 4) (ret := (some .int)) (by decide) rfl (Nat.le_of_ble_eq_true rfl) ?_
  intro p e s m below meth c ls hx hb hr hk hml hown hts hP hD hG hl
  have hl : lv_has ls 4 [(0, .ref (h 0)), (1, .int pl)] := hl
  refine lv_aload_n hx hb dX6_partEnd_0 rfl (lv_at hl 0 rfl) ?_
  refine lv_iload_n hx hb dX6_partEnd_1 rfl (lv_at hl 1 rfl) ?_
  refine ro_V (v := .int (mX6_sign x pl)) (rest := []) (As := [.int pl]) hx hb hml hown hts hl (MX6_sign l D q h x pl (by assumption) (rg_t (i := pl) (x := (pl).toInt) rfl (by omega))) gX6_partEnd_X6_sign rfl kX6_sign ⟨Nat.le_of_ble_eq_true rfl, Nat.le_of_ble_eq_true rfl⟩ rfl rfl hP (dT hD) hG (ci := 4) rfl rfl rfl rfl (Nat.le_of_ble_eq_true rfl) dX6_partEnd_2 ⟨Nat.zero_le _, Nat.zero_le _⟩ ?_
  obtain ⟨r_1, er_1⟩ : ∃ z, z = (mX6_sign x pl) := ⟨_, rfl⟩
  rw [← er_1]
  replace hR := lt_e hR er_1
  by_cases c_2 : r_1 = 99
  · rw [if_pos c_2] at hR
    have tc_2 : r_1.toInt = 99 := i_eq.mp c_2
    refine lv_lookup (off := 98) (tgt := 103) hx hb dX6_partEnd_5 (by decide) (by rw [c_2]; decide) (by decide) ?_
    refine lv_aload_n hx hb dX6_partEnd_103 rfl (lv_at hl 0 rfl) ?_
    refine lv_aload_n hx hb dX6_partEnd_104 rfl (lv_at hl 0 rfl) ?_
    refine lv_iload_n hx hb dX6_partEnd_105 rfl (lv_at hl 1 rfl) ?_
    refine lv_iconst (v := 1) hx hb dX6_partEnd_106 (by decide) ?_
    refine lv_iadd hx hb dX6_partEnd_107 ?_
    refine lv_iconst (v := 0) hx hb dX6_partEnd_108 (by decide) ?_
    refine lv_bipush (v := 9) hx hb dX6_partEnd_109 (by decide) ?_
    have u_3 : ((pl + 1)).toInt = ((pl).toInt + 1) := (ti_add rfl (show (1 : Int32).toInt = 1 from rfl) (by omega))
    refine ro_V (v := .int (mX6_digitEnd x (pl + 1) 0 9)) (rest := [.ref (h 0)]) (As := [.int (pl + 1), .int 0, .int 9]) hx hb hml hown hts hl (MX6_digitEnd l D q h x (pl + 1) 0 9 (by assumption) (rg_t (i := (pl + 1)) (x := ((pl).toInt + 1)) (ti_add rfl (show (1 : Int32).toInt = 1 from rfl) (by omega)) (by omega))) gX6_partEnd_X6_digitEnd rfl kX6_digitEnd ⟨Nat.le_of_ble_eq_true rfl, Nat.le_of_ble_eq_true rfl⟩ rfl rfl hP (dT hD) hG (ci := 4) rfl rfl rfl rfl (Nat.le_of_ble_eq_true rfl) dX6_partEnd_111 ⟨Nat.zero_le _, Nat.zero_le _⟩ ?_
    obtain ⟨r_4, er_4⟩ : ∃ z, z = (mX6_digitEnd x (pl + 1) 0 9) := ⟨_, rfl⟩
    have b0_r_4 := g_digitEnd x (pl + 1) 0 9 (B := pl.toInt + 1) (by omega) (by omega)
    rw [← er_4] at b0_r_4
    rw [← er_4]
    replace hR := lt_e hR er_4
    refine lv_iconst (v := 0) hx hb dX6_partEnd_114 (by decide) ?_
    refine lv_iconst (v := 3) hx hb dX6_partEnd_115 (by decide) ?_
    refine ro_V (v := .int (mX6_digitEnd x r_4 0 3)) (rest := []) (As := [.int r_4, .int 0, .int 3]) hx hb hml hown hts hl (MX6_digitEnd l D q h x r_4 0 3 (by assumption) (rg_t (i := r_4) (x := (r_4).toInt) rfl (by omega))) gX6_partEnd_X6_digitEnd rfl kX6_digitEnd ⟨Nat.le_of_ble_eq_true rfl, Nat.le_of_ble_eq_true rfl⟩ rfl rfl hP (dT hD) hG (ci := 4) rfl rfl rfl rfl (Nat.le_of_ble_eq_true rfl) dX6_partEnd_116 ⟨Nat.zero_le _, Nat.zero_le _⟩ ?_
    obtain ⟨r_5, er_5⟩ : ∃ z, z = (mX6_digitEnd x r_4 0 3) := ⟨_, rfl⟩
    have b0_r_5 := g_digitEnd x r_4 0 3 (B := pl.toInt + 1 + 1) (by omega) (by omega)
    rw [← er_5] at b0_r_5
    rw [← er_5]
    replace hR := lt_e hR er_5
    refine lv_istore_n (lv' := [(2, .int r_5), (0, .ref (h 0)), (1, .int pl)]) hx hb dX6_partEnd_119 rfl hl (by decide) rfl (fun ls hl => ?_)
    refine lv_iload_n hx hb dX6_partEnd_120 rfl (lv_at hl 0 rfl) ?_
    refine lv_if_lt (tgt := 144) hx hb dX6_partEnd_121 (by decide) (fun c_6 => ?_) (fun c_6 => ?_)
    · rw [if_pos c_6] at hR
      have tc_6 : r_5.toInt < 0 := i_lt.mp c_6
      refine lv_iconst (v := 1) hx hb dX6_partEnd_144 (by decide) ?_
      refine lv_goto (tgt := 149) hx hb dX6_partEnd_145 (by decide) ?_
      refine lv_istore_n (lv' := [(3, .int 1), (2, .int r_5), (0, .ref (h 0)), (1, .int pl)]) hx hb dX6_partEnd_149 rfl hl (by decide) rfl (fun ls hl => ?_)
      refine lv_iload_n hx hb dX6_partEnd_150 rfl (lv_at hl 1 rfl) ?_
      refine lv_if_ge (tgt := 158) hx hb dX6_partEnd_151 (by decide) (fun c_7 => ?_) (fun c_7 => ?_)
      · rw [if_pos c_7] at hR
        have tc_7 : 0 ≤ r_5.toInt := i_le.mp c_7
        refine lv_iload_n hx hb dX6_partEnd_158 rfl (lv_at hl 0 rfl) ?_
        refine lv_if_eq (tgt := 172) hx hb dX6_partEnd_159 (by decide) (fun c_8 => absurd c_8 (by decide)) (fun _ => ?_)
        refine lv_aload_n hx hb dX6_partEnd_162 rfl (lv_at hl 2 rfl) ?_
        refine lv_iload_n hx hb dX6_partEnd_163 rfl (lv_at hl 1 rfl) ?_
        refine lv_iconst (v := 1) hx hb dX6_partEnd_164 (by decide) ?_
        refine lv_iadd hx hb dX6_partEnd_165 ?_
        have u_9 : ((r_5 + 1)).toInt = ((r_5).toInt + 1) := (ti_add rfl (show (1 : Int32).toInt = 1 from rfl) (by omega))
        refine ro_V (v := .int (mX6_hourEnd x (r_5 + 1))) (rest := []) (As := [.int (r_5 + 1)]) hx hb hml hown hts hl (MX6_hourEnd l D q h x (r_5 + 1) (by assumption) (rg_t (i := (r_5 + 1)) (x := ((r_5).toInt + 1)) (ti_add rfl (show (1 : Int32).toInt = 1 from rfl) (by omega)) (by omega))) gX6_partEnd_X6_hourEnd rfl kX6_hourEnd ⟨Nat.le_of_ble_eq_true rfl, Nat.le_of_ble_eq_true rfl⟩ rfl rfl hP (dT hD) hG (ci := 4) rfl rfl rfl rfl (Nat.le_of_ble_eq_true rfl) dX6_partEnd_166 ⟨Nat.zero_le _, Nat.zero_le _⟩ ?_
        obtain ⟨r_10, er_10⟩ : ∃ z, z = (mX6_hourEnd x (r_5 + 1)) := ⟨_, rfl⟩
        have b0_r_10 := g_hourEnd x (r_5 + 1) (B := pl.toInt + 1 + 1 + 1 + 1) (by omega) (by omega)
        rw [← er_10] at b0_r_10
        rw [← er_10]
        replace hR := lt_e hR er_10
        refine lv_goto (tgt := 175) hx hb dX6_partEnd_169 (by decide) ?_
        exact ro_iret hx hb hr hk hR dX6_partEnd_175
      · rw [if_neg c_7] at hR
        have tc_7 : ¬ 0 ≤ r_5.toInt := fun z => c_7 (i_le.mpr z)
        refine lv_iload_n hx hb dX6_partEnd_154 rfl (lv_at hl 1 rfl) ?_
        refine lv_goto (tgt := 175) hx hb dX6_partEnd_155 (by decide) ?_
        exact ro_iret hx hb hr hk hR dX6_partEnd_175
    · rw [if_neg c_6] at hR
      have tc_6 : ¬ r_5.toInt < 0 := fun z => c_6 (i_lt.mpr z)
      refine lv_aload_n hx hb dX6_partEnd_124 rfl (lv_at hl 1 rfl) ?_
      refine lv_iload_n hx hb dX6_partEnd_125 rfl (lv_at hl 0 rfl) ?_
      refine ro_V (v := .int (mX6_sign x r_5)) (rest := []) (As := [.int r_5]) hx hb hml hown hts hl (MX6_sign l D q h x r_5 (by assumption) (rg_t (i := r_5) (x := (r_5).toInt) rfl (by omega))) gX6_partEnd_X6_sign rfl kX6_sign ⟨Nat.le_of_ble_eq_true rfl, Nat.le_of_ble_eq_true rfl⟩ rfl rfl hP (dT hD) hG (ci := 4) rfl rfl rfl rfl (Nat.le_of_ble_eq_true rfl) dX6_partEnd_126 ⟨Nat.zero_le _, Nat.zero_le _⟩ ?_
      obtain ⟨r_11, er_11⟩ : ∃ z, z = (mX6_sign x r_5) := ⟨_, rfl⟩
      rw [← er_11]
      replace hR := lt_e hR er_11
      refine lv_bipush (v := 110) hx hb dX6_partEnd_129 (by decide) ?_
      refine lv_icmp_eq (tgt := 144) hx hb dX6_partEnd_131 (by decide) (fun c_12 => ?_) (fun c_12 => ?_)
      · rw [if_pos c_12] at hR
        have tc_12 : r_11.toInt = 110 := i_eq.mp c_12
        refine lv_iconst (v := 1) hx hb dX6_partEnd_144 (by decide) ?_
        refine lv_goto (tgt := 149) hx hb dX6_partEnd_145 (by decide) ?_
        refine lv_istore_n (lv' := [(3, .int 1), (2, .int r_5), (0, .ref (h 0)), (1, .int pl)]) hx hb dX6_partEnd_149 rfl hl (by decide) rfl (fun ls hl => ?_)
        refine lv_iload_n hx hb dX6_partEnd_150 rfl (lv_at hl 1 rfl) ?_
        refine lv_if_ge (tgt := 158) hx hb dX6_partEnd_151 (by decide) (fun c_13 => ?_) (fun c_13 => ?_)
        · rw [if_pos c_13] at hR
          have tc_13 : 0 ≤ r_5.toInt := i_le.mp c_13
          refine lv_iload_n hx hb dX6_partEnd_158 rfl (lv_at hl 0 rfl) ?_
          refine lv_if_eq (tgt := 172) hx hb dX6_partEnd_159 (by decide) (fun c_14 => absurd c_14 (by decide)) (fun _ => ?_)
          refine lv_aload_n hx hb dX6_partEnd_162 rfl (lv_at hl 2 rfl) ?_
          refine lv_iload_n hx hb dX6_partEnd_163 rfl (lv_at hl 1 rfl) ?_
          refine lv_iconst (v := 1) hx hb dX6_partEnd_164 (by decide) ?_
          refine lv_iadd hx hb dX6_partEnd_165 ?_
          have u_15 : ((r_5 + 1)).toInt = ((r_5).toInt + 1) := (ti_add rfl (show (1 : Int32).toInt = 1 from rfl) (by omega))
          refine ro_V (v := .int (mX6_hourEnd x (r_5 + 1))) (rest := []) (As := [.int (r_5 + 1)]) hx hb hml hown hts hl (MX6_hourEnd l D q h x (r_5 + 1) (by assumption) (rg_t (i := (r_5 + 1)) (x := ((r_5).toInt + 1)) (ti_add rfl (show (1 : Int32).toInt = 1 from rfl) (by omega)) (by omega))) gX6_partEnd_X6_hourEnd rfl kX6_hourEnd ⟨Nat.le_of_ble_eq_true rfl, Nat.le_of_ble_eq_true rfl⟩ rfl rfl hP (dT hD) hG (ci := 4) rfl rfl rfl rfl (Nat.le_of_ble_eq_true rfl) dX6_partEnd_166 ⟨Nat.zero_le _, Nat.zero_le _⟩ ?_
          obtain ⟨r_16, er_16⟩ : ∃ z, z = (mX6_hourEnd x (r_5 + 1)) := ⟨_, rfl⟩
          have b0_r_16 := g_hourEnd x (r_5 + 1) (B := pl.toInt + 1 + 1 + 1 + 1) (by omega) (by omega)
          rw [← er_16] at b0_r_16
          rw [← er_16]
          replace hR := lt_e hR er_16
          refine lv_goto (tgt := 175) hx hb dX6_partEnd_169 (by decide) ?_
          exact ro_iret hx hb hr hk hR dX6_partEnd_175
        · rw [if_neg c_13] at hR
          have tc_13 : ¬ 0 ≤ r_5.toInt := fun z => c_13 (i_le.mpr z)
          refine lv_iload_n hx hb dX6_partEnd_154 rfl (lv_at hl 1 rfl) ?_
          refine lv_goto (tgt := 175) hx hb dX6_partEnd_155 (by decide) ?_
          exact ro_iret hx hb hr hk hR dX6_partEnd_175
      · rw [if_neg c_12] at hR
        have tc_12 : ¬ r_11.toInt = 110 := fun z => c_12 (i_eq.mpr z)
        refine lv_aload_n hx hb dX6_partEnd_134 rfl (lv_at hl 1 rfl) ?_
        refine lv_iload_n hx hb dX6_partEnd_135 rfl (lv_at hl 0 rfl) ?_
        refine ro_V (v := .int (mX6_sign x r_5)) (rest := []) (As := [.int r_5]) hx hb hml hown hts hl (MX6_sign l D q h x r_5 (by assumption) (rg_t (i := r_5) (x := (r_5).toInt) rfl (by omega))) gX6_partEnd_X6_sign rfl kX6_sign ⟨Nat.le_of_ble_eq_true rfl, Nat.le_of_ble_eq_true rfl⟩ rfl rfl hP (dT hD) hG (ci := 4) rfl rfl rfl rfl (Nat.le_of_ble_eq_true rfl) dX6_partEnd_136 ⟨Nat.zero_le _, Nat.zero_le _⟩ ?_
        obtain ⟨r_17, er_17⟩ : ∃ z, z = (mX6_sign x r_5) := ⟨_, rfl⟩
        rw [← er_17]
        replace hR := lt_e hR er_17
        refine lv_bipush (v := 115) hx hb dX6_partEnd_139 (by decide) ?_
        refine lv_icmp_ne (tgt := 148) hx hb dX6_partEnd_141 (by decide) (fun c_18 => ?_) (fun c_18 => ?_)
        · rw [if_neg c_18] at hR
          have tc_18 : ¬ r_17.toInt = 115 := fun z => c_18 (i_eq.mpr z)
          refine lv_iconst (v := 0) hx hb dX6_partEnd_148 (by decide) ?_
          refine lv_istore_n (lv' := [(3, .int 0), (2, .int r_5), (0, .ref (h 0)), (1, .int pl)]) hx hb dX6_partEnd_149 rfl hl (by decide) rfl (fun ls hl => ?_)
          refine lv_iload_n hx hb dX6_partEnd_150 rfl (lv_at hl 1 rfl) ?_
          refine lv_if_ge (tgt := 158) hx hb dX6_partEnd_151 (by decide) (fun c_19 => ?_) (fun c_19 => ?_)
          · rw [if_pos c_19] at hR
            have tc_19 : 0 ≤ r_5.toInt := i_le.mp c_19
            refine lv_iload_n hx hb dX6_partEnd_158 rfl (lv_at hl 0 rfl) ?_
            refine lv_if_eq (tgt := 172) hx hb dX6_partEnd_159 (by decide) (fun _ => ?_) (fun c_20 => absurd (by decide) c_20)
            refine lv_iconst (v := (-1)) hx hb dX6_partEnd_172 (by decide) ?_
            refine lv_iload_n hx hb dX6_partEnd_173 rfl (lv_at hl 1 rfl) ?_
            refine lv_isub hx hb dX6_partEnd_174 ?_
            exact ro_iret hx hb hr hk hR dX6_partEnd_175
          · rw [if_neg c_19] at hR
            have tc_19 : ¬ 0 ≤ r_5.toInt := fun z => c_19 (i_le.mpr z)
            refine lv_iload_n hx hb dX6_partEnd_154 rfl (lv_at hl 1 rfl) ?_
            refine lv_goto (tgt := 175) hx hb dX6_partEnd_155 (by decide) ?_
            exact ro_iret hx hb hr hk hR dX6_partEnd_175
        · rw [if_pos c_18] at hR
          have tc_18 : r_17.toInt = 115 := i_eq.mp c_18
          refine lv_iconst (v := 1) hx hb dX6_partEnd_144 (by decide) ?_
          refine lv_goto (tgt := 149) hx hb dX6_partEnd_145 (by decide) ?_
          refine lv_istore_n (lv' := [(3, .int 1), (2, .int r_5), (0, .ref (h 0)), (1, .int pl)]) hx hb dX6_partEnd_149 rfl hl (by decide) rfl (fun ls hl => ?_)
          refine lv_iload_n hx hb dX6_partEnd_150 rfl (lv_at hl 1 rfl) ?_
          refine lv_if_ge (tgt := 158) hx hb dX6_partEnd_151 (by decide) (fun c_21 => ?_) (fun c_21 => ?_)
          · rw [if_pos c_21] at hR
            have tc_21 : 0 ≤ r_5.toInt := i_le.mp c_21
            refine lv_iload_n hx hb dX6_partEnd_158 rfl (lv_at hl 0 rfl) ?_
            refine lv_if_eq (tgt := 172) hx hb dX6_partEnd_159 (by decide) (fun c_22 => absurd c_22 (by decide)) (fun _ => ?_)
            refine lv_aload_n hx hb dX6_partEnd_162 rfl (lv_at hl 2 rfl) ?_
            refine lv_iload_n hx hb dX6_partEnd_163 rfl (lv_at hl 1 rfl) ?_
            refine lv_iconst (v := 1) hx hb dX6_partEnd_164 (by decide) ?_
            refine lv_iadd hx hb dX6_partEnd_165 ?_
            have u_23 : ((r_5 + 1)).toInt = ((r_5).toInt + 1) := (ti_add rfl (show (1 : Int32).toInt = 1 from rfl) (by omega))
            refine ro_V (v := .int (mX6_hourEnd x (r_5 + 1))) (rest := []) (As := [.int (r_5 + 1)]) hx hb hml hown hts hl (MX6_hourEnd l D q h x (r_5 + 1) (by assumption) (rg_t (i := (r_5 + 1)) (x := ((r_5).toInt + 1)) (ti_add rfl (show (1 : Int32).toInt = 1 from rfl) (by omega)) (by omega))) gX6_partEnd_X6_hourEnd rfl kX6_hourEnd ⟨Nat.le_of_ble_eq_true rfl, Nat.le_of_ble_eq_true rfl⟩ rfl rfl hP (dT hD) hG (ci := 4) rfl rfl rfl rfl (Nat.le_of_ble_eq_true rfl) dX6_partEnd_166 ⟨Nat.zero_le _, Nat.zero_le _⟩ ?_
            obtain ⟨r_24, er_24⟩ : ∃ z, z = (mX6_hourEnd x (r_5 + 1)) := ⟨_, rfl⟩
            have b0_r_24 := g_hourEnd x (r_5 + 1) (B := pl.toInt + 1 + 1 + 1 + 1) (by omega) (by omega)
            rw [← er_24] at b0_r_24
            rw [← er_24]
            replace hR := lt_e hR er_24
            refine lv_goto (tgt := 175) hx hb dX6_partEnd_169 (by decide) ?_
            exact ro_iret hx hb hr hk hR dX6_partEnd_175
          · rw [if_neg c_21] at hR
            have tc_21 : ¬ 0 ≤ r_5.toInt := fun z => c_21 (i_le.mpr z)
            refine lv_iload_n hx hb dX6_partEnd_154 rfl (lv_at hl 1 rfl) ?_
            refine lv_goto (tgt := 175) hx hb dX6_partEnd_155 (by decide) ?_
            exact ro_iret hx hb hr hk hR dX6_partEnd_175
  · rw [if_neg c_2] at hR
    by_cases c_25 : r_1 = 104
    · rw [if_pos c_25] at hR
      have tc_25 : r_1.toInt = 104 := i_eq.mp c_25
      refine lv_lookup (off := 63) (tgt := 68) hx hb dX6_partEnd_5 (by decide) (by rw [c_25]; decide) (by decide) ?_
      refine lv_aload_n hx hb dX6_partEnd_68 rfl (lv_at hl 0 rfl) ?_
      refine lv_aload_n hx hb dX6_partEnd_69 rfl (lv_at hl 0 rfl) ?_
      refine lv_iload_n hx hb dX6_partEnd_70 rfl (lv_at hl 1 rfl) ?_
      refine lv_iconst (v := 1) hx hb dX6_partEnd_71 (by decide) ?_
      refine lv_iadd hx hb dX6_partEnd_72 ?_
      refine lv_bipush (v := 64) hx hb dX6_partEnd_73 (by decide) ?_
      have u_26 : ((pl + 1)).toInt = ((pl).toInt + 1) := (ti_add rfl (show (1 : Int32).toInt = 1 from rfl) (by omega))
      refine ro_V (v := .int (mX6_behind x (pl + 1) 64)) (rest := [.ref (h 0)]) (As := [.int (pl + 1), .int 64]) hx hb hml hown hts hl (MX6_behind l D q h x (pl + 1) 64 (by assumption) (rg_t (i := (pl + 1)) (x := ((pl).toInt + 1)) (ti_add rfl (show (1 : Int32).toInt = 1 from rfl) (by omega)) (by omega))) gX6_partEnd_X6_behind rfl kX6_behind ⟨Nat.le_of_ble_eq_true rfl, Nat.le_of_ble_eq_true rfl⟩ rfl rfl hP (dT hD) hG (ci := 4) rfl rfl rfl rfl (Nat.le_of_ble_eq_true rfl) dX6_partEnd_75 ⟨Nat.zero_le _, Nat.zero_le _⟩ ?_
      obtain ⟨r_27, er_27⟩ : ∃ z, z = (mX6_behind x (pl + 1) 64) := ⟨_, rfl⟩
      have b0_r_27 := g_behind x (pl + 1) 64 (B := pl.toInt + 1) (by omega) (by omega)
      rw [← er_27] at b0_r_27
      rw [← er_27]
      replace hR := lt_e hR er_27
      refine ro_V (v := .int (mX6_yardEnd x r_27)) (rest := []) (As := [.int r_27]) hx hb hml hown hts hl (MX6_yardEnd l D q h x r_27 (by assumption) (rg_t (i := r_27) (x := (r_27).toInt) rfl (by omega))) gX6_partEnd_X6_yardEnd rfl kX6_yardEnd ⟨Nat.le_of_ble_eq_true rfl, Nat.le_of_ble_eq_true rfl⟩ rfl rfl hP (dT hD) hG (ci := 4) rfl rfl rfl rfl (Nat.le_of_ble_eq_true rfl) dX6_partEnd_78 ⟨Nat.zero_le _, Nat.zero_le _⟩ ?_
      obtain ⟨r_28, er_28⟩ : ∃ z, z = (mX6_yardEnd x r_27) := ⟨_, rfl⟩
      have b0_r_28 := g_yardEnd x r_27 (B := pl.toInt + 1 + 1) (by omega) (by omega)
      rw [← er_28] at b0_r_28
      rw [← er_28]
      replace hR := lt_e hR er_28
      exact ro_iret hx hb hr hk hR dX6_partEnd_81
    · rw [if_neg c_25] at hR
      by_cases c_29 : r_1 = 109
      · rw [if_pos c_29] at hR
        have tc_29 : r_1.toInt = 109 := i_eq.mp c_29
        refine lv_lookup (off := 43) (tgt := 48) hx hb dX6_partEnd_5 (by decide) (by rw [c_29]; decide) (by decide) ?_
        refine lv_aload_n hx hb dX6_partEnd_48 rfl (lv_at hl 0 rfl) ?_
        refine lv_aload_n hx hb dX6_partEnd_49 rfl (lv_at hl 0 rfl) ?_
        refine lv_aload_n hx hb dX6_partEnd_50 rfl (lv_at hl 0 rfl) ?_
        refine lv_iload_n hx hb dX6_partEnd_51 rfl (lv_at hl 1 rfl) ?_
        refine lv_iconst (v := 1) hx hb dX6_partEnd_52 (by decide) ?_
        refine lv_iadd hx hb dX6_partEnd_53 ?_
        refine lv_iconst (v := 1) hx hb dX6_partEnd_54 (by decide) ?_
        refine lv_iconst (v := 5) hx hb dX6_partEnd_55 (by decide) ?_
        have u_30 : ((pl + 1)).toInt = ((pl).toInt + 1) := (ti_add rfl (show (1 : Int32).toInt = 1 from rfl) (by omega))
        refine ro_V (v := .int (mX6_digitEnd x (pl + 1) 1 5)) (rest := [.ref (h 0), .ref (h 0)]) (As := [.int (pl + 1), .int 1, .int 5]) hx hb hml hown hts hl (MX6_digitEnd l D q h x (pl + 1) 1 5 (by assumption) (rg_t (i := (pl + 1)) (x := ((pl).toInt + 1)) (ti_add rfl (show (1 : Int32).toInt = 1 from rfl) (by omega)) (by omega))) gX6_partEnd_X6_digitEnd rfl kX6_digitEnd ⟨Nat.le_of_ble_eq_true rfl, Nat.le_of_ble_eq_true rfl⟩ rfl rfl hP (dT hD) hG (ci := 4) rfl rfl rfl rfl (Nat.le_of_ble_eq_true rfl) dX6_partEnd_56 ⟨Nat.zero_le _, Nat.zero_le _⟩ ?_
        obtain ⟨r_31, er_31⟩ : ∃ z, z = (mX6_digitEnd x (pl + 1) 1 5) := ⟨_, rfl⟩
        have b0_r_31 := g_digitEnd x (pl + 1) 1 5 (B := pl.toInt + 1) (by omega) (by omega)
        rw [← er_31] at b0_r_31
        rw [← er_31]
        replace hR := lt_e hR er_31
        refine lv_bipush (v := 64) hx hb dX6_partEnd_59 (by decide) ?_
        refine ro_V (v := .int (mX6_behind x r_31 64)) (rest := [.ref (h 0)]) (As := [.int r_31, .int 64]) hx hb hml hown hts hl (MX6_behind l D q h x r_31 64 (by assumption) (rg_t (i := r_31) (x := (r_31).toInt) rfl (by omega))) gX6_partEnd_X6_behind rfl kX6_behind ⟨Nat.le_of_ble_eq_true rfl, Nat.le_of_ble_eq_true rfl⟩ rfl rfl hP (dT hD) hG (ci := 4) rfl rfl rfl rfl (Nat.le_of_ble_eq_true rfl) dX6_partEnd_61 ⟨Nat.zero_le _, Nat.zero_le _⟩ ?_
        obtain ⟨r_32, er_32⟩ : ∃ z, z = (mX6_behind x r_31 64) := ⟨_, rfl⟩
        have b0_r_32 := g_behind x r_31 64 (B := pl.toInt + 1 + 1) (by omega) (by omega)
        rw [← er_32] at b0_r_32
        rw [← er_32]
        replace hR := lt_e hR er_32
        refine ro_V (v := .int (mX6_yardEnd x r_32)) (rest := []) (As := [.int r_32]) hx hb hml hown hts hl (MX6_yardEnd l D q h x r_32 (by assumption) (rg_t (i := r_32) (x := (r_32).toInt) rfl (by omega))) gX6_partEnd_X6_yardEnd rfl kX6_yardEnd ⟨Nat.le_of_ble_eq_true rfl, Nat.le_of_ble_eq_true rfl⟩ rfl rfl hP (dT hD) hG (ci := 4) rfl rfl rfl rfl (Nat.le_of_ble_eq_true rfl) dX6_partEnd_64 ⟨Nat.zero_le _, Nat.zero_le _⟩ ?_
        obtain ⟨r_33, er_33⟩ : ∃ z, z = (mX6_yardEnd x r_32) := ⟨_, rfl⟩
        have b0_r_33 := g_yardEnd x r_32 (B := pl.toInt + 1 + 1 + 1) (by omega) (by omega)
        rw [← er_33] at b0_r_33
        rw [← er_33]
        replace hR := lt_e hR er_33
        exact ro_iret hx hb hr hk hR dX6_partEnd_67
      · rw [if_neg c_29] at hR
        by_cases c_34 : r_1 = 119
        · rw [if_pos c_34] at hR
          have tc_34 : r_1.toInt = 119 := i_eq.mp c_34
          refine lv_lookup (off := 77) (tgt := 82) hx hb dX6_partEnd_5 (by decide) (by rw [c_34]; decide) (by decide) ?_
          refine lv_aload_n hx hb dX6_partEnd_82 rfl (lv_at hl 0 rfl) ?_
          refine lv_aload_n hx hb dX6_partEnd_83 rfl (lv_at hl 0 rfl) ?_
          refine lv_aload_n hx hb dX6_partEnd_84 rfl (lv_at hl 0 rfl) ?_
          refine lv_iload_n hx hb dX6_partEnd_85 rfl (lv_at hl 1 rfl) ?_
          refine lv_iconst (v := 1) hx hb dX6_partEnd_86 (by decide) ?_
          refine lv_iadd hx hb dX6_partEnd_87 ?_
          have u_35 : ((pl + 1)).toInt = ((pl).toInt + 1) := (ti_add rfl (show (1 : Int32).toInt = 1 from rfl) (by omega))
          refine ro_V (v := .int (mX6_hourEnd x (pl + 1))) (rest := [.ref (h 0), .ref (h 0)]) (As := [.int (pl + 1)]) hx hb hml hown hts hl (MX6_hourEnd l D q h x (pl + 1) (by assumption) (rg_t (i := (pl + 1)) (x := ((pl).toInt + 1)) (ti_add rfl (show (1 : Int32).toInt = 1 from rfl) (by omega)) (by omega))) gX6_partEnd_X6_hourEnd rfl kX6_hourEnd ⟨Nat.le_of_ble_eq_true rfl, Nat.le_of_ble_eq_true rfl⟩ rfl rfl hP (dT hD) hG (ci := 4) rfl rfl rfl rfl (Nat.le_of_ble_eq_true rfl) dX6_partEnd_88 ⟨Nat.zero_le _, Nat.zero_le _⟩ ?_
          obtain ⟨r_36, er_36⟩ : ∃ z, z = (mX6_hourEnd x (pl + 1)) := ⟨_, rfl⟩
          have b0_r_36 := g_hourEnd x (pl + 1) (B := pl.toInt + 1) (by omega) (by omega)
          rw [← er_36] at b0_r_36
          rw [← er_36]
          replace hR := lt_e hR er_36
          refine lv_bipush (v := 61) hx hb dX6_partEnd_91 (by decide) ?_
          refine ro_V (v := .int (mX6_behind x r_36 61)) (rest := [.ref (h 0)]) (As := [.int r_36, .int 61]) hx hb hml hown hts hl (MX6_behind l D q h x r_36 61 (by assumption) (rg_t (i := r_36) (x := (r_36).toInt) rfl (by omega))) gX6_partEnd_X6_behind rfl kX6_behind ⟨Nat.le_of_ble_eq_true rfl, Nat.le_of_ble_eq_true rfl⟩ rfl rfl hP (dT hD) hG (ci := 4) rfl rfl rfl rfl (Nat.le_of_ble_eq_true rfl) dX6_partEnd_93 ⟨Nat.zero_le _, Nat.zero_le _⟩ ?_
          obtain ⟨r_37, er_37⟩ : ∃ z, z = (mX6_behind x r_36 61) := ⟨_, rfl⟩
          have b0_r_37 := g_behind x r_36 61 (B := pl.toInt + 1 + 2) (by omega) (by omega)
          rw [← er_37] at b0_r_37
          rw [← er_37]
          replace hR := lt_e hR er_37
          refine lv_iconst (v := 0) hx hb dX6_partEnd_96 (by decide) ?_
          refine lv_bipush (v := 9) hx hb dX6_partEnd_97 (by decide) ?_
          refine ro_V (v := .int (mX6_digitEnd x r_37 0 9)) (rest := []) (As := [.int r_37, .int 0, .int 9]) hx hb hml hown hts hl (MX6_digitEnd l D q h x r_37 0 9 (by assumption) (rg_t (i := r_37) (x := (r_37).toInt) rfl (by omega))) gX6_partEnd_X6_digitEnd rfl kX6_digitEnd ⟨Nat.le_of_ble_eq_true rfl, Nat.le_of_ble_eq_true rfl⟩ rfl rfl hP (dT hD) hG (ci := 4) rfl rfl rfl rfl (Nat.le_of_ble_eq_true rfl) dX6_partEnd_99 ⟨Nat.zero_le _, Nat.zero_le _⟩ ?_
          obtain ⟨r_38, er_38⟩ : ∃ z, z = (mX6_digitEnd x r_37 0 9) := ⟨_, rfl⟩
          have b0_r_38 := g_digitEnd x r_37 0 9 (B := pl.toInt + 1 + 2 + 1) (by omega) (by omega)
          rw [← er_38] at b0_r_38
          rw [← er_38]
          replace hR := lt_e hR er_38
          exact ro_iret hx hb hr hk hR dX6_partEnd_102
        · rw [if_neg c_34] at hR
          refine lv_lookup (off := 171) (tgt := 176) hx hb dX6_partEnd_5 (by decide) (by show Op.lookupswitch.offset [(99, 98), (104, 63), (109, 43), (119, 77)] 171 _ = _; rw [lv_osw (a := 99) c_2 rfl]; rw [lv_osw (a := 104) c_25 rfl]; rw [lv_osw (a := 109) c_29 rfl]; rw [lv_osw (a := 119) c_34 rfl]; rfl) (by decide) ?_
          refine lv_iconst (v := (-1)) hx hb dX6_partEnd_176 (by decide) ?_
          refine lv_iload_n hx hb dX6_partEnd_177 rfl (lv_at hl 1 rfl) ?_
          refine lv_isub hx hb dX6_partEnd_178 ?_
          exact ro_iret hx hb hr hk hR dX6_partEnd_179
