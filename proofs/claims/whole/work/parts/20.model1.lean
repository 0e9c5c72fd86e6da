theorem k_lt {k N : Int32} (c : ¬ N ≤ k) : k.toInt < N.toInt := by
  rw [i_le] at c; omega
theorem k_up {k N : Int32} (h : 0 ≤ k.toInt) (c : ¬ N ≤ k) : 0 ≤ (k + 1).toInt := by
  have h1 := k_lt c
  have h2 := i_rng N
  rw [ti_add (a := k) (b := 1) rfl (show (1 : Int32).toInt = 1 from rfl) (by omega)]
  omega
/-- how many mills and houses the row at p has -/
def cntP (x : Nat → Nat → Int32) (p : Int32) : Prop := (0 ≤ (x 0 (p + 0).toNatClampNeg).toInt ∧ (x 0 (p + 0).toNatClampNeg).toInt < 5) ∧ (0 ≤ (x 0 (p + 13).toNatClampNeg).toInt ∧ (x 0 (p + 13).toNatClampNeg).toInt < 11)
def mX6_in (a1 a2 a3 : Int32) : Int32 := (if a1 < a2 then 0 else (if a3 < a1 then 0 else 1))
theorem kX6_in : yX6_in.cls ≠ "java/lang/invoke/MethodHandle" ∧ yX6_in.cls ≠ "java/lang/invoke/VarHandle" ∧ (parseMethodDescriptor yX6_in.desc).map (fun d => d.parameters.length) = some 3 := by decide +kernel
set_option maxHeartbeats 4000000 in
set_option maxRecDepth 100000 in
theorem MX6_in (l : Launch) (D : va_G) (q : Nat → ClassId)  (a1 a2 a3 : Int32)  : roM l D (tyq q) yX6_in wsX6_in ({ frames := 0, cells := 0, slots := 0, locals := 0 } : Room) [.int a1, .int a2, .int a3] [] (some (.int (mX6_in a1 a2 a3))) := by
  obtain ⟨R, hR⟩ : ∃ z, (mX6_in a1 a2 a3) = z := ⟨_, rfl⟩
  rw [hR]
  unfold mX6_in at hR
  refine roM.of (cc := cX6_in) (maxL := 3) (ret := (some .boolean)) (by decide) rfl (Nat.le_of_ble_eq_true rfl) ?_
  intro p e s m below meth c ls hx hb hr hk hml hown hts hP hD hG hl
  have hl : lv_has ls 3 [(0, .int a1), (1, .int a2), (2, .int a3)] := hl
  refine lv_iload_n hx hb dX6_in_0 rfl (lv_at hl 0 rfl) ?_
  refine lv_iload_n hx hb dX6_in_1 rfl (lv_at hl 1 rfl) ?_
  refine lv_icmp_lt (tgt := 14) hx hb dX6_in_2 (by decide) (fun c_1 => ?_) (fun c_1 => ?_)
  · rw [if_pos c_1] at hR
    have tc_1 : a1.toInt < a2.toInt := i_lt.mp c_1
    refine lv_iconst (v := 0) hx hb dX6_in_14 (by decide) ?_
    exact ro_zret hx hb hr hk (Or.inl rfl) hR dX6_in_15
  · rw [if_neg c_1] at hR
    have tc_1 : ¬ a1.toInt < a2.toInt := fun z => c_1 (i_lt.mpr z)
    refine lv_iload_n hx hb dX6_in_5 rfl (lv_at hl 0 rfl) ?_
    refine lv_iload_n hx hb dX6_in_6 rfl (lv_at hl 2 rfl) ?_
    refine lv_icmp_gt (tgt := 14) hx hb dX6_in_7 (by decide) (fun c_2 => ?_) (fun c_2 => ?_)
    · rw [if_pos c_2] at hR
      have tc_2 : a3.toInt < a1.toInt := i_lt.mp c_2
      refine lv_iconst (v := 0) hx hb dX6_in_14 (by decide) ?_
      exact ro_zret hx hb hr hk (Or.inl rfl) hR dX6_in_15
    · rw [if_neg c_2] at hR
      have tc_2 : ¬ a3.toInt < a1.toInt := fun z => c_2 (i_lt.mpr z)
      refine lv_iconst (v := 1) hx hb dX6_in_10 (by decide) ?_
      refine lv_goto (tgt := 15) hx hb dX6_in_11 (by decide) ?_
      exact ro_zret hx hb hr hk (Or.inr rfl) hR dX6_in_15
theorem zX6_in (a b c : Int32) : mX6_in a b c = 0 ∨ mX6_in a b c = 1 := by
  unfold mX6_in
  repeat' split
  all_goals first | exact Or.inl rfl | exact Or.inr rfl
theorem f6_in {a b c : Int32} (h : ¬ mX6_in a b c = 0) : b.toInt ≤ a.toInt ∧ a.toInt ≤ c.toInt := by
  unfold mX6_in at h
  by_cases h1 : a < b
  · rw [if_pos h1] at h; exact absurd rfl h
  · rw [if_neg h1] at h
    by_cases h2 : c < a
    · rw [if_pos h2] at h; exact absurd rfl h
    · rw [i_lt] at h1 h2; omega

def mX6_isYard (a1 : Int32) : Int32 := (mX6_in a1 0 95)
theorem kX6_isYard : yX6_isYard.cls ≠ "java/lang/invoke/MethodHandle" ∧ yX6_isYard.cls ≠ "java/lang/invoke/VarHandle" ∧ (parseMethodDescriptor yX6_isYard.desc).map (fun d => d.parameters.length) = some 1 := by decide +kernel
set_option maxHeartbeats 4000000 in
set_option maxRecDepth 100000 in
theorem MX6_isYard (l : Launch) (D : va_G) (q : Nat → ClassId)  (a1 : Int32)  : roM l D (tyq q) yX6_isYard wsX6_isYard ({ frames := 1, cells := 0, slots := 0, locals := 22 } : Room) [.int a1] [] (some (.int (mX6_isYard a1))) := by
  obtain ⟨R, hR⟩ : ∃ z, (mX6_isYard a1) = z := ⟨_, rfl⟩
  rw [hR]
  unfold mX6_isYard at hR
  refine roM.of (cc := cX6_isYard) (maxL := 1) (ret := (some .boolean)) (by decide) rfl (Nat.le_of_ble_eq_true rfl) ?_
  intro p e s m below meth c ls hx hb hr hk hml hown hts hP hD hG hl
  have hl : lv_has ls 1 [(0, .int a1)] := hl
  refine lv_iload_n hx hb dX6_isYard_0 rfl (lv_at hl 0 rfl) ?_
  refine lv_iconst (v := 0) hx hb dX6_isYard_1 (by decide) ?_
  refine lv_bipush (v := 95) hx hb dX6_isYard_2 (by decide) ?_
  refine ro_S (v := .int (mX6_in a1 0 95)) (rest := []) (As := [.int a1, .int 0, .int 95]) hx hb hml hown hts hl (MX6_in l D q a1 0 95) gX6_isYard_X6_in rfl kX6_in ⟨Nat.le_of_ble_eq_true rfl, Nat.le_of_ble_eq_true rfl⟩ rfl rfl (hP.sub (ws' := []) [] rfl) (dT (hD.sub (ws' := []) [] (by decide) rfl)) hG rfl rfl (Nat.le_of_ble_eq_true rfl) dX6_isYard_4 ⟨Nat.zero_le _, Nat.zero_le _⟩ ?_
  exact ro_zret hx hb hr hk (zX6_in a1 0 95) hR dX6_isYard_7

def mX6_isHour (a1 : Int32) : Int32 := (mX6_in a1 0 23)
theorem kX6_isHour : yX6_isHour.cls ≠ "java/lang/invoke/MethodHandle" ∧ yX6_isHour.cls ≠ "java/lang/invoke/VarHandle" ∧ (parseMethodDescriptor yX6_isHour.desc).map (fun d => d.parameters.length) = some 1 := by decide +kernel
set_option maxHeartbeats 4000000 in
set_option maxRecDepth 100000 in
theorem MX6_isHour (l : Launch) (D : va_G) (q : Nat → ClassId)  (a1 : Int32)  : roM l D (tyq q) yX6_isHour wsX6_isHour ({ frames := 1, cells := 0, slots := 0, locals := 22 } : Room) [.int a1] [] (some (.int (mX6_isHour a1))) := by
  obtain ⟨R, hR⟩ : ∃ z, (mX6_isHour a1) = z := ⟨_, rfl⟩
  rw [hR]
  unfold mX6_isHour at hR
  refine roM.of (cc := cX6_isHour) (maxL := 1) (ret := (some .boolean)) (by decide) rfl (Nat.le_of_ble_eq_true rfl) ?_
  intro p e s m below meth c ls hx hb hr hk hml hown hts hP hD hG hl
  have hl : lv_has ls 1 [(0, .int a1)] := hl
  refine lv_iload_n hx hb dX6_isHour_0 rfl (lv_at hl 0 rfl) ?_
  refine lv_iconst (v := 0) hx hb dX6_isHour_1 (by decide) ?_
  refine lv_bipush (v := 23) hx hb dX6_isHour_2 (by decide) ?_
  refine ro_S (v := .int (mX6_in a1 0 23)) (rest := []) (As := [.int a1, .int 0, .int 23]) hx hb hml hown hts hl (MX6_in l D q a1 0 23) gX6_isHour_X6_in rfl kX6_in ⟨Nat.le_of_ble_eq_true rfl, Nat.le_of_ble_eq_true rfl⟩ rfl rfl (hP.sub (ws' := []) [] rfl) (dT (hD.sub (ws' := []) [] (by decide) rfl)) hG rfl rfl (Nat.le_of_ble_eq_true rfl) dX6_isHour_4 ⟨Nat.zero_le _, Nat.zero_le _⟩ ?_
  exact ro_zret hx hb hr hk (zX6_in a1 0 23) hR dX6_isHour_7
theorem f6_isHour {a : Int32} (h : ¬ mX6_isHour a = 0) : 0 ≤ a.toInt ∧ a.toInt < 24 := by
  have h1 := f6_in (a := a) (b := 0) (c := 23) h
  have e0 : (0 : Int32).toInt = 0 := rfl
  have e1 : (23 : Int32).toInt = 23 := rfl
  omega

def mX6_isSun (a1 : Int32) : Int32 := (mX6_in a1 6 18)
theorem kX6_isSun : yX6_isSun.cls ≠ "java/lang/invoke/MethodHandle" ∧ yX6_isSun.cls ≠ "java/lang/invoke/VarHandle" ∧ (parseMethodDescriptor yX6_isSun.desc).map (fun d => d.parameters.length) = some 1 := by decide +kernel
set_option maxHeartbeats 4000000 in
set_option maxRecDepth 100000 in
theorem MX6_isSun (l : Launch) (D : va_G) (q : Nat → ClassId)  (a1 : Int32)  : roM l D (tyq q) yX6_isSun wsX6_isSun ({ frames := 1, cells := 0, slots := 0, locals := 22 } : Room) [.int a1] [] (some (.int (mX6_isSun a1))) := by
  obtain ⟨R, hR⟩ : ∃ z, (mX6_isSun a1) = z := ⟨_, rfl⟩
  rw [hR]
  unfold mX6_isSun at hR
  refine roM.of (cc := cX6_isSun) (maxL := 1) (ret := (some .boolean)) (by decide) rfl (Nat.le_of_ble_eq_true rfl) ?_
  intro p e s m below meth c ls hx hb hr hk hml hown hts hP hD hG hl
  have hl : lv_has ls 1 [(0, .int a1)] := hl
  refine lv_iload_n hx hb dX6_isSun_0 rfl (lv_at hl 0 rfl) ?_
  refine lv_bipush (v := 6) hx hb dX6_isSun_1 (by decide) ?_
  refine lv_bipush (v := 18) hx hb dX6_isSun_3 (by decide) ?_
  refine ro_S (v := .int (mX6_in a1 6 18)) (rest := []) (As := [.int a1, .int 6, .int 18]) hx hb hml hown hts hl (MX6_in l D q a1 6 18) gX6_isSun_X6_in rfl kX6_in ⟨Nat.le_of_ble_eq_true rfl, Nat.le_of_ble_eq_true rfl⟩ rfl rfl (hP.sub (ws' := []) [] rfl) (dT (hD.sub (ws' := []) [] (by decide) rfl)) hG rfl rfl (Nat.le_of_ble_eq_true rfl) dX6_isSun_5 ⟨Nat.zero_le _, Nat.zero_le _⟩ ?_
  exact ro_zret hx hb hr hk (zX6_in a1 6 18) hR dX6_isSun_8

def mX6_isRight (a1 a2 : Int32) : Int32 := (if (mX6_in a1 0 1) = 0 then 0 else (if (mX6_isHour a2) = 0 then 0 else 1))
theorem kX6_isRight : yX6_isRight.cls ≠ "java/lang/invoke/MethodHandle" ∧ yX6_isRight.cls ≠ "java/lang/invoke/VarHandle" ∧ (parseMethodDescriptor yX6_isRight.desc).map (fun d => d.parameters.length) = some 2 := by decide +kernel
set_option maxHeartbeats 4000000 in
set_option maxRecDepth 100000 in
theorem MX6_isRight (l : Launch) (D : va_G) (q : Nat → ClassId)  (a1 a2 : Int32)  : roM l D (tyq q) yX6_isRight wsX6_isRight ({ frames := 2, cells := 0, slots := 0, locals := 42 } : Room) [.int a1, .int a2] [] (some (.int (mX6_isRight a1 a2))) := by
  obtain ⟨R, hR⟩ : ∃ z, (mX6_isRight a1 a2) = z := ⟨_, rfl⟩
  rw [hR]
  unfold mX6_isRight at hR
  refine roM.of (cc := cX6_isRight) (maxL := 2) (ret := (some .boolean)) (by decide) rfl (Nat.le_of_ble_eq_true rfl) ?_
  intro p e s m below meth c ls hx hb hr hk hml hown hts hP hD hG hl
  have hl : lv_has ls 2 [(0, .int a1), (1, .int a2)] := hl
  refine lv_iload_n hx hb dX6_isRight_0 rfl (lv_at hl 0 rfl) ?_
  refine lv_iconst (v := 0) hx hb dX6_isRight_1 (by decide) ?_
  refine lv_iconst (v := 1) hx hb dX6_isRight_2 (by decide) ?_
  refine ro_S (v := .int (mX6_in a1 0 1)) (rest := []) (As := [.int a1, .int 0, .int 1]) hx hb hml hown hts hl (MX6_in l D q a1 0 1) gX6_isRight_X6_in rfl kX6_in ⟨Nat.le_of_ble_eq_true rfl, Nat.le_of_ble_eq_true rfl⟩ rfl rfl (hP.sub (ws' := []) [] rfl) (dT (hD.sub (ws' := []) [] (by decide) rfl)) hG rfl rfl (Nat.le_of_ble_eq_true rfl) dX6_isRight_3 ⟨Nat.zero_le _, Nat.zero_le _⟩ ?_
  refine lv_if_eq (tgt := 20) hx hb dX6_isRight_6 (by decide) (fun c_1 => ?_) (fun c_1 => ?_)
  · rw [if_pos c_1] at hR
    have tc_1 : (mX6_in a1 0 1).toInt = 0 := i_eq.mp c_1
    refine lv_iconst (v := 0) hx hb dX6_isRight_20 (by decide) ?_
    exact ro_zret hx hb hr hk (Or.inl rfl) hR dX6_isRight_21
  · rw [if_neg c_1] at hR
    have tc_1 : ¬ (mX6_in a1 0 1).toInt = 0 := fun z => c_1 (i_eq.mpr z)
    have fc_1 : 0 ≤ a1.toInt ∧ a1.toInt ≤ 1 := f6_in c_1
    refine lv_iload_n hx hb dX6_isRight_9 rfl (lv_at hl 1 rfl) ?_
    refine ro_S (v := .int (mX6_isHour a2)) (rest := []) (As := [.int a2]) hx hb hml hown hts hl (MX6_isHour l D q a2) gX6_isRight_X6_isHour rfl kX6_isHour ⟨Nat.le_of_ble_eq_true rfl, Nat.le_of_ble_eq_true rfl⟩ rfl rfl (hP.sub (ws' := []) [] rfl) (dT (hD.sub (ws' := []) [] (by decide) rfl)) hG rfl rfl (Nat.le_of_ble_eq_true rfl) dX6_isRight_10 ⟨Nat.zero_le _, Nat.zero_le _⟩ ?_
    refine lv_if_eq (tgt := 20) hx hb dX6_isRight_13 (by decide) (fun c_2 => ?_) (fun c_2 => ?_)
    · rw [if_pos c_2] at hR
      have tc_2 : (mX6_isHour a2).toInt = 0 := i_eq.mp c_2
      refine lv_iconst (v := 0) hx hb dX6_isRight_20 (by decide) ?_
      exact ro_zret hx hb hr hk (Or.inl rfl) hR dX6_isRight_21
    · rw [if_neg c_2] at hR
      have tc_2 : ¬ (mX6_isHour a2).toInt = 0 := fun z => c_2 (i_eq.mpr z)
      have fc_2 := f6_isHour c_2
      refine lv_iconst (v := 1) hx hb dX6_isRight_16 (by decide) ?_
      refine lv_goto (tgt := 21) hx hb dX6_isRight_17 (by decide) ?_
      exact ro_zret hx hb hr hk (Or.inr rfl) hR dX6_isRight_21

def mX6_ofMill (a1 a2 a3 : Int32) : Int32 := (((a1 + 1) + (3 * a2)) + a3)
theorem kX6_ofMill : yX6_ofMill.cls ≠ "java/lang/invoke/MethodHandle" ∧ yX6_ofMill.cls ≠ "java/lang/invoke/VarHandle" ∧ (parseMethodDescriptor yX6_ofMill.desc).map (fun d => d.parameters.length) = some 3 := by decide +kernel
set_option maxHeartbeats 4000000 in
set_option maxRecDepth 100000 in
theorem MX6_ofMill (l : Launch) (D : va_G) (q : Nat → ClassId)  (a1 a2 a3 : Int32)  : roM l D (tyq q) yX6_ofMill wsX6_ofMill ({ frames := 0, cells := 0, slots := 0, locals := 0 } : Room) [.int a1, .int a2, .int a3] [] (some (.int (mX6_ofMill a1 a2 a3))) := by
  obtain ⟨R, hR⟩ : ∃ z, (mX6_ofMill a1 a2 a3) = z := ⟨_, rfl⟩
  rw [hR]
  unfold mX6_ofMill at hR
  refine roM.of (cc := cX6_ofMill) (maxL := 3) (ret := (some .int)) (by decide) rfl (Nat.le_of_ble_eq_true rfl) ?_
  intro p e s m below meth c ls hx hb hr hk hml hown hts hP hD hG hl
  have hl : lv_has ls 3 [(0, .int a1), (1, .int a2), (2, .int a3)] := hl
  refine lv_iload_n hx hb dX6_ofMill_0 rfl (lv_at hl 0 rfl) ?_
  refine lv_iconst (v := 1) hx hb dX6_ofMill_1 (by decide) ?_
  refine lv_iadd hx hb dX6_ofMill_2 ?_
  refine lv_iconst (v := 3) hx hb dX6_ofMill_3 (by decide) ?_
  refine lv_iload_n hx hb dX6_ofMill_4 rfl (lv_at hl 1 rfl) ?_
  refine lv_imul hx hb dX6_ofMill_5 ?_
  refine lv_iadd hx hb dX6_ofMill_6 ?_
  refine lv_iload_n hx hb dX6_ofMill_7 rfl (lv_at hl 2 rfl) ?_
  refine lv_iadd hx hb dX6_ofMill_8 ?_
  exact ro_iret hx hb hr hk hR dX6_ofMill_9

def mX6_ofHouse (a1 a2 a3 : Int32) : Int32 := (((a1 + 14) + (2 * a2)) + a3)
theorem kX6_ofHouse : yX6_ofHouse.cls ≠ "java/lang/invoke/MethodHandle" ∧ yX6_ofHouse.cls ≠ "java/lang/invoke/VarHandle" ∧ (parseMethodDescriptor yX6_ofHouse.desc).map (fun d => d.parameters.length) = some 3 := by decide +kernel
set_option maxHeartbeats 4000000 in
set_option maxRecDepth 100000 in
theorem MX6_ofHouse (l : Launch) (D : va_G) (q : Nat → ClassId)  (a1 a2 a3 : Int32)  : roM l D (tyq q) yX6_ofHouse wsX6_ofHouse ({ frames := 0, cells := 0, slots := 0, locals := 0 } : Room) [.int a1, .int a2, .int a3] [] (some (.int (mX6_ofHouse a1 a2 a3))) := by
  obtain ⟨R, hR⟩ : ∃ z, (mX6_ofHouse a1 a2 a3) = z := ⟨_, rfl⟩
  rw [hR]
  unfold mX6_ofHouse at hR
  refine roM.of (cc := cX6_ofHouse) (maxL := 3) (ret := (some .int)) (by decide) rfl (Nat.le_of_ble_eq_true rfl) ?_
  intro p e s m below meth c ls hx hb hr hk hml hown hts hP hD hG hl
  have hl : lv_has ls 3 [(0, .int a1), (1, .int a2), (2, .int a3)] := hl
  refine lv_iload_n hx hb dX6_ofHouse_0 rfl (lv_at hl 0 rfl) ?_
  refine lv_bipush (v := 14) hx hb dX6_ofHouse_1 (by decide) ?_
  refine lv_iadd hx hb dX6_ofHouse_3 ?_
  refine lv_iconst (v := 2) hx hb dX6_ofHouse_4 (by decide) ?_
  refine lv_iload_n hx hb dX6_ofHouse_5 rfl (lv_at hl 1 rfl) ?_
  refine lv_imul hx hb dX6_ofHouse_6 ?_
  refine lv_iadd hx hb dX6_ofHouse_7 ?_
  refine lv_iload_n hx hb dX6_ofHouse_8 rfl (lv_at hl 2 rfl) ?_
  refine lv_iadd hx hb dX6_ofHouse_9 ?_
  exact ro_iret hx hb hr hk hR dX6_ofHouse_10

def mX6_stands (a1 a2 a3 a4 : Int32) : Int32 := ((((a1 + 68) + (8 * a2)) + (2 * a3)) + a4)
theorem kX6_stands : yX6_stands.cls ≠ "java/lang/invoke/MethodHandle" ∧ yX6_stands.cls ≠ "java/lang/invoke/VarHandle" ∧ (parseMethodDescriptor yX6_stands.desc).map (fun d => d.parameters.length) = some 4 := by decide +kernel
set_option maxHeartbeats 4000000 in
set_option maxRecDepth 100000 in
theorem MX6_stands (l : Launch) (D : va_G) (q : Nat → ClassId)  (a1 a2 a3 a4 : Int32)  : roM l D (tyq q) yX6_stands wsX6_stands ({ frames := 0, cells := 0, slots := 0, locals := 0 } : Room) [.int a1, .int a2, .int a3, .int a4] [] (some (.int (mX6_stands a1 a2 a3 a4))) := by
  obtain ⟨R, hR⟩ : ∃ z, (mX6_stands a1 a2 a3 a4) = z := ⟨_, rfl⟩
  rw [hR]
  unfold mX6_stands at hR
  refine roM.of (cc := cX6_stands) (maxL := 4) (ret := (some .int)) (by decide) rfl (Nat.le_of_ble_eq_true rfl) ?_
  intro p e s m below meth c ls hx hb hr hk hml hown hts hP hD hG hl
  have hl : lv_has ls 4 [(0, .int a1), (1, .int a2), (2, .int a3), (3, .int a4)] := hl
  refine lv_iload_n hx hb dX6_stands_0 rfl (lv_at hl 0 rfl) ?_
  refine lv_bipush (v := 68) hx hb dX6_stands_1 (by decide) ?_
  refine lv_iadd hx hb dX6_stands_3 ?_
  refine lv_bipush (v := 8) hx hb dX6_stands_4 (by decide) ?_
  refine lv_iload_n hx hb dX6_stands_6 rfl (lv_at hl 1 rfl) ?_
  refine lv_imul hx hb dX6_stands_7 ?_
  refine lv_iadd hx hb dX6_stands_8 ?_
  refine lv_iconst (v := 2) hx hb dX6_stands_9 (by decide) ?_
  refine lv_iload_n hx hb dX6_stands_10 rfl (lv_at hl 2 rfl) ?_
  refine lv_imul hx hb dX6_stands_11 ?_
  refine lv_iadd hx hb dX6_stands_12 ?_
  refine lv_iload_n hx hb dX6_stands_13 rfl (lv_at hl 3 rfl) ?_
  refine lv_iadd hx hb dX6_stands_14 ?_
  exact ro_iret hx hb hr hk hR dX6_stands_15

def mX6_ones_4 (a1 : Int32) (C : Int32 → Int32 → Int32) : Nat → Int32 → Int32 → Int32
  | 0, x2_4, x1_4 => C x2_4 x1_4
  | n_4 + 1, x2_4, x1_4 => (mX6_ones_4 a1 C n_4 (x2_4 + 1) (x1_4 + ((a1 >>> (x2_4 &&& 31)) &&& 1)))
def mX6_ones (a1 : Int32) : Int32 := (mX6_ones_4 a1 (fun x2_4 x1_4 => x1_4) (tr 0 24) 0 0)
theorem kX6_ones : yX6_ones.cls ≠ "java/lang/invoke/MethodHandle" ∧ yX6_ones.cls ≠ "java/lang/invoke/VarHandle" ∧ (parseMethodDescriptor yX6_ones.desc).map (fun d => d.parameters.length) = some 1 := by decide +kernel
set_option maxHeartbeats 4000000 in
set_option maxRecDepth 100000 in
theorem MX6_ones (l : Launch) (D : va_G) (q : Nat → ClassId)  (a1 : Int32)  : roM l D (tyq q) yX6_ones wsX6_ones ({ frames := 0, cells := 0, slots := 0, locals := 0 } : Room) [.int a1] [] (some (.int (mX6_ones a1))) := by
  obtain ⟨R, hR⟩ : ∃ z, (mX6_ones a1) = z := ⟨_, rfl⟩
  rw [hR]
  unfold mX6_ones at hR
  refine roM.of (cc := cX6_ones) (maxL := 3) (ret := (some .int)) (by decide) rfl (Nat.le_of_ble_eq_true rfl) ?_
  intro p e s m below meth c ls hx hb hr hk hml hown hts hP hD hG hl
  have hl : lv_has ls 3 [(0, .int a1)] := hl
  refine lv_iconst (v := 0) hx hb dX6_ones_0 (by decide) ?_
  refine lv_istore_n (lv' := [(1, .int 0), (0, .int a1)]) hx hb dX6_ones_1 rfl hl (by decide) rfl (fun ls hl => ?_)
  refine lv_iconst (v := 0) hx hb dX6_ones_2 (by decide) ?_
  refine lv_istore_n (lv' := [(2, .int 0), (1, .int 0), (0, .int a1)]) hx hb dX6_ones_3 rfl hl (by decide) rfl (fun ls hl => ?_)
  have key_4 : ∀ (n_4 : Nat) (x2_4 : Int32) (x1_4 : Int32), tr x2_4 24 = n_4 → mX6_ones_4 a1 (fun x2_4 x1_4 => x1_4) n_4 x2_4 x1_4 = R → ∀ ls : Array Slot, lv_has ls 3 [(2, .int x2_4), (1, .int x1_4), (0, .int a1)] → W p l e ({ frames := 0, cells := 0, slots := 0, locals := 0 } : Room) s m ([.int a1] : List Value).toArray below meth c s.heap [] 0 0 (MQ below (roQ (some (.int R))) ([.int a1] : List Value).toArray s 0 0 (fun _ => False)) (F0 m 4 ls []) := by
    intro n_4
    induction n_4 with
    | zero =>
      intro x2_4 x1_4 hn_4 hR ls hl
      rw [mX6_ones_4] at hR
      refine lv_iload_n hx hb dX6_ones_4 rfl (lv_at hl 0 rfl) ?_
      refine lv_bipush (v := 24) hx hb dX6_ones_5 (by decide) ?_
      refine lv_icmp_ge (tgt := 24) hx hb dX6_ones_7 (by decide) (fun c_1 => ?_) (fun c_1 => (tr0 hn_4 c_1).elim)
      refine lv_iload_n hx hb dX6_ones_24 rfl (lv_at hl 1 rfl) ?_
      exact ro_iret hx hb hr hk hR dX6_ones_25
    | succ n_4 ih_4 =>
      intro x2_4 x1_4 hn_4 hR ls hl
      rw [mX6_ones_4] at hR
      refine lv_iload_n hx hb dX6_ones_4 rfl (lv_at hl 0 rfl) ?_
      refine lv_bipush (v := 24) hx hb dX6_ones_5 (by decide) ?_
      refine lv_icmp_ge (tgt := 24) hx hb dX6_ones_7 (by decide) (fun c_1 => (trS hn_4 c_1).elim) (fun c_1 => ?_)
      refine lv_iload_n hx hb dX6_ones_10 rfl (lv_at hl 1 rfl) ?_
      refine lv_iload_n hx hb dX6_ones_11 rfl (lv_at hl 2 rfl) ?_
      refine lv_iload_n hx hb dX6_ones_12 rfl (lv_at hl 0 rfl) ?_
      refine lv_ishr hx hb dX6_ones_13 ?_
      refine lv_iconst (v := 1) hx hb dX6_ones_14 (by decide) ?_
      refine lv_iand hx hb dX6_ones_15 ?_
      refine lv_iadd hx hb dX6_ones_16 ?_
      refine lv_istore_n (lv' := [(1, .int (x1_4 + ((a1 >>> (x2_4 &&& 31)) &&& 1))), (2, .int x2_4), (0, .int a1)]) hx hb dX6_ones_17 rfl hl (by decide) rfl (fun ls hl => ?_)
      refine lv_iinc (v := (x2_4 + 1)) (lv' := [(2, .int (x2_4 + 1)), (1, .int (x1_4 + ((a1 >>> (x2_4 &&& 31)) &&& 1))), (0, .int a1)]) hx hb dX6_ones_18 hl (k := 1) rfl rfl (by decide) rfl (fun ls hl => ?_)
      refine lv_goto (tgt := 4) hx hb dX6_ones_21 (by decide) ?_
      exact ih_4 (x2_4 + 1) (x1_4 + ((a1 >>> (x2_4 &&& 31)) &&& 1)) (trN hn_4) hR ls (lv_sub hl [0, 1, 2] rfl)
  exact key_4 _ 0 0 rfl hR ls hl

def mX6_apart (a1 a2 : Int32) : Int32 := (if 0 ≤ ((a1 - a1 / 12 * 12) - (a2 - a2 / 12 * 12)) then (if 0 ≤ ((a1 / 12) - (a2 / 12)) then (if ((a1 - a1 / 12 * 12) - (a2 - a2 / 12 * 12)) ≤ ((a1 / 12) - (a2 / 12)) then ((a1 / 12) - (a2 / 12)) else ((a1 - a1 / 12 * 12) - (a2 - a2 / 12 * 12))) else (if ((a1 - a1 / 12 * 12) - (a2 - a2 / 12 * 12)) ≤ (-((a1 / 12) - (a2 / 12))) then (-((a1 / 12) - (a2 / 12))) else ((a1 - a1 / 12 * 12) - (a2 - a2 / 12 * 12)))) else (if 0 ≤ ((a1 / 12) - (a2 / 12)) then (if (-((a1 - a1 / 12 * 12) - (a2 - a2 / 12 * 12))) ≤ ((a1 / 12) - (a2 / 12)) then ((a1 / 12) - (a2 / 12)) else (-((a1 - a1 / 12 * 12) - (a2 - a2 / 12 * 12)))) else (if (-((a1 - a1 / 12 * 12) - (a2 - a2 / 12 * 12))) ≤ (-((a1 / 12) - (a2 / 12))) then (-((a1 / 12) - (a2 / 12))) else (-((a1 - a1 / 12 * 12) - (a2 - a2 / 12 * 12))))))
theorem kX6_apart : yX6_apart.cls ≠ "java/lang/invoke/MethodHandle" ∧ yX6_apart.cls ≠ "java/lang/invoke/VarHandle" ∧ (parseMethodDescriptor yX6_apart.desc).map (fun d => d.parameters.length) = some 2 := by decide +kernel
set_option maxHeartbeats 4000000 in
set_option maxRecDepth 100000 in
theorem MX6_apart (l : Launch) (D : va_G) (q : Nat → ClassId)  (a1 a2 : Int32)  : roM l D (tyq q) yX6_apart wsX6_apart ({ frames := 0, cells := 0, slots := 0, locals := 0 } : Room) [.int a1, .int a2] [] (some (.int (mX6_apart a1 a2))) := by
  obtain ⟨R, hR⟩ : ∃ z, (mX6_apart a1 a2) = z := ⟨_, rfl⟩
  rw [hR]
  unfold mX6_apart at hR
  refine roM.of (cc := cX6_apart) (maxL := 6) (ret := (some .int)) (by decide) rfl (Nat.le_of_ble_eq_true rfl) ?_
  intro p e s m below meth c ls hx hb hr hk hml hown hts hP hD hG hl
  have hl : lv_has ls 6 [(0, .int a1), (1, .int a2)] := hl
  refine lv_iload_n hx hb dX6_apart_0 rfl (lv_at hl 0 rfl) ?_
  refine lv_bipush (v := 12) hx hb dX6_apart_1 (by decide) ?_
  refine lv_irem hx hb dX6_apart_3 (by decide) ?_
  refine lv_iload_n hx hb dX6_apart_4 rfl (lv_at hl 1 rfl) ?_
  refine lv_bipush (v := 12) hx hb dX6_apart_5 (by decide) ?_
  refine lv_irem hx hb dX6_apart_7 (by decide) ?_
  refine lv_isub hx hb dX6_apart_8 ?_
  refine lv_istore_n (lv' := [(2, .int ((a1 - a1 / 12 * 12) - (a2 - a2 / 12 * 12))), (0, .int a1), (1, .int a2)]) hx hb dX6_apart_9 rfl hl (by decide) rfl (fun ls hl => ?_)
  refine lv_iload_n hx hb dX6_apart_10 rfl (lv_at hl 1 rfl) ?_
  refine lv_bipush (v := 12) hx hb dX6_apart_11 (by decide) ?_
  refine lv_idiv hx hb dX6_apart_13 (by decide) ?_
  refine lv_iload_n hx hb dX6_apart_14 rfl (lv_at hl 2 rfl) ?_
  refine lv_bipush (v := 12) hx hb dX6_apart_15 (by decide) ?_
  refine lv_idiv hx hb dX6_apart_17 (by decide) ?_
  refine lv_isub hx hb dX6_apart_18 ?_
  refine lv_istore_n (lv' := [(3, .int ((a1 / 12) - (a2 / 12))), (2, .int ((a1 - a1 / 12 * 12) - (a2 - a2 / 12 * 12))), (0, .int a1), (1, .int a2)]) hx hb dX6_apart_19 rfl hl (by decide) rfl (fun ls hl => ?_)
  refine lv_iload_n hx hb dX6_apart_20 rfl (lv_at hl 1 rfl) ?_
  refine lv_if_ge (tgt := 29) hx hb dX6_apart_21 (by decide) (fun c_1 => ?_) (fun c_1 => ?_)
  · rw [if_pos c_1] at hR
    have tc_1 : 0 ≤ ((a1 - a1 / 12 * 12) - (a2 - a2 / 12 * 12)).toInt := i_le.mp c_1
    refine lv_iload_n hx hb dX6_apart_29 rfl (lv_at hl 1 rfl) ?_
    refine lv_istore (lv' := [(4, .int ((a1 - a1 / 12 * 12) - (a2 - a2 / 12 * 12))), (3, .int ((a1 / 12) - (a2 / 12))), (2, .int ((a1 - a1 / 12 * 12) - (a2 - a2 / 12 * 12))), (0, .int a1), (1, .int a2)]) hx hb dX6_apart_30 hl (by decide) rfl (fun ls hl => ?_)
    refine lv_iload_n hx hb dX6_apart_32 rfl (lv_at hl 1 rfl) ?_
    refine lv_if_ge (tgt := 41) hx hb dX6_apart_33 (by decide) (fun c_2 => ?_) (fun c_2 => ?_)
    · rw [if_pos c_2] at hR
      have tc_2 : 0 ≤ ((a1 / 12) - (a2 / 12)).toInt := i_le.mp c_2
      refine lv_iload_n hx hb dX6_apart_41 rfl (lv_at hl 1 rfl) ?_
      refine lv_istore (lv' := [(5, .int ((a1 / 12) - (a2 / 12))), (4, .int ((a1 - a1 / 12 * 12) - (a2 - a2 / 12 * 12))), (3, .int ((a1 / 12) - (a2 / 12))), (2, .int ((a1 - a1 / 12 * 12) - (a2 - a2 / 12 * 12))), (0, .int a1), (1, .int a2)]) hx hb dX6_apart_42 hl (by decide) rfl (fun ls hl => ?_)
      refine lv_iload hx hb dX6_apart_44 (lv_at hl 1 rfl) ?_
      refine lv_iload hx hb dX6_apart_46 (lv_at hl 0 rfl) ?_
      refine lv_icmp_le (tgt := 56) hx hb dX6_apart_48 (by decide) (fun c_3 => ?_) (fun c_3 => ?_)
      · rw [if_pos c_3] at hR
        have tc_3 : ((a1 - a1 / 12 * 12) - (a2 - a2 / 12 * 12)).toInt ≤ ((a1 / 12) - (a2 / 12)).toInt := i_le.mp c_3
        refine lv_iload hx hb dX6_apart_56 (lv_at hl 0 rfl) ?_
        exact ro_iret hx hb hr hk hR dX6_apart_58
      · rw [if_neg c_3] at hR
        have tc_3 : ¬ ((a1 - a1 / 12 * 12) - (a2 - a2 / 12 * 12)).toInt ≤ ((a1 / 12) - (a2 / 12)).toInt := fun z => c_3 (i_le.mpr z)
        refine lv_iload hx hb dX6_apart_51 (lv_at hl 1 rfl) ?_
        refine lv_goto (tgt := 58) hx hb dX6_apart_53 (by decide) ?_
        exact ro_iret hx hb hr hk hR dX6_apart_58
    · rw [if_neg c_2] at hR
      have tc_2 : ¬ 0 ≤ ((a1 / 12) - (a2 / 12)).toInt := fun z => c_2 (i_le.mpr z)
      refine lv_iload_n hx hb dX6_apart_36 rfl (lv_at hl 1 rfl) ?_
      refine lv_ineg hx hb dX6_apart_37 ?_
      refine lv_goto (tgt := 42) hx hb dX6_apart_38 (by decide) ?_
      refine lv_istore (lv' := [(5, .int (-((a1 / 12) - (a2 / 12)))), (4, .int ((a1 - a1 / 12 * 12) - (a2 - a2 / 12 * 12))), (3, .int ((a1 / 12) - (a2 / 12))), (2, .int ((a1 - a1 / 12 * 12) - (a2 - a2 / 12 * 12))), (0, .int a1), (1, .int a2)]) hx hb dX6_apart_42 hl (by decide) rfl (fun ls hl => ?_)
      refine lv_iload hx hb dX6_apart_44 (lv_at hl 1 rfl) ?_
      refine lv_iload hx hb dX6_apart_46 (lv_at hl 0 rfl) ?_
      refine lv_icmp_le (tgt := 56) hx hb dX6_apart_48 (by decide) (fun c_4 => ?_) (fun c_4 => ?_)
      · rw [if_pos c_4] at hR
        have tc_4 : ((a1 - a1 / 12 * 12) - (a2 - a2 / 12 * 12)).toInt ≤ (-((a1 / 12) - (a2 / 12))).toInt := i_le.mp c_4
        refine lv_iload hx hb dX6_apart_56 (lv_at hl 0 rfl) ?_
        exact ro_iret hx hb hr hk hR dX6_apart_58
      · rw [if_neg c_4] at hR
        have tc_4 : ¬ ((a1 - a1 / 12 * 12) - (a2 - a2 / 12 * 12)).toInt ≤ (-((a1 / 12) - (a2 / 12))).toInt := fun z => c_4 (i_le.mpr z)
        refine lv_iload hx hb dX6_apart_51 (lv_at hl 1 rfl) ?_
        refine lv_goto (tgt := 58) hx hb dX6_apart_53 (by decide) ?_
        exact ro_iret hx hb hr hk hR dX6_apart_58
  · rw [if_neg c_1] at hR
    have tc_1 : ¬ 0 ≤ ((a1 - a1 / 12 * 12) - (a2 - a2 / 12 * 12)).toInt := fun z => c_1 (i_le.mpr z)
    refine lv_iload_n hx hb dX6_apart_24 rfl (lv_at hl 1 rfl) ?_
    refine lv_ineg hx hb dX6_apart_25 ?_
    refine lv_goto (tgt := 30) hx hb dX6_apart_26 (by decide) ?_
    refine lv_istore (lv' := [(4, .int (-((a1 - a1 / 12 * 12) - (a2 - a2 / 12 * 12)))), (3, .int ((a1 / 12) - (a2 / 12))), (2, .int ((a1 - a1 / 12 * 12) - (a2 - a2 / 12 * 12))), (0, .int a1), (1, .int a2)]) hx hb dX6_apart_30 hl (by decide) rfl (fun ls hl => ?_)
    refine lv_iload_n hx hb dX6_apart_32 rfl (lv_at hl 1 rfl) ?_
    refine lv_if_ge (tgt := 41) hx hb dX6_apart_33 (by decide) (fun c_5 => ?_) (fun c_5 => ?_)
    · rw [if_pos c_5] at hR
      have tc_5 : 0 ≤ ((a1 / 12) - (a2 / 12)).toInt := i_le.mp c_5
      refine lv_iload_n hx hb dX6_apart_41 rfl (lv_at hl 1 rfl) ?_
      refine lv_istore (lv' := [(5, .int ((a1 / 12) - (a2 / 12))), (4, .int (-((a1 - a1 / 12 * 12) - (a2 - a2 / 12 * 12)))), (3, .int ((a1 / 12) - (a2 / 12))), (2, .int ((a1 - a1 / 12 * 12) - (a2 - a2 / 12 * 12))), (0, .int a1), (1, .int a2)]) hx hb dX6_apart_42 hl (by decide) rfl (fun ls hl => ?_)
      refine lv_iload hx hb dX6_apart_44 (lv_at hl 1 rfl) ?_
      refine lv_iload hx hb dX6_apart_46 (lv_at hl 0 rfl) ?_
      refine lv_icmp_le (tgt := 56) hx hb dX6_apart_48 (by decide) (fun c_6 => ?_) (fun c_6 => ?_)
      · rw [if_pos c_6] at hR
        have tc_6 : (-((a1 - a1 / 12 * 12) - (a2 - a2 / 12 * 12))).toInt ≤ ((a1 / 12) - (a2 / 12)).toInt := i_le.mp c_6
        refine lv_iload hx hb dX6_apart_56 (lv_at hl 0 rfl) ?_
        exact ro_iret hx hb hr hk hR dX6_apart_58
      · rw [if_neg c_6] at hR
        have tc_6 : ¬ (-((a1 - a1 / 12 * 12) - (a2 - a2 / 12 * 12))).toInt ≤ ((a1 / 12) - (a2 / 12)).toInt := fun z => c_6 (i_le.mpr z)
        refine lv_iload hx hb dX6_apart_51 (lv_at hl 1 rfl) ?_
        refine lv_goto (tgt := 58) hx hb dX6_apart_53 (by decide) ?_
        exact ro_iret hx hb hr hk hR dX6_apart_58
    · rw [if_neg c_5] at hR
      have tc_5 : ¬ 0 ≤ ((a1 / 12) - (a2 / 12)).toInt := fun z => c_5 (i_le.mpr z)
      refine lv_iload_n hx hb dX6_apart_36 rfl (lv_at hl 1 rfl) ?_
      refine lv_ineg hx hb dX6_apart_37 ?_
      refine lv_goto (tgt := 42) hx hb dX6_apart_38 (by decide) ?_
      refine lv_istore (lv' := [(5, .int (-((a1 / 12) - (a2 / 12)))), (4, .int (-((a1 - a1 / 12 * 12) - (a2 - a2 / 12 * 12)))), (3, .int ((a1 / 12) - (a2 / 12))), (2, .int ((a1 - a1 / 12 * 12) - (a2 - a2 / 12 * 12))), (0, .int a1), (1, .int a2)]) hx hb dX6_apart_42 hl (by decide) rfl (fun ls hl => ?_)
      refine lv_iload hx hb dX6_apart_44 (lv_at hl 1 rfl) ?_
      refine lv_iload hx hb dX6_apart_46 (lv_at hl 0 rfl) ?_
      refine lv_icmp_le (tgt := 56) hx hb dX6_apart_48 (by decide) (fun c_7 => ?_) (fun c_7 => ?_)
      · rw [if_pos c_7] at hR
        have tc_7 : (-((a1 - a1 / 12 * 12) - (a2 - a2 / 12 * 12))).toInt ≤ (-((a1 / 12) - (a2 / 12))).toInt := i_le.mp c_7
        refine lv_iload hx hb dX6_apart_56 (lv_at hl 0 rfl) ?_
        exact ro_iret hx hb hr hk hR dX6_apart_58
      · rw [if_neg c_7] at hR
        have tc_7 : ¬ (-((a1 - a1 / 12 * 12) - (a2 - a2 / 12 * 12))).toInt ≤ (-((a1 / 12) - (a2 / 12))).toInt := fun z => c_7 (i_le.mpr z)
        refine lv_iload hx hb dX6_apart_51 (lv_at hl 1 rfl) ?_
        refine lv_goto (tgt := 58) hx hb dX6_apart_53 (by decide) ?_
        exact ro_iret hx hb hr hk hR dX6_apart_58

def mX6_toEast (a1 : Int32) : Int32 := (if 12 ≤ a1 then (if a1 ≤ 12 then 0 else 1) else (-1))
theorem kX6_toEast : yX6_toEast.cls ≠ "java/lang/invoke/MethodHandle" ∧ yX6_toEast.cls ≠ "java/lang/invoke/VarHandle" ∧ (parseMethodDescriptor yX6_toEast.desc).map (fun d => d.parameters.length) = some 1 := by decide +kernel
set_option maxHeartbeats 4000000 in
set_option maxRecDepth 100000 in
theorem MX6_toEast (l : Launch) (D : va_G) (q : Nat → ClassId)  (a1 : Int32)  : roM l D (tyq q) yX6_toEast wsX6_toEast ({ frames := 0, cells := 0, slots := 0, locals := 0 } : Room) [.int a1] [] (some (.int (mX6_toEast a1))) := by
  obtain ⟨R, hR⟩ : ∃ z, (mX6_toEast a1) = z := ⟨_, rfl⟩
  rw [hR]
  unfold mX6_toEast at hR
  refine roM.of (cc := cX6_toEast) (maxL := 1) (ret := (some .int)) (by decide) rfl (Nat.le_of_ble_eq_true rfl) ?_
  intro p e s m below meth c ls hx hb hr hk hml hown hts hP hD hG hl
  have hl : lv_has ls 1 [(0, .int a1)] := hl
  refine lv_iload_n hx hb dX6_toEast_0 rfl (lv_at hl 0 rfl) ?_
  refine lv_bipush (v := 12) hx hb dX6_toEast_1 (by decide) ?_
  refine lv_icmp_ge (tgt := 10) hx hb dX6_toEast_3 (by decide) (fun c_1 => ?_) (fun c_1 => ?_)
  · rw [if_pos c_1] at hR
    have tc_1 : 12 ≤ a1.toInt := i_le.mp c_1
    refine lv_iload_n hx hb dX6_toEast_10 rfl (lv_at hl 0 rfl) ?_
    refine lv_bipush (v := 12) hx hb dX6_toEast_11 (by decide) ?_
    refine lv_icmp_le (tgt := 20) hx hb dX6_toEast_13 (by decide) (fun c_2 => ?_) (fun c_2 => ?_)
    · rw [if_pos c_2] at hR
      have tc_2 : a1.toInt ≤ 12 := i_le.mp c_2
      refine lv_iconst (v := 0) hx hb dX6_toEast_20 (by decide) ?_
      exact ro_iret hx hb hr hk hR dX6_toEast_21
    · rw [if_neg c_2] at hR
      have tc_2 : ¬ a1.toInt ≤ 12 := fun z => c_2 (i_le.mpr z)
      refine lv_iconst (v := 1) hx hb dX6_toEast_16 (by decide) ?_
      refine lv_goto (tgt := 21) hx hb dX6_toEast_17 (by decide) ?_
      exact ro_iret hx hb hr hk hR dX6_toEast_21
  · rw [if_neg c_1] at hR
    have tc_1 : ¬ 12 ≤ a1.toInt := fun z => c_1 (i_le.mpr z)
    refine lv_iconst (v := (-1)) hx hb dX6_toEast_6 (by decide) ?_
    refine lv_goto (tgt := 21) hx hb dX6_toEast_7 (by decide) ?_
    exact ro_iret hx hb hr hk hR dX6_toEast_21

def mX6_toSouth (a1 : Int32) : Int32 := (if (mX6_in a1 10 14) = 0 then 0 else (-1))
theorem kX6_toSouth : yX6_toSouth.cls ≠ "java/lang/invoke/MethodHandle" ∧ yX6_toSouth.cls ≠ "java/lang/invoke/VarHandle" ∧ (parseMethodDescriptor yX6_toSouth.desc).map (fun d => d.parameters.length) = some 1 := by decide +kernel
set_option maxHeartbeats 4000000 in
set_option maxRecDepth 100000 in
theorem MX6_toSouth (l : Launch) (D : va_G) (q : Nat → ClassId)  (a1 : Int32)  : roM l D (tyq q) yX6_toSouth wsX6_toSouth ({ frames := 1, cells := 0, slots := 0, locals := 22 } : Room) [.int a1] [] (some (.int (mX6_toSouth a1))) := by
  obtain ⟨R, hR⟩ : ∃ z, (mX6_toSouth a1) = z := ⟨_, rfl⟩
  rw [hR]
  unfold mX6_toSouth at hR
  refine roM.of (cc := cX6_toSouth) (maxL := 1) (ret := (some .int)) (by decide) rfl (Nat.le_of_ble_eq_true rfl) ?_
  intro p e s m below meth c ls hx hb hr hk hml hown hts hP hD hG hl
  have hl : lv_has ls 1 [(0, .int a1)] := hl
  refine lv_iload_n hx hb dX6_toSouth_0 rfl (lv_at hl 0 rfl) ?_
  refine lv_bipush (v := 10) hx hb dX6_toSouth_1 (by decide) ?_
  refine lv_bipush (v := 14) hx hb dX6_toSouth_3 (by decide) ?_
  refine ro_S (v := .int (mX6_in a1 10 14)) (rest := []) (As := [.int a1, .int 10, .int 14]) hx hb hml hown hts hl (MX6_in l D q a1 10 14) gX6_toSouth_X6_in rfl kX6_in ⟨Nat.le_of_ble_eq_true rfl, Nat.le_of_ble_eq_true rfl⟩ rfl rfl (hP.sub (ws' := []) [] rfl) (dT (hD.sub (ws' := []) [] (by decide) rfl)) hG rfl rfl (Nat.le_of_ble_eq_true rfl) dX6_toSouth_5 ⟨Nat.zero_le _, Nat.zero_le _⟩ ?_
  refine lv_if_eq (tgt := 15) hx hb dX6_toSouth_8 (by decide) (fun c_1 => ?_) (fun c_1 => ?_)
  · rw [if_pos c_1] at hR
    have tc_1 : (mX6_in a1 10 14).toInt = 0 := i_eq.mp c_1
    refine lv_iconst (v := 0) hx hb dX6_toSouth_15 (by decide) ?_
    exact ro_iret hx hb hr hk hR dX6_toSouth_16
  · rw [if_neg c_1] at hR
    have tc_1 : ¬ (mX6_in a1 10 14).toInt = 0 := fun z => c_1 (i_eq.mpr z)
    have fc_1 : 10 ≤ a1.toInt ∧ a1.toInt ≤ 14 := f6_in c_1
    refine lv_iconst (v := (-1)) hx hb dX6_toSouth_11 (by decide) ?_
    refine lv_goto (tgt := 16) hx hb dX6_toSouth_12 (by decide) ?_
    exact ro_iret hx hb hr hk hR dX6_toSouth_16

def mX6_canSet (a1 a2 : Int32) : Int32 := (if a1 = 0 then (mX6_in a2 0 20) else (if a1 = 1 then (mX6_in a2 0 20) else (if a1 = 2 then (mX6_in a2 1 9) else (if a1 = 3 then (if (mX6_in a2 0 99) = 0 then 0 else 1) else 0))))
theorem kX6_canSet : yX6_canSet.cls ≠ "java/lang/invoke/MethodHandle" ∧ yX6_canSet.cls ≠ "java/lang/invoke/VarHandle" ∧ (parseMethodDescriptor yX6_canSet.desc).map (fun d => d.parameters.length) = some 2 := by decide +kernel
set_option maxHeartbeats 4000000 in
set_option maxRecDepth 100000 in
theorem MX6_canSet (l : Launch) (D : va_G) (q : Nat → ClassId)  (a1 a2 : Int32)  : roM l D (tyq q) yX6_canSet wsX6_canSet ({ frames := 1, cells := 0, slots := 0, locals := 22 } : Room) [.int a1, .int a2] [] (some (.int (mX6_canSet a1 a2))) := by
  obtain ⟨R, hR⟩ : ∃ z, (mX6_canSet a1 a2) = z := ⟨_, rfl⟩
  rw [hR]
  unfold mX6_canSet at hR
  refine roM.of (cc := cX6_canSet) (maxL := 2) (ret := (some .boolean)) (by decide) rfl (Nat.le_of_ble_eq_true rfl) ?_
  intro p e s m below meth c ls hx hb hr hk hml hown hts hP hD hG hl
  have hl : lv_has ls 2 [(0, .int a1), (1, .int a2)] := hl
  refine lv_iload_n hx hb dX6_canSet_0 rfl (lv_at hl 0 rfl) ?_
  by_cases c_1 : a1 = 0
  · rw [if_pos c_1] at hR
    have tc_1 : a1.toInt = 0 := i_eq.mp c_1
    refine lv_tableIn (off := 27) (tgt := 28) hx hb dX6_canSet_1 (by rw [c_1]; decide) (by rw [c_1]; decide) (by rw [c_1]; rfl) (by decide) ?_
    refine lv_iload_n hx hb dX6_canSet_28 rfl (lv_at hl 1 rfl) ?_
    refine lv_iconst (v := 0) hx hb dX6_canSet_29 (by decide) ?_
    refine lv_bipush (v := 20) hx hb dX6_canSet_30 (by decide) ?_
    refine ro_S (v := .int (mX6_in a2 0 20)) (rest := []) (As := [.int a2, .int 0, .int 20]) hx hb hml hown hts hl (MX6_in l D q a2 0 20) gX6_canSet_X6_in rfl kX6_in ⟨Nat.le_of_ble_eq_true rfl, Nat.le_of_ble_eq_true rfl⟩ rfl rfl (hP.sub (ws' := []) [] rfl) (dT (hD.sub (ws' := []) [] (by decide) rfl)) hG rfl rfl (Nat.le_of_ble_eq_true rfl) dX6_canSet_32 ⟨Nat.zero_le _, Nat.zero_le _⟩ ?_
    exact ro_zret hx hb hr hk (zX6_in a2 0 20) hR dX6_canSet_35
  · rw [if_neg c_1] at hR
    by_cases c_2 : a1 = 1
    · rw [if_pos c_2] at hR
      have tc_2 : a1.toInt = 1 := i_eq.mp c_2
      refine lv_tableIn (off := 27) (tgt := 28) hx hb dX6_canSet_1 (by rw [c_2]; decide) (by rw [c_2]; decide) (by rw [c_2]; rfl) (by decide) ?_
      refine lv_iload_n hx hb dX6_canSet_28 rfl (lv_at hl 1 rfl) ?_
      refine lv_iconst (v := 0) hx hb dX6_canSet_29 (by decide) ?_
      refine lv_bipush (v := 20) hx hb dX6_canSet_30 (by decide) ?_
      refine ro_S (v := .int (mX6_in a2 0 20)) (rest := []) (As := [.int a2, .int 0, .int 20]) hx hb hml hown hts hl (MX6_in l D q a2 0 20) gX6_canSet_X6_in rfl kX6_in ⟨Nat.le_of_ble_eq_true rfl, Nat.le_of_ble_eq_true rfl⟩ rfl rfl (hP.sub (ws' := []) [] rfl) (dT (hD.sub (ws' := []) [] (by decide) rfl)) hG rfl rfl (Nat.le_of_ble_eq_true rfl) dX6_canSet_32 ⟨Nat.zero_le _, Nat.zero_le _⟩ ?_
      exact ro_zret hx hb hr hk (zX6_in a2 0 20) hR dX6_canSet_35
    · rw [if_neg c_2] at hR
      by_cases c_3 : a1 = 2
      · rw [if_pos c_3] at hR
        have tc_3 : a1.toInt = 2 := i_eq.mp c_3
        refine lv_tableIn (off := 35) (tgt := 36) hx hb dX6_canSet_1 (by rw [c_3]; decide) (by rw [c_3]; decide) (by rw [c_3]; rfl) (by decide) ?_
        refine lv_iload_n hx hb dX6_canSet_36 rfl (lv_at hl 1 rfl) ?_
        refine lv_iconst (v := 1) hx hb dX6_canSet_37 (by decide) ?_
        refine lv_bipush (v := 9) hx hb dX6_canSet_38 (by decide) ?_
        refine ro_S (v := .int (mX6_in a2 1 9)) (rest := []) (As := [.int a2, .int 1, .int 9]) hx hb hml hown hts hl (MX6_in l D q a2 1 9) gX6_canSet_X6_in rfl kX6_in ⟨Nat.le_of_ble_eq_true rfl, Nat.le_of_ble_eq_true rfl⟩ rfl rfl (hP.sub (ws' := []) [] rfl) (dT (hD.sub (ws' := []) [] (by decide) rfl)) hG rfl rfl (Nat.le_of_ble_eq_true rfl) dX6_canSet_40 ⟨Nat.zero_le _, Nat.zero_le _⟩ ?_
        exact ro_zret hx hb hr hk (zX6_in a2 1 9) hR dX6_canSet_43
      · rw [if_neg c_3] at hR
        refine lv_tableOut (tgt := 44) hx hb dX6_canSet_1 (by have z0 := lv_neT c_1 (a := 0) rfl; have z1 := lv_neT c_2 (a := 1) rfl; have z2 := lv_neT c_3 (a := 2) rfl; omega) (by decide) ?_
        refine lv_iload_n hx hb dX6_canSet_44 rfl (lv_at hl 0 rfl) ?_
        refine lv_iconst (v := 3) hx hb dX6_canSet_45 (by decide) ?_
        refine lv_icmp_ne (tgt := 63) hx hb dX6_canSet_46 (by decide) (fun c_4 => ?_) (fun c_4 => ?_)
        · rw [if_neg c_4] at hR
          have tc_4 : ¬ a1.toInt = 3 := fun z => c_4 (i_eq.mpr z)
          refine lv_iconst (v := 0) hx hb dX6_canSet_63 (by decide) ?_
          exact ro_zret hx hb hr hk (Or.inl rfl) hR dX6_canSet_64
        · rw [if_pos c_4] at hR
          have tc_4 : a1.toInt = 3 := i_eq.mp c_4
          refine lv_iload_n hx hb dX6_canSet_49 rfl (lv_at hl 1 rfl) ?_
          refine lv_iconst (v := 0) hx hb dX6_canSet_50 (by decide) ?_
          refine lv_bipush (v := 99) hx hb dX6_canSet_51 (by decide) ?_
          refine ro_S (v := .int (mX6_in a2 0 99)) (rest := []) (As := [.int a2, .int 0, .int 99]) hx hb hml hown hts hl (MX6_in l D q a2 0 99) gX6_canSet_X6_in rfl kX6_in ⟨Nat.le_of_ble_eq_true rfl, Nat.le_of_ble_eq_true rfl⟩ rfl rfl (hP.sub (ws' := []) [] rfl) (dT (hD.sub (ws' := []) [] (by decide) rfl)) hG rfl rfl (Nat.le_of_ble_eq_true rfl) dX6_canSet_53 ⟨Nat.zero_le _, Nat.zero_le _⟩ ?_
          refine lv_if_eq (tgt := 63) hx hb dX6_canSet_56 (by decide) (fun c_5 => ?_) (fun c_5 => ?_)
          · rw [if_pos c_5] at hR
            have tc_5 : (mX6_in a2 0 99).toInt = 0 := i_eq.mp c_5
            refine lv_iconst (v := 0) hx hb dX6_canSet_63 (by decide) ?_
            exact ro_zret hx hb hr hk (Or.inl rfl) hR dX6_canSet_64
          · rw [if_neg c_5] at hR
            have tc_5 : ¬ (mX6_in a2 0 99).toInt = 0 := fun z => c_5 (i_eq.mpr z)
            have fc_5 : 0 ≤ a2.toInt ∧ a2.toInt ≤ 99 := f6_in c_5
            refine lv_iconst (v := 1) hx hb dX6_canSet_59 (by decide) ?_
            refine lv_goto (tgt := 64) hx hb dX6_canSet_60 (by decide) ?_
            exact ro_zret hx hb hr hk (Or.inr rfl) hR dX6_canSet_64

def mX6_isMill (x : Nat → Nat → Int32) (pp mill : Int32) : Int32 := (mX6_in mill 0 (((x 0) ((pp + 0)).toNatClampNeg) - 1))
theorem kX6_isMill : yX6_isMill.cls = RX6 ∧ yX6_isMill.cls ≠ "java/lang/invoke/MethodHandle" ∧ yX6_isMill.cls ≠ "java/lang/invoke/VarHandle" ∧ (parseMethodDescriptor yX6_isMill.desc).map (fun d => d.parameters.length) = some 2 := by decide +kernel
theorem iX6_isMill_X6 : ∀ w ∈ wsX60, w ∈ wsX6_isMill := fun w h => (List.mem_cons_of_mem _ (List.mem_append_right _ h))
set_option maxHeartbeats 4000000 in
set_option maxRecDepth 100000 in
theorem MX6_isMill (l : Launch) (D : va_G) (q : Nat → ClassId) (h : Nat → Nat) (x : Nat → Nat → Int32) (pp mill : Int32) (hpp : 0 ≤ pp.toInt ∧ pp.toInt < 149) : roM l D (tyq q) yX6_isMill wsX6_isMill ({ frames := 1, cells := 0, slots := 0, locals := 22 } : Room) [.ref (h 0), .int pp, .int mill] (wM q h x) (some (.int (mX6_isMill x pp mill))) := by
  obtain ⟨R, hR⟩ : ∃ z, (mX6_isMill x pp mill) = z := ⟨_, rfl⟩
  rw [hR]
  unfold mX6_isMill at hR
  refine roM.of (cc := cX6_isMill) (maxL := 3) (ret := (some .boolean)) (by decide) rfl (Nat.le_of_ble_eq_true rfl) ?_
  intro p e s m below meth c ls hx hb hr hk hml hown hts hP hD hG hl
  have hl : lv_has ls 3 [(0, .ref (h 0)), (1, .int pp), (2, .int mill)] := hl
  refine lv_iload_n hx hb dX6_isMill_0 rfl (lv_at hl 2 rfl) ?_
  refine lv_iconst (v := 0) hx hb dX6_isMill_1 (by decide) ?_
  refine lv_aload_n hx hb dX6_isMill_2 rfl (lv_at hl 0 rfl) ?_
  refine va_get (D := D) (ci := 4) (v := .ref (h 1)) (C := RX6) (T := TX6) (N := 7) hx hb hts iX6_isMill_X6 hown hG.1 hP 0 rfl rfl 0 (by decide) (hts (.fieldLink RX6 7 "MillComplaintsModel" "s" "[I") (List.mem_of_getElem? (i := 1) rfl)) (fun _ h9 => h9) rfl dX6_isMill_3 ?_
  refine lv_iload_n hx hb dX6_isMill_6 rfl (lv_at hl 1 rfl) ?_
  refine lv_iconst (v := 0) hx hb dX6_isMill_7 (by decide) ?_
  refine lv_iadd hx hb dX6_isMill_8 ?_
  refine va_iald hx hb hG.1 hP 1 0 rfl rfl (ix_t (i := (pp + 0)) (x := ((pp).toInt + 0)) (n := 296) (ti_add rfl (show (0 : Int32).toInt = 0 from rfl) (by omega)) (by omega)) dX6_isMill_9 ?_
  refine lv_iconst (v := 1) hx hb dX6_isMill_10 (by decide) ?_
  refine lv_isub hx hb dX6_isMill_11 ?_
  refine ro_S (v := .int (mX6_in mill 0 (((x 0) ((pp + 0)).toNatClampNeg) - 1))) (rest := []) (As := [.int mill, .int 0, .int (((x 0) ((pp + 0)).toNatClampNeg) - 1)]) hx hb hml hown hts hl (MX6_in l D q mill 0 (((x 0) ((pp + 0)).toNatClampNeg) - 1)) gX6_isMill_X6_in rfl kX6_in ⟨Nat.le_of_ble_eq_true rfl, Nat.le_of_ble_eq_true rfl⟩ rfl rfl (hP.sub (ws' := []) [] rfl) (dT (hD.sub (ws' := []) [] (by decide) rfl)) hG rfl rfl (Nat.le_of_ble_eq_true rfl) dX6_isMill_12 ⟨Nat.zero_le _, Nat.zero_le _⟩ ?_
  exact ro_zret hx hb hr hk (zX6_in mill 0 (((x 0) ((pp + 0)).toNatClampNeg) - 1)) hR dX6_isMill_15

def mX6_isHouse (x : Nat → Nat → Int32) (pp house : Int32) : Int32 := (mX6_in house 0 (((x 0) ((pp + 13)).toNatClampNeg) - 1))
theorem kX6_isHouse : yX6_isHouse.cls = RX6 ∧ yX6_isHouse.cls ≠ "java/lang/invoke/MethodHandle" ∧ yX6_isHouse.cls ≠ "java/lang/invoke/VarHandle" ∧ (parseMethodDescriptor yX6_isHouse.desc).map (fun d => d.parameters.length) = some 2 := by decide +kernel
theorem iX6_isHouse_X6 : ∀ w ∈ wsX60, w ∈ wsX6_isHouse := fun w h => (List.mem_cons_of_mem _ (List.mem_append_right _ h))
set_option maxHeartbeats 4000000 in
set_option maxRecDepth 100000 in
theorem MX6_isHouse (l : Launch) (D : va_G) (q : Nat → ClassId) (h : Nat → Nat) (x : Nat → Nat → Int32) (pp house : Int32) (hpp : 0 ≤ pp.toInt ∧ pp.toInt < 149) : roM l D (tyq q) yX6_isHouse wsX6_isHouse ({ frames := 1, cells := 0, slots := 0, locals := 22 } : Room) [.ref (h 0), .int pp, .int house] (wM q h x) (some (.int (mX6_isHouse x pp house))) := by
  obtain ⟨R, hR⟩ : ∃ z, (mX6_isHouse x pp house) = z := ⟨_, rfl⟩
  rw [hR]
  unfold mX6_isHouse at hR
  refine roM.of (cc := cX6_isHouse) (maxL := 3) (ret := (some .boolean)) (by decide) rfl (Nat.le_of_ble_eq_true rfl) ?_
  intro p e s m below meth c ls hx hb hr hk hml hown hts hP hD hG hl
  have hl : lv_has ls 3 [(0, .ref (h 0)), (1, .int pp), (2, .int house)] := hl
  refine lv_iload_n hx hb dX6_isHouse_0 rfl (lv_at hl 2 rfl) ?_
  refine lv_iconst (v := 0) hx hb dX6_isHouse_1 (by decide) ?_
  refine lv_aload_n hx hb dX6_isHouse_2 rfl (lv_at hl 0 rfl) ?_
  refine va_get (D := D) (ci := 4) (v := .ref (h 1)) (C := RX6) (T := TX6) (N := 7) hx hb hts iX6_isHouse_X6 hown hG.1 hP 0 rfl rfl 0 (by decide) (hts (.fieldLink RX6 7 "MillComplaintsModel" "s" "[I") (List.mem_of_getElem? (i := 1) rfl)) (fun _ h9 => h9) rfl dX6_isHouse_3 ?_
  refine lv_iload_n hx hb dX6_isHouse_6 rfl (lv_at hl 1 rfl) ?_
  refine lv_bipush (v := 13) hx hb dX6_isHouse_7 (by decide) ?_
  refine lv_iadd hx hb dX6_isHouse_9 ?_
  refine va_iald hx hb hG.1 hP 1 0 rfl rfl (ix_t (i := (pp + 13)) (x := ((pp).toInt + 13)) (n := 296) (ti_add rfl (show (13 : Int32).toInt = 13 from rfl) (by omega)) (by omega)) dX6_isHouse_10 ?_
  refine lv_iconst (v := 1) hx hb dX6_isHouse_11 (by decide) ?_
  refine lv_isub hx hb dX6_isHouse_12 ?_
  refine ro_S (v := .int (mX6_in house 0 (((x 0) ((pp + 13)).toNatClampNeg) - 1))) (rest := []) (As := [.int house, .int 0, .int (((x 0) ((pp + 13)).toNatClampNeg) - 1)]) hx hb hml hown hts hl (MX6_in l D q house 0 (((x 0) ((pp + 13)).toNatClampNeg) - 1)) gX6_isHouse_X6_in rfl kX6_in ⟨Nat.le_of_ble_eq_true rfl, Nat.le_of_ble_eq_true rfl⟩ rfl rfl (hP.sub (ws' := []) [] rfl) (dT (hD.sub (ws' := []) [] (by decide) rfl)) hG rfl rfl (Nat.le_of_ble_eq_true rfl) dX6_isHouse_13 ⟨Nat.zero_le _, Nat.zero_le _⟩ ?_
  exact ro_zret hx hb hr hk (zX6_in house 0 (((x 0) ((pp + 13)).toNatClampNeg) - 1)) hR dX6_isHouse_16
theorem f_isMill {x : Nat → Nat → Int32} {p a : Int32} (hC : cntP x p) (h : ¬ mX6_isMill x p a = 0) : 0 ≤ a.toInt ∧ a.toInt < 4 := by
  have h1 := f6_in (a := a) (b := 0) h
  have e0 : (0 : Int32).toInt = 0 := rfl
  have e1 : (1 : Int32).toInt = 1 := rfl
  obtain ⟨h2, h3⟩ := hC
  rw [ti_sub (a := x 0 (p + 0).toNatClampNeg) (b := 1) rfl e1 (by omega)] at h1
  omega
theorem f_isHouse {x : Nat → Nat → Int32} {p a : Int32} (hC : cntP x p) (h : ¬ mX6_isHouse x p a = 0) : 0 ≤ a.toInt ∧ a.toInt < 10 := by
  have h1 := f6_in (a := a) (b := 0) h
  have e0 : (0 : Int32).toInt = 0 := rfl
  have e1 : (1 : Int32).toInt = 1 := rfl
  obtain ⟨h2, h3⟩ := hC
  rw [ti_sub (a := x 0 (p + 13).toNatClampNeg) (b := 1) rfl e1 (by omega)] at h1
  omega
