def mL_has (a1 a2 : Int32) : Int32 := (if ((a1 >>> (a2 &&& 31)) &&& 1) = 1 then 1 else 0)
theorem kL_has : yL_has.cls ≠ "java/lang/invoke/MethodHandle" ∧ yL_has.cls ≠ "java/lang/invoke/VarHandle" ∧ (parseMethodDescriptor yL_has.desc).map (fun d => d.parameters.length) = some 2 := by decide +kernel
set_option maxHeartbeats 4000000 in
set_option maxRecDepth 100000 in
theorem ML_has (l : Launch) (D : va_G) (q : Nat → ClassId)  (a1 a2 : Int32)  : roM l D (tyq q) yL_has wsL_has ({ frames := 0, cells := 0, slots := 0, locals := 0 } : Room) [.int a1, .int a2] [] (some (.int (mL_has a1 a2))) := by
  obtain ⟨R, hR⟩ : ∃ z, (mL_has a1 a2) = z := ⟨_, rfl⟩
  rw [hR]
  unfold mL_has at hR
  refine roM.of (cc := cL_has) (maxL := 2) (ret := (some .boolean)) (by decide) rfl (Nat.le_of_ble_eq_true rfl) ?_
  intro p e s m below meth c ls hx hb hr hk hml hown hts hP hD hG hl
  have hl : lv_has ls 2 [(0, .int a1), (1, .int a2)] := hl
  refine lv_iload_n hx hb dL_has_0 rfl (lv_at hl 0 rfl) ?_
  refine lv_iload_n hx hb dL_has_1 rfl (lv_at hl 1 rfl) ?_
  refine lv_ishr hx hb dL_has_2 ?_
  refine lv_iconst (v := 1) hx hb dL_has_3 (by decide) ?_
  refine lv_iand hx hb dL_has_4 ?_
  refine lv_iconst (v := 1) hx hb dL_has_5 (by decide) ?_
  refine lv_icmp_ne (tgt := 13) hx hb dL_has_6 (by decide) (fun c_1 => ?_) (fun c_1 => ?_)
  · rw [if_neg c_1] at hR
    refine lv_iconst (v := 0) hx hb dL_has_13 (by decide) ?_
    exact ro_zret hx hb hr hk (Or.inl rfl) hR dL_has_14
  · rw [if_pos c_1] at hR
    refine lv_iconst (v := 1) hx hb dL_has_9 (by decide) ?_
    refine lv_goto (tgt := 14) hx hb dL_has_10 (by decide) ?_
    exact ro_zret hx hb hr hk (Or.inr rfl) hR dL_has_14

def mL_size (a1 : Int32) : Int32 := (if 0 ≤ a1 then a1 else (-a1))
theorem kL_size : yL_size.cls ≠ "java/lang/invoke/MethodHandle" ∧ yL_size.cls ≠ "java/lang/invoke/VarHandle" ∧ (parseMethodDescriptor yL_size.desc).map (fun d => d.parameters.length) = some 1 := by decide +kernel
set_option maxHeartbeats 4000000 in
set_option maxRecDepth 100000 in
theorem ML_size (l : Launch) (D : va_G) (q : Nat → ClassId)  (a1 : Int32)  : roM l D (tyq q) yL_size wsL_size ({ frames := 0, cells := 0, slots := 0, locals := 0 } : Room) [.int a1] [] (some (.int (mL_size a1))) := by
  obtain ⟨R, hR⟩ : ∃ z, (mL_size a1) = z := ⟨_, rfl⟩
  rw [hR]
  unfold mL_size at hR
  refine roM.of (cc := cL_size) (maxL := 1) (ret := (some .int)) (by decide) rfl (Nat.le_of_ble_eq_true rfl) ?_
  intro p e s m below meth c ls hx hb hr hk hml hown hts hP hD hG hl
  have hl : lv_has ls 1 [(0, .int a1)] := hl
  refine lv_iload_n hx hb dL_size_0 rfl (lv_at hl 0 rfl) ?_
  refine lv_if_ge (tgt := 9) hx hb dL_size_1 (by decide) (fun c_1 => ?_) (fun c_1 => ?_)
  · rw [if_pos c_1] at hR
    refine lv_iload_n hx hb dL_size_9 rfl (lv_at hl 0 rfl) ?_
    exact ro_iret hx hb hr hk hR dL_size_10
  · rw [if_neg c_1] at hR
    refine lv_iload_n hx hb dL_size_4 rfl (lv_at hl 0 rfl) ?_
    refine lv_ineg hx hb dL_size_5 ?_
    refine lv_goto (tgt := 10) hx hb dL_size_6 (by decide) ?_
    exact ro_iret hx hb hr hk hR dL_size_10

def mL_low (a1 a2 : Int32) : Int32 := ((a1 &&& 2147483647) - (a1 &&& 2147483647) / a2 * a2)
theorem kL_low : yL_low.cls ≠ "java/lang/invoke/MethodHandle" ∧ yL_low.cls ≠ "java/lang/invoke/VarHandle" ∧ (parseMethodDescriptor yL_low.desc).map (fun d => d.parameters.length) = some 2 := by decide +kernel
set_option maxHeartbeats 4000000 in
set_option maxRecDepth 100000 in
theorem ML_low (l : Launch) (D : va_G) (q : Nat → ClassId)  (a1 a2 : Int32) (hnz : ¬ a2 = 0) : roM l D (tyq q) yL_low wsL_low ({ frames := 0, cells := 0, slots := 0, locals := 0 } : Room) [.int a1, .int a2] [] (some (.int (mL_low a1 a2))) := by
  obtain ⟨R, hR⟩ : ∃ z, (mL_low a1 a2) = z := ⟨_, rfl⟩
  rw [hR]
  unfold mL_low at hR
  refine roM.of (cc := cL_low) (maxL := 2) (ret := (some .int)) (by decide) rfl (Nat.le_of_ble_eq_true rfl) ?_
  intro p e s m below meth c ls hx hb hr hk hml hown hts hP hD hG hl
  have hl : lv_has ls 2 [(0, .int a1), (1, .int a2)] := hl
  refine lv_iload_n hx hb dL_low_0 rfl (lv_at hl 0 rfl) ?_
  refine lv_ldc hx hb hown (hts (.constant RL 7 (2147483647)) (List.mem_of_getElem? (i := 1) rfl)) dL_low_1 ?_
  refine lv_iand hx hb dL_low_3 ?_
  refine lv_iload_n hx hb dL_low_4 rfl (lv_at hl 1 rfl) ?_
  refine lv_irem hx hb dL_low_5 (by assumption) ?_
  exact ro_iret hx hb hr hk hR dL_low_6

theorem b_low (a n : Int32) {k : Int} (hn : n.toInt = k) (hk : 0 < k) : 0 ≤ (mL_low a n).toInt ∧ (mL_low a n).toInt < k := by
  unfold mL_low
  have h0 := and_pos a
  generalize (a &&& 2147483647) = b at h0
  rw [ti_rem rfl hn h0 hk]
  exact ⟨Int.emod_nonneg _ (by omega), Int.emod_lt_of_pos _ hk⟩
