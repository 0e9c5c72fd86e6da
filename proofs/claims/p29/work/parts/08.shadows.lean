def mJ6_bitCount_0f7a4 (a1 : Int32) : Int32 := ((((((((a1 - (((a1.toUInt32 >>> ((1 : Int32).toUInt32 &&& Int32.toUInt32 31)).toInt32) &&& 1431655765)) &&& 858993459) + ((((a1 - (((a1.toUInt32 >>> ((1 : Int32).toUInt32 &&& Int32.toUInt32 31)).toInt32) &&& 1431655765)).toUInt32 >>> ((2 : Int32).toUInt32 &&& Int32.toUInt32 31)).toInt32) &&& 858993459)) + (((((a1 - (((a1.toUInt32 >>> ((1 : Int32).toUInt32 &&& Int32.toUInt32 31)).toInt32) &&& 1431655765)) &&& 858993459) + ((((a1 - (((a1.toUInt32 >>> ((1 : Int32).toUInt32 &&& Int32.toUInt32 31)).toInt32) &&& 1431655765)).toUInt32 >>> ((2 : Int32).toUInt32 &&& Int32.toUInt32 31)).toInt32) &&& 858993459)).toUInt32 >>> ((4 : Int32).toUInt32 &&& Int32.toUInt32 31)).toInt32)) &&& 252645135) + (((((((a1 - (((a1.toUInt32 >>> ((1 : Int32).toUInt32 &&& Int32.toUInt32 31)).toInt32) &&& 1431655765)) &&& 858993459) + ((((a1 - (((a1.toUInt32 >>> ((1 : Int32).toUInt32 &&& Int32.toUInt32 31)).toInt32) &&& 1431655765)).toUInt32 >>> ((2 : Int32).toUInt32 &&& Int32.toUInt32 31)).toInt32) &&& 858993459)) + (((((a1 - (((a1.toUInt32 >>> ((1 : Int32).toUInt32 &&& Int32.toUInt32 31)).toInt32) &&& 1431655765)) &&& 858993459) + ((((a1 - (((a1.toUInt32 >>> ((1 : Int32).toUInt32 &&& Int32.toUInt32 31)).toInt32) &&& 1431655765)).toUInt32 >>> ((2 : Int32).toUInt32 &&& Int32.toUInt32 31)).toInt32) &&& 858993459)).toUInt32 >>> ((4 : Int32).toUInt32 &&& Int32.toUInt32 31)).toInt32)) &&& 252645135).toUInt32 >>> ((8 : Int32).toUInt32 &&& Int32.toUInt32 31)).toInt32)) + ((((((((a1 - (((a1.toUInt32 >>> ((1 : Int32).toUInt32 &&& Int32.toUInt32 31)).toInt32) &&& 1431655765)) &&& 858993459) + ((((a1 - (((a1.toUInt32 >>> ((1 : Int32).toUInt32 &&& Int32.toUInt32 31)).toInt32) &&& 1431655765)).toUInt32 >>> ((2 : Int32).toUInt32 &&& Int32.toUInt32 31)).toInt32) &&& 858993459)) + (((((a1 - (((a1.toUInt32 >>> ((1 : Int32).toUInt32 &&& Int32.toUInt32 31)).toInt32) &&& 1431655765)) &&& 858993459) + ((((a1 - (((a1.toUInt32 >>> ((1 : Int32).toUInt32 &&& Int32.toUInt32 31)).toInt32) &&& 1431655765)).toUInt32 >>> ((2 : Int32).toUInt32 &&& Int32.toUInt32 31)).toInt32) &&& 858993459)).toUInt32 >>> ((4 : Int32).toUInt32 &&& Int32.toUInt32 31)).toInt32)) &&& 252645135) + (((((((a1 - (((a1.toUInt32 >>> ((1 : Int32).toUInt32 &&& Int32.toUInt32 31)).toInt32) &&& 1431655765)) &&& 858993459) + ((((a1 - (((a1.toUInt32 >>> ((1 : Int32).toUInt32 &&& Int32.toUInt32 31)).toInt32) &&& 1431655765)).toUInt32 >>> ((2 : Int32).toUInt32 &&& Int32.toUInt32 31)).toInt32) &&& 858993459)) + (((((a1 - (((a1.toUInt32 >>> ((1 : Int32).toUInt32 &&& Int32.toUInt32 31)).toInt32) &&& 1431655765)) &&& 858993459) + ((((a1 - (((a1.toUInt32 >>> ((1 : Int32).toUInt32 &&& Int32.toUInt32 31)).toInt32) &&& 1431655765)).toUInt32 >>> ((2 : Int32).toUInt32 &&& Int32.toUInt32 31)).toInt32) &&& 858993459)).toUInt32 >>> ((4 : Int32).toUInt32 &&& Int32.toUInt32 31)).toInt32)) &&& 252645135).toUInt32 >>> ((8 : Int32).toUInt32 &&& Int32.toUInt32 31)).toInt32)).toUInt32 >>> ((16 : Int32).toUInt32 &&& Int32.toUInt32 31)).toInt32)) &&& 63)
theorem kJ6_bitCount_0f7a4 : yJ6_bitCount_0f7a4.cls ≠ "java/lang/invoke/MethodHandle" ∧ yJ6_bitCount_0f7a4.cls ≠ "java/lang/invoke/VarHandle" ∧ (parseMethodDescriptor yJ6_bitCount_0f7a4.desc).map (fun d => d.parameters.length) = some 1 := by decide +kernel
set_option maxHeartbeats 4000000 in
set_option maxRecDepth 100000 in
theorem MJ6_bitCount_0f7a4 (l : Launch) (D : va_G) (q : Nat → ClassId)  (a1 : Int32)  : roM l D (tyq q) yJ6_bitCount_0f7a4 wsJ6_bitCount_0f7a4 ({ frames := 0, cells := 0, slots := 0, locals := 0 } : Room) [.int a1] [] (some (.int (mJ6_bitCount_0f7a4 a1))) := by
  obtain ⟨R, hR⟩ : ∃ z, (mJ6_bitCount_0f7a4 a1) = z := ⟨_, rfl⟩
  rw [hR]
  unfold mJ6_bitCount_0f7a4 at hR
  refine roM.of (cc := cJ6_bitCount_0f7a4) (maxL := 1) (ret := (some .int)) (by decide) rfl (Nat.le_of_ble_eq_true rfl) ?_
  intro p e s m below meth c ls hx hb hr hk hml hown hts hP hD hG hl
  have hl : lv_has ls 1 [(0, .int a1)] := hl
  refine lv_iload_n hx hb dJ6_bitCount_0f7a4_0 rfl (lv_at hl 0 rfl) ?_
  refine lv_iload_n hx hb dJ6_bitCount_0f7a4_1 rfl (lv_at hl 0 rfl) ?_
  refine lv_iconst (v := 1) hx hb dJ6_bitCount_0f7a4_2 (by decide) ?_
  refine lv_iushr (v := ((a1.toUInt32 >>> ((1 : Int32).toUInt32 &&& Int32.toUInt32 31)).toInt32)) hx hb dJ6_bitCount_0f7a4_3 rfl ?_
  refine lv_ldcw hx hb hown (hts (.constant RJ6 265 (1431655765)) (List.mem_of_getElem? (i := 1) rfl)) dJ6_bitCount_0f7a4_4 ?_
  refine lv_iand hx hb dJ6_bitCount_0f7a4_7 ?_
  refine lv_isub hx hb dJ6_bitCount_0f7a4_8 ?_
  refine lv_istore_n (lv' := [(0, .int (a1 - (((a1.toUInt32 >>> ((1 : Int32).toUInt32 &&& Int32.toUInt32 31)).toInt32) &&& 1431655765)))]) hx hb dJ6_bitCount_0f7a4_9 rfl hl (by decide) rfl (fun ls hl => ?_)
  refine lv_iload_n hx hb dJ6_bitCount_0f7a4_10 rfl (lv_at hl 0 rfl) ?_
  refine lv_ldcw hx hb hown (hts (.constant RJ6 266 (858993459)) (List.mem_of_getElem? (i := 2) rfl)) dJ6_bitCount_0f7a4_11 ?_
  refine lv_iand hx hb dJ6_bitCount_0f7a4_14 ?_
  refine lv_iload_n hx hb dJ6_bitCount_0f7a4_15 rfl (lv_at hl 0 rfl) ?_
  refine lv_iconst (v := 2) hx hb dJ6_bitCount_0f7a4_16 (by decide) ?_
  refine lv_iushr (v := (((a1 - (((a1.toUInt32 >>> ((1 : Int32).toUInt32 &&& Int32.toUInt32 31)).toInt32) &&& 1431655765)).toUInt32 >>> ((2 : Int32).toUInt32 &&& Int32.toUInt32 31)).toInt32)) hx hb dJ6_bitCount_0f7a4_17 rfl ?_
  refine lv_ldcw hx hb hown (hts (.constant RJ6 266 (858993459)) (List.mem_of_getElem? (i := 2) rfl)) dJ6_bitCount_0f7a4_18 ?_
  refine lv_iand hx hb dJ6_bitCount_0f7a4_21 ?_
  refine lv_iadd hx hb dJ6_bitCount_0f7a4_22 ?_
  refine lv_istore_n (lv' := [(0, .int (((a1 - (((a1.toUInt32 >>> ((1 : Int32).toUInt32 &&& Int32.toUInt32 31)).toInt32) &&& 1431655765)) &&& 858993459) + ((((a1 - (((a1.toUInt32 >>> ((1 : Int32).toUInt32 &&& Int32.toUInt32 31)).toInt32) &&& 1431655765)).toUInt32 >>> ((2 : Int32).toUInt32 &&& Int32.toUInt32 31)).toInt32) &&& 858993459)))]) hx hb dJ6_bitCount_0f7a4_23 rfl hl (by decide) rfl (fun ls hl => ?_)
  refine lv_iload_n hx hb dJ6_bitCount_0f7a4_24 rfl (lv_at hl 0 rfl) ?_
  refine lv_iload_n hx hb dJ6_bitCount_0f7a4_25 rfl (lv_at hl 0 rfl) ?_
  refine lv_iconst (v := 4) hx hb dJ6_bitCount_0f7a4_26 (by decide) ?_
  refine lv_iushr (v := (((((a1 - (((a1.toUInt32 >>> ((1 : Int32).toUInt32 &&& Int32.toUInt32 31)).toInt32) &&& 1431655765)) &&& 858993459) + ((((a1 - (((a1.toUInt32 >>> ((1 : Int32).toUInt32 &&& Int32.toUInt32 31)).toInt32) &&& 1431655765)).toUInt32 >>> ((2 : Int32).toUInt32 &&& Int32.toUInt32 31)).toInt32) &&& 858993459)).toUInt32 >>> ((4 : Int32).toUInt32 &&& Int32.toUInt32 31)).toInt32)) hx hb dJ6_bitCount_0f7a4_27 rfl ?_
  refine lv_iadd hx hb dJ6_bitCount_0f7a4_28 ?_
  refine lv_ldcw hx hb hown (hts (.constant RJ6 267 (252645135)) (List.mem_of_getElem? (i := 3) rfl)) dJ6_bitCount_0f7a4_29 ?_
  refine lv_iand hx hb dJ6_bitCount_0f7a4_32 ?_
  refine lv_istore_n (lv' := [(0, .int (((((a1 - (((a1.toUInt32 >>> ((1 : Int32).toUInt32 &&& Int32.toUInt32 31)).toInt32) &&& 1431655765)) &&& 858993459) + ((((a1 - (((a1.toUInt32 >>> ((1 : Int32).toUInt32 &&& Int32.toUInt32 31)).toInt32) &&& 1431655765)).toUInt32 >>> ((2 : Int32).toUInt32 &&& Int32.toUInt32 31)).toInt32) &&& 858993459)) + (((((a1 - (((a1.toUInt32 >>> ((1 : Int32).toUInt32 &&& Int32.toUInt32 31)).toInt32) &&& 1431655765)) &&& 858993459) + ((((a1 - (((a1.toUInt32 >>> ((1 : Int32).toUInt32 &&& Int32.toUInt32 31)).toInt32) &&& 1431655765)).toUInt32 >>> ((2 : Int32).toUInt32 &&& Int32.toUInt32 31)).toInt32) &&& 858993459)).toUInt32 >>> ((4 : Int32).toUInt32 &&& Int32.toUInt32 31)).toInt32)) &&& 252645135))]) hx hb dJ6_bitCount_0f7a4_33 rfl hl (by decide) rfl (fun ls hl => ?_)
  refine lv_iload_n hx hb dJ6_bitCount_0f7a4_34 rfl (lv_at hl 0 rfl) ?_
  refine lv_iload_n hx hb dJ6_bitCount_0f7a4_35 rfl (lv_at hl 0 rfl) ?_
  refine lv_bipush (v := 8) hx hb dJ6_bitCount_0f7a4_36 (by decide) ?_
  refine lv_iushr (v := (((((((a1 - (((a1.toUInt32 >>> ((1 : Int32).toUInt32 &&& Int32.toUInt32 31)).toInt32) &&& 1431655765)) &&& 858993459) + ((((a1 - (((a1.toUInt32 >>> ((1 : Int32).toUInt32 &&& Int32.toUInt32 31)).toInt32) &&& 1431655765)).toUInt32 >>> ((2 : Int32).toUInt32 &&& Int32.toUInt32 31)).toInt32) &&& 858993459)) + (((((a1 - (((a1.toUInt32 >>> ((1 : Int32).toUInt32 &&& Int32.toUInt32 31)).toInt32) &&& 1431655765)) &&& 858993459) + ((((a1 - (((a1.toUInt32 >>> ((1 : Int32).toUInt32 &&& Int32.toUInt32 31)).toInt32) &&& 1431655765)).toUInt32 >>> ((2 : Int32).toUInt32 &&& Int32.toUInt32 31)).toInt32) &&& 858993459)).toUInt32 >>> ((4 : Int32).toUInt32 &&& Int32.toUInt32 31)).toInt32)) &&& 252645135).toUInt32 >>> ((8 : Int32).toUInt32 &&& Int32.toUInt32 31)).toInt32)) hx hb dJ6_bitCount_0f7a4_38 rfl ?_
  refine lv_iadd hx hb dJ6_bitCount_0f7a4_39 ?_
  refine lv_istore_n (lv' := [(0, .int ((((((a1 - (((a1.toUInt32 >>> ((1 : Int32).toUInt32 &&& Int32.toUInt32 31)).toInt32) &&& 1431655765)) &&& 858993459) + ((((a1 - (((a1.toUInt32 >>> ((1 : Int32).toUInt32 &&& Int32.toUInt32 31)).toInt32) &&& 1431655765)).toUInt32 >>> ((2 : Int32).toUInt32 &&& Int32.toUInt32 31)).toInt32) &&& 858993459)) + (((((a1 - (((a1.toUInt32 >>> ((1 : Int32).toUInt32 &&& Int32.toUInt32 31)).toInt32) &&& 1431655765)) &&& 858993459) + ((((a1 - (((a1.toUInt32 >>> ((1 : Int32).toUInt32 &&& Int32.toUInt32 31)).toInt32) &&& 1431655765)).toUInt32 >>> ((2 : Int32).toUInt32 &&& Int32.toUInt32 31)).toInt32) &&& 858993459)).toUInt32 >>> ((4 : Int32).toUInt32 &&& Int32.toUInt32 31)).toInt32)) &&& 252645135) + (((((((a1 - (((a1.toUInt32 >>> ((1 : Int32).toUInt32 &&& Int32.toUInt32 31)).toInt32) &&& 1431655765)) &&& 858993459) + ((((a1 - (((a1.toUInt32 >>> ((1 : Int32).toUInt32 &&& Int32.toUInt32 31)).toInt32) &&& 1431655765)).toUInt32 >>> ((2 : Int32).toUInt32 &&& Int32.toUInt32 31)).toInt32) &&& 858993459)) + (((((a1 - (((a1.toUInt32 >>> ((1 : Int32).toUInt32 &&& Int32.toUInt32 31)).toInt32) &&& 1431655765)) &&& 858993459) + ((((a1 - (((a1.toUInt32 >>> ((1 : Int32).toUInt32 &&& Int32.toUInt32 31)).toInt32) &&& 1431655765)).toUInt32 >>> ((2 : Int32).toUInt32 &&& Int32.toUInt32 31)).toInt32) &&& 858993459)).toUInt32 >>> ((4 : Int32).toUInt32 &&& Int32.toUInt32 31)).toInt32)) &&& 252645135).toUInt32 >>> ((8 : Int32).toUInt32 &&& Int32.toUInt32 31)).toInt32)))]) hx hb dJ6_bitCount_0f7a4_40 rfl hl (by decide) rfl (fun ls hl => ?_)
  refine lv_iload_n hx hb dJ6_bitCount_0f7a4_41 rfl (lv_at hl 0 rfl) ?_
  refine lv_iload_n hx hb dJ6_bitCount_0f7a4_42 rfl (lv_at hl 0 rfl) ?_
  refine lv_bipush (v := 16) hx hb dJ6_bitCount_0f7a4_43 (by decide) ?_
  refine lv_iushr (v := ((((((((a1 - (((a1.toUInt32 >>> ((1 : Int32).toUInt32 &&& Int32.toUInt32 31)).toInt32) &&& 1431655765)) &&& 858993459) + ((((a1 - (((a1.toUInt32 >>> ((1 : Int32).toUInt32 &&& Int32.toUInt32 31)).toInt32) &&& 1431655765)).toUInt32 >>> ((2 : Int32).toUInt32 &&& Int32.toUInt32 31)).toInt32) &&& 858993459)) + (((((a1 - (((a1.toUInt32 >>> ((1 : Int32).toUInt32 &&& Int32.toUInt32 31)).toInt32) &&& 1431655765)) &&& 858993459) + ((((a1 - (((a1.toUInt32 >>> ((1 : Int32).toUInt32 &&& Int32.toUInt32 31)).toInt32) &&& 1431655765)).toUInt32 >>> ((2 : Int32).toUInt32 &&& Int32.toUInt32 31)).toInt32) &&& 858993459)).toUInt32 >>> ((4 : Int32).toUInt32 &&& Int32.toUInt32 31)).toInt32)) &&& 252645135) + (((((((a1 - (((a1.toUInt32 >>> ((1 : Int32).toUInt32 &&& Int32.toUInt32 31)).toInt32) &&& 1431655765)) &&& 858993459) + ((((a1 - (((a1.toUInt32 >>> ((1 : Int32).toUInt32 &&& Int32.toUInt32 31)).toInt32) &&& 1431655765)).toUInt32 >>> ((2 : Int32).toUInt32 &&& Int32.toUInt32 31)).toInt32) &&& 858993459)) + (((((a1 - (((a1.toUInt32 >>> ((1 : Int32).toUInt32 &&& Int32.toUInt32 31)).toInt32) &&& 1431655765)) &&& 858993459) + ((((a1 - (((a1.toUInt32 >>> ((1 : Int32).toUInt32 &&& Int32.toUInt32 31)).toInt32) &&& 1431655765)).toUInt32 >>> ((2 : Int32).toUInt32 &&& Int32.toUInt32 31)).toInt32) &&& 858993459)).toUInt32 >>> ((4 : Int32).toUInt32 &&& Int32.toUInt32 31)).toInt32)) &&& 252645135).toUInt32 >>> ((8 : Int32).toUInt32 &&& Int32.toUInt32 31)).toInt32)).toUInt32 >>> ((16 : Int32).toUInt32 &&& Int32.toUInt32 31)).toInt32)) hx hb dJ6_bitCount_0f7a4_45 rfl ?_
  refine lv_iadd hx hb dJ6_bitCount_0f7a4_46 ?_
  refine lv_istore_n (lv' := [(0, .int (((((((a1 - (((a1.toUInt32 >>> ((1 : Int32).toUInt32 &&& Int32.toUInt32 31)).toInt32) &&& 1431655765)) &&& 858993459) + ((((a1 - (((a1.toUInt32 >>> ((1 : Int32).toUInt32 &&& Int32.toUInt32 31)).toInt32) &&& 1431655765)).toUInt32 >>> ((2 : Int32).toUInt32 &&& Int32.toUInt32 31)).toInt32) &&& 858993459)) + (((((a1 - (((a1.toUInt32 >>> ((1 : Int32).toUInt32 &&& Int32.toUInt32 31)).toInt32) &&& 1431655765)) &&& 858993459) + ((((a1 - (((a1.toUInt32 >>> ((1 : Int32).toUInt32 &&& Int32.toUInt32 31)).toInt32) &&& 1431655765)).toUInt32 >>> ((2 : Int32).toUInt32 &&& Int32.toUInt32 31)).toInt32) &&& 858993459)).toUInt32 >>> ((4 : Int32).toUInt32 &&& Int32.toUInt32 31)).toInt32)) &&& 252645135) + (((((((a1 - (((a1.toUInt32 >>> ((1 : Int32).toUInt32 &&& Int32.toUInt32 31)).toInt32) &&& 1431655765)) &&& 858993459) + ((((a1 - (((a1.toUInt32 >>> ((1 : Int32).toUInt32 &&& Int32.toUInt32 31)).toInt32) &&& 1431655765)).toUInt32 >>> ((2 : Int32).toUInt32 &&& Int32.toUInt32 31)).toInt32) &&& 858993459)) + (((((a1 - (((a1.toUInt32 >>> ((1 : Int32).toUInt32 &&& Int32.toUInt32 31)).toInt32) &&& 1431655765)) &&& 858993459) + ((((a1 - (((a1.toUInt32 >>> ((1 : Int32).toUInt32 &&& Int32.toUInt32 31)).toInt32) &&& 1431655765)).toUInt32 >>> ((2 : Int32).toUInt32 &&& Int32.toUInt32 31)).toInt32) &&& 858993459)).toUInt32 >>> ((4 : Int32).toUInt32 &&& Int32.toUInt32 31)).toInt32)) &&& 252645135).toUInt32 >>> ((8 : Int32).toUInt32 &&& Int32.toUInt32 31)).toInt32)) + ((((((((a1 - (((a1.toUInt32 >>> ((1 : Int32).toUInt32 &&& Int32.toUInt32 31)).toInt32) &&& 1431655765)) &&& 858993459) + ((((a1 - (((a1.toUInt32 >>> ((1 : Int32).toUInt32 &&& Int32.toUInt32 31)).toInt32) &&& 1431655765)).toUInt32 >>> ((2 : Int32).toUInt32 &&& Int32.toUInt32 31)).toInt32) &&& 858993459)) + (((((a1 - (((a1.toUInt32 >>> ((1 : Int32).toUInt32 &&& Int32.toUInt32 31)).toInt32) &&& 1431655765)) &&& 858993459) + ((((a1 - (((a1.toUInt32 >>> ((1 : Int32).toUInt32 &&& Int32.toUInt32 31)).toInt32) &&& 1431655765)).toUInt32 >>> ((2 : Int32).toUInt32 &&& Int32.toUInt32 31)).toInt32) &&& 858993459)).toUInt32 >>> ((4 : Int32).toUInt32 &&& Int32.toUInt32 31)).toInt32)) &&& 252645135) + (((((((a1 - (((a1.toUInt32 >>> ((1 : Int32).toUInt32 &&& Int32.toUInt32 31)).toInt32) &&& 1431655765)) &&& 858993459) + ((((a1 - (((a1.toUInt32 >>> ((1 : Int32).toUInt32 &&& Int32.toUInt32 31)).toInt32) &&& 1431655765)).toUInt32 >>> ((2 : Int32).toUInt32 &&& Int32.toUInt32 31)).toInt32) &&& 858993459)) + (((((a1 - (((a1.toUInt32 >>> ((1 : Int32).toUInt32 &&& Int32.toUInt32 31)).toInt32) &&& 1431655765)) &&& 858993459) + ((((a1 - (((a1.toUInt32 >>> ((1 : Int32).toUInt32 &&& Int32.toUInt32 31)).toInt32) &&& 1431655765)).toUInt32 >>> ((2 : Int32).toUInt32 &&& Int32.toUInt32 31)).toInt32) &&& 858993459)).toUInt32 >>> ((4 : Int32).toUInt32 &&& Int32.toUInt32 31)).toInt32)) &&& 252645135).toUInt32 >>> ((8 : Int32).toUInt32 &&& Int32.toUInt32 31)).toInt32)).toUInt32 >>> ((16 : Int32).toUInt32 &&& Int32.toUInt32 31)).toInt32)))]) hx hb dJ6_bitCount_0f7a4_47 rfl hl (by decide) rfl (fun ls hl => ?_)
  refine lv_iload_n hx hb dJ6_bitCount_0f7a4_48 rfl (lv_at hl 0 rfl) ?_
  refine lv_bipush (v := 63) hx hb dJ6_bitCount_0f7a4_49 (by decide) ?_
  refine lv_iand hx hb dJ6_bitCount_0f7a4_51 ?_
  exact ro_iret hx hb hr hk hR dJ6_bitCount_0f7a4_52

def mX2_hasSun (a1 : Int32) : Int32 := (if a1 < 6 then 0 else (if 18 < a1 then 0 else 1))
theorem kX2_hasSun : yX2_hasSun.cls ≠ "java/lang/invoke/MethodHandle" ∧ yX2_hasSun.cls ≠ "java/lang/invoke/VarHandle" ∧ (parseMethodDescriptor yX2_hasSun.desc).map (fun d => d.parameters.length) = some 1 := by decide +kernel
set_option maxHeartbeats 4000000 in
set_option maxRecDepth 100000 in
theorem MX2_hasSun (l : Launch) (D : va_G) (q : Nat → ClassId)  (a1 : Int32)  : roM l D (tyq q) yX2_hasSun wsX2_hasSun ({ frames := 0, cells := 0, slots := 0, locals := 0 } : Room) [.int a1] [] (some (.int (mX2_hasSun a1))) := by
  obtain ⟨R, hR⟩ : ∃ z, (mX2_hasSun a1) = z := ⟨_, rfl⟩
  rw [hR]
  unfold mX2_hasSun at hR
  refine roM.of (cc := cX2_hasSun) (maxL := 1) (ret := (some .boolean)) (by decide) rfl (Nat.le_of_ble_eq_true rfl) ?_
  intro p e s m below meth c ls hx hb hr hk hml hown hts hP hD hG hl
  have hl : lv_has ls 1 [(0, .int a1)] := hl
  refine lv_iload_n hx hb dX2_hasSun_0 rfl (lv_at hl 0 rfl) ?_
  refine lv_bipush (v := 6) hx hb dX2_hasSun_1 (by decide) ?_
  refine lv_icmp_lt (tgt := 16) hx hb dX2_hasSun_3 (by decide) (fun c_1 => ?_) (fun c_1 => ?_)
  · rw [if_pos c_1] at hR
    refine lv_iconst (v := 0) hx hb dX2_hasSun_16 (by decide) ?_
    exact ro_zret hx hb hr hk (Or.inl rfl) hR dX2_hasSun_17
  · rw [if_neg c_1] at hR
    refine lv_iload_n hx hb dX2_hasSun_6 rfl (lv_at hl 0 rfl) ?_
    refine lv_bipush (v := 18) hx hb dX2_hasSun_7 (by decide) ?_
    refine lv_icmp_gt (tgt := 16) hx hb dX2_hasSun_9 (by decide) (fun c_2 => ?_) (fun c_2 => ?_)
    · rw [if_pos c_2] at hR
      refine lv_iconst (v := 0) hx hb dX2_hasSun_16 (by decide) ?_
      exact ro_zret hx hb hr hk (Or.inl rfl) hR dX2_hasSun_17
    · rw [if_neg c_2] at hR
      refine lv_iconst (v := 1) hx hb dX2_hasSun_12 (by decide) ?_
      refine lv_goto (tgt := 17) hx hb dX2_hasSun_13 (by decide) ?_
      exact ro_zret hx hb hr hk (Or.inr rfl) hR dX2_hasSun_17

def mX2_length (a1 a2 : Int32) : Int32 := (if a2 < 6 then 0 else (if a2 ≤ 18 then (if 12 ≤ a2 then (((a1 * (a2 - 12)) + 1) / 2) else (((a1 * (12 - a2)) + 1) / 2)) else 0))
theorem kX2_length : yX2_length.cls ≠ "java/lang/invoke/MethodHandle" ∧ yX2_length.cls ≠ "java/lang/invoke/VarHandle" ∧ (parseMethodDescriptor yX2_length.desc).map (fun d => d.parameters.length) = some 2 := by decide +kernel
set_option maxHeartbeats 4000000 in
set_option maxRecDepth 100000 in
theorem MX2_length (l : Launch) (D : va_G) (q : Nat → ClassId)  (a1 a2 : Int32)  : roM l D (tyq q) yX2_length wsX2_length ({ frames := 0, cells := 0, slots := 0, locals := 0 } : Room) [.int a1, .int a2] [] (some (.int (mX2_length a1 a2))) := by
  obtain ⟨R, hR⟩ : ∃ z, (mX2_length a1 a2) = z := ⟨_, rfl⟩
  rw [hR]
  unfold mX2_length at hR
  refine roM.of (cc := cX2_length) (maxL := 3) (ret := (some .int)) (by decide) rfl (Nat.le_of_ble_eq_true rfl) ?_
  intro p e s m below meth c ls hx hb hr hk hml hown hts hP hD hG hl
  have hl : lv_has ls 3 [(0, .int a1), (1, .int a2)] := hl
  refine lv_iload_n hx hb dX2_length_0 rfl (lv_at hl 1 rfl) ?_
  refine lv_bipush (v := 6) hx hb dX2_length_1 (by decide) ?_
  refine lv_icmp_lt (tgt := 12) hx hb dX2_length_3 (by decide) (fun c_1 => ?_) (fun c_1 => ?_)
  · rw [if_pos c_1] at hR
    refine lv_iconst (v := 0) hx hb dX2_length_12 (by decide) ?_
    exact ro_iret hx hb hr hk hR dX2_length_13
  · rw [if_neg c_1] at hR
    refine lv_iload_n hx hb dX2_length_6 rfl (lv_at hl 1 rfl) ?_
    refine lv_bipush (v := 18) hx hb dX2_length_7 (by decide) ?_
    refine lv_icmp_le (tgt := 14) hx hb dX2_length_9 (by decide) (fun c_2 => ?_) (fun c_2 => ?_)
    · rw [if_pos c_2] at hR
      refine lv_iload_n hx hb dX2_length_14 rfl (lv_at hl 1 rfl) ?_
      refine lv_bipush (v := 12) hx hb dX2_length_15 (by decide) ?_
      refine lv_icmp_ge (tgt := 27) hx hb dX2_length_17 (by decide) (fun c_3 => ?_) (fun c_3 => ?_)
      · rw [if_pos c_3] at hR
        refine lv_iload_n hx hb dX2_length_27 rfl (lv_at hl 1 rfl) ?_
        refine lv_bipush (v := 12) hx hb dX2_length_28 (by decide) ?_
        refine lv_isub hx hb dX2_length_30 ?_
        refine lv_istore_n (lv' := [(2, .int (a2 - 12)), (0, .int a1), (1, .int a2)]) hx hb dX2_length_31 rfl hl (by decide) rfl (fun ls hl => ?_)
        refine lv_iload_n hx hb dX2_length_32 rfl (lv_at hl 1 rfl) ?_
        refine lv_iload_n hx hb dX2_length_33 rfl (lv_at hl 0 rfl) ?_
        refine lv_imul hx hb dX2_length_34 ?_
        refine lv_iconst (v := 1) hx hb dX2_length_35 (by decide) ?_
        refine lv_iadd hx hb dX2_length_36 ?_
        refine lv_iconst (v := 2) hx hb dX2_length_37 (by decide) ?_
        refine lv_idiv hx hb dX2_length_38 (by decide) ?_
        exact ro_iret hx hb hr hk hR dX2_length_39
      · rw [if_neg c_3] at hR
        refine lv_bipush (v := 12) hx hb dX2_length_20 (by decide) ?_
        refine lv_iload_n hx hb dX2_length_22 rfl (lv_at hl 1 rfl) ?_
        refine lv_isub hx hb dX2_length_23 ?_
        refine lv_goto (tgt := 31) hx hb dX2_length_24 (by decide) ?_
        refine lv_istore_n (lv' := [(2, .int (12 - a2)), (0, .int a1), (1, .int a2)]) hx hb dX2_length_31 rfl hl (by decide) rfl (fun ls hl => ?_)
        refine lv_iload_n hx hb dX2_length_32 rfl (lv_at hl 1 rfl) ?_
        refine lv_iload_n hx hb dX2_length_33 rfl (lv_at hl 0 rfl) ?_
        refine lv_imul hx hb dX2_length_34 ?_
        refine lv_iconst (v := 1) hx hb dX2_length_35 (by decide) ?_
        refine lv_iadd hx hb dX2_length_36 ?_
        refine lv_iconst (v := 2) hx hb dX2_length_37 (by decide) ?_
        refine lv_idiv hx hb dX2_length_38 (by decide) ?_
        exact ro_iret hx hb hr hk hR dX2_length_39
    · rw [if_neg c_2] at hR
      refine lv_iconst (v := 0) hx hb dX2_length_12 (by decide) ?_
      exact ro_iret hx hb hr hk hR dX2_length_13

theorem i_div2 (a : Int32) : (a / 2).toInt < 2147483647 := by
  have h := i_rng a
  rw [Int32.toInt_div]
  have : (2 : Int32).toInt = 2 := rfl
  rw [this]
  have h2 : -2147483648 ≤ a.toInt.tdiv 2 ∧ a.toInt.tdiv 2 < 2147483648 / 2 := by
    rcases (show 0 ≤ a.toInt ∨ a.toInt < 0 by omega) with h0 | h0
    · rw [Int.tdiv_eq_ediv_of_nonneg h0]; omega
    · rw [show a.toInt.tdiv 2 = -((-a.toInt).tdiv 2) by rw [Int.neg_tdiv, Int.neg_neg], Int.tdiv_eq_ediv_of_nonneg (by omega)]; omega
  rw [Int.bmod_eq_of_le (by omega) (by omega)]
  omega
theorem len_b (a b : Int32) : (mX2_length a b).toInt < 2147483647 := by
  unfold mX2_length
  repeat' split
  all_goals first | (exact i_div2 _) | decide
def mX2_eastward (a1 : Int32) : Int32 := (if 12 ≤ a1 then (if a1 ≤ 12 then 0 else 1) else (-1))
theorem kX2_eastward : yX2_eastward.cls ≠ "java/lang/invoke/MethodHandle" ∧ yX2_eastward.cls ≠ "java/lang/invoke/VarHandle" ∧ (parseMethodDescriptor yX2_eastward.desc).map (fun d => d.parameters.length) = some 1 := by decide +kernel
set_option maxHeartbeats 4000000 in
set_option maxRecDepth 100000 in
theorem MX2_eastward (l : Launch) (D : va_G) (q : Nat → ClassId)  (a1 : Int32)  : roM l D (tyq q) yX2_eastward wsX2_eastward ({ frames := 0, cells := 0, slots := 0, locals := 0 } : Room) [.int a1] [] (some (.int (mX2_eastward a1))) := by
  obtain ⟨R, hR⟩ : ∃ z, (mX2_eastward a1) = z := ⟨_, rfl⟩
  rw [hR]
  unfold mX2_eastward at hR
  refine roM.of (cc := cX2_eastward) (maxL := 1) (ret := (some .int)) (by decide) rfl (Nat.le_of_ble_eq_true rfl) ?_
  intro p e s m below meth c ls hx hb hr hk hml hown hts hP hD hG hl
  have hl : lv_has ls 1 [(0, .int a1)] := hl
  refine lv_iload_n hx hb dX2_eastward_0 rfl (lv_at hl 0 rfl) ?_
  refine lv_bipush (v := 12) hx hb dX2_eastward_1 (by decide) ?_
  refine lv_icmp_ge (tgt := 10) hx hb dX2_eastward_3 (by decide) (fun c_1 => ?_) (fun c_1 => ?_)
  · rw [if_pos c_1] at hR
    refine lv_iload_n hx hb dX2_eastward_10 rfl (lv_at hl 0 rfl) ?_
    refine lv_bipush (v := 12) hx hb dX2_eastward_11 (by decide) ?_
    refine lv_icmp_le (tgt := 20) hx hb dX2_eastward_13 (by decide) (fun c_2 => ?_) (fun c_2 => ?_)
    · rw [if_pos c_2] at hR
      refine lv_iconst (v := 0) hx hb dX2_eastward_20 (by decide) ?_
      exact ro_iret hx hb hr hk hR dX2_eastward_21
    · rw [if_neg c_2] at hR
      refine lv_iconst (v := 1) hx hb dX2_eastward_16 (by decide) ?_
      refine lv_goto (tgt := 21) hx hb dX2_eastward_17 (by decide) ?_
      exact ro_iret hx hb hr hk hR dX2_eastward_21
  · rw [if_neg c_1] at hR
    refine lv_iconst (v := (-1)) hx hb dX2_eastward_6 (by decide) ?_
    refine lv_goto (tgt := 21) hx hb dX2_eastward_7 (by decide) ?_
    exact ro_iret hx hb hr hk hR dX2_eastward_21

def mX2_southward (a1 : Int32) : Int32 := (if a1 < 10 then 0 else (if 14 < a1 then 0 else (-1)))
theorem kX2_southward : yX2_southward.cls ≠ "java/lang/invoke/MethodHandle" ∧ yX2_southward.cls ≠ "java/lang/invoke/VarHandle" ∧ (parseMethodDescriptor yX2_southward.desc).map (fun d => d.parameters.length) = some 1 := by decide +kernel
set_option maxHeartbeats 4000000 in
set_option maxRecDepth 100000 in
theorem MX2_southward (l : Launch) (D : va_G) (q : Nat → ClassId)  (a1 : Int32)  : roM l D (tyq q) yX2_southward wsX2_southward ({ frames := 0, cells := 0, slots := 0, locals := 0 } : Room) [.int a1] [] (some (.int (mX2_southward a1))) := by
  obtain ⟨R, hR⟩ : ∃ z, (mX2_southward a1) = z := ⟨_, rfl⟩
  rw [hR]
  unfold mX2_southward at hR
  refine roM.of (cc := cX2_southward) (maxL := 1) (ret := (some .int)) (by decide) rfl (Nat.le_of_ble_eq_true rfl) ?_
  intro p e s m below meth c ls hx hb hr hk hml hown hts hP hD hG hl
  have hl : lv_has ls 1 [(0, .int a1)] := hl
  refine lv_iload_n hx hb dX2_southward_0 rfl (lv_at hl 0 rfl) ?_
  refine lv_bipush (v := 10) hx hb dX2_southward_1 (by decide) ?_
  refine lv_icmp_lt (tgt := 16) hx hb dX2_southward_3 (by decide) (fun c_1 => ?_) (fun c_1 => ?_)
  · rw [if_pos c_1] at hR
    refine lv_iconst (v := 0) hx hb dX2_southward_16 (by decide) ?_
    exact ro_iret hx hb hr hk hR dX2_southward_17
  · rw [if_neg c_1] at hR
    refine lv_iload_n hx hb dX2_southward_6 rfl (lv_at hl 0 rfl) ?_
    refine lv_bipush (v := 14) hx hb dX2_southward_7 (by decide) ?_
    refine lv_icmp_gt (tgt := 16) hx hb dX2_southward_9 (by decide) (fun c_2 => ?_) (fun c_2 => ?_)
    · rw [if_pos c_2] at hR
      refine lv_iconst (v := 0) hx hb dX2_southward_16 (by decide) ?_
      exact ro_iret hx hb hr hk hR dX2_southward_17
    · rw [if_neg c_2] at hR
      refine lv_iconst (v := (-1)) hx hb dX2_southward_12 (by decide) ?_
      refine lv_goto (tgt := 17) hx hb dX2_southward_13 (by decide) ?_
      exact ro_iret hx hb hr hk hR dX2_southward_17

def mX2_isMetOnTheWalk_22 (a3 : Int32) (a4 : Int32) (C : Int32 → Int32 → Int32 → Int32) : Nat → Int32 → Int32 → Int32 → Int32
  | 0, x7_22, x5_22, x4_22 => C x7_22 x5_22 x4_22
  | n_22 + 1, x7_22, x5_22, x4_22 => (if (x4_22 + (mX2_eastward a4)) < 0 then 0 else (if 12 ≤ (x4_22 + (mX2_eastward a4)) then 0 else (if (x5_22 + (mX2_southward a4)) < 0 then 0 else (if (x5_22 + (mX2_southward a4)) < 8 then (if ((12 * (x5_22 + (mX2_southward a4))) + (x4_22 + (mX2_eastward a4))) = a3 then 1 else (mX2_isMetOnTheWalk_22 a3 a4 C n_22 (x7_22 + 1) (x5_22 + (mX2_southward a4)) (x4_22 + (mX2_eastward a4)))) else 0))))
def mX2_isMetOnTheWalk (a1 a2 a3 a4 : Int32) : Int32 := (mX2_isMetOnTheWalk_22 a3 a4 (fun x7_22 x5_22 x4_22 => 0) (tq 1 (mX2_length a2 a4)) 1 (a1 / 12) (a1 - a1 / 12 * 12))
theorem kX2_isMetOnTheWalk : yX2_isMetOnTheWalk.cls ≠ "java/lang/invoke/MethodHandle" ∧ yX2_isMetOnTheWalk.cls ≠ "java/lang/invoke/VarHandle" ∧ (parseMethodDescriptor yX2_isMetOnTheWalk.desc).map (fun d => d.parameters.length) = some 4 := by decide +kernel
set_option maxHeartbeats 4000000 in
set_option maxRecDepth 100000 in
theorem MX2_isMetOnTheWalk (l : Launch) (D : va_G) (q : Nat → ClassId)  (a1 a2 a3 a4 : Int32)  : roM l D (tyq q) yX2_isMetOnTheWalk wsX2_isMetOnTheWalk ({ frames := 1, cells := 0, slots := 0, locals := 22 } : Room) [.int a1, .int a2, .int a3, .int a4] [] (some (.int (mX2_isMetOnTheWalk a1 a2 a3 a4))) := by
  obtain ⟨R, hR⟩ : ∃ z, (mX2_isMetOnTheWalk a1 a2 a3 a4) = z := ⟨_, rfl⟩
  rw [hR]
  unfold mX2_isMetOnTheWalk at hR
  refine roM.of (cc := cX2_isMetOnTheWalk) (maxL := 8) (ret := (some .boolean)) (by decide) rfl (Nat.le_of_ble_eq_true rfl) ?_
  intro p e s m below meth c ls hx hb hr hk hml hown hts hP hD hG hl
  have hl : lv_has ls 8 [(0, .int a1), (1, .int a2), (2, .int a3), (3, .int a4)] := hl
  refine lv_iload_n hx hb dX2_isMetOnTheWalk_0 rfl (lv_at hl 0 rfl) ?_
  refine lv_bipush (v := 12) hx hb dX2_isMetOnTheWalk_1 (by decide) ?_
  refine lv_irem hx hb dX2_isMetOnTheWalk_3 (by decide) ?_
  refine lv_istore (lv' := [(4, .int (a1 - a1 / 12 * 12)), (0, .int a1), (1, .int a2), (2, .int a3), (3, .int a4)]) hx hb dX2_isMetOnTheWalk_4 hl (by decide) rfl (fun ls hl => ?_)
  refine lv_iload_n hx hb dX2_isMetOnTheWalk_6 rfl (lv_at hl 1 rfl) ?_
  refine lv_bipush (v := 12) hx hb dX2_isMetOnTheWalk_7 (by decide) ?_
  refine lv_idiv hx hb dX2_isMetOnTheWalk_9 (by decide) ?_
  refine lv_istore (lv' := [(5, .int (a1 / 12)), (4, .int (a1 - a1 / 12 * 12)), (0, .int a1), (1, .int a2), (2, .int a3), (3, .int a4)]) hx hb dX2_isMetOnTheWalk_10 hl (by decide) rfl (fun ls hl => ?_)
  refine lv_iload_n hx hb dX2_isMetOnTheWalk_12 rfl (lv_at hl 3 rfl) ?_
  refine lv_iload_n hx hb dX2_isMetOnTheWalk_13 rfl (lv_at hl 5 rfl) ?_
  refine ro_S (v := .int (mX2_length a2 a4)) (rest := []) (As := [.int a2, .int a4]) hx hb hml hown hts hl (MX2_length l D q a2 a4) gX2_isMetOnTheWalk_X2_length rfl kX2_length ⟨Nat.le_of_ble_eq_true rfl, Nat.le_of_ble_eq_true rfl⟩ rfl rfl (hP.sub (ws' := []) [] rfl) (dT (hD.sub (ws' := []) [] (by decide) rfl)) hG rfl rfl (Nat.le_of_ble_eq_true rfl) dX2_isMetOnTheWalk_14 ⟨Nat.zero_le _, Nat.zero_le _⟩ ?_
  refine lv_istore (lv' := [(6, .int (mX2_length a2 a4)), (5, .int (a1 / 12)), (4, .int (a1 - a1 / 12 * 12)), (0, .int a1), (1, .int a2), (2, .int a3), (3, .int a4)]) hx hb dX2_isMetOnTheWalk_17 hl (by decide) rfl (fun ls hl => ?_)
  refine lv_iconst (v := 1) hx hb dX2_isMetOnTheWalk_19 (by decide) ?_
  refine lv_istore (lv' := [(7, .int 1), (6, .int (mX2_length a2 a4)), (5, .int (a1 / 12)), (4, .int (a1 - a1 / 12 * 12)), (0, .int a1), (1, .int a2), (2, .int a3), (3, .int a4)]) hx hb dX2_isMetOnTheWalk_20 hl (by decide) rfl (fun ls hl => ?_)
  have key_22 : ∀ (n_22 : Nat) (x7_22 : Int32) (x5_22 : Int32) (x4_22 : Int32), tq x7_22 (mX2_length a2 a4) = n_22 → mX2_isMetOnTheWalk_22 a3 a4 (fun x7_22 x5_22 x4_22 => 0) n_22 x7_22 x5_22 x4_22 = R → ∀ ls : Array Slot, lv_has ls 8 [(7, .int x7_22), (6, .int (mX2_length a2 a4)), (5, .int x5_22), (4, .int x4_22), (0, .int a1), (1, .int a2), (2, .int a3), (3, .int a4)] → W p l e ({ frames := 1, cells := 0, slots := 0, locals := 22 } : Room) s m ([.int a1, .int a2, .int a3, .int a4] : List Value).toArray below meth c s.heap [] 0 0 (MQ below (roQ (some (.int R))) ([.int a1, .int a2, .int a3, .int a4] : List Value).toArray s 0 0 (fun _ => False)) (F0 m 22 ls []) := by
    intro n_22
    induction n_22 with
    | zero =>
      intro x7_22 x5_22 x4_22 hn_22 hR ls hl
      rw [mX2_isMetOnTheWalk_22] at hR
      refine lv_iload hx hb dX2_isMetOnTheWalk_22 (lv_at hl 0 rfl) ?_
      refine lv_iload hx hb dX2_isMetOnTheWalk_24 (lv_at hl 1 rfl) ?_
      refine lv_icmp_gt (tgt := 93) hx hb dX2_isMetOnTheWalk_26 (by decide) (fun c_1 => ?_) (fun c_1 => (tq0 hn_22 c_1).elim)
      refine lv_iconst (v := 0) hx hb dX2_isMetOnTheWalk_93 (by decide) ?_
      exact ro_zret hx hb hr hk (Or.inl rfl) hR dX2_isMetOnTheWalk_94
    | succ n_22 ih_22 =>
      intro x7_22 x5_22 x4_22 hn_22 hR ls hl
      rw [mX2_isMetOnTheWalk_22] at hR
      refine lv_iload hx hb dX2_isMetOnTheWalk_22 (lv_at hl 0 rfl) ?_
      refine lv_iload hx hb dX2_isMetOnTheWalk_24 (lv_at hl 1 rfl) ?_
      refine lv_icmp_gt (tgt := 93) hx hb dX2_isMetOnTheWalk_26 (by decide) (fun c_1 => (tqS hn_22 c_1).elim) (fun c_1 => ?_)
      refine lv_iload hx hb dX2_isMetOnTheWalk_29 (lv_at hl 3 rfl) ?_
      refine lv_iload_n hx hb dX2_isMetOnTheWalk_31 rfl (lv_at hl 7 rfl) ?_
      refine ro_S (v := .int (mX2_eastward a4)) (rest := [.int x4_22]) (As := [.int a4]) hx hb hml hown hts hl (MX2_eastward l D q a4) gX2_isMetOnTheWalk_X2_eastward rfl kX2_eastward ⟨Nat.le_of_ble_eq_true rfl, Nat.le_of_ble_eq_true rfl⟩ rfl rfl (hP.sub (ws' := []) [] rfl) (dT (hD.sub (ws' := []) [] (by decide) rfl)) hG rfl rfl (Nat.le_of_ble_eq_true rfl) dX2_isMetOnTheWalk_32 ⟨Nat.zero_le _, Nat.zero_le _⟩ ?_
      refine lv_iadd hx hb dX2_isMetOnTheWalk_35 ?_
      refine lv_istore (lv' := [(4, .int (x4_22 + (mX2_eastward a4))), (7, .int x7_22), (6, .int (mX2_length a2 a4)), (5, .int x5_22), (0, .int a1), (1, .int a2), (2, .int a3), (3, .int a4)]) hx hb dX2_isMetOnTheWalk_36 hl (by decide) rfl (fun ls hl => ?_)
      refine lv_iload hx hb dX2_isMetOnTheWalk_38 (lv_at hl 3 rfl) ?_
      refine lv_iload_n hx hb dX2_isMetOnTheWalk_40 rfl (lv_at hl 7 rfl) ?_
      refine ro_S (v := .int (mX2_southward a4)) (rest := [.int x5_22]) (As := [.int a4]) hx hb hml hown hts hl (MX2_southward l D q a4) gX2_isMetOnTheWalk_X2_southward rfl kX2_southward ⟨Nat.le_of_ble_eq_true rfl, Nat.le_of_ble_eq_true rfl⟩ rfl rfl (hP.sub (ws' := []) [] rfl) (dT (hD.sub (ws' := []) [] (by decide) rfl)) hG rfl rfl (Nat.le_of_ble_eq_true rfl) dX2_isMetOnTheWalk_41 ⟨Nat.zero_le _, Nat.zero_le _⟩ ?_
      refine lv_iadd hx hb dX2_isMetOnTheWalk_44 ?_
      refine lv_istore (lv' := [(5, .int (x5_22 + (mX2_southward a4))), (4, .int (x4_22 + (mX2_eastward a4))), (7, .int x7_22), (6, .int (mX2_length a2 a4)), (0, .int a1), (1, .int a2), (2, .int a3), (3, .int a4)]) hx hb dX2_isMetOnTheWalk_45 hl (by decide) rfl (fun ls hl => ?_)
      refine lv_iload hx hb dX2_isMetOnTheWalk_47 (lv_at hl 1 rfl) ?_
      refine lv_if_lt (tgt := 71) hx hb dX2_isMetOnTheWalk_49 (by decide) (fun c_2 => ?_) (fun c_2 => ?_)
      · rw [if_pos c_2] at hR
        refine lv_iconst (v := 0) hx hb dX2_isMetOnTheWalk_71 (by decide) ?_
        exact ro_zret hx hb hr hk (Or.inl rfl) hR dX2_isMetOnTheWalk_72
      · rw [if_neg c_2] at hR
        refine lv_iload hx hb dX2_isMetOnTheWalk_52 (lv_at hl 1 rfl) ?_
        refine lv_bipush (v := 12) hx hb dX2_isMetOnTheWalk_54 (by decide) ?_
        refine lv_icmp_ge (tgt := 71) hx hb dX2_isMetOnTheWalk_56 (by decide) (fun c_3 => ?_) (fun c_3 => ?_)
        · rw [if_pos c_3] at hR
          refine lv_iconst (v := 0) hx hb dX2_isMetOnTheWalk_71 (by decide) ?_
          exact ro_zret hx hb hr hk (Or.inl rfl) hR dX2_isMetOnTheWalk_72
        · rw [if_neg c_3] at hR
          refine lv_iload hx hb dX2_isMetOnTheWalk_59 (lv_at hl 0 rfl) ?_
          refine lv_if_lt (tgt := 71) hx hb dX2_isMetOnTheWalk_61 (by decide) (fun c_4 => ?_) (fun c_4 => ?_)
          · rw [if_pos c_4] at hR
            refine lv_iconst (v := 0) hx hb dX2_isMetOnTheWalk_71 (by decide) ?_
            exact ro_zret hx hb hr hk (Or.inl rfl) hR dX2_isMetOnTheWalk_72
          · rw [if_neg c_4] at hR
            refine lv_iload hx hb dX2_isMetOnTheWalk_64 (lv_at hl 0 rfl) ?_
            refine lv_bipush (v := 8) hx hb dX2_isMetOnTheWalk_66 (by decide) ?_
            refine lv_icmp_lt (tgt := 73) hx hb dX2_isMetOnTheWalk_68 (by decide) (fun c_5 => ?_) (fun c_5 => ?_)
            · rw [if_pos c_5] at hR
              refine lv_bipush (v := 12) hx hb dX2_isMetOnTheWalk_73 (by decide) ?_
              refine lv_iload hx hb dX2_isMetOnTheWalk_75 (lv_at hl 0 rfl) ?_
              refine lv_imul hx hb dX2_isMetOnTheWalk_77 ?_
              refine lv_iload hx hb dX2_isMetOnTheWalk_78 (lv_at hl 1 rfl) ?_
              refine lv_iadd hx hb dX2_isMetOnTheWalk_80 ?_
              refine lv_iload_n hx hb dX2_isMetOnTheWalk_81 rfl (lv_at hl 6 rfl) ?_
              refine lv_icmp_ne (tgt := 87) hx hb dX2_isMetOnTheWalk_82 (by decide) (fun c_6 => ?_) (fun c_6 => ?_)
              · rw [if_neg c_6] at hR
                refine lv_iinc (v := (x7_22 + 1)) (lv' := [(7, .int (x7_22 + 1)), (5, .int (x5_22 + (mX2_southward a4))), (4, .int (x4_22 + (mX2_eastward a4))), (6, .int (mX2_length a2 a4)), (0, .int a1), (1, .int a2), (2, .int a3), (3, .int a4)]) hx hb dX2_isMetOnTheWalk_87 hl (k := 2) rfl rfl (by decide) rfl (fun ls hl => ?_)
                refine lv_goto (tgt := 22) hx hb dX2_isMetOnTheWalk_90 (by decide) ?_
                exact ih_22 (x7_22 + 1) (x5_22 + (mX2_southward a4)) (x4_22 + (mX2_eastward a4)) (tqN hn_22 (len_b _ _)) hR ls (lv_sub hl [0, 3, 1, 2, 4, 5, 6, 7] rfl)
              · rw [if_pos c_6] at hR
                refine lv_iconst (v := 1) hx hb dX2_isMetOnTheWalk_85 (by decide) ?_
                exact ro_zret hx hb hr hk (Or.inr rfl) hR dX2_isMetOnTheWalk_86
            · rw [if_neg c_5] at hR
              refine lv_iconst (v := 0) hx hb dX2_isMetOnTheWalk_71 (by decide) ?_
              exact ro_zret hx hb hr hk (Or.inl rfl) hR dX2_isMetOnTheWalk_72
  exact key_22 _ 1 (a1 / 12) (a1 - a1 / 12 * 12) rfl hR ls hl

def mX2_liesThere (a1 a2 a3 a4 : Int32) : Int32 := (if ((a3 - a3 / 12 * 12) - (a1 - a1 / 12 * 12)) = ((mX5_distance a1 a3) * (mX2_eastward a4)) then (if ((a3 / 12) - (a1 / 12)) = ((mX5_distance a1 a3) * (mX2_southward a4)) then (if (mX5_distance a1 a3) < 1 then 0 else (if (mX2_length a2 a4) < (mX5_distance a1 a3) then 0 else 1)) else 0) else 0)
theorem kX2_liesThere : yX2_liesThere.cls ≠ "java/lang/invoke/MethodHandle" ∧ yX2_liesThere.cls ≠ "java/lang/invoke/VarHandle" ∧ (parseMethodDescriptor yX2_liesThere.desc).map (fun d => d.parameters.length) = some 4 := by decide +kernel
theorem jnX2_liesThere_X5_distance : Cond.initialized yX5_distance.cls ∈ wsX2_liesThere := (List.mem_of_getElem? (i := 2) rfl)
theorem jsX2_liesThere_X5_distance : Cond.static yX5_distance ∈ wsX2_liesThere := (List.mem_of_getElem? (i := 1) rfl)
set_option maxHeartbeats 4000000 in
set_option maxRecDepth 100000 in
theorem MX2_liesThere (l : Launch) (D : va_G) (q : Nat → ClassId)  (a1 a2 a3 a4 : Int32)  : roM l D (tyq q) yX2_liesThere wsX2_liesThere ({ frames := 2, cells := 0, slots := 0, locals := 44 } : Room) [.int a1, .int a2, .int a3, .int a4] [] (some (.int (mX2_liesThere a1 a2 a3 a4))) := by
  obtain ⟨R, hR⟩ : ∃ z, (mX2_liesThere a1 a2 a3 a4) = z := ⟨_, rfl⟩
  rw [hR]
  unfold mX2_liesThere at hR
  refine roM.of (cc := cX2_liesThere) (maxL := 8) (ret := (some .boolean)) (by decide) rfl (Nat.le_of_ble_eq_true rfl) ?_
  intro p e s m below meth c ls hx hb hr hk hml hown hts hP hD hG hl
  have hl : lv_has ls 8 [(0, .int a1), (1, .int a2), (2, .int a3), (3, .int a4)] := hl
  refine lv_iload_n hx hb dX2_liesThere_0 rfl (lv_at hl 0 rfl) ?_
  refine lv_iload_n hx hb dX2_liesThere_1 rfl (lv_at hl 2 rfl) ?_
  refine ro_SN (v := .int (mX5_distance a1 a3)) (rest := []) (As := [.int a1, .int a3]) hx hb hml hown hts hl (MX5_distance l D q a1 a3) ggX2_liesThere_X5_distance rfl kX5_distance ⟨Nat.le_of_ble_eq_true rfl, Nat.le_of_ble_eq_true rfl⟩ rfl rfl (nwm_4 hG) jnX2_liesThere_X5_distance jsX2_liesThere_X5_distance (hP.sub (ws' := []) [] rfl) (dT (hD.sub (ws' := []) [] (by decide) rfl)) hG rfl rfl (Nat.le_of_ble_eq_true rfl) dX2_liesThere_2 ⟨Nat.zero_le _, Nat.zero_le _⟩ ?_
  refine lv_istore (lv' := [(4, .int (mX5_distance a1 a3)), (0, .int a1), (1, .int a2), (2, .int a3), (3, .int a4)]) hx hb dX2_liesThere_5 hl (by decide) rfl (fun ls hl => ?_)
  refine lv_iload_n hx hb dX2_liesThere_7 rfl (lv_at hl 3 rfl) ?_
  refine lv_bipush (v := 12) hx hb dX2_liesThere_8 (by decide) ?_
  refine lv_irem hx hb dX2_liesThere_10 (by decide) ?_
  refine lv_iload_n hx hb dX2_liesThere_11 rfl (lv_at hl 1 rfl) ?_
  refine lv_bipush (v := 12) hx hb dX2_liesThere_12 (by decide) ?_
  refine lv_irem hx hb dX2_liesThere_14 (by decide) ?_
  refine lv_isub hx hb dX2_liesThere_15 ?_
  refine lv_istore (lv' := [(5, .int ((a3 - a3 / 12 * 12) - (a1 - a1 / 12 * 12))), (4, .int (mX5_distance a1 a3)), (0, .int a1), (1, .int a2), (2, .int a3), (3, .int a4)]) hx hb dX2_liesThere_16 hl (by decide) rfl (fun ls hl => ?_)
  refine lv_iload_n hx hb dX2_liesThere_18 rfl (lv_at hl 4 rfl) ?_
  refine lv_bipush (v := 12) hx hb dX2_liesThere_19 (by decide) ?_
  refine lv_idiv hx hb dX2_liesThere_21 (by decide) ?_
  refine lv_iload_n hx hb dX2_liesThere_22 rfl (lv_at hl 2 rfl) ?_
  refine lv_bipush (v := 12) hx hb dX2_liesThere_23 (by decide) ?_
  refine lv_idiv hx hb dX2_liesThere_25 (by decide) ?_
  refine lv_isub hx hb dX2_liesThere_26 ?_
  refine lv_istore (lv' := [(6, .int ((a3 / 12) - (a1 / 12))), (5, .int ((a3 - a3 / 12 * 12) - (a1 - a1 / 12 * 12))), (4, .int (mX5_distance a1 a3)), (0, .int a1), (1, .int a2), (2, .int a3), (3, .int a4)]) hx hb dX2_liesThere_27 hl (by decide) rfl (fun ls hl => ?_)
  refine lv_iload hx hb dX2_liesThere_29 (lv_at hl 1 rfl) ?_
  refine lv_iload hx hb dX2_liesThere_31 (lv_at hl 2 rfl) ?_
  refine lv_iload_n hx hb dX2_liesThere_33 rfl (lv_at hl 6 rfl) ?_
  refine ro_S (v := .int (mX2_eastward a4)) (rest := [.int (mX5_distance a1 a3), .int ((a3 - a3 / 12 * 12) - (a1 - a1 / 12 * 12))]) (As := [.int a4]) hx hb hml hown hts hl (MX2_eastward l D q a4) gX2_liesThere_X2_eastward rfl kX2_eastward ⟨Nat.le_of_ble_eq_true rfl, Nat.le_of_ble_eq_true rfl⟩ rfl rfl (hP.sub (ws' := []) [] rfl) (dT (hD.sub (ws' := []) [] (by decide) rfl)) hG rfl rfl (Nat.le_of_ble_eq_true rfl) dX2_liesThere_34 ⟨Nat.zero_le _, Nat.zero_le _⟩ ?_
  refine lv_imul hx hb dX2_liesThere_37 ?_
  refine lv_icmp_ne (tgt := 57) hx hb dX2_liesThere_38 (by decide) (fun c_1 => ?_) (fun c_1 => ?_)
  · rw [if_neg c_1] at hR
    refine lv_iconst (v := 0) hx hb dX2_liesThere_57 (by decide) ?_
    refine lv_istore (lv' := [(7, .int 0), (6, .int ((a3 / 12) - (a1 / 12))), (5, .int ((a3 - a3 / 12 * 12) - (a1 - a1 / 12 * 12))), (4, .int (mX5_distance a1 a3)), (0, .int a1), (1, .int a2), (2, .int a3), (3, .int a4)]) hx hb dX2_liesThere_58 hl (by decide) rfl (fun ls hl => ?_)
    refine lv_iload hx hb dX2_liesThere_60 (lv_at hl 0 rfl) ?_
    refine lv_if_eq (tgt := 85) hx hb dX2_liesThere_62 (by decide) (fun _ => ?_) (fun c_2 => absurd (by decide) c_2)
    refine lv_iconst (v := 0) hx hb dX2_liesThere_85 (by decide) ?_
    exact ro_zret hx hb hr hk (Or.inl rfl) hR dX2_liesThere_86
  · rw [if_pos c_1] at hR
    refine lv_iload hx hb dX2_liesThere_41 (lv_at hl 0 rfl) ?_
    refine lv_iload hx hb dX2_liesThere_43 (lv_at hl 2 rfl) ?_
    refine lv_iload_n hx hb dX2_liesThere_45 rfl (lv_at hl 6 rfl) ?_
    refine ro_S (v := .int (mX2_southward a4)) (rest := [.int (mX5_distance a1 a3), .int ((a3 / 12) - (a1 / 12))]) (As := [.int a4]) hx hb hml hown hts hl (MX2_southward l D q a4) gX2_liesThere_X2_southward rfl kX2_southward ⟨Nat.le_of_ble_eq_true rfl, Nat.le_of_ble_eq_true rfl⟩ rfl rfl (hP.sub (ws' := []) [] rfl) (dT (hD.sub (ws' := []) [] (by decide) rfl)) hG rfl rfl (Nat.le_of_ble_eq_true rfl) dX2_liesThere_46 ⟨Nat.zero_le _, Nat.zero_le _⟩ ?_
    refine lv_imul hx hb dX2_liesThere_49 ?_
    refine lv_icmp_ne (tgt := 57) hx hb dX2_liesThere_50 (by decide) (fun c_3 => ?_) (fun c_3 => ?_)
    · rw [if_neg c_3] at hR
      refine lv_iconst (v := 0) hx hb dX2_liesThere_57 (by decide) ?_
      refine lv_istore (lv' := [(7, .int 0), (6, .int ((a3 / 12) - (a1 / 12))), (5, .int ((a3 - a3 / 12 * 12) - (a1 - a1 / 12 * 12))), (4, .int (mX5_distance a1 a3)), (0, .int a1), (1, .int a2), (2, .int a3), (3, .int a4)]) hx hb dX2_liesThere_58 hl (by decide) rfl (fun ls hl => ?_)
      refine lv_iload hx hb dX2_liesThere_60 (lv_at hl 0 rfl) ?_
      refine lv_if_eq (tgt := 85) hx hb dX2_liesThere_62 (by decide) (fun _ => ?_) (fun c_4 => absurd (by decide) c_4)
      refine lv_iconst (v := 0) hx hb dX2_liesThere_85 (by decide) ?_
      exact ro_zret hx hb hr hk (Or.inl rfl) hR dX2_liesThere_86
    · rw [if_pos c_3] at hR
      refine lv_iconst (v := 1) hx hb dX2_liesThere_53 (by decide) ?_
      refine lv_goto (tgt := 58) hx hb dX2_liesThere_54 (by decide) ?_
      refine lv_istore (lv' := [(7, .int 1), (6, .int ((a3 / 12) - (a1 / 12))), (5, .int ((a3 - a3 / 12 * 12) - (a1 - a1 / 12 * 12))), (4, .int (mX5_distance a1 a3)), (0, .int a1), (1, .int a2), (2, .int a3), (3, .int a4)]) hx hb dX2_liesThere_58 hl (by decide) rfl (fun ls hl => ?_)
      refine lv_iload hx hb dX2_liesThere_60 (lv_at hl 0 rfl) ?_
      refine lv_if_eq (tgt := 85) hx hb dX2_liesThere_62 (by decide) (fun c_5 => absurd c_5 (by decide)) (fun _ => ?_)
      refine lv_iload hx hb dX2_liesThere_65 (lv_at hl 3 rfl) ?_
      refine lv_iconst (v := 1) hx hb dX2_liesThere_67 (by decide) ?_
      refine lv_icmp_lt (tgt := 85) hx hb dX2_liesThere_68 (by decide) (fun c_6 => ?_) (fun c_6 => ?_)
      · rw [if_pos c_6] at hR
        refine lv_iconst (v := 0) hx hb dX2_liesThere_85 (by decide) ?_
        exact ro_zret hx hb hr hk (Or.inl rfl) hR dX2_liesThere_86
      · rw [if_neg c_6] at hR
        refine lv_iload hx hb dX2_liesThere_71 (lv_at hl 3 rfl) ?_
        refine lv_iload_n hx hb dX2_liesThere_73 rfl (lv_at hl 5 rfl) ?_
        refine lv_iload_n hx hb dX2_liesThere_74 rfl (lv_at hl 7 rfl) ?_
        refine ro_S (v := .int (mX2_length a2 a4)) (rest := [.int (mX5_distance a1 a3)]) (As := [.int a2, .int a4]) hx hb hml hown hts hl (MX2_length l D q a2 a4) gX2_liesThere_X2_length rfl kX2_length ⟨Nat.le_of_ble_eq_true rfl, Nat.le_of_ble_eq_true rfl⟩ rfl rfl (hP.sub (ws' := []) [] rfl) (dT (hD.sub (ws' := []) [] (by decide) rfl)) hG rfl rfl (Nat.le_of_ble_eq_true rfl) dX2_liesThere_75 ⟨Nat.zero_le _, Nat.zero_le _⟩ ?_
        refine lv_icmp_gt (tgt := 85) hx hb dX2_liesThere_78 (by decide) (fun c_7 => ?_) (fun c_7 => ?_)
        · rw [if_pos c_7] at hR
          refine lv_iconst (v := 0) hx hb dX2_liesThere_85 (by decide) ?_
          exact ro_zret hx hb hr hk (Or.inl rfl) hR dX2_liesThere_86
        · rw [if_neg c_7] at hR
          refine lv_iconst (v := 1) hx hb dX2_liesThere_81 (by decide) ?_
          refine lv_goto (tgt := 86) hx hb dX2_liesThere_82 (by decide) ?_
          exact ro_zret hx hb hr hk (Or.inr rfl) hR dX2_liesThere_86
