/-! P29, LAW 2: the end of the law. -/
set_option maxHeartbeats 4000000 in
set_option maxRecDepth 100000 in
theorem law_end {p : Program} {e : Env} {s : State} {m : MethodId} {below : List Frame} {meth : Method} {c : Code} (l : Launch) {b L : Nat} {xs : Nat → Int32} {D : va_G} {q z : Nat → Nat} {ad : Nat → Nat → Nat} (hL : L ≤ 260) (C0 : lw_At p s m meth c b L xs) (hG : gxO D (tyq q) s) (hZ : stKA z (fun q : Nat => s.heap.size ≤ q) s s.heap) {i : Nat} : ∀ (M N : Nat) (xx : Nat → Nat → Nat → Int32) (H : Heap) (locs : List Loc), LI i M N xx → va_P D vwCl (wXW q ad xx) H → va_D (fun q : Nat => s.heap.size ≤ q) (wXW q ad xx) → va_S (fun q : Nat => s.heap.size ≤ q) s.heap H locs → ∀ ls : Array Slot, lv_has ls 7 [(0, .ref b), (1, .ref (ad 9 0)), (2, .ref (ad 10 0)), (3, .int (nI i))] → W p l e room_1 s m #[Value.ref b] below meth c H locs 76 1198 (lw_Z below #[Value.ref b] s) (F0 m 261 ls []) := by
  obtain ⟨hx, hb, hr, hml, hown, hts, hX, hbl, hlocks, hgv⟩ := C0
  have ht : ∀ w ∈ wsL_law, w.before #[Value.ref b] s = true := fun w hw => hts w (wsL_law_in w hw)
  intro M N xx H locs L0 hP hD hS ls hl
  refine lv_aload_n hx hb dL_law_261 rfl (lv_at hl 1 rfl) ?_
  refine lv_iconst (v := 1) hx hb dL_law_262 (by decide) ?_
  refine lv_bipush (v := 96) hx hb dL_law_263 (by decide) ?_
  have hMT1 := MX5_mill l D q ad xx 1 96 (LI.rg L0)
  obtain ⟨T1, hT1⟩ : ∃ z, z = mX5_mill xx 1 96 := ⟨_, rfl⟩
  rw [← hT1] at hMT1
  refine mu_V (D := D) (ws := wXW q ad xx) (ws' := wXW q ad (setV T1.2 10 (xx 10))) (rest := []) (As := [.int 1, .int 96]) hx hb hml hown ht hl hMT1 gL_law_X5_mill rfl kX5_mill ⟨Nat.le_of_ble_eq_true rfl, Nat.le_of_ble_eq_true rfl⟩ rfl rfl hP hD hS hG [0, 1, 2, 3, 4, 5, 6, 7, 8, 9, 10, 11, 12, 13, 14, 15, 16, 17, 18, 19, 20, 21, 22, 23, 24, 25, 26, 27, 28, 29, 30, 31, 32, 33, 34, 35, 36, 37, 38, 39, 40, 41, 42, 43, 44, 45, 46, 47, 48, 49, 50, 51, 52, 53, 54, 55, 56, 57, 58, 59, 60, 61, 62, 63, 64, 65, 66, 67, 68, 69, 70, 71, 72, 73, 74] rfl rfl (by decide) [76, 77, 78, 79, 80, 81, 82, 83, 84, 85, 86, 87, 88, 89, 90, 91, 92, 93, 94, 95, 96, 97, 98, 99, 100, 101, 102, 103, 104, 105, 106, 107, 108, 109, 110, 111, 112, 113, 114, 115, 116, 117, 118, 119, 120, 121, 122, 123, 124, 125, 126, 127, 128, 129, 130, 131, 132, 133, 134, 135, 136, 137, 138, 139, 140, 141, 142, 143, 144, 145, 146, 147, 148, 149, 150, 75] rfl (by decide) rfl (ci := 3) rfl rfl rfl rfl (Nat.le_of_ble_eq_true rfl) dL_law_265 ⟨Nat.le_of_ble_eq_true rfl, Nat.le_of_ble_eq_true rfl⟩ (fun H locs hP hD hS => ?_)
  obtain ⟨rL1, L1⟩ := f_mill1 L0
  rw [← hT1] at rL1 L1
  refine lv_iconst (v := (-1)) hx hb dL_law_268 (by decide) ?_
  refine lv_icmp_ne (tgt := 355) hx hb dL_law_269 (by decide) (fun c0 => absurd rL1 c0) (fun _ => ?_)
  obtain ⟨xx1, exx1⟩ : ∃ z, z = setV T1.2 10 (xx 10) := ⟨_, rfl⟩
  rw [← exx1] at hP hD L1
  refine lv_aload_n hx hb dL_law_272 rfl (lv_at hl 1 rfl) ?_
  refine lv_bipush (v := 6) hx hb dL_law_273 (by decide) ?_
  refine lv_bipush (v := 95) hx hb dL_law_275 (by decide) ?_
  have hMT2 := MX5_mill l D q ad xx1 6 95 (LI.rg L1)
  obtain ⟨T2, hT2⟩ : ∃ z, z = mX5_mill xx1 6 95 := ⟨_, rfl⟩
  rw [← hT2] at hMT2
  refine mu_V (D := D) (ws := wXW q ad xx1) (ws' := wXW q ad (setV T2.2 10 (xx1 10))) (rest := []) (As := [.int 6, .int 95]) hx hb hml hown ht hl hMT2 gL_law_X5_mill rfl kX5_mill ⟨Nat.le_of_ble_eq_true rfl, Nat.le_of_ble_eq_true rfl⟩ rfl rfl hP hD hS hG [0, 1, 2, 3, 4, 5, 6, 7, 8, 9, 10, 11, 12, 13, 14, 15, 16, 17, 18, 19, 20, 21, 22, 23, 24, 25, 26, 27, 28, 29, 30, 31, 32, 33, 34, 35, 36, 37, 38, 39, 40, 41, 42, 43, 44, 45, 46, 47, 48, 49, 50, 51, 52, 53, 54, 55, 56, 57, 58, 59, 60, 61, 62, 63, 64, 65, 66, 67, 68, 69, 70, 71, 72, 73, 74] rfl rfl (by decide) [76, 77, 78, 79, 80, 81, 82, 83, 84, 85, 86, 87, 88, 89, 90, 91, 92, 93, 94, 95, 96, 97, 98, 99, 100, 101, 102, 103, 104, 105, 106, 107, 108, 109, 110, 111, 112, 113, 114, 115, 116, 117, 118, 119, 120, 121, 122, 123, 124, 125, 126, 127, 128, 129, 130, 131, 132, 133, 134, 135, 136, 137, 138, 139, 140, 141, 142, 143, 144, 145, 146, 147, 148, 149, 150, 75] rfl (by decide) rfl (ci := 3) rfl rfl rfl rfl (Nat.le_of_ble_eq_true rfl) dL_law_277 ⟨Nat.le_of_ble_eq_true rfl, Nat.le_of_ble_eq_true rfl⟩ (fun H locs hP hD hS => ?_)
  obtain ⟨rL2, L2⟩ := f_mill2 L1
  rw [← hT2] at rL2 L2
  refine lv_bipush (v := (-2)) hx hb dL_law_280 (by decide) ?_
  refine lv_icmp_ne (tgt := 355) hx hb dL_law_282 (by decide) (fun c0 => absurd rL2 c0) (fun _ => ?_)
  obtain ⟨xx2, exx2⟩ : ∃ z, z = setV T2.2 10 (xx1 10) := ⟨_, rfl⟩
  rw [← exx2] at hP hD L2
  refine lv_aload_n hx hb dL_law_285 rfl (lv_at hl 1 rfl) ?_
  refine lv_iconst (v := 3) hx hb dL_law_286 (by decide) ?_
  refine lv_iconst (v := 2) hx hb dL_law_287 (by decide) ?_
  refine lv_iconst (v := 1) hx hb dL_law_288 (by decide) ?_
  have hMT3 := MX5_wind l D q ad xx2 3 2 1 (LI.rg L2)
  obtain ⟨T3, hT3⟩ : ∃ z, z = mX5_wind xx2 3 2 1 := ⟨_, rfl⟩
  rw [← hT3] at hMT3
  refine mu_V (D := D) (ws := wXW q ad xx2) (ws' := wXW q ad (setV T3.2 10 (xx2 10))) (rest := []) (As := [.int 3, .int 2, .int 1]) hx hb hml hown ht hl hMT3 gL_law_X5_wind rfl kX5_wind ⟨Nat.le_of_ble_eq_true rfl, Nat.le_of_ble_eq_true rfl⟩ rfl rfl hP hD hS hG [0, 1, 2, 3, 4, 5, 6, 7, 8, 9, 10, 11, 12, 13, 14, 15, 16, 17, 18, 19, 20, 21, 22, 23, 24, 25, 26, 27, 28, 29, 30, 31, 32, 33, 34, 35, 36, 37, 38, 39, 40, 41, 42, 43, 44, 45, 46, 47, 48, 49, 50, 51, 52, 53, 54, 55, 56, 57, 58, 59, 60, 61, 62, 63, 64, 65, 66, 67, 68, 69, 70, 71, 72, 73, 74] rfl rfl (by decide) [76, 77, 78, 79, 80, 81, 82, 83, 84, 85, 86, 87, 88, 89, 90, 91, 92, 93, 94, 95, 96, 97, 98, 99, 100, 101, 102, 103, 104, 105, 106, 107, 108, 109, 110, 111, 112, 113, 114, 115, 116, 117, 118, 119, 120, 121, 122, 123, 124, 125, 126, 127, 128, 129, 130, 131, 132, 133, 134, 135, 136, 137, 138, 139, 140, 141, 142, 143, 144, 145, 146, 147, 148, 149, 150, 75] rfl (by decide) rfl (ci := 3) rfl rfl rfl rfl (Nat.le_of_ble_eq_true rfl) dL_law_289 ⟨Nat.le_of_ble_eq_true rfl, Nat.le_of_ble_eq_true rfl⟩ (fun H locs hP hD hS => ?_)
  obtain ⟨rL3, L3⟩ := f_wind1 L2
  rw [← hT3] at rL3 L3
  refine lv_iconst (v := (-1)) hx hb dL_law_292 (by decide) ?_
  refine lv_icmp_ne (tgt := 355) hx hb dL_law_293 (by decide) (fun c0 => absurd rL3 c0) (fun _ => ?_)
  obtain ⟨xx3, exx3⟩ : ∃ z, z = setV T3.2 10 (xx2 10) := ⟨_, rfl⟩
  rw [← exx3] at hP hD L3
  refine lv_aload_n hx hb dL_law_296 rfl (lv_at hl 1 rfl) ?_
  refine lv_iconst (v := 0) hx hb dL_law_297 (by decide) ?_
  refine lv_iconst (v := 0) hx hb dL_law_298 (by decide) ?_
  refine lv_bipush (v := 10) hx hb dL_law_299 (by decide) ?_
  have hMT4 := MX5_wind l D q ad xx3 0 0 10 (LI.rg L3)
  obtain ⟨T4, hT4⟩ : ∃ z, z = mX5_wind xx3 0 0 10 := ⟨_, rfl⟩
  rw [← hT4] at hMT4
  refine mu_V (D := D) (ws := wXW q ad xx3) (ws' := wXW q ad (setV T4.2 10 (xx3 10))) (rest := []) (As := [.int 0, .int 0, .int 10]) hx hb hml hown ht hl hMT4 gL_law_X5_wind rfl kX5_wind ⟨Nat.le_of_ble_eq_true rfl, Nat.le_of_ble_eq_true rfl⟩ rfl rfl hP hD hS hG [0, 1, 2, 3, 4, 5, 6, 7, 8, 9, 10, 11, 12, 13, 14, 15, 16, 17, 18, 19, 20, 21, 22, 23, 24, 25, 26, 27, 28, 29, 30, 31, 32, 33, 34, 35, 36, 37, 38, 39, 40, 41, 42, 43, 44, 45, 46, 47, 48, 49, 50, 51, 52, 53, 54, 55, 56, 57, 58, 59, 60, 61, 62, 63, 64, 65, 66, 67, 68, 69, 70, 71, 72, 73, 74] rfl rfl (by decide) [76, 77, 78, 79, 80, 81, 82, 83, 84, 85, 86, 87, 88, 89, 90, 91, 92, 93, 94, 95, 96, 97, 98, 99, 100, 101, 102, 103, 104, 105, 106, 107, 108, 109, 110, 111, 112, 113, 114, 115, 116, 117, 118, 119, 120, 121, 122, 123, 124, 125, 126, 127, 128, 129, 130, 131, 132, 133, 134, 135, 136, 137, 138, 139, 140, 141, 142, 143, 144, 145, 146, 147, 148, 149, 150, 75] rfl (by decide) rfl (ci := 3) rfl rfl rfl rfl (Nat.le_of_ble_eq_true rfl) dL_law_301 ⟨Nat.le_of_ble_eq_true rfl, Nat.le_of_ble_eq_true rfl⟩ (fun H locs hP hD hS => ?_)
  obtain ⟨rL4, L4⟩ := f_wind2 L3
  rw [← hT4] at rL4 L4
  refine lv_bipush (v := (-2)) hx hb dL_law_304 (by decide) ?_
  refine lv_icmp_ne (tgt := 355) hx hb dL_law_306 (by decide) (fun c0 => absurd rL4 c0) (fun _ => ?_)
  obtain ⟨xx4, exx4⟩ : ∃ z, z = setV T4.2 10 (xx3 10) := ⟨_, rfl⟩
  rw [← exx4] at hP hD L4
  refine lv_aload_n hx hb dL_law_309 rfl (lv_at hl 1 rfl) ?_
  refine lv_iconst (v := 2) hx hb dL_law_310 (by decide) ?_
  refine lv_iconst (v := 0) hx hb dL_law_311 (by decide) ?_
  have hMT9 := MX5_set l D q ad xx4 2 0 z (LI.rg L4)
  obtain ⟨T9, hT9⟩ : ∃ z, z = mX5_set xx4 2 0 := ⟨_, rfl⟩
  rw [← hT9] at hMT9
  refine mu_VK (D := D) (ws := wXW q ad xx4) (ws' := wXW q ad (setV T9.2 10 (xx4 10))) (rest := []) (As := [.int 2, .int 0]) hx hb hml hown ht hl hMT9 gL_law_X5_set rfl kX5_set ⟨Nat.le_of_ble_eq_true rfl, Nat.le_of_ble_eq_true rfl⟩ rfl rfl hP hD hS hG (hZ.of hS) [0, 1, 2, 3, 4, 5, 6, 7, 8, 9, 10, 11, 12, 13, 14, 15, 16, 17, 18, 19, 20, 21, 22, 23, 24, 25, 26, 27, 28, 29, 30, 31, 32, 33, 34, 35, 36, 37, 38, 39, 40, 41, 42, 43, 44, 45, 46, 47, 48, 49, 50, 51, 52, 53, 54, 55, 56, 57, 58, 59, 60, 61, 62, 63, 64, 65, 66, 67, 68, 69, 70, 71, 72, 73, 74] rfl rfl (by decide) [76, 77, 78, 79, 80, 81, 82, 83, 84, 85, 86, 87, 88, 89, 90, 91, 92, 93, 94, 95, 96, 97, 98, 99, 100, 101, 102, 103, 104, 105, 106, 107, 108, 109, 110, 111, 112, 113, 114, 115, 116, 117, 118, 119, 120, 121, 122, 123, 124, 125, 126, 127, 128, 129, 130, 131, 132, 133, 134, 135, 136, 137, 138, 139, 140, 141, 142, 143, 144, 145, 146, 147, 148, 149, 150, 75] rfl (by decide) rfl (ci := 3) rfl rfl rfl rfl (Nat.le_of_ble_eq_true rfl) dL_law_312 ⟨Nat.le_of_ble_eq_true rfl, Nat.le_of_ble_eq_true rfl⟩ (fun H locs hP hD hS => ?_)
  have rs := hT9.trans (f_set L4)
  refine lv_bipush (v := (-2)) hx hb dL_law_315 (by decide) ?_
  refine lv_icmp_ne (tgt := 355) hx hb dL_law_317 (by decide) (fun c0 => absurd (congrArg Prod.fst rs) c0) (fun _ => ?_)
  rw [show setV T9.2 10 (xx4 10) = xx4 by rw [rs]; exact setV_id _ _] at hP hD
  refine lv_aload_n hx hb dL_law_320 rfl (lv_at hl 1 rfl) ?_
  refine lv_iconst (v := 0) hx hb dL_law_321 (by decide) ?_
  refine lv_iconst (v := 2) hx hb dL_law_322 (by decide) ?_
  refine ro_V (v := .int (mX5_yardOf (xx4 0) 0 2)) (rest := []) (As := [.int 0, .int 2]) hx hb hml hown ht hl (MX5_yardOf l D q ad (xx4 9 0 0) (xx4 0) 0 2) gL_law_X5_yardOf rfl kX5_yardOf ⟨Nat.le_of_ble_eq_true rfl, Nat.le_of_ble_eq_true rfl⟩ rfl rfl (hP.sub (ws' := (wXN q ad (xx4 9 0 0) (xx4 0))) [0, 1, 2, 3, 4, 5, 6, 7, 8, 9, 10] rfl) (dT (hD.sub (ws' := (wXN q ad (xx4 9 0 0) (xx4 0))) [0, 1, 2, 3, 4, 5, 6, 7, 8, 9, 10] (by decide) rfl)) hG (ci := 3) rfl rfl rfl rfl (Nat.le_of_ble_eq_true rfl) dL_law_323 ⟨Nat.le_of_ble_eq_true rfl, Nat.le_of_ble_eq_true rfl⟩ ?_
  refine lv_bipush (v := (-2)) hx hb dL_law_326 (by decide) ?_
  refine lv_icmp_ne (tgt := 355) hx hb dL_law_328 (by decide) (fun c0 => absurd f_yard c0) (fun _ => ?_)
  refine lv_aload_n hx hb dL_law_331 rfl (lv_at hl 1 rfl) ?_
  refine lv_iconst (v := 4) hx hb dL_law_332 (by decide) ?_
  refine ro_V (v := .int (mX5_quietHours (xx4 0) 4)) (rest := []) (As := [.int 4]) hx hb hml hown ht hl (MX5_quietHours l D q ad (xx4 9 0 0) (xx4 0) 4) gL_law_X5_quietHours rfl kX5_quietHours ⟨Nat.le_of_ble_eq_true rfl, Nat.le_of_ble_eq_true rfl⟩ rfl rfl (hP.sub (ws' := (wXN q ad (xx4 9 0 0) (xx4 0))) [0, 1, 2, 3, 4, 5, 6, 7, 8, 9, 10] rfl) (dT (hD.sub (ws' := (wXN q ad (xx4 9 0 0) (xx4 0))) [0, 1, 2, 3, 4, 5, 6, 7, 8, 9, 10] (by decide) rfl)) hG (ci := 3) rfl rfl rfl rfl (Nat.le_of_ble_eq_true rfl) dL_law_333 ⟨Nat.le_of_ble_eq_true rfl, Nat.le_of_ble_eq_true rfl⟩ ?_
  refine lv_iconst (v := (-1)) hx hb dL_law_336 (by decide) ?_
  refine lv_icmp_ne (tgt := 355) hx hb dL_law_337 (by decide) (fun c0 => absurd (f_quiet L4) c0) (fun _ => ?_)
  refine lv_aload_n hx hb dL_law_340 rfl (lv_at hl 1 rfl) ?_
  refine lv_bipush (v := 16) hx hb dL_law_341 (by decide) ?_
  refine ro_V (v := .int (mX5_count xx4 16)) (rest := []) (As := [.int 16]) hx hb hml hown ht hl (MX5_count l D q ad xx4 16) gL_law_X5_count rfl kX5_count ⟨Nat.le_of_ble_eq_true rfl, Nat.le_of_ble_eq_true rfl⟩ rfl rfl (hP.sub (ws' := (wX q ad xx4)) [0, 1, 2, 3, 4, 5, 6, 7, 8, 9, 10, 11, 12, 13, 14, 15, 16, 17, 18, 19, 20, 21, 22, 23, 24, 25, 26, 27, 28, 29, 30, 31, 32, 33, 34, 35, 36, 37, 38, 39, 40, 41, 42, 43, 44, 45, 46, 47, 48, 49, 50, 51, 52, 53, 54, 55, 56, 57, 58, 59, 60, 61, 62, 63, 64, 65, 66, 67, 68, 69, 70, 71, 72, 73, 74] rfl) (dT (hD.sub (ws' := (wX q ad xx4)) [0, 1, 2, 3, 4, 5, 6, 7, 8, 9, 10, 11, 12, 13, 14, 15, 16, 17, 18, 19, 20, 21, 22, 23, 24, 25, 26, 27, 28, 29, 30, 31, 32, 33, 34, 35, 36, 37, 38, 39, 40, 41, 42, 43, 44, 45, 46, 47, 48, 49, 50, 51, 52, 53, 54, 55, 56, 57, 58, 59, 60, 61, 62, 63, 64, 65, 66, 67, 68, 69, 70, 71, 72, 73, 74] (by decide) rfl)) hG (ci := 3) rfl rfl rfl rfl (Nat.le_of_ble_eq_true rfl) dL_law_343 ⟨Nat.le_of_ble_eq_true rfl, Nat.le_of_ble_eq_true rfl⟩ ?_
  refine lv_bipush (v := (-2)) hx hb dL_law_346 (by decide) ?_
  refine lv_icmp_ne (tgt := 355) hx hb dL_law_348 (by decide) (fun c0 => absurd f_count c0) (fun _ => ?_)
  refine lv_iconst (v := 1) hx hb dL_law_351 (by decide) ?_
  refine lv_goto (tgt := 356) hx hb dL_law_352 (by decide) ?_
  refine va_forget (fun q hq => hS.2.2 q hq) ?_
  refine W.widen (k := 600000) (n := 7302250) (Nat.le_of_ble_eq_true rfl) (Nat.le_of_ble_eq_true rfl) ?_
  refine W.base ?_
  exact lw_ret (Drawn.sameBut.refl s.drawn lw_cs) hx hb hr hlocks dL_law_356
