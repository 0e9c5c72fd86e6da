/-! P29, LAW 3: an event, and the loop of events. -/
set_option maxHeartbeats 4000000 in
set_option maxRecDepth 100000 in
theorem law_loop {p : Program} {e : Env} {s : State} {m : MethodId} {below : List Frame} {meth : Method} {c : Code} (l : Launch) {b L : Nat} {xs : Nat → Int32} {D : va_G} {q z : Nat → Nat} {ad : Nat → Nat → Nat} (hL : L ≤ 260) (C0 : lw_At p s m meth c b L xs) (hG : gxO D (tyq q) s) (hZ : stKA z (fun q : Nat => s.heap.size ≤ q) s s.heap) : ∀ (n i : Nat), i + n = 120 → ∀ (M N : Nat) (xx : Nat → Nat → Nat → Int32) (H : Heap) (locs : List Loc), LI i M N xx → va_P D vwCl (wXW q ad xx) H → va_D (fun q : Nat => s.heap.size ≤ q) (wXW q ad xx) → va_S (fun q : Nat => s.heap.size ≤ q) s.heap H locs → ∀ ls : Array Slot, lv_has ls 7 [(0, .ref b), (1, .ref (ad 9 0)), (2, .ref (ad 10 0)), (3, .int (nI i))] → W p l e room_1 s m #[Value.ref b] below meth c H locs 76 1198 (lw_Z below #[Value.ref b] s) (F0 m 81 ls []) := by
  have FIN := fun i => law_end (e := e) (below := below) l (ad := ad) hL C0 hG hZ (i := i)
  obtain ⟨hx, hb, hr, hml, hown, hts, hX, hbl, hlocks, hgv⟩ := C0
  have ht : ∀ w ∈ wsL_law, w.before #[Value.ref b] s = true := fun w hw => hts w (wsL_law_in w hw)
  have hA : ∀ q : Nat, s.heap.size ≤ q → (fun q : Nat => s.heap.size ≤ q) q := fun _ h => h
  have hbA : ¬ (fun q : Nat => s.heap.size ≤ q) b := Nat.not_le.mpr hbl
  have k120 : (120 : Int32).toInt = 120 := rfl
  intro n
  induction n with
  | zero =>
    intro i h1 M N xx H locs L0 hP hD hS ls hl
    refine lv_iload_n hx hb dL_law_81 rfl (lv_at hl 3 rfl) ?_
    refine lv_bipush (v := 120) hx hb dL_law_82 (by decide) ?_
    refine lv_icmp_ge (tgt := 261) hx hb dL_law_84 (by decide) (fun c0 => ?_) (fun c0 => absurd (by rw [i_le, k120, nI_toInt (by omega)]; omega) c0)
    exact FIN i M N xx H locs L0 hP hD hS ls hl
  | succ n ih =>
    intro i h1 M N xx H locs L0 hP hD hS ls hl
    refine lv_iload_n hx hb dL_law_81 rfl (lv_at hl 3 rfl) ?_
    refine lv_bipush (v := 120) hx hb dL_law_82 (by decide) ?_
    refine lv_icmp_ge (tgt := 261) hx hb dL_law_84 (by decide) (fun c0 => ?_) (fun c0 => ?_)
    · exact FIN i M N xx H locs L0 hP hD hS ls hl
    have hXH : va_X b L xs s H := hX.kept (hS.2.1 b hbl hbA)
    have e2 : (2 * nI i) = nI (2 * i) := nI_mul 2 i
    refine lv_aload_n hx hb dL_law_87 rfl (lv_at hl 0 rfl) ?_
    refine lv_iconst (v := 2) hx hb dL_law_88 (by decide) ?_
    refine lv_iload_n hx hb dL_law_89 rfl (lv_at hl 3 rfl) ?_
    refine lv_imul hx hb dL_law_90 ?_
    refine ro_SX (v := .int (mL_cell L xs (2 * nI i))) (rest := []) (As := [.ref b, .int (2 * nI i)]) hx hb hml hown ht hl (ML_cell l b L xs _ (by rw [e2, nI_toInt (by omega)]; omega) hL) gL_law_L_cell rfl kL_cell ⟨Nat.le_of_ble_eq_true rfl, Nat.le_of_ble_eq_true rfl⟩ rfl rfl hXH rfl rfl (Nat.le_of_ble_eq_true rfl) dL_law_91 ⟨Nat.le_of_ble_eq_true rfl, Nat.le_of_ble_eq_true rfl⟩ ?_
    generalize mL_cell L xs (2 * nI i) = v1
    refine lv_istore (lv' := [(4, .int v1), (0, .ref b), (1, .ref (ad 9 0)), (2, .ref (ad 10 0)), (3, .int (nI i))]) hx hb dL_law_94 hl (by decide) rfl (fun ls hl => ?_)
    refine lv_aload_n hx hb dL_law_96 rfl (lv_at hl 2 rfl) ?_
    refine lv_aload_n hx hb dL_law_97 rfl (lv_at hl 3 rfl) ?_
    refine lv_iload hx hb dL_law_98 (lv_at hl 0 rfl) ?_
    refine lv_aload_n hx hb dL_law_100 rfl (lv_at hl 1 rfl) ?_
    refine lv_iconst (v := 2) hx hb dL_law_101 (by decide) ?_
    refine lv_iload_n hx hb dL_law_102 rfl (lv_at hl 4 rfl) ?_
    refine lv_imul hx hb dL_law_103 ?_
    refine lv_iconst (v := 1) hx hb dL_law_104 (by decide) ?_
    refine lv_iadd hx hb dL_law_105 ?_
    refine ro_SX (v := .int (mL_cell L xs ((2 * nI i) + 1))) (rest := [.int v1, .ref (ad 10 0), .ref (ad 9 0)]) (As := [.ref b, .int ((2 * nI i) + 1)]) hx hb hml hown ht hl (ML_cell l b L xs _ (by rw [e2, nI_s, nI_toInt (by omega)]; omega) hL) gL_law_L_cell rfl kL_cell ⟨Nat.le_of_ble_eq_true rfl, Nat.le_of_ble_eq_true rfl⟩ rfl rfl hXH rfl rfl (Nat.le_of_ble_eq_true rfl) dL_law_106 ⟨Nat.le_of_ble_eq_true rfl, Nat.le_of_ble_eq_true rfl⟩ ?_
    generalize mL_cell L xs ((2 * nI i) + 1) = v2
    obtain ⟨M1, N1, d1, L1⟩ := p_does L0 (by omega) v1 v2
    have hM := ML_does l D q ad xx v1 v2 z L0.rg
    generalize mL_does xx v1 v2 = T at d1 L1 hM
    refine mu_SK (D := D) (ws := wXW q ad xx) (ws' := wXW q ad T.2) (rest := []) (As := [.ref (ad 9 0), .ref (ad 10 0), .int v1, .int v2]) hx hb hml hown ht hl hM gL_law_L_does rfl kL_does ⟨Nat.le_of_ble_eq_true rfl, Nat.le_of_ble_eq_true rfl⟩ rfl rfl hP hD hS hG (hZ.of hS) [0, 1, 2, 3, 4, 5, 6, 7, 8, 9, 10, 11, 12, 13, 14, 15, 16, 17, 18, 19, 20, 21, 22, 23, 24, 25, 26, 27, 28, 29, 30, 31, 32, 33, 34, 35, 36, 37, 38, 39, 40, 41, 42, 43, 44, 45, 46, 47, 48, 49, 50, 51, 52, 53, 54, 55, 56, 57, 58, 59, 60, 61, 62, 63, 64, 65, 66, 67, 68, 69, 70, 71, 72, 73, 74, 75] rfl rfl (by decide) [76, 77, 78, 79, 80, 81, 82, 83, 84, 85, 86, 87, 88, 89, 90, 91, 92, 93, 94, 95, 96, 97, 98, 99, 100, 101, 102, 103, 104, 105, 106, 107, 108, 109, 110, 111, 112, 113, 114, 115, 116, 117, 118, 119, 120, 121, 122, 123, 124, 125, 126, 127, 128, 129, 130, 131, 132, 133, 134, 135, 136, 137, 138, 139, 140, 141, 142, 143, 144, 145, 146, 147, 148, 149, 150, 151] rfl (by decide) rfl rfl rfl (Nat.le_of_ble_eq_true rfl) dL_law_109 ⟨Nat.le_of_ble_eq_true rfl, Nat.le_of_ble_eq_true rfl⟩ (fun H locs hP hD hS => ?_)
    refine lv_if_eq (tgt := 123) hx hb dL_law_112 (by decide) (fun c1 => absurd (d1.symm.trans c1) (by decide)) (fun _ => ?_)
    obtain ⟨yy, hyy⟩ : ∃ z, z = T.2 := ⟨_, rfl⟩
    rw [← hyy] at hP hD L1
    have V := L1.V
    have hM4 := V.M4
    have hN10 := V.N10
    refine lv_aload_n hx hb dL_law_115 rfl (lv_at hl 2 rfl) ?_
    refine lv_aload_n hx hb dL_law_116 rfl (lv_at hl 3 rfl) ?_
    refine ro_S (v := .int (mL_areAll yy)) (rest := []) (As := [.ref (ad 9 0), .ref (ad 10 0)]) hx hb hml hown ht hl (ML_areAll l D q ad yy) gL_law_L_areAll rfl kL_areAll ⟨Nat.le_of_ble_eq_true rfl, Nat.le_of_ble_eq_true rfl⟩ rfl rfl hP (dT hD) hG rfl rfl (Nat.le_of_ble_eq_true rfl) dL_law_117 ⟨Nat.le_of_ble_eq_true rfl, Nat.le_of_ble_eq_true rfl⟩ ?_
    refine lv_if_ne (tgt := 125) hx hb dL_law_120 (by decide) (fun _ => ?_) (fun c1 => absurd L1.all (by rw [c1]; decide))
    refine lv_aload_n hx hb dL_law_125 rfl (lv_at hl 2 rfl) ?_
    refine lv_iconst (v := 0) hx hb dL_law_126 (by decide) ?_
    refine ro_V (v := .int (mX5_count yy 0)) (rest := []) (As := [.int 0]) hx hb hml hown ht hl (MX5_count l D q ad yy 0) gL_law_X5_count rfl kX5_count ⟨Nat.le_of_ble_eq_true rfl, Nat.le_of_ble_eq_true rfl⟩ rfl rfl (hP.sub (ws' := (wX q ad yy)) [0, 1, 2, 3, 4, 5, 6, 7, 8, 9, 10, 11, 12, 13, 14, 15, 16, 17, 18, 19, 20, 21, 22, 23, 24, 25, 26, 27, 28, 29, 30, 31, 32, 33, 34, 35, 36, 37, 38, 39, 40, 41, 42, 43, 44, 45, 46, 47, 48, 49, 50, 51, 52, 53, 54, 55, 56, 57, 58, 59, 60, 61, 62, 63, 64, 65, 66, 67, 68, 69, 70, 71, 72, 73, 74] rfl) (dT (hD.sub (ws' := (wX q ad yy)) [0, 1, 2, 3, 4, 5, 6, 7, 8, 9, 10, 11, 12, 13, 14, 15, 16, 17, 18, 19, 20, 21, 22, 23, 24, 25, 26, 27, 28, 29, 30, 31, 32, 33, 34, 35, 36, 37, 38, 39, 40, 41, 42, 43, 44, 45, 46, 47, 48, 49, 50, 51, 52, 53, 54, 55, 56, 57, 58, 59, 60, 61, 62, 63, 64, 65, 66, 67, 68, 69, 70, 71, 72, 73, 74] (by decide) rfl)) hG (ci := 3) rfl rfl rfl rfl (Nat.le_of_ble_eq_true rfl) dL_law_127 ⟨Nat.le_of_ble_eq_true rfl, Nat.le_of_ble_eq_true rfl⟩ ?_
    rw [show mX5_count yy 0 = nI M1 by rw [ct_0, V.eM]]
    refine lv_istore (lv' := [(5, .int (nI M1)), (4, .int v1), (0, .ref b), (1, .ref (ad 9 0)), (2, .ref (ad 10 0)), (3, .int (nI i))]) hx hb dL_law_130 hl (by decide) rfl (fun ls hl => ?_)
    refine lv_aload_n hx hb dL_law_132 rfl (lv_at hl 3 rfl) ?_
    refine lv_iconst (v := 1) hx hb dL_law_133 (by decide) ?_
    refine ro_V (v := .int (mX5_count yy 1)) (rest := []) (As := [.int 1]) hx hb hml hown ht hl (MX5_count l D q ad yy 1) gL_law_X5_count rfl kX5_count ⟨Nat.le_of_ble_eq_true rfl, Nat.le_of_ble_eq_true rfl⟩ rfl rfl (hP.sub (ws' := (wX q ad yy)) [0, 1, 2, 3, 4, 5, 6, 7, 8, 9, 10, 11, 12, 13, 14, 15, 16, 17, 18, 19, 20, 21, 22, 23, 24, 25, 26, 27, 28, 29, 30, 31, 32, 33, 34, 35, 36, 37, 38, 39, 40, 41, 42, 43, 44, 45, 46, 47, 48, 49, 50, 51, 52, 53, 54, 55, 56, 57, 58, 59, 60, 61, 62, 63, 64, 65, 66, 67, 68, 69, 70, 71, 72, 73, 74] rfl) (dT (hD.sub (ws' := (wX q ad yy)) [0, 1, 2, 3, 4, 5, 6, 7, 8, 9, 10, 11, 12, 13, 14, 15, 16, 17, 18, 19, 20, 21, 22, 23, 24, 25, 26, 27, 28, 29, 30, 31, 32, 33, 34, 35, 36, 37, 38, 39, 40, 41, 42, 43, 44, 45, 46, 47, 48, 49, 50, 51, 52, 53, 54, 55, 56, 57, 58, 59, 60, 61, 62, 63, 64, 65, 66, 67, 68, 69, 70, 71, 72, 73, 74] (by decide) rfl)) hG (ci := 3) rfl rfl rfl rfl (Nat.le_of_ble_eq_true rfl) dL_law_134 ⟨Nat.le_of_ble_eq_true rfl, Nat.le_of_ble_eq_true rfl⟩ ?_
    rw [show mX5_count yy 1 = nI N1 by rw [ct_1, V.eN]]
    refine lv_istore (lv' := [(6, .int (nI N1)), (5, .int (nI M1)), (4, .int v1), (0, .ref b), (1, .ref (ad 9 0)), (2, .ref (ad 10 0)), (3, .int (nI i))]) hx hb dL_law_137 hl (by decide) rfl (fun ls hl => ?_)
    have J255 : ∀ ls : Array Slot, lv_has ls 7 [(6, .int (nI N1)), (5, .int (nI M1)), (4, .int v1), (0, .ref b), (1, .ref (ad 9 0)), (2, .ref (ad 10 0)), (3, .int (nI i))] → W p l e room_1 s m #[Value.ref b] below meth c H locs 76 1198 (lw_Z below #[Value.ref b] s) (F0 m 255 ls []) := by
      intro ls hl
      refine lv_iinc (v := nI (i + 1)) (lv' := [(3, .int (nI (i + 1))), (6, .int (nI N1)), (5, .int (nI M1)), (4, .int v1), (0, .ref b), (1, .ref (ad 9 0)), (2, .ref (ad 10 0))]) hx hb dL_law_255 hl (k := 6) rfl (nI_s i) (by decide) rfl (fun ls hl => ?_)
      refine lv_goto (tgt := 81) hx hb dL_law_258 (by decide) ?_
      exact ih (i + 1) (by omega) M1 N1 yy H locs L1 hP hD hS ls (lv_sub hl [4, 5, 6, 0] rfl)
    have z0 : ∀ k : Nat, k ≤ 10 → ¬ nI k ≤ 0 → k ≠ 0 ∧ ¬ nI k = 0 := fun k hk c => by
      have hk0 : k ≠ 0 := fun z => c (by rw [z]; decide)
      exact ⟨hk0, fun z => hk0 (nI_inj (by omega) (by omega) (show nI k = nI 0 from z))⟩
    have J222 : ∀ ls : Array Slot, lv_has ls 7 [(6, .int (nI N1)), (5, .int (nI M1)), (4, .int v1), (0, .ref b), (1, .ref (ad 9 0)), (2, .ref (ad 10 0)), (3, .int (nI i))] → W p l e room_1 s m #[Value.ref b] below meth c H locs 76 1198 (lw_Z below #[Value.ref b] s) (F0 m 222 ls []) := by
      intro ls hl
      refine lv_iload hx hb dL_law_222 (lv_at hl 1 rfl) ?_
      refine lv_if_le (tgt := 255) hx hb dL_law_224 (by decide) (fun _ => J255 ls hl) (fun c1 => ?_)
      obtain ⟨m0, m1⟩ := z0 M1 (by omega) c1
      refine lv_iload_n hx hb dL_law_227 rfl (lv_at hl 6 rfl) ?_
      refine lv_bipush (v := 20) hx hb dL_law_228 (by decide) ?_
      refine lv_irem hx hb dL_law_230 (by decide) ?_
      refine lv_bipush (v := 13) hx hb dL_law_231 (by decide) ?_
      refine lv_icmp_ne (tgt := 255) hx hb dL_law_233 (by decide) (fun _ => J255 ls hl) (fun _ => ?_)
      refine lv_aload_n hx hb dL_law_236 rfl (lv_at hl 4 rfl) ?_
      refine lv_aload_n hx hb dL_law_237 rfl (lv_at hl 5 rfl) ?_
      refine lv_iload hx hb dL_law_238 (lv_at hl 2 rfl) ?_
      refine lv_iconst (v := 5) hx hb dL_law_240 (by decide) ?_
      refine lv_ishr hx hb dL_law_241 ?_
      refine lv_iload hx hb dL_law_242 (lv_at hl 1 rfl) ?_
      refine ro_S (v := .int (mL_low (v1 >>> (5 &&& 31)) (nI M1))) (rest := [.ref (ad 10 0), .ref (ad 9 0)]) (As := [.int (v1 >>> (5 &&& 31)), .int (nI M1)]) hx hb hml hown ht hl (ML_low l D q (v1 >>> (5 &&& 31)) (nI M1) m1) gL_law_L_low rfl kL_low ⟨Nat.le_of_ble_eq_true rfl, Nat.le_of_ble_eq_true rfl⟩ rfl rfl (hP.sub (ws' := []) [] rfl) (dT (hD.sub (ws' := []) [] (by decide) rfl)) hG rfl rfl (Nat.le_of_ble_eq_true rfl) dL_law_244 ⟨Nat.le_of_ble_eq_true rfl, Nat.le_of_ble_eq_true rfl⟩ ?_
      obtain ⟨mm, hmm, em⟩ := low_N (v1 >>> (5 &&& 31)) (K := M1) (by omega) (by omega)
      rw [em]
      refine ro_S (v := .int (mL_areHours yy (nI mm))) (rest := []) (As := [.ref (ad 9 0), .ref (ad 10 0), .int (nI mm)]) hx hb hml hown ht hl (ML_areHours l D q ad yy (nI mm)) gL_law_L_areHours rfl kL_areHours ⟨Nat.le_of_ble_eq_true rfl, Nat.le_of_ble_eq_true rfl⟩ rfl rfl hP (dT hD) hG rfl rfl (Nat.le_of_ble_eq_true rfl) dL_law_247 ⟨Nat.le_of_ble_eq_true rfl, Nat.le_of_ble_eq_true rfl⟩ ?_
      refine lv_if_ne (tgt := 255) hx hb dL_law_250 (by decide) (fun _ => J255 ls hl) (fun c2 => absurd (L1.hours hmm) (by rw [c2]; decide))
    have J178 : ∀ ls : Array Slot, lv_has ls 7 [(6, .int (nI N1)), (5, .int (nI M1)), (4, .int v1), (0, .ref b), (1, .ref (ad 9 0)), (2, .ref (ad 10 0)), (3, .int (nI i))] → W p l e room_1 s m #[Value.ref b] below meth c H locs 76 1198 (lw_Z below #[Value.ref b] s) (F0 m 178 ls []) := by
      intro ls hl
      refine lv_iload hx hb dL_law_178 (lv_at hl 1 rfl) ?_
      refine lv_if_le (tgt := 222) hx hb dL_law_180 (by decide) (fun _ => J222 ls hl) (fun c1 => ?_)
      obtain ⟨m0, m1⟩ := z0 M1 (by omega) c1
      refine lv_iload hx hb dL_law_183 (lv_at hl 0 rfl) ?_
      refine lv_if_le (tgt := 222) hx hb dL_law_185 (by decide) (fun _ => J222 ls hl) (fun c2 => ?_)
      obtain ⟨n0, n1⟩ := z0 N1 (by omega) c2
      refine lv_iload_n hx hb dL_law_188 rfl (lv_at hl 6 rfl) ?_
      refine lv_iconst (v := 4) hx hb dL_law_189 (by decide) ?_
      refine lv_irem hx hb dL_law_190 (by decide) ?_
      refine lv_iconst (v := 2) hx hb dL_law_191 (by decide) ?_
      refine lv_icmp_ne (tgt := 222) hx hb dL_law_192 (by decide) (fun _ => J222 ls hl) (fun _ => ?_)
      refine lv_aload_n hx hb dL_law_195 rfl (lv_at hl 4 rfl) ?_
      refine lv_aload_n hx hb dL_law_196 rfl (lv_at hl 5 rfl) ?_
      refine lv_iload hx hb dL_law_197 (lv_at hl 2 rfl) ?_
      refine lv_bipush (v := 8) hx hb dL_law_199 (by decide) ?_
      refine lv_ishr hx hb dL_law_201 ?_
      refine lv_iload hx hb dL_law_202 (lv_at hl 0 rfl) ?_
      refine ro_S (v := .int (mL_low (v1 >>> (8 &&& 31)) (nI N1))) (rest := [.ref (ad 10 0), .ref (ad 9 0)]) (As := [.int (v1 >>> (8 &&& 31)), .int (nI N1)]) hx hb hml hown ht hl (ML_low l D q (v1 >>> (8 &&& 31)) (nI N1) n1) gL_law_L_low rfl kL_low ⟨Nat.le_of_ble_eq_true rfl, Nat.le_of_ble_eq_true rfl⟩ rfl rfl (hP.sub (ws' := []) [] rfl) (dT (hD.sub (ws' := []) [] (by decide) rfl)) hG rfl rfl (Nat.le_of_ble_eq_true rfl) dL_law_204 ⟨Nat.le_of_ble_eq_true rfl, Nat.le_of_ble_eq_true rfl⟩ ?_
      obtain ⟨aa, haa, ea⟩ := low_N (v1 >>> (8 &&& 31)) (K := N1) (by omega) (by omega)
      rw [ea]
      refine lv_iload hx hb dL_law_207 (lv_at hl 2 rfl) ?_
      refine lv_iconst (v := 5) hx hb dL_law_209 (by decide) ?_
      refine lv_ishr hx hb dL_law_210 ?_
      refine lv_iload hx hb dL_law_211 (lv_at hl 1 rfl) ?_
      refine ro_S (v := .int (mL_low (v1 >>> (5 &&& 31)) (nI M1))) (rest := [.int (nI aa), .ref (ad 10 0), .ref (ad 9 0)]) (As := [.int (v1 >>> (5 &&& 31)), .int (nI M1)]) hx hb hml hown ht hl (ML_low l D q (v1 >>> (5 &&& 31)) (nI M1) m1) gL_law_L_low rfl kL_low ⟨Nat.le_of_ble_eq_true rfl, Nat.le_of_ble_eq_true rfl⟩ rfl rfl (hP.sub (ws' := []) [] rfl) (dT (hD.sub (ws' := []) [] (by decide) rfl)) hG rfl rfl (Nat.le_of_ble_eq_true rfl) dL_law_213 ⟨Nat.le_of_ble_eq_true rfl, Nat.le_of_ble_eq_true rfl⟩ ?_
      obtain ⟨mm, hmm, em⟩ := low_N (v1 >>> (5 &&& 31)) (K := M1) (by omega) (by omega)
      rw [em]
      refine ro_S (v := .int (mL_isHouse yy (nI aa) (nI mm))) (rest := []) (As := [.ref (ad 9 0), .ref (ad 10 0), .int (nI aa), .int (nI mm)]) hx hb hml hown ht hl (ML_isHouse l D q ad yy (nI aa) (nI mm)) gL_law_L_isHouse rfl kL_isHouse ⟨Nat.le_of_ble_eq_true rfl, Nat.le_of_ble_eq_true rfl⟩ rfl rfl hP (dT hD) hG rfl rfl (Nat.le_of_ble_eq_true rfl) dL_law_216 ⟨Nat.le_of_ble_eq_true rfl, Nat.le_of_ble_eq_true rfl⟩ ?_
      exact lv_if_eq (tgt := 253) hx hb dL_law_219 (by decide) (fun c3 => absurd (L1.house haa hmm) (by rw [c3]; decide)) (fun _ => J222 ls hl)
    refine lv_iload hx hb dL_law_139 (lv_at hl 1 rfl) ?_
    refine lv_if_le (tgt := 178) hx hb dL_law_141 (by decide) (fun _ => J178 ls hl) (fun c1 => ?_)
    obtain ⟨m0, m1⟩ := z0 M1 (by omega) c1
    refine lv_iload_n hx hb dL_law_144 rfl (lv_at hl 6 rfl) ?_
    refine lv_iconst (v := 3) hx hb dL_law_145 (by decide) ?_
    refine lv_irem hx hb dL_law_146 (by decide) ?_
    refine lv_iconst (v := 1) hx hb dL_law_147 (by decide) ?_
    refine lv_icmp_ne (tgt := 178) hx hb dL_law_148 (by decide) (fun _ => J178 ls hl) (fun _ => ?_)
    refine lv_aload_n hx hb dL_law_151 rfl (lv_at hl 4 rfl) ?_
    refine lv_aload_n hx hb dL_law_152 rfl (lv_at hl 5 rfl) ?_
    refine lv_iload hx hb dL_law_153 (lv_at hl 2 rfl) ?_
    refine lv_iconst (v := 5) hx hb dL_law_155 (by decide) ?_
    refine lv_ishr hx hb dL_law_156 ?_
    refine lv_iload hx hb dL_law_157 (lv_at hl 1 rfl) ?_
    refine ro_S (v := .int (mL_low (v1 >>> (5 &&& 31)) (nI M1))) (rest := [.ref (ad 10 0), .ref (ad 9 0)]) (As := [.int (v1 >>> (5 &&& 31)), .int (nI M1)]) hx hb hml hown ht hl (ML_low l D q (v1 >>> (5 &&& 31)) (nI M1) m1) gL_law_L_low rfl kL_low ⟨Nat.le_of_ble_eq_true rfl, Nat.le_of_ble_eq_true rfl⟩ rfl rfl (hP.sub (ws' := []) [] rfl) (dT (hD.sub (ws' := []) [] (by decide) rfl)) hG rfl rfl (Nat.le_of_ble_eq_true rfl) dL_law_159 ⟨Nat.le_of_ble_eq_true rfl, Nat.le_of_ble_eq_true rfl⟩ ?_
    obtain ⟨mm, hmm, em⟩ := low_N (v1 >>> (5 &&& 31)) (K := M1) (by omega) (by omega)
    rw [em]
    refine lv_iload hx hb dL_law_162 (lv_at hl 2 rfl) ?_
    refine lv_bipush (v := 7) hx hb dL_law_164 (by decide) ?_
    refine lv_ishr hx hb dL_law_166 ?_
    refine lv_bipush (v := 96) hx hb dL_law_167 (by decide) ?_
    refine ro_S (v := .int (mL_low (v1 >>> (7 &&& 31)) 96)) (rest := [.int (nI mm), .ref (ad 10 0), .ref (ad 9 0)]) (As := [.int (v1 >>> (7 &&& 31)), .int 96]) hx hb hml hown ht hl (ML_low l D q (v1 >>> (7 &&& 31)) 96 (by decide)) gL_law_L_low rfl kL_low ⟨Nat.le_of_ble_eq_true rfl, Nat.le_of_ble_eq_true rfl⟩ rfl rfl (hP.sub (ws' := []) [] rfl) (dT (hD.sub (ws' := []) [] (by decide) rfl)) hG rfl rfl (Nat.le_of_ble_eq_true rfl) dL_law_169 ⟨Nat.le_of_ble_eq_true rfl, Nat.le_of_ble_eq_true rfl⟩ ?_
    obtain ⟨ya, hya, ey⟩ := low_N (v1 >>> (7 &&& 31)) (K := 96) (by omega) (by omega)
    rw [show mL_low (v1 >>> (7 &&& 31)) 96 = nI ya from ey]
    refine ro_S (v := .int (mL_isMill yy (nI mm) (nI ya))) (rest := []) (As := [.ref (ad 9 0), .ref (ad 10 0), .int (nI mm), .int (nI ya)]) hx hb hml hown ht hl (ML_isMill l D q ad yy (nI mm) (nI ya)) gL_law_L_isMill rfl kL_isMill ⟨Nat.le_of_ble_eq_true rfl, Nat.le_of_ble_eq_true rfl⟩ rfl rfl hP (dT hD) hG rfl rfl (Nat.le_of_ble_eq_true rfl) dL_law_172 ⟨Nat.le_of_ble_eq_true rfl, Nat.le_of_ble_eq_true rfl⟩ ?_
    exact lv_if_eq (tgt := 253) hx hb dL_law_175 (by decide) (fun c3 => absurd (L1.mill hmm hya) (by rw [c3]; decide)) (fun _ => J178 ls hl)
