/-! P29, LAW 4: the entry. -/
def a10 (ad : Nat → Nat → Nat) (aw : Nat) : Nat → Nat → Nat := fun i => if i = 10 then (fun _ => aw) else ad i
theorem arrV_c {cI : ClassId} {N : Nat} {f g : Nat → Value} (h : ∀ j, j < N → f j = g j) : arrV cI N f = arrV cI N g := by
  have e : (fun j : Fin N => f j.val) = (fun j : Fin N => g j.val) := funext fun j => h j.val j.isLt
  unfold arrV; rw [e]
theorem wXW_in (q : Nat → ClassId) (ad : Nat → Nat → Nat) (aw : Nat) (yy : Nat → Nat → Nat → Int32) (g : Nat → Nat → Int32) : (wX q ad yy ++ wR q aw 24 (g 0)).set 72 (ad 8 1, .inl (q 2, 4, .inr (.inr (.inr (.inr (fun j => some (a10 ad aw (3 + j) 0))))))) = wXW q (a10 ad aw) (setV yy 10 g) := rfl
theorem wX_72 (q : Nat → ClassId) (ad : Nat → Nat → Nat) (aw : Nat) (yy : Nat → Nat → Nat → Int32) (f : Nat → Int32) : (wX q ad yy ++ wR q aw 24 f)[72]? = some (ad 8 1, .inl (q 2, 4, .inr (.inr (.inr (.inr (fun j => some (ad (3 + j) 0))))))) := rfl
theorem P_in {A : Nat → Prop} {D : va_G} {H : Heap} {q : Nat → ClassId} {ad : Nat → Nat → Nat} {aw : Nat} {yy : Nat → Nat → Nat → Int32} {g : Nat → Nat → Int32} {f : Nat → Int32} (hg : g 0 = f) (h : va_P D vwCl (wX q ad yy ++ wR q aw 24 f) H) (hD : va_D A (wX q ad yy ++ wR q aw 24 f)) : va_P D vwCl (wXW q (a10 ad aw) (setV yy 10 g)) H ∧ va_D A (wXW q (a10 ad aw) (setV yy 10 g)) := by
  subst hg
  have e7 := wX_72 q ad aw yy (g 0)
  rw [← wXW_in]
  have h0 : H[ad 8 1]? = some (vp_cell (q 2) (4, .inr (.inr (.inr (.inr (fun j => some (ad (3 + j) 0))))))) := h 72 _ e7
  have h1 : H[ad 8 1]? = some (vp_cell (q 2) (4, .inr (.inr (.inr (.inr (fun j => some (a10 ad aw (3 + j) 0))))))) := by
    rw [h0, vp_cell_q, vp_cell_q]
    refine congrArg some (arrV_c (fun j hj => ?_))
    have e : a10 ad aw (3 + j) = ad (3 + j) := if_neg (by omega)
    rw [e]
  exact ⟨h.set hD e7 h1 (fun _ _ => rfl), hD.set e7⟩
theorem upd_3 {f : Nat → Int32} {k : Nat} (h : ∀ j, j < k → f j = 3) : ∀ j, j < k + 1 → upd f k 3 j = 3 := fun j hj => by
  by_cases c : j = k
  · rw [c, upd_same]
  · rw [upd_ne _ _ c]; exact h j (by omega)
theorem a10_9 (ad : Nat → Nat → Nat) (aw : Nat) : ad 9 0 = a10 ad aw 9 0 := rfl
theorem a10_10 (ad : Nat → Nat → Nat) (aw : Nat) : aw = a10 ad aw 10 0 := rfl
set_option maxHeartbeats 4000000 in
set_option maxRecDepth 100000 in
theorem whole_mid {p : Program} {e : Env} {s : State} {m : MethodId} {below : List Frame} {meth : Method} {c : Code} (l : Launch) {b L : Nat} {xs : Nat → Int32} {D : va_G} {q z : Nat → Nat} {ad : Nat → Nat → Nat} (hL : L ≤ 260) (C0 : lw_At p s m meth c b L xs) (hG : gxO D (tyq q) s) (hZ : stKA z (fun q : Nat => s.heap.size ≤ q) s s.heap) : ∀ (xx : Nat → Nat → Nat → Int32) (H : Heap) (locs : List Loc), LI 0 0 0 xx → xx 8 0 1 = 0 → xx 9 0 0 = 0 → xx 7 = (fun _ _ => 0) → va_P D vwCl (wXW q ad xx) H → va_D (fun q : Nat => s.heap.size ≤ q) (wXW q ad xx) → va_S (fun q : Nat => s.heap.size ≤ q) s.heap H locs → ∀ ls : Array Slot, lv_has ls 7 [(0, .ref b), (1, .ref (ad 9 0)), (2, .ref (ad 10 0))] → W p l e room_1 s m #[Value.ref b] below meth c H locs 76 1198 (lw_Z below #[Value.ref b] s) (F0 m 31 ls []) := by
  obtain ⟨hx, hb, hr, hml, hown, hts, hX, hbl, hlocks, hgv⟩ := id C0
  have ht : ∀ w ∈ wsL_law, w.before #[Value.ref b] s = true := fun w hw => hts w (wsL_law_in w hw)
  intro xx H locs L0 e8 e9 e7 hP hD hS ls hl
  refine lv_aload_n hx hb dL_law_31 rfl (lv_at hl 1 rfl) ?_
  refine ro_V (v := .float (mX5_ground (xx 0))) (rest := []) (As := []) hx hb hml hown ht hl (MX5_ground l D q ad (xx 9 0 0) (xx 0)) gL_law_X5_ground rfl kX5_ground ⟨Nat.le_of_ble_eq_true rfl, Nat.le_of_ble_eq_true rfl⟩ rfl rfl (hP.sub (ws' := (wXN q ad (xx 9 0 0) (xx 0))) [0, 1, 2, 3, 4, 5, 6, 7, 8, 9, 10] rfl) (dT (hD.sub (ws' := (wXN q ad (xx 9 0 0) (xx 0))) [0, 1, 2, 3, 4, 5, 6, 7, 8, 9, 10] (by decide) rfl)) hG (ci := 3) rfl rfl rfl rfl (Nat.le_of_ble_eq_true rfl) dL_law_32 ⟨Nat.le_of_ble_eq_true rfl, Nat.le_of_ble_eq_true rfl⟩ ?_
  rw [f_ground L0]
  refine lv_fconst1 hx hb dL_law_35 ?_
  refine lv_fcmp hx hb dL_law_36 ?_
  refine lv_if_ne (tgt := 77) hx hb dL_law_37 (by decide) (fun c0 => absurd fone_self c0) (fun _ => ?_)
  refine lv_aload_n hx hb dL_law_40 rfl (lv_at hl 1 rfl) ?_
  refine lv_iconst (v := 5) hx hb dL_law_41 (by decide) ?_
  refine ro_V (v := .int (mX5_loudest (xx 0) 5)) (rest := []) (As := [.int 5]) hx hb hml hown ht hl (MX5_loudest l D q ad (xx 9 0 0) (xx 0) 5) gL_law_X5_loudest rfl kX5_loudest ⟨Nat.le_of_ble_eq_true rfl, Nat.le_of_ble_eq_true rfl⟩ rfl rfl (hP.sub (ws' := (wXN q ad (xx 9 0 0) (xx 0))) [0, 1, 2, 3, 4, 5, 6, 7, 8, 9, 10] rfl) (dT (hD.sub (ws' := (wXN q ad (xx 9 0 0) (xx 0))) [0, 1, 2, 3, 4, 5, 6, 7, 8, 9, 10] (by decide) rfl)) hG (ci := 3) rfl rfl rfl rfl (Nat.le_of_ble_eq_true rfl) dL_law_42 ⟨Nat.le_of_ble_eq_true rfl, Nat.le_of_ble_eq_true rfl⟩ ?_
  refine lv_bipush (v := (-5)) hx hb dL_law_45 (by decide) ?_
  refine lv_icmp_ne (tgt := 77) hx hb dL_law_47 (by decide) (fun c0 => absurd (f_loud L0) c0) (fun _ => ?_)
  refine lv_aload_n hx hb dL_law_50 rfl (lv_at hl 1 rfl) ?_
  have hMT_undo := MX5_undo l D q ad xx (LI.rg L0)
  obtain ⟨T_undo, hT_undo⟩ : ∃ z, z = mX5_undo xx := ⟨_, rfl⟩
  rw [← hT_undo] at hMT_undo
  refine mu_V (D := D) (ws := wXW q ad xx) (ws' := wXW q ad (setV T_undo.2 10 (xx 10))) (rest := []) (As := []) hx hb hml hown ht hl hMT_undo gL_law_X5_undo rfl kX5_undo ⟨Nat.le_of_ble_eq_true rfl, Nat.le_of_ble_eq_true rfl⟩ rfl rfl hP hD hS hG [0, 1, 2, 3, 4, 5, 6, 7, 8, 9, 10, 11, 12, 13, 14, 15, 16, 17, 18, 19, 20, 21, 22, 23, 24, 25, 26, 27, 28, 29, 30, 31, 32, 33, 34, 35, 36, 37, 38, 39, 40, 41, 42, 43, 44, 45, 46, 47, 48, 49, 50, 51, 52, 53, 54, 55, 56, 57, 58, 59, 60, 61, 62, 63, 64, 65, 66, 67, 68, 69, 70, 71, 72, 73, 74] rfl rfl (by decide) [76, 77, 78, 79, 80, 81, 82, 83, 84, 85, 86, 87, 88, 89, 90, 91, 92, 93, 94, 95, 96, 97, 98, 99, 100, 101, 102, 103, 104, 105, 106, 107, 108, 109, 110, 111, 112, 113, 114, 115, 116, 117, 118, 119, 120, 121, 122, 123, 124, 125, 126, 127, 128, 129, 130, 131, 132, 133, 134, 135, 136, 137, 138, 139, 140, 141, 142, 143, 144, 145, 146, 147, 148, 149, 150, 75] rfl (by decide) rfl (ci := 3) rfl rfl rfl rfl (Nat.le_of_ble_eq_true rfl) dL_law_51 ⟨Nat.le_of_ble_eq_true rfl, Nat.le_of_ble_eq_true rfl⟩ (fun H locs hP hD hS => ?_)
  have r_undo := hT_undo.trans (f_undo e8)
  rw [show setV T_undo.2 10 (xx 10) = xx by rw [r_undo]; exact setV_id _ _] at hP hD
  rw [show T_undo.1 = _ from congrArg Prod.fst r_undo]
  refine lv_bipush (v := (-5)) hx hb dL_law_54 (by decide) ?_
  refine lv_icmp_ne (tgt := 77) hx hb dL_law_56 (by decide) (fun c0 => absurd rfl c0) (fun _ => ?_)
  refine lv_aload_n hx hb dL_law_59 rfl (lv_at hl 1 rfl) ?_
  have hMT_restore := MX5_restore l D q ad xx (LI.rg L0)
  obtain ⟨T_restore, hT_restore⟩ : ∃ z, z = mX5_restore xx := ⟨_, rfl⟩
  rw [← hT_restore] at hMT_restore
  refine mu_V (D := D) (ws := wXW q ad xx) (ws' := wXW q ad (setV T_restore.2 10 (xx 10))) (rest := []) (As := []) hx hb hml hown ht hl hMT_restore gL_law_X5_restore rfl kX5_restore ⟨Nat.le_of_ble_eq_true rfl, Nat.le_of_ble_eq_true rfl⟩ rfl rfl hP hD hS hG [0, 1, 2, 3, 4, 5, 6, 7, 8, 9, 10, 11, 12, 13, 14, 15, 16, 17, 18, 19, 20, 21, 22, 23, 24, 25, 26, 27, 28, 29, 30, 31, 32, 33, 34, 35, 36, 37, 38, 39, 40, 41, 42, 43, 44, 45, 46, 47, 48, 49, 50, 51, 52, 53, 54, 55, 56, 57, 58, 59, 60, 61, 62, 63, 64, 65, 66, 67, 68, 69, 70, 71, 72, 73, 74] rfl rfl (by decide) [76, 77, 78, 79, 80, 81, 82, 83, 84, 85, 86, 87, 88, 89, 90, 91, 92, 93, 94, 95, 96, 97, 98, 99, 100, 101, 102, 103, 104, 105, 106, 107, 108, 109, 110, 111, 112, 113, 114, 115, 116, 117, 118, 119, 120, 121, 122, 123, 124, 125, 126, 127, 128, 129, 130, 131, 132, 133, 134, 135, 136, 137, 138, 139, 140, 141, 142, 143, 144, 145, 146, 147, 148, 149, 150, 75] rfl (by decide) rfl (ci := 3) rfl rfl rfl rfl (Nat.le_of_ble_eq_true rfl) dL_law_60 ⟨Nat.le_of_ble_eq_true rfl, Nat.le_of_ble_eq_true rfl⟩ (fun H locs hP hD hS => ?_)
  have r_restore := hT_restore.trans (f_restore e9)
  rw [show setV T_restore.2 10 (xx 10) = xx by rw [r_restore]; exact setV_id _ _] at hP hD
  rw [show T_restore.1 = _ from congrArg Prod.fst r_restore]
  refine lv_bipush (v := (-5)) hx hb dL_law_63 (by decide) ?_
  refine lv_icmp_ne (tgt := 77) hx hb dL_law_65 (by decide) (fun c0 => absurd rfl c0) (fun _ => ?_)
  refine lv_aload_n hx hb dL_law_68 rfl (lv_at hl 1 rfl) ?_
  have hMT_doAll := MX5_doAll l D q ad xx (LI.rg L0) (fun j => by rw [e7]; exact (by decide +kernel : narrow FieldType.char (Value.int 0) = Value.int 0)) (by rw [e7]; decide)
  obtain ⟨T_doAll, hT_doAll⟩ : ∃ z, z = mX5_doAll xx := ⟨_, rfl⟩
  rw [← hT_doAll] at hMT_doAll
  refine mu_V (D := D) (ws := wXW q ad xx) (ws' := wXW q ad (setV T_doAll.2 10 (xx 10))) (rest := []) (As := []) hx hb hml hown ht hl hMT_doAll gL_law_X5_doAll rfl kX5_doAll ⟨Nat.le_of_ble_eq_true rfl, Nat.le_of_ble_eq_true rfl⟩ rfl rfl hP hD hS hG [0, 1, 2, 3, 4, 5, 6, 7, 8, 9, 10, 11, 12, 13, 14, 15, 16, 17, 18, 19, 20, 21, 22, 23, 24, 25, 26, 27, 28, 29, 30, 31, 32, 33, 34, 35, 36, 37, 38, 39, 40, 41, 42, 43, 44, 45, 46, 47, 48, 49, 50, 51, 52, 53, 54, 55, 56, 57, 58, 59, 60, 61, 62, 63, 64, 65, 66, 67, 68, 69, 70, 71, 72, 73, 74] rfl rfl (by decide) [76, 77, 78, 79, 80, 81, 82, 83, 84, 85, 86, 87, 88, 89, 90, 91, 92, 93, 94, 95, 96, 97, 98, 99, 100, 101, 102, 103, 104, 105, 106, 107, 108, 109, 110, 111, 112, 113, 114, 115, 116, 117, 118, 119, 120, 121, 122, 123, 124, 125, 126, 127, 128, 129, 130, 131, 132, 133, 134, 135, 136, 137, 138, 139, 140, 141, 142, 143, 144, 145, 146, 147, 148, 149, 150, 75] rfl (by decide) rfl (ci := 3) rfl rfl rfl rfl (Nat.le_of_ble_eq_true rfl) dL_law_69 ⟨Nat.le_of_ble_eq_true rfl, Nat.le_of_ble_eq_true rfl⟩ (fun H locs hP hD hS => ?_)
  have r_doAll := hT_doAll.trans (f_doAll e7)
  rw [show setV T_doAll.2 10 (xx 10) = xx by rw [r_doAll]; exact setV_id _ _] at hP hD
  rw [show T_doAll.1 = _ from congrArg Prod.fst r_doAll]
  refine lv_bipush (v := (-100)) hx hb dL_law_72 (by decide) ?_
  refine lv_icmp_eq (tgt := 79) hx hb dL_law_74 (by decide) (fun _ => ?_) (fun c0 => absurd rfl c0)
  refine lv_iconst (v := 0) hx hb dL_law_79 (by decide) ?_
  refine lv_istore_n (lv' := [(3, .int 0), (0, .ref b), (1, .ref (ad 9 0)), (2, .ref (ad 10 0))]) hx hb dL_law_80 rfl hl (by decide) rfl (fun ls hl => ?_)
  exact law_loop l hL C0 hG hZ 120 0 (by omega) 0 0 xx H locs L0 hP hD hS ls (lv_sub hl [1, 2, 3, 0] rfl)
set_option maxHeartbeats 4000000 in
set_option maxRecDepth 100000 in
theorem whole_start {p : Program} {e : Env} {s : State} {m : MethodId} {below : List Frame} {meth : Method} {c : Code} (l : Launch) (hflags : l.flags = flags0) {b L : Nat} {xs : Nat → Int32} (hL : L ≤ 260) (C0 : lw_At p s m meth c b L xs) : W p l e room_1 s m #[Value.ref b] below meth c s.heap [] 0 0 (lw_Z below #[Value.ref b] s) (entryFrame m ([Value.ref b] : List Value).toArray 7) := by
  obtain ⟨hx, hb, hr, hml, hown, hts, hX, hbl, hlocks, hgv⟩ := id C0
  have ht : ∀ w ∈ wsL_law, w.before #[Value.ref b] s = true := fun w hw => hts w (wsL_law_in w hw)
  have hA : ∀ q : Nat, s.heap.size ≤ q → (fun q : Nat => s.heap.size ≤ q) q := fun _ h => h
  obtain ⟨c0, i0, hk0⟩ := u_known (C := RX1) (T := TX1) (N := 3) (n := 3) ht inlX1 (hts _ (List.mem_of_getElem? (i := 86) (by decide +kernel)))
  obtain ⟨c1, i1, hk1⟩ := u_known (C := RX3) (T := TX3) (N := 2) (n := 2) ht inlX3 (hts _ (List.mem_of_getElem? (i := 106) (by decide +kernel)))
  obtain ⟨c2, i2, hk2⟩ := u_known (C := RX4) (T := TX4) (N := 11) (n := 11) ht inlX4 (hts _ (List.mem_of_getElem? (i := 31) (by decide +kernel)))
  obtain ⟨c3, i3, hk3⟩ := u_known (C := RX5) (T := TX5) (N := 6) (n := 6) ht inlX5 (hts _ (List.mem_of_getElem? (i := 23) (by decide +kernel)))
  obtain ⟨dC, dI, hKc⟩ : ∃ (dC : Nat → ClassId) (dI : Nat → Nat → Nat), ∀ (k : Nat) (q : vw_C), vwCl[k]? = some q → u_Kn s q.1 q.2.1 q.2.2 (dC k) (dI k) := by
    refine ⟨fun k => match k with | 0 => c0 | 1 => c1 | 2 => c2 | _ => c3, fun k => match k with | 0 => i0 | 1 => i1 | 2 => i2 | _ => i3, ?_⟩
    intro k q hq
    match k, hq with
    | 0, hq => cases hq; exact hk0
    | 1, hq => cases hq; exact hk1
    | 2, hq => cases hq; exact hk2
    | 3, hq => cases hq; exact hk3
    | k + 4, hq => simp at hq
  obtain ⟨q, hq⟩ := q_all hts
  obtain ⟨D, hDD⟩ : ∃ D : va_G, D = (dC, dI) := ⟨_, rfl⟩
  have hG : gxO D (tyq q) s := by rw [hDD]; exact ⟨⟨hKc, hq⟩, nw_all hts⟩
  obtain ⟨z, hZ⟩ := st_all (A := (fun q : Nat => s.heap.size ≤ q)) (fun a ha => Nat.not_le.mpr ha) hts hgv
  have hZ0 : stI (z 0) (fun q : Nat => s.heap.size ≤ q) s s.heap := ⟨(hZ 0 (by omega)).1, (hZ 0 (by omega)).2, va_AO.of (hts _ (List.mem_of_getElem? (i := 92) (by decide +kernel)))⟩
  have hS : va_S (fun q : Nat => s.heap.size ≤ q) s.heap s.heap [] := va_S.rf
  have hP : va_P D vwCl [] s.heap := fun k q h => by simp at h
  have hD : va_D (fun q : Nat => s.heap.size ≤ q) [] := ⟨fun i j p q h => by simp at h, fun k q h => by simp at h⟩
  have hl := lv_entry ([.ref b]) (n := 7) (Nat.le_of_ble_eq_true rfl)
  rw [lg_entry_eq]
  generalize (lg_sl ([.ref b]) ++ List.replicate (7 - (lg_sl ([.ref b])).length) Slot.unset).toArray = ls at hl ⊢
  have hl : lv_has ls 7 [(0, .ref b)] := hl
  refine va_new (ci := 3) (fs := [.null, .null, .null, .int 0, .null, .null]) (C := RX5) (T := TX5) (N := 6) hx hb ht inlX5 tyX5 tyX5_ok hown (ht (.classLink RL 9 RX5) (List.mem_of_getElem? (i := 0) rfl)) (ht (.instantiable RX5 6) (List.mem_of_getElem? (i := 1) rfl)) (ht (.initialized RX5) (List.mem_of_getElem? (i := 2) rfl)) hG.1 hP hD hS hA rfl (fun j hj => by rcases (show j = 0 ∨ j = 1 ∨ j = 2 ∨ j = 3 ∨ j = 4 ∨ j = 5 by omega) with rfl | rfl | rfl | rfl | rfl | rfl <;> rfl) (Nat.le_of_ble_eq_true rfl) (Nat.le_of_ble_eq_true rfl) dL_law_0 (fun v5 H hP hD hS => ?_)
  have hP : va_P D vwCl [(v5, .inr (3, [.null, .null, .null, .int 0, .null, .null]))] H := hP
  have hD : va_D (fun q : Nat => s.heap.size ≤ q) [(v5, .inr (3, [.null, .null, .null, .int 0, .null, .null]))] := hD
  refine lv_dup hx hb dL_law_3 rfl ?_
  refine mk_I (wr := []) (rest := [.ref v5]) hx hb hml hown ht hl (MX5_init l D q v5 _ (z 0)) gL_law_X5_init rfl (ht (.initialized RX5) (List.mem_of_getElem? (i := 2) rfl)) (ht (.methodLink RL 96 yX5_init) (List.mem_of_getElem? (i := 4) rfl)) (ht (.instanceMethod yX5_init) (List.mem_of_getElem? (i := 5) rfl)) rfl (by decide +kernel) ⟨Nat.le_of_ble_eq_true rfl, Nat.le_of_ble_eq_true rfl⟩ rfl rfl hP hD hS hA hG hZ0 0 rfl [] rfl (by decide) (by decide) (Nat.le_of_ble_eq_true rfl) dL_law_4 ⟨Nat.le_of_ble_eq_true rfl, Nat.le_of_ble_eq_true rfl⟩ (fun u H locs hu hPn hDn hSn => ?_)
  obtain ⟨ad, hg, rfl⟩ := hu
  subst hg
  have hP := hPn
  have hD := hDn
  have hS := hSn
  have hP : va_P D vwCl (wX q ad xI) H := hP
  have hD : va_D (fun q : Nat => s.heap.size ≤ q) (wX q ad xI) := hD
  refine lv_astore_n (lv' := [(1, .ref (ad 9 0)), (0, .ref b)]) hx hb dL_law_7 rfl hl (by decide) rfl (fun ls hl => ?_)
  refine lv_bipush (v := 24) hx hb dL_law_8 (by decide) ?_
  refine va_newa (atype := .int) (ty := .int) (a0 := (24, .inl (fun _ => 0))) hx hb (ht (.arrayClass .int) (List.mem_of_getElem? (i := 3) rfl)) rfl hG.1 hP hD hS hA (fun cA => rfl) (by decide) rfl (Nat.le_of_ble_eq_true rfl) (Nat.le_of_ble_eq_true rfl) (Nat.le_of_ble_eq_true rfl) dL_law_10 (fun aw cA H hK hP hD hS => ?_)
  obtain rfl : cA = q 0 := samI hK
  refine lv_astore_n (lv' := [(2, .ref aw), (1, .ref (ad 9 0)), (0, .ref b)]) hx hb dL_law_12 rfl hl (by decide) rfl (fun ls hl => ?_)
  refine lv_iconst (v := 0) hx hb dL_law_13 (by decide) ?_
  refine lv_istore_n (lv' := [(3, .int 0), (2, .ref aw), (1, .ref (ad 9 0)), (0, .ref b)]) hx hb dL_law_14 rfl hl (by decide) rfl (fun ls hl => ?_)
  have hP : va_P D vwCl (wX q ad xI ++ wR q aw 24 (fun _ => 0)) H := hP
  have hD : va_D (fun q : Nat => s.heap.size ≤ q) (wX q ad xI ++ wR q aw 24 (fun _ => 0)) := hD
  have REST : ∀ (f : Nat → Int32), (∀ j, j < 24 → f j = 3) → ∀ (H : Heap) (locs : List Loc), va_P D vwCl (wX q ad xI ++ wR q aw 24 f) H → va_D (fun q : Nat => s.heap.size ≤ q) (wX q ad xI ++ wR q aw 24 f) → va_S (fun q : Nat => s.heap.size ≤ q) s.heap H locs → ∀ ls : Array Slot, lv_has ls 7 [(0, .ref b), (1, .ref (ad 9 0)), (2, .ref aw)] → W p l e room_1 s m #[Value.ref b] below meth c H locs 76 1198 (lw_Z below #[Value.ref b] s) (F0 m 31 ls []) := by
    intro f hf H locs hP hD hS ls hl
    obtain ⟨hP, hD⟩ := P_in (g := setA (xI 10) 0 f) (setA_same _ _ _) hP hD
    exact whole_mid l hL C0 hG hZ (setV xI 10 (setA (xI 10) 0 f)) H locs (LI_0 (fun h hh => by rw [setA_same]; exact hf h hh)) rfl rfl rfl hP hD hS ls hl
  have INIT : ∀ (n k : Nat), k + n = 24 → ∀ (f : Nat → Int32), (∀ j, j < k → f j = 3) → ∀ (H : Heap) (locs : List Loc), va_P D vwCl (wX q ad xI ++ wR q aw 24 f) H → va_D (fun q : Nat => s.heap.size ≤ q) (wX q ad xI ++ wR q aw 24 f) → va_S (fun q : Nat => s.heap.size ≤ q) s.heap H locs → ∀ ls : Array Slot, lv_has ls 7 [(3, .int (nI k)), (2, .ref aw), (1, .ref (ad 9 0)), (0, .ref b)] → W p l e room_1 s m #[Value.ref b] below meth c H locs 76 1198 (lw_Z below #[Value.ref b] s) (F0 m 15 ls []) := by
    have k24 : (24 : Int32).toInt = 24 := rfl
    intro n
    induction n with
    | zero =>
      intro k hk f hf H locs hP hD hS ls hl
      refine lv_iload_n hx hb dL_law_15 rfl (lv_at hl 0 rfl) ?_
      refine lv_bipush (v := 24) hx hb dL_law_16 (by decide) ?_
      refine lv_icmp_ge (tgt := 31) hx hb dL_law_18 (by decide) (fun c0 => ?_) (fun c0 => absurd (by rw [i_le, k24, nI_toInt (by omega)]; omega) c0)
      exact REST f (fun j hj => hf j (by omega)) H locs hP hD hS ls (lv_sub hl [3, 2, 1] rfl)
    | succ n ih =>
      intro k hk f hf H locs hP hD hS ls hl
      refine lv_iload_n hx hb dL_law_15 rfl (lv_at hl 0 rfl) ?_
      refine lv_bipush (v := 24) hx hb dL_law_16 (by decide) ?_
      refine lv_icmp_ge (tgt := 31) hx hb dL_law_18 (by decide) (fun c0 => absurd (by rw [i_le, k24, nI_toInt (by omega)] at c0; omega) (show ¬ False from fun z => z)) (fun _ => ?_)
      refine lv_aload_n hx hb dL_law_21 rfl (lv_at hl 1 rfl) ?_
      refine lv_iload_n hx hb dL_law_22 rfl (lv_at hl 0 rfl) ?_
      refine lv_iconst (v := 3) hx hb dL_law_23 (by decide) ?_
      refine va_iast hx hb hG.1 hP hD hS 75 0 rfl rfl (ix_t (i := nI k) (x := (k : Int)) (n := 24) (nI_toInt (by omega)) (by omega)) dL_law_24 (fun H locs hP hD hS => ?_)
      have hP : va_P D vwCl (wX q ad xI ++ wR q aw 24 (upd f (nI k).toNatClampNeg 3)) H := hP
      have hD : va_D (fun q : Nat => s.heap.size ≤ q) (wX q ad xI ++ wR q aw 24 (upd f (nI k).toNatClampNeg 3)) := hD
      refine lv_iinc (v := nI (k + 1)) (lv' := [(3, .int (nI (k + 1))), (2, .ref aw), (1, .ref (ad 9 0)), (0, .ref b)]) hx hb dL_law_25 hl (k := 0) rfl (nI_s k) (by decide) rfl (fun ls hl => ?_)
      refine lv_goto (tgt := 15) hx hb dL_law_28 (by decide) ?_
      exact ih (k + 1) (by omega) _ (by rw [nI_cl (by omega)]; exact upd_3 hf) H locs hP hD hS ls hl
  exact INIT 24 0 (by omega) _ (fun j hj => by omega) H _ hP hD hS ls hl
