/-! LAYER 3, 8: the loop, the entry. -/
set_option maxHeartbeats 4000000 in
set_option maxRecDepth 100000 in
theorem law_loop {p : Program} {e : Env} {s : State} {m : MethodId} {below : List Frame} {meth : Method} {c : Code} (l : Launch) {b L : Nat} {xs : Nat → Int32} {D : va_G} {q z h : Nat → Nat} {ad : Nat → Nat → Nat} (hL : L ≤ 2560) (C0 : lw_At p s m meth c b L xs) (hG : gxO D (tyq q) s) (hZ : stKA z (fun q : Nat => s.heap.size ≤ q) s s.heap) : ∀ (n i : Nat), L < i + 5 * n + 5 → i ≤ 4000 → ∀ (xx : Nat → Nat → Nat → Int32) (x : Nat → Nat → Int32) (H : Heap) (locs : List Loc), RR xx x → va_P D vwCl (wL q ad xx h x) H → va_D (fun q : Nat => s.heap.size ≤ q) (wL q ad xx h x) → va_S (fun q : Nat => s.heap.size ≤ q) s.heap H locs → ∀ ls : Array Slot, lv_has ls 8 [(0, .ref b), (1, .ref (ad 9 0)), (2, .ref (h 0)), (3, .int (nI i))] → W p l e room_1 s m #[Value.ref b] below meth c H locs 80 2277 (lw_Z below #[Value.ref b] s) (F0 m 18 ls []) := by
  obtain ⟨hx, hb, hr, hml, hown, hts, hX, hbl, hlocks, hgv⟩ := C0
  have ht : ∀ w ∈ wsL_law, w.before #[Value.ref b] s = true := fun w hw => hts w (wsL_law_in w hw)
  have hbA : ¬ (fun q : Nat => s.heap.size ≤ q) b := Nat.not_le.mpr hbl
  have t5 : (5 : Int32).toInt = 5 := rfl
  intro n
  induction n with
  | zero =>
    intro i h1 h2 xx x H locs hR hP hD hS ls hl
    refine lv_iload_n hx hb dL_law_18 rfl (lv_at hl 3 rfl) ?_
    refine lv_aload_n hx hb dL_law_19 rfl (lv_at hl 0 rfl) ?_
    refine va_slen hx hb hX hbl hbA hS dL_law_20 ?_
    refine lv_iconst (v := 5) hx hb dL_law_21 (by decide) ?_
    refine lv_isub hx hb dL_law_22 ?_
    have e5 : (Int32.ofNat L - 5).toInt = (L : Int) - 5 := ti_sub (nI_toInt (n := L) (by omega)) t5 (by omega)
    have ei := nI_toInt (n := i) (by omega)
    refine lv_icmp_gt (tgt := 938) hx hb dL_law_23 (by decide) (fun c0 => ?_) (fun c0 => absurd (by rw [i_lt, e5, ei]; omega) c0)
    refine lv_iconst (v := 1) hx hb dL_law_938 (by decide) ?_
    refine va_forget (fun q hq => hS.2.2 q hq) ?_
    refine W.widen (k := 600000) (n := 7302249) (Nat.le_of_ble_eq_true rfl) (Nat.le_of_ble_eq_true rfl) ?_
    refine W.base ?_
    exact lw_ret (Drawn.sameBut.refl s.drawn lw_cs) hx hb hr hlocks dL_law_939
  | succ n ih =>
    intro i h1 h2 xx x H locs hR hP hD hS ls hl
    refine lv_iload_n hx hb dL_law_18 rfl (lv_at hl 3 rfl) ?_
    refine lv_aload_n hx hb dL_law_19 rfl (lv_at hl 0 rfl) ?_
    refine va_slen hx hb hX hbl hbA hS dL_law_20 ?_
    refine lv_iconst (v := 5) hx hb dL_law_21 (by decide) ?_
    refine lv_isub hx hb dL_law_22 ?_
    have e5 : (Int32.ofNat L - 5).toInt = (L : Int) - 5 := ti_sub (nI_toInt (n := L) (by omega)) t5 (by omega)
    have ei := nI_toInt (n := i) (by omega)
    refine lv_icmp_gt (tgt := 938) hx hb dL_law_23 (by decide) (fun c0 => ?_) (fun c0 => ?_)
    · refine lv_iconst (v := 1) hx hb dL_law_938 (by decide) ?_
      refine va_forget (fun q hq => hS.2.2 q hq) ?_
      refine W.widen (k := 600000) (n := 7302249) (Nat.le_of_ble_eq_true rfl) (Nat.le_of_ble_eq_true rfl) ?_
      refine W.base ?_
      exact lw_ret (Drawn.sameBut.refl s.drawn lw_cs) hx hb hr hlocks dL_law_939
    · rw [i_lt, e5, ei] at c0
      have hi : i + 5 ≤ L := by omega
      refine lv_aload_n hx hb dL_law_26 rfl (lv_at hl 0 rfl) ?_
      refine lv_iload_n hx hb dL_law_27 rfl (lv_at hl 3 rfl) ?_
      refine va_sld hx hb hX hbl hbA hS (vp_in_nI (by omega) (by omega)) dL_law_28 ?_
      refine lv_bipush (v := 31) hx hb dL_law_29 (by decide) ?_
      refine lv_iand hx hb dL_law_31 ?_
      obtain ⟨t, ht32, et⟩ := and31 (xs (nI i).toNatClampNeg)
      rw [et]
      have CX : lwX p l s m meth c (fun q : Nat => s.heap.size ≤ q) b L i xs D q z := ⟨hx, hb, hml, hown, ht, hX, hbl, hbA, hL, hi, hG, hZ⟩
      have hB : lwG p l e s m below meth c (fun q : Nat => s.heap.size ≤ q) b i D q ad h (lw_Z below #[Value.ref b] s) 932 := by
        intro xx x H locs hR hP hD hS ls hl
        refine lv_iinc (v := nI (i + 5)) (lv' := [(3, .int (nI (i + 5))), (0, .ref b), (1, .ref (ad 9 0)), (2, .ref (h 0))]) hx hb dL_law_932 hl (k := 3) rfl (nI_add i 5) (by decide) rfl (fun ls hl => ?_)
        refine lv_goto (tgt := 18) hx hb dL_law_935 (by decide) ?_
        exact ih (i + 5) (by omega) (by omega) xx x H locs hR hP hD hS ls (lv_sub hl [1, 2, 3, 0] rfl)
      by_cases c26 : 26 ≤ t
      · exact lv_tableOut (tgt := 932) hx hb dL_law_32 (Or.inr (by rw [nI_toInt (by omega)]; omega)) (by decide) (hB xx x H locs hR hP hD hS ls hl)
      rcases (show t = 0 ∨ t = 1 ∨ t = 2 ∨ t = 3 ∨ t = 4 ∨ t = 5 ∨ t = 6 ∨ t = 7 ∨ t = 8 ∨ t = 9 ∨ t = 10 ∨ t = 11 ∨ t = 12 ∨ t = 13 ∨ t = 14 ∨ t = 15 ∨ t = 16 ∨ t = 17 ∨ t = 18 ∨ t = 19 ∨ t = 20 ∨ t = 21 ∨ t = 22 ∨ t = 23 ∨ t = 24 ∨ t = 25 by omega) with rfl | rfl | rfl | rfl | rfl | rfl | rfl | rfl | rfl | rfl | rfl | rfl | rfl | rfl | rfl | rfl | rfl | rfl | rfl | rfl | rfl | rfl | rfl | rfl | rfl | rfl
      · exact lv_tableIn (off := 120) (tgt := 152) hx hb dL_law_32 (by decide) (by decide) (by decide) (by decide) (law_mill CX hB xx x H locs hR hP hD hS ls hl)
      · exact lv_tableIn (off := 153) (tgt := 185) hx hb dL_law_32 (by decide) (by decide) (by decide) (by decide) (law_house CX hB xx x H locs hR hP hD hS ls hl)
      · exact lv_tableIn (off := 176) (tgt := 208) hx hb dL_law_32 (by decide) (by decide) (by decide) (by decide) (law_wind CX hB xx x H locs hR hP hD hS ls hl)
      · exact lv_tableIn (off := 219) (tgt := 251) hx hb dL_law_32 (by decide) (by decide) (by decide) (by decide) (law_set CX hB xx x H locs hR hP hD hS ls hl)
      · exact lv_tableIn (off := 252) (tgt := 284) hx hb dL_law_32 (by decide) (by decide) (by decide) (by decide) (law_doAll CX hB xx x H locs hR hP hD hS ls hl)
      · exact lv_tableIn (off := 265) (tgt := 297) hx hb dL_law_32 (by decide) (by decide) (by decide) (by decide) (law_complain CX hB xx x H locs hR hP hD hS ls hl)
      · exact lv_tableIn (off := 318) (tgt := 350) hx hb dL_law_32 (by decide) (by decide) (by decide) (by decide) (law_sue CX hB xx x H locs hR hP hD hS ls hl)
      · exact lv_tableIn (off := 361) (tgt := 393) hx hb dL_law_32 (by decide) (by decide) (by decide) (by decide) (law_vote CX hB xx x H locs hR hP hD hS ls hl)
      · exact lv_tableIn (off := 394) (tgt := 426) hx hb dL_law_32 (by decide) (by decide) (by decide) (by decide) (law_type CX hB xx x H locs hR hP hD hS ls hl)
      · exact lv_tableIn (off := 419) (tgt := 451) hx hb dL_law_32 (by decide) (by decide) (by decide) (by decide) (law_clearText CX hB xx x H locs hR hP hD hS ls hl)
      · exact lv_tableIn (off := 432) (tgt := 464) hx hb dL_law_32 (by decide) (by decide) (by decide) (by decide) (law_fault CX hB xx x H locs hR hP hD hS ls hl)
      · exact lv_tableIn (off := 445) (tgt := 477) hx hb dL_law_32 (by decide) (by decide) (by decide) (by decide) (law_undo CX hB xx x H locs hR hP hD hS ls hl)
      · exact lv_tableIn (off := 458) (tgt := 490) hx hb dL_law_32 (by decide) (by decide) (by decide) (by decide) (law_keep CX hB xx x H locs hR hP hD hS ls hl)
      · exact lv_tableIn (off := 471) (tgt := 503) hx hb dL_law_32 (by decide) (by decide) (by decide) (by decide) (law_restore CX hB xx x H locs hR hP hD hS ls hl)
      · exact lv_tableIn (off := 484) (tgt := 516) hx hb dL_law_32 (by decide) (by decide) (by decide) (by decide) (law_yardOf CX hB xx x H locs hR hP hD hS ls hl)
      · exact lv_tableIn (off := 517) (tgt := 549) hx hb dL_law_32 (by decide) (by decide) (by decide) (by decide) (law_millOf CX hB xx x H locs hR hP hD hS ls hl)
      · exact lv_tableIn (off := 550) (tgt := 582) hx hb dL_law_32 (by decide) (by decide) (by decide) (by decide) (law_houseOf CX hB xx x H locs hR hP hD hS ls hl)
      · exact lv_tableIn (off := 583) (tgt := 615) hx hb dL_law_32 (by decide) (by decide) (by decide) (by decide) (law_noise CX hB xx x H locs hR hP hD hS ls hl)
      · exact lv_tableIn (off := 626) (tgt := 658) hx hb dL_law_32 (by decide) (by decide) (by decide) (by decide) (law_shadow CX hB xx x H locs hR hP hD hS ls hl)
      · exact lv_tableIn (off := 679) (tgt := 711) hx hb dL_law_32 (by decide) (by decide) (by decide) (by decide) (law_why CX hB xx x H locs hR hP hD hS ls hl)
      · exact lv_tableIn (off := 732) (tgt := 764) hx hb dL_law_32 (by decide) (by decide) (by decide) (by decide) (law_count CX hB xx x H locs hR hP hD hS ls hl)
      · exact lv_tableIn (off := 755) (tgt := 787) hx hb dL_law_32 (by decide) (by decide) (by decide) (by decide) (law_ground CX hB xx x H locs hR hP hD hS ls hl)
      · exact lv_tableIn (off := 798) (tgt := 830) hx hb dL_law_32 (by decide) (by decide) (by decide) (by decide) (law_quietHours CX hB xx x H locs hR hP hD hS ls hl)
      · exact lv_tableIn (off := 821) (tgt := 853) hx hb dL_law_32 (by decide) (by decide) (by decide) (by decide) (law_loudest CX hB xx x H locs hR hP hD hS ls hl)
      · exact lv_tableIn (off := 844) (tgt := 876) hx hb dL_law_32 (by decide) (by decide) (by decide) (by decide) (law_bestTied CX hB xx x H locs hR hP hD hS ls hl)
      · exact lv_tableIn (off := 867) (tgt := 899) hx hb dL_law_32 (by decide) (by decide) (by decide) (by decide) (law_ifVoted CX hB xx x H locs hR hP hD hS ls hl)
set_option maxHeartbeats 4000000 in
set_option maxRecDepth 100000 in
theorem whole_start {p : Program} {e : Env} {s : State} {m : MethodId} {below : List Frame} {meth : Method} {c : Code} (l : Launch) (hflags : l.flags = flags0) {b L : Nat} {xs : Nat → Int32} (hL : L ≤ 2560) (C0 : lw_At p s m meth c b L xs) : W p l e room_1 s m #[Value.ref b] below meth c s.heap [] 0 0 (lw_Z below #[Value.ref b] s) (entryFrame m ([Value.ref b] : List Value).toArray 8) := by
  obtain ⟨hx, hb, hr, hml, hown, hts, hX, hbl, hlocks, hgv⟩ := id C0
  have ht : ∀ w ∈ wsL_law, w.before #[Value.ref b] s = true := fun w hw => hts w (wsL_law_in w hw)
  have hA : ∀ q : Nat, s.heap.size ≤ q → (fun q : Nat => s.heap.size ≤ q) q := fun _ h => h
  obtain ⟨c0, i0, hk0⟩ := u_known (C := RX1) (T := TX1) (N := 3) (n := 3) ht inlX1 (hts _ (List.mem_of_getElem? (i := 134) (by decide +kernel)))
  obtain ⟨c1, i1, hk1⟩ := u_known (C := RX3) (T := TX3) (N := 2) (n := 2) ht inlX3 (hts _ (List.mem_of_getElem? (i := 154) (by decide +kernel)))
  obtain ⟨c2, i2, hk2⟩ := u_known (C := RX4) (T := TX4) (N := 11) (n := 11) ht inlX4 (hts _ (List.mem_of_getElem? (i := 79) (by decide +kernel)))
  obtain ⟨c3, i3, hk3⟩ := u_known (C := RX5) (T := TX5) (N := 6) (n := 6) ht inlX5 (hts _ (List.mem_of_getElem? (i := 71) (by decide +kernel)))
  obtain ⟨c4, i4, hk4⟩ := u_known (C := RX6) (T := TX6) (N := 7) (n := 7) ht inlX6 (hts _ (List.mem_of_getElem? (i := 612) (by decide +kernel)))
  obtain ⟨dC, dI, hKc⟩ : ∃ (dC : Nat → ClassId) (dI : Nat → Nat → Nat), ∀ (k : Nat) (q : vw_C), vwCl[k]? = some q → u_Kn s q.1 q.2.1 q.2.2 (dC k) (dI k) := by
    refine ⟨fun k => match k with | 0 => c0 | 1 => c1 | 2 => c2 | 3 => c3 | _ => c4, fun k => match k with | 0 => i0 | 1 => i1 | 2 => i2 | 3 => i3 | _ => i4, ?_⟩
    intro k q hq
    match k, hq with
    | 0, hq => cases hq; exact hk0
    | 1, hq => cases hq; exact hk1
    | 2, hq => cases hq; exact hk2
    | 3, hq => cases hq; exact hk3
    | 4, hq => cases hq; exact hk4
    | k + 5, hq => simp at hq
  obtain ⟨q, hq⟩ := q_all hts
  have hG : gxO (dC, dI) (tyq q) s := ⟨⟨hKc, hq⟩, nw_all hts⟩
  obtain ⟨z, hZ⟩ := st_all (A := fun q : Nat => s.heap.size ≤ q) (fun a ha => Nat.not_le.mpr ha) hts hgv
  have hZ0 : stI (z 0) (fun q : Nat => s.heap.size ≤ q) s s.heap := ⟨(hZ 0 (by omega)).1, (hZ 0 (by omega)).2, va_AO.of (hts _ (List.mem_of_getElem? (i := 140) (by decide +kernel)))⟩
  have hS : va_S (fun q : Nat => s.heap.size ≤ q) s.heap s.heap [] := va_S.rf
  have hP : va_P (dC, dI) vwCl [] s.heap := fun k q h => by simp at h
  have hD : va_D (fun q : Nat => s.heap.size ≤ q) [] := ⟨fun i j p q h => by simp at h, fun k q h => by simp at h⟩
  have hl := lv_entry ([.ref b]) (n := 8) (Nat.le_of_ble_eq_true rfl)
  rw [lg_entry_eq]
  generalize (lg_sl ([.ref b]) ++ List.replicate (8 - (lg_sl ([.ref b])).length) Slot.unset).toArray = ls at hl ⊢
  have hl : lv_has ls 8 [(0, .ref b)] := hl
  refine va_new (ci := 3) (fs := [.null, .null, .null, .int 0, .null, .null]) (C := RX5) (T := TX5) (N := 6) hx hb ht inlX5 tyX5 tyX5_ok hown (ht (.classLink RL 7 RX5) (List.mem_of_getElem? (i := 0) rfl)) (ht (.instantiable RX5 6) (List.mem_of_getElem? (i := 1) rfl)) (ht (.initialized RX5) (List.mem_of_getElem? (i := 2) rfl)) hG.1 hP hD hS hA rfl (fun j hj => by rcases (show j = 0 ∨ j = 1 ∨ j = 2 ∨ j = 3 ∨ j = 4 ∨ j = 5 by omega) with rfl | rfl | rfl | rfl | rfl | rfl <;> rfl) (Nat.le_of_ble_eq_true rfl) (Nat.le_of_ble_eq_true rfl) dL_law_0 (fun v5 H hP hD hS => ?_)
  have hP : va_P (dC, dI) vwCl [(v5, .inr (3, [.null, .null, .null, .int 0, .null, .null]))] H := hP
  have hD : va_D (fun q : Nat => s.heap.size ≤ q) [(v5, .inr (3, [.null, .null, .null, .int 0, .null, .null]))] := hD
  refine lv_dup hx hb dL_law_3 rfl ?_
  refine mk_I (wr := []) (rest := [.ref v5]) hx hb hml hown ht hl (MX5_init l (dC, dI) q v5 _ (z 0)) gL_law_X5_init rfl (ht (.initialized RX5) (List.mem_of_getElem? (i := 2) rfl)) (ht (.methodLink RL 9 yX5_init) (List.mem_of_getElem? (i := 6) rfl)) (ht (.instanceMethod yX5_init) (List.mem_of_getElem? (i := 7) rfl)) rfl (by decide +kernel) ⟨Nat.le_of_ble_eq_true rfl, Nat.le_of_ble_eq_true rfl⟩ rfl rfl hP hD hS hA hG hZ0 0 rfl [] rfl (by decide) (by decide) (Nat.le_of_ble_eq_true rfl) dL_law_4 ⟨Nat.le_of_ble_eq_true rfl, Nat.le_of_ble_eq_true rfl⟩ (fun u H locs hu hPn hDn hSn => ?_)
  obtain ⟨ad, hg, rfl⟩ := hu
  subst hg
  have hP := hPn
  have hD := hDn
  have hS := hSn
  have hP : va_P (dC, dI) vwCl (wX q ad xI) H := hP
  have hD : va_D (fun q : Nat => s.heap.size ≤ q) (wX q ad xI) := hD
  refine lv_astore_n (lv' := [(1, .ref (ad 9 0)), (0, .ref b)]) hx hb dL_law_7 rfl hl (by decide) rfl (fun ls hl => ?_)
  refine va_new (ci := 4) (fs := [.null, .null, .int 0, .null, .int 0, .null, .int 0]) (C := RX6) (T := TX6) (N := 7) hx hb ht inlX6 tyX6 tyX6_ok hown (ht (.classLink RL 10 RX6) (List.mem_of_getElem? (i := 3) rfl)) (ht (.instantiable RX6 7) (List.mem_of_getElem? (i := 4) rfl)) (ht (.initialized RX6) (List.mem_of_getElem? (i := 5) rfl)) hG.1 hP hD hS hA rfl (fun j hj => by rcases (show j = 0 ∨ j = 1 ∨ j = 2 ∨ j = 3 ∨ j = 4 ∨ j = 5 ∨ j = 6 by omega) with rfl | rfl | rfl | rfl | rfl | rfl | rfl <;> rfl) (Nat.le_of_ble_eq_true rfl) (Nat.le_of_ble_eq_true rfl) dL_law_8 (fun v6 H hP hD hS => ?_)
  refine lv_dup hx hb dL_law_11 rfl ?_
  refine mk_I (wr := wX q ad xI) (rest := [.ref v6]) hx hb hml hown ht hl (MX6_init l (dC, dI) q v6 _ (z 0)) gL_law_X6_init rfl (ht (.initialized RX6) (List.mem_of_getElem? (i := 5) rfl)) (ht (.methodLink RL 12 yX6_init) (List.mem_of_getElem? (i := 61) rfl)) (ht (.instanceMethod yX6_init) (List.mem_of_getElem? (i := 62) rfl)) rfl (by decide +kernel) ⟨Nat.le_of_ble_eq_true rfl, Nat.le_of_ble_eq_true rfl⟩ rfl rfl hP hD hS hA hG hZ0 75 rfl [0, 1, 2, 3, 4, 5, 6, 7, 8, 9, 10, 11, 12, 13, 14, 15, 16, 17, 18, 19, 20, 21, 22, 23, 24, 25, 26, 27, 28, 29, 30, 31, 32, 33, 34, 35, 36, 37, 38, 39, 40, 41, 42, 43, 44, 45, 46, 47, 48, 49, 50, 51, 52, 53, 54, 55, 56, 57, 58, 59, 60, 61, 62, 63, 64, 65, 66, 67, 68, 69, 70, 71, 72, 73, 74] rfl (by decide) (by decide) (Nat.le_of_ble_eq_true rfl) dL_law_12 ⟨Nat.le_of_ble_eq_true rfl, Nat.le_of_ble_eq_true rfl⟩ (fun u H locs hu hPn hDn hSn => ?_)
  obtain ⟨h, hg, rfl⟩ := hu
  subst hg
  have hP := hPn
  have hD := hDn
  have hS := hSn
  refine lv_astore_n (lv' := [(2, .ref (h 0)), (1, .ref (ad 9 0)), (0, .ref b)]) hx hb dL_law_15 rfl hl (by decide) rfl (fun ls hl => ?_)
  refine lv_iconst (v := 0) hx hb dL_law_16 (by decide) ?_
  refine lv_istore_n (lv' := [(3, .int 0), (2, .ref (h 0)), (1, .ref (ad 9 0)), (0, .ref b)]) hx hb dL_law_17 rfl hl (by decide) rfl (fun ls hl => ?_)
  exact law_loop l hL C0 hG hZ 600 0 (by omega) (by omega) xI mI H locs RR_0 hP hD hS ls (lv_sub hl [3, 2, 1, 0] rfl)
