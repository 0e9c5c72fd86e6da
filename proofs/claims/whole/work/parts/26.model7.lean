theorem pl_up {r : Int32} (h : 0 ≤ r.toInt) (h2 : r.toInt < 60) : 0 ≤ (r + 1).toInt ∧ (r + 1).toInt < 61 := by
  rw [ti_add (a := r) (b := 1) rfl (show (1 : Int32).toInt = 1 from rfl) (by omega)]
  omega
theorem kq_up {k N : Int32} (c : ¬ N < k) (hN : N.toInt < 2147483647) : (k + 1).toInt = k.toInt + 1 := by
  rw [i_lt] at c
  have h2 := i_rng k
  exact ti_add (a := k) (b := 1) rfl (show (1 : Int32).toInt = 1 from rfl) (by omega)
theorem kq_le {k N : Int32} (c : ¬ N < k) : k.toInt ≤ N.toInt := by
  rw [i_lt] at c; omega
theorem f_sign59 {x : Nat → Nat → Int32} {p : Int32} (h : mX6_sign x p = 59) : p.toInt < (x 4 2).toInt := by
  unfold mX6_sign at h
  by_cases h1 : x 4 2 ≤ p
  · rw [if_pos h1] at h; exact absurd h (by decide)
  · rw [i_le] at h1; omega
theorem f_canSet {w v : Int32} (h : ¬ mX6_canSet w v = 0) : 0 ≤ w.toInt ∧ w.toInt < 4 := by
  unfold mX6_canSet at h
  by_cases h0 : w = 0
  · subst h0; decide
  · rw [if_neg h0] at h
    by_cases h1 : w = 1
    · subst h1; decide
    · rw [if_neg h1] at h
      by_cases h2 : w = 2
      · subst h2; decide
      · rw [if_neg h2] at h
        by_cases h3 : w = 3
        · subst h3; decide
        · rw [if_neg h3] at h; exact absurd rfl h
/-- a copy, place by place: n places from k on, of row a (from so) into row b (from d) -/
def cpr (a so b d : Nat) : Nat → (Nat → Nat → Int32) → Nat → (Nat → Nat → Int32)
  | 0, x, _ => x
  | n + 1, x, k => cpr a so b d n (setA x b (upd (x b) (d + k) (x a (so + k)))) (k + 1)
theorem setA_same (x : Nat → Nat → Int32) (b : Nat) (f : Nat → Int32) : setA x b f b = f := by
  unfold setA
  have : Nat.beq b b = true := Nat.beq_refl b
  rw [this]; rfl
theorem setA_ne (x : Nat → Nat → Int32) {b j : Nat} (f : Nat → Int32) (h : j ≠ b) : setA x b f j = x j := by
  unfold setA
  have : Nat.beq j b = false := by
    cases hc : Nat.beq j b with
    | false => rfl
    | true => exact absurd (Nat.eq_of_beq_eq_true hc) h
  rw [this]; rfl
theorem cpr_ne (a so b d : Nat) {j : Nat} (hj : j ≠ b) : ∀ (n : Nat) (x : Nat → Nat → Int32) (k : Nat), cpr a so b d n x k j = x j
  | 0, x, k => rfl
  | n + 1, x, k => by
    rw [cpr, cpr_ne a so b d hj n, setA_ne _ _ hj]
theorem cpr_out (a so b d : Nat) : ∀ (n : Nat) (x : Nat → Nat → Int32) (k i : Nat), (i < d + k ∨ d + k + n ≤ i) → cpr a so b d n x k b i = x b i
  | 0, x, k, i, _ => rfl
  | n + 1, x, k, i, h => by
    rw [cpr, cpr_out a so b d n _ (k + 1) i (by omega), setA_same]
    exact pk_un (by omega)
theorem cpr_in (a so b d : Nat) : ∀ (n : Nat) (x : Nat → Nat → Int32) (k i : Nat), (∀ i j, k ≤ i → i < j → j < k + n → ¬ (a = b ∧ d + i = so + j)) → k ≤ i → i < k + n → cpr a so b d n x k b (d + i) = x a (so + i)
  | 0, x, k, i, _, h1, h2 => by omega
  | n + 1, x, k, i, H, h1, h2 => by
    rw [cpr]
    by_cases hi : i = k
    · subst hi
      rw [cpr_out a so b d n _ (i + 1) (d + i) (by omega), setA_same]
      exact pk_us
    · rw [cpr_in a so b d n _ (k + 1) i (fun i j q1 q2 q3 => H i j (by omega) q2 (by omega)) (by omega) (by omega)]
      by_cases hab : a = b
      · subst hab
        rw [setA_same]
        exact pk_un (fun q => H k i (Nat.le_refl _) (by omega) (by omega) ⟨rfl, q.symm⟩)
      · exact congrFun (setA_ne _ _ hab) _
theorem cl_nI {k : Nat} (h : k < 2147483648) : (nI k).toNatClampNeg = k := nI_clamp h
theorem cl_add {m k : Nat} (M : Int32) (hM : M = nI m) (h : m + k < 2147483648) : (M + nI k).toNatClampNeg = m + k := by
  rw [hM, nI_add]; exact nI_clamp h
theorem tr_lit {n : Nat} (N : Int32) (hN : N.toInt = n) : tr 0 N = n := by
  unfold tr
  rw [hN]
  show ((n : Int) - 0).toNat = n
  omega
def mX6_fault_4 (x : Nat → Nat → Int32) (C : Int32 → Int32 → Int32) : Nat → Int32 → Int32 → Int32
  | 0, x2_4, x1_4 => C x2_4 x1_4
  | n_4 + 1, x2_4, x1_4 => (lt (mX6_partEnd x x1_4) (fun r_2 => (if 0 ≤ r_2 then (if r_2 = (x 4 2) then (-5) else (lt (mX6_sign x r_2) (fun r_5 => (if r_5 = 59 then (mX6_fault_4 x C n_4 (x2_4 + 1) (r_2 + 1)) else r_2)))) else ((-1) - r_2))))
def mX6_fault (x : Nat → Nat → Int32) : Int32 := (mX6_fault_4 x (fun x2_4 x1_4 => (-5)) (tr 0 60) 0 0)
theorem kX6_fault : yX6_fault.cls = RX6 ∧ yX6_fault.cls ≠ "java/lang/invoke/MethodHandle" ∧ yX6_fault.cls ≠ "java/lang/invoke/VarHandle" ∧ (parseMethodDescriptor yX6_fault.desc).map (fun d => d.parameters.length) = some 0 := by decide +kernel
theorem iX6_fault_X6 : ∀ w ∈ wsX60, w ∈ wsX6_fault := fun w h => (List.mem_cons_of_mem _ (List.mem_append_right _ h))
set_option maxHeartbeats 4000000 in
set_option maxRecDepth 100000 in
theorem MX6_fault (l : Launch) (D : va_G) (q : Nat → ClassId) (h : Nat → Nat) (x : Nat → Nat → Int32)  (hL : 0 ≤ (x 4 2).toInt ∧ (x 4 2).toInt < 61) : roM l D (tyq q) yX6_fault wsX6_fault ({ frames := 5, cells := 0, slots := 0, locals := 110 } : Room) [.ref (h 0)] (wM q h x) (some (.int (mX6_fault x))) := by
  obtain ⟨R, hR⟩ : ∃ z, (mX6_fault x) = z := ⟨_, rfl⟩
  rw [hR]
  unfold mX6_fault at hR
  refine roM.of (cc := cX6_fault) (maxL := 4) (ret := (some .int)) (by decide) rfl (Nat.le_of_ble_eq_true rfl) ?_
  intro p e s m below meth c ls hx hb hr hk hml hown hts hP hD hG hl
  have hl : lv_has ls 4 [(0, .ref (h 0))] := hl
  refine lv_iconst (v := 0) hx hb dX6_fault_0 (by decide) ?_
  refine lv_istore_n (lv' := [(1, .int 0), (0, .ref (h 0))]) hx hb dX6_fault_1 rfl hl (by decide) rfl (fun ls hl => ?_)
  refine lv_iconst (v := 0) hx hb dX6_fault_2 (by decide) ?_
  refine lv_istore_n (lv' := [(2, .int 0), (1, .int 0), (0, .ref (h 0))]) hx hb dX6_fault_3 rfl hl (by decide) rfl (fun ls hl => ?_)
  have key_4 : ∀ (n_4 : Nat) (x2_4 : Int32) (x1_4 : Int32), tr x2_4 60 = n_4 → 0 ≤ x2_4.toInt → (0 ≤ x1_4.toInt ∧ x1_4.toInt < 61) → mX6_fault_4 x (fun x2_4 x1_4 => (-5)) n_4 x2_4 x1_4 = R → ∀ ls : Array Slot, lv_has ls 4 [(2, .int x2_4), (1, .int x1_4), (0, .ref (h 0))] → W p l e ({ frames := 5, cells := 0, slots := 0, locals := 110 } : Room) s m ([.ref (h 0)] : List Value).toArray below meth c s.heap [] 0 0 (MQ below (roQ (some (.int R))) ([.ref (h 0)] : List Value).toArray s 0 0 (fun _ => False)) (F0 m 4 ls []) := by
    intro n_4
    induction n_4 with
    | zero =>
      intro x2_4 x1_4 hn_4 hk_4 hp_4 hR ls hl
      rw [mX6_fault_4] at hR
      refine lv_iload_n hx hb dX6_fault_4 rfl (lv_at hl 0 rfl) ?_
      refine lv_bipush (v := 60) hx hb dX6_fault_5 (by decide) ?_
      refine lv_icmp_ge (tgt := 57) hx hb dX6_fault_7 (by decide) (fun c_1 => ?_) (fun c_1 => (tr0 hn_4 c_1).elim)
      refine lv_bipush (v := (-5)) hx hb dX6_fault_57 (by decide) ?_
      exact ro_iret hx hb hr hk hR dX6_fault_59
    | succ n_4 ih_4 =>
      intro x2_4 x1_4 hn_4 hk_4 hp_4 hR ls hl
      rw [mX6_fault_4] at hR
      refine lv_iload_n hx hb dX6_fault_4 rfl (lv_at hl 0 rfl) ?_
      refine lv_bipush (v := 60) hx hb dX6_fault_5 (by decide) ?_
      refine lv_icmp_ge (tgt := 57) hx hb dX6_fault_7 (by decide) (fun c_1 => (trS hn_4 c_1).elim) (fun c_1 => ?_)
      have hlt_c_1 : x2_4.toInt < 60 := k_lt c_1
      refine lv_aload_n hx hb dX6_fault_10 rfl (lv_at hl 2 rfl) ?_
      refine lv_iload_n hx hb dX6_fault_11 rfl (lv_at hl 1 rfl) ?_
      refine ro_V (v := .int (mX6_partEnd x x1_4)) (rest := []) (As := [.int x1_4]) hx hb hml hown hts hl (MX6_partEnd l D q h x x1_4 hL (rg_t (i := x1_4) (x := (x1_4).toInt) rfl (by omega))) gX6_fault_X6_partEnd rfl kX6_partEnd ⟨Nat.le_of_ble_eq_true rfl, Nat.le_of_ble_eq_true rfl⟩ rfl rfl hP (dT hD) hG (ci := 4) rfl rfl rfl rfl (Nat.le_of_ble_eq_true rfl) dX6_fault_12 ⟨Nat.zero_le _, Nat.zero_le _⟩ ?_
      obtain ⟨r_2, er_2⟩ : ∃ z, z = (mX6_partEnd x x1_4) := ⟨_, rfl⟩
      have b0_r_2 := b_partEnd x x1_4 (by omega)
      rw [← er_2] at b0_r_2
      rw [← er_2]
      replace hR := lt_e hR er_2
      refine lv_istore_n (lv' := [(3, .int r_2), (2, .int x2_4), (1, .int x1_4), (0, .ref (h 0))]) hx hb dX6_fault_15 rfl hl (by decide) rfl (fun ls hl => ?_)
      refine lv_iload_n hx hb dX6_fault_16 rfl (lv_at hl 0 rfl) ?_
      refine lv_if_ge (tgt := 24) hx hb dX6_fault_17 (by decide) (fun c_3 => ?_) (fun c_3 => ?_)
      · rw [if_pos c_3] at hR
        have tc_3 : 0 ≤ r_2.toInt := i_le.mp c_3
        refine lv_iload_n hx hb dX6_fault_24 rfl (lv_at hl 0 rfl) ?_
        refine lv_aload_n hx hb dX6_fault_25 rfl (lv_at hl 3 rfl) ?_
        refine va_get (D := D) (ci := 4) (v := .int (x 4 2)) (C := RX6) (T := TX6) (N := 7) hx hb hts iX6_fault_X6 hown hG.1 hP 0 rfl rfl 6 (by decide) (hts (.fieldLink RX6 154 "MillComplaintsModel" "length" "I") (List.mem_of_getElem? (i := 1) rfl)) (fun _ h9 => h9) rfl dX6_fault_26 ?_
        refine lv_icmp_ne (tgt := 35) hx hb dX6_fault_29 (by decide) (fun c_4 => ?_) (fun c_4 => ?_)
        · rw [if_neg c_4] at hR
          have tc_4 : ¬ r_2.toInt = (x 4 2).toInt := fun z => c_4 (i_eq.mpr z)
          refine lv_aload_n hx hb dX6_fault_35 rfl (lv_at hl 3 rfl) ?_
          refine lv_iload_n hx hb dX6_fault_36 rfl (lv_at hl 0 rfl) ?_
          refine ro_V (v := .int (mX6_sign x r_2)) (rest := []) (As := [.int r_2]) hx hb hml hown hts hl (MX6_sign l D q h x r_2 hL (rg_t (i := r_2) (x := (r_2).toInt) rfl (by omega))) gX6_fault_X6_sign rfl kX6_sign ⟨Nat.le_of_ble_eq_true rfl, Nat.le_of_ble_eq_true rfl⟩ rfl rfl hP (dT hD) hG (ci := 4) rfl rfl rfl rfl (Nat.le_of_ble_eq_true rfl) dX6_fault_37 ⟨Nat.zero_le _, Nat.zero_le _⟩ ?_
          obtain ⟨r_5, er_5⟩ : ∃ z, z = (mX6_sign x r_2) := ⟨_, rfl⟩
          rw [← er_5]
          replace hR := lt_e hR er_5
          refine lv_bipush (v := 59) hx hb dX6_fault_40 (by decide) ?_
          refine lv_icmp_eq (tgt := 47) hx hb dX6_fault_42 (by decide) (fun c_6 => ?_) (fun c_6 => ?_)
          · rw [if_pos c_6] at hR
            have tc_6 : r_5.toInt = 59 := i_eq.mp c_6
            have fc_6 := f_sign59 (x := x) (p := r_2) (by rw [← er_5]; exact c_6)
            refine lv_iload_n hx hb dX6_fault_47 rfl (lv_at hl 0 rfl) ?_
            refine lv_iconst (v := 1) hx hb dX6_fault_48 (by decide) ?_
            refine lv_iadd hx hb dX6_fault_49 ?_
            refine lv_istore_n (lv' := [(1, .int (r_2 + 1)), (3, .int r_2), (2, .int x2_4), (0, .ref (h 0))]) hx hb dX6_fault_50 rfl hl (by decide) rfl (fun ls hl => ?_)
            refine lv_iinc (v := (x2_4 + 1)) (lv' := [(2, .int (x2_4 + 1)), (1, .int (r_2 + 1)), (3, .int r_2), (0, .ref (h 0))]) hx hb dX6_fault_51 hl (k := 2) rfl rfl (by decide) rfl (fun ls hl => ?_)
            refine lv_goto (tgt := 4) hx hb dX6_fault_54 (by decide) ?_
            exact ih_4 (x2_4 + 1) (r_2 + 1) (trN hn_4) (k_up hk_4 c_1) (pl_up (by omega) (by omega)) hR ls (lv_sub hl [0, 1, 3] rfl)
          · rw [if_neg c_6] at hR
            have tc_6 : ¬ r_5.toInt = 59 := fun z => c_6 (i_eq.mpr z)
            refine lv_iload_n hx hb dX6_fault_45 rfl (lv_at hl 0 rfl) ?_
            exact ro_iret hx hb hr hk hR dX6_fault_46
        · rw [if_pos c_4] at hR
          have tc_4 : r_2.toInt = (x 4 2).toInt := i_eq.mp c_4
          refine lv_bipush (v := (-5)) hx hb dX6_fault_32 (by decide) ?_
          exact ro_iret hx hb hr hk hR dX6_fault_34
      · rw [if_neg c_3] at hR
        have tc_3 : ¬ 0 ≤ r_2.toInt := fun z => c_3 (i_le.mpr z)
        refine lv_iconst (v := (-1)) hx hb dX6_fault_20 (by decide) ?_
        refine lv_iload_n hx hb dX6_fault_21 rfl (lv_at hl 0 rfl) ?_
        refine lv_isub hx hb dX6_fault_22 ?_
        exact ro_iret hx hb hr hk hR dX6_fault_23
  exact key_4 _ 0 0 rfl (by decide) (by decide) hR ls hl

def mX6_copies_2  (C : (Nat → Nat → Int32) → Int32 → ((Nat → Nat → Int32))) : Nat → (Nat → Nat → Int32) → Int32 → ((Nat → Nat → Int32))
  | 0, xL_2, x1_2 => C xL_2 x1_2
  | n_2 + 1, xL_2, x1_2 => (lt (setA xL_2 0 (upd (xL_2 0) ((148 + x1_2) : Int32).toNatClampNeg ((xL_2 0) (x1_2).toNatClampNeg))) (fun x_2 => (mX6_copies_2  C n_2 x_2 (x1_2 + 1))))
def mX6_copies (x : Nat → Nat → Int32) : (Nat → Nat → Int32) := (mX6_copies_2  (fun xL_2 x1_2 => xL_2) (tr 0 148) x 0)
theorem kX6_copies : yX6_copies.cls = RX6 ∧ yX6_copies.cls ≠ "java/lang/invoke/MethodHandle" ∧ yX6_copies.cls ≠ "java/lang/invoke/VarHandle" ∧ (parseMethodDescriptor yX6_copies.desc).map (fun d => d.parameters.length) = some 0 := by decide +kernel
theorem iX6_copies_X6 : ∀ w ∈ wsX60, w ∈ wsX6_copies := fun w h => (List.mem_cons_of_mem _ (List.mem_append_right _ h))
set_option maxHeartbeats 4000000 in
set_option maxRecDepth 100000 in
theorem MX6_copies (l : Launch) (D : va_G) (q : Nat → ClassId) (h : Nat → Nat) (x : Nat → Nat → Int32)   : muM l D (tyq q) yX6_copies wsX6_copies ({ frames := 0, cells := 0, slots := 0, locals := 0 } : Room) [.ref (h 0)] (wM q h x) none (wM q h (mX6_copies x)) := by
  obtain ⟨R, hR⟩ : ∃ z, (mX6_copies x) = z := ⟨_, rfl⟩
  rw [hR]
  unfold mX6_copies at hR
  refine muM.of (cc := cX6_copies) (maxL := 2) (ret := none) (by decide) rfl (Nat.le_of_ble_eq_true rfl) ?_
  intro p e s m below meth c ls A hx hb hr hk hml hown hts hP hD hG hA hl
  have hS : va_S A s.heap s.heap [] := va_S.rf
  have hl : lv_has ls 2 [(0, .ref (h 0))] := hl
  refine lv_iconst (v := 0) hx hb dX6_copies_0 (by decide) ?_
  refine lv_istore_n (lv' := [(1, .int 0), (0, .ref (h 0))]) hx hb dX6_copies_1 rfl hl (by decide) rfl (fun ls hl => ?_)
  have key_2 : ∀ (n_2 : Nat) (xL_2 : Nat → Nat → Int32) (x1_2 : Int32) (H : Heap) (locs : List Loc) , tr x1_2 148 = n_2 → 0 ≤ x1_2.toInt → mX6_copies_2  (fun xL_2 x1_2 => xL_2) n_2 xL_2 x1_2 = R → va_P D vwCl (wM q h xL_2) H → va_D A (wM q h xL_2) → va_S A s.heap H locs → ∀ ls : Array Slot, lv_has ls 2 [(1, .int x1_2), (0, .ref (h 0))] → W p l e ({ frames := 0, cells := 0, slots := 0, locals := 0 } : Room) s m ([.ref (h 0)] : List Value).toArray below meth c H locs 0 0 (MQ below (muQ D none (wM q h x) (wM q h R)) ([.ref (h 0)] : List Value).toArray s 0 0 (wAt (wM q h x))) (F0 m 2 ls []) := by
    intro n_2
    induction n_2 with
    | zero =>
      intro xL_2 x1_2 H locs hn_2 hk_2 hR hP hD hS ls hl
      rw [mX6_copies_2] at hR
      refine lv_iload_n hx hb dX6_copies_2 rfl (lv_at hl 0 rfl) ?_
      refine lv_sipush (v := 148) hx hb dX6_copies_3 (by decide) ?_
      refine lv_icmp_ge (tgt := 31) hx hb dX6_copies_6 (by decide) (fun c_1 => ?_) (fun c_1 => (tr0 hn_2 c_1).elim)
      subst hR
      exact mu_vret hx hb hr hk hA hS hP dX6_copies_31
    | succ n_2 ih_2 =>
      intro xL_2 x1_2 H locs hn_2 hk_2 hR hP hD hS ls hl
      rw [mX6_copies_2] at hR
      refine lv_iload_n hx hb dX6_copies_2 rfl (lv_at hl 0 rfl) ?_
      refine lv_sipush (v := 148) hx hb dX6_copies_3 (by decide) ?_
      refine lv_icmp_ge (tgt := 31) hx hb dX6_copies_6 (by decide) (fun c_1 => (trS hn_2 c_1).elim) (fun c_1 => ?_)
      have hlt_c_1 : x1_2.toInt < 148 := k_lt c_1
      refine lv_aload_n hx hb dX6_copies_9 rfl (lv_at hl 1 rfl) ?_
      refine va_get (D := D) (ci := 4) (v := .ref (h 1)) (C := RX6) (T := TX6) (N := 7) hx hb hts iX6_copies_X6 hown hG.1 hP 0 rfl rfl 0 (by decide) (hts (.fieldLink RX6 7 "MillComplaintsModel" "s" "[I") (List.mem_of_getElem? (i := 1) rfl)) (fun _ h9 => h9) rfl dX6_copies_10 ?_
      refine lv_sipush (v := 148) hx hb dX6_copies_13 (by decide) ?_
      refine lv_iload_n hx hb dX6_copies_16 rfl (lv_at hl 0 rfl) ?_
      refine lv_iadd hx hb dX6_copies_17 ?_
      refine lv_aload_n hx hb dX6_copies_18 rfl (lv_at hl 1 rfl) ?_
      refine va_get (D := D) (ci := 4) (v := .ref (h 1)) (C := RX6) (T := TX6) (N := 7) hx hb hts iX6_copies_X6 hown hG.1 hP 0 rfl rfl 0 (by decide) (hts (.fieldLink RX6 7 "MillComplaintsModel" "s" "[I") (List.mem_of_getElem? (i := 1) rfl)) (fun _ h9 => h9) rfl dX6_copies_19 ?_
      refine lv_iload_n hx hb dX6_copies_22 rfl (lv_at hl 0 rfl) ?_
      refine va_iald hx hb hG.1 hP 1 0 rfl rfl (ix_t (i := x1_2) (x := (x1_2).toInt) (n := 296) rfl (by omega)) dX6_copies_23 ?_
      refine va_iast hx hb hG.1 hP hD hS 1 0 rfl rfl (ix_t (i := (148 + x1_2)) (x := (148 + (x1_2).toInt)) (n := 296) (ti_add (show (148 : Int32).toInt = 148 from rfl) rfl (by omega)) (by omega)) dX6_copies_24 (fun H locs hP hD hS => ?_)
      have hP : va_P D vwCl (wM q h (setA xL_2 0 (upd (xL_2 0) ((148 + x1_2) : Int32).toNatClampNeg ((xL_2 0) (x1_2).toNatClampNeg)))) H := hP
      have hD : va_D A (wM q h (setA xL_2 0 (upd (xL_2 0) ((148 + x1_2) : Int32).toNatClampNeg ((xL_2 0) (x1_2).toNatClampNeg)))) := hD
      obtain ⟨x_2, ex_2⟩ : ∃ z, z = (setA xL_2 0 (upd (xL_2 0) ((148 + x1_2) : Int32).toNatClampNeg ((xL_2 0) (x1_2).toNatClampNeg))) := ⟨_, rfl⟩
      rw [← ex_2] at hP hD
      replace hR := lt_e hR ex_2
      refine lv_iinc (v := (x1_2 + 1)) (lv' := [(1, .int (x1_2 + 1)), (0, .ref (h 0))]) hx hb dX6_copies_25 hl (k := 0) rfl rfl (by decide) rfl (fun ls hl => ?_)
      refine lv_goto (tgt := 2) hx hb dX6_copies_28 (by decide) ?_
      exact ih_2 x_2 (x1_2 + 1) _ _ (trN hn_2) (k_up hk_2 c_1) hR hP hD hS ls (lv_sub hl [0, 1] rfl)
  exact key_2 _ x 0 _ _ rfl (by decide) hR hP hD hS ls hl
theorem copies_cp (C : (Nat → Nat → Int32) → Int32 → (Nat → Nat → Int32)) : ∀ (n : Nat) (x : Nat → Nat → Int32) (k : Nat), k + n ≤ 148 → mX6_copies_2 C n x (nI k) = C (cpr 0 0 0 148 n x k) (nI (k + n))
  | 0, x, k, _ => by rw [mX6_copies_2]; rfl
  | n + 1, x, k, h => by
    rw [mX6_copies_2]
    dsimp only [lt]
    rw [nI_1, cl_add (m := 148) 148 rfl (by omega), cl_nI (by omega), copies_cp C n _ (k + 1) (by omega), cpr, Nat.zero_add, show k + 1 + n = k + (n + 1) by omega]
theorem copies_eq (x : Nat → Nat → Int32) : mX6_copies x = cpr 0 0 0 148 148 x 0 := by
  unfold mX6_copies
  rw [tr_lit 148 rfl]
  exact copies_cp _ 148 x 0 (by omega)
theorem k4_copies (x : Nat → Nat → Int32) : mX6_copies x 4 = x 4 := by
  rw [copies_eq]; exact cpr_ne 0 0 0 148 (by omega) _ _ _
theorem copies_lo (x : Nat → Nat → Int32) {i : Nat} (h : i < 148) : mX6_copies x 0 i = x 0 i := by
  rw [copies_eq]; exact cpr_out 0 0 0 148 _ _ _ _ (by omega)
theorem copies_hi (x : Nat → Nat → Int32) {i : Nat} (h : i < 148) : mX6_copies x 0 (148 + i) = x 0 i := by
  rw [copies_eq, cpr_in 0 0 0 148 148 x 0 i (fun i j q1 q2 q3 q4 => by omega) (by omega) (by omega), Nat.zero_add]
theorem cnt_copies {x : Nat → Nat → Int32} (h : cntP x 0) : cntP (mX6_copies x) 148 := by
  obtain ⟨h1, h2⟩ := h
  have e1 : mX6_copies x 0 ((148 : Int32) + 0).toNatClampNeg = x 0 ((0 : Int32) + 0).toNatClampNeg := copies_hi x (i := 0) (by omega)
  have e2 : mX6_copies x 0 ((148 : Int32) + 13).toNatClampNeg = x 0 ((0 : Int32) + 13).toNatClampNeg := copies_hi x (i := 13) (by omega)
  unfold cntP
  rw [e1, e2]
  exact ⟨h1, h2⟩

def mX6_remembers_51  (C : (Nat → Nat → Int32) → Int32 → ((Nat → Nat → Int32))) : Nat → (Nat → Nat → Int32) → Int32 → ((Nat → Nat → Int32))
  | 0, xL_51, x1_51 => C xL_51 x1_51
  | n_51 + 1, xL_51, x1_51 => (lt (setA xL_51 1 (upd (xL_51 1) (((148 * (xL_51 4 0)) + x1_51) : Int32).toNatClampNeg ((xL_51 0) (x1_51).toNatClampNeg))) (fun x_4 => (mX6_remembers_51  C n_51 x_4 (x1_51 + 1))))
def mX6_remembers_51_a  (C : (Nat → Nat → Int32) → Int32 → ((Nat → Nat → Int32))) : Nat → (Nat → Nat → Int32) → Int32 → ((Nat → Nat → Int32))
  | 0, xL_51, x1_51 => C xL_51 x1_51
  | n_51 + 1, xL_51, x1_51 => (lt (setA xL_51 1 (upd (xL_51 1) (((148 * (xL_51 4 0)) + x1_51) : Int32).toNatClampNeg ((xL_51 0) (x1_51).toNatClampNeg))) (fun x_9 => (mX6_remembers_51_a  C n_51 x_9 (x1_51 + 1))))
def mX6_remembers_10  (C : (Nat → Nat → Int32) → Int32 → ((Nat → Nat → Int32))) : Nat → (Nat → Nat → Int32) → Int32 → ((Nat → Nat → Int32))
  | 0, xL_10, x1_10 => C xL_10 x1_10
  | n_10 + 1, xL_10, x1_10 => (lt (setA xL_10 1 (upd (xL_10 1) (x1_10 : Int32).toNatClampNeg ((xL_10 1) ((148 + x1_10)).toNatClampNeg))) (fun x_10 => (mX6_remembers_10  C n_10 x_10 (x1_10 + 1))))
def mX6_remembers (x : Nat → Nat → Int32) : (Nat → Nat → Int32) := (if (x 4 0) = 4 then (mX6_remembers_10  (fun xL_10 x1_10 => (lt (setA xL_10 4 (upd (xL_10 4) 0 ((xL_10 4 0) - 1))) (fun x_6 => (mX6_remembers_51_a  (fun xL_51 x1_51 => (lt (setA xL_51 4 (upd (xL_51 4) 0 ((xL_51 4 0) + 1))) (fun x_8 => x_8))) (tr 0 148) x_6 0)))) (tr 0 444) x 0) else (mX6_remembers_51  (fun xL_51 x1_51 => (lt (setA xL_51 4 (upd (xL_51 4) 0 ((xL_51 4 0) + 1))) (fun x_3 => x_3))) (tr 0 148) x 0))
theorem kX6_remembers : yX6_remembers.cls = RX6 ∧ yX6_remembers.cls ≠ "java/lang/invoke/MethodHandle" ∧ yX6_remembers.cls ≠ "java/lang/invoke/VarHandle" ∧ (parseMethodDescriptor yX6_remembers.desc).map (fun d => d.parameters.length) = some 0 := by decide +kernel
theorem iX6_remembers_X6 : ∀ w ∈ wsX60, w ∈ wsX6_remembers := fun w h => (List.mem_cons_of_mem _ (List.mem_append_right _ h))
set_option maxHeartbeats 4000000 in
set_option maxRecDepth 100000 in
theorem MX6_remembers (l : Launch) (D : va_G) (q : Nat → ClassId) (h : Nat → Nat) (x : Nat → Nat → Int32)  (hkn : 0 ≤ (x 4 0).toInt ∧ (x 4 0).toInt < 5) : muM l D (tyq q) yX6_remembers wsX6_remembers ({ frames := 0, cells := 0, slots := 0, locals := 0 } : Room) [.ref (h 0)] (wM q h x) none (wM q h (mX6_remembers x)) := by
  obtain ⟨R, hR⟩ : ∃ z, (mX6_remembers x) = z := ⟨_, rfl⟩
  rw [hR]
  unfold mX6_remembers at hR
  refine muM.of (cc := cX6_remembers) (maxL := 2) (ret := none) (by decide) rfl (Nat.le_of_ble_eq_true rfl) ?_
  intro p e s m below meth c ls A hx hb hr hk hml hown hts hP hD hG hA hl
  have hS : va_S A s.heap s.heap [] := va_S.rf
  have hl : lv_has ls 2 [(0, .ref (h 0))] := hl
  refine lv_aload_n hx hb dX6_remembers_0 rfl (lv_at hl 0 rfl) ?_
  refine va_get (D := D) (ci := 4) (v := .int (x 4 0)) (C := RX6) (T := TX6) (N := 7) hx hb hts iX6_remembers_X6 hown hG.1 hP 0 rfl rfl 2 (by decide) (hts (.fieldLink RX6 26 "MillComplaintsModel" "known" "I") (List.mem_of_getElem? (i := 1) rfl)) (fun _ h9 => h9) rfl dX6_remembers_1 ?_
  refine lv_iconst (v := 4) hx hb dX6_remembers_4 (by decide) ?_
  refine lv_icmp_ne (tgt := 49) hx hb dX6_remembers_5 (by decide) (fun c_1 => ?_) (fun c_1 => ?_)
  · rw [if_neg c_1] at hR
    have tc_1 : ¬ (x 4 0).toInt = 4 := fun z => c_1 (i_eq.mpr z)
    refine lv_iconst (v := 0) hx hb dX6_remembers_49 (by decide) ?_
    refine lv_istore_n (lv' := [(1, .int 0), (0, .ref (h 0))]) hx hb dX6_remembers_50 rfl hl (by decide) rfl (fun ls hl => ?_)
    have key_51 : ∀ (n_51 : Nat) (xL_51 : Nat → Nat → Int32) (x1_51 : Int32) (H : Heap) (locs : List Loc) , tr x1_51 148 = n_51 → 0 ≤ x1_51.toInt → 0 ≤ (xL_51 4 0).toInt ∧ (xL_51 4 0).toInt < 4 → mX6_remembers_51  (fun xL_51 x1_51 => (lt (setA xL_51 4 (upd (xL_51 4) 0 ((xL_51 4 0) + 1))) (fun x_3 => x_3))) n_51 xL_51 x1_51 = R → va_P D vwCl (wM q h xL_51) H → va_D A (wM q h xL_51) → va_S A s.heap H locs → ∀ ls : Array Slot, lv_has ls 2 [(1, .int x1_51), (0, .ref (h 0))] → W p l e ({ frames := 0, cells := 0, slots := 0, locals := 0 } : Room) s m ([.ref (h 0)] : List Value).toArray below meth c H locs 0 0 (MQ below (muQ D none (wM q h x) (wM q h R)) ([.ref (h 0)] : List Value).toArray s 0 0 (wAt (wM q h x))) (F0 m 51 ls []) := by
      intro n_51
      induction n_51 with
      | zero =>
        intro xL_51 x1_51 H locs hn_51 hk_51 hs_51 hR hP hD hS ls hl
        rw [mX6_remembers_51] at hR
        refine lv_iload_n hx hb dX6_remembers_51 rfl (lv_at hl 0 rfl) ?_
        refine lv_sipush (v := 148) hx hb dX6_remembers_52 (by decide) ?_
        refine lv_icmp_ge (tgt := 85) hx hb dX6_remembers_55 (by decide) (fun c_2 => ?_) (fun c_2 => (tr0 hn_51 c_2).elim)
        refine lv_aload_n hx hb dX6_remembers_85 rfl (lv_at hl 1 rfl) ?_
        refine lv_dup hx hb dX6_remembers_86 rfl ?_
        refine va_get (D := D) (ci := 4) (v := .int (xL_51 4 0)) (C := RX6) (T := TX6) (N := 7) hx hb hts iX6_remembers_X6 hown hG.1 hP 0 rfl rfl 2 (by decide) (hts (.fieldLink RX6 26 "MillComplaintsModel" "known" "I") (List.mem_of_getElem? (i := 1) rfl)) (fun _ h9 => h9) rfl dX6_remembers_87 ?_
        refine lv_iconst (v := 1) hx hb dX6_remembers_90 (by decide) ?_
        refine lv_iadd hx hb dX6_remembers_91 ?_
        refine va_put (D := D) (ci := 4) (v := .int ((xL_51 4 0) + 1)) (ty := .int) (C := RX6) (T := TX6) (N := 7) hx hb hts iX6_remembers_X6 tyX6 tyX6_ok nmX6 hown hG.1 hP hD hS 0 rfl rfl 2 (by decide) (hts (.fieldLink RX6 26 "MillComplaintsModel" "known" "I") (List.mem_of_getElem? (i := 1) rfl)) (fun _ h9 => h9) rfl (by decide +kernel) rfl rfl (Nat.le_of_ble_eq_true rfl) dX6_remembers_92 (fun H locs hP hD hS => ?_)
        have hP : va_P D vwCl (wM q h (setA xL_51 4 (upd (xL_51 4) 0 ((xL_51 4 0) + 1)))) H := hP
        have hD : va_D A (wM q h (setA xL_51 4 (upd (xL_51 4) 0 ((xL_51 4 0) + 1)))) := hD
        obtain ⟨x_3, ex_3⟩ : ∃ z, z = (setA xL_51 4 (upd (xL_51 4) 0 ((xL_51 4 0) + 1))) := ⟨_, rfl⟩
        rw [← ex_3] at hP hD
        replace hR := lt_e hR ex_3
        subst hR
        exact mu_vret hx hb hr hk hA hS hP dX6_remembers_95
      | succ n_51 ih_51 =>
        intro xL_51 x1_51 H locs hn_51 hk_51 hs_51 hR hP hD hS ls hl
        rw [mX6_remembers_51] at hR
        refine lv_iload_n hx hb dX6_remembers_51 rfl (lv_at hl 0 rfl) ?_
        refine lv_sipush (v := 148) hx hb dX6_remembers_52 (by decide) ?_
        refine lv_icmp_ge (tgt := 85) hx hb dX6_remembers_55 (by decide) (fun c_2 => (trS hn_51 c_2).elim) (fun c_2 => ?_)
        have hlt_c_2 : x1_51.toInt < 148 := k_lt c_2
        refine lv_aload_n hx hb dX6_remembers_58 rfl (lv_at hl 1 rfl) ?_
        refine va_get (D := D) (ci := 4) (v := .ref (h 2)) (C := RX6) (T := TX6) (N := 7) hx hb hts iX6_remembers_X6 hown hG.1 hP 0 rfl rfl 1 (by decide) (hts (.fieldLink RX6 13 "MillComplaintsModel" "past" "[I") (List.mem_of_getElem? (i := 2) rfl)) (fun _ h9 => h9) rfl dX6_remembers_59 ?_
        refine lv_sipush (v := 148) hx hb dX6_remembers_62 (by decide) ?_
        refine lv_aload_n hx hb dX6_remembers_65 rfl (lv_at hl 1 rfl) ?_
        refine va_get (D := D) (ci := 4) (v := .int (xL_51 4 0)) (C := RX6) (T := TX6) (N := 7) hx hb hts iX6_remembers_X6 hown hG.1 hP 0 rfl rfl 2 (by decide) (hts (.fieldLink RX6 26 "MillComplaintsModel" "known" "I") (List.mem_of_getElem? (i := 1) rfl)) (fun _ h9 => h9) rfl dX6_remembers_66 ?_
        refine lv_imul hx hb dX6_remembers_69 ?_
        refine lv_iload_n hx hb dX6_remembers_70 rfl (lv_at hl 0 rfl) ?_
        refine lv_iadd hx hb dX6_remembers_71 ?_
        refine lv_aload_n hx hb dX6_remembers_72 rfl (lv_at hl 1 rfl) ?_
        refine va_get (D := D) (ci := 4) (v := .ref (h 1)) (C := RX6) (T := TX6) (N := 7) hx hb hts iX6_remembers_X6 hown hG.1 hP 0 rfl rfl 0 (by decide) (hts (.fieldLink RX6 7 "MillComplaintsModel" "s" "[I") (List.mem_of_getElem? (i := 3) rfl)) (fun _ h9 => h9) rfl dX6_remembers_73 ?_
        refine lv_iload_n hx hb dX6_remembers_76 rfl (lv_at hl 0 rfl) ?_
        refine va_iald hx hb hG.1 hP 1 0 rfl rfl (ix_t (i := x1_51) (x := (x1_51).toInt) (n := 296) rfl (by omega)) dX6_remembers_77 ?_
        refine va_iast hx hb hG.1 hP hD hS 2 0 rfl rfl (ix_t (i := ((148 * (xL_51 4 0)) + x1_51)) (x := ((148 * ((xL_51 4 0)).toInt) + (x1_51).toInt)) (n := 592) (ti_add (ti_mul (show (148 : Int32).toInt = 148 from rfl) rfl (by omega)) rfl (by omega)) (by omega)) dX6_remembers_78 (fun H locs hP hD hS => ?_)
        have hP : va_P D vwCl (wM q h (setA xL_51 1 (upd (xL_51 1) (((148 * (xL_51 4 0)) + x1_51) : Int32).toNatClampNeg ((xL_51 0) (x1_51).toNatClampNeg)))) H := hP
        have hD : va_D A (wM q h (setA xL_51 1 (upd (xL_51 1) (((148 * (xL_51 4 0)) + x1_51) : Int32).toNatClampNeg ((xL_51 0) (x1_51).toNatClampNeg)))) := hD
        obtain ⟨x_4, ex_4⟩ : ∃ z, z = (setA xL_51 1 (upd (xL_51 1) (((148 * (xL_51 4 0)) + x1_51) : Int32).toNatClampNeg ((xL_51 0) (x1_51).toNatClampNeg))) := ⟨_, rfl⟩
        rw [← ex_4] at hP hD
        replace hR := lt_e hR ex_4
        refine lv_iinc (v := (x1_51 + 1)) (lv' := [(1, .int (x1_51 + 1)), (0, .ref (h 0))]) hx hb dX6_remembers_79 hl (k := 0) rfl rfl (by decide) rfl (fun ls hl => ?_)
        refine lv_goto (tgt := 51) hx hb dX6_remembers_82 (by decide) ?_
        exact ih_51 x_4 (x1_51 + 1) _ _ (trN hn_51) (k_up hk_51 c_2) (by rw [ex_4]; exact hs_51) hR hP hD hS ls (lv_sub hl [0, 1] rfl)
    exact key_51 _ x 0 _ _ rfl (by decide) (by omega) hR hP hD hS ls hl
  · rw [if_pos c_1] at hR
    have tc_1 : (x 4 0).toInt = 4 := i_eq.mp c_1
    refine lv_iconst (v := 0) hx hb dX6_remembers_8 (by decide) ?_
    refine lv_istore_n (lv' := [(1, .int 0), (0, .ref (h 0))]) hx hb dX6_remembers_9 rfl hl (by decide) rfl (fun ls hl => ?_)
    have key_10 : ∀ (n_10 : Nat) (xL_10 : Nat → Nat → Int32) (x1_10 : Int32) (H : Heap) (locs : List Loc) , tr x1_10 444 = n_10 → 0 ≤ x1_10.toInt → xL_10 4 0 = x 4 0 → mX6_remembers_10  (fun xL_10 x1_10 => (lt (setA xL_10 4 (upd (xL_10 4) 0 ((xL_10 4 0) - 1))) (fun x_6 => (mX6_remembers_51_a  (fun xL_51 x1_51 => (lt (setA xL_51 4 (upd (xL_51 4) 0 ((xL_51 4 0) + 1))) (fun x_8 => x_8))) (tr 0 148) x_6 0)))) n_10 xL_10 x1_10 = R → va_P D vwCl (wM q h xL_10) H → va_D A (wM q h xL_10) → va_S A s.heap H locs → ∀ ls : Array Slot, lv_has ls 2 [(1, .int x1_10), (0, .ref (h 0))] → W p l e ({ frames := 0, cells := 0, slots := 0, locals := 0 } : Room) s m ([.ref (h 0)] : List Value).toArray below meth c H locs 0 0 (MQ below (muQ D none (wM q h x) (wM q h R)) ([.ref (h 0)] : List Value).toArray s 0 0 (wAt (wM q h x))) (F0 m 10 ls []) := by
      intro n_10
      induction n_10 with
      | zero =>
        intro xL_10 x1_10 H locs hn_10 hk_10 hs_10 hR hP hD hS ls hl
        rw [mX6_remembers_10] at hR
        refine lv_iload_n hx hb dX6_remembers_10 rfl (lv_at hl 0 rfl) ?_
        refine lv_sipush (v := 444) hx hb dX6_remembers_11 (by decide) ?_
        refine lv_icmp_ge (tgt := 39) hx hb dX6_remembers_14 (by decide) (fun c_5 => ?_) (fun c_5 => (tr0 hn_10 c_5).elim)
        refine lv_aload_n hx hb dX6_remembers_39 rfl (lv_at hl 1 rfl) ?_
        refine lv_dup hx hb dX6_remembers_40 rfl ?_
        refine va_get (D := D) (ci := 4) (v := .int (xL_10 4 0)) (C := RX6) (T := TX6) (N := 7) hx hb hts iX6_remembers_X6 hown hG.1 hP 0 rfl rfl 2 (by decide) (hts (.fieldLink RX6 26 "MillComplaintsModel" "known" "I") (List.mem_of_getElem? (i := 1) rfl)) (fun _ h9 => h9) rfl dX6_remembers_41 ?_
        refine lv_iconst (v := 1) hx hb dX6_remembers_44 (by decide) ?_
        refine lv_isub hx hb dX6_remembers_45 ?_
        refine va_put (D := D) (ci := 4) (v := .int ((xL_10 4 0) - 1)) (ty := .int) (C := RX6) (T := TX6) (N := 7) hx hb hts iX6_remembers_X6 tyX6 tyX6_ok nmX6 hown hG.1 hP hD hS 0 rfl rfl 2 (by decide) (hts (.fieldLink RX6 26 "MillComplaintsModel" "known" "I") (List.mem_of_getElem? (i := 1) rfl)) (fun _ h9 => h9) rfl (by decide +kernel) rfl rfl (Nat.le_of_ble_eq_true rfl) dX6_remembers_46 (fun H locs hP hD hS => ?_)
        have hP : va_P D vwCl (wM q h (setA xL_10 4 (upd (xL_10 4) 0 ((xL_10 4 0) - 1)))) H := hP
        have hD : va_D A (wM q h (setA xL_10 4 (upd (xL_10 4) 0 ((xL_10 4 0) - 1)))) := hD
        obtain ⟨x_6, ex_6⟩ : ∃ z, z = (setA xL_10 4 (upd (xL_10 4) 0 ((xL_10 4 0) - 1))) := ⟨_, rfl⟩
        rw [← ex_6] at hP hD
        replace hR := lt_e hR ex_6
        refine lv_iconst (v := 0) hx hb dX6_remembers_49 (by decide) ?_
        refine lv_istore_n (lv' := [(1, .int 0), (0, .ref (h 0))]) hx hb dX6_remembers_50 rfl hl (by decide) rfl (fun ls hl => ?_)
        have key_51 : ∀ (n_51 : Nat) (xL_51 : Nat → Nat → Int32) (x1_51 : Int32) (H : Heap) (locs : List Loc) , tr x1_51 148 = n_51 → 0 ≤ x1_51.toInt → 0 ≤ (xL_51 4 0).toInt ∧ (xL_51 4 0).toInt < 4 → mX6_remembers_51_a  (fun xL_51 x1_51 => (lt (setA xL_51 4 (upd (xL_51 4) 0 ((xL_51 4 0) + 1))) (fun x_8 => x_8))) n_51 xL_51 x1_51 = R → va_P D vwCl (wM q h xL_51) H → va_D A (wM q h xL_51) → va_S A s.heap H locs → ∀ ls : Array Slot, lv_has ls 2 [(1, .int x1_51), (0, .ref (h 0))] → W p l e ({ frames := 0, cells := 0, slots := 0, locals := 0 } : Room) s m ([.ref (h 0)] : List Value).toArray below meth c H locs 0 0 (MQ below (muQ D none (wM q h x) (wM q h R)) ([.ref (h 0)] : List Value).toArray s 0 0 (wAt (wM q h x))) (F0 m 51 ls []) := by
          intro n_51
          induction n_51 with
          | zero =>
            intro xL_51 x1_51 H locs hn_51 hk_51 hs_51 hR hP hD hS ls hl
            rw [mX6_remembers_51_a] at hR
            refine lv_iload_n hx hb dX6_remembers_51 rfl (lv_at hl 0 rfl) ?_
            refine lv_sipush (v := 148) hx hb dX6_remembers_52 (by decide) ?_
            refine lv_icmp_ge (tgt := 85) hx hb dX6_remembers_55 (by decide) (fun c_7 => ?_) (fun c_7 => (tr0 hn_51 c_7).elim)
            refine lv_aload_n hx hb dX6_remembers_85 rfl (lv_at hl 1 rfl) ?_
            refine lv_dup hx hb dX6_remembers_86 rfl ?_
            refine va_get (D := D) (ci := 4) (v := .int (xL_51 4 0)) (C := RX6) (T := TX6) (N := 7) hx hb hts iX6_remembers_X6 hown hG.1 hP 0 rfl rfl 2 (by decide) (hts (.fieldLink RX6 26 "MillComplaintsModel" "known" "I") (List.mem_of_getElem? (i := 1) rfl)) (fun _ h9 => h9) rfl dX6_remembers_87 ?_
            refine lv_iconst (v := 1) hx hb dX6_remembers_90 (by decide) ?_
            refine lv_iadd hx hb dX6_remembers_91 ?_
            refine va_put (D := D) (ci := 4) (v := .int ((xL_51 4 0) + 1)) (ty := .int) (C := RX6) (T := TX6) (N := 7) hx hb hts iX6_remembers_X6 tyX6 tyX6_ok nmX6 hown hG.1 hP hD hS 0 rfl rfl 2 (by decide) (hts (.fieldLink RX6 26 "MillComplaintsModel" "known" "I") (List.mem_of_getElem? (i := 1) rfl)) (fun _ h9 => h9) rfl (by decide +kernel) rfl rfl (Nat.le_of_ble_eq_true rfl) dX6_remembers_92 (fun H locs hP hD hS => ?_)
            have hP : va_P D vwCl (wM q h (setA xL_51 4 (upd (xL_51 4) 0 ((xL_51 4 0) + 1)))) H := hP
            have hD : va_D A (wM q h (setA xL_51 4 (upd (xL_51 4) 0 ((xL_51 4 0) + 1)))) := hD
            obtain ⟨x_8, ex_8⟩ : ∃ z, z = (setA xL_51 4 (upd (xL_51 4) 0 ((xL_51 4 0) + 1))) := ⟨_, rfl⟩
            rw [← ex_8] at hP hD
            replace hR := lt_e hR ex_8
            subst hR
            exact mu_vret hx hb hr hk hA hS hP dX6_remembers_95
          | succ n_51 ih_51 =>
            intro xL_51 x1_51 H locs hn_51 hk_51 hs_51 hR hP hD hS ls hl
            rw [mX6_remembers_51_a] at hR
            refine lv_iload_n hx hb dX6_remembers_51 rfl (lv_at hl 0 rfl) ?_
            refine lv_sipush (v := 148) hx hb dX6_remembers_52 (by decide) ?_
            refine lv_icmp_ge (tgt := 85) hx hb dX6_remembers_55 (by decide) (fun c_7 => (trS hn_51 c_7).elim) (fun c_7 => ?_)
            have hlt_c_7 : x1_51.toInt < 148 := k_lt c_7
            refine lv_aload_n hx hb dX6_remembers_58 rfl (lv_at hl 1 rfl) ?_
            refine va_get (D := D) (ci := 4) (v := .ref (h 2)) (C := RX6) (T := TX6) (N := 7) hx hb hts iX6_remembers_X6 hown hG.1 hP 0 rfl rfl 1 (by decide) (hts (.fieldLink RX6 13 "MillComplaintsModel" "past" "[I") (List.mem_of_getElem? (i := 2) rfl)) (fun _ h9 => h9) rfl dX6_remembers_59 ?_
            refine lv_sipush (v := 148) hx hb dX6_remembers_62 (by decide) ?_
            refine lv_aload_n hx hb dX6_remembers_65 rfl (lv_at hl 1 rfl) ?_
            refine va_get (D := D) (ci := 4) (v := .int (xL_51 4 0)) (C := RX6) (T := TX6) (N := 7) hx hb hts iX6_remembers_X6 hown hG.1 hP 0 rfl rfl 2 (by decide) (hts (.fieldLink RX6 26 "MillComplaintsModel" "known" "I") (List.mem_of_getElem? (i := 1) rfl)) (fun _ h9 => h9) rfl dX6_remembers_66 ?_
            refine lv_imul hx hb dX6_remembers_69 ?_
            refine lv_iload_n hx hb dX6_remembers_70 rfl (lv_at hl 0 rfl) ?_
            refine lv_iadd hx hb dX6_remembers_71 ?_
            refine lv_aload_n hx hb dX6_remembers_72 rfl (lv_at hl 1 rfl) ?_
            refine va_get (D := D) (ci := 4) (v := .ref (h 1)) (C := RX6) (T := TX6) (N := 7) hx hb hts iX6_remembers_X6 hown hG.1 hP 0 rfl rfl 0 (by decide) (hts (.fieldLink RX6 7 "MillComplaintsModel" "s" "[I") (List.mem_of_getElem? (i := 3) rfl)) (fun _ h9 => h9) rfl dX6_remembers_73 ?_
            refine lv_iload_n hx hb dX6_remembers_76 rfl (lv_at hl 0 rfl) ?_
            refine va_iald hx hb hG.1 hP 1 0 rfl rfl (ix_t (i := x1_51) (x := (x1_51).toInt) (n := 296) rfl (by omega)) dX6_remembers_77 ?_
            refine va_iast hx hb hG.1 hP hD hS 2 0 rfl rfl (ix_t (i := ((148 * (xL_51 4 0)) + x1_51)) (x := ((148 * ((xL_51 4 0)).toInt) + (x1_51).toInt)) (n := 592) (ti_add (ti_mul (show (148 : Int32).toInt = 148 from rfl) rfl (by omega)) rfl (by omega)) (by omega)) dX6_remembers_78 (fun H locs hP hD hS => ?_)
            have hP : va_P D vwCl (wM q h (setA xL_51 1 (upd (xL_51 1) (((148 * (xL_51 4 0)) + x1_51) : Int32).toNatClampNeg ((xL_51 0) (x1_51).toNatClampNeg)))) H := hP
            have hD : va_D A (wM q h (setA xL_51 1 (upd (xL_51 1) (((148 * (xL_51 4 0)) + x1_51) : Int32).toNatClampNeg ((xL_51 0) (x1_51).toNatClampNeg)))) := hD
            obtain ⟨x_9, ex_9⟩ : ∃ z, z = (setA xL_51 1 (upd (xL_51 1) (((148 * (xL_51 4 0)) + x1_51) : Int32).toNatClampNeg ((xL_51 0) (x1_51).toNatClampNeg))) := ⟨_, rfl⟩
            rw [← ex_9] at hP hD
            replace hR := lt_e hR ex_9
            refine lv_iinc (v := (x1_51 + 1)) (lv' := [(1, .int (x1_51 + 1)), (0, .ref (h 0))]) hx hb dX6_remembers_79 hl (k := 0) rfl rfl (by decide) rfl (fun ls hl => ?_)
            refine lv_goto (tgt := 51) hx hb dX6_remembers_82 (by decide) ?_
            exact ih_51 x_9 (x1_51 + 1) _ _ (trN hn_51) (k_up hk_51 c_7) (by rw [ex_9]; exact hs_51) hR hP hD hS ls (lv_sub hl [0, 1] rfl)
        exact key_51 _ x_6 0 _ _ rfl (by decide) (by rw [ex_6]; show 0 ≤ ((xL_10 4 0) - 1).toInt ∧ ((xL_10 4 0) - 1).toInt < 4; rw [hs_10, c_1]; decide) hR hP hD hS ls hl
      | succ n_10 ih_10 =>
        intro xL_10 x1_10 H locs hn_10 hk_10 hs_10 hR hP hD hS ls hl
        rw [mX6_remembers_10] at hR
        refine lv_iload_n hx hb dX6_remembers_10 rfl (lv_at hl 0 rfl) ?_
        refine lv_sipush (v := 444) hx hb dX6_remembers_11 (by decide) ?_
        refine lv_icmp_ge (tgt := 39) hx hb dX6_remembers_14 (by decide) (fun c_5 => (trS hn_10 c_5).elim) (fun c_5 => ?_)
        have hlt_c_5 : x1_10.toInt < 444 := k_lt c_5
        refine lv_aload_n hx hb dX6_remembers_17 rfl (lv_at hl 1 rfl) ?_
        refine va_get (D := D) (ci := 4) (v := .ref (h 2)) (C := RX6) (T := TX6) (N := 7) hx hb hts iX6_remembers_X6 hown hG.1 hP 0 rfl rfl 1 (by decide) (hts (.fieldLink RX6 13 "MillComplaintsModel" "past" "[I") (List.mem_of_getElem? (i := 2) rfl)) (fun _ h9 => h9) rfl dX6_remembers_18 ?_
        refine lv_iload_n hx hb dX6_remembers_21 rfl (lv_at hl 0 rfl) ?_
        refine lv_aload_n hx hb dX6_remembers_22 rfl (lv_at hl 1 rfl) ?_
        refine va_get (D := D) (ci := 4) (v := .ref (h 2)) (C := RX6) (T := TX6) (N := 7) hx hb hts iX6_remembers_X6 hown hG.1 hP 0 rfl rfl 1 (by decide) (hts (.fieldLink RX6 13 "MillComplaintsModel" "past" "[I") (List.mem_of_getElem? (i := 2) rfl)) (fun _ h9 => h9) rfl dX6_remembers_23 ?_
        refine lv_sipush (v := 148) hx hb dX6_remembers_26 (by decide) ?_
        refine lv_iload_n hx hb dX6_remembers_29 rfl (lv_at hl 0 rfl) ?_
        refine lv_iadd hx hb dX6_remembers_30 ?_
        refine va_iald hx hb hG.1 hP 2 0 rfl rfl (ix_t (i := (148 + x1_10)) (x := (148 + (x1_10).toInt)) (n := 592) (ti_add (show (148 : Int32).toInt = 148 from rfl) rfl (by omega)) (by omega)) dX6_remembers_31 ?_
        refine va_iast hx hb hG.1 hP hD hS 2 0 rfl rfl (ix_t (i := x1_10) (x := (x1_10).toInt) (n := 592) rfl (by omega)) dX6_remembers_32 (fun H locs hP hD hS => ?_)
        have hP : va_P D vwCl (wM q h (setA xL_10 1 (upd (xL_10 1) (x1_10 : Int32).toNatClampNeg ((xL_10 1) ((148 + x1_10)).toNatClampNeg)))) H := hP
        have hD : va_D A (wM q h (setA xL_10 1 (upd (xL_10 1) (x1_10 : Int32).toNatClampNeg ((xL_10 1) ((148 + x1_10)).toNatClampNeg)))) := hD
        obtain ⟨x_10, ex_10⟩ : ∃ z, z = (setA xL_10 1 (upd (xL_10 1) (x1_10 : Int32).toNatClampNeg ((xL_10 1) ((148 + x1_10)).toNatClampNeg))) := ⟨_, rfl⟩
        rw [← ex_10] at hP hD
        replace hR := lt_e hR ex_10
        refine lv_iinc (v := (x1_10 + 1)) (lv' := [(1, .int (x1_10 + 1)), (0, .ref (h 0))]) hx hb dX6_remembers_33 hl (k := 0) rfl rfl (by decide) rfl (fun ls hl => ?_)
        refine lv_goto (tgt := 10) hx hb dX6_remembers_36 (by decide) ?_
        exact ih_10 x_10 (x1_10 + 1) _ _ (trN hn_10) (k_up hk_10 c_5) (by rw [ex_10]; exact hs_10) hR hP hD hS ls (lv_sub hl [0, 1] rfl)
    exact key_10 _ x 0 _ _ rfl (by decide) rfl hR hP hD hS ls hl
theorem rem51_0 (C : (Nat → Nat → Int32) → Int32 → (Nat → Nat → Int32)) (hC : ∀ z k, C z k 0 = z 0) : ∀ (n : Nat) (x : Nat → Nat → Int32) (k : Int32), mX6_remembers_51 C n x k 0 = x 0
  | 0, x, k => by rw [mX6_remembers_51]; exact hC x k
  | n + 1, x, k => by
    rw [mX6_remembers_51]
    exact rem51_0 C hC n _ _
theorem rem51a_0 (C : (Nat → Nat → Int32) → Int32 → (Nat → Nat → Int32)) (hC : ∀ z k, C z k 0 = z 0) : ∀ (n : Nat) (x : Nat → Nat → Int32) (k : Int32), mX6_remembers_51_a C n x k 0 = x 0
  | 0, x, k => by rw [mX6_remembers_51_a]; exact hC x k
  | n + 1, x, k => by
    rw [mX6_remembers_51_a]
    exact rem51a_0 C hC n _ _
theorem rem10_0 (C : (Nat → Nat → Int32) → Int32 → (Nat → Nat → Int32)) (hC : ∀ z k, C z k 0 = z 0) : ∀ (n : Nat) (x : Nat → Nat → Int32) (k : Int32), mX6_remembers_10 C n x k 0 = x 0
  | 0, x, k => by rw [mX6_remembers_10]; exact hC x k
  | n + 1, x, k => by
    rw [mX6_remembers_10]
    exact rem10_0 C hC n _ _
theorem lt_i {α β : Type} {a : α} {f : α → β} {P : β → Prop} (h : P (f a)) : P (lt a f) := h
theorem hC51 (z : Nat → Nat → Int32) (k : Int32) : (fun (x_51 : Nat → Nat → Int32) (x1_51 : Int32) => lt (setA x_51 4 (upd (x_51 4) 0 ((x_51 4 0) + 1))) (fun x_8 => x_8)) z k 0 = z 0 := rfl
theorem hC10 (N : Nat) (z : Nat → Nat → Int32) (k : Int32) : (fun (xL_10 : Nat → Nat → Int32) (x1_10 : Int32) => (lt (setA xL_10 4 (upd (xL_10 4) 0 ((xL_10 4 0) - 1))) (fun x_6 => (mX6_remembers_51_a (fun xL_51 x1_51 => (lt (setA xL_51 4 (upd (xL_51 4) 0 ((xL_51 4 0) + 1))) (fun x_8 => x_8))) N x_6 0)))) z k 0 = z 0 :=
  (rem51a_0 _ hC51 N (setA z 4 (upd (z 4) 0 (z 4 0 - 1))) 0).trans (setA_ne z _ (by omega))
theorem k0_remembers (x : Nat → Nat → Int32) : mX6_remembers x 0 = x 0 := by
  unfold mX6_remembers
  split
  · exact rem10_0 _ (hC10 (tr 0 148)) _ _ _
  · exact rem51_0 _ hC51 _ _ _
theorem cnt_rem {x : Nat → Nat → Int32} {V : Int32} (h : cntP x 0) : cntP (setA (mX6_remembers x) 0 (upd (mX6_remembers x 0) (66 : Int32).toNatClampNeg V)) 0 := by
  obtain ⟨h1, h2⟩ := h
  have e1 : (setA (mX6_remembers x) 0 (upd (mX6_remembers x 0) (66 : Int32).toNatClampNeg V)) 0 ((0 : Int32) + 0).toNatClampNeg = x 0 ((0 : Int32) + 0).toNatClampNeg := by
    rw [setA_same, pk_un (by decide), k0_remembers]
  have e2 : (setA (mX6_remembers x) 0 (upd (mX6_remembers x 0) (66 : Int32).toNatClampNeg V)) 0 ((0 : Int32) + 13).toNatClampNeg = x 0 ((0 : Int32) + 13).toNatClampNeg := by
    rw [setA_same, pk_un (by decide), k0_remembers]
  unfold cntP
  rw [e1, e2]
  exact ⟨h1, h2⟩

