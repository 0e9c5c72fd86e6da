theorem kX5_copyRow : yX5_copyRow.cls ≠ "java/lang/invoke/MethodHandle" ∧ yX5_copyRow.cls ≠ "java/lang/invoke/VarHandle" ∧ (parseMethodDescriptor yX5_copyRow.desc).map (fun d => d.parameters.length) = some 2 := by decide +kernel
theorem arrV_congr {cI : ClassId} {N : Nat} {f g : Nat → Value} (h : ∀ j, j < N → f j = g j) : arrV cI N f = arrV cI N g := by
  have e : (fun j : Fin N => f j.val) = (fun j : Fin N => g j.val) := funext fun j => h j.val j.isLt
  unfold arrV
  rw [e]
theorem row_congr {D : va_G} {q : Nat → ClassId} {a b n : Nat} {f g f' g' : Nat → Int32} {H : Heap} (h : va_P D vwCl (wRR q a b n f g) H) (hf : ∀ j, j < n → f j = f' j) (hg : ∀ j, j < n → g j = g' j) : va_P D vwCl (wRR q a b n f' g') H := by
  have e1 : vp_cell (q 0) (n, .inl f) = vp_cell (q 0) (n, .inl f') := by
    rw [vp_cell_i, vp_cell_i]
    exact arrV_congr (fun j hj => by rw [hf j hj])
  have e2 : vp_cell (q 0) (n, .inl g) = vp_cell (q 0) (n, .inl g') := by
    rw [vp_cell_i, vp_cell_i]
    exact arrV_congr (fun j hj => by rw [hg j hj])
  intro k x hk
  match k, hk with
  | 0, hk =>
    cases hk
    have h0 : H[a]? = some (vp_cell (q 0) (n, .inl f)) := h 0 _ rfl
    show H[a]? = some (vp_cell (q 0) (n, .inl f'))
    rw [h0, e1]
  | 1, hk =>
    cases hk
    have h0 : H[b]? = some (vp_cell (q 0) (n, .inl g)) := h 1 _ rfl
    show H[b]? = some (vp_cell (q 0) (n, .inl g'))
    rw [h0, e2]
  | k + 2, hk => simp at hk
set_option maxHeartbeats 4000000 in
set_option maxRecDepth 100000 in
theorem MX5_copyRow (l : Launch) (D : va_G) (q : Nat → ClassId) (a b n : Nat) (f g : Nat → Int32) (hn : n < 2147483648) : muM l D (tyq q) yX5_copyRow wsX5_copyRow ({ frames := 0, cells := 0, slots := 0, locals := 0 } : Room) [.ref a, .ref b] (wRR q a b n f g) none (wRR q a b n f f) := by
  refine muM.of (cc := cX5_copyRow) (maxL := 3) (ret := none) (by decide) rfl (Nat.le_of_ble_eq_true rfl) ?_
  intro p e s m below meth c ls A hx hb hr hk hml hown hts hP hD hG hA hl
  have hS : va_S A s.heap s.heap [] := va_S.rf
  have hl : lv_has ls 3 [(0, .ref a), (1, .ref b)] := hl
  refine lv_iconst (v := 0) hx hb dX5_copyRow_0 (by decide) ?_
  refine lv_istore_n (lv' := [(2, .int 0), (0, .ref a), (1, .ref b)]) hx hb dX5_copyRow_1 rfl hl (by decide) rfl (fun ls hl => ?_)
  have key : ∀ (z k : Nat) (gk : Nat → Int32) (H : Heap) (locs : List Loc), k + z = n → (∀ j, j < k → gk j = f j) → va_P D vwCl (wRR q a b n f gk) H → va_D A (wRR q a b n f gk) → va_S A s.heap H locs → ∀ ls : Array Slot, lv_has ls 3 [(2, .int (nI k)), (0, .ref a), (1, .ref b)] → W p l e ({ frames := 0, cells := 0, slots := 0, locals := 0 } : Room) s m ([.ref a, .ref b] : List Value).toArray below meth c H locs 0 0 (MQ below (muQ D none (wRR q a b n f g) (wRR q a b n f f)) ([.ref a, .ref b] : List Value).toArray s 0 0 (wAt (wRR q a b n f g))) (F0 m 2 ls []) := by
    intro z
    induction z with
    | zero =>
      intro k gk H locs hkz hgk hP hD hS ls hl
      refine lv_iload_n hx hb dX5_copyRow_2 rfl (lv_at hl 0 rfl) ?_
      refine lv_aload_n hx hb dX5_copyRow_3 rfl (lv_at hl 1 rfl) ?_
      refine va_alen (v := (nI n)) hx hb hG.1 hP 0 0 rfl rfl rfl dX5_copyRow_4 ?_
      refine lv_icmp_ge (tgt := 26) hx hb dX5_copyRow_5 (by decide) (fun c_1 => ?_) (fun c_1 => absurd (nI_le (by omega) (by omega)) c_1)
      exact mu_vret hx hb hr hk hA hS (row_congr hP (fun j _ => rfl) (fun j hj => hgk j (by omega))) dX5_copyRow_26
    | succ z ih =>
      intro k gk H locs hkz hgk hP hD hS ls hl
      have hkn : ¬ nI n ≤ nI k := by rw [i_le, nI_toInt hn, nI_toInt (by omega)]; omega
      have hin : vp_in (nI k) n := vp_in_nI (by omega) (by omega)
      refine lv_iload_n hx hb dX5_copyRow_2 rfl (lv_at hl 0 rfl) ?_
      refine lv_aload_n hx hb dX5_copyRow_3 rfl (lv_at hl 1 rfl) ?_
      refine va_alen (v := (nI n)) hx hb hG.1 hP 0 0 rfl rfl rfl dX5_copyRow_4 ?_
      refine lv_icmp_ge (tgt := 26) hx hb dX5_copyRow_5 (by decide) (fun c_1 => absurd c_1 hkn) (fun c_1 => ?_)
      refine lv_iload_n hx hb dX5_copyRow_8 rfl (lv_at hl 0 rfl) ?_
      refine lv_aload_n hx hb dX5_copyRow_9 rfl (lv_at hl 2 rfl) ?_
      refine va_alen (v := (nI n)) hx hb hG.1 hP 1 0 rfl rfl rfl dX5_copyRow_10 ?_
      refine lv_icmp_ge (tgt := 26) hx hb dX5_copyRow_11 (by decide) (fun c_1 => absurd c_1 hkn) (fun c_1 => ?_)
      refine lv_aload_n hx hb dX5_copyRow_14 rfl (lv_at hl 2 rfl) ?_
      refine lv_iload_n hx hb dX5_copyRow_15 rfl (lv_at hl 0 rfl) ?_
      refine lv_aload_n hx hb dX5_copyRow_16 rfl (lv_at hl 1 rfl) ?_
      refine lv_iload_n hx hb dX5_copyRow_17 rfl (lv_at hl 0 rfl) ?_
      refine va_iald hx hb hG.1 hP 0 0 rfl rfl hin dX5_copyRow_18 ?_
      refine va_iast hx hb hG.1 hP hD hS 1 0 rfl rfl hin dX5_copyRow_19 (fun H locs hP hD hS => ?_)
      refine lv_iinc (v := nI (k + 1)) (lv' := [(2, .int (nI (k + 1))), (0, .ref a), (1, .ref b)]) hx hb dX5_copyRow_20 hl (k := 0) rfl (nI_1 k) (by decide) rfl (fun ls hl => ?_)
      refine lv_goto (tgt := 2) hx hb dX5_copyRow_23 (by decide) ?_
      refine ih (k + 1) (upd gk (nI k).toNatClampNeg (f (nI k).toNatClampNeg)) _ _ (by omega) (fun j hj => ?_) hP hD hS ls hl
      rw [nI_clamp (by omega)]
      by_cases hjk : j = k
      · subst hjk; exact pk_us
      · rw [pk_un hjk]; exact hgk j (by omega)
  exact key n 0 g _ _ (by omega) (fun j hj => absurd hj (Nat.not_lt_zero _)) hP hD hS ls hl
