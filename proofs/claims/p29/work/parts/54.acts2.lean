/-! PURE 15: text, undo, keep, restore. -/
theorem prj1 {α β : Type} (a : α) (b : β) : (a, b).1 = a := rfl
theorem prj2 {α β : Type} (a : α) (b : β) : (a, b).2 = b := rfl
theorem rem_k {xx : Nat → Nat → Nat → Int32} {x : Nat → Nat → Int32} (h : RR xx x) : mX6_remembers x 0 = x 0 ∧ mX6_remembers x 2 = x 2 := by
  have g0 : RG (und xx (xx 0)) x := RG_c (fun j hj => und_j _ _ (by omega) (by omega)) rfl rfl h.rg
  obtain ⟨g, ke, r0, r2, r3, r41, r42⟩ := recA g0 (by rw [und_1]; exact h.now) h.ok
  exact ⟨r0, r2⟩
theorem a_clearText {xx : Nat → Nat → Nat → Int32} {x : Nat → Nat → Int32} (h : RR xx x) : (mX5_clearText xx).1 = (mX6_clearText x).1 ∧ RR (mX5_clearText xx).2 (mX6_clearText x).2 := by
  obtain ⟨hc, L, hL, e1, e2, e3⟩ := h.tx
  have e : mX5_clearText xx = ((xx 7) 1 0, setV xx 7 (setA (xx 7) 1 (upd ((xx 7) 1) 0 0))) := rfl
  have e' : mX6_clearText x = (x 4 2, setA x 4 (upd (x 4) 2 0)) := rfl
  rw [e, e']
  obtain ⟨y, hy⟩ : ∃ z, z = setV xx 7 (setA (xx 7) 1 (upd ((xx 7) 1) 0 0)) := ⟨_, rfl⟩
  obtain ⟨q, hq⟩ : ∃ z, z = setA x 4 (upd (x 4) 2 0) := ⟨_, rfl⟩
  rw [← hy, ← hq]
  have n : ∀ j, j ≠ 7 → y j = xx j := fun j hj => by rw [hy]; exact setV_ne _ _ hj
  have m : ∀ j, j ≠ 4 → q j = x j := fun j hj => by rw [hq]; exact setA_ne _ _ hj
  have q4 : q 4 = upd (x 4) 2 0 := by rw [hq, setA_same]
  have y7 : y 7 = setA (xx 7) 1 (upd ((xx 7) 1) 0 0) := by rw [hy, setV_same]
  refine fin2 (Q := RR) (by rw [e1, e2]) (RR.mk ?_ ?_ ?_ ?_ ?_)
  · rw [n 0 (by omega), m 0 (by omega)]; exact h.now
  · rw [m 0 (by omega)]; exact h.ok
  · exact RG_c (fun j hj => n j (by omega)) (m 1 (by omega)) (by rw [q4, upd_ne _ _ (by omega)]) h.rg
  · exact SN_c (n 9 (by omega)) (n 2 (by omega)) (by rw [q4, upd_ne _ _ (by omega)]) (m 2 (by omega)) h.sn
  · rw [y7]
    refine ⟨fun j => ?_, 0, by omega, ?_, ?_, fun j hj => ?_⟩
    · rw [setA_ne _ _ (by omega)]; exact hc j
    · rw [setA_same, upd_same]; rfl
    · rw [q4, upd_same]; rfl
    · rw [setA_ne _ _ (by omega), m 3 (by omega)]; exact e3 j hj
theorem a_type {xx : Nat → Nat → Nat → Int32} {x : Nat → Nat → Int32} (h : RR xx x) {a : Int32} (hn : narrow .char (.int a) = .int a) : (mX5_type xx a).1 = (mX6_type x a).1 ∧ RR (mX5_type xx a).2 (mX6_type x a).2 := by
  obtain ⟨hc, L, hL, e1, e2, e3⟩ := h.tx
  have hv : vp_nar .char a = a := by unfold vp_nar; rw [hn]
  have e : mX5_type xx a = ((mX3_append (xx 7) a).1, setV xx 7 (mX3_append (xx 7) a).2) := rfl
  rw [e]
  unfold mX3_append mX6_type
  have t0 : (0 : Int32) = nI 0 := rfl
  have t60 : (60 : Int32) = nI 60 := rfl
  rw [e1, e2, if_neg (by rw [t0, nJ_lt (by omega) (by omega)]; omega)]
  by_cases c : L = 60
  · subst c
    rw [if_neg (by decide), if_pos (show nI 60 = 60 from rfl)]
    rw [prj2 (-3 : Int32) (xx 7), prj1 (-3 : Int32) (xx 7)]
    refine fin2 (Q := RR) rfl ?_
    rw [setV_id]; exact h
  · rw [if_pos (by rw [t60, nJ_lt (by omega) (by omega)]; omega), if_neg (by rw [t60, nJ_eq (by omega) (by omega)]; exact c), nI_cl (by omega), hv]
    rw [lt, lt, lt, lt]
    have i1 : setA (xx 7) 0 (upd (xx 7 0) L a) 1 = xx 7 1 := setA_ne _ _ (by omega)
    have i2 : setA x 3 (upd (x 3) L a) 4 = x 4 := setA_ne _ _ (by omega)
    rw [i1, i2, e1, e2, nI_s]
    obtain ⟨t, ht⟩ : ∃ t, t = setA (setA (xx 7) 0 (upd (xx 7 0) L a)) 1 (upd (xx 7 1) 0 (nI (L + 1))) := ⟨_, rfl⟩
    obtain ⟨q, hq⟩ : ∃ q, q = setA (setA x 3 (upd (x 3) L a)) 4 (upd (x 4) 2 (nI (L + 1))) := ⟨_, rfl⟩
    rw [← ht, ← hq, prj1 (t 1 0) t, prj2 (t 1 0) t]
    have n : ∀ j, j ≠ 7 → setV xx 7 t j = xx j := fun j hj => setV_ne _ _ hj
    have m : ∀ j, j ≠ 4 → j ≠ 3 → q j = x j := fun j hj h3 => by rw [hq, setA_ne _ _ hj, setA_ne _ _ h3]
    have q4 : q 4 = upd (x 4) 2 (nI (L + 1)) := by rw [hq, setA_same]
    have t1 : t 1 0 = nI (L + 1) := by rw [ht, setA_same, upd_same]
    have tt : t 0 = upd (xx 7 0) L a := by rw [ht, setA_ne _ _ (by omega), setA_same]
    have q3 : q 3 = upd (x 3) L a := by rw [hq, setA_ne _ _ (by omega), setA_same]
    refine fin2 (Q := RR) (by rw [t1, q4, upd_same]) (RR.mk ?_ ?_ ?_ ?_ ?_)
    · rw [n 0 (by omega), m 0 (by omega) (by omega)]; exact h.now
    · rw [m 0 (by omega) (by omega)]; exact h.ok
    · exact RG_c (fun j hj => n j (by omega)) (m 1 (by omega) (by omega)) (by rw [q4, upd_ne _ _ (by omega)]) h.rg
    · exact SN_c (n 9 (by omega)) (n 2 (by omega)) (by rw [q4, upd_ne _ _ (by omega)]) (m 2 (by omega) (by omega)) h.sn
    · rw [setV_same]
      refine ⟨fun j => ?_, L + 1, by omega, t1, by rw [q4, upd_same], fun j hj => ?_⟩
      · rw [tt]
        by_cases z : j = L
        · subst z; rw [upd_same]; exact hn
        · rw [upd_ne _ _ z]; exact hc j
      · rw [tt, q3]
        by_cases z : j = L
        · subst z; rw [upd_same, upd_same]
        · rw [upd_ne _ _ z, upd_ne _ _ z]; exact e3 j hj
set_option maxHeartbeats 4000000 in
theorem take_e {xx : Nat → Nat → Nat → Int32} {o z : Nat} (ho : o < 4) (hz : z < 4) (e1 : xx 8 0 0 = nI o) (e2 : xx 8 0 1 = nI (z + 1)) : mX1_takeLatest xx 8 0 0 = nI o ∧ mX1_takeLatest xx 8 0 1 = nI z ∧ mX1_takeLatest xx 0 = xx (3 + (o + z) % 4) ∧ ∀ j, j ≠ 8 → j ≠ 0 → mX1_takeLatest xx j = xx j := by
  rcases (show o = 0 ∨ o = 1 ∨ o = 2 ∨ o = 3 by omega) with rfl | rfl | rfl | rfl <;> rcases (show z = 0 ∨ z = 1 ∨ z = 2 ∨ z = 3 by omega) with rfl | rfl | rfl | rfl <;>
  · unfold mX1_takeLatest
    have n0 : nI 0 = 0 := rfl
    have n1 : nI 1 = 1 := rfl
    have n2 : nI 2 = 2 := rfl
    have n3 : nI 3 = 3 := rfl
    have n4 : nI 4 = 4 := rfl
    have s0 : 0 + 1 = 1 := rfl
    have s1 : 1 + 1 = 2 := rfl
    have s2 : 2 + 1 = 3 := rfl
    have s3 : 3 + 1 = 4 := rfl
    simp only [s0, s1, s2, s3, n0, n1, n2, n3, n4] at e1 e2
    simp (decide := true) only [e1, e2, lt, if_true, if_false]
    refine ⟨?_, ?_, ?_, ?_⟩
    · first | exact e1 | rfl
    · rfl
    · rfl
    · intro j h1 h2
      simp only [setV_ne _ _ h1, setV_ne _ _ h2]
theorem a_undo {xx : Nat → Nat → Nat → Int32} {x : Nat → Nat → Int32} (h : RR xx x) : (mX5_undo xx).1 = (mX6_undo x).1 ∧ RR (mX5_undo xx).2 (mX6_undo x).2 := by
  obtain ⟨o, z, ho, hz, e1, e2, e3, e4⟩ := h.rg
  unfold mX5_undo mX6_undo
  rw [e2, e3]
  by_cases c : z = 0
  · subst c
    rw [if_pos (show nI 0 = 0 from rfl), if_pos (show nI 0 = 0 from rfl)]; exact ⟨rfl, h⟩
  obtain ⟨y, rfl⟩ : ∃ y, z = y + 1 := ⟨z - 1, by omega⟩
  have c0 : ¬ nI (y + 1) = 0 := by rw [show (0 : Int32) = nI 0 from rfl, nJ_eq (by omega) (by omega)]; omega
  rw [if_neg c0, if_neg c0, show nI (y + 1) - 1 = nI y from nI_sub (b := 1) (by omega) (by omega)]
  obtain ⟨a1, a2, a3, a4⟩ := take_e ho (show y < 4 by omega) e1 e2
  have key : setV (setV (setV (setV (setV (setV xx 8 (mX1_takeLatest xx 8)) 3 (mX1_takeLatest xx 3)) 4 (mX1_takeLatest xx 4)) 5 (mX1_takeLatest xx 5)) 6 (mX1_takeLatest xx 6)) 0 (mX1_takeLatest xx 0) = mX1_takeLatest xx := by
    funext j
    by_cases j1 : j = 0
    · subst j1; rw [setV_same]
    rw [setV_ne _ _ j1]
    by_cases j6 : j = 6
    · subst j6; rw [setV_same]
    rw [setV_ne _ _ j6]
    by_cases j5 : j = 5
    · subst j5; rw [setV_same]
    rw [setV_ne _ _ j5]
    by_cases j4 : j = 4
    · subst j4; rw [setV_same]
    rw [setV_ne _ _ j4]
    by_cases j3 : j = 3
    · subst j3; rw [setV_same]
    rw [setV_ne _ _ j3]
    by_cases j8 : j = 8
    · subst j8; rw [setV_same]
    rw [setV_ne _ _ j8]
    exact (a4 j j8 j1).symm
  rw [lt, lt, key, a2, lt, tr_148]
  have t := undo_l (fun xL_22 x1_22 => ((xL_22 4 0), xL_22)) (show y ≤ 3 by omega) 148 0 (setA x 4 (upd (x 4) 0 (nI y))) (by omega) (by rw [setA_same, upd_same])
  rw [nI_0] at t
  rw [t]
  obtain ⟨q, hq⟩ : ∃ q, q = setA (setA x 4 (upd (x 4) 0 (nI y))) 0 (cpF (setA x 4 (upd (x 4) 0 (nI y)) 0) 0 0 148 (fun i => setA x 4 (upd (x 4) 0 (nI y)) 1 (148 * y + i))) := ⟨_, rfl⟩
  rw [← hq]
  have q4 : q 4 = upd (x 4) 0 (nI y) := by rw [hq, setA_ne _ _ (by omega), setA_same]
  have m : ∀ j, j ≠ 4 → j ≠ 0 → q j = x j := fun j h4 h0 => by rw [hq, setA_ne _ _ h0, setA_ne _ _ h4]
  have hc : ∀ k, k < 148 → x 1 (148 * y + k) = q 0 k := fun k hk => by
    have t := cp_in (f := setA x 4 (upd (x 4) 0 (nI y)) 0) (d := 0) (n := 148) (g := fun i => setA x 4 (upd (x 4) 0 (nI y)) 1 (148 * y + i)) (k := k) hk
    rw [Nat.zero_add] at t
    rw [hq, setA_same, t, setA_ne _ _ (by omega)]
  have ee := e4 y (by omega)
  refine fin2 (Q := RR) (by rw [q4, upd_same]) (RR.mk ?_ ?_ ?_ ?_ ?_)
  · rw [a3]; exact Rv_c hc ee.1
  · exact ok_c hc ee.2
  · refine ⟨o, y, ho, by omega, a1, a2, by rw [q4, upd_same], fun i hi => ?_⟩
    rw [a4 _ (by omega) (by omega), m 1 (by omega) (by omega)]; exact e4 i (by omega)
  · exact SN_c (a4 9 (by omega) (by omega)) (a4 2 (by omega) (by omega)) (by rw [q4, upd_ne _ _ (by omega)]) (m 2 (by omega) (by omega)) h.sn
  · exact TX_c (a4 7 (by omega) (by omega)) (m 3 (by omega) (by omega)) (by rw [q4, upd_ne _ _ (by omega)]) h.tx
theorem a_keep {xx : Nat → Nat → Nat → Int32} {x : Nat → Nat → Int32} (h : RR xx x) : (mX5_keep xx).1 = (mX6_keep x).1 ∧ RR (mX5_keep xx).2 (mX6_keep x).2 := by
  have e : mX5_keep xx = ((xx 0) 10 0, setV (setV xx 2 (xx 0)) 9 (setA (xx 9) 0 (upd (xx 9 0) 0 1))) := rfl
  rw [e]
  unfold mX6_keep
  rw [tr_148]
  have t := keep_l (fun xL_2 x1_2 => (lt (setA xL_2 4 (upd (xL_2 4) 1 1)) (fun x_2 => (((x_2 0) 13), x_2)))) 148 0 x (by omega)
  rw [nI_0] at t
  rw [t, lt]
  obtain ⟨q, hq⟩ : ∃ q, q = setA (setA x 2 (cpF (x 2) 0 0 148 (x 0))) 4 (upd (setA x 2 (cpF (x 2) 0 0 148 (x 0)) 4) 1 1) := ⟨_, rfl⟩
  obtain ⟨y, hy⟩ : ∃ y, y = setV (setV xx 2 (xx 0)) 9 (setA (xx 9) 0 (upd (xx 9 0) 0 1)) := ⟨_, rfl⟩
  rw [← hq, ← hy]
  have q4 : q 4 = upd (x 4) 1 1 := by rw [hq, setA_same, setA_ne _ _ (by omega)]
  have m : ∀ j, j ≠ 4 → j ≠ 2 → q j = x j := fun j h4 h0 => by rw [hq, setA_ne _ _ h4, setA_ne _ _ h0]
  have n : ∀ j, j ≠ 9 → j ≠ 2 → y j = xx j := fun j h4 h0 => by rw [hy, setV_ne _ _ h4, setV_ne _ _ h0]
  have hc : ∀ k, k < 148 → x 0 k = q 2 k := fun k hk => by
    have t := cp_in (f := x 2) (d := 0) (n := 148) (g := x 0) (k := k) hk
    rw [Nat.zero_add] at t
    rw [hq, setA_ne _ _ (by omega), setA_same, t]
  refine fin2 (Q := RR) (by rw [m 0 (by omega) (by omega)]; exact h.now.nh) (RR.mk ?_ ?_ ?_ ?_ ?_)
  · rw [m 0 (by omega) (by omega), n 0 (by omega) (by omega)]; exact h.now
  · rw [m 0 (by omega) (by omega)]; exact h.ok
  · exact RG_c (fun j hj => n j (by omega) (by omega)) (m 1 (by omega) (by omega)) (by rw [q4, upd_ne _ _ (by omega)]) h.rg
  · refine Or.inr ⟨?_, ?_, ?_, ?_⟩
    · rw [hy, setV_same, setA_same, upd_same]
    · rw [q4, upd_same]
    · rw [hy, setV_ne _ _ (by omega), setV_same]; exact Rv_c hc h.now
    · exact ok_c hc h.ok
  · exact TX_c (n 7 (by omega) (by omega)) (m 3 (by omega) (by omega)) (by rw [q4, upd_ne _ _ (by omega)]) h.tx
theorem a_restore {xx : Nat → Nat → Nat → Int32} {x : Nat → Nat → Int32} (h : RR xx x) : (mX5_restore xx).1 = (mX6_restore x).1 ∧ RR (mX5_restore xx).2 (mX6_restore x).2 := by
  unfold mX5_restore mX6_restore
  rcases h.sn with ⟨s1, s2⟩ | ⟨s1, s2, s3, s4⟩
  · rw [if_pos s1, if_pos s2]; exact ⟨rfl, h⟩
  rw [if_neg (by rw [s1]; decide), if_neg (by rw [s2]; decide)]
  have e : ∀ (f : (Nat → Nat → Nat → Int32) → Int32 × (Nat → Nat → Nat → Int32)), lt (setV xx 1 (xx 0)) (fun xx_2 => lt (setV xx_2 0 (xx_2 2)) f) = f (und xx (xx 2)) := fun f => rfl
  rw [e, und_0]
  obtain ⟨r0, r2⟩ := rem_k h
  obtain ⟨n, hn, en⟩ := s4.H
  have ti := nI_toInt (n := n) (by omega)
  rw [s3.nh, en, rec_take h (Or.inl (by omega)), lt, lt, tr_148]
  have t := restore_l (fun xL_16 x1_16 => (((xL_16 0) 13), xL_16)) 148 0 (mX6_remembers x) (by omega)
  rw [nI_0] at t
  rw [t, r2]
  have hc : ∀ k, k < 148 → x 2 k = rowP (setA (mX6_remembers x) 0 (cpF (mX6_remembers x 0) 0 0 148 (x 2))) 0 k := fun k hk => by
    rw [rowP0]
    have t := cp_in (f := mX6_remembers x 0) (d := 0) (n := 148) (g := x 2) (k := k) hk
    rw [Nat.zero_add] at t
    rw [setA_same, t]
  refine fin2 (Q := RR) ?_ (act_rem h (Rv_c hc s3) (ok_c hc s4) ⟨fun k hk => by omega, fun j hj => setA_ne _ _ hj⟩)
  have t := hc 13 (by omega)
  rw [rowP0] at t
  rw [← en]; exact t
