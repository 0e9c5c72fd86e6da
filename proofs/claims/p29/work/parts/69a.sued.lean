/-! P29, PURE 8: counter suits. -/
theorem ar4 {A B C D E F : Nat} (h1 : A + B = C) (h2 : D + E = F) : A + D + (B + E) = C + F := by omega
section DR
variable {v : Nat → Nat → Int32} {M N : Nat}
theorem VV.c (V : VV v M N) {v' : Nat → Nat → Int32} (h : ∀ j, j ≠ 2 → j ≠ 7 → v' j = v j) : VV v' M N := by
  unfold VV at *
  rw [h 9 (by omega) (by omega), h 10 (by omega) (by omega), h 0 (by omega) (by omega), h 1 (by omega) (by omega), h 3 (by omega) (by omega), h 4 (by omega) (by omega), h 5 (by omega) (by omega), h 6 (by omega) (by omega), h 8 (by omega) (by omega)]
  exact V
theorem c_drop (v : Nat → Nat → Int32) {a m h : Nat} (ha : a < 10) (hm : m < 4) : ∃ v', mX4_dropFor v (nI a) (nI m) (nI h) = v' ∧ (∀ j, j ≠ 8 → v' j = v j) ∧ ∀ b j k, b < 10 → j < 4 → k < 2 → v' 8 (8 * b + 2 * j + k) = if b = a ∧ j = m then v 8 (8 * b + 2 * j + k) &&& (((1 : Int32) <<< (nI h &&& 31)) ^^^ (-1)) else v 8 (8 * b + 2 * j + k) := by
  have E : mX4_dropFor v (nI a) (nI m) (nI h) = setA (setA v 8 (upd (v 8) (8 * a + 2 * m + 0) (v 8 (8 * a + 2 * m + 0) &&& (((1 : Int32) <<< (nI h &&& 31)) ^^^ (-1))))) 8 (upd (upd (v 8) (8 * a + 2 * m + 0) (v 8 (8 * a + 2 * m + 0) &&& (((1 : Int32) <<< (nI h &&& 31)) ^^^ (-1)))) (8 * a + 2 * m + (0 + 1)) (v 8 (8 * a + 2 * m + (0 + 1)) &&& (((1 : Int32) <<< (nI h &&& 31)) ^^^ (-1)))) := by
    unfold mX4_dropFor
    rw [tr_2, mX4_dropFor_3, show (0 : Int32) = nI 0 from rfl, pl_nI, at_in _ (by omega) (by omega), put_in _ _ (by omega) (by omega), lt, lt, mX4_dropFor_3, nI_s, pl_nI, at_in _ (by omega) (by omega), put_in _ _ (by omega) (by omega), lt, lt, mX4_dropFor_3]
    rw [setA_same, upd_ne _ _ (show 8 * a + 2 * m + (0 + 1) ≠ 8 * a + 2 * m + 0 by omega)]
  refine ⟨_, E, fun j h1 => by rw [setA_ne _ _ h1, setA_ne _ _ h1], fun b j k hb hj hk => ?_⟩
  rw [setA_same]
  by_cases c : b = a ∧ j = m
  · obtain ⟨rfl, rfl⟩ := c
    rw [if_pos ⟨rfl, rfl⟩]
    rcases (show k = 0 ∨ k = 1 by omega) with rfl | rfl
    · rw [upd_ne _ _ (by omega), upd_same]
    · rw [show 8 * b + 2 * j + (0 + 1) = 8 * b + 2 * j + 1 by omega, upd_same]
  · rw [if_neg c, upd_ne _ _ (by omega), upd_ne _ _ (by omega)]
theorem D2_nd {v' : Nat → Nat → Int32} {a m h : Nat} (ha : a < 10) (hm : m < 4) (hh : h < 24) (e : ∀ b j k, b < 10 → j < 4 → k < 2 → v' 8 (8 * b + 2 * j + k) = if b = a ∧ j = m then v 8 (8 * b + 2 * j + k) &&& (((1 : Int32) <<< (nI h &&& 31)) ^^^ (-1)) else v 8 (8 * b + 2 * j + k)) : D2 v' a m + stV v m h a = D2 v a m ∧ ∀ b j, b < 10 → j < 4 → ¬ (b = a ∧ j = m) → D2 v' b j = D2 v b j := by
  unfold D2 stV
  refine ⟨?_, fun b j hb hj hc => ?_⟩
  · rw [e a m 0 ha hm (by omega), e a m 1 ha hm (by omega), if_pos ⟨rfl, rfl⟩, if_pos ⟨rfl, rfl⟩]
    exact ar4 (oN_nd (v 8 (8 * a + 2 * m + 0)) hh) (oN_nd (v 8 (8 * a + 2 * m + 1)) hh)
  · rw [e b j 0 hb hj (by omega), e b j 1 hb hj (by omega), if_neg hc, if_neg hc]
/-- complaints gone, told in sums -/
theorem less_g {v' : Nat → Nat → Int32} {a m h : Nat} (ha : a < 10) (hm : m < 4) (hh : h < 24) (e : ∀ b j k, b < 10 → j < 4 → k < 2 → v' 8 (8 * b + 2 * j + k) = if b = a ∧ j = m then v 8 (8 * b + 2 * j + k) &&& (((1 : Int32) <<< (nI h &&& 31)) ^^^ (-1)) else v 8 (8 * b + 2 * j + k)) : nI (sL (D2 v a) 4 0) - nI (sL (D2 v' a) 4 0) = nI (stV v m h a) ∧ nI (sL (fun b => D2 v' b m) 10 0) = nI (sL (fun b => D2 v b m) 10 0) - nI (stV v m h a) ∧ ∀ t : Int, (SS v : Int) ≤ t → (SS v' : Int) ≤ t := by
  obtain ⟨d1, d2⟩ := D2_nd ha hm hh e
  obtain ⟨s1, s2, s3⟩ := D2_sums ha hm d2
  exact ⟨(nI_dif (arC s1 d1) (sum4_lt v a)).1, (nI_dif (arC s2 d1) (sum10_lt v m)).2, arD s3 d1⟩
theorem c_win {v : Nat → Nat → Int32} {a m h : Nat} (ha : a < 10) (hm : m < 4) : ∃ v', mX5_winSuit v (nI m) (nI a) (nI h) = v' ∧ (∀ j, j ≠ 2 → j ≠ 5 → j ≠ 7 → j ≠ 8 → v' j = v j) ∧ v' 2 = upd (v 2) 3 (v 2 3 + 1) ∧ v' 7 = upd (v 7) a (v 7 a + 1) ∧ ∀ b j k, b < 10 → j < 4 → k < 2 → v' 8 (8 * b + 2 * j + k) = if b = a ∧ j = m then v 8 (8 * b + 2 * j + k) &&& (((1 : Int32) <<< (nI h &&& 31)) ^^^ (-1)) else v 8 (8 * b + 2 * j + k) := by
  obtain ⟨v2, h2⟩ : ∃ z, z = setA v 2 (mX5_add 6 (v 2) 3 1) := ⟨_, rfl⟩
  obtain ⟨v4, h4⟩ : ∃ z, z = setA v2 7 (mX5_add 10 (v2 7) (nI a) 1) := ⟨_, rfl⟩
  obtain ⟨v5, e5, w5, w8⟩ := c_drop v4 (h := h) ha hm
  have E : mX5_winSuit v (nI m) (nI a) (nI h) = if mX4_setting v5 2 ≤ mX4_points v5 (nI m) (nI h) then v5 else mX4_untie v5 (nI m) (nI h) := by
    unfold mX5_winSuit
    refine lt_v ?_
    rw [← h2]
    refine lt_v ?_
    refine lt_v ?_
    rw [← h4]
    refine lt_v ?_
    rw [e5]
    refine lt_v ?_
    by_cases c : mX4_setting v5 2 ≤ mX4_points v5 (nI m) (nI h)
    · rw [if_pos c, if_pos c]
    · rw [if_neg c, if_neg c]
      refine lt_v ?_
      exact rfl
  have k2 : v2 2 = upd (v 2) 3 (v 2 3 + 1) := by rw [h2, setA_same]; exact add_in (k := 3) (v 2) 1 (by omega) (by omega)
  have k7 : v2 7 = v 7 := by rw [h2, setA_ne _ _ (by omega)]
  have f2 : v5 2 = upd (v 2) 3 (v 2 3 + 1) := by rw [w5 2 (by omega), h4, setA_ne _ _ (by omega), k2]
  have f7 : v5 7 = upd (v 7) a (v 7 a + 1) := by rw [w5 7 (by omega), h4, setA_same, k7, add_in _ _ ha (by omega)]
  have f8 : v4 8 = v 8 := by rw [h4, setA_ne _ _ (by omega), h2, setA_ne _ _ (by omega)]
  have fj : ∀ j, j ≠ 2 → j ≠ 7 → j ≠ 8 → v5 j = v j := fun j q1 q2 q3 => by rw [w5 j q3, h4, setA_ne _ _ q2, h2, setA_ne _ _ q1]
  rw [f8] at w8
  by_cases c : mX4_setting v5 2 ≤ mX4_points v5 (nI m) (nI h)
  · rw [if_pos c] at E
    exact ⟨v5, E, fun j q1 q2 q3 q4 => fj j q1 q3 q4, f2, f7, w8⟩
  · rw [if_neg c, c_untie v5 _ hm] at E
    refine ⟨_, E, fun j q1 q2 q3 q4 => ?_, ?_, ?_, fun b j k q1 q2 q3 => ?_⟩
    · rw [setA_ne _ _ q2, fj j q1 q3 q4]
    · rw [setA_ne _ _ (by omega), f2]
    · rw [setA_ne _ _ (by omega), f7]
    · rw [setA_ne _ _ (by omega)]; exact w8 b j k q1 q2 q3
end DR
section SU
variable {xx : Nat → Nat → Nat → Int32} {e M N : Nat}
theorem sue_no (V : VV (xx 0) M N) {a m h : Nat} (ha : a < N) (hm : m < M) (hh : h < 24) (c : bt (xx 0 5 m) h = false ∨ nI (stV (xx 0) m h a) = 0) : mX5_sue xx (nI m) (nI a) (nI h) = (-4, xx) := by
  have hM := V.M4
  have hN := V.N10
  unfold mX5_sue
  rw [if_neg (hm_1 V hm), if_neg (hh_1 V ha), if_neg (hr_1 hh), c_isTied (xx 0) (by omega) hh, c_stF (xx 0) (by omega) (by omega) hh]
  rcases c with c | c
  · rw [c]; rfl
  · rw [c]
    cases bt (xx 0 5 m) h
    · rfl
    · rw [if_neg (by decide), if_pos rfl]
theorem sue_yes (V : VV (xx 0) M N) {a m h : Nat} (ha : a < N) (hm : m < M) (hh : h < 24) (c : bt (xx 0 5 m) h = true) (c2 : ¬ nI (stV (xx 0) m h a) = 0) : ∃ v1, v1 = setA (xx 0) 2 (upd (xx 0 2) 2 (xx 0 2 2 + 1)) ∧ mX5_sue xx (nI m) (nI a) (nI h) = if xx 0 1 3 < xx 0 0 h * nI (oN (xx 0 5 m)) then mX5_recorded (und xx (mX5_winSuit v1 (nI m) (nI a) (nI h))) 1 else mX5_recorded (und xx v1) 0 := by
  have hM := V.M4
  have hN := V.N10
  refine ⟨_, rfl, ?_⟩
  obtain ⟨v1, h1⟩ : ∃ z, z = setA (xx 0) 2 (upd (xx 0 2) 2 (xx 0 2 2 + 1)) := ⟨_, rfl⟩
  rw [← h1]
  have ev : setA (xx 0) 2 (mX5_add 6 (xx 0 2) 2 1) = v1 := by rw [h1]; exact congrArg (setA (xx 0) 2) (add_in (k := 2) (xx 0 2) 1 (by omega) (by omega))
  have eU : ∀ f : (Nat → Nat → Nat → Int32) → Int32 × (Nat → Nat → Nat → Int32), lt (setV xx 1 (xx 0)) (fun xx_6 => lt (mX5_add 6 ((xx_6 0) 2) 2 1) (fun q_7 => lt (setV xx_6 0 (setA (xx_6 0) 2 q_7)) f)) = f (und xx v1) := fun f => by rw [← ev]; rfl
  unfold mX5_sue
  rw [if_neg (hm_1 V hm), if_neg (hh_1 V ha), if_neg (hr_1 hh), c_isTied (xx 0) (by omega) hh, c_stF (xx 0) (by omega) (by omega) hh, c, if_neg (by decide), if_neg c2, eU, und_0]
  have w5 : v1 5 = xx 0 5 := by rw [h1, setA_ne _ _ (by omega)]
  rw [show mX4_setting v1 3 = xx 0 1 3 by rw [← show v1 1 = xx 0 1 by rw [h1, setA_ne _ _ (by omega)]]; exact c_set v1 (k := 3) (by omega), c_wind v1 hh, c_tied v1 (show m < 4 by omega), w5, bc_N (V.ti (by omega)), show v1 0 = xx 0 0 by rw [h1, setA_ne _ _ (by omega)]]
  have eV : setV (und xx v1) 0 (mX5_winSuit v1 (nI m) (nI a) (nI h)) = und xx (mX5_winSuit v1 (nI m) (nI a) (nI h)) := setV2 _ _ _ _
  by_cases d : xx 0 1 3 < xx 0 0 h * nI (oN (xx 0 5 m))
  · rw [if_pos d, if_pos d]
    refine lt_v ?_
    rw [eV]
    refine lt_v ?_
    refine lt_v ?_
    exact eta2 _
  · rw [if_neg d, if_neg d]
    refine lt_v ?_
    exact eta2 _
theorem l19 (r : Int32) (C : Int32 → Int32 → (Int32 × (Nat → Nat → Nat → Int32))) : ∀ (n k s : Nat), k + n ≤ 24 → mL_isSued_19 r C n (nI k) (nI s) = C (nI (k + n)) (nI (s + sL (bN r) n k))
  | 0, k, s, _ => rfl
  | n + 1, k, s, h => by
    have e2 : ∀ b : Bool, (if (if b then (1 : Int32) else 0) = 0 then (0 : Int32) else 1) = nI (if b then 1 else 0) := fun b => by cases b <;> rfl
    rw [mL_isSued_19, c_has r (by omega)]
    refine lt_v ?_
    rw [e2]
    refine lt_v ?_
    refine lt_v ?_
    rw [nI_add, nI_s, l19 r C n (k + 1) _ (by omega), sL, Nat.add_assoc s, show k + 1 + n = k + (n + 1) by omega]
    rfl
theorem l19_0 (r : Int32) (C : Int32 → Int32 → (Int32 × (Nat → Nat → Nat → Int32))) : mL_isSued_19 r C 24 0 0 = C (nI (0 + 24)) (nI (0 + sL (bN r) 24 0)) := l19 r C 24 0 0 (by omega)
theorem p_sued (L : LI e M N xx) (he : e ≤ 1000) {a m h : Nat} (ha : a < N) (hm : m < M) (hh : h < 24) : (mL_isSued xx (nI m) (nI a) (nI h)).1 = 1 ∧ LI (e + 1) M N (mL_isSued xx (nI m) (nI a) (nI h)).2 := by
  have V := L.V
  have hM := V.M4
  have hN := V.N10
  have ha10 : a < 10 := by omega
  have hm4 : m < 4 := by omega
  obtain ⟨⟨x, hx⟩, E⟩ := L
  have hRR := (a_sue hx (nI m) (nI a) (nI h)).2
  obtain ⟨q, hq⟩ : ∃ z, z = mX5_sue xx (nI m) (nI a) (nI h) := ⟨_, rfl⟩
  rw [← hq] at hRR
  obtain ⟨yy, hyy⟩ : ∃ z, z = setV q.2 10 (xx 10) := ⟨_, rfl⟩
  have y0 : yy 0 = q.2 0 := by rw [hyy, setV_ne _ _ (by omega)]
  refine fin_S (xx := xx) hRR hyy ?_
  unfold mL_isSued
  rw [mo_2 V hm]
  obtain ⟨g, eg, hg2⟩ : ∃ g, nI (stV (xx 0) m h a) = nI g ∧ g ≤ 2 := ⟨_, rfl, stV_le _ _ _ _⟩
  by_cases cn : bt (xx 0 5 m) h = false ∨ nI (stV (xx 0) m h a) = 0
  · have l1 := sue_no V ha hm hh cn
    rw [← hq] at l1
    have q1 : q.1 = -4 := by rw [l1]
    have q2 : q.2 = xx := by rw [l1]
    rw [q2] at y0
    refine ⟨xx 0, by rw [q2], E.same, ?_⟩
    refine lt_v ?_
    refine lt_v ?_
    rw [tr_24, l19_0]
    refine lt_v ?_
    refine lt_v ?_
    refine lt_v ?_
    refine lt_v ?_
    refine lt_v ?_
    refine lt_v ?_
    refine lt_v ?_
    rw [← hq]
    refine lt_v ?_
    rw [← hyy]
    refine lt_v ?_
    rw [q1, if_neg (show ¬ (0 : Int32) ≤ -4 by decide), if_pos rfl, show mX5_count yy 4 = mX5_count xx 4 by rw [ct_4, ct_4, y0]]
    refine lt_v ?_
    rw [if_pos rfl, y0]
    refine lt_v ?_
    rw [if_pos rfl]
  · have ct : bt (xx 0 5 m) h = true := by
      cases z : bt (xx 0 5 m) h
      · exact absurd (Or.inl z) cn
      · rfl
    have cs : ¬ nI (stV (xx 0) m h a) = 0 := fun z => cn (Or.inr z)
    have g0 : g ≠ 0 := fun z => cs (by rw [eg, z]; rfl)
    obtain ⟨v1, h1, l1⟩ := sue_yes V ha hm hh ct cs
    rw [← hq] at l1
    have w2 : v1 2 = upd (xx 0 2) 2 (xx 0 2 2 + 1) := by rw [h1, setA_same]
    have wj : ∀ j, j ≠ 2 → v1 j = xx 0 j := fun j hj => by rw [h1, setA_ne _ _ hj]
    have t2 : (upd (xx 0 2) 2 (xx 0 2 2 + 1) 2).toInt = (xx 0 2 2).toInt + 1 := up_t (f := xx 0 2) (E.ta 2 (by omega)) (by omega)
    have ew : xx 10 0 (nI h).toNatClampNeg = xx 0 0 h := by rw [nI_cl (by omega), E.ew h hh]
    by_cases cw : xx 0 1 3 < xx 0 0 h * nI (oN (xx 0 5 m))
    · rw [if_pos cw] at l1
      obtain ⟨v', g1, g2, g3, g4, g5⟩ := c_win (v := v1) (h := h) ha10 hm4
      rw [g1] at l1
      have r0 := rec_0 (und xx v') 1
      rw [← l1, und_0] at r0
      obtain ⟨q1, q2⟩ := r0
      rw [q2] at y0
      rw [wj 8 (by omega)] at g5
      obtain ⟨s1, s2, s3⟩ := less_g ha10 hm4 hh g5
      rw [eg] at s1 s2
      have u2 : v' 2 = upd (upd (xx 0 2) 2 (xx 0 2 2 + 1)) 3 (xx 0 2 3 + 1) := by rw [g3, w2, upd_ne _ _ (show 3 ≠ 2 by omega)]
      have u7 : v' 7 = upd (xx 0 7) a (xx 0 7 a + 1) := by rw [g4, wj 7 (by omega)]
      have uj : ∀ j, j ≠ 2 → j ≠ 5 → j ≠ 7 → j ≠ 8 → v' j = xx 0 j := fun j k1 k2 k3 k4 => by rw [g2 j k1 k2 k3 k4, wj j k1]
      have t3 : (xx 0 2 3 + 1).toInt = (xx 0 2 3).toInt + 1 := by
        have := up_t (f := xx 0 2) (E.ta 3 (by omega)) (by omega)
        rw [upd_same] at this; exact this
      have tA : ∀ k, k < 6 → ∃ n, n ≤ e + 1 ∧ v' 2 k = nI n := by
        intro k hk
        rw [u2]
        by_cases c : k = 3
        · subst c
          obtain ⟨n, n1, n2⟩ := E.ta 3 (by omega)
          exact ⟨n + 1, by omega, by rw [upd_same, n2, nI_s]⟩
        · rw [upd_ne _ _ c]; exact ta_up E.ta (by omega) k hk
      have E' : EX (e + 1) M N v' (xx 10 0) := E.next (fun j hj => uj j (by omega) (by omega) (by omega) (by omega)) tA (by rw [u7]; exact ta_up E.va ha10) (by rw [u2, upd_same, upd_ne _ _ (show 2 ≠ 3 by omega), t2, t3]; have := E.s23; omega) (by rw [u2, upd_ne _ _ (show 5 ≠ 3 by omega), upd_ne _ _ (show 5 ≠ 2 by omega), upd_ne _ _ (show 4 ≠ 3 by omega), upd_ne _ _ (show 4 ≠ 2 by omega)]; exact E.s45) (by rw [u2, upd_ne _ _ (show 0 ≠ 3 by omega), upd_ne _ _ (show 0 ≠ 2 by omega)]; exact s3 _ E.ss)
      have V' : VV v' M N := by
        have := VV.of hRR (M := M) (N := N) (by rw [q2]; exact E'.cn.1) hM (by rw [q2]; exact E'.cn.2.2.1) hN
        rw [q2] at this; exact this
      refine ⟨v', q2, E', ?_⟩
      refine lt_v ?_
      rw [c_has _ hh, ct]
      refine lt_v ?_
      rw [tr_24, l19_0]
      refine lt_v ?_
      rw [ho_3 V ha, c_stO V ha10]
      refine lt_v ?_
      rw [mo_5 V hm, c_pO V hm4]
      refine lt_v ?_
      refine lt_v ?_
      refine lt_v ?_
      rw [show mX5_count xx 15 = xx 0 1 3 from ct_15]
      refine lt_v ?_
      rw [ew, show nI (0 + sL (bN (xx 0 5 m)) 24 0) = nI (oN (xx 0 5 m)) by rw [Nat.zero_add]; rfl, if_neg (show ¬ xx 0 0 h * nI (oN (xx 0 5 m)) ≤ xx 0 1 3 by rw [i_le]; rw [i_lt] at cw; omega)]
      refine lt_v ?_
      rw [← hq]
      refine lt_v ?_
      rw [← hyy]
      refine lt_v ?_
      rw [q1, if_pos (show (0 : Int32) ≤ 1 by decide), y0, ho_3 V' ha, c_stO V' ha10]
      refine lt_v ?_
      rw [s1]
      refine lt_v ?_
      rw [if_neg (show ¬ (if true = true then (1 : Int32) else 0) = 0 by decide)]
      refine lt_v ?_
      rw [if_neg (show ¬ (1 : Int32) = 0 by decide), if_pos rfl, show mX5_count yy 4 = v' 2 2 by rw [ct_4, y0]]
      refine lt_v ?_
      rw [show mX5_count xx 4 = xx 0 2 2 from ct_4, if_pos (by rw [u2, upd_ne _ _ (show 2 ≠ 3 by omega), upd_same]), show mX5_count yy 5 = v' 2 3 by rw [ct_5, y0]]
      refine lt_v ?_
      rw [show mX5_count xx 5 = xx 0 2 3 from ct_5, if_pos (by rw [u2, upd_same]), ho_1 V' ha]
      refine lt_v ?_
      rw [ho_1 V ha, if_pos (by rw [u7, upd_same]), if_neg (show ¬ (1 : Int32) = 0 by decide), if_neg (show ¬ nI g ≤ 0 by rw [show (0 : Int32) = nI 0 from rfl, nJ_le (by omega) (by omega)]; omega), if_neg (show ¬ 3 ≤ nI g by rw [show (3 : Int32) = nI 3 from rfl, nJ_le (by omega) (by omega)]; omega), mo_5 V' hm, c_pO V' hm4]
      refine lt_v ?_
      rw [if_pos s2, if_neg (show ¬ (1 : Int32) = 0 by decide)]
    · rw [if_neg cw] at l1
      have r0 := rec_0 (und xx v1) 0
      rw [← l1, und_0] at r0
      obtain ⟨q1, q2⟩ := r0
      rw [q2] at y0
      have E' : EX (e + 1) M N v1 (xx 10 0) := E.next (fun j hj => wj j (by omega)) (by rw [w2]; exact ta_up E.ta (by omega)) (by rw [wj 7 (by omega)]; exact ta_id E.va) (by rw [w2, t2, upd_ne _ _ (show 3 ≠ 2 by omega)]; have := E.s23; omega) (by rw [w2, upd_ne _ _ (show 5 ≠ 2 by omega), upd_ne _ _ (show 4 ≠ 2 by omega)]; exact E.s45) (by rw [w2, upd_ne _ _ (show 0 ≠ 2 by omega), SS_c (wj 8 (by omega))]; exact E.ss)
      have V' : VV v1 M N := V.c (fun j h1 _ => wj j h1)
      refine ⟨v1, q2, E', ?_⟩
      refine lt_v ?_
      rw [c_has _ hh, ct]
      refine lt_v ?_
      rw [tr_24, l19_0]
      refine lt_v ?_
      rw [ho_3 V ha, c_stO V ha10]
      refine lt_v ?_
      rw [mo_5 V hm, c_pO V hm4]
      refine lt_v ?_
      refine lt_v ?_
      refine lt_v ?_
      rw [show mX5_count xx 15 = xx 0 1 3 from ct_15]
      refine lt_v ?_
      rw [ew, show nI (0 + sL (bN (xx 0 5 m)) 24 0) = nI (oN (xx 0 5 m)) by rw [Nat.zero_add]; rfl, if_pos (show xx 0 0 h * nI (oN (xx 0 5 m)) ≤ xx 0 1 3 by rw [i_le]; rw [i_lt] at cw; omega)]
      refine lt_v ?_
      rw [← hq]
      refine lt_v ?_
      rw [← hyy]
      refine lt_v ?_
      rw [q1, if_pos z_le0, y0, ho_3 V' ha, c_stO V' ha10, D2_c (wj 8 (by omega))]
      refine lt_v ?_
      rw [show nI (sL (D2 (xx 0) a) 4 0) - nI (sL (D2 (xx 0) a) 4 0) = 0 from Int32.sub_self _]
      refine lt_v ?_
      rw [if_neg (show ¬ (if true = true then (1 : Int32) else 0) = 0 by decide), if_pos rfl]
      refine lt_v ?_
      rw [if_pos rfl, show mX5_count yy 4 = v1 2 2 by rw [ct_4, y0]]
      refine lt_v ?_
      rw [show mX5_count xx 4 = xx 0 2 2 from ct_4, if_pos (by rw [w2, upd_same]), show mX5_count yy 5 = v1 2 3 by rw [ct_5, y0]]
      refine lt_v ?_
      rw [show mX5_count xx 5 = xx 0 2 3 from ct_5, if_pos (by rw [w2, upd_ne _ _ (show 3 ≠ 2 by omega), Int32.add_zero]), ho_1 V' ha]
      refine lt_v ?_
      rw [ho_1 V ha, if_pos (by rw [wj 7 (by omega), Int32.add_zero]), if_pos rfl, if_pos rfl, mo_5 V' hm, c_pO V' hm4, D2_c (wj 8 (by omega))]
      refine lt_v ?_
      rw [if_pos (by rw [Int32.sub_zero]), if_pos rfl, mo_2 V' hm, wj 5 (by omega)]
      refine lt_v ?_
      rw [c_has _ hh, ct]
      refine lt_v ?_
      rw [if_neg (show ¬ (if true = true then (1 : Int32) else 0) = 0 by decide)]
end SU
