/-! P29, PURE 7b: complaints heard. -/
section HD
variable {xx : Nat → Nat → Nat → Int32} {e M N : Nat}
theorem p_heard (L : LI e M N xx) (he : e ≤ 1000) {a m k h : Nat} (ha : a < N) (hm : m < M) (hk : k < 2) (hh : h < 24) : mL_isHeard xx (nI a) (nI m) (nI k) (nI h) = (1, (mX5_complain xx (nI a) (nI m) (nI k) (nI h)).2) ∧ LI (e + 1) M N (setV (mX5_complain xx (nI a) (nI m) (nI k) (nI h)).2 10 (xx 10)) := by
  have V := L.V
  have hM := V.M4
  have hN := V.N10
  have ha10 : a < 10 := by omega
  have hm4 : m < 4 := by omega
  obtain ⟨⟨x, hx⟩, E⟩ := L
  have hRR := (a_complain hx (nI a) (nI m) (nI k) (nI h)).2
  have cp := cp_12 xx (nI a) (nI m) (nI k) (nI h)
  have hr := c_rsn V ha hm hk hh
  obtain ⟨r, hr6, er⟩ := rsn_cases (decide (¬ xx 0 7 a < 3)) (bt (xx 0 8 (8 * a + 2 * m + k)) h) (bt (xx 0 5 m) h) (xx 0 0 h) (mX4_troublesIfUntied (xx 0) (nI m) (nI a) (nI k) (nI h)) k (suB h)
  have hr2 : mX4_reasonAgainst (xx 0) (nI a) (nI m) (nI k) (nI h) = nI r := hr.trans er
  have ew : mX5_why (xx 0) (nI a) (nI m) (nI k) (nI h) = nI r := hr2
  obtain ⟨q, hq⟩ : ∃ z, z = mX5_complain xx (nI a) (nI m) (nI k) (nI h) := ⟨_, rfl⟩
  unfold mL_isHeard
  rw [ew, ← hq]
  rw [← hq] at cp hRR
  refine fin_LI hRR ?_
  by_cases c0 : r = 0
  · subst c0
    obtain ⟨B0, B1, B2⟩ := rsn_0 (hr.symm.trans hr2)
    obtain ⟨v', p, l1, l2, l3, l4, l5, l6⟩ := lodge_0 V ha hm hk hh hr2
    rw [l1] at cp
    obtain ⟨cp1, cp2⟩ := cp
    have cp1 : q.1 = nI p := cp1
    have cp2 : q.2 0 = v' := cp2
    obtain ⟨s1, s2, s3⟩ := more_1 ha10 hm4 hk hh B1 l4
    have tN : (xx 0 2 0 + 1).toInt = (xx 0 2 0).toInt + 1 := by
      have := up_t (f := xx 0 2) (E.ta 0 (by omega)) (by omega)
      rw [upd_same] at this; exact this
    have E' : EX (e + 1) M N v' (xx 10 0) := E.next (fun j hj => l3 j (by omega) (by omega) (by omega)) (by rw [l5]; exact ta_up E.ta (by omega)) (by rw [l3 7 (by omega) (by omega) (by omega)]; exact ta_id E.va) (by rw [l5, upd_ne _ _ (by omega), upd_ne _ _ (by omega)]; exact E.s23) (by rw [l5, upd_ne _ _ (by omega), upd_ne _ _ (by omega)]; exact E.s45) (by rw [l5, upd_same, tN]; exact s3 _ E.ss)
    have V' : VV v' M N := by
      have := VV.of hRR (M := M) (N := N) (by rw [cp2]; exact E'.cn.1) hM (by rw [cp2]; exact E'.cn.2.2.1) hN
      rw [cp2] at this; exact this
    refine ⟨v', cp2, E', ?_⟩
    have k8 : ∀ b, bN (v' 8 (8 * a + 2 * m + k)) b = if b = h then 1 else bN (xx 0 8 (8 * a + 2 * m + k)) b := fun b => by rw [l4, upd_same, bN_or _ hh]
    have p1 : 1 ≤ p := by
      rw [l2]
      have g := sL_get (f := stV v' m h) (h := a) N 0 (by omega) (by omega)
      have g2 : 1 ≤ stV v' m h a := by
        have := k8 h
        rw [if_pos rfl] at this
        unfold stV
        rcases (show k = 0 ∨ k = 1 by omega) with rfl | rfl
        · rw [this]; exact Nat.le_add_right 1 _
        · rw [this]; exact Nat.le_add_left 1 _
      exact Nat.le_trans g2 g
    have p20 : p ≤ 20 := by
      rw [l2]
      have := sL_le (stV_le v' m h) N 0
      exact Nat.le_trans this (by omega)
    clear l2
    refine lt_v ?_
    refine lt_v ?_
    refine lt_v ?_
    refine lt_v ?_
    refine lt_v ?_
    refine lt_v ?_
    refine lt_v ?_
    rw [if_pos (show nI 0 ≤ 0 by decide), cp1, if_neg (by rw [show (0 : Int32) = nI 0 from rfl, nJ_le (by omega) (by omega)]; omega), if_neg (by rw [show (20 : Int32) = nI 20 from rfl, nJ_lt (by omega) (by omega)]; omega), cp2]
    rw [ho_3 V' ha, c_stO V' ha10]
    refine lt_v ?_
    rw [ho_3 V ha, c_stO V ha10, if_pos s1, mo_5 V' hm, c_pO V' hm4]
    refine lt_v ?_
    rw [mo_5 V hm, c_pO V hm4, if_pos s2, show mX5_count q.2 2 = v' 2 0 by rw [ct_2, cp2]]
    refine lt_v ?_
    rw [show mX5_count xx 2 = xx 0 2 0 from ct_2, if_pos (by rw [l5, upd_same]), mo_2 V' hm]
    refine lt_v ?_
    rw [c_has _ hh]
    refine lt_v ?_
    rw [show mX5_count q.2 14 = xx 0 1 2 by rw [ct_14, cp2, l3 1 (by omega) (by omega) (by omega)]]
    refine lt_v ?_
    have et : (if bt (v' 5 m) h then (1 : Int32) else 0) = if nI p < xx 0 1 2 then 0 else 1 := by
      rcases l6 with ⟨c, z⟩ | ⟨c, z⟩
      · rw [if_pos c, z, B2]; rfl
      · rw [if_neg c, z, upd_same, bt_or, bt_shl hh, decide_eq_true rfl]; simp
    rw [et]
    refine lt_v ?_
    rw [if_pos rfl]
    have e2 : mX5_why v' (nI a) (nI m) (nI k) (nI h) = 2 := by
      refine (c_rsn V' ha hm hk hh).trans ?_
      unfold rsnI
      rw [l3 7 (by omega) (by omega) (by omega), B0, show bt (v' 8 (8 * a + 2 * m + k)) h = true by rw [l4, upd_same, bt_or, bt_shl hh, decide_eq_true rfl]; simp]
      rfl
    rw [e2]
    refine lt_v ?_
    rw [if_pos rfl]
  · by_cases c3 : r ≤ 3
    · have l1 := lodge_1 hr2 (by omega) c3
      rw [l1] at cp
      obtain ⟨cp1, cp2⟩ := cp
      have cp1 : q.1 = (-10) - nI r := cp1
      have cp2 : q.2 0 = xx 0 := cp2
      refine ⟨xx 0, cp2, E.same, ?_⟩
      refine lt_v ?_
      refine lt_v ?_
      refine lt_v ?_
      refine lt_v ?_
      refine lt_v ?_
      refine lt_v ?_
      refine lt_v ?_
      rw [if_neg (show ¬ nI r ≤ 0 by rw [show (0 : Int32) = nI 0 from rfl, nJ_le (by omega) (by omega)]; omega), if_pos (show nI r ≤ 3 by rw [show (3 : Int32) = nI 3 from rfl, nJ_le (by omega) (by omega)]; omega)]
      refine lt_v ?_
      rw [cp1, if_pos rfl, cp2]
      refine lt_v ?_
      rw [Int32.add_zero, if_pos rfl, show mX5_count q.2 3 = xx 0 2 1 by rw [ct_3, cp2]]
      refine lt_v ?_
      rw [show mX5_count xx 3 = xx 0 2 1 from ct_3, Int32.add_zero, if_pos rfl]
      refine lt_v ?_
      rw [if_pos rfl, show mX5_count q.2 2 = xx 0 2 0 by rw [ct_2, cp2]]
      refine lt_v ?_
      rw [show mX5_count xx 2 = xx 0 2 0 from ct_2, if_pos rfl]
    · obtain ⟨v', l1, l2, l3, l4⟩ := lodge_2 ha10 hr2 (by omega) hr6
      rw [l1] at cp
      obtain ⟨cp1, cp2⟩ := cp
      have cp1 : q.1 = (-10) - nI r := cp1
      have cp2 : q.2 0 = v' := cp2
      have E' : EX (e + 1) M N v' (xx 10 0) := E.next (fun j hj => l2 j (by omega) (by omega)) (by rw [l4]; exact ta_up E.ta (by omega)) (by rw [l3]; exact ta_up E.va ha10) (by rw [l4, upd_ne _ _ (by omega), upd_ne _ _ (by omega)]; exact E.s23) (by rw [l4, upd_ne _ _ (by omega), upd_ne _ _ (by omega)]; exact E.s45) (by rw [l4, upd_ne _ _ (by omega), SS_c (l2 8 (by omega) (by omega))]; exact E.ss)
      have V' : VV v' M N := by
        have := VV.of hRR (M := M) (N := N) (by rw [cp2]; exact E'.cn.1) hM (by rw [cp2]; exact E'.cn.2.2.1) hN
        rw [cp2] at this; exact this
      refine ⟨v', cp2, E', ?_⟩
      refine lt_v ?_
      refine lt_v ?_
      refine lt_v ?_
      refine lt_v ?_
      refine lt_v ?_
      refine lt_v ?_
      refine lt_v ?_
      rw [if_neg (show ¬ nI r ≤ 0 by rw [show (0 : Int32) = nI 0 from rfl, nJ_le (by omega) (by omega)]; omega), if_neg (show ¬ nI r ≤ 3 by rw [show (3 : Int32) = nI 3 from rfl, nJ_le (by omega) (by omega)]; omega)]
      refine lt_v ?_
      rw [cp1, if_pos rfl, cp2, ho_1 V' ha]
      refine lt_v ?_
      rw [ho_1 V ha, if_pos (by rw [l3, upd_same]), show mX5_count q.2 3 = v' 2 1 by rw [ct_3, cp2]]
      refine lt_v ?_
      rw [show mX5_count xx 3 = xx 0 2 1 from ct_3, if_pos (by rw [l4, upd_same]), ho_3 V' ha, c_stO V' ha10]
      refine lt_v ?_
      rw [ho_3 V ha, c_stO V ha10, if_pos (by rw [D2_c (l2 8 (by omega) (by omega))]), show mX5_count q.2 2 = v' 2 0 by rw [ct_2, cp2]]
      refine lt_v ?_
      rw [show mX5_count xx 2 = xx 0 2 0 from ct_2, if_pos (by rw [l4, upd_ne _ _ (by omega)])]
end HD
