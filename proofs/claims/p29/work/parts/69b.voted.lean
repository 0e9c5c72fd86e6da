/-! P29, PURE 9: votes. -/
theorem and_sub {a : Int32} {h : Nat} (hh : h < 24) (hb : bt a h = true) : a &&& (((1 : Int32) <<< (nI h &&& 31)) ^^^ (-1)) = a - ((1 : Int32) <<< (nI h &&& 31)) := by
  have h1 : (a &&& (((1 : Int32) <<< (nI h &&& 31)) ^^^ (-1))) &&& ((1 : Int32) <<< (nI h &&& 31)) = 0 := bt_ext (fun k hk => by
    rw [bt_and, bt_and, bt_not1 hh hk, bt_shl hh, bt_z]
    by_cases c : k = h
    · rw [decide_eq_false (fun z => z c)]; simp
    · rw [decide_eq_false c]; simp)
  have h2 : (a &&& (((1 : Int32) <<< (nI h &&& 31)) ^^^ (-1))) ||| ((1 : Int32) <<< (nI h &&& 31)) = a := bt_ext (fun k hk => by
    rw [bt_or, bt_and, bt_not1 hh hk, bt_shl hh]
    by_cases c : k = h
    · subst c; rw [decide_eq_true rfl, hb]; simp
    · rw [decide_eq_true c, decide_eq_false c]; simp)
  have e : (a &&& (((1 : Int32) <<< (nI h &&& 31)) ^^^ (-1))) + ((1 : Int32) <<< (nI h &&& 31)) = a := by
    apply Int32.toBitVec_inj.mp
    rw [Int32.toBitVec_add, BitVec.add_eq_or_of_and_eq_zero _ _ (by rw [← Int32.toBitVec_and, h1]; rfl), ← Int32.toBitVec_or, h2]
  conv => rhs; rw [← e]
  rw [Int32.add_sub_cancel]
section VO
variable {v : Nat → Nat → Int32} {M N : Nat}
theorem tr_c {v' : Nat → Nat → Int32} (h : ∀ j, j = 0 ∨ j = 1 ∨ j = 3 ∨ j = 4 ∨ j = 6 → v' j = v j) (a b c d : Int32) : mX4_troublesIfUntied v' a b c d = mX4_troublesIfUntied v a b c d := by
  unfold mX4_troublesIfUntied mX4_noiseIfUntied mX4_borneNoise mX4_blows mX4_setting mX4_windAt
  rw [h 0 (by omega), h 1 (by omega), h 3 (by omega), h 4 (by omega), h 6 (by omega)]
theorem tcS_c {v' : Nat → Nat → Int32} (h : ∀ j, j = 0 ∨ j = 1 ∨ j = 3 ∨ j = 4 ∨ j = 6 → v' j = v j) (m t n : Nat) : tcS v' m t n = tcS v m t n := by
  unfold tcS tcN
  simp only [tr_c h]
theorem arM {S S' : Nat} (h : S' ≤ S) (t : Int) (q : (S : Int) ≤ t) : (S' : Int) ≤ t := by omega
theorem oN_ndle (a : Int32) {h : Nat} (hh : h < 24) : oN (a &&& (((1 : Int32) <<< (nI h &&& 31)) ^^^ (-1))) ≤ oN a := Nat.le_trans (Nat.le_add_right _ _) (Nat.le_of_eq (oN_nd a hh))
theorem vl {m h : Nat} (hm : m < 4) : ∀ (n k : Nat) (yy : Nat → Nat → Nat → Int32), k + n ≤ 10 → ∃ v', (∀ C, mX5_vote_115 (nI m) (nI h) C n yy (nI k) = C (setV yy 0 v') (nI (k + n))) ∧ (∀ j, j ≠ 8 → v' j = yy 0 j) ∧ ∀ b j c, b < 10 → j < 4 → c < 2 → v' 8 (8 * b + 2 * j + c) = if (k ≤ b ∧ b < k + n) ∧ j = m then yy 0 8 (8 * b + 2 * j + c) &&& (((1 : Int32) <<< (nI h &&& 31)) ^^^ (-1)) else yy 0 8 (8 * b + 2 * j + c)
  | 0, k, yy, _ => ⟨yy 0, fun C => by rw [mX5_vote_115, setV_id]; rfl, fun _ _ => rfl, fun b j c _ _ _ => by rw [if_neg (by omega)]⟩
  | n + 1, k, yy, hk => by
    obtain ⟨v1, e1, w1, w8⟩ := c_drop (yy 0) (a := k) (m := m) (h := h) (by omega) hm
    obtain ⟨v', e2, w2, w9⟩ := vl hm n (k + 1) (setV yy 0 v1) (by omega)
    refine ⟨v', fun C => ?_, fun j hj => ?_, fun b j c hb hj hc => ?_⟩
    · rw [mX5_vote_115, e1]
      refine lt_v ?_
      refine lt_v ?_
      rw [nI_s, e2, setV2, show k + 1 + n = k + (n + 1) by omega]
    · rw [w2 j hj, setV_same, w1 j hj]
    · rw [w9 b j c hb hj hc, setV_same, w8 b j c hb hj hc]
      by_cases q : j = m
      · subst q
        by_cases q2 : b = k
        · subst q2
          rw [if_neg (by omega), if_pos ⟨rfl, rfl⟩, if_pos ⟨⟨by omega, by omega⟩, rfl⟩]
        · by_cases q3 : k + 1 ≤ b ∧ b < k + 1 + n
          · rw [if_pos ⟨q3, rfl⟩, if_neg (fun z => q2 z.1), if_pos ⟨⟨by omega, by omega⟩, rfl⟩]
          · rw [if_neg (fun z => q3 z.1), if_neg (fun z => q2 z.1), if_neg (fun z => q3 ⟨by omega, by omega⟩)]
      · rw [if_neg (fun z => q z.2), if_neg (fun z => q z.2), if_neg (fun z => q z.2)]
end VO
section VT
variable {xx : Nat → Nat → Nat → Int32} {e M N : Nat}
theorem vote_no (V : VV (xx 0) M N) {m h : Nat} (hm : m < M) (hh : h < 24) (c : bt (xx 0 5 m) h = false ∨ N = 0) : mX5_vote xx (nI m) (nI h) = (-4, xx) := by
  have hM := V.M4
  have hN := V.N10
  unfold mX5_vote
  rw [if_neg (hm_1 V hm), if_neg (hr_1 hh), c_isTied (xx 0) (by omega) hh]
  rcases c with c | c
  · rw [c]; rfl
  · cases bt (xx 0 5 m) h
    · rfl
    · rw [if_neg (by decide), if_pos (by rw [V.eN, c]; rfl)]
theorem vote_yes (V : VV (xx 0) M N) {m h : Nat} (hm : m < M) (hh : h < 24) (c : bt (xx 0 5 m) h = true) (c2 : N ≠ 0) : ∃ v', mX5_vote xx (nI m) (nI h) = mX5_recorded (und xx v') (nI (N - tcS (xx 0) m h N)) ∧ (∀ j, j ≠ 2 → j ≠ 5 → j ≠ 8 → v' j = xx 0 j) ∧ ((2 * (N - tcS (xx 0) m h N) ≤ N ∧ v' 2 = upd (xx 0 2) 4 (xx 0 2 4 + 1) ∧ v' 5 = xx 0 5 ∧ v' 8 = xx 0 8) ∨ (N < 2 * (N - tcS (xx 0) m h N) ∧ v' 2 = upd (upd (xx 0 2) 4 (xx 0 2 4 + 1)) 5 (xx 0 2 5 + 1) ∧ v' 5 = upd (xx 0 5) m (xx 0 5 m &&& (((1 : Int32) <<< (nI h &&& 31)) ^^^ (-1))) ∧ ∀ t : Int, (SS (xx 0) : Int) ≤ t → (SS v' : Int) ≤ t)) := by
  have hM := V.M4
  have hN := V.N10
  have hle := tcS_le (xx 0) m h N
  obtain ⟨v1, h1⟩ : ∃ z, z = setA (xx 0) 2 (upd (xx 0 2) 4 (xx 0 2 4 + 1)) := ⟨_, rfl⟩
  have w2 : v1 2 = upd (xx 0 2) 4 (xx 0 2 4 + 1) := by rw [h1, setA_same]
  have wj : ∀ j, j ≠ 2 → v1 j = xx 0 j := fun j hj => by rw [h1, setA_ne _ _ hj]
  have V1 : VV v1 M N := V.c (fun j q _ => wj j q)
  have ev : setA (xx 0) 2 (mX5_add 6 (xx 0 2) 4 1) = v1 := by rw [h1]; exact congrArg (setA (xx 0) 2) (add_in (k := 4) (xx 0 2) 1 (by omega) (by omega))
  have eU : ∀ f : (Nat → Nat → Nat → Int32) → Int32 × (Nat → Nat → Nat → Int32), lt (setV xx 1 (xx 0)) (fun xx_5 => lt (mX5_add 6 ((xx_5 0) 2) 4 1) (fun q_6 => lt (setV xx_5 0 (setA (xx_5 0) 2 q_6)) f)) = f (und xx v1) := fun f => by rw [← ev]; rfl
  have evt : mX4_votesForUntying v1 (nI m) (nI h) = nI (N - tcS (xx 0) m h N) := by
    rw [c_votes V1, tcS_c (fun j hj => wj j (by omega))]
  have e10 : v1 10 0 = nI N := V1.eN
  obtain ⟨v2, h2⟩ : ∃ z, z = setA v1 2 (upd (v1 2) 5 (v1 2 5 + 1)) := ⟨_, rfl⟩
  obtain ⟨v3, h3⟩ : ∃ z, z = setA v2 5 (upd (v2 5) m (v2 5 m &&& (((1 : Int32) <<< (nI h &&& 31)) ^^^ (-1)))) := ⟨_, rfl⟩
  have x2 : v3 2 = upd (upd (xx 0 2) 4 (xx 0 2 4 + 1)) 5 (xx 0 2 5 + 1) := by rw [h3, setA_ne _ _ (by omega), h2, setA_same, w2, upd_ne _ _ (show 5 ≠ 4 by omega)]
  have x5 : v3 5 = upd (xx 0 5) m (xx 0 5 m &&& (((1 : Int32) <<< (nI h &&& 31)) ^^^ (-1))) := by rw [h3, setA_same, h2, setA_ne _ _ (by omega), wj 5 (by omega)]
  have xj : ∀ j, j ≠ 2 → j ≠ 5 → v3 j = xx 0 j := fun j q1 q2 => by rw [h3, setA_ne _ _ q2, h2, setA_ne _ _ q1, wj j q1]
  obtain ⟨v4, l1, l2, l3⟩ := vl (m := m) (h := h) (by omega) N 0 (und xx v3) (by omega)
  have evote : mX5_vote xx (nI m) (nI h) = if 2 * nI (N - tcS (xx 0) m h N) ≤ nI N then mX5_recorded (und xx v1) (nI (N - tcS (xx 0) m h N)) else mX5_recorded (und xx v4) (nI (N - tcS (xx 0) m h N)) := by
    unfold mX5_vote
    rw [if_neg (hm_1 V hm), if_neg (hr_1 hh), c_isTied (xx 0) (by omega) hh, c, if_neg (by decide), if_neg (by rw [V.eN]; exact fun z => c2 (nI_inj (by omega) (by omega) z)), eU, und_0, evt, e10]
    by_cases d : 2 * nI (N - tcS (xx 0) m h N) ≤ nI N
    · rw [if_pos d, if_pos d]
      refine lt_v ?_
      exact eta2 _
    · rw [if_neg d, if_neg d]
      refine lt_v ?_
      rw [show setV (und xx v1) 0 (setA v1 2 (mX5_add 6 (v1 2) 5 1)) = und xx v2 by rw [h2, show mX5_add 6 (v1 2) 5 1 = upd (v1 2) 5 (v1 2 5 + 1) from add_in (k := 5) (v1 2) 1 (by omega) (by omega)]; exact setV2 _ _ _ _]
      refine lt_v ?_
      rw [und_0, c_untie v2 _ (show m < 4 by omega), ← h3]
      refine lt_v ?_
      rw [show setV (und xx v2) 0 v3 = und xx v3 from setV2 _ _ _ _]
      refine lt_v ?_
      rw [und_0, xj 10 (by omega) (by omega), V.eN, tr_0 (by omega)]
      refine (l1 _).trans ?_
      rw [show setV (und xx v3) 0 v4 = und xx v4 from setV2 _ _ _ _]
      refine lt_v ?_
      exact eta2 _
  rw [show (2 : Int32) = nI 2 from rfl, nI_mul] at evote
  rw [und_0] at l2 l3
  by_cases d : 2 * (N - tcS (xx 0) m h N) ≤ N
  · rw [if_pos ((nJ_le (by omega) (by omega)).mpr d)] at evote
    exact ⟨v1, evote, fun j q1 _ _ => wj j q1, Or.inl ⟨d, w2, wj 5 (by omega), wj 8 (by omega)⟩⟩
  · rw [if_neg (fun z => d ((nJ_le (by omega) (by omega)).mp z))] at evote
    refine ⟨v4, evote, fun j q1 q2 q3 => by rw [l2 j q3, xj j q1 q2], Or.inr ⟨by omega, by rw [l2 2 (by omega), x2], by rw [l2 5 (by omega), x5], ?_⟩⟩
    rw [xj 8 (by omega) (by omega)] at l3
    refine arM (show SS v4 ≤ SS (xx 0) from ?_)
    unfold SS
    refine sL_mono 10 0 (fun b _ hb => sL_mono 4 0 (fun j _ hj => ?_))
    unfold D2
    rw [l3 b j 0 (by omega) (by omega) (by omega), l3 b j 1 (by omega) (by omega) (by omega)]
    split
    · exact Nat.add_le_add (oN_ndle _ hh) (oN_ndle _ hh)
    · exact Nat.le_refl _
theorem p_voted (L : LI e M N xx) (he : e ≤ 1000) {m h : Nat} (hm : m < M) (hh : h < 24) : mL_isVoted xx (nI m) (nI h) = (1, (mX5_vote xx (nI m) (nI h)).2) ∧ LI (e + 1) M N (setV (mX5_vote xx (nI m) (nI h)).2 10 (xx 10)) := by
  have V := L.V
  have hM := V.M4
  have hN := V.N10
  have hm4 : m < 4 := by omega
  obtain ⟨⟨x, hx⟩, E⟩ := L
  have hRR := (a_vote hx (nI m) (nI h)).2
  obtain ⟨q, hq⟩ : ∃ z, z = mX5_vote xx (nI m) (nI h) := ⟨_, rfl⟩
  unfold mL_isVoted
  rw [← hq]
  rw [← hq] at hRR
  have hle := tcS_le (xx 0) m h N
  refine fin_LI hRR ?_
  rw [mo_2 V hm]
  by_cases cn : bt (xx 0 5 m) h = false ∨ N = 0
  · have l1 := vote_no V hm hh cn
    rw [← hq] at l1
    have q1 : q.1 = -4 := by rw [l1]
    have q2 : q.2 = xx := by rw [l1]
    refine ⟨xx 0, by rw [q2], E.same, ?_⟩
    refine lt_v ?_
    refine lt_v ?_
    refine lt_v ?_
    refine lt_v ?_
    rw [show mX5_count xx 1 = nI N by rw [ct_1, V.eN]]
    refine lt_v ?_
    refine lt_v ?_
    rw [c_has _ hh]
    refine lt_v ?_
    have fin : lt (mX5_count q.2 6) (fun r_10 => (if r_10 = mX5_count xx 6 then ((1 : Int32), q.2) else (0, q.2))) = (1, q.2) := by
      rw [q2]; refine lt_v ?_; rw [if_pos rfl]
    rw [q1]
    rcases cn with cn | cn
    · rw [cn, if_pos (show (if false = true then (1 : Int32) else 0) = 0 from rfl), if_pos rfl]; exact fin
    · cases bt (xx 0 5 m) h
      · rw [if_pos (show (if false = true then (1 : Int32) else 0) = 0 from rfl), if_pos rfl]; exact fin
      · rw [if_neg (show ¬ (if true = true then (1 : Int32) else 0) = 0 by decide), cn, if_pos (show nI 0 = 0 from rfl), if_pos rfl]; exact fin
  · have ct : bt (xx 0 5 m) h = true := by
      cases z : bt (xx 0 5 m) h
      · exact absurd (Or.inl z) cn
      · rfl
    have cN : N ≠ 0 := fun z => cn (Or.inr z)
    obtain ⟨v', l1, wj, l2⟩ := vote_yes V hm hh ct cN
    rw [← hq] at l1
    have r0 := rec_0 (und xx v') (nI (N - tcS (xx 0) m h N))
    rw [← l1, und_0] at r0
    obtain ⟨q1, q2⟩ := r0
    have t4 : (xx 0 2 4 + 1).toInt = (xx 0 2 4).toInt + 1 := by
      have := up_t (f := xx 0 2) (E.ta 4 (by omega)) (by omega)
      rw [upd_same] at this; exact this
    have t5 : (xx 0 2 5 + 1).toInt = (xx 0 2 5).toInt + 1 := by
      have := up_t (f := xx 0 2) (E.ta 5 (by omega)) (by omega)
      rw [upd_same] at this; exact this
    have E' : EX (e + 1) M N v' (xx 10 0) := by
      rcases l2 with ⟨d, x2, x5, x8⟩ | ⟨d, x2, x5, x8⟩
      · exact E.next (fun j hj => wj j (by omega) (by omega) (by omega)) (by rw [x2]; exact ta_up E.ta (by omega)) (by rw [wj 7 (by omega) (by omega) (by omega)]; exact ta_id E.va) (by rw [x2, upd_ne _ _ (show 3 ≠ 4 by omega), upd_ne _ _ (show 2 ≠ 4 by omega)]; exact E.s23) (by rw [x2, upd_ne _ _ (show 5 ≠ 4 by omega), upd_same, t4]; have := E.s45; omega) (by rw [x2, upd_ne _ _ (show 0 ≠ 4 by omega), SS_c x8]; exact E.ss)
      · have tA : ∀ k, k < 6 → ∃ n, n ≤ e + 1 ∧ v' 2 k = nI n := by
          intro k hk
          rw [x2]
          by_cases c : k = 5
          · subst c
            obtain ⟨n, n1, n2⟩ := E.ta 5 (by omega)
            exact ⟨n + 1, by omega, by rw [upd_same, n2, nI_s]⟩
          · rw [upd_ne _ _ c]; exact ta_up E.ta (by omega) k hk
        exact E.next (fun j hj => wj j (by omega) (by omega) (by omega)) tA (by rw [wj 7 (by omega) (by omega) (by omega)]; exact ta_id E.va) (by rw [x2, upd_ne _ _ (show 3 ≠ 5 by omega), upd_ne _ _ (show 3 ≠ 4 by omega), upd_ne _ _ (show 2 ≠ 5 by omega), upd_ne _ _ (show 2 ≠ 4 by omega)]; exact E.s23) (by rw [x2, upd_same, upd_ne _ _ (show 4 ≠ 5 by omega), upd_same, t4, t5]; have := E.s45; omega) (by rw [x2, upd_ne _ _ (show 0 ≠ 5 by omega), upd_ne _ _ (show 0 ≠ 4 by omega)]; exact x8 _ E.ss)
    have V' : VV v' M N := by
      have := VV.of hRR (M := M) (N := N) (by rw [q2]; exact E'.cn.1) hM (by rw [q2]; exact E'.cn.2.2.1) hN
      rw [q2] at this; exact this
    refine ⟨v', q2, E', ?_⟩
    refine lt_v ?_
    rw [c_ifV V hm hh]
    refine lt_v ?_
    refine lt_v ?_
    refine lt_v ?_
    rw [show mX5_count xx 1 = nI N by rw [ct_1, V.eN]]
    refine lt_v ?_
    refine lt_v ?_
    rw [c_has _ hh, ct]
    refine lt_v ?_
    rw [if_neg (show ¬ (if true = true then (1 : Int32) else 0) = 0 by decide), if_neg (show ¬ nI N = 0 from fun z => cN (nI_inj (by omega) (by omega) z)), show (2 : Int32) * nI (N - tcS (xx 0) m h N) = nI (2 * (N - tcS (xx 0) m h N)) from nI_mul 2 _, q1]
    rcases l2 with ⟨d, x2, x5, x8⟩ | ⟨d, x2, x5, x8⟩
    · rw [if_pos (show nI (2 * (N - tcS (xx 0) m h N)) ≤ nI N from (nJ_le (by omega) (by omega)).mpr d)]
      refine lt_v ?_
      rw [if_pos rfl, show mX5_count q.2 6 = v' 2 4 by rw [ct_6, q2]]
      refine lt_v ?_
      rw [show mX5_count xx 6 = xx 0 2 4 from ct_6, if_pos (by rw [x2, upd_same]), show mX5_count q.2 7 = v' 2 5 by rw [ct_7, q2]]
      refine lt_v ?_
      rw [if_pos rfl]
      refine lt_v ?_
      rw [show mX5_count xx 7 = xx 0 2 5 from ct_7, if_pos (by rw [x2, upd_ne _ _ (show 5 ≠ 4 by omega), Int32.add_zero]), q2, mo_2 V' hm]
      refine lt_v ?_
      rw [if_pos rfl]
      refine lt_v ?_
      rw [if_pos (by rw [x5])]
    · rw [if_neg (show ¬ nI (2 * (N - tcS (xx 0) m h N)) ≤ nI N from fun z => by have := (nJ_le (by omega) (by omega)).mp z; omega)]
      refine lt_v ?_
      rw [if_pos rfl, show mX5_count q.2 6 = v' 2 4 by rw [ct_6, q2]]
      refine lt_v ?_
      rw [show mX5_count xx 6 = xx 0 2 4 from ct_6, if_pos (by rw [x2, upd_ne _ _ (show 4 ≠ 5 by omega), upd_same]), show mX5_count q.2 7 = v' 2 5 by rw [ct_7, q2]]
      refine lt_v ?_
      rw [if_neg (show ¬ (1 : Int32) = 0 by decide)]
      refine lt_v ?_
      rw [show mX5_count xx 7 = xx 0 2 5 from ct_7, if_pos (by rw [x2, upd_same]), q2, mo_2 V' hm]
      refine lt_v ?_
      rw [if_neg (show ¬ (1 : Int32) = 0 by decide)]
      refine lt_v ?_
      rw [if_pos (by rw [x5, upd_same]; exact and_sub hh ct)]
end VT
