/-! PURE 13: a complaint that is lodged, in both. -/
theorem c_letStand (v : Nat → Nat → Int32) {a m k : Nat} (h : Int32) (ha : a < 10) (hm : m < 4) (hk : k < 2) : mX4_letStand v (nI a) (nI m) (nI k) h = setA v 8 (upd (v 8) (8 * a + 2 * m + k) (v 8 (8 * a + 2 * m + k) ||| (1 <<< (h &&& 31)))) := by
  unfold mX4_letStand
  rw [pl_nI, at_in _ (by omega) (by omega), put_in _ _ (by omega) (by omega), lt, lt]
theorem c_tie (v : Nat → Nat → Int32) {m : Nat} (h : Int32) (hm : m < 4) : mX4_tie v (nI m) h = setA v 5 (upd (v 5) m (v 5 m ||| (1 <<< (h &&& 31)))) := by
  unfold mX4_tie mX4_tiedHours
  rw [at_in _ (by omega) (by omega), put_in _ _ (by omega) (by omega), lt, lt]
theorem c_untie (v : Nat → Nat → Int32) {m : Nat} (h : Int32) (hm : m < 4) : mX4_untie v (nI m) h = setA v 5 (upd (v 5) m (v 5 m &&& ((1 <<< (h &&& 31)) ^^^ (-1)))) := by
  unfold mX4_untie mX4_tiedHours
  rw [at_in _ (by omega) (by omega), put_in _ _ (by omega) (by omega), lt, lt]
theorem reason_rg (x : Nat → Nat → Int32) (pp a m k h : Int32) : mX6_reason x pp a m k h = 0 ∨ mX6_reason x pp a m k h = 1 ∨ mX6_reason x pp a m k h = 2 ∨ mX6_reason x pp a m k h = 3 ∨ mX6_reason x pp a m k h = 4 ∨ mX6_reason x pp a m k h = 5 ∨ mX6_reason x pp a m k h = 6 := by
  unfold mX6_reason
  repeat' split
  all_goals simp
section LO
variable {v : Nat → Nat → Int32} {x : Nat → Nat → Int32} {P : Nat}
theorem wrong_nI (ok : okR (rowP x P)) (hP : P ≤ 200) {a m k h : Int32} (c : 0 ≤ mX6_wrong x (nI P) a m k h) : ∃ a' m' k' h', a = nI a' ∧ m = nI m' ∧ k = nI k' ∧ h = nI h' ∧ a' < 10 ∧ m' < 4 ∧ k' < 2 ∧ h' < 24 ∧ (∀ n, rowP x P 13 = nI n → n < 2147483648 → a' < n) ∧ (∀ n, rowP x P 0 = nI n → n < 2147483648 → m' < n) := by
  unfold mX6_wrong at c
  by_cases c1 : mX6_isHouse x (nI P) a = 0
  · rw [if_pos c1] at c; exact absurd c (by decide)
  rw [if_neg c1] at c
  by_cases c2 : mX6_isMill x (nI P) m = 0
  · rw [if_pos c2] at c; exact absurd c (by decide)
  rw [if_neg c2] at c
  by_cases c3 : mX6_isHour h = 0
  · rw [if_pos c3] at c; exact absurd c (by decide)
  rw [if_neg c3] at c
  by_cases c4 : mX6_isRight k h = 0
  · rw [if_pos c4] at c; exact absurd c (by decide)
  obtain ⟨n1, g1, f1, z1⟩ := house_nI ok hP c1
  obtain ⟨n2, g2, f2, z2⟩ := mill_nI ok hP c2
  obtain ⟨n3, g3, f3⟩ := hour_nI c3
  obtain ⟨n4, g4, f4⟩ := kind_nI c4
  exact ⟨n1, n2, n4, n3, f1, f2, f4, f3, g1, g2, g4, g3, z1, z2⟩
theorem stN_le (r : Nat → Int32) (m h a : Nat) : stN r m h a ≤ 2 := by
  unfold stN
  have := bN_le (r (68 + (8 * a + 2 * m + 0))) h
  have := bN_le (r (68 + (8 * a + 2 * m + 1))) h
  omega
theorem pts_rg (R : Rv v (rowP x P)) (hP : P ≤ 200) {m h : Nat} (hm : m < 4) (hh : h < 24) : 0 ≤ (mX6_points x (nI P) (nI m) (nI h)).toInt := by
  rw [p_model R hP hm hh]
  have := sL_le (stN_le (rowP x P) m h) 10 0
  rw [nI_toInt (by omega)]; omega
theorem s_lodge (R : Rv v (rowP x P)) (ok : okR (rowP x P)) (hP : P ≤ 200) {a m k h : Int32} (c : 0 ≤ mX6_wrong x (nI P) a m k h) : SP P x v bL (mX5_lodge v a m k h) (mX6_complains x (nI P) a m k h) := by
  have er : mX4_reasonAgainst v a m k h = mX6_reason x (nI P) a m k h := by
    rw [e_why R ok hP, whyP, if_pos c]
  obtain ⟨a, m, k, h, rfl, rfl, rfl, rfl, ha, hm, hk, hh, za, zm⟩ := wrong_nI ok hP c
  unfold mX5_lodge mX6_complains
  rw [er]
  have rg := reason_rg x (nI P) (nI a) (nI m) (nI k) (nI h)
  revert rg
  generalize mX6_reason x (nI P) (nI a) (nI m) (nI k) (nI h) = r
  intro rg
  rcases rg with rfl | rfl | rfl | rfl | rfl | rfl | rfl
  · rw [if_pos (show (0 : Int32) ≤ 0 by decide), if_pos (show (0 : Int32) ≤ 0 by decide), if_pos (show (0 : Int32) < 4 by decide), if_pos (show (0 : Int32) ≤ 0 by decide)]
    rw [c_letStand v _ ha hm hk, jS (by omega)]
    refine SP_p (fun v3 h3 => ?_)
    refine SP_d (fun x3 k3 => ?_)
    have e3 : v 8 (8 * a + 2 * m + k) = x 0 (P + (68 + (8 * a + 2 * m + k))) := R.st _ (by omega)
    have R3 : Rv v3 (rowP x3 P) := by rw [h3, k3, rowP_u, e3]; exact Rv_st R (by omega) _
    have o3 : okR (rowP x3 P) := by
      rw [k3, rowP_u]
      exact ok_st ok ha hm hk (hs_or (ok.st _ (by omega)) hh) (fun n e hn => absurd (za n e (by omega)) (by omega)) (fun n e hn => absurd (zm n e (by omega)) (by omega))
    have l3 : low P x x3 := by rw [k3]; exact low_u P _ x _
    rw [show mX5_add 6 (v3 2) 0 1 = upd (v3 2) 0 (v3 2 0 + 1) from add_in (n := 6) (k := 0) (v3 2) 1 (by omega) (by omega), show (nI P + 62).toNatClampNeg = P + (62 + 0) from j1 62 (by omega)]
    refine SP_p (fun q4 h4 => SP_p (fun v5 h5 => ?_))
    refine SP_d (fun x4 k4 => ?_)
    have e4 : v3 2 0 = x3 0 (P + (62 + 0)) := R3.ta 0 (by omega)
    have R4 : Rv v5 (rowP x4 P) := by rw [h5, h4, k4, rowP_u, e4]; exact Rv_ta R3 (by omega) _
    have o4 : okR (rowP x4 P) := by rw [k4, rowP_u]; exact ok_ta o3 (by omega)
    have l4 : low P x x4 := by rw [k4]; exact low_t l3 (low_u P _ x3 _)
    have pp := pts_rg R4 hP hm hh
    rw [e_points R4 o4 hP hm hh, show mX4_setting v5 2 = x4 0 (P + 60) from e_setting R4 (k := 2) (by omega), show ((nI P + 58) + 2).toNatClampNeg = P + 60 from j2 58 2 (by omega)]
    revert pp
    generalize mX6_points x4 (nI P) (nI m) (nI h) = pts
    intro pp
    by_cases cs : pts < x4 0 (P + 60)
    · rw [if_pos cs, if_pos cs]; exact SP_ok R4 o4 l4 (by omega) (Or.inl (by omega))
    rw [if_neg cs, if_neg cs, c_tie v5 _ hm, jti (by omega)]
    refine SP_p (fun v7 h7 => ?_)
    refine SP_d (fun x6 k6 => ?_)
    have e6 : v5 5 m = x4 0 (P + (3 + 3 * m)) := R4.ti m hm
    have R6 : Rv v7 (rowP x6 P) := by rw [h7, k6, rowP_u, e6]; exact Rv_ti R4 hm _
    have o6 : okR (rowP x6 P) := by rw [k6, rowP_u]; exact ok_ti o4 hm (hs_or (o4.ti m hm) hh)
    have l6 : low P x x6 := by rw [k6]; exact low_t l4 (low_u P _ x4 _)
    exact SP_ok R6 o6 l6 (by omega) (Or.inl (by omega))
  · exact SP_err R ok (Or.inr ⟨by decide, by decide⟩)
  · exact SP_err R ok (Or.inr ⟨by decide, by decide⟩)
  · exact SP_err R ok (Or.inr ⟨by decide, by decide⟩)
  all_goals
    rw [if_pos (by decide), if_neg (by decide), if_neg (by decide), if_neg (by decide)]
    rw [add_in _ _ ha (by omega), jva (by omega)]
    refine SP_p (fun q9 h9 => SP_p (fun v10 h10 => ?_))
    refine SP_d (fun x7 k7 => ?_)
    have e7 : v 7 a = x 0 (P + (15 + 2 * a)) := R.va a ha
    have R7 : Rv v10 (rowP x7 P) := by rw [h10, h9, k7, rowP_u, e7]; exact Rv_va R ha _
    have o7 : okR (rowP x7 P) := by rw [k7, rowP_u]; exact ok_va ok ha
    have l7 : low P x x7 := by rw [k7]; exact low_u P _ x _
    rw [show mX5_add 6 (v10 2) 1 1 = upd (v10 2) 1 (v10 2 1 + 1) from add_in (n := 6) (k := 1) (v10 2) 1 (by omega) (by omega), show (nI P + 63).toNatClampNeg = P + (62 + 1) from j1 63 (by omega)]
    refine SP_p (fun q11 h11 => SP_p (fun v12 h12 => ?_))
    refine SP_d (fun x8 k8 => ?_)
    have e8 : v10 2 1 = x7 0 (P + (62 + 1)) := R7.ta 1 (by omega)
    have R8 : Rv v12 (rowP x8 P) := by rw [h12, h11, k8, rowP_u, e8]; exact Rv_ta R7 (by omega) _
    have o8 : okR (rowP x8 P) := by rw [k8, rowP_u]; exact ok_ta o7 (by omega)
    have l8 : low P x x8 := by rw [k8]; exact low_t l7 (low_u P _ x7 _)
    rw [if_neg (by decide)]
    exact SP_ok R8 o8 l8 (Or.inr (by decide)) (Or.inr ⟨by decide, by decide⟩)
end LO
