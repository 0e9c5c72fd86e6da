/-! PURE 8: the calls that tell. -/
section AT
variable {v : Nat → Nat → Int32} {x : Nat → Nat → Int32} {P : Nat}
theorem ma_loop (R : Rv v (rowP x P)) (hP : P ≤ 200) (y : Int32) : ∀ (n k : Nat), k + n ≤ 4 → mX4_firstWith_2 4 (v 4) y (fun _ => -5) n (nI k) = mX6_millAt_2 x (nI P) y (fun _ => -5) n (nI k)
  | 0, k, _ => rfl
  | n + 1, k, hk => by
    rw [mX4_firstWith_2, mX6_millAt_2, e_myard R hP (by omega), nI_s k, ma_loop R hP y n (k + 1) (by omega)]
theorem ha_loop (R : Rv v (rowP x P)) (hP : P ≤ 200) (y : Int32) : ∀ (n k : Nat), k + n ≤ 10 → mX4_firstWith_2 10 (v 6) y (fun _ => -5) n (nI k) = mX6_houseAt_2 x (nI P) y (fun _ => -5) n (nI k)
  | 0, k, _ => rfl
  | n + 1, k, hk => by
    rw [mX4_firstWith_2, mX6_houseAt_2, e_hyard R hP (by omega), nI_s k, ha_loop R hP y n (k + 1) (by omega)]
theorem e_millAt (R : Rv v (rowP x P)) (ok : okR (rowP x P)) (hP : P ≤ 200) (y : Int32) : mX4_millAt v y = mX6_millAt x (nI P) y := by
  obtain ⟨n, hn, e⟩ := ok.M
  unfold mX4_millAt mX4_firstWith mX6_millAt
  rw [show ((nI P + 0)).toNatClampNeg = P + 0 from j1 0 (by omega), show x 0 (P + 0) = nI n from e, R.nm, e, tr_0 (by omega)]
  exact ma_loop R hP y n 0 (by omega)
theorem e_houseAt (R : Rv v (rowP x P)) (ok : okR (rowP x P)) (hP : P ≤ 200) (y : Int32) : mX4_houseAt v y = mX6_houseAt x (nI P) y := by
  obtain ⟨n, hn, e⟩ := ok.H
  unfold mX4_houseAt mX4_firstWith mX6_houseAt
  rw [show ((nI P + 13)).toNatClampNeg = P + 13 from j1 13 (by omega), show x 0 (P + 13) = nI n from e, R.nh, e, tr_0 (by omega)]
  exact ha_loop R hP y n 0 (by omega)
theorem e_isFree (R : Rv v (rowP x P)) (ok : okR (rowP x P)) (hP : P ≤ 200) (y : Int32) : mX4_isFree v y = 0 ↔ ¬ mX6_isBuilt x (nI P) y = 0 := by
  unfold mX4_isFree mX6_isBuilt
  rw [e_millAt R ok hP, e_houseAt R ok hP]
  by_cases c1 : mX6_millAt x (nI P) y = -5
  · by_cases c2 : mX6_houseAt x (nI P) y = -5
    · simp [c1, c2]
    · simp [c1, c2]
  · simp [c1]
end AT
section P0
variable {v : Nat → Nat → Int32} {x : Nat → Nat → Int32}
theorem p_yardOf (R : Rv v (rowP x 0)) (ok : okR (rowP x 0)) (a b : Int32) : mX5_yardOf v a b = mX6_yardOf x a b := by
  unfold mX5_yardOf mX6_yardOf
  rw [e_isYard, e_millAt R ok (by omega), e_houseAt R ok (by omega)]
  rfl
theorem p_millOf (R : Rv v (rowP x 0)) (ok : okR (rowP x 0)) (a b : Int32) : mX5_millOf v a b = mX6_millOf x a b := by
  unfold mX5_millOf mX6_millOf
  rw [hM0 R ok]
  by_cases c : mX6_isMill x 0 a = 0
  · rw [if_pos c, if_pos c]
  · rw [if_neg c, if_neg c]
    obtain ⟨m, hm, rfl⟩ := mill0 ok c
    have h0 := e_height R (by omega) hm
    have h1 := e_myard R (by omega) hm
    have h2 := e_tiedH R (by omega) hm
    rw [nI_0] at h0 h1 h2
    rw [h0, h1, h2, e_turning R hm, e_grain R hm, e_allPoints R ok hm]
    by_cases b0 : b = 0
    · subst b0; first | (rw [if_pos rfl, if_pos rfl]; done) | (rw [if_pos rfl]; done)
    · rw [if_neg b0, if_neg b0]
      by_cases b1 : b = 1
      · subst b1; first | (rw [if_pos rfl, if_pos rfl]; done) | (rw [if_pos rfl]; done)
      · rw [if_neg b1, if_neg b1]
        by_cases b2 : b = 2
        · subst b2; first | (rw [if_pos rfl, if_pos rfl]; done) | (rw [if_pos rfl]; done)
        · rw [if_neg b2, if_neg b2]
theorem p_houseOf (R : Rv v (rowP x 0)) (ok : okR (rowP x 0)) (a b : Int32) : mX5_houseOf v a b = mX6_houseOf x a b := by
  unfold mX5_houseOf mX6_houseOf
  rw [hH0 R ok]
  by_cases c : mX6_isHouse x 0 a = 0
  · rw [if_pos c, if_pos c]
  · rw [if_neg c, if_neg c]
    obtain ⟨m, hm, rfl⟩ := house0 ok c
    have h0 := e_hyard R (by omega) hm
    have h1 := e_vain R (by omega) hm
    rw [nI_0] at h0 h1
    have t0 := e_troubledH R ok hm (kd := 0) (by omega)
    have t1 := e_troubledH R ok hm (kd := 1) (by omega)
    rw [nI_0] at t0
    rw [show nI 1 = 1 from rfl] at t1
    unfold mX4_isBarred
    rw [h0, h1, e_standing R ok hm, t0, t1]
    by_cases b0 : b = 0
    · subst b0; first | (rw [if_pos rfl, if_pos rfl]; done) | (rw [if_pos rfl]; done)
    · rw [if_neg b0, if_neg b0]
      by_cases b1 : b = 1
      · subst b1; first | (rw [if_pos rfl, if_pos rfl]; done) | (rw [if_pos rfl]; done)
      · rw [if_neg b1, if_neg b1]
        by_cases b2 : b = 2
        · rw [if_pos b2, if_pos b2]
          split <;> split <;> simp_all
        · rw [if_neg b2, if_neg b2]
          by_cases b3 : b = 3
          · rw [if_pos b3, if_pos b3]
          · rw [if_neg b3, if_neg b3]
            by_cases b4 : b = 4
            · subst b4; rw [if_pos rfl, if_pos rfl, show (4 : Int32) - 4 = 0 from rfl]
            · rw [if_neg b4, if_neg b4]
              by_cases b5 : b = 5
              · subst b5; rw [if_pos rfl, if_pos rfl, show (5 : Int32) - 4 = 1 from rfl]
              · rw [if_neg b5, if_neg b5]
theorem p_noise (R : Rv v (rowP x 0)) (ok : okR (rowP x 0)) (a y h : Int32) : mX5_noise v a y h = mX6_noise x a y h := by
  unfold mX5_noise mX6_noise
  rw [hM0 R ok, e_isYard, e_isHour]
  by_cases c : mX6_isMill x 0 a = 0
  · rw [if_pos c, if_pos c]
  · rw [if_neg c, if_neg c]
    by_cases c2 : mX6_isYard y = 0
    · rw [if_pos c2, if_pos c2]
    · rw [if_neg c2, if_neg c2]
      by_cases c3 : mX6_isHour h = 0
      · rw [if_pos c3, if_pos c3]
      · rw [if_neg c3, if_neg c3]
        obtain ⟨m, hm, rfl⟩ := mill0 ok c
        obtain ⟨k, hk, rfl⟩ := hour_nI c3
        exact e_noiseIn R hm hk y
theorem way_01 (R : Rv v (rowP x 0)) (ok : okR (rowP x 0)) (w : Int32) : mX6_in w 0 1 = 0 ↔ (¬ w = 0 ∧ ¬ w = 1) := by
  rw [in_iff, i_eq, i_eq]
  have e0 : (0 : Int32).toInt = 0 := rfl
  have e1 : (1 : Int32).toInt = 1 := rfl
  omega
theorem p_shadow (R : Rv v (rowP x 0)) (ok : okR (rowP x 0)) (a y h w : Int32) : mX5_shadow v a y h w = mX6_shadow x a y h w := by
  unfold mX5_shadow mX6_shadow
  rw [hM0 R ok, e_isYard, e_isHour]
  by_cases c : mX6_isMill x 0 a = 0
  · rw [if_pos c, if_pos c]
  · rw [if_neg c, if_neg c]
    by_cases c2 : mX6_isYard y = 0
    · rw [if_pos c2, if_pos c2]
    · rw [if_neg c2, if_neg c2]
      by_cases c3 : mX6_isHour h = 0
      · rw [if_pos c3, if_pos c3]
      · rw [if_neg c3, if_neg c3]
        obtain ⟨m, hm, rfl⟩ := mill0 ok c
        obtain ⟨k, hk, rfl⟩ := hour_nI c3
        obtain ⟨j, hj, rfl⟩ := yard_nI c2
        have q1 := e_met R ok (by omega) hm hj hk
        have q2 := e_lies R ok (by omega) hm hj hk
        rw [nI_0] at q1 q2
        rw [q1, q2]
        by_cases w0 : w = 0
        · subst w0; rfl
        · by_cases w1 : w = 1
          · subst w1; rfl
          · rw [if_neg w0, if_neg w1, if_pos ((way_01 R ok w).mpr ⟨w0, w1⟩)]
theorem p_why (R : Rv v (rowP x 0)) (ok : okR (rowP x 0)) (a m k h : Int32) : mX5_why v a m k h = mX6_why x a m k h := e_why R ok (by omega) a m k h
end P0
theorem p_count {xx : Nat → Nat → Nat → Int32} {x : Nat → Nat → Int32} (R : Rv (xx 0) (rowP x 0)) (ok : okR (rowP x 0)) (hz : xx 8 0 1 = x 4 0) (hl : xx 7 1 0 = x 4 2) (b : Int32) : mX5_count xx b = mX6_count x b := by
  have hta : ∀ k, k < 6 → xx 0 2 k = x 0 (62 + k) := fun k hk => by have := R.ta k hk; rw [rowP0] at this; exact this
  have hse : ∀ k, k < 4 → mX4_setting (xx 0) (nI k) = x 0 (58 + k) := fun k hk => by
    have := e_setting R hk; rw [Nat.zero_add] at this; exact this
  have hm : xx 0 9 0 = x 0 0 := R.nm
  have hh : xx 0 10 0 = x 0 13 := R.nh
  have e8 := e_om8 R ok
  have e9 := e_om9 R ok
  unfold mX5_count mX6_count
  by_cases b0 : b = 0
  · subst b0; exact hm
  rw [if_neg b0, if_neg b0]
  by_cases b1 : b = 1
  · subst b1; exact hh
  rw [if_neg b1, if_neg b1]
  by_cases b2 : b = 2
  · subst b2; exact (at_in (n := 6) (xx 0 2) (k := 0) (by omega) (by omega)).trans (hta 0 (by omega))
  rw [if_neg b2, if_neg b2]
  by_cases b3 : b = 3
  · subst b3; exact (at_in (n := 6) (xx 0 2) (k := 1) (by omega) (by omega)).trans (hta 1 (by omega))
  rw [if_neg b3, if_neg b3]
  by_cases b4 : b = 4
  · subst b4; exact (at_in (n := 6) (xx 0 2) (k := 2) (by omega) (by omega)).trans (hta 2 (by omega))
  rw [if_neg b4, if_neg b4]
  by_cases b5 : b = 5
  · subst b5; exact (at_in (n := 6) (xx 0 2) (k := 3) (by omega) (by omega)).trans (hta 3 (by omega))
  rw [if_neg b5, if_neg b5]
  by_cases b6 : b = 6
  · subst b6; exact (at_in (n := 6) (xx 0 2) (k := 4) (by omega) (by omega)).trans (hta 4 (by omega))
  rw [if_neg b6, if_neg b6]
  by_cases b7 : b = 7
  · subst b7; exact (at_in (n := 6) (xx 0 2) (k := 5) (by omega) (by omega)).trans (hta 5 (by omega))
  rw [if_neg b7, if_neg b7]
  by_cases b8 : b = 8
  · subst b8; exact e8
  rw [if_neg b8, if_neg b8]
  by_cases b9 : b = 9
  · subst b9; exact e9
  rw [if_neg b9, if_neg b9]
  by_cases b10 : b = 10
  · rw [if_pos b10, if_pos b10]; exact hz
  rw [if_neg b10, if_neg b10]
  by_cases b11 : b = 11
  · rw [if_pos b11, if_pos b11]; exact hl
  rw [if_neg b11, if_neg b11]
  by_cases b12 : b = 12
  · subst b12; exact hse 0 (by omega)
  rw [if_neg b12]
  by_cases b13 : b = 13
  · subst b13; exact hse 1 (by omega)
  rw [if_neg b13]
  by_cases b14 : b = 14
  · subst b14; exact hse 2 (by omega)
  rw [if_neg b14]
  by_cases b15 : b = 15
  · subst b15; exact hse 3 (by omega)
  rw [if_neg b15, if_pos]
  rw [in_iff]
  rw [i_eq] at b12 b13 b14 b15
  have e12 : (12 : Int32).toInt = 12 := rfl
  have e13 : (13 : Int32).toInt = 13 := rfl
  have e14 : (14 : Int32).toInt = 14 := rfl
  have e15 : (15 : Int32).toInt = 15 := rfl
  omega
