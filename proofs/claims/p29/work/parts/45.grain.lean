/-! PURE 6: hours that turn, grain, standing complaints, troubled hours. -/
theorem or_0 (a : Int32) : a ||| 0 = a := Int32.or_zero
theorem jW0 {m : Nat} (h : 34 + m < 2147483648) : (34 + nI m).toNatClampNeg = 0 + (34 + m) := by
  rw [show (34 : Int32) = nI 34 from rfl, nI_add, nI_cl h]; omega
theorem jWe (m : Nat) : (0 + 34) + nI m = 34 + nI m := rfl
theorem tr_H (m : Nat) (h : m < 2147483648) : tr 0 (nI m) = m := tr_0 h
section P0
variable {v : Nat → Nat → Int32} {x : Nat → Nat → Int32}
/-- mills turn in an hour -/
def tuB (x : Nat → Nat → Int32) (m h : Nat) : Bool := decide (¬ mX6_turns x 0 (nI m) (nI h) = 0)
theorem t_class (R : Rv v (rowP x 0)) {m h : Nat} (hm : m < 4) (hh : h < 24) : mX4_turns v (nI m) (nI h) = mX6_turns x 0 (nI m) (nI h) := e_turns R (by omega) hm hh
theorem w_class (R : Rv v (rowP x 0)) {h : Nat} (hh : h < 24) : mX4_windAt v (nI h) = x 0 (34 + nI h).toNatClampNeg := e_wind R (by omega) hh
theorem tu_loop (R : Rv v (rowP x 0)) {m : Nat} (hm : m < 4) : ∀ (n k : Nat) (s : Int32), k + n ≤ 24 → mX4_turningHours_4 v (nI m) (fun _ y => y) n (nI k) s = mX6_turning_4 x (nI m) (fun _ y => y) n (nI k) s
  | 0, k, s, _ => rfl
  | n + 1, k, s, hk => by
    rw [mX4_turningHours_4, mX6_turning_4, t_class R hm (by omega), nI_s, or_0, tu_loop R hm n (k + 1) _ (by omega), tu_loop R hm n (k + 1) _ (by omega)]
theorem e_turning (R : Rv v (rowP x 0)) {m : Nat} (hm : m < 4) : mX4_turningHours v (nI m) = mX6_turning x (nI m) := by
  unfold mX4_turningHours mX6_turning
  rw [tr_24]
  exact tu_loop R hm 24 0 0 (by omega)
theorem tu_bits {m : Nat} : ∀ (n k : Nat) (s : Int32) (h : Nat), k + n ≤ 24 → h < 24 → bt (mX6_turning_4 x (nI m) (fun _ y => y) n (nI k) s) h = (bt s h || (decide (k ≤ h ∧ h < k + n) && tuB x m h))
  | 0, k, s, h, _, _ => by
    rw [mX6_turning_4]
    rw [decide_eq_false (by omega)]; simp
  | n + 1, k, s, h, hk, hh => by
    rw [mX6_turning_4, nI_s, or_0]
    by_cases c : mX6_turns x 0 (nI m) (nI k) = 0
    · rw [if_pos c, tu_bits n (k + 1) s h (by omega) hh]
      by_cases e : h = k
      · subst e
        have : tuB x m h = false := by unfold tuB; rw [decide_eq_false]; exact fun z => z c
        rw [this]; simp
      · rw [show decide (k + 1 ≤ h ∧ h < k + 1 + n) = decide (k ≤ h ∧ h < k + (n + 1)) from decide_eq_decide.mpr (by omega)]
    · rw [if_neg c, tu_bits n (k + 1) _ h (by omega) hh, bt_or, bt_shl (by omega)]
      by_cases e : h = k
      · subst e
        have : tuB x m h = true := by unfold tuB; exact decide_eq_true c
        rw [this, decide_eq_true (show h ≤ h ∧ h < h + (n + 1) by omega)]; simp
      · rw [show decide (k + 1 ≤ h ∧ h < k + 1 + n) = decide (k ≤ h ∧ h < k + (n + 1)) from decide_eq_decide.mpr (by omega), decide_eq_false e]; simp
theorem bt_turning {m h : Nat} (hh : h < 24) : bt (mX6_turning x (nI m)) h = tuB x m h := by
  unfold mX6_turning
  rw [tr_24]
  have := tu_bits (x := x) (m := m) 24 0 0 h (by omega) hh
  rw [nI_0] at this
  rw [this, hs0]; simp; intro; omega
where hs0 : bt 0 h = false := by unfold bt; exact BitVec.getLsbD_zero
theorem turns_w {m h : Nat} : mX6_turns x 0 (nI m) (nI h) = if mX6_isTied x 0 (nI m) (nI h) = 0 then (if x 0 (34 + nI h).toNatClampNeg < 2 then 0 else 1) else 0 := rfl
theorem gr_loop (R : Rv v (rowP x 0)) {m : Nat} (hm : m < 4) : ∀ (n k : Nat) (s : Int32), k + n ≤ 24 → mX4_grainOf_4 v (nI m) (fun _ y => y) n (nI k) s = mX6_grain_4 x (mX6_turning x (nI m)) (fun _ y => y) n (nI k) s
  | 0, k, s, _ => rfl
  | n + 1, k, s, hk => by
    rw [mX4_grainOf_4, mX6_grain_4, t_class R hm (by omega), w_class R (by omega), nI_s, Int32.add_zero, bit_e _ (by omega), bt_turning (by omega), gr_loop R hm n (k + 1) _ (by omega), gr_loop R hm n (k + 1) _ (by omega)]
    unfold tuB
    by_cases c : mX6_turns x 0 (nI m) (nI k) = 0
    · rw [if_pos c, decide_eq_false (fun z => z c), if_neg (show ¬ (false = true) by decide), if_neg (show ¬ ((0 : Int32) = 1) by decide)]
    · rw [if_neg c, decide_eq_true c, if_pos rfl, if_pos rfl]
      rw [turns_w] at c
      split at c
      · split at c
        · exact absurd rfl c
        · rename_i z; rw [if_neg z]
      · exact absurd rfl c
theorem e_grain (R : Rv v (rowP x 0)) {m : Nat} (hm : m < 4) : mX4_grainOf v (nI m) = mX6_grain x (mX6_turning x (nI m)) := by
  unfold mX4_grainOf mX6_grain
  rw [tr_24]
  exact gr_loop R hm 24 0 0 (by omega)
theorem g1_loop (R : Rv v (rowP x 0)) : ∀ (n k : Nat) (s : Int32), k + n ≤ 24 → mX4_grainOfAllIfUntied_4 v (fun _ y => y * v 9 0) n (nI k) s = (mX6_grain_4 x (-1) (fun _ y => y) n (nI k) s) * v 9 0
  | 0, k, s, _ => rfl
  | n + 1, k, s, hk => by
    have e1 : bt (-1) k = true := by
      unfold bt
      rw [show (-1 : Int32).toBitVec = BitVec.allOnes 32 by decide, BitVec.getLsbD_allOnes]; simp; omega
    rw [mX4_grainOfAllIfUntied_4, mX6_grain_4, e_blows R (by omega) (by omega), w_class R (by omega), nI_s, Int32.add_zero, bit_e _ (by omega), e1, g1_loop R n (k + 1) _ (by omega), g1_loop R n (k + 1) _ (by omega)]
    rw [if_pos rfl, if_pos rfl, show ((nI 0 + 34) + nI k).toNatClampNeg = (34 + nI k).toNatClampNeg from rfl]
    by_cases c : x 0 (34 + nI k).toNatClampNeg < 2
    · rw [if_pos c, if_pos c, if_pos rfl]
    · rw [if_neg c, if_neg c, if_neg (by decide)]
theorem e_gAll1 (R : Rv v (rowP x 0)) : mX4_grainOfAllIfUntied v = mX6_grain x (-1) * v 9 0 := by
  unfold mX4_grainOfAllIfUntied mX6_grain
  rw [tr_24]
  exact g1_loop R 24 0 0 (by omega)
theorem om8_loop (R : Rv v (rowP x 0)) (tiB : ∀ m, m < 4 → hs (x 0 (3 + 3 * m))) : ∀ (n k : Nat) (s : Int32), k + n ≤ 4 → mX4_tiedHoursOfAll_4 v (fun _ y => y) n (nI k) s = mX6_ofMills_4 x 8 (fun _ y => y) n (nI k) s
  | 0, k, s, _ => rfl
  | n + 1, k, s, hk => by
    have e := e_tiedH R (by omega) (m := k) (by omega)
    rw [nI_0] at e
    rw [mX4_tiedHoursOfAll_4, mX6_ofMills_4, if_pos rfl, nI_s, om8_loop R tiB n (k + 1) _ (by omega), e, bc_ones]
    rw [← nI_0, show (((nI 0 + 1) + (3 * nI k)) + 2).toNatClampNeg = _ from jM 2 (by omega), show 0 + (1 + 3 * k + 2) = 3 + 3 * k by omega]
    exact tiB k (by omega)
theorem om9_loop (R : Rv v (rowP x 0)) : ∀ (n k : Nat) (s : Int32), k + n ≤ 4 → mX4_grainOfAll_4 v (fun _ y => y) n (nI k) s = mX6_ofMills_4 x 9 (fun _ y => y) n (nI k) s
  | 0, k, s, _ => rfl
  | n + 1, k, s, hk => by
    rw [mX4_grainOfAll_4, mX6_ofMills_4, if_neg (by decide), if_pos rfl, nI_s, om9_loop R n (k + 1) _ (by omega), e_grain R (by omega)]
theorem om1_loop : ∀ (n : Nat) (k s : Int32), mX6_ofMills_4 x (-1) (fun _ y => y) n k s = s + mX6_grain x (-1) * nI n
  | 0, k, s => by rw [mX6_ofMills_4, nI_0, Int32.mul_zero, Int32.add_zero]
  | n + 1, k, s => by
    rw [mX6_ofMills_4, if_neg (by decide), if_neg (by decide), om1_loop n, ← nI_s n, Int32.mul_add, Int32.mul_one, Int32.add_assoc, Int32.add_comm (mX6_grain x (-1)) (mX6_grain x (-1) * nI n)]
theorem e_om8 (R : Rv v (rowP x 0)) (ok : okR (rowP x 0)) : mX4_tiedHoursOfAll v = mX6_ofMills x 8 := by
  obtain ⟨n, hn, e, e2⟩ := mN R ok
  unfold mX4_tiedHoursOfAll mX6_ofMills
  rw [e2, e, tr_0 (by omega)]
  refine om8_loop R (fun m hm => ?_) n 0 0 (by omega)
  have := ok.ti m hm
  rw [rowP0] at this
  exact this
theorem e_om9 (R : Rv v (rowP x 0)) (ok : okR (rowP x 0)) : mX4_grainOfAll v = mX6_ofMills x 9 := by
  obtain ⟨n, hn, e, e2⟩ := mN R ok
  unfold mX4_grainOfAll mX6_ofMills
  rw [e2, e, tr_0 (by omega)]
  exact om9_loop R n 0 0 (by omega)
theorem e_om1 (R : Rv v (rowP x 0)) (ok : okR (rowP x 0)) : mX4_grainOfAllIfUntied v = mX6_ofMills x (-1) := by
  obtain ⟨n, hn, e, e2⟩ := mN R ok
  rw [e_gAll1 R]
  unfold mX6_ofMills
  rw [e2, e, tr_0 (by omega), om1_loop, Int32.zero_add]
/-! standing complaints of a day -/
theorem day_N (R : Rv v (rowP x 0)) (ok : okR (rowP x 0)) {a m : Nat} (ha : a < 10) (hm : m < 4) : mX4_standingOfDay v (nI a) (nI m) = nI (oN (rowP x 0 (68 + (8 * a + 2 * m + 0))) + oN (rowP x 0 (68 + (8 * a + 2 * m + 1)))) := by
  unfold mX4_standingOfDay
  rw [tr_2]
  simp only [mX4_standingOfDay_5]
  rw [show (0 : Int32) + 1 = nI 1 from rfl, show (0 : Int32) = nI 0 from rfl, pl_nI, pl_nI, at_in _ (by omega) (by omega), at_in _ (by omega) (by omega), R.st _ (by omega), R.st _ (by omega)]
  rw [bc_ones (ok.st _ (by omega)), bc_ones (ok.st _ (by omega)), ones_N, ones_N, nI_add, nI_add, Nat.zero_add]
theorem st_loop (R : Rv v (rowP x 0)) (ok : okR (rowP x 0)) {a : Nat} (ha : a < 10) : ∀ (n k s : Nat), k + n ≤ 4 → mX4_standingOf_4 v (nI a) (fun _ y => y) n (nI k) (nI s) = nI (s + sL (fun m => oN (rowP x 0 (68 + (8 * a + 2 * m + 0))) + oN (rowP x 0 (68 + (8 * a + 2 * m + 1)))) n k)
  | 0, k, s, _ => rfl
  | n + 1, k, s, hk => by
    rw [mX4_standingOf_4, day_N R ok ha (by omega), nI_add, nI_s, st_loop R ok ha n (k + 1) _ (by omega), sL]
    exact congrArg nI (Nat.add_assoc _ _ _)
theorem pd_loop (R : Rv v (rowP x 0)) (ok : okR (rowP x 0)) {m : Nat} (hm : m < 4) : ∀ (n k s : Nat), k + n ≤ 10 → mX4_pointsOfDay_4 v (nI m) (fun _ y => y) n (nI k) (nI s) = nI (s + sL (fun a => oN (rowP x 0 (68 + (8 * a + 2 * m + 0))) + oN (rowP x 0 (68 + (8 * a + 2 * m + 1)))) n k)
  | 0, k, s, _ => rfl
  | n + 1, k, s, hk => by
    rw [mX4_pointsOfDay_4, day_N R ok (by omega) hm, nI_add, nI_s, pd_loop R ok hm n (k + 1) _ (by omega), sL]
    exact congrArg nI (Nat.add_assoc _ _ _)
theorem ap_loop (R : Rv v (rowP x 0)) (ok : okR (rowP x 0)) {m : Nat} (hm : m < 4) : ∀ (n k s : Nat), k + n ≤ 24 → mX6_allPoints_4 x (nI m) (fun _ y => y) n (nI k) (nI s) = nI (s + sL (fun h => sL (stN (rowP x 0) m h) 10 0) n k)
  | 0, k, s, _ => rfl
  | n + 1, k, s, hk => by
    have e := p_model R (by omega) hm (h := k) (by omega)
    rw [nI_0] at e
    rw [mX6_allPoints_4, e, nI_add, nI_s, ap_loop R ok hm n (k + 1) _ (by omega), sL]
    exact congrArg nI (Nat.add_assoc _ _ _)
theorem e_allPoints (R : Rv v (rowP x 0)) (ok : okR (rowP x 0)) {m : Nat} (hm : m < 4) : mX4_pointsOfDay v (nI m) = mX6_allPoints x (nI m) := by
  obtain ⟨n, hn, e, e2⟩ := hN R ok
  have A := pd_loop R ok hm n 0 0 (by omega)
  have B := ap_loop R ok hm 24 0 0 (by omega)
  rw [nI_0] at A B
  unfold mX4_pointsOfDay mX6_allPoints
  rw [e2, tr_0 (by omega), tr_24, A, B, Nat.zero_add, Nat.zero_add]
  refine congrArg nI ?_
  rw [sL_few hn (fun i h1 h2 => by rw [ok.szH n i m 0 e h1 h2 hm (by omega), ok.szH n i m 1 e h1 h2 hm (by omega), oN_0]), ← sL_sw (fun a h => stN (rowP x 0) m h a) 24 0 10 0]
  refine sL_c 10 0 (fun a _ _ => ?_)
  unfold oN stN
  rw [← sL_add]
theorem sg_loop (R : Rv v (rowP x 0)) (ok : okR (rowP x 0)) {a : Nat} (ha : a < 10) : ∀ (n k s : Nat), k + n ≤ 8 → mX6_standing_4 x (nI a) (fun _ y => y) n (nI k) (nI s) = nI (s + sL (fun k => oN (rowP x 0 (68 + (8 * a + k)))) n k)
  | 0, k, s, _ => rfl
  | n + 1, k, s, hk => by
    have e : (((68 : Int32) + (8 * nI a)) + nI k).toNatClampNeg = 0 + (68 + (8 * a + k)) := by
      rw [show (68 : Int32) = nI 68 from rfl, show (8 : Int32) = nI 8 from rfl, nI_mul, nI_add, nI_add, nI_cl (by omega)]; omega
    rw [mX6_standing_4, e, ones_N, nI_add, nI_s, sg_loop R ok ha n (k + 1) _ (by omega), sL]
    exact congrArg nI (Nat.add_assoc _ _ _)
theorem sum8 (f : Nat → Nat) : sL f 8 0 = sL (fun m => f (2 * m + 0) + f (2 * m + 1)) 4 0 := by
  simp only [sL]
  show f 0 + (f 1 + (f 2 + (f 3 + (f 4 + (f 5 + (f 6 + (f 7 + 0))))))) = f 0 + f 1 + (f 2 + f 3 + (f 4 + f 5 + (f 6 + f 7 + 0)))
  simp only [Nat.add_assoc]
theorem e_standing (R : Rv v (rowP x 0)) (ok : okR (rowP x 0)) {a : Nat} (ha : a < 10) : mX4_standingOf v (nI a) = mX6_standing x (nI a) := by
  obtain ⟨n, hn, e, e2⟩ := mN R ok
  have A := st_loop R ok ha n 0 0 (by omega)
  have B := sg_loop R ok ha 8 0 0 (by omega)
  rw [nI_0] at A B
  unfold mX4_standingOf mX6_standing
  rw [e2, tr_0 (by omega), tr_8, A, B, Nat.zero_add, Nat.zero_add]
  refine congrArg nI ?_
  rw [sL_few hn (fun i h1 h2 => by rw [ok.szM n a i 0 e h1 ha h2 (by omega), ok.szM n a i 1 e h1 ha h2 (by omega), oN_0]), sum8]
  exact sL_c 4 0 (fun i _ _ => by simp only [Nat.add_assoc])
end P0
