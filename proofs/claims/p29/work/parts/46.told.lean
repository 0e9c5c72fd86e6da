/-! PURE 7: what is told. -/
section P0
variable {v : Nat → Nat → Int32} {x : Nat → Nat → Int32}
theorem d24 {k : Nat} (hk : k < 96) : nI k / 24 = nI (k / 24) ∧ nI k - nI k / 24 * 24 = nI (k % 24) :=
  (show ∀ k : Fin 96, nI k.1 / 24 = nI (k.1 / 24) ∧ nI k.1 - nI k.1 / 24 * 24 = nI (k.1 % 24) by decide +kernel) ⟨k, hk⟩
theorem t0_class (R : Rv v (rowP x 0)) (ok : okR (rowP x 0)) {a m k h : Nat} (ha : a < 10) (hm : m < 4) (hk : k < 2) (hh : h < 24) : mX4_troublesIfUntied v (nI m) (nI a) (nI k) (nI h) = mX6_wouldTrouble x 0 (nI a) (nI m) (nI k) (nI h) := e_troubles R ok (by omega) ha hm hk hh
theorem th_inner (R : Rv v (rowP x 0)) (ok : okR (rowP x 0)) {a kd j n : Nat} (ha : a < 10) (hk : kd < 2) (hj : j + (n + 1) ≤ 4) (ih : ∀ s, mX4_troubledHours_5 v (nI a) (nI kd) (fun _ y => y) n (nI (j + 1)) s = mX6_troubled_5 x (nI a) (nI kd) (fun _ y => y) (24 * n) (nI (24 * (j + 1))) s) : ∀ (i h : Nat) (s : Int32), h + i = 24 → mX4_troubledHours_17 v (nI a) (nI kd) (nI j) (fun _ y => mX4_troubledHours_5 v (nI a) (nI kd) (fun _ y => y) n (nI (j + 1)) y) i (nI h) s = mX6_troubled_5 x (nI a) (nI kd) (fun _ y => y) (24 * n + i) (nI (24 * j + h)) s
  | 0, h, s, e => by
    rw [mX4_troubledHours_17, ih s, show 24 * j + h = 24 * (j + 1) by omega]
    rfl
  | i + 1, h, s, e => by
    have d := d24 (k := 24 * j + h) (by omega)
    rw [show (24 * j + h) / 24 = j by omega, show (24 * j + h) % 24 = h by omega] at d
    rw [mX4_troubledHours_17, show 24 * n + (i + 1) = (24 * n + i) + 1 by omega, mX6_troubled_5, d.2, d.1, t_class R (by omega) (by omega), t0_class R ok ha (by omega) hk (by omega), or_0, nI_s, nI_s, th_inner R ok ha hk hj ih i (h + 1) _ (by omega), th_inner R ok ha hk hj ih i (h + 1) _ (by omega)]
    rfl
theorem th_loop (R : Rv v (rowP x 0)) (ok : okR (rowP x 0)) {a kd : Nat} (ha : a < 10) (hk : kd < 2) : ∀ (n j : Nat) (s : Int32), j + n ≤ 4 → mX4_troubledHours_5 v (nI a) (nI kd) (fun _ y => y) n (nI j) s = mX6_troubled_5 x (nI a) (nI kd) (fun _ y => y) (24 * n) (nI (24 * j)) s
  | 0, j, s, _ => rfl
  | n + 1, j, s, hj => by
    rw [mX4_troubledHours_5, tr_24, nI_s]
    exact th_inner R ok ha hk hj (fun s => th_loop R ok ha hk n (j + 1) s (by omega)) 24 0 s (by omega)
theorem e_troubledH (R : Rv v (rowP x 0)) (ok : okR (rowP x 0)) {a kd : Nat} (ha : a < 10) (hk : kd < 2) : mX4_troubledHours v (nI a) (nI kd) = mX6_troubled x (nI a) (nI kd) := by
  obtain ⟨n, hn, e, e2⟩ := mN R ok
  unfold mX4_troubledHours mX6_troubled
  rw [e2, e, tr_0 (by omega), show (24 : Int32) = nI 24 from rfl, nI_mul, tr_0 (by omega), Nat.mul_comm n 24]
  exact th_loop R ok ha hk n 0 0 (by omega)
theorem e_noiseIn (R : Rv v (rowP x 0)) {m h : Nat} (hm : m < 4) (hh : h < 24) (y : Int32) : mX4_noiseIn v (nI m) y (nI h) = mX6_noiseOf x (nI m) y (nI h) := by
  have e1 := e_isTied R (by omega) hm hh
  have e2 := e_loud R (by omega) hm hh y
  rw [nI_0] at e1 e2
  unfold mX4_noiseIn mX6_noiseOf mX6_turns
  rw [e1, e2]
  by_cases c : mX6_isTied x 0 (nI m) (nI h) = 0
  · rw [if_pos c, if_pos c]
    by_cases c2 : x 0 (((0 : Int32) + 34) + nI h).toNatClampNeg < 2
    · rw [if_pos c2, if_pos c2, if_pos rfl]
    · rw [if_neg c2, if_neg c2, if_neg (by decide)]
  · rw [if_neg c, if_neg c, if_pos rfl]
theorem n_loop (R : Rv v (rowP x 0)) {a h : Nat} (ha : a < 10) (hh : h < 24) (C : Int32 → Int32 → Int32) : ∀ (n k : Nat) (s : Int32), k + n ≤ 4 → mX6_loudest_35 x (nI h) (nI a) C n (nI k) s = C (nI (k + n)) (mX4_noiseOfAllMills_5 v (nI a) (nI h) (fun _ y => y) n (nI k) s)
  | 0, k, s, _ => rfl
  | n + 1, k, s, hk => by
    have e := e_hyard R (by omega) ha
    rw [nI_0] at e
    rw [mX6_loudest_35, mX4_noiseOfAllMills_5, nI_s, n_loop R ha hh C n (k + 1) _ (by omega), e, e_noiseIn R (by omega) hh, show k + 1 + n = k + (n + 1) by omega]
theorem l_loop (R : Rv v (rowP x 0)) (ok : okR (rowP x 0)) {h : Nat} (hh : h < 24) : ∀ (n k : Nat) (s b : Int32), k + n ≤ 10 → mX5_loudest_17 v (nI h) (fun _ _ y => y) n (nI k) s b = mX6_loudest_17 x (nI h) (fun _ _ y => y) n (nI k) s b
  | 0, k, s, b, _ => rfl
  | n + 1, k, s, b, hk => by
    obtain ⟨M, hM, e, e2⟩ := mN R ok
    have E : mX4_noiseOfAllMills v (nI k) (nI h) = mX4_noiseOfAllMills_5 v (nI k) (nI h) (fun _ y => y) M 0 0 := by
      unfold mX4_noiseOfAllMills
      rw [e2, tr_0 (by omega)]
    have L := n_loop R (a := k) (h := h) (by omega) hh (fun x6_35 x5_35 => (if x5_35 ≤ s then (if x5_35 ≤ s then (mX6_loudest_17 x (nI h) (fun _ _ y => y) n (nI k + 1) s b) else (mX6_loudest_17 x (nI h) (fun _ _ y => y) n (nI k + 1) x5_35 b)) else (if x5_35 ≤ s then (mX6_loudest_17 x (nI h) (fun _ _ y => y) n (nI k + 1) s (nI k)) else (mX6_loudest_17 x (nI h) (fun _ _ y => y) n (nI k + 1) x5_35 (nI k))))) M 0 0 (by omega)
    rw [nI_0] at L
    rw [mX5_loudest_17, mX6_loudest_17, e, tr_0 (by omega), L, E]
    generalize mX4_noiseOfAllMills_5 v (nI k) (nI h) (fun _ y => y) M 0 0 = Z
    rw [nI_s, l_loop R ok hh n (k + 1) _ _ (by omega), l_loop R ok hh n (k + 1) _ _ (by omega)]
    by_cases c : Z ≤ s
    · rw [if_pos c]; simp [c]
    · rw [if_neg c]; simp [c]
theorem e_loudest (R : Rv v (rowP x 0)) (ok : okR (rowP x 0)) (i : Int32) : mX5_loudest v i = mX6_loudest x i := by
  obtain ⟨n, hn, e, e2⟩ := hN R ok
  unfold mX5_loudest mX6_loudest
  rw [e_isHour]
  by_cases c : mX6_isHour i = 0
  · rw [if_pos c, if_pos c]
  · rw [if_neg c, if_neg c]
    obtain ⟨h, hh, rfl⟩ := hour_nI c
    rw [e2, e, tr_0 (by omega)]
    exact l_loop R ok hh n 0 0 (-5) (by omega)
theorem q_loop (R : Rv v (rowP x 0)) (ok : okR (rowP x 0)) {m : Nat} (hm : m < 4) : ∀ (n k : Nat) (s : Int32), k + n ≤ 24 → mX5_quietHours_17 v (nI m) (fun _ y => y) n (nI k) s = mX6_quietHours_15 x (nI m) (fun _ y => y) n (nI k) s
  | 0, k, s, _ => rfl
  | n + 1, k, s, hk => by
    rw [mX5_quietHours_17, mX6_quietHours_15, e_blows R (by omega) (by omega), e_troubledI R ok hm (by omega), or_0, nI_s, q_loop R ok hm n (k + 1) _ (by omega), q_loop R ok hm n (k + 1) _ (by omega)]
    rw [show ((nI 0 + 34) + nI k).toNatClampNeg = (34 + nI k).toNatClampNeg from rfl]
    by_cases c : x 0 (34 + nI k).toNatClampNeg < 2
    · rw [if_pos c, if_pos c, if_pos rfl]
    · rw [if_neg c, if_neg c, if_neg (by decide)]
theorem hM0 (R : Rv v (rowP x 0)) (ok : okR (rowP x 0)) (i : Int32) : mX4_hasMill v i = mX6_isMill x 0 i := e_hasMill R ok (by omega) i
theorem hH0 (R : Rv v (rowP x 0)) (ok : okR (rowP x 0)) (i : Int32) : mX4_hasHouse v i = mX6_isHouse x 0 i := e_hasHouse R ok (by omega) i
theorem mill0 (ok : okR (rowP x 0)) {i : Int32} (h : ¬ mX6_isMill x 0 i = 0) : ∃ m, m < 4 ∧ i = nI m := by
  obtain ⟨m, h1, h2, -⟩ := mill_nI ok (by omega) (i := i) h
  exact ⟨m, h1, h2⟩
theorem house0 (ok : okR (rowP x 0)) {i : Int32} (h : ¬ mX6_isHouse x 0 i = 0) : ∃ m, m < 10 ∧ i = nI m := by
  obtain ⟨m, h1, h2, -⟩ := house_nI ok (by omega) (i := i) h
  exact ⟨m, h1, h2⟩
theorem e_quiet (R : Rv v (rowP x 0)) (ok : okR (rowP x 0)) (i : Int32) : mX5_quietHours v i = mX6_quietHours x i := by
  unfold mX5_quietHours mX6_quietHours
  rw [hM0 R ok]
  by_cases c : mX6_isMill x 0 i = 0
  · rw [if_pos c, if_pos c]
  · rw [if_neg c, if_neg c]
    obtain ⟨m, hm, rfl⟩ := mill0 ok c
    rw [tr_24]
    exact q_loop R ok hm 24 0 0 (by omega)
theorem b_loop (R : Rv v (rowP x 0)) (ok : okR (rowP x 0)) {m : Nat} (hm : m < 4) : ∀ (n k : Nat) (s b : Int32), k + n ≤ 24 → (b = -5 ∨ ∃ j, j < 24 ∧ b = nI j) → mX5_bestTied_21 v (nI m) (fun _ _ y => y) n (nI k) s b = mX6_bestTied_19 x (nI m) (fun _ _ y => y) n (nI k) s b
  | 0, k, s, b, _, _ => rfl
  | n + 1, k, s, b, hk, hb => by
    have i1 := fun s => b_loop R ok hm n (k + 1) s b (by omega) hb
    have i2 := fun s => b_loop R ok hm n (k + 1) s (nI k) (by omega) (Or.inr ⟨k, by omega, rfl⟩)
    rw [mX5_bestTied_21, mX6_bestTied_19, nI_s, t_class R hm (by omega), e_troubledI R ok hm (by omega), w_class R (by omega)]
    have e0 : (0 : Int32).toInt = 0 := rfl
    rcases hb with rfl | ⟨j, hj, rfl⟩
    · simp only [i1, i2]
      generalize mX6_troubles x (nI m) (nI k) = T
      generalize mX6_turns x 0 (nI m) (nI k) = U
      simp only [if_true]
      by_cases c1 : U = 0
      · by_cases c3 : s < 0
        · have c3' : ¬ 0 ≤ s := by rw [i_le]; rw [i_lt] at c3; omega
          simp [c1, c3, c3']
        · have c3' : 0 ≤ s := by rw [i_le]; rw [i_lt] at c3; omega
          simp [c1, c3, c3']
      · by_cases c3 : s < T
        · have c3' : ¬ T ≤ s := by rw [i_le]; rw [i_lt] at c3; omega
          simp [c1, c3, c3']
        · have c3' : T ≤ s := by rw [i_le]; rw [i_lt] at c3; omega
          simp [c1, c3, c3']
    · have hn5 : ¬ nI j = -5 := fun z => by
        have := congrArg Int32.toInt z
        rw [nI_toInt (by omega)] at this
        have e5 : (-5 : Int32).toInt = -5 := rfl
        omega
      rw [w_class R hj]
      simp only [i1, i2]
      generalize mX6_troubles x (nI m) (nI k) = T
      generalize mX6_turns x 0 (nI m) (nI k) = U
      generalize x 0 (34 + nI j).toNatClampNeg = W
      generalize x 0 (34 + nI k).toNatClampNeg = w
      by_cases c1 : U = 0
      · by_cases c3 : s < 0
        · have c3' : ¬ 0 ≤ s := by rw [i_le]; rw [i_lt] at c3; omega
          have c4 : ¬ 0 = s := fun z => by rw [← z] at c3; exact absurd c3 (by decide)
          by_cases c5 : W ≤ w <;> simp [c1, c3, c3', c4, c5, hn5]
        · have c3' : 0 ≤ s := by rw [i_le]; rw [i_lt] at c3; omega
          by_cases c4 : 0 = s
          · subst c4
            by_cases c5 : W ≤ w <;> simp [c1, c5, hn5]
          · by_cases c5 : W ≤ w <;> simp [c1, c3, c3', c4, c5, hn5]
      · by_cases c3 : s < T
        · have c3' : ¬ T ≤ s := by rw [i_le]; rw [i_lt] at c3; omega
          have c4 : ¬ T = s := fun z => by rw [z] at c3; rw [i_lt] at c3; omega
          by_cases c5 : W ≤ w <;> simp [c1, c3, c3', c4, c5, hn5]
        · have c3' : T ≤ s := by rw [i_le]; rw [i_lt] at c3; omega
          by_cases c4 : T = s
          · subst c4
            by_cases c5 : W ≤ w <;> simp [c1, c3, c3', c5, hn5]
          · by_cases c5 : W ≤ w <;> simp [c1, c3, c3', c4, c5, hn5]
theorem e_best (R : Rv v (rowP x 0)) (ok : okR (rowP x 0)) (i : Int32) : mX5_bestTied v i = mX6_bestTied x i := by
  unfold mX5_bestTied mX6_bestTied
  rw [hM0 R ok]
  by_cases c : mX6_isMill x 0 i = 0
  · rw [if_pos c, if_pos c]
  · rw [if_neg c, if_neg c]
    obtain ⟨m, hm, rfl⟩ := mill0 ok c
    rw [tr_24]
    exact b_loop R ok hm 24 0 0 (-5) (by omega) (Or.inl rfl)
theorem e_ifVoted (R : Rv v (rowP x 0)) (ok : okR (rowP x 0)) (i h : Int32) : mX5_ifVoted v i h = mX6_ifVoted x i h := by
  unfold mX5_ifVoted mX6_ifVoted
  rw [hM0 R ok, e_isHour]
  by_cases c : mX6_isMill x 0 i = 0
  · rw [if_pos c, if_pos c]
  · rw [if_neg c, if_neg c]
    by_cases c2 : mX6_isHour h = 0
    · rw [if_pos c2, if_pos c2]
    · rw [if_neg c2, if_neg c2]
      obtain ⟨m, hm, rfl⟩ := mill0 ok c
      obtain ⟨k, hk, rfl⟩ := hour_nI c2
      exact e_votes R ok hm hk
end P0
