/-! P29, PURE 4: why a complaint would be refused; a house and a mill. -/
def bnK (h : Nat) : Nat := if 22 ≤ h ∨ h ≤ 5 then 1 else 0
theorem bnK_le (h : Nat) : bnK h < 2 := by unfold bnK; split <;> omega
section RS
variable {v : Nat → Nat → Int32} {M N : Nat}
theorem c_borne (v : Nat → Nat → Int32) {h : Nat} (hh : h < 24) : mX4_borneNoise v (nI h) = v 1 (bnK h) := by
  have e0 : mX4_setting v 0 = v 1 0 := c_set v (k := 0) (by omega)
  have e1 : mX4_setting v 1 = v 1 1 := c_set v (k := 1) (by omega)
  unfold mX4_borneNoise
  rw [e0, e1]
  by_cases c : 22 ≤ h
  · rw [if_pos (by rw [show (22 : Int32) = nI 22 from rfl, nJ_le (by omega) (by omega)]; omega)]
    unfold bnK; rw [if_pos (by omega)]
  · rw [if_neg (by rw [show (22 : Int32) = nI 22 from rfl, nJ_le (by omega) (by omega)]; omega)]
    by_cases c2 : 5 < h
    · rw [if_pos (by rw [show (5 : Int32) = nI 5 from rfl, nJ_lt (by omega) (by omega)]; omega)]
      unfold bnK; rw [if_neg (by omega)]
    · rw [if_neg (by rw [show (5 : Int32) = nI 5 from rfl, nJ_lt (by omega) (by omega)]; omega)]
      unfold bnK; rw [if_pos (by omega)]
theorem c_tr0 (V : VV v M N) {a m h : Nat} (ha : a < 10) (hm : m < 4) (hh : h < 24) : mX4_troublesIfUntied v (nI m) (nI a) (nI 0) (nI h) = if nzV v m (nn (v 6 a)) h ≤ nn (v 1 (bnK h)) then 0 else 1 := by
  have hb := bnK_le h
  have h9 := V.se9 (k := bnK h) (by omega)
  have hw := V.wi9 hh
  have hn : nzV v m (nn (v 6 a)) h ≤ 18 := by unfold nzV nzN; split <;> omega
  unfold mX4_troublesIfUntied
  rw [if_pos (show nI 0 = 0 from rfl), at_in _ ha (by omega), V.hy ha, c_noiseU V hm (by have := V.hy9 ha; omega) hh, c_borne v hh, nn_nI (by have := V.hy9 ha; omega)]
  have e := V.se (k := bnK h) (by omega)
  generalize nn (v 1 (bnK h)) = b at e h9
  generalize nzV v m (nn (v 6 a)) h = z at hn
  rw [e]
  by_cases c : z ≤ b
  · rw [if_pos ((nJ_le (by omega) (by omega)).mpr c), if_pos c]
  · rw [if_neg (fun q => c ((nJ_le (by omega) (by omega)).mp q)), if_neg c]
theorem c_tr1 (V : VV v M N) {a m h : Nat} (ha : a < 10) (hm : m < 4) (hh : h < 24) : dec (mX4_troublesIfUntied v (nI m) (nI a) (nI 1) (nI h)) (¬ v 0 h < 2 ∧ shP v m (nn (v 6 a)) h) := by
  have d := c_there V (y := nn (v 6 a)) hm (V.hy9 ha) hh
  unfold mX4_troublesIfUntied
  rw [if_neg (by decide), c_blows v hh, at_in (v 6) ha (by omega)]
  rw [← V.hy ha] at d
  by_cases c : v 0 h < 2
  · rw [if_pos c, if_pos rfl]; exact Or.inr ⟨rfl, fun z => z.1 c⟩
  · rw [if_neg c, if_neg (by decide), dec_01 d]
    exact dec_iff d ⟨fun z => ⟨c, z⟩, fun z => z.2⟩
def suB (h : Nat) : Bool := decide (6 ≤ h) && decide (h ≤ 18)
theorem c_sun {h : Nat} (hh : h < 24) : mX2_hasSun (nI h) = if suB h then 1 else 0 :=
  (show ∀ h : Fin 24, mX2_hasSun (nI h.1) = if suB h.1 then 1 else 0 by decide +kernel) ⟨h, hh⟩
def rsnI (B0 B1 B2 : Bool) (w T : Int32) (k : Nat) (su : Bool) : Int32 := if B0 then 1 else if B1 then 2 else if B2 then 3 else if w < 2 then 4 else if k = 1 ∧ su = false then 5 else if T = 0 then (if k = 0 then 5 else 6) else 0
theorem c_rsn (V : VV v M N) {a m k h : Nat} (ha : a < N) (hm : m < M) (hk : k < 2) (hh : h < 24) : mX4_reasonAgainst v (nI a) (nI m) (nI k) (nI h) = rsnI (decide (¬ v 7 a < 3)) (bt (v 8 (8 * a + 2 * m + k)) h) (bt (v 5 m) h) (v 0 h) (mX4_troublesIfUntied v (nI m) (nI a) (nI k) (nI h)) k (suB h) := by
  have hM := V.M4
  have hN := V.N10
  unfold mX4_reasonAgainst mX4_isBarred rsnI
  rw [if_neg (hh_1 V ha), if_neg (hm_1 V hm), if_neg (hr_1 hh), at_in _ (show a < 10 by omega) (by omega), c_stands v (by omega) (by omega) hk hh, c_isTied v (by omega) hh, c_blows v hh, c_sun hh]
  have z10 : ¬ (1 : Int32) = 0 := by decide
  have z01 : ¬ (0 : Int32) = 1 := by decide
  have n0 : nI 0 = 0 := rfl
  have n1 : nI 1 = 1 := rfl
  generalize mX4_troublesIfUntied v (nI m) (nI a) (nI k) (nI h) = T
  generalize bt (v 8 (8 * a + 2 * m + k)) h = B1
  generalize bt (v 5 m) h = B2
  generalize suB h = S
  generalize v 7 a = U
  generalize v 0 h = w
  rcases (show k = 0 ∨ k = 1 by omega) with rfl | rfl
  · by_cases c7 : U < 3
    · by_cases c0 : w < 2
      · cases B1 <;> cases B2 <;> simp [n0, z10, z01, c7, c0]
      · cases B1 <;> cases B2 <;> simp [n0, z10, z01, c7, c0]
    · simp [n0, z10, z01, c7]
  · by_cases c7 : U < 3
    · by_cases c0 : w < 2
      · cases B1 <;> cases B2 <;> simp [n1, z10, z01, c7, c0]
      · cases B1 <;> cases B2 <;> cases S <;> simp [n1, z10, z01, c7, c0]
    · simp [n1, z10, z01, c7]
end RS
theorem due_lem {B0 B1 B2 : Bool} {w T Y : Int32} {k : Nat} {su : Bool} (hk : k = 0 ∨ k = 1) (hT : ¬ w < 2 → (k = 1 → su = true) → (T = 0 ↔ Y = 0)) (hY : k = 1 → su = false → Y = 0) : rsnI B0 B1 B2 w T k su = (if (if B0 then (1 : Int32) else 0) = 0 then (if (if B2 then (1 : Int32) else 0) = 0 then (if 2 ≤ w then (if Y = 0 then (if nI k = 0 then 5 else (if (if su then (1 : Int32) else 0) = 0 then 5 else 6)) else 0) else 4) else 3) else 1) ∨ (rsnI B0 B1 B2 w T k su = 2 ∧ (if B0 then (1 : Int32) else 0) = 0) := by
  have z10 : ¬ (1 : Int32) = 0 := by decide
  have n0 : nI 0 = 0 := rfl
  have n1 : ¬ nI 1 = 0 := by decide
  unfold rsnI
  cases B0
  · cases B1
    · cases B2
      · refine Or.inl ?_
        by_cases cw : w < 2
        · have : ¬ 2 ≤ w := fun z => (w_2.mpr z) cw
          simp [cw, this]
        · have c2 : 2 ≤ w := w_2.mp cw
          have h := hT cw
          rcases hk with rfl | rfl
          · have h := h (by omega)
            by_cases cT : T = 0
            · simp [cw, c2, cT, h.mp cT, n0]
            · have : ¬ Y = 0 := fun z => cT (h.mpr z)
              simp [cw, c2, cT, this]
          · cases su
            · simp [cw, c2, hY rfl rfl, n1]
            · have h := h (fun _ => rfl)
              by_cases cT : T = 0
              · simp [cw, c2, cT, h.mp cT, n1, z10]
              · have : ¬ Y = 0 := fun z => cT (h.mpr z)
                simp [cw, c2, cT, this]
      · exact Or.inl (by simp [z10])
    · exact Or.inr (by simp)
  · exact Or.inl (by simp [z10])
theorem d48 {k : Nat} (hk : k < 48) : nI k / 2 = nI (k / 2) ∧ nI k - nI k / 2 * 2 = nI (k % 2) :=
  (show ∀ k : Fin 48, nI k.1 / 2 = nI (k.1 / 2) ∧ nI k.1 - nI k.1 / 2 * 2 = nI (k.1 % 2) by decide +kernel) ⟨k, hk⟩
theorem law_night {h : Nat} (hh : h < 24) : (if nI h < 6 then (1 : Int32) else (if nI h ≤ 21 then 0 else 1)) = nI (bnK h) ∧ (if nI h ≤ 5 then (0 : Int32) else (if 19 ≤ nI h then 0 else 1)) = if suB h then 1 else 0 :=
  (show ∀ h : Fin 24, (if nI h.1 < 6 then (1 : Int32) else (if nI h.1 ≤ 21 then 0 else 1)) = nI (bnK h.1) ∧ (if nI h.1 ≤ 5 then (0 : Int32) else (if 19 ≤ nI h.1 then 0 else 1)) = if suB h.1 then 1 else 0 by decide +kernel) ⟨h, hh⟩
section IH
variable {xx : Nat → Nat → Nat → Int32} {M N : Nat}
theorem l92 (V : VV (xx 0) M N) (hw : ∀ h, h < 24 → xx 10 0 h = xx 0 0 h) {a m : Nat} (ha : a < N) (hm : m < M) (C : Int32 → Int32) : ∀ (n k : Nat), k + n ≤ 48 → mL_isHouse_92 xx (nI a) (nI m) (xx 0 6 a) (if decide (¬ xx 0 7 a < 3) then 1 else 0) (xx 0 5 m) (nI (fr (nn (xx 0 4 m)) (nn (xx 0 6 a)))) C n (nI k) = C (nI (k + n))
  | 0, k, _ => rfl
  | n + 1, k, hk => by
    have hM := V.M4
    have hN := V.N10
    have ha10 : a < 10 := by omega
    have hm4 : m < 4 := by omega
    have hh : k / 2 < 24 := by omega
    have hd : k % 2 = 0 ∨ k % 2 = 1 := by omega
    have hy := V.hy9 ha10
    have ih := l92 V hw ha hm C n (k + 1) (by omega)
    rw [mL_isHouse_92, (d48 (k := k) (by omega)).2, (d48 (k := k) (by omega)).1]
    generalize k / 2 = h at hh
    generalize hkd : k % 2 = kd at hd
    refine lt_v ?_
    rw [(law_night hh).1]
    refine lt_v ?_
    have hb := bnK_le h
    have e155 : (if nI (bnK h) = 0 then mX5_count xx 12 else mX5_count xx 13) = xx 0 1 (bnK h) := by
      rw [ct_12, ct_13]
      rcases (show bnK h = 0 ∨ bnK h = 1 by omega) with z | z <;> rw [z] <;> rfl
    rw [e155]
    refine lt_v ?_
    rw [show xx 10 0 (nI h).toNatClampNeg = xx 0 0 h by rw [nI_cl (by omega), hw h hh]]
    refine lt_g (fun Z hZ => ?_)
    refine lt_g (fun Y hY => ?_)
    rw [(law_night hh).2]
    refine lt_v ?_
    rw [c_has _ hh]
    refine lt_g (fun D hD => ?_)
    rw [show mX5_why (xx 0) (nI a) (nI m) (nI kd) (nI h) = mX4_reasonAgainst (xx 0) (nI a) (nI m) (nI kd) (nI h) from rfl, c_rsn V ha hm (by omega) hh]
    refine lt_v ?_
    have hw9 := V.wi9 hh
    have key := due_lem (B0 := decide (¬ xx 0 7 a < 3)) (B1 := bt (xx 0 8 (8 * a + 2 * m + kd)) h) (B2 := bt (xx 0 5 m) h) (w := xx 0 0 h) (T := mX4_troublesIfUntied (xx 0) (nI m) (nI a) (nI kd) (nI h)) (Y := Y) (k := kd) (su := suB h) hd (fun cw hs => by
      rcases hd with rfl | rfl
      · rw [hY, if_pos (show nI 0 = 0 from rfl), hZ, c_tr0 V ha10 hm4 hh]
        have h9 := V.se9 (k := bnK h) (by omega)
        have e := V.se (k := bnK h) (by omega)
        have hfl := fr_le (V.my9 hm4) hy
        have c2 : ¬ nn (xx 0 0 h) < 2 := fun z => cw ((w_lt2 V hh).mpr (by omega))
        unfold nzV nzN
        rw [if_neg c2]
        have ew := V.wi hh
        generalize nn (xx 0 0 h) = w at ew hw9
        generalize fr (nn (xx 0 4 m)) (nn (xx 0 6 a)) = f at hfl
        generalize nn (xx 0 1 (bnK h)) = b at e h9
        rw [ew, e]
        have et : ((2 * nI w) - nI f).toInt = 2 * (w : Int) - f := ti_sub (ti_mul (show (2 : Int32).toInt = 2 from rfl) (nI_toInt (by omega)) (by omega)) (nI_toInt (by omega)) (by omega)
        by_cases c : 2 * w - f ≤ b
        · rw [if_pos c, if_pos (by rw [i_le, et, nI_toInt (by omega)]; omega)]
        · rw [if_neg c, if_neg (by rw [i_le, et, nI_toInt (by omega)]; omega)]
      · have d := c_tr1 V ha10 hm4 hh
        have s0 := c_sh0 V hm hy hh
        rw [← V.hy ha10] at s0
        rw [hY, if_neg (show ¬ nI 1 = 0 by decide)]
        rcases s0 with ⟨z1, z2⟩ | ⟨z1, z2⟩
        · rcases d with ⟨z3, z4⟩ | ⟨z3, z4⟩
          · rw [z1, z3]; decide
          · exact absurd ⟨cw, z2⟩ z4
        · rcases d with ⟨z3, z4⟩ | ⟨z3, z4⟩
          · exact absurd z4.2 z2
          · rw [z1, z3]; decide) (fun h1 h2 => by
      subst h1
      have s0 := c_sh0 V hm hy hh
      rw [← V.hy ha10] at s0
      rw [hY, if_neg (show ¬ nI 1 = 0 by decide)]
      rcases s0 with ⟨z1, z2⟩ | ⟨z1, z2⟩
      · exfalso
        unfold shP at z2
        rw [len_sun (by unfold suB at h2; rintro ⟨q1, q2⟩; rw [decide_eq_true q1, decide_eq_true q2] at h2; exact absurd h2 (by decide))] at z2
        exact ray_0 z2
      · rw [z1]; decide)
    rw [← hD] at key
    rw [nI_s, ih, show k + 1 + n = k + (n + 1) by omega]
    by_cases q : rsnI (decide (¬ xx 0 7 a < 3)) (bt (xx 0 8 (8 * a + 2 * m + kd)) h) (bt (xx 0 5 m) h) (xx 0 0 h) (mX4_troublesIfUntied (xx 0) (nI m) (nI a) (nI kd) (nI h)) kd (suB h) = D
    · rw [if_pos q]
    · have z := key.resolve_left q
      rw [if_neg q, if_pos z.1, if_pos z.2]
theorem l92_0 (V : VV (xx 0) M N) (hw : ∀ h, h < 24 → xx 10 0 h = xx 0 0 h) {a m : Nat} (ha : a < N) (hm : m < M) (C : Int32 → Int32) : mL_isHouse_92 xx (nI a) (nI m) (xx 0 6 a) (if decide (¬ xx 0 7 a < 3) then 1 else 0) (xx 0 5 m) (nI (fr (nn (xx 0 4 m)) (nn (xx 0 6 a)))) C 48 0 = C (nI 48) := l92 V hw ha hm C 48 0 (by omega)
theorem dist_hh (hd : ∀ m j, m < N → j < N → m ≠ j → xx 0 6 m ≠ xx 0 6 j) (V : VV (xx 0) M N) {m : Nat} (hm : m < N) : ∀ (n k : Nat), k + n = N → k ≤ m → mX4_firstWith_2 10 (xx 0 6) (xx 0 6 m) (fun _ => -5) n (nI k) = nI m
  | 0, k, h, h2 => by omega
  | n + 1, k, h, h2 => by
    have := V.N10
    rw [mX4_firstWith_2, at_in _ (by omega) (by omega)]
    by_cases c : k = m
    · subst c; rw [if_pos rfl]
    · rw [if_neg (hd k m (by omega) hm c), nI_s, dist_hh hd V hm n (k + 1) (by omega) (by omega)]
theorem c_houseAt_a (hd : ∀ m j, m < N → j < N → m ≠ j → xx 0 6 m ≠ xx 0 6 j) (V : VV (xx 0) M N) {m : Nat} (hm : m < N) : mX4_houseAt (xx 0) (xx 0 6 m) = nI m := by
  have := V.N10
  unfold mX4_houseAt mX4_firstWith
  rw [V.eN, tr_0 (by omega)]
  exact dist_hh hd V hm N 0 (by omega) (by omega)
theorem lt3_le2 (u : Int32) : (if u ≤ 2 then (0 : Int32) else 1) = if decide (¬ u < 3) then 1 else 0 := by
  have k2 : (2 : Int32).toInt = 2 := rfl
  have k3 : (3 : Int32).toInt = 3 := rfl
  by_cases c : u < 3
  · rw [if_pos (by rw [i_le]; rw [i_lt] at c; omega), decide_eq_false (fun z => z c)]; rfl
  · rw [if_neg (by rw [i_le]; rw [i_lt] at c; omega), decide_eq_true c]; rfl
theorem p_isHouse (V : VV (xx 0) M N) (hw : ∀ h, h < 24 → xx 10 0 h = xx 0 0 h) (hhh : ∀ m j, m < N → j < N → m ≠ j → xx 0 6 m ≠ xx 0 6 j) (hmh : ∀ m a, m < M → a < N → xx 0 4 m ≠ xx 0 6 a) {a m : Nat} (ha : a < N) (hm : m < M) : mL_isHouse xx (nI a) (nI m) = 1 := by
  have hM := V.M4
  have hN := V.N10
  have hm4 : m < 4 := by omega
  have ha10 : a < 10 := by omega
  have hy := V.hy9 ha10
  have hb := V.my9 hm4
  have E3 : (if mL_size ((xx 0 6 a - xx 0 6 a / 12 * 12) - (xx 0 4 m - xx 0 4 m / 12 * 12)) ≤ mL_size ((xx 0 6 a / 12) - (xx 0 4 m / 12)) then mL_size ((xx 0 6 a / 12) - (xx 0 4 m / 12)) else mL_size ((xx 0 6 a - xx 0 6 a / 12 * 12) - (xx 0 4 m - xx 0 4 m / 12 * 12))) = nI (fr (nn (xx 0 4 m)) (nn (xx 0 6 a))) := by
    have := law_far hb hy
    rw [← V.my hm4, ← V.hy ha10] at this
    exact this
  unfold mL_isHouse
  rw [ho_0 V ha]
  refine lt_v ?_
  rw [ho_1 V ha]
  refine lt_v ?_
  rw [lt3_le2]
  refine lt_v ?_
  rw [mo_2 V hm]
  refine lt_v ?_
  rw [mo_1 V hm]
  refine lt_v ?_
  refine lt_v ?_
  refine lt_v ?_
  rw [E3]
  refine lt_v ?_
  rw [show tr 0 48 = 48 by decide +kernel, l92_0 V hw ha hm]
  rw [show mX5_houseOf (xx 0) (nI a) 2 = _ from ho_2 V ha]
  refine lt_v ?_
  have e1 : (if (if decide (¬ xx 0 7 a < 3) then (1 : Int32) else 0) = 0 then (0 : Int32) else 1) = if xx 0 7 a < 3 then 0 else 1 := by
    by_cases c : xx 0 7 a < 3
    · rw [decide_eq_false (fun z => z c), if_pos c]; rfl
    · rw [decide_eq_true c, if_neg c]; rfl
  rw [e1]
  refine lt_v ?_
  have hya : ¬ mX5_isYard (xx 0 6 a) = 0 := by rw [V.hy ha10]; exact yd_1 hy
  have y1 : mX5_yardOf (xx 0) (xx 0 6 a) 1 = nI a := by
    unfold mX5_yardOf
    rw [if_neg hya, if_neg (by decide), if_pos rfl, c_houseAt_a hhh V ha]
  have y0 : mX5_yardOf (xx 0) (xx 0 6 a) 0 = -5 := by
    unfold mX5_yardOf
    rw [if_neg hya, if_pos rfl, c_millAt_0 V (fun j h => hmh j a h ha)]
  rw [if_pos rfl, y1]
  refine lt_v ?_
  rw [if_pos rfl, y0]
  refine lt_v ?_
  rw [if_pos rfl]
end IH
