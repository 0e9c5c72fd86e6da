/-! P29, PURE 1: what the law asks, told by the village's cells. -/
section RRF
variable {xx : Nat → Nat → Nat → Int32} {x : Nat → Nat → Int32}
theorem rr_rg (h : RR xx x) : rgOk xx := by
  obtain ⟨o, z, ho, hz, e1, e2, e3, e4⟩ := h.rg
  exact ⟨⟨o, ho, e1⟩, z, hz, e2⟩
theorem rr_R (h : RR xx x) : Rv (xx 0) (rowP x 0) := by rw [rowP0]; exact h.now
theorem rr_o2 (h : RR xx x) : okR (rowP x 0) := by rw [rowP0]; exact h.ok
end RRF
theorem lt_p {α β : Type} {a : α} {f : α → β} {Q : β → Prop} (h : Q (f a)) : Q (lt a f) := h
theorem lt_v {α β : Type} {a : α} {f : α → β} {b : β} (h : f a = b) : lt a f = b := h
def nn (a : Int32) : Nat := a.toInt.toNat
theorem nn_nI {n : Nat} (h : n < 2147483648) : nn (nI n) = n := by
  unfold nn; rw [nI_toInt h]; omega
theorem nn_of {a : Int32} {B : Nat} (hB : B < 2147483648) (h : ∃ n, n ≤ B ∧ a = nI n) : a = nI (nn a) ∧ nn a ≤ B := by
  obtain ⟨n, h1, rfl⟩ := h
  rw [nn_nI (by omega)]; exact ⟨rfl, h1⟩
def VV (v : Nat → Nat → Int32) (M N : Nat) : Prop := (v 9 0 = nI M ∧ M ≤ 4) ∧ (v 10 0 = nI N ∧ N ≤ 10) ∧ (∀ h, h < 24 → v 0 h = nI (nn (v 0 h)) ∧ nn (v 0 h) ≤ 9) ∧ (∀ k, k < 4 → v 1 k = nI (nn (v 1 k)) ∧ nn (v 1 k) ≤ 99) ∧ (∀ m, m < 4 → v 3 m = nI (nn (v 3 m)) ∧ nn (v 3 m) ≤ 5) ∧ (∀ m, m < 4 → v 4 m = nI (nn (v 4 m)) ∧ nn (v 4 m) ≤ 95) ∧ (∀ m, m < 4 → hs (v 5 m)) ∧ (∀ a, a < 10 → v 6 a = nI (nn (v 6 a)) ∧ nn (v 6 a) ≤ 95) ∧ (∀ k, k < 80 → hs (v 8 k)) ∧ (∀ a m k, N ≤ a → a < 10 → m < 4 → k < 2 → v 8 (8 * a + 2 * m + k) = 0) ∧ (∀ a m k, M ≤ m → a < 10 → m < 4 → k < 2 → v 8 (8 * a + 2 * m + k) = 0)
section VVA
variable {v : Nat → Nat → Int32} {M N : Nat}
theorem VV.eM (V : VV v M N) : v 9 0 = nI M := V.1.1
theorem VV.M4 (V : VV v M N) : M ≤ 4 := V.1.2
theorem VV.eN (V : VV v M N) : v 10 0 = nI N := V.2.1.1
theorem VV.N10 (V : VV v M N) : N ≤ 10 := V.2.1.2
theorem VV.wi (V : VV v M N) {h : Nat} (hh : h < 24) : v 0 h = nI (nn (v 0 h)) := (V.2.2.1 h hh).1
theorem VV.wi9 (V : VV v M N) {h : Nat} (hh : h < 24) : nn (v 0 h) ≤ 9 := (V.2.2.1 h hh).2
theorem VV.se (V : VV v M N) {k : Nat} (hk : k < 4) : v 1 k = nI (nn (v 1 k)) := (V.2.2.2.1 k hk).1
theorem VV.se9 (V : VV v M N) {k : Nat} (hk : k < 4) : nn (v 1 k) ≤ 99 := (V.2.2.2.1 k hk).2
theorem VV.he (V : VV v M N) {m : Nat} (hm : m < 4) : v 3 m = nI (nn (v 3 m)) := (V.2.2.2.2.1 m hm).1
theorem VV.he5 (V : VV v M N) {m : Nat} (hm : m < 4) : nn (v 3 m) ≤ 5 := (V.2.2.2.2.1 m hm).2
theorem VV.my (V : VV v M N) {m : Nat} (hm : m < 4) : v 4 m = nI (nn (v 4 m)) := (V.2.2.2.2.2.1 m hm).1
theorem VV.my9 (V : VV v M N) {m : Nat} (hm : m < 4) : nn (v 4 m) < 96 := by have := (V.2.2.2.2.2.1 m hm).2; omega
theorem VV.ti (V : VV v M N) {m : Nat} (hm : m < 4) : hs (v 5 m) := V.2.2.2.2.2.2.1 m hm
theorem VV.hy (V : VV v M N) {a : Nat} (ha : a < 10) : v 6 a = nI (nn (v 6 a)) := (V.2.2.2.2.2.2.2.1 a ha).1
theorem VV.hy9 (V : VV v M N) {a : Nat} (ha : a < 10) : nn (v 6 a) < 96 := by have := (V.2.2.2.2.2.2.2.1 a ha).2; omega
theorem VV.st (V : VV v M N) {k : Nat} (hk : k < 80) : hs (v 8 k) := V.2.2.2.2.2.2.2.2.1 k hk
theorem VV.zN (V : VV v M N) {a m k : Nat} (h : N ≤ a) (ha : a < 10) (hm : m < 4) (hk : k < 2) : v 8 (8 * a + 2 * m + k) = 0 := V.2.2.2.2.2.2.2.2.2.1 a m k h ha hm hk
theorem VV.zM (V : VV v M N) {a m k : Nat} (h : M ≤ m) (ha : a < 10) (hm : m < 4) (hk : k < 2) : v 8 (8 * a + 2 * m + k) = 0 := V.2.2.2.2.2.2.2.2.2.2 a m k h ha hm hk
end VVA
theorem VV.of {xx : Nat → Nat → Nat → Int32} {x : Nat → Nat → Int32} {M N : Nat} (h : RR xx x) (e1 : xx 0 9 0 = nI M) (hM : M ≤ 4) (e2 : xx 0 10 0 = nI N) (hN : N ≤ 10) : VV (xx 0) M N := by
  have R := h.now
  have ok := h.ok
  refine ⟨⟨e1, hM⟩, ⟨e2, hN⟩, fun k hk => ?_, fun k hk => ?_, fun k hk => ?_, fun k hk => ?_, fun k hk => ?_, fun k hk => ?_, fun k hk => ?_, fun a m k h1 ha hm hk => ?_, fun a m k h1 ha hm hk => ?_⟩
  · rw [R.wi k hk]; exact nn_of (by omega) (ok.wi k hk)
  · rw [R.se k hk]; exact nn_of (by omega) (ok.se k hk)
  · rw [R.he k hk]; exact nn_of (by omega) (ok.he k hk)
  · obtain ⟨n, hn, e⟩ := ok.my k hk
    rw [R.my k hk]; exact nn_of (by omega) ⟨n, by omega, e⟩
  · rw [R.ti k hk]; exact ok.ti k hk
  · obtain ⟨n, hn, e⟩ := ok.hy k hk
    rw [R.hy k hk]; exact nn_of (by omega) ⟨n, by omega, e⟩
  · rw [R.st k hk]; exact ok.st k hk
  · rw [R.st _ (by omega)]; exact ok.szH N a m k (by rw [← R.nh]; exact e2) h1 ha hm hk
  · rw [R.st _ (by omega)]; exact ok.szM M a m k (by rw [← R.nm]; exact e1) h1 ha hm hk
theorem nI_lt0 {a : Nat} (ha : a < 2147483648) : ¬ nI a < 0 := by
  rw [show (0 : Int32) = nI 0 from rfl, nJ_lt ha (by omega)]; omega
section TEL
variable {v : Nat → Nat → Int32} {M N : Nat}
theorem hm_1 (V : VV v M N) {m : Nat} (hm : m < M) : ¬ mX4_hasMill v (nI m) = 0 := by
  have := V.M4
  unfold mX4_hasMill
  rw [V.eM, if_neg (nI_lt0 (by omega)), if_neg (by rw [nJ_le (by omega) (by omega)]; omega)]; decide
theorem hm_0 (V : VV v M N) {m : Nat} (hm : M ≤ m) (h : m < 2147483648) : mX4_hasMill v (nI m) = 0 := by
  have := V.M4
  unfold mX4_hasMill
  rw [V.eM, if_neg (nI_lt0 (by omega)), if_pos (by rw [nJ_le (by omega) (by omega)]; omega)]
theorem hh_1 (V : VV v M N) {m : Nat} (hm : m < N) : ¬ mX4_hasHouse v (nI m) = 0 := by
  have := V.N10
  unfold mX4_hasHouse
  rw [V.eN, if_neg (nI_lt0 (by omega)), if_neg (by rw [nJ_le (by omega) (by omega)]; omega)]; decide
theorem hr_1 {h : Nat} (hh : h < 24) : ¬ mX5_isHour (nI h) = 0 := (show ∀ h : Fin 24, ¬ mX5_isHour (nI h.1) = 0 by decide +kernel) ⟨h, hh⟩
theorem yd_1 {h : Nat} (hh : h < 96) : ¬ mX5_isYard (nI h) = 0 := (show ∀ h : Fin 96, ¬ mX5_isYard (nI h.1) = 0 by decide +kernel) ⟨h, hh⟩
theorem mo_0 (V : VV v M N) {m : Nat} (hm : m < M) : mX5_millOf v (nI m) 0 = v 3 m := by
  have := V.M4
  unfold mX5_millOf
  rw [if_neg (hm_1 V hm), if_pos rfl, at_in _ (by omega) (by omega)]
theorem mo_1 (V : VV v M N) {m : Nat} (hm : m < M) : mX5_millOf v (nI m) 1 = v 4 m := by
  have := V.M4
  unfold mX5_millOf
  rw [if_neg (hm_1 V hm), if_neg (by decide), if_pos rfl, at_in _ (by omega) (by omega)]
theorem c_tied (v : Nat → Nat → Int32) {m : Nat} (hm : m < 4) : mX4_tiedHours v (nI m) = v 5 m := by
  unfold mX4_tiedHours; rw [at_in _ (by omega) (by omega)]
theorem mo_2 (V : VV v M N) {m : Nat} (hm : m < M) : mX5_millOf v (nI m) 2 = v 5 m := by
  have := V.M4
  unfold mX5_millOf
  rw [if_neg (hm_1 V hm), if_neg (by decide), if_neg (by decide), if_pos rfl, c_tied v (by omega)]
theorem mo_3 (V : VV v M N) {m : Nat} (hm : m < M) : mX5_millOf v (nI m) 3 = mX4_turningHours v (nI m) := by
  unfold mX5_millOf
  rw [if_neg (hm_1 V hm), if_neg (by decide), if_neg (by decide), if_neg (by decide), if_pos rfl]
theorem mo_4 (V : VV v M N) {m : Nat} (hm : m < M) : mX5_millOf v (nI m) 4 = mX4_grainOf v (nI m) := by
  unfold mX5_millOf
  rw [if_neg (hm_1 V hm), if_neg (by decide), if_neg (by decide), if_neg (by decide), if_neg (by decide), if_pos rfl]
theorem mo_5 (V : VV v M N) {m : Nat} (hm : m < M) : mX5_millOf v (nI m) 5 = mX4_pointsOfDay v (nI m) := by
  unfold mX5_millOf
  rw [if_neg (hm_1 V hm), if_neg (by decide), if_neg (by decide), if_neg (by decide), if_neg (by decide), if_neg (by decide), if_pos rfl]
theorem ho_0 (V : VV v M N) {a : Nat} (ha : a < N) : mX5_houseOf v (nI a) 0 = v 6 a := by
  have := V.N10
  unfold mX5_houseOf
  rw [if_neg (hh_1 V ha), if_pos rfl, at_in _ (by omega) (by omega)]
theorem ho_1 (V : VV v M N) {a : Nat} (ha : a < N) : mX5_houseOf v (nI a) 1 = v 7 a := by
  have := V.N10
  unfold mX5_houseOf
  rw [if_neg (hh_1 V ha), if_neg (by decide), if_pos rfl, at_in _ (by omega) (by omega)]
theorem ho_2 (V : VV v M N) {a : Nat} (ha : a < N) : mX5_houseOf v (nI a) 2 = if v 7 a < 3 then 0 else 1 := by
  have := V.N10
  unfold mX5_houseOf mX4_isBarred
  rw [if_neg (hh_1 V ha), if_neg (by decide), if_neg (by decide), if_pos rfl, at_in _ (by omega) (by omega)]
  split <;> rfl
theorem ho_3 (V : VV v M N) {a : Nat} (ha : a < N) : mX5_houseOf v (nI a) 3 = mX4_standingOf v (nI a) := by
  unfold mX5_houseOf
  rw [if_neg (hh_1 V ha), if_neg (by decide), if_neg (by decide), if_neg (by decide), if_pos rfl]
theorem c_has (a : Int32) {h : Nat} (hh : h < 24) : mL_has a (nI h) = if bt a h then 1 else 0 := by
  unfold mL_has; rw [bit_e a hh]; cases bt a h <;> rfl
theorem c_isTied (v : Nat → Nat → Int32) {m h : Nat} (hm : m < 4) (hh : h < 24) : mX4_isTied v (nI m) (nI h) = if bt (v 5 m) h then 1 else 0 := by
  unfold mX4_isTied; rw [c_tied v hm, bit_e _ hh]; cases bt (v 5 m) h <;> rfl
theorem c_wind (v : Nat → Nat → Int32) {h : Nat} (hh : h < 24) : mX4_windAt v (nI h) = v 0 h := by
  unfold mX4_windAt; rw [at_in _ hh (by omega)]
theorem c_set (v : Nat → Nat → Int32) {k : Nat} (hk : k < 4) : mX4_setting v (nI k) = v 1 k := by
  unfold mX4_setting; rw [at_in _ hk (by omega)]
theorem c_blows (v : Nat → Nat → Int32) {h : Nat} (hh : h < 24) : mX4_blows v (nI h) = if v 0 h < 2 then 0 else 1 := by
  unfold mX4_blows; rw [c_wind v hh]
theorem c_turns (v : Nat → Nat → Int32) {m h : Nat} (hm : m < 4) (hh : h < 24) : mX4_turns v (nI m) (nI h) = if v 0 h < 2 then 0 else if bt (v 5 m) h then 0 else 1 := by
  unfold mX4_turns; rw [c_blows v hh, c_isTied v hm hh]
  by_cases c : v 0 h < 2
  · rw [if_pos c, if_pos rfl, if_pos c]
  · rw [if_neg c, if_neg (by decide), if_neg c]; cases bt (v 5 m) h <;> rfl
theorem c_stands (v : Nat → Nat → Int32) {a m k h : Nat} (ha : a < 10) (hm : m < 4) (hk : k < 2) (hh : h < 24) : mX4_stands v (nI a) (nI m) (nI k) (nI h) = if bt (v 8 (8 * a + 2 * m + k)) h then 1 else 0 := by
  unfold mX4_stands; rw [pl_nI, at_in _ (by omega) (by omega), bit_e _ hh]; cases bt (v 8 (8 * a + 2 * m + k)) h <;> rfl
end TEL
section CNT
variable {xx : Nat → Nat → Nat → Int32}
theorem ct_0 : mX5_count xx 0 = xx 0 9 0 := by unfold mX5_count; rw [if_pos rfl]
theorem ct_1 : mX5_count xx 1 = xx 0 10 0 := by unfold mX5_count; rw [if_neg (by decide), if_pos rfl]
theorem ct_2 : mX5_count xx 2 = xx 0 2 0 := by
  unfold mX5_count; rw [if_neg (by decide), if_neg (by decide), if_pos rfl]; exact at_in (k := 0) _ (by omega) (by omega)
theorem ct_3 : mX5_count xx 3 = xx 0 2 1 := by
  unfold mX5_count; rw [if_neg (by decide), if_neg (by decide), if_neg (by decide), if_pos rfl]; exact at_in (k := 1) _ (by omega) (by omega)
theorem ct_4 : mX5_count xx 4 = xx 0 2 2 := by
  unfold mX5_count; rw [if_neg (by decide), if_neg (by decide), if_neg (by decide), if_neg (by decide), if_pos rfl]; exact at_in (k := 2) _ (by omega) (by omega)
theorem ct_5 : mX5_count xx 5 = xx 0 2 3 := by
  unfold mX5_count; rw [if_neg (by decide), if_neg (by decide), if_neg (by decide), if_neg (by decide), if_neg (by decide), if_pos rfl]; exact at_in (k := 3) _ (by omega) (by omega)
theorem ct_6 : mX5_count xx 6 = xx 0 2 4 := by
  unfold mX5_count; rw [if_neg (by decide), if_neg (by decide), if_neg (by decide), if_neg (by decide), if_neg (by decide), if_neg (by decide), if_pos rfl]; exact at_in (k := 4) _ (by omega) (by omega)
theorem ct_7 : mX5_count xx 7 = xx 0 2 5 := by
  unfold mX5_count; rw [if_neg (by decide), if_neg (by decide), if_neg (by decide), if_neg (by decide), if_neg (by decide), if_neg (by decide), if_neg (by decide), if_pos rfl]; exact at_in (k := 5) _ (by omega) (by omega)
theorem ct_8 : mX5_count xx 8 = mX4_tiedHoursOfAll (xx 0) := by
  unfold mX5_count; rw [if_neg (by decide), if_neg (by decide), if_neg (by decide), if_neg (by decide), if_neg (by decide), if_neg (by decide), if_neg (by decide), if_neg (by decide), if_pos rfl]
theorem ct_9 : mX5_count xx 9 = mX4_grainOfAll (xx 0) := by
  unfold mX5_count; rw [if_neg (by decide), if_neg (by decide), if_neg (by decide), if_neg (by decide), if_neg (by decide), if_neg (by decide), if_neg (by decide), if_neg (by decide), if_neg (by decide), if_pos rfl]
theorem ct_s {k : Nat} (hk : k < 4) : mX5_count xx (12 + nI k) = xx 0 1 k := by
  rcases (show k = 0 ∨ k = 1 ∨ k = 2 ∨ k = 3 by omega) with rfl | rfl | rfl | rfl
  · rw [show (12 : Int32) + nI 0 = 12 by decide]
    unfold mX5_count
    rw [if_neg (by decide), if_neg (by decide), if_neg (by decide), if_neg (by decide), if_neg (by decide), if_neg (by decide), if_neg (by decide), if_neg (by decide), if_neg (by decide), if_neg (by decide), if_neg (by decide), if_neg (by decide), if_pos rfl]
    exact c_set (xx 0) (k := 0) (by omega)
  · rw [show (12 : Int32) + nI 1 = 13 by decide]
    unfold mX5_count
    rw [if_neg (by decide), if_neg (by decide), if_neg (by decide), if_neg (by decide), if_neg (by decide), if_neg (by decide), if_neg (by decide), if_neg (by decide), if_neg (by decide), if_neg (by decide), if_neg (by decide), if_neg (by decide), if_neg (by decide), if_pos rfl]
    exact c_set (xx 0) (k := 1) (by omega)
  · rw [show (12 : Int32) + nI 2 = 14 by decide]
    unfold mX5_count
    rw [if_neg (by decide), if_neg (by decide), if_neg (by decide), if_neg (by decide), if_neg (by decide), if_neg (by decide), if_neg (by decide), if_neg (by decide), if_neg (by decide), if_neg (by decide), if_neg (by decide), if_neg (by decide), if_neg (by decide), if_neg (by decide), if_pos rfl]
    exact c_set (xx 0) (k := 2) (by omega)
  · rw [show (12 : Int32) + nI 3 = 15 by decide]
    unfold mX5_count
    rw [if_neg (by decide), if_neg (by decide), if_neg (by decide), if_neg (by decide), if_neg (by decide), if_neg (by decide), if_neg (by decide), if_neg (by decide), if_neg (by decide), if_neg (by decide), if_neg (by decide), if_neg (by decide), if_neg (by decide), if_neg (by decide), if_neg (by decide), if_pos rfl]
    exact c_set (xx 0) (k := 3) (by omega)
theorem ct_12 : mX5_count xx 12 = xx 0 1 0 := ct_s (xx := xx) (k := 0) (by omega)
theorem ct_13 : mX5_count xx 13 = xx 0 1 1 := ct_s (xx := xx) (k := 1) (by omega)
theorem ct_14 : mX5_count xx 14 = xx 0 1 2 := ct_s (xx := xx) (k := 2) (by omega)
theorem ct_15 : mX5_count xx 15 = xx 0 1 3 := ct_s (xx := xx) (k := 3) (by omega)
end CNT
