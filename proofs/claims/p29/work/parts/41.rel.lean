/-! PURE 2: a village and a row of the model; reads that answer alike. -/
theorem nI_mul (a b : Nat) : nI a * nI b = nI (a * b) := (Int32.ofNat_mul a b).symm
theorem nI_cl {n : Nat} (h : n < 2147483648) : (nI n).toNatClampNeg = n := by
  show ((nI n).toInt).toNat = n
  rw [nI_toInt h]; rfl
theorem nI_inj {a b : Nat} (ha : a < 2147483648) (hb : b < 2147483648) (h : nI a = nI b) : a = b := by
  have := congrArg Int32.toInt h
  rw [nI_toInt ha, nI_toInt hb] at this; omega
theorem of_rng {i : Int32} {n : Nat} (h : 0 ≤ i.toInt ∧ i.toInt < n) (hn : n < 2147483648) : ∃ k, k < n ∧ i = nI k := by
  refine ⟨i.toInt.toNat, by omega, ?_⟩
  rw [i_eq, nI_toInt (by omega)]; omega
theorem nI_s (n : Nat) : nI n + 1 = nI (n + 1) := nI_add n 1
theorem nJ_lt {a b : Nat} (ha : a < 2147483648) (hb : b < 2147483648) : nI a < nI b ↔ a < b := by
  rw [i_lt, nI_toInt ha, nI_toInt hb]; omega
theorem nJ_le {a b : Nat} (ha : a < 2147483648) (hb : b < 2147483648) : nI a ≤ nI b ↔ a ≤ b := by
  rw [i_le, nI_toInt ha, nI_toInt hb]; omega
theorem nJ_eq {a b : Nat} (ha : a < 2147483648) (hb : b < 2147483648) : nI a = nI b ↔ a = b := ⟨nI_inj ha hb, fun h => by rw [h]⟩
theorem tr_nI {a b : Nat} (ha : a < 2147483648) (hb : b < 2147483648) : tr (nI a) (nI b) = b - a := by
  unfold tr; rw [nI_toInt ha, nI_toInt hb]; omega
theorem tr_0 {b : Nat} (hb : b < 2147483648) : tr 0 (nI b) = b := tr_nI (a := 0) (by omega) hb
def Rv (v : Nat → Nat → Int32) (r : Nat → Int32) : Prop := (∀ k, k < 24 → v 0 k = r (34 + k)) ∧ (∀ k, k < 4 → v 1 k = r (58 + k)) ∧ (∀ k, k < 6 → v 2 k = r (62 + k)) ∧ (∀ k, k < 4 → v 3 k = r (1 + 3 * k)) ∧ (∀ k, k < 4 → v 4 k = r (2 + 3 * k)) ∧ (∀ k, k < 4 → v 5 k = r (3 + 3 * k)) ∧ (∀ k, k < 10 → v 6 k = r (14 + 2 * k)) ∧ (∀ k, k < 10 → v 7 k = r (15 + 2 * k)) ∧ (∀ k, k < 80 → v 8 k = r (68 + k)) ∧ (v 9 0 = r 0) ∧ (v 10 0 = r 13)
theorem Rv.wi {v : Nat → Nat → Int32} {r : Nat → Int32} (h : Rv v r) : ∀ k, k < 24 → v 0 k = r (34 + k) := h.1
theorem Rv.se {v : Nat → Nat → Int32} {r : Nat → Int32} (h : Rv v r) : ∀ k, k < 4 → v 1 k = r (58 + k) := h.2.1
theorem Rv.ta {v : Nat → Nat → Int32} {r : Nat → Int32} (h : Rv v r) : ∀ k, k < 6 → v 2 k = r (62 + k) := h.2.2.1
theorem Rv.he {v : Nat → Nat → Int32} {r : Nat → Int32} (h : Rv v r) : ∀ k, k < 4 → v 3 k = r (1 + 3 * k) := h.2.2.2.1
theorem Rv.my {v : Nat → Nat → Int32} {r : Nat → Int32} (h : Rv v r) : ∀ k, k < 4 → v 4 k = r (2 + 3 * k) := h.2.2.2.2.1
theorem Rv.ti {v : Nat → Nat → Int32} {r : Nat → Int32} (h : Rv v r) : ∀ k, k < 4 → v 5 k = r (3 + 3 * k) := h.2.2.2.2.2.1
theorem Rv.hy {v : Nat → Nat → Int32} {r : Nat → Int32} (h : Rv v r) : ∀ k, k < 10 → v 6 k = r (14 + 2 * k) := h.2.2.2.2.2.2.1
theorem Rv.va {v : Nat → Nat → Int32} {r : Nat → Int32} (h : Rv v r) : ∀ k, k < 10 → v 7 k = r (15 + 2 * k) := h.2.2.2.2.2.2.2.1
theorem Rv.st {v : Nat → Nat → Int32} {r : Nat → Int32} (h : Rv v r) : ∀ k, k < 80 → v 8 k = r (68 + k) := h.2.2.2.2.2.2.2.2.1
theorem Rv.nm {v : Nat → Nat → Int32} {r : Nat → Int32} (h : Rv v r) : v 9 0 = r 0 := h.2.2.2.2.2.2.2.2.2.1
theorem Rv.nh {v : Nat → Nat → Int32} {r : Nat → Int32} (h : Rv v r) : v 10 0 = r 13 := h.2.2.2.2.2.2.2.2.2.2
theorem Rv.mk {v : Nat → Nat → Int32} {r : Nat → Int32} (wi : ∀ k, k < 24 → v 0 k = r (34 + k)) (se : ∀ k, k < 4 → v 1 k = r (58 + k)) (ta : ∀ k, k < 6 → v 2 k = r (62 + k)) (he : ∀ k, k < 4 → v 3 k = r (1 + 3 * k)) (my : ∀ k, k < 4 → v 4 k = r (2 + 3 * k)) (ti : ∀ k, k < 4 → v 5 k = r (3 + 3 * k)) (hy : ∀ k, k < 10 → v 6 k = r (14 + 2 * k)) (va : ∀ k, k < 10 → v 7 k = r (15 + 2 * k)) (st : ∀ k, k < 80 → v 8 k = r (68 + k)) (nm : v 9 0 = r 0) (nh : v 10 0 = r 13) : Rv v r := ⟨wi, se, ta, he, my, ti, hy, va, st, nm, nh⟩
def okR (r : Nat → Int32) : Prop := (∃ n, n ≤ 4 ∧ r 0 = nI n) ∧ (∃ n, n ≤ 10 ∧ r 13 = nI n) ∧ (∀ k, k < 24 → ∃ n, n ≤ 9 ∧ r (34 + k) = nI n) ∧ (∀ k, k < 4 → ∃ n, n ≤ 99 ∧ r (58 + k) = nI n) ∧ (∀ k, k < 4 → ∃ n, n ≤ 5 ∧ r (1 + 3 * k) = nI n) ∧ (∀ k, k < 4 → ∃ n, n < 96 ∧ r (2 + 3 * k) = nI n) ∧ (∀ k, k < 4 → hs (r (3 + 3 * k))) ∧ (∀ k, k < 10 → ∃ n, n < 96 ∧ r (14 + 2 * k) = nI n) ∧ (∀ k, k < 80 → hs (r (68 + k))) ∧ (∀ n h m k, r 13 = nI n → n ≤ h → h < 10 → m < 4 → k < 2 → r (68 + (8 * h + 2 * m + k)) = 0) ∧ (∀ n h m k, r 0 = nI n → n ≤ m → h < 10 → m < 4 → k < 2 → r (68 + (8 * h + 2 * m + k)) = 0)
theorem okR.M {r : Nat → Int32} (h : okR r) : ∃ n, n ≤ 4 ∧ r 0 = nI n := h.1
theorem okR.H {r : Nat → Int32} (h : okR r) : ∃ n, n ≤ 10 ∧ r 13 = nI n := h.2.1
theorem okR.wi {r : Nat → Int32} (h : okR r) : ∀ k, k < 24 → ∃ n, n ≤ 9 ∧ r (34 + k) = nI n := h.2.2.1
theorem okR.se {r : Nat → Int32} (h : okR r) : ∀ k, k < 4 → ∃ n, n ≤ 99 ∧ r (58 + k) = nI n := h.2.2.2.1
theorem okR.he {r : Nat → Int32} (h : okR r) : ∀ k, k < 4 → ∃ n, n ≤ 5 ∧ r (1 + 3 * k) = nI n := h.2.2.2.2.1
theorem okR.my {r : Nat → Int32} (h : okR r) : ∀ k, k < 4 → ∃ n, n < 96 ∧ r (2 + 3 * k) = nI n := h.2.2.2.2.2.1
theorem okR.ti {r : Nat → Int32} (h : okR r) : ∀ k, k < 4 → hs (r (3 + 3 * k)) := h.2.2.2.2.2.2.1
theorem okR.hy {r : Nat → Int32} (h : okR r) : ∀ k, k < 10 → ∃ n, n < 96 ∧ r (14 + 2 * k) = nI n := h.2.2.2.2.2.2.2.1
theorem okR.st {r : Nat → Int32} (h : okR r) : ∀ k, k < 80 → hs (r (68 + k)) := h.2.2.2.2.2.2.2.2.1
theorem okR.szH {r : Nat → Int32} (h : okR r) : ∀ n h m k, r 13 = nI n → n ≤ h → h < 10 → m < 4 → k < 2 → r (68 + (8 * h + 2 * m + k)) = 0 := h.2.2.2.2.2.2.2.2.2.1
theorem okR.szM {r : Nat → Int32} (h : okR r) : ∀ n h m k, r 0 = nI n → n ≤ m → h < 10 → m < 4 → k < 2 → r (68 + (8 * h + 2 * m + k)) = 0 := h.2.2.2.2.2.2.2.2.2.2
theorem okR.mk {r : Nat → Int32} (M : ∃ n, n ≤ 4 ∧ r 0 = nI n) (H : ∃ n, n ≤ 10 ∧ r 13 = nI n) (wi : ∀ k, k < 24 → ∃ n, n ≤ 9 ∧ r (34 + k) = nI n) (se : ∀ k, k < 4 → ∃ n, n ≤ 99 ∧ r (58 + k) = nI n) (he : ∀ k, k < 4 → ∃ n, n ≤ 5 ∧ r (1 + 3 * k) = nI n) (my : ∀ k, k < 4 → ∃ n, n < 96 ∧ r (2 + 3 * k) = nI n) (ti : ∀ k, k < 4 → hs (r (3 + 3 * k))) (hy : ∀ k, k < 10 → ∃ n, n < 96 ∧ r (14 + 2 * k) = nI n) (st : ∀ k, k < 80 → hs (r (68 + k))) (szH : ∀ n h m k, r 13 = nI n → n ≤ h → h < 10 → m < 4 → k < 2 → r (68 + (8 * h + 2 * m + k)) = 0) (szM : ∀ n h m k, r 0 = nI n → n ≤ m → h < 10 → m < 4 → k < 2 → r (68 + (8 * h + 2 * m + k)) = 0) : okR r := ⟨M, H, wi, se, he, my, ti, hy, st, szH, szM⟩
abbrev rowP (x : Nat → Nat → Int32) (P : Nat) : Nat → Int32 := fun i => x 0 (P + i)
/-! indices of the model's row -/
theorem jM {P m : Nat} (k : Nat) (h : P + 1 + 3 * m + k < 2147483648) : (((nI P + 1) + (3 * nI m)) + nI k).toNatClampNeg = P + (1 + 3 * m + k) := by
  rw [show (1 : Int32) = nI 1 from rfl, show (3 : Int32) = nI 3 from rfl, nI_mul, nI_add, nI_add, nI_add, nI_cl h]; omega
theorem jH {P m : Nat} (k : Nat) (h : P + 14 + 2 * m + k < 2147483648) : (((nI P + 14) + (2 * nI m)) + nI k).toNatClampNeg = P + (14 + 2 * m + k) := by
  rw [show (14 : Int32) = nI 14 from rfl, show (2 : Int32) = nI 2 from rfl, nI_mul, nI_add, nI_add, nI_add, nI_cl h]; omega
theorem jW {P m : Nat} (h : P + 34 + m < 2147483648) : ((nI P + 34) + nI m).toNatClampNeg = P + (34 + m) := by
  rw [show (34 : Int32) = nI 34 from rfl, nI_add, nI_add, nI_cl h]; omega
theorem jS {P a m k : Nat} (h : P + 68 + 8 * a + 2 * m + k < 2147483648) : ((((nI P + 68) + (8 * nI a)) + (2 * nI m)) + nI k).toNatClampNeg = P + (68 + (8 * a + 2 * m + k)) := by
  rw [show (68 : Int32) = nI 68 from rfl, show (8 : Int32) = nI 8 from rfl, show (2 : Int32) = nI 2 from rfl, nI_mul, nI_mul, nI_add, nI_add, nI_add, nI_add, nI_cl h]; omega
theorem j1 {P : Nat} (k : Nat) (h : P + k < 2147483648) : (nI P + nI k).toNatClampNeg = P + k := by rw [nI_add, nI_cl h]
theorem j2 {P : Nat} (a k : Nat) (h : P + a + k < 2147483648) : ((nI P + nI a) + nI k).toNatClampNeg = P + (a + k) := by rw [nI_add, nI_add, nI_cl h]; omega
theorem at_in {n k : Nat} (f : Nat → Int32) (h : k < n) (hn : n < 2147483648) : mX5_at n f (nI k) = f k := by
  unfold mX5_at
  rw [if_neg (by rw [show (0 : Int32) = nI 0 from rfl, nJ_lt (by omega) (by omega)]; omega), if_neg (by rw [nJ_le hn (by omega)]; omega), nI_cl (by omega)]
theorem put_in {n k : Nat} (f : Nat → Int32) (y : Int32) (h : k < n) (hn : n < 2147483648) : mX5_put n f (nI k) y = upd f k y := by
  unfold mX5_put lt
  rw [if_neg (by rw [show (0 : Int32) = nI 0 from rfl, nJ_lt (by omega) (by omega)]; omega), if_neg (by rw [nJ_le hn (by omega)]; omega), nI_cl (by omega)]
theorem e_isHour (i : Int32) : mX5_isHour i = mX6_isHour i := by
  unfold mX5_isHour mX6_isHour mX6_in
  by_cases h : i < 0
  · rw [if_pos h, if_pos h]
  · rw [if_neg h, if_neg h]
    by_cases h2 : 24 ≤ i
    · rw [if_pos h2, if_pos (by rw [i_le] at h2; rw [i_lt]; have : (24 : Int32).toInt = 24 := rfl; have : (23 : Int32).toInt = 23 := rfl; omega)]
    · rw [if_neg h2, if_neg (by rw [i_le] at h2; rw [i_lt]; have : (24 : Int32).toInt = 24 := rfl; have : (23 : Int32).toInt = 23 := rfl; omega)]
theorem e_isYard (i : Int32) : mX5_isYard i = mX6_isYard i := by
  unfold mX5_isYard mX6_isYard mX6_in
  by_cases h : i < 0
  · rw [if_pos h, if_pos h]
  · rw [if_neg h, if_neg h]
    by_cases h2 : 96 ≤ i
    · rw [if_pos h2, if_pos (by rw [i_le] at h2; rw [i_lt]; have : (96 : Int32).toInt = 96 := rfl; have : (95 : Int32).toInt = 95 := rfl; omega)]
    · rw [if_neg h2, if_neg (by rw [i_le] at h2; rw [i_lt]; have : (96 : Int32).toInt = 96 := rfl; have : (95 : Int32).toInt = 95 := rfl; omega)]
theorem hour_nI {i : Int32} (h : ¬ mX6_isHour i = 0) : ∃ k, k < 24 ∧ i = nI k := by
  unfold mX6_isHour at h
  have := f6_in h
  have e0 : (0 : Int32).toInt = 0 := rfl
  have e1 : (23 : Int32).toInt = 23 := rfl
  exact of_rng (n := 24) (by omega) (by omega)
theorem yard_nI {i : Int32} (h : ¬ mX6_isYard i = 0) : ∃ k, k < 96 ∧ i = nI k := by
  unfold mX6_isYard at h
  have := f6_in h
  have e0 : (0 : Int32).toInt = 0 := rfl
  have e1 : (95 : Int32).toInt = 95 := rfl
  exact of_rng (n := 96) (by omega) (by omega)
section READS
variable {v : Nat → Nat → Int32} {x : Nat → Nat → Int32} {P : Nat}
theorem in_M (i : Int32) {n : Nat} (hn : n ≤ 100) : mX6_in i 0 (nI n - 1) = (if i < 0 then 0 else if nI n ≤ i then 0 else 1) := by
  unfold mX6_in
  by_cases h : i < 0
  · rw [if_pos h, if_pos h]
  · rw [if_neg h, if_neg h]
    have e1 : (nI n - 1).toInt = n - 1 := ti_sub (nI_toInt (by omega)) (show (1 : Int32).toInt = 1 from rfl) (by omega)
    have e2 : (nI n).toInt = n := nI_toInt (by omega)
    by_cases h2 : nI n ≤ i
    · rw [if_pos h2, if_pos (by rw [i_le] at h2; rw [i_lt]; omega)]
    · rw [if_neg h2, if_neg (by rw [i_le] at h2; rw [i_lt]; omega)]
theorem e_hasMill (R : Rv v (rowP x P)) (ok : okR (rowP x P)) (hP : P ≤ 200) (i : Int32) : mX4_hasMill v i = mX6_isMill x (nI P) i := by
  obtain ⟨n, hn, e⟩ := ok.M
  unfold mX4_hasMill mX6_isMill
  rw [show ((nI P + 0)).toNatClampNeg = P + 0 from j1 0 (by omega), show x 0 (P + 0) = nI n from e, in_M i (by omega), R.nm, e]
theorem e_hasHouse (R : Rv v (rowP x P)) (ok : okR (rowP x P)) (hP : P ≤ 200) (i : Int32) : mX4_hasHouse v i = mX6_isHouse x (nI P) i := by
  obtain ⟨n, hn, e⟩ := ok.H
  unfold mX4_hasHouse mX6_isHouse
  rw [show ((nI P + 13)).toNatClampNeg = P + 13 from j1 13 (by omega), show x 0 (P + 13) = nI n from e, in_M i (by omega), R.nh, e]
theorem mill_nI (ok : okR (rowP x P)) (hP : P ≤ 200) {i : Int32} (h : ¬ mX6_isMill x (nI P) i = 0) : ∃ m, m < 4 ∧ i = nI m ∧ ∀ n, rowP x P 0 = nI n → n < 2147483648 → m < n := by
  obtain ⟨n, hn, e⟩ := ok.M
  unfold mX6_isMill at h
  rw [show ((nI P + 0)).toNatClampNeg = P + 0 from j1 0 (by omega), show x 0 (P + 0) = nI n from e, in_M i (by omega)] at h
  by_cases h1 : i < 0
  · rw [if_pos h1] at h; exact absurd rfl h
  · rw [if_neg h1] at h
    by_cases h2 : nI n ≤ i
    · rw [if_pos h2] at h; exact absurd rfl h
    · rw [i_lt] at h1
      rw [i_le, nI_toInt (by omega)] at h2
      have e0 : (0 : Int32).toInt = 0 := rfl
      obtain ⟨k, hk, e2⟩ := of_rng (i := i) (n := n) (by omega) (by omega)
      refine ⟨k, by omega, e2, fun n' hn' hb => ?_⟩
      rw [e] at hn'
      have := nI_inj (by omega) hb hn'
      omega
theorem house_nI (ok : okR (rowP x P)) (hP : P ≤ 200) {i : Int32} (h : ¬ mX6_isHouse x (nI P) i = 0) : ∃ m, m < 10 ∧ i = nI m ∧ ∀ n, rowP x P 13 = nI n → n < 2147483648 → m < n := by
  obtain ⟨n, hn, e⟩ := ok.H
  unfold mX6_isHouse at h
  rw [show ((nI P + 13)).toNatClampNeg = P + 13 from j1 13 (by omega), show x 0 (P + 13) = nI n from e, in_M i (by omega)] at h
  by_cases h1 : i < 0
  · rw [if_pos h1] at h; exact absurd rfl h
  · rw [if_neg h1] at h
    by_cases h2 : nI n ≤ i
    · rw [if_pos h2] at h; exact absurd rfl h
    · rw [i_lt] at h1
      rw [i_le, nI_toInt (by omega)] at h2
      have e0 : (0 : Int32).toInt = 0 := rfl
      obtain ⟨k, hk, e2⟩ := of_rng (i := i) (n := n) (by omega) (by omega)
      refine ⟨k, by omega, e2, fun n' hn' hb => ?_⟩
      rw [e] at hn'
      have := nI_inj (by omega) hb hn'
      omega
theorem e_wind (R : Rv v (rowP x P)) (hP : P ≤ 200) {h : Nat} (hh : h < 24) : mX4_windAt v (nI h) = x 0 (((nI P + 34) + nI h)).toNatClampNeg := by
  unfold mX4_windAt
  rw [at_in _ hh (by omega), R.wi h hh, jW (by omega)]
theorem e_blows (R : Rv v (rowP x P)) (hP : P ≤ 200) {h : Nat} (hh : h < 24) : mX4_blows v (nI h) = if x 0 (((nI P + 34) + nI h)).toNatClampNeg < 2 then 0 else 1 := by
  unfold mX4_blows
  rw [e_wind R hP hh]
theorem e_setting (R : Rv v (rowP x P)) {k : Nat} (hk : k < 4) : mX4_setting v (nI k) = x 0 (P + (58 + k)) := by
  unfold mX4_setting
  rw [at_in _ hk (by omega), R.se k hk]
theorem e_tiedH (R : Rv v (rowP x P)) (hP : P ≤ 200) {m : Nat} (hm : m < 4) : mX4_tiedHours v (nI m) = x 0 ((((nI P + 1) + (3 * nI m)) + 2)).toNatClampNeg := by
  unfold mX4_tiedHours
  rw [at_in _ hm (by omega), R.ti m hm, show ((((nI P + 1) + (3 * nI m)) + 2)).toNatClampNeg = _ from jM 2 (by omega)]
  show x 0 _ = x 0 _
  congr 1; omega
theorem e_myard (R : Rv v (rowP x P)) (hP : P ≤ 200) {m : Nat} (hm : m < 4) : mX5_at 4 (v 4) (nI m) = x 0 ((((nI P + 1) + (3 * nI m)) + 1)).toNatClampNeg := by
  rw [at_in _ hm (by omega), R.my m hm, show ((((nI P + 1) + (3 * nI m)) + 1)).toNatClampNeg = _ from jM 1 (by omega)]
  show x 0 _ = x 0 _
  congr 1; omega
theorem e_height (R : Rv v (rowP x P)) (hP : P ≤ 200) {m : Nat} (hm : m < 4) : mX5_at 4 (v 3) (nI m) = x 0 ((((nI P + 1) + (3 * nI m)) + 0)).toNatClampNeg := by
  rw [at_in _ hm (by omega), R.he m hm, show ((((nI P + 1) + (3 * nI m)) + 0)).toNatClampNeg = _ from jM 0 (by omega)]
  rfl
theorem e_hyard (R : Rv v (rowP x P)) (hP : P ≤ 200) {m : Nat} (hm : m < 10) : mX5_at 10 (v 6) (nI m) = x 0 ((((nI P + 14) + (2 * nI m)) + 0)).toNatClampNeg := by
  rw [at_in _ hm (by omega), R.hy m hm, show ((((nI P + 14) + (2 * nI m)) + 0)).toNatClampNeg = _ from jH 0 (by omega)]
  rfl
theorem e_vain (R : Rv v (rowP x P)) (hP : P ≤ 200) {m : Nat} (hm : m < 10) : mX5_at 10 (v 7) (nI m) = x 0 ((((nI P + 14) + (2 * nI m)) + 1)).toNatClampNeg := by
  rw [at_in _ hm (by omega), R.va m hm, show ((((nI P + 14) + (2 * nI m)) + 1)).toNatClampNeg = _ from jH 1 (by omega)]
  show x 0 _ = x 0 _
  congr 1; omega
theorem pl_nI (a m k : Nat) : mX4_placeOf (nI a) (nI m) (nI k) = nI (8 * a + 2 * m + k) := by
  unfold mX4_placeOf
  rw [show (4 : Int32) = nI 4 from rfl, show (2 : Int32) = nI 2 from rfl, nI_mul, nI_add, nI_mul, nI_add]
  congr 1; omega
theorem e_st (R : Rv v (rowP x P)) (hP : P ≤ 200) {a m k : Nat} (ha : a < 10) (hm : m < 4) (hk : k < 2) : mX5_at 80 (v 8) (mX4_placeOf (nI a) (nI m) (nI k)) = x 0 (((((nI P + 68) + (8 * nI a)) + (2 * nI m)) + nI k)).toNatClampNeg := by
  rw [pl_nI, at_in _ (by omega) (by omega), R.st _ (by omega), jS (by omega)]
theorem e_isTied (R : Rv v (rowP x P)) (hP : P ≤ 200) {m h : Nat} (hm : m < 4) (hh : h < 24) : mX4_isTied v (nI m) (nI h) = mX6_isTied x (nI P) (nI m) (nI h) := by
  unfold mX4_isTied mX6_isTied
  rw [e_tiedH R hP hm, bit_e _ hh]
  split <;> rfl
theorem e_turns (R : Rv v (rowP x P)) (hP : P ≤ 200) {m h : Nat} (hm : m < 4) (hh : h < 24) : mX4_turns v (nI m) (nI h) = mX6_turns x (nI P) (nI m) (nI h) := by
  unfold mX4_turns mX6_turns
  rw [e_isTied R hP hm hh, e_blows R hP hh]
  split <;> split <;> simp_all
theorem e_stands (R : Rv v (rowP x P)) (hP : P ≤ 200) {a m k h : Nat} (ha : a < 10) (hm : m < 4) (hk : k < 2) (hh : h < 24) : mX4_stands v (nI a) (nI m) (nI k) (nI h) = if bt (x 0 (P + (68 + (8 * a + 2 * m + k)))) h then 1 else 0 := by
  unfold mX4_stands
  rw [e_st R hP ha hm hk, bit_e _ hh, jS (by omega)]
  split <;> rfl
theorem e_distance (a b : Int32) : mX5_distance a b = mX6_apart a b := by
  unfold mX5_distance mX6_apart
  rw [Int32.zero_sub, Int32.zero_sub]
  generalize (a - a / 12 * 12) - (b - b / 12 * 12) = e
  generalize (a / 12) - (b / 12) = s
  have key : ∀ p q : Int32, (if p < q then q else p) = (if p ≤ q then q else p) := by
    intro p q
    by_cases h : p < q
    · rw [if_pos h, if_pos (by rw [i_le]; rw [i_lt] at h; omega)]
    · rw [if_neg h]
      by_cases h2 : p ≤ q
      · rw [if_pos h2, i_eq]; rw [i_le] at h2; rw [i_lt] at h; omega
      · rw [if_neg h2]
  rw [key]
  split <;> split <;> rfl
theorem e_borne (R : Rv v (rowP x P)) (hP : P ≤ 200) (h : Int32) : mX4_borneNoise v h = mX6_borne x (nI P) h := by
  unfold mX4_borneNoise mX6_borne
  rw [show mX4_setting v 1 = x 0 (P + 59) from e_setting R (k := 1) (by omega), show mX4_setting v 0 = x 0 (P + 58) from e_setting R (k := 0) (by omega), show ((nI P + 58) + 1).toNatClampNeg = P + 59 from j2 58 1 (by omega), show (nI P + 58).toNatClampNeg = P + 58 from j1 58 (by omega)]
theorem e_loud (R : Rv v (rowP x P)) (hP : P ≤ 200) {m h : Nat} (hm : m < 4) (hh : h < 24) (y : Int32) : mX4_noiseIfUntied v (nI m) y (nI h) = if x 0 (((nI P + 34) + nI h)).toNatClampNeg < 2 then 0 else mX6_loud x (nI P) (nI m) y (nI h) := by
  unfold mX4_noiseIfUntied mX6_loud
  rw [e_wind R hP hh, e_myard R hP hm, e_distance]
  generalize (2 * x 0 (((nI P + 34) + nI h)).toNatClampNeg) - mX6_apart _ y = z
  have key : (if 0 < z then z else 0) = (if 0 ≤ z then z else 0) := by
    by_cases h : 0 < z
    · rw [if_pos h, if_pos (by rw [i_le]; rw [i_lt] at h; omega)]
    · rw [if_neg h]
      by_cases h2 : 0 ≤ z
      · rw [if_pos h2, i_eq]; rw [i_le] at h2; rw [i_lt] at h; omega
      · rw [if_neg h2]
  rw [key]
  by_cases hw : x 0 (((nI P + 34) + nI h)).toNatClampNeg < 2
  · rw [if_pos hw, if_neg (by rw [i_le]; rw [i_lt] at hw; omega)]
  · rw [if_neg hw, if_pos (by rw [i_le]; rw [i_lt] at hw; omega)]
end READS
