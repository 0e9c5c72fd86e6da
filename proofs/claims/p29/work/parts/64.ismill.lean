/-! P29, PURE 3: ways, noise, shadows; a mill and a yard. -/
theorem lt_g {α β : Type} {a : α} {f : α → β} {b : β} (h : ∀ z, z = a → f z = b) : lt a f = b := h a rfl
def adf (p q : Nat) : Nat := (p - q) + (q - p)
def fr (a y : Nat) : Nat := max (adf (y % 12) (a % 12)) (adf (y / 12) (a / 12))
theorem fr_le {a y : Nat} (ha : a < 96) (hy : y < 96) : fr a y ≤ 11 := by unfold fr adf; omega
theorem d12 {k : Nat} (hk : k < 96) : nI k / 12 = nI (k / 12) ∧ nI k - nI k / 12 * 12 = nI (k % 12) :=
  (show ∀ k : Fin 96, nI k.1 / 12 = nI (k.1 / 12) ∧ nI k.1 - nI k.1 / 12 * 12 = nI (k.1 % 12) by decide +kernel) ⟨k, hk⟩
theorem sz_12 {p q : Nat} (hp : p < 12) (hq : q < 12) : mL_size (nI p - nI q) = nI (adf p q) :=
  (show ∀ p q : Fin 12, mL_size (nI p.1 - nI q.1) = nI (adf p.1 q.1) by decide +kernel) ⟨p, hp⟩ ⟨q, hq⟩
theorem mx_N {A B : Nat} (hA : A < 2147483648) (hB : B < 2147483648) : (if nI A ≤ nI B then nI B else nI A) = nI (max A B) := by
  by_cases c : A ≤ B
  · rw [if_pos ((nJ_le hA hB).mpr c), Nat.max_eq_right c]
  · rw [if_neg (fun z => c ((nJ_le hA hB).mp z)), Nat.max_eq_left (by omega)]
theorem law_far {a y : Nat} (ha : a < 96) (hy : y < 96) : (if mL_size ((nI y - nI y / 12 * 12) - (nI a - nI a / 12 * 12)) ≤ mL_size ((nI y / 12) - (nI a / 12)) then mL_size ((nI y / 12) - (nI a / 12)) else mL_size ((nI y - nI y / 12 * 12) - (nI a - nI a / 12 * 12))) = nI (fr a y) := by
  rw [(d12 ha).2, (d12 hy).2, (d12 ha).1, (d12 hy).1, sz_12 (by omega) (by omega), sz_12 (by omega) (by omega), mx_N (by unfold adf; omega) (by unfold adf; omega)]; rfl
theorem far_fr {a y : Nat} (ha : a < 96) (hy : y < 96) : farN ((y % 12 : Nat) - (a % 12 : Nat) : Int) ((y / 12 : Nat) - (a / 12 : Nat) : Int) = (fr a y : Int) := by
  unfold farN fr adf; omega
theorem c_dist {a y : Nat} (ha : a < 96) (hy : y < 96) : mX5_distance (nI a) (nI y) = nI (fr a y) := by
  have h1 := far_fr ha hy
  have h2 := fr_le ha hy
  rw [e_distance, i_eq, apart_t ha hy, nI_toInt (by omega), ← h1, ← farN_neg]
  congr 1 <;> omega
def nzN (n f : Nat) : Nat := if n < 2 then 0 else 2 * n - f
theorem nz_1 {n f : Nat} (hn : n ≤ 9) (hf : f ≤ 11) : (if 2 ≤ nI n then (if 0 < ((2 * nI n) - nI f) then ((2 * nI n) - nI f) else 0) else 0) = nI (nzN n f) :=
  (show ∀ n : Fin 10, ∀ f : Fin 12, (if 2 ≤ nI n.1 then (if 0 < ((2 * nI n.1) - nI f.1) then ((2 * nI n.1) - nI f.1) else 0) else 0) = nI (nzN n.1 f.1) by decide +kernel) ⟨n, by omega⟩ ⟨f, by omega⟩
def nzV (v : Nat → Nat → Int32) (m y h : Nat) : Nat := nzN (nn (v 0 h)) (fr (nn (v 4 m)) y)
section WAY
variable {v : Nat → Nat → Int32} {M N : Nat}
theorem c_noiseU (V : VV v M N) {m y h : Nat} (hm : m < 4) (hy : y < 96) (hh : h < 24) : mX4_noiseIfUntied v (nI m) (nI y) (nI h) = nI (nzV v m y h) := by
  have h1 := fr_le (V.my9 hm) hy
  unfold mX4_noiseIfUntied nzV
  rw [c_wind v hh, at_in _ hm (by omega), V.my hm, c_dist (by have := V.my9 hm; omega) hy, nn_nI (by have := V.my9 hm; omega)]
  have e := V.wi hh
  have h9 := V.wi9 hh
  generalize nn (v 0 h) = w at e h9
  rw [e]
  exact nz_1 h9 h1
theorem c_noise (V : VV v M N) {m y h : Nat} (hm : m < M) (hy : y < 96) (hh : h < 24) : mX5_noise v (nI m) (nI y) (nI h) = if bt (v 5 m) h then 0 else nI (nzV v m y h) := by
  have := V.M4
  unfold mX5_noise mX4_noiseIn
  rw [if_neg (hm_1 V hm), if_neg (yd_1 hy), if_neg (hr_1 hh), c_isTied v (by omega) hh, c_noiseU V (by omega) hy hh]
  cases bt (v 5 m) h <;> rfl
def tuV (v : Nat → Nat → Int32) (m h : Nat) : Bool := !(bt (v 5 m) h) && decide (2 ≤ nn (v 0 h))
theorem c_tu (V : VV v M N) {m h : Nat} (hm : m < 4) (hh : h < 24) : mX4_turns v (nI m) (nI h) = if tuV v m h then 1 else 0 := by
  rw [c_turns v hm hh]
  unfold tuV
  by_cases c : v 0 h < 2
  · rw [if_pos c, decide_eq_false (by have := (w_lt2 V hh).mp c; omega)]; cases bt (v 5 m) h <;> rfl
  · rw [if_neg c, decide_eq_true (by have : ¬ nn (v 0 h) ≤ 1 := fun z => c ((w_lt2 V hh).mpr z); omega)]; cases bt (v 5 m) h <;> rfl
def shP (v : Nat → Nat → Int32) (m y h : Nat) : Prop := onRay ((y % 12 : Nat) : Int) ((y / 12 : Nat) : Int) (dxN h) (dyN h) (lenN (nn (v 3 m)) h) ((nn (v 4 m) % 12 : Nat) : Int) ((nn (v 4 m) / 12 : Nat) : Int)
theorem d_there {a b y h : Nat} (ha : a < 96) (hb : b ≤ 5) (hy : y < 96) (hh : h < 24) : dec (mX2_liesThere (nI a) (nI b) (nI y) (nI h)) (onRay ((y % 12 : Nat) : Int) ((y / 12 : Nat) : Int) (dxN h) (dyN h) (lenN b h) ((a % 12 : Nat) : Int) ((a / 12 : Nat) : Int)) := by
  obtain ⟨x, hx⟩ : ∃ x : Nat → Nat → Int32, x = fun _ i => if i = 2 then nI a else nI b := ⟨_, rfl⟩
  have e1 : x 0 ((((nI 0 + 1) + (3 * nI 0)) + 1)).toNatClampNeg = nI a := by
    rw [hx, show ((((nI 0 + 1) + (3 * nI 0)) + 1)).toNatClampNeg = 2 by decide +kernel]; rfl
  have e0 : x 0 ((((nI 0 + 1) + (3 * nI 0)) + 0)).toNatClampNeg = nI b := by
    rw [hx, show ((((nI 0 + 1) + (3 * nI 0)) + 0)).toNatClampNeg = 1 by decide +kernel]; rfl
  rw [liesThere_eq hh e1 (by rw [e_reach hh hb e0, (e_len0 hb hh).1])]
  exact d_lies ha hb hy hh e1 e0
theorem c_met (V : VV v M N) {m y h : Nat} (hm : m < 4) (hy : y < 96) (hh : h < 24) : dec (mX2_isMetOnTheWalk (mX5_at 4 (v 4) (nI m)) (mX5_at 4 (v 3) (nI m)) (nI y) (nI h)) (shP v m y h) := by
  have := d_met (V.my9 hm) (V.he5 hm) hy hh
  rw [at_in _ hm (by omega), at_in _ hm (by omega), V.my hm, V.he hm]
  unfold shP
  exact this
theorem c_there (V : VV v M N) {m y h : Nat} (hm : m < 4) (hy : y < 96) (hh : h < 24) : dec (mX2_liesThere (mX5_at 4 (v 4) (nI m)) (mX5_at 4 (v 3) (nI m)) (nI y) (nI h)) (shP v m y h) := by
  have := d_there (V.my9 hm) (V.he5 hm) hy hh
  rw [at_in _ hm (by omega), at_in _ hm (by omega), V.my hm, V.he hm]
  unfold shP
  exact this
theorem dec_01 {r : Int32} {L : Prop} (h : dec r L) : (if r = 0 then (0 : Int32) else 1) = r := by
  rcases h with ⟨rfl, _⟩ | ⟨rfl, _⟩ <;> rfl
theorem c_sh0 (V : VV v M N) {m y h : Nat} (hm : m < M) (hy : y < 96) (hh : h < 24) : dec (mX5_shadow v (nI m) (nI y) (nI h) 0) (shP v m y h) := by
  have := V.M4
  have d := c_met V (m := m) (by omega) hy hh
  unfold mX5_shadow
  rw [if_neg (hm_1 V hm), if_neg (yd_1 hy), if_neg (hr_1 hh), if_pos rfl, dec_01 d]
  exact d
theorem c_sh1 (V : VV v M N) {m y h : Nat} (hm : m < M) (hy : y < 96) (hh : h < 24) : dec (mX5_shadow v (nI m) (nI y) (nI h) 1) (shP v m y h) := by
  have := V.M4
  have d := c_there V (m := m) (by omega) hy hh
  unfold mX5_shadow
  rw [if_neg (hm_1 V hm), if_neg (yd_1 hy), if_neg (hr_1 hh), if_neg (by decide), if_pos rfl, dec_01 d]
  exact d
end WAY
theorem law_len {b h : Nat} (hb : b ≤ 5) (h6 : 6 ≤ h) (h18 : h ≤ 18) : ((nI b * mL_size (nI h - 12)) + 1) / 2 = nI (lenN b h) :=
  (show ∀ b : Fin 6, ∀ h : Fin 19, 6 ≤ h.1 → ((nI b.1 * mL_size (nI h.1 - 12)) + 1) / 2 = nI (lenN b.1 h.1) by decide +kernel) ⟨b, by omega⟩ ⟨h, by omega⟩ h6
theorem law_dx {h : Nat} (hh : h < 24) : (if 12 ≤ nI h then (if nI h ≤ 12 then (0 : Int32) else 1) else (-1)).toInt = dxN h ∧ (if nI h ≤ 9 then (0 : Int32) else (if 15 ≤ nI h then 0 else (-1))).toInt = dyN h :=
  (show ∀ h : Fin 24, (if 12 ≤ nI h.1 then (if nI h.1 ≤ 12 then (0 : Int32) else 1) else (-1)).toInt = dxN h.1 ∧ (if nI h.1 ≤ 9 then (0 : Int32) else (if 15 ≤ nI h.1 then 0 else (-1))).toInt = dyN h.1 by decide +kernel) ⟨h, hh⟩
theorem law_in {a b y h : Nat} (ha : a < 96) (hb : b ≤ 5) (hy : y < 96) (hh : h < 24) {e s : Int32} (he : e.toInt = ((y % 12 : Nat) : Int) - ((a % 12 : Nat) : Int)) (hs : s.toInt = ((y / 12 : Nat) : Int) - ((a / 12 : Nat) : Int)) : dec (if nI h ≤ 5 then 0 else (if 19 ≤ nI h then 0 else (if nI (fr a y) ≤ 0 then 0 else (if (((nI b * mL_size (nI h - 12)) + 1) / 2) < nI (fr a y) then 0 else (if e = ((if 12 ≤ nI h then (if nI h ≤ 12 then 0 else 1) else (-1)) * nI (fr a y)) then (if s = ((if nI h ≤ 9 then 0 else (if 15 ≤ nI h then 0 else (-1))) * nI (fr a y)) then 1 else 0) else 0))))) (onRay ((y % 12 : Nat) : Int) ((y / 12 : Nat) : Int) (dxN h) (dyN h) (lenN b h) ((a % 12 : Nat) : Int) ((a / 12 : Nat) : Int)) := by
  have k0 : (0 : Int32).toInt = 0 := rfl
  have k5 : (5 : Int32).toInt = 5 := rfl
  have k19 : (19 : Int32).toInt = 19 := rfl
  have eh : (nI h).toInt = h := nI_toInt (by omega)
  have hf := far_fr ha hy
  have hfl := fr_le ha hy
  have ef : (nI (fr a y)).toInt = fr a y := nI_toInt (by omega)
  have miss : ¬ (6 ≤ h ∧ h ≤ 18) → ¬ onRay ((y % 12 : Nat) : Int) ((y / 12 : Nat) : Int) (dxN h) (dyN h) (lenN b h) ((a % 12 : Nat) : Int) ((a / 12 : Nat) : Int) := fun z => by rw [len_sun z]; exact ray_0
  by_cases c5 : nI h ≤ 5
  · rw [if_pos c5]; rw [i_le, eh, k5] at c5
    exact Or.inr ⟨rfl, miss (by omega)⟩
  rw [if_neg c5]
  by_cases c19 : 19 ≤ nI h
  · rw [if_pos c19]; rw [i_le, eh, k19] at c19
    exact Or.inr ⟨rfl, miss (by omega)⟩
  rw [if_neg c19]
  rw [i_le, eh, k5] at c5
  rw [i_le, eh, k19] at c19
  have hsun : 6 ≤ h ∧ h ≤ 18 := by omega
  have key := lies_ray (dir_h hsun) (e := ((y % 12 : Nat) : Int) - ((a % 12 : Nat) : Int)) (s := ((y / 12 : Nat) : Int) - ((a / 12 : Nat) : Int)) (n := lenN b h) (px := ((a % 12 : Nat) : Int)) (py := ((a / 12 : Nat) : Int)) (X := ((y % 12 : Nat) : Int)) (Y := ((y / 12 : Nat) : Int)) rfl rfl
  rw [hf] at key
  have hl := (e_len0 hb hh).2
  have el : (nI (lenN b h)).toInt = lenN b h := nI_toInt (by omega)
  have b1 : -1 ≤ dxN h ∧ dxN h ≤ 1 := by unfold dxN; split <;> (try split) <;> omega
  have b2 : -1 ≤ dyN h ∧ dyN h ≤ 1 := by unfold dyN; split <;> omega
  have fx : -12 < dxN h * (fr a y : Int) ∧ dxN h * (fr a y : Int) < 12 := by
    rcases (show dxN h = -1 ∨ dxN h = 0 ∨ dxN h = 1 by omega) with z | z | z <;> rw [z] <;> omega
  have fy : -12 < dyN h * (fr a y : Int) ∧ dyN h * (fr a y : Int) < 12 := by
    rcases (show dyN h = -1 ∨ dyN h = 0 ∨ dyN h = 1 by omega) with z | z | z <;> rw [z] <;> omega
  have m1 := ti_mul (law_dx hh).1 ef (by omega)
  have m2 := ti_mul (law_dx hh).2 ef (by omega)
  rw [law_len hb hsun.1 hsun.2]
  by_cases c1 : nI (fr a y) ≤ 0
  · rw [if_pos c1]; rw [i_le, ef, k0] at c1
    exact Or.inr ⟨rfl, fun z => (key.mpr z).1 c1⟩
  rw [if_neg c1]; rw [i_le, ef, k0] at c1
  by_cases c2 : nI (lenN b h) < nI (fr a y)
  · rw [if_pos c2]; rw [i_lt, ef, el] at c2
    exact Or.inr ⟨rfl, fun z => (key.mpr z).2.1 c2⟩
  rw [if_neg c2]; rw [i_lt, ef, el] at c2
  revert m1 m2
  generalize (if 12 ≤ nI h then (if nI h ≤ 12 then (0 : Int32) else 1) else (-1)) * nI (fr a y) = X1
  generalize (if nI h ≤ 9 then (0 : Int32) else (if 15 ≤ nI h then 0 else (-1))) * nI (fr a y) = X2
  intro m1 m2
  rw [Int.mul_comm] at m1 m2
  by_cases c3 : e = X1
  · rw [if_pos c3]; rw [i_eq, he, m1] at c3
    by_cases c4 : s = X2
    · rw [if_pos c4]; rw [i_eq, hs, m2] at c4
      exact Or.inl ⟨rfl, key.mp ⟨c1, c2, c3, c4⟩⟩
    · rw [if_neg c4]; rw [i_eq, hs, m2] at c4
      exact Or.inr ⟨rfl, fun z => c4 (key.mpr z).2.2.2⟩
  · rw [if_neg c3]; rw [i_eq, he, m1] at c3
    exact Or.inr ⟨rfl, fun z => c3 (key.mpr z).2.2.1⟩
section IM
variable {xx : Nat → Nat → Nat → Int32} {M N : Nat}
theorem l85 (V : VV (xx 0) M N) (hw : ∀ h, h < 24 → xx 10 0 h = xx 0 0 h) {m y : Nat} (hm : m < M) (hy : y < 96) {e s : Int32} (he : e.toInt = ((y % 12 : Nat) : Int) - ((nn (xx 0 4 m) % 12 : Nat) : Int)) (hs : s.toInt = ((y / 12 : Nat) : Int) - ((nn (xx 0 4 m) / 12 : Nat) : Int)) (C : Int32 → Int32 → Int32 → Int32) : ∀ (n k : Nat) (g t : Int32), k + n ≤ 24 → mL_isMill_85 xx (nI m) (nI y) (xx 0 5 m) (xx 0 3 m) e s (nI (fr (nn (xx 0 4 m)) y)) C n (nI k) g t = C (nI (k + n)) (mX4_grainOf_4 (xx 0) (nI m) (fun _ z => z) n (nI k) g) (mX4_turningHours_4 (xx 0) (nI m) (fun _ z => z) n (nI k) t)
  | 0, k, g, t, _ => by rw [mL_isMill_85, mX4_grainOf_4, mX4_turningHours_4]; rfl
  | n + 1, k, g, t, h => by
    have hM := V.M4
    have hk : k < 24 := by omega
    have hm4 : m < 4 := by omega
    have hin := law_in (V.my9 hm4) (V.he5 hm4) hy hk he hs
    rw [← V.he hm4] at hin
    have hfl := fr_le (V.my9 hm4) hy
    have ew : xx 10 0 (nI k).toNatClampNeg = xx 0 0 k := by rw [nI_cl (by omega), hw k hk]
    have e1 : (if (if bt (xx 0 5 m) k then (1 : Int32) else 0) = 0 then (if xx 0 0 k ≤ 1 then (0 : Int32) else 1) else 0) = if tuV (xx 0) m k then 1 else 0 := by
      unfold tuV
      have := V.wi9 hk
      have e := V.wi hk
      generalize nn (xx 0 0 k) = w at e this
      rw [e, show (1 : Int32) = nI 1 from rfl]
      by_cases c : w ≤ 1
      · rw [if_pos ((nJ_le (by omega) (by omega)).mpr c), decide_eq_false (by omega)]; cases bt (xx 0 5 m) k <;> rfl
      · rw [if_neg (fun z => c ((nJ_le (by omega) (by omega)).mp z)), decide_eq_true (by omega)]; cases bt (xx 0 5 m) k <;> rfl
    have e2 : (if (if tuV (xx 0) m k then (1 : Int32) else 0) = 0 then 0 else (if (2 * xx 0 0 k) ≤ nI (fr (nn (xx 0 4 m)) y) then 0 else ((2 * xx 0 0 k) - nI (fr (nn (xx 0 4 m)) y)))) = if bt (xx 0 5 m) k then 0 else nI (nzV (xx 0) m y k) := by
      unfold tuV nzV nzN
      have := V.wi9 hk
      have e := V.wi hk
      generalize nn (xx 0 0 k) = w at e this
      generalize fr (nn (xx 0 4 m)) y = f at hfl
      rw [e, show (2 : Int32) = nI 2 from rfl, nI_mul]
      cases bt (xx 0 5 m) k
      · by_cases c : w < 2
        · rw [decide_eq_false (by omega), if_pos c]; rfl
        · rw [decide_eq_true (by omega), if_neg c]
          show (if nI (2 * w) ≤ nI f then 0 else nI (2 * w) - nI f) = nI (2 * w - f)
          by_cases c2 : 2 * w ≤ f
          · rw [if_pos ((nJ_le (by omega) (by omega)).mpr c2), show 2 * w - f = 0 by omega]; rfl
          · rw [if_neg (fun z => c2 ((nJ_le (by omega) (by omega)).mp z)), nI_sub (by omega) (by omega)]
      · rfl
    have s0 := c_sh0 V hm hy hk
    have s1 := c_sh1 V hm hy hk
    rw [mL_isMill_85, ew]
    rw [c_has _ hk]
    refine lt_v ?_
    rw [e1]
    refine lt_v ?_
    rw [e2]
    refine lt_v ?_
    refine lt_v ?_
    refine lt_v ?_
    refine lt_v ?_
    refine lt_g (fun I hI => ?_)
    rw [← hI] at hin
    have q0 : mX5_shadow (xx 0) (nI m) (nI y) (nI k) 0 = I := dec_eq s0 hin
    have q1 : mX5_shadow (xx 0) (nI m) (nI y) (nI k) 1 = I := dec_eq s1 hin
    rw [c_noise V hm hy hk]
    refine lt_v ?_
    rw [if_pos rfl, q0]
    refine lt_v ?_
    rw [dec_01 hin]
    refine lt_v ?_
    rw [if_pos rfl, q1]
    refine lt_v ?_
    refine lt_v ?_
    rw [if_pos rfl]
    refine lt_v ?_
    refine lt_v ?_
    refine lt_v ?_
    refine lt_v ?_
    rw [nI_s, l85 V hw hm hy he hs C n (k + 1) _ _ (by omega), mX4_grainOf_4, mX4_turningHours_4, c_tu V hm4 hk, c_wind _ hk, nI_s, show k + 1 + n = k + (n + 1) by omega]
    cases tuV (xx 0) m k
    · show C _ (mX4_grainOf_4 (xx 0) (nI m) (fun _ z => z) n (nI (k + 1)) (g + 0)) (mX4_turningHours_4 (xx 0) (nI m) (fun _ z => z) n (nI (k + 1)) (t ||| 0)) = _
      rw [Int32.add_zero, Int32.or_zero]; rfl
    · rfl
theorem dist_mm (hd : ∀ m j, m < M → j < M → m ≠ j → xx 0 4 m ≠ xx 0 4 j) (V : VV (xx 0) M N) {m : Nat} (hm : m < M) : ∀ (n k : Nat), k + n = M → k ≤ m → mX4_firstWith_2 4 (xx 0 4) (xx 0 4 m) (fun _ => -5) n (nI k) = nI m
  | 0, k, h, h2 => by omega
  | n + 1, k, h, h2 => by
    have := V.M4
    rw [mX4_firstWith_2, at_in _ (by omega) (by omega)]
    by_cases c : k = m
    · subst c; rw [if_pos rfl]
    · rw [if_neg (hd k m (by omega) hm c), nI_s, dist_mm hd V hm n (k + 1) (by omega) (by omega)]
theorem no_with {f : Nat → Int32} {B : Nat} (hB : B < 2147483648) {y : Int32} : ∀ (n k : Nat), k + n ≤ B → (∀ i, k ≤ i → i < k + n → f i ≠ y) → mX4_firstWith_2 B f y (fun _ => -5) n (nI k) = -5
  | 0, k, h, h2 => rfl
  | n + 1, k, h, h2 => by
    rw [mX4_firstWith_2, at_in _ (by omega) hB, if_neg (h2 k (by omega) (by omega)), nI_s, no_with hB n (k + 1) (by omega) (fun i h3 h4 => h2 i (by omega) (by omega))]
theorem c_millAt_m (hd : ∀ m j, m < M → j < M → m ≠ j → xx 0 4 m ≠ xx 0 4 j) (V : VV (xx 0) M N) {m : Nat} (hm : m < M) : mX4_millAt (xx 0) (xx 0 4 m) = nI m := by
  have := V.M4
  unfold mX4_millAt mX4_firstWith
  rw [V.eM, tr_0 (by omega)]
  exact dist_mm hd V hm M 0 (by omega) (by omega)
theorem c_houseAt_0 (V : VV (xx 0) M N) {y : Int32} (h : ∀ a, a < N → xx 0 6 a ≠ y) : mX4_houseAt (xx 0) y = -5 := by
  have := V.N10
  unfold mX4_houseAt mX4_firstWith
  rw [V.eN, tr_0 (by omega)]
  exact no_with (by omega) N 0 (by omega) (fun i _ h4 => h i (by omega))
theorem c_millAt_0 (V : VV (xx 0) M N) {y : Int32} (h : ∀ a, a < M → xx 0 4 a ≠ y) : mX4_millAt (xx 0) y = -5 := by
  have := V.M4
  unfold mX4_millAt mX4_firstWith
  rw [V.eM, tr_0 (by omega)]
  exact no_with (by omega) M 0 (by omega) (fun i _ h4 => h i (by omega))
theorem p_isMill (V : VV (xx 0) M N) (hw : ∀ h, h < 24 → xx 10 0 h = xx 0 0 h) (hH : ∀ m, m < M → 1 ≤ nn (xx 0 3 m)) (hmm : ∀ m j, m < M → j < M → m ≠ j → xx 0 4 m ≠ xx 0 4 j) (hmh : ∀ m a, m < M → a < N → xx 0 4 m ≠ xx 0 6 a) {m y : Nat} (hm : m < M) (hy : y < 96) : mL_isMill xx (nI m) (nI y) = 1 := by
  have hM := V.M4
  have hm4 : m < 4 := by omega
  have ha := V.my9 hm4
  have k12 : (12 : Int32).toInt = 12 := rfl
  unfold mL_isMill
  rw [mo_2 V hm]
  refine lt_v ?_
  rw [mo_1 V hm]
  refine lt_v ?_
  rw [mo_0 V hm]
  refine lt_v ?_
  have E1 : ((nI y - nI y / 12 * 12) - (xx 0 4 m - xx 0 4 m / 12 * 12)).toInt = ((y % 12 : Nat) : Int) - ((nn (xx 0 4 m) % 12 : Nat) : Int) := by
    conv => lhs; rw [V.my hm4]
    rw [(d12 hy).2, (d12 ha).2, ti_sub (nI_toInt (by omega)) (nI_toInt (by omega)) (by omega)]
  have E2 : ((nI y / 12) - (xx 0 4 m / 12)).toInt = ((y / 12 : Nat) : Int) - ((nn (xx 0 4 m) / 12 : Nat) : Int) := by
    conv => lhs; rw [V.my hm4]
    rw [(d12 hy).1, (d12 ha).1, ti_sub (nI_toInt (by omega)) (nI_toInt (by omega)) (by omega)]
  have E3 : (if mL_size ((nI y - nI y / 12 * 12) - (xx 0 4 m - xx 0 4 m / 12 * 12)) ≤ mL_size ((nI y / 12) - (xx 0 4 m / 12)) then mL_size ((nI y / 12) - (xx 0 4 m / 12)) else mL_size ((nI y - nI y / 12 * 12) - (xx 0 4 m - xx 0 4 m / 12 * 12))) = nI (fr (nn (xx 0 4 m)) y) := by
    have := law_far ha hy
    rw [← V.my hm4] at this
    exact this
  refine lt_g (fun e he => ?_)
  refine lt_g (fun s hs => ?_)
  rw [← he] at E1 E3
  rw [← hs] at E2 E3
  refine lt_v ?_
  refine lt_v ?_
  rw [E3]
  refine lt_v ?_
  rw [tr_24, show (0 : Int32) = nI 0 from rfl, l85 V hw hm hy E1 E2 _ 24 0 _ _ (by omega)]
  rw [show mX5_millOf (xx 0) (nI m) 3 = _ from mo_3 V hm]
  refine lt_v ?_
  rw [if_pos (show mX4_turningHours (xx 0) (nI m) = mX4_turningHours_4 (xx 0) (nI m) (fun _ z => z) 24 (nI 0) (nI 0) by unfold mX4_turningHours; rw [tr_24]; rfl), show mX5_millOf (xx 0) (nI m) 4 = _ from mo_4 V hm]
  refine lt_v ?_
  rw [if_pos (show mX4_grainOf (xx 0) (nI m) = mX4_grainOf_4 (xx 0) (nI m) (fun _ z => z) 24 (nI 0) (nI 0) by unfold mX4_grainOf; rw [tr_24]; rfl)]
  have hya : ¬ mX5_isYard (xx 0 4 m) = 0 := by rw [V.my hm4]; exact yd_1 ha
  have y0 : mX5_yardOf (xx 0) (xx 0 4 m) (nI 0) = nI m := by
    unfold mX5_yardOf
    rw [if_neg hya, if_pos (show nI 0 = 0 from rfl), c_millAt_m hmm V hm]
  have y1 : mX5_yardOf (xx 0) (xx 0 4 m) 1 = -5 := by
    unfold mX5_yardOf
    rw [if_neg hya, if_neg (by decide), if_pos rfl, c_houseAt_0 V (fun a h => fun z => hmh m a hm h z.symm)]
  rw [y0]
  refine lt_v ?_
  rw [if_pos rfl, y1]
  refine lt_v ?_
  have h5 := V.he5 hm4
  have h1 := hH m hm
  rw [if_pos rfl, V.he hm4, if_neg (by rw [nJ_le (by omega) (by omega)]; omega), if_neg (by rw [show (6 : Int32) = nI 6 from rfl, nJ_le (by omega) (by omega)]; omega)]
end IM
