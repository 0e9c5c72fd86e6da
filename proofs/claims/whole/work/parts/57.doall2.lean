/-! PURE 18: texts that are done, in both. -/
section DO
variable {t y v : Nat → Nat → Int32} {L : Nat}
theorem c_dig (T : TL t y L) {i : Nat} (h : i < L) : mX3_digitAt t (nI i) = y 3 i - 48 := by
  unfold mX3_digitAt; rw [c_sign T h]
theorem e_yard (T : TL t y L) {k : Nat} (h1 : Dg y L k 97 108) (h2 : Dg y L (k + 1) 48 57) : mX3_yardAt t (nI k) = mX6_yardIn y (nI k) := by
  unfold mX3_yardAt mX6_yardIn
  rw [nI_s, c_dig T h2.1, c_sign T h1.1, m_dig_t T h2, lt, m_sign_in T h1.1, lt]
theorem HR_un {p k j : Nat} (h : HRc y L p k) (h2 : HRc y L p j) : k = j := by
  obtain ⟨-, h | h⟩ := h <;> obtain ⟨-, g | g⟩ := h2
  · omega
  · exact absurd g.2 h.2
  · exact absurd h.2 g.2
  · omega
theorem t10 (a : Int32) : (10 : Int32) * 0 + a = a := by rw [show (10 : Int32) * 0 = 0 from by decide, Int32.zero_add]
theorem hour_v (T : TL t y L) {p k : Nat} (hp : p < 900) (h : HRc y L p k) : ∃ n, n < 24 ∧ mX3_numberAt t (nI p) (nI k) = nI n ∧ mX6_hourIn y (nI p) = nI n := by
  have f1 : (48 : Int32).toInt = 48 := rfl
  have f2 : (57 : Int32).toInt = 57 := rfl
  have f3 : (49 : Int32).toInt = 49 := rfl
  have f4 : (50 : Int32).toInt = 50 := rfl
  have f5 : (51 : Int32).toInt = 51 := rfl
  obtain ⟨k', hk1, hk2⟩ := (m_hE T hp).1 h.1
  obtain rfl := HR_un h hk1
  have d0 := h.1
  have gd := d_sub (c := y 3 p) ⟨by have := d0.2.1; omega, by have := d0.2.2; omega⟩
  have b1 := d0.2.1
  have b2 := d0.2.2
  unfold mX3_numberAt mX6_hourIn
  rw [hk2, lt, nI_s]
  rcases h.2 with ⟨rfl, z⟩ | ⟨rfl, z⟩
  · obtain ⟨n, hn, en⟩ := of_rng (i := y 3 p - 48) (n := 10) (by omega) (by omega)
    refine ⟨n, by omega, ?_, ?_⟩
    · rw [tr_nI (by omega) (by omega), show p + 1 - p = 1 by omega, mX3_numberAt_5, mX3_numberAt_5, c_dig T d0.1, t10, en]
    · rw [if_pos rfl, m_dig_t T d0, lt, en]
  · have d1 : Dg y L (p + 1) 48 57 := by
      rcases z with z | z
      · exact z.2
      · exact Dg_48 z.2 (by omega) (by omega)
    have gd1 := d_sub (c := y 3 (p + 1)) ⟨by have := d1.2.1; omega, by have := d1.2.2; omega⟩
    have k1 := d1.2.1
    have k2 := d1.2.2
    have hs : ((10 * (y 3 p - 48)) + (y 3 (p + 1) - 48)).toInt = 10 * ((y 3 p).toInt - 48) + ((y 3 (p + 1)).toInt - 48) := ti_add (ti_mul (show (10 : Int32).toInt = 10 from rfl) gd (by omega)) gd1 (by omega)
    have rg : 10 * ((y 3 p).toInt - 48) + ((y 3 (p + 1)).toInt - 48) < 24 := by
      rcases z with z | z
      · have := z.1.2.2; omega
      · have := z.1.2.2; have := z.2.2.2; omega
    obtain ⟨n, hn, en⟩ := of_rng (i := (10 * (y 3 p - 48)) + (y 3 (p + 1) - 48)) (n := 24) (by omega) (by omega)
    refine ⟨n, hn, ?_, ?_⟩
    · rw [tr_nI (by omega) (by omega), show p + 2 - p = 2 by omega, mX3_numberAt_5, mX3_numberAt_5, mX3_numberAt_5, c_dig T d0.1, t10, nI_s, c_dig T d1.1, en]
    · rw [if_neg (by rw [nJ_eq (by omega) (by omega)]; omega), m_dig_t T d0, lt, m_dig_t T d1, lt, en]
/-- a part that is done, in both -/
def DR (y : Nat → Nat → Int32) (p d : Int32 × (Nat → Nat → Int32)) : Prop := ((p.1 = -1 ∨ p.1 = -4 ∨ p.1 = -3) ∧ d.1 = p.1 ∧ low 148 y d.2) ∨ ((¬ p.1 = -1 ∧ ¬ p.1 = -4 ∧ ¬ p.1 = -3) ∧ 0 ≤ d.1 ∧ Rv p.2 (rowP d.2 148) ∧ okR (rowP d.2 148) ∧ low 148 y d.2)
theorem DR_ok {p d : Int32 × (Nat → Nat → Int32)} (h1 : 0 ≤ p.1.toInt ∨ p.1.toInt ≤ -5) (h2 : 0 ≤ d.1) (R : Rv p.2 (rowP d.2 148)) (ok : okR (rowP d.2 148)) (l : low 148 y d.2) : DR y p d := by
  have e1 : (-1 : Int32).toInt = -1 := rfl
  have e3 : (-3 : Int32).toInt = -3 := rfl
  have e4 : (-4 : Int32).toInt = -4 := rfl
  exact Or.inr ⟨⟨fun z => by rw [z] at h1; omega, fun z => by rw [z] at h1; omega, fun z => by rw [z] at h1; omega⟩, h2, R, ok, l⟩
theorem DR_sp {B : Int → Prop} {p d : Int32 × (Nat → Nat → Int32)} (s : SP 148 y v B p d) (hB : ∀ z, B z → 0 ≤ z ∨ z = -1 ∨ z = -3 ∨ z = -4) : DR y p d := by
  obtain ⟨s1, s2, s3, s4, s5, s6⟩ := s
  rcases hB _ s6 with z | z | z | z
  · exact DR_ok (Or.inl z) (by rw [← s1, i_le]; exact z) s2 s3 s4
  · exact Or.inl ⟨Or.inl (i_eq.mpr z), s1.symm, s4⟩
  · exact Or.inl ⟨Or.inr (Or.inr (i_eq.mpr z)), s1.symm, s4⟩
  · exact Or.inl ⟨Or.inr (Or.inl (i_eq.mpr z)), s1.symm, s4⟩
theorem wrong_12 {n h : Nat} (hn : n < 2) (hh : h < 24) (pp a m : Int32) : mX6_wrong y pp a m (nI n) (nI h) = -1 ∨ mX6_wrong y pp a m (nI n) (nI h) = 0 := by
  have y1 : ¬ mX6_isHour (nI h) = 0 := by
    unfold mX6_isHour
    rw [show (0 : Int32) = nI 0 from rfl, show (23 : Int32) = nI 23 from rfl, nJ_in (by omega) (by omega) (by omega), if_pos (by omega)]; decide
  unfold mX6_wrong
  rw [if_neg y1, right_1 y1 hn, if_neg (show ¬ (1 : Int32) = 0 by decide)]
  repeat' split
  all_goals simp
theorem DR_lodge (R : Rv v (rowP y 148)) (ok : okR (rowP y 148)) {a m : Int32} {n h : Nat} (hn : n < 2) (hh : h < 24) : DR y (mX5_lodge v a m (nI n) (nI h)) (if 0 ≤ mX6_wrong y (nI 148) a m (nI n) (nI h) then (lt (mX6_complains y (nI 148) a m (nI n) (nI h)) (fun q_17 => ((mX6_wrong y (nI 148) a m (nI n) (nI h)), q_17.2))) else ((mX6_wrong y (nI 148) a m (nI n) (nI h)), y)) := by
  rcases wrong_12 (y := y) hn hh (nI 148) a m with z | z
  · have c : ¬ 0 ≤ mX6_wrong y (nI 148) a m (nI n) (nI h) := by rw [z]; decide
    have er : mX4_reasonAgainst v a m (nI n) (nI h) = mX6_wrong y (nI 148) a m (nI n) (nI h) := by
      rw [e_why R ok (by omega), whyP]; exact if_neg c
    have el : mX5_lodge v a m (nI n) (nI h) = (mX6_wrong y (nI 148) a m (nI n) (nI h), v) := by
      unfold mX5_lodge; rw [er, if_neg c]
    rw [el, if_neg c, z]
    exact Or.inl ⟨Or.inl rfl, rfl, low_r 148 y⟩
  · have c : 0 ≤ mX6_wrong y (nI 148) a m (nI n) (nI h) := by rw [z]; decide
    have s := s_lodge R ok (show 148 ≤ 200 by omega) c
    rw [if_pos c, z, lt]
    obtain ⟨s1, s2, s3, s4, s5, s6⟩ := s
    unfold bL at s6
    exact DR_ok (by omega) (show (0 : Int32) ≤ 0 by decide) s2 s3 s4
theorem eta2 {α β : Type} (p : α × β) : (p.1, p.2) = p := rfl
theorem does_rel (T : TL t y L) (R : Rv v (rowP y 148)) (ok : okR (rowP y 148)) {i j : Nat} (ps : PS y L i j) : DR y (mX5_doPart v t (nI i) (nI j)) (mX6_does y (nI i)) := by
  have hL := T.1
  obtain ⟨hi, hj, ps⟩ := ps
  have f1 : (48 : Int32).toInt = 48 := rfl
  have f2 : (57 : Int32).toInt = 57 := rfl
  have f3 : (49 : Int32).toInt = 49 := rfl
  have f5 : (53 : Int32).toInt = 53 := rfl
  have a1 : nI i + 1 = nI (i + 1) := nI_add i 1
  have a2 : nI i + 2 = nI (i + 2) := nI_add i 2
  have a3 : nI i + 3 = nI (i + 3) := nI_add i 3
  have a4 : nI i + 4 = nI (i + 4) := nI_add i 4
  have e148 : (148 : Int32) = nI 148 := rfl
  unfold mX5_doPart mX6_does
  rw [c_sign T hi, m_sign_in T hi, lt_b (y 3 i), a1, a2, a3, a4]
  rcases ps with ⟨c, d1, d2, d3, d4, e⟩ | ⟨c, d1, d2, d3, e⟩ | ⟨c, k, d0, d1, d2, e⟩ | ⟨c, d1, d2, d3, d4⟩
  · rw [if_neg (show ¬ y 3 i = 104 by rw [c]; decide), if_pos c, if_neg (show ¬ y 3 i = 104 by rw [c]; decide), if_pos c]
    have g1 := Dg_48 d1 (by omega) (by omega)
    rw [m_dig_t T g1, lt_b (y 3 (i + 1) - 48), c_dig T d1.1, ← e_yard T d3 (Dg_48 d4 (by decide) (by decide)), lt_b (mX3_yardAt _ _), e148, lt_b (mX5_bringMill _ _ _), lt_b (mX6_millComes _ _ _ _), eta2, eta2]
    refine DR_sp (s_mill R ok (by omega) _ _) (fun z hz => ?_)
    have gd := d_sub (c := y 3 (i + 1)) ⟨by have := d1.2.1; omega, by have := d1.2.2; omega⟩
    have := d1.2.1
    have := d1.2.2
    unfold bM at hz
    omega
  · rw [if_pos c, if_pos c, ← e_yard T d2 (Dg_48 d3 (by decide) (by decide)), lt_b (mX3_yardAt _ _), e148, lt_b (mX5_bringHouse _ _), lt_b (mX6_houseComes _ _ _), eta2, eta2]
    refine DR_sp (s_house R ok (by omega) _) (fun z hz => ?_)
    unfold bH at hz
    omega
  · rw [if_neg (show ¬ y 3 i = 104 by rw [c]; decide), if_neg (show ¬ y 3 i = 109 by rw [c]; decide), if_pos c, if_neg (show ¬ y 3 i = 104 by rw [c]; decide), if_neg (show ¬ y 3 i = 109 by rw [c]; decide), if_pos c]
    have hk := HR_le d0
    obtain ⟨n, hn, h1, h2⟩ := hour_v T (by omega) d0
    obtain ⟨k', k1, k2⟩ := (m_hE T (p := i + 1) (by omega)).1 d0.1
    obtain rfl := HR_un d0 k1
    have s2 : nI j - 2 = nI k := by rw [e]; exact (nI_sub (b := 2) (by omega) (by omega))
    have s1 : nI j - 1 = nI (k + 1) := by rw [e, show k + 1 = k + 2 - 1 by omega]; exact nI_sub (b := 1) (by omega) (by omega)
    have gd := d_sub (c := y 3 (k + 1)) ⟨by have := d2.2.1; omega, by have := d2.2.2; omega⟩
    have b1 := d2.2.1
    have b2 := d2.2.2
    obtain ⟨w, hw, ew⟩ := of_rng (i := y 3 (k + 1) - 48) (n := 10) (by omega) (by omega)
    rw [s2, s1, h1, h2, lt_b (nI n), k2, lt_b (nI k), nI_s, c_dig T d2.1, m_dig_t T d2, lt_b (y 3 (k + 1) - 48), ew, e148, lt_b (mX5_tellWind _ _ _ _), lt_b (mX6_blows _ _ _ _ _), eta2]
    obtain ⟨s1, s2, s3, s4, s5, s6⟩ := s_blows R ok (show 148 ≤ 200 by omega) hn (Nat.le_refl n) (show w ≤ 9 by omega)
    unfold bW at s6
    exact DR_ok (by omega) (show (0 : Int32) ≤ 0 by decide) s2 s3 s4
  · rw [if_neg (show ¬ y 3 i = 104 by rw [c]; decide), if_neg (show ¬ y 3 i = 109 by rw [c]; decide), if_neg (show ¬ y 3 i = 119 by rw [c]; decide), if_neg (show ¬ y 3 i = 104 by rw [c]; decide), if_neg (show ¬ y 3 i = 109 by rw [c]; decide), if_neg (show ¬ y 3 i = 119 by rw [c]; decide)]
    obtain ⟨n, hn, h1, h2⟩ := hour_v T (by omega) d4
    unfold mX6_doesComplaint
    rw [a1, a2, a3, a4, m_dig_t T d1, m_dig_t T (Dg_48 d2 (by decide) (by decide)), m_sign_in T d3.1, c_dig T d1.1, c_dig T d2.1, c_sign T d3.1, h1, h2, lt_b (y 3 (i + 1) - 48), lt_b (y 3 (i + 2) - 48), lt_b (y 3 (i + 3))]
    rcases d3.2 with z | z
    · rw [if_pos z, if_neg (show ¬ y 3 (i + 3) = 115 by rw [z]; decide), lt_b (nI n), lt_b (mX5_lodge _ _ _ _ _), lt_b (ite _ _ _), eta2, eta2]
      exact DR_lodge R ok (show 0 < 2 by omega) hn
    · rw [if_neg (show ¬ y 3 (i + 3) = 110 by rw [z]; decide), if_pos z, lt_b (nI n), lt_b (mX5_lodge _ _ _ _ _), lt_b (ite _ _ _), eta2, eta2]
      exact DR_lodge R ok (show 1 < 2 by omega) hn
theorem no59 {i j : Nat} (ps : PS y L i j) : ∀ k, i ≤ k → k < j → ¬ y 3 k = 59 := by
  have dg : ∀ {k : Nat} {lo hi : Int32}, Dg y L k lo hi → (59 < lo.toInt ∨ hi.toInt < 59) → ¬ y 3 k = 59 := fun h h2 z => by
    have b1 := h.2.1
    have b2 := h.2.2
    rw [z] at b1 b2
    have : (59 : Int32).toInt = 59 := rfl
    omega
  have hr : ∀ {p k : Nat}, HRc y L p k → ∀ q, p ≤ q → q < k → ¬ y 3 q = 59 := fun {p k} h q h1 h2 => by
    obtain ⟨h0, h | h⟩ := h
    · have e : q = p := by omega
      rw [e]; exact dg h0 (Or.inr (by decide))
    · by_cases e : q = p
      · rw [e]; exact dg h0 (Or.inr (by decide))
      · have e : q = p + 1 := by omega
        rw [e]
        rcases h.2 with z | z
        · exact dg z.2 (Or.inr (by decide))
        · exact dg z.2 (Or.inr (by decide))
  obtain ⟨hi, hj, ps⟩ := ps
  intro q h1 h2
  rcases ps with ⟨c, d1, d2, d3, d4, e⟩ | ⟨c, d1, d2, d3, e⟩ | ⟨c, k, d0, d1, d2, e⟩ | ⟨c, d1, d2, d3, d4⟩
  · rcases (show q = i ∨ q = i + 1 ∨ q = i + 2 ∨ q = i + 3 ∨ q = i + 4 by omega) with rfl | rfl | rfl | rfl | rfl
    · rw [c]; decide
    · exact dg d1 (Or.inr (by decide))
    · rw [d2.2]; decide
    · exact dg d3 (Or.inl (by decide))
    · exact dg d4 (Or.inr (by decide))
  · rcases (show q = i ∨ q = i + 1 ∨ q = i + 2 ∨ q = i + 3 by omega) with rfl | rfl | rfl | rfl
    · rw [c]; decide
    · rw [d1.2]; decide
    · exact dg d2 (Or.inl (by decide))
    · exact dg d3 (Or.inr (by decide))
  · have hk := HR_le d0
    rcases (show q = i ∨ (i + 1 ≤ q ∧ q < k) ∨ q = k ∨ q = k + 1 by omega) with rfl | z | rfl | rfl
    · rw [c]; decide
    · exact hr d0 q z.1 z.2
    · rw [d1.2]; decide
    · exact dg d2 (Or.inr (by decide))
  · rcases (show q = i ∨ q = i + 1 ∨ q = i + 2 ∨ q = i + 3 ∨ i + 4 ≤ q by omega) with rfl | rfl | rfl | rfl | z
    · rw [c]; decide
    · exact dg d1 (Or.inr (by decide))
    · exact dg d2 (Or.inr (by decide))
    · rcases d3.2 with z | z <;> rw [z] <;> decide
    · exact hr d4 q z h2
theorem scan (T : TL t y L) {Z : Nat → Nat → Nat → Int32} (hZ : Z 7 = t) (C : (Nat → Nat → Nat → Int32) → Int32 → Int32 → Int32 → (Int32 × (Nat → Nat → Nat → Int32))) (n : Nat) (S c : Int32) {j : Nat} (hj : j ≤ L) : ∀ (m e : Nat), e + m = j → (∀ k, e ≤ k → k < j → ¬ y 3 k = 59) → mX5_doAll_37 C (n + m) Z (nI e) S c = mX5_doAll_37 C n Z (nI j) S c
  | 0, e, h, _ => by rw [show e = j by omega]; rfl
  | m + 1, e, h, h2 => by
    have hL := T.1
    rw [show n + (m + 1) = (n + m) + 1 by omega, mX5_doAll_37, hZ, T.2.1, if_neg (by rw [nJ_eq (by omega) (by omega)]; omega), c_sign T (by omega), if_neg (h2 e (Nat.le_refl e) (by omega)), nI_s]
    exact scan T hZ C n S c hj m (e + 1) (by omega) (fun k h3 h4 => h2 k (by omega) h4)
def doB (K : (Nat → Nat → Nat → Int32) → Int32 × (Nat → Nat → Nat → Int32)) (Z : Nat → Nat → Nat → Int32) (q : Int32 × (Nat → Nat → Int32)) : Int32 × (Nat → Nat → Nat → Int32) := if q.1 = -1 then (q.1, setV (setV Z 0 q.2) 0 ((setV Z 0 q.2) 1)) else if q.1 = -4 then (q.1, setV (setV Z 0 q.2) 0 ((setV Z 0 q.2) 1)) else if q.1 = -3 then (q.1, setV (setV Z 0 q.2) 0 ((setV Z 0 q.2) 1)) else K (setV Z 0 q.2)
theorem at_end (T : TL t y L) {Z : Nat → Nat → Nat → Int32} (hZ : Z 7 = t) (C : (Nat → Nat → Nat → Int32) → Int32 → Int32 → Int32 → (Int32 × (Nat → Nat → Nat → Int32))) (n : Nat) (S c : Int32) {j : Nat} (hj : j = L ∨ (j < L ∧ y 3 j = 59)) : mX5_doAll_37 C (n + 1) Z (nI j) S c = doB (fun Z' => mX5_doAll_37 C n Z' (nI j + 1) (nI j + 1) (c + 1)) Z (mX5_doPart (Z 0) t S (nI j)) := by
  have hL := T.1
  rw [mX5_doAll_37, hZ, T.2.1]
  rcases hj with hj | ⟨hj, h2⟩
  · rw [if_pos (by rw [hj])]; rfl
  · rw [if_neg (by rw [nJ_eq (by omega) (by omega)]; omega), c_sign T hj, if_pos h2]; rfl
theorem TL_low {q : Nat → Nat → Int32} (T : TL t y L) (l : low 148 y q) : TL t q L := by
  obtain ⟨h1, h2, h3, h4⟩ := T
  exact ⟨h1, h2, by rw [l.2 4 (by omega)]; exact h3, fun j hj => by rw [l.2 3 (by omega)]; exact h4 j hj⟩
theorem doB_err (xx : Nat → Nat → Nat → Int32) (v : Nat → Nat → Int32) (K : (Nat → Nat → Nat → Int32) → Int32 × (Nat → Nat → Nat → Int32)) {q : Int32 × (Nat → Nat → Int32)} (h : q.1 = -1 ∨ q.1 = -4 ∨ q.1 = -3) : doB K (und xx v) q = (q.1, und xx (xx 0)) := by
  have e : setV (setV (und xx v) 0 q.2) 0 ((setV (und xx v) 0 q.2) 1) = und xx (xx 0) := by
    rw [setV_ne _ _ (show 1 ≠ 0 by omega), und_1, setV2]; unfold und; rw [setV2]
  unfold doB
  rw [e]
  rcases h with h | h | h
  · rw [if_pos h]
  · rw [if_neg (by rw [h]; decide), if_pos h]
  · rw [if_neg (by rw [h]; decide), if_neg (by rw [h]; decide), if_pos h]
theorem all_both {xx : Nat → Nat → Nat → Int32} (hx : xx 7 = t) : ∀ (n i c : Nat) (v y : Nat → Nat → Int32), TL t y L → Rv v (rowP y 148) → okR (rowP y 148) → i ≤ L → Fa t L i 0 = -5 → L < i + 5 * n → (∃ r y', (r = -1 ∨ r = -4 ∨ r = -3) ∧ (∀ C, mX5_doAll_37 C (L + 1 - i) (und xx v) (nI i) (nI i) (nI c) = (r, und xx (xx 0))) ∧ (∀ C m, n ≤ m → mX6_doAll_24 C m y (nI i) (nI c) = (r, y')) ∧ low 148 y y') ∨ (∃ v' y' c', (∀ C, mX5_doAll_37 C (L + 1 - i) (und xx v) (nI i) (nI i) (nI c) = C (und xx v') (nI (L + 1)) (nI (L + 1)) (nI c')) ∧ (∀ C m, n ≤ m → mX6_doAll_24 C m y (nI i) (nI c) = C y' (nI (L + 1)) (nI c')) ∧ Rv v' (rowP y' 148) ∧ okR (rowP y' 148) ∧ low 148 y y' ∧ c' ≤ c + n)
  | 0, i, c, v, y, T, R, ok, h1, h2, h3 => by omega
  | n + 1, i, c, v, y, T, R, ok, h1, h2, h3 => by
    have hL := T.1
    have n5 : ∀ j, j ≤ L → ¬ nI j = -5 := fun j hj z => by
      have e := congrArg Int32.toInt z
      rw [nI_toInt (by omega)] at e
      have : (-5 : Int32).toInt = -5 := rfl
      omega
    rcases part_rel T h1 with ⟨j, j1, j2, j3, j4⟩ | ⟨j, ps, j3, j4⟩
    · exact absurd (j4.symm.trans h2) (n5 j j2)
    have p4 := PS_4 ps
    have hi := ps.1
    rw [h2, F_1 T p4.2] at j4
    have je : j = L ∨ (j < L ∧ y 3 j = 59) := by
      by_cases c1 : j = L
      · exact Or.inl c1
      · rw [if_neg c1] at j4
        by_cases c2 : y 3 j = 59
        · exact Or.inr ⟨by omega, c2⟩
        · rw [if_neg c2] at j4; exact absurd j4.symm (n5 j p4.2)
    have hcls : ∀ C, mX5_doAll_37 C (L + 1 - i) (und xx v) (nI i) (nI i) (nI c) = doB (fun Z' => mX5_doAll_37 C (L - j) Z' (nI (j + 1)) (nI (j + 1)) (nI (c + 1))) (und xx v) (mX5_doPart v t (nI i) (nI j)) := fun C => by
      have hu : und xx v 7 = t := by rw [und_j _ _ (by omega) (by omega)]; exact hx
      have s := scan T hu C (L - j + 1) (nI i) (nI c) p4.2 (j - i) i (by omega) (no59 ps)
      rw [show L - j + 1 + (j - i) = L + 1 - i by omega] at s
      rw [s, at_end T hu C (L - j) (nI i) (nI c) je, und_0, nI_s, nI_s]
    have hmod : ∀ C m, mX6_doAll_24 C (m + 1) y (nI i) (nI c) = lt (mX6_does y (nI i)) (fun q_6 => (if 0 ≤ q_6.1 then (lt (mX6_partEnd q_6.2 (nI i)) (fun r_8 => (mX6_doAll_24 C m q_6.2 (r_8 + 1) (nI c + 1)))) else (q_6.1, q_6.2))) := fun C m => by
      rw [mX6_doAll_24, T.2.2.1, if_neg (by rw [nJ_le (by omega) (by omega)]; omega)]
    have dr := does_rel T R ok ps
    revert hcls hmod dr
    generalize mX5_doPart v t (nI i) (nI j) = p
    generalize mX6_does y (nI i) = d
    intro hcls hmod dr
    rcases dr with ⟨k1, k2, k3⟩ | ⟨k1, k2, k3, k4, k5⟩
    · refine Or.inl ⟨p.1, d.2, k1, fun C => ?_, fun C m hm => ?_, k3⟩
      · rw [hcls, doB_err xx v _ k1]
      · obtain ⟨m, rfl⟩ : ∃ m', m = m' + 1 := ⟨m - 1, by omega⟩
        rw [hmod, lt, if_neg (by rw [k2]; rcases k1 with z | z | z <;> rw [z] <;> decide), k2]
    · have T2 := TL_low T k5
      have pe : mX6_partEnd d.2 (nI i) = nI j := by
        rw [cg_partEnd (k5.2 3 (by omega)) (k5.2 4 (by omega)), j3]
      have hd : ∀ K, doB K (und xx v) p = K (und xx p.2) := fun K => by
        unfold doB
        rw [if_neg k1.1, if_neg k1.2.1, if_neg k1.2.2, show setV (und xx v) 0 p.2 = und xx p.2 from setV2 _ _ _ _]
      have hc2 : ∀ C, mX5_doAll_37 C (L + 1 - i) (und xx v) (nI i) (nI i) (nI c) = mX5_doAll_37 C (L - j) (und xx p.2) (nI (j + 1)) (nI (j + 1)) (nI (c + 1)) := fun C => by rw [hcls, hd]
      have hm2 : ∀ C m, mX6_doAll_24 C (m + 1) y (nI i) (nI c) = mX6_doAll_24 C m d.2 (nI (j + 1)) (nI (c + 1)) := fun C m => by
        rw [hmod, lt, if_pos k2, pe, lt, nI_s, nI_s]
      rcases je with je | ⟨je, j59⟩
      · refine Or.inr ⟨p.2, d.2, c + 1, fun C => ?_, fun C m hm => ?_, k3, k4, k5, by omega⟩
        · rw [hc2, je, Nat.sub_self]; rfl
        · obtain ⟨m, rfl⟩ : ∃ m', m = m' + 1 := ⟨m - 1, by omega⟩
          rw [hm2, je]
          cases m with
          | zero => rfl
          | succ m => rw [mX6_doAll_24, T2.2.2.1, if_pos (by rw [nJ_le (by omega) (by omega)]; omega)]
      · have f5 : Fa t L (j + 1) 0 = -5 := by
          rw [if_neg (by omega), if_pos j59] at j4; exact j4.symm
        rcases all_both hx n (j + 1) (c + 1) p.2 d.2 T2 k3 k4 (by omega) f5 (by omega) with ⟨r, y', r1, r2, r3, r4⟩ | ⟨v', y', c', r1, r2, r3, r4, r5, r6⟩
        · refine Or.inl ⟨r, y', r1, fun C => ?_, fun C m hm => ?_, low_t k5 r4⟩
          · rw [hc2, ← r2 C, show L + 1 - (j + 1) = L - j by omega]
          · obtain ⟨m, rfl⟩ : ∃ m', m = m' + 1 := ⟨m - 1, by omega⟩
            rw [hm2, r3 C m (by omega)]
        · refine Or.inr ⟨v', y', c', fun C => ?_, fun C m hm => ?_, r3, r4, low_t k5 r5, by omega⟩
          · rw [hc2, ← r1 C, show L + 1 - (j + 1) = L - j by omega]
          · obtain ⟨m, rfl⟩ : ∃ m', m = m' + 1 := ⟨m - 1, by omega⟩
            rw [hm2, r2 C m (by omega)]
end DO
theorem RR_TL {xx : Nat → Nat → Nat → Int32} {x : Nat → Nat → Int32} (h : RR xx x) : ∃ L, TL (xx 7) x L := by
  obtain ⟨hc, L, h1, h2, h3, h4⟩ := h.tx
  exact ⟨L, h1, h2, h3, h4⟩
theorem a_fault {xx : Nat → Nat → Nat → Int32} {x : Nat → Nat → Int32} (h : RR xx x) : mX3_firstFault (xx 7) = mX6_fault x := by
  obtain ⟨L, T⟩ := RR_TL h
  obtain ⟨e1, e2⟩ := e_fault T
  rw [e1, e2]
theorem a_doAll {xx : Nat → Nat → Nat → Int32} {x : Nat → Nat → Int32} (h : RR xx x) : (mX5_doAll xx).1 = (mX6_doAll x).1 ∧ RR (mX5_doAll xx).2 (mX6_doAll x).2 := by
  obtain ⟨L, T⟩ := RR_TL h
  have hL := T.1
  obtain ⟨e1, e2⟩ := e_fault T
  unfold mX5_doAll mX6_doAll
  rw [e1, e2, lt_b (Fa (xx 7) L 0 0)]
  by_cases c : Fa (xx 7) L 0 0 = -5
  case neg =>
    rw [if_neg c, if_neg c]
    exact fin2 (Q := RR) rfl h
  rw [if_pos c, if_pos c, lt_b (setV xx 1 (xx 0)), lt_b (mX6_copies x)]
  have hu : setV xx 1 (xx 0) = und xx (xx 0) := by
    unfold und
    have e : setV xx 1 (xx 0) 0 = xx 0 := setV_ne _ _ (by omega)
    have t := setV_id (setV xx 1 (xx 0)) 0
    rw [e] at t
    exact t.symm
  obtain ⟨c1, c2, c3, c4⟩ := cp_R h
  have T2 : TL (xx 7) (mX6_copies x) L := ⟨T.1, T.2.1, by rw [c4 4 (by omega)]; exact T.2.2.1, fun j hj => by rw [c4 3 (by omega)]; exact T.2.2.2 j hj⟩
  have tq0 : tq 0 (nI L) = L + 1 := by
    have t := tq_nI (a := 0) (b := L) (by omega) (by omega)
    rw [nI_0] at t; rw [t]; rfl
  rw [hu, und_j xx (xx 0) (show 7 ≠ 0 by omega) (by omega), T.2.1, tq0]
  rcases all_both (t := xx 7) (L := L) (xx := xx) rfl 13 0 0 (xx 0) (mX6_copies x) T2 c1 c2 (by omega) c (by omega) with ⟨r, y', r1, r2, r3, r4⟩ | ⟨v', y', c', r1, r2, r3, r4, r5, r6⟩
  · rw [nI_0, Nat.sub_zero] at r2
    rw [nI_0] at r3
    rw [r2, r3 _ 200 (by omega)]
    exact fin2 (Q := RR) rfl (act_not h (fun k hk => by rw [r4.1 k hk, c3 k hk]) (fun j hj => by rw [r4.2 j hj, c4 j hj]))
  · rw [nI_0, Nat.sub_zero] at r1
    rw [nI_0] at r2
    have ti := nI_toInt (n := c') (by omega)
    have e0 : (0 : Int32).toInt = 0 := rfl
    rw [r1, r2 _ 200 (by omega), rec_take h (Or.inl (by omega)), lt_b (_, _), lt_b (mX6_acts _ _)]
    unfold mX6_acts
    rw [if_neg (by rw [i_lt]; omega), lt_b (mX6_takes _)]
    rw [eta2, eta2]
    exact fin2 (Q := RR) rfl (act_take h (fun k hk => by rw [r5.1 k hk, c3 k hk]) (fun j hj => by rw [r5.2 j hj, c4 j hj]) r3 r4)
