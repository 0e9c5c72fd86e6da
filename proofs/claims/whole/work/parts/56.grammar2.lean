/-! PURE 17: a text's parts, in both. -/
def TL (t x : Nat → Nat → Int32) (L : Nat) : Prop := L ≤ 60 ∧ t 1 0 = nI L ∧ x 4 2 = nI L ∧ ∀ j, j < 60 → t 0 j = x 3 j
def Dg (x : Nat → Nat → Int32) (L i : Nat) (lo hi : Int32) : Prop := i < L ∧ lo.toInt ≤ (x 3 i).toInt ∧ (x 3 i).toInt ≤ hi.toInt
def Fa (t : Nat → Nat → Int32) (L i : Nat) (q : Int32) : Int32 := mX3_firstFault_4 t (fun x2_4 x1_4 => (if (mX0_mayEnd x1_4) = 0 then (t 1 0) else (-5))) (L - i) (nI i) q
theorem ng {j : Nat} (h : j < 1000) : ¬ 0 ≤ (-1) - nI j := by
  have e : ((-1) - nI j).toInt = -1 - j := ti_sub (show (-1 : Int32).toInt = -1 from rfl) (nI_toInt (by omega)) (by omega)
  rw [i_le, e]; have : (0 : Int32).toInt = 0 := rfl; omega
theorem pg {j : Nat} (h : j < 1000) : 0 ≤ nI j := by
  rw [i_le, nI_toInt (by omega)]; have : (0 : Int32).toInt = 0 := rfl; omega
theorem isIn_t {c lo hi : Int32} (h : lo.toInt ≤ c.toInt ∧ c.toInt ≤ hi.toInt) : mX0_isIn c lo hi = 1 ∧ mX6_in c lo hi = 1 := by
  unfold mX0_isIn mX6_in
  rw [if_neg (by rw [i_lt]; omega), if_neg (by rw [i_lt]; omega)]
  exact ⟨rfl, rfl⟩
theorem isIn_f {c lo hi : Int32} (h : ¬ (lo.toInt ≤ c.toInt ∧ c.toInt ≤ hi.toInt)) : mX0_isIn c lo hi = 0 ∧ mX6_in c lo hi = 0 := by
  unfold mX0_isIn mX6_in
  by_cases h1 : c < lo
  · rw [if_pos h1]; exact ⟨rfl, rfl⟩
  · rw [if_neg h1, if_pos (by rw [i_lt]; rw [i_lt] at h1; omega)]
    exact ⟨rfl, rfl⟩
section GR
variable {t x : Nat → Nat → Int32} {L : Nat}
theorem c_sign (T : TL t x L) {j : Nat} (hj : j < L) : mX3_signAt t (nI j) = x 3 j := by
  obtain ⟨h1, h2, h3, h4⟩ := T
  unfold mX3_signAt
  rw [h2, if_neg (by rw [show (0 : Int32) = nI 0 from rfl, nJ_lt (by omega) (by omega)]; omega), if_neg (by rw [nJ_le (by omega) (by omega)]; omega), if_neg (by rw [show (60 : Int32) = nI 60 from rfl, nJ_le (by omega) (by omega)]; omega), nI_cl (by omega), h4 j (by omega)]
theorem m_sign_in (T : TL t x L) {j : Nat} (hj : j < L) : mX6_sign x (nI j) = x 3 j := by
  obtain ⟨h1, h2, h3, h4⟩ := T
  unfold mX6_sign
  rw [h3, if_neg (by rw [nJ_le (by omega) (by omega)]; omega), nI_cl (by omega)]
theorem m_sign_out (T : TL t x L) {j : Nat} (hj : L ≤ j) (h2 : j < 1000) : mX6_sign x (nI j) = -1 := by
  obtain ⟨h1, h2, h3, h4⟩ := T
  unfold mX6_sign
  rw [h3, if_pos (by rw [nJ_le (by omega) (by omega)]; omega)]
theorem F_end (T : TL t x L) (q : Int32) : Fa t L L q = if mX0_mayEnd q = 0 then nI L else -5 := by
  unfold Fa
  rw [Nat.sub_self, mX3_firstFault_4, T.2.1]
theorem F_step (T : TL t x L) {i : Nat} (hi : i < L) (q : Int32) : Fa t L i q = if mX0_after q (x 3 i) = -1 then nI i else Fa t L (i + 1) (mX0_after q (x 3 i)) := by
  unfold Fa
  rw [show L - i = (L - (i + 1)) + 1 by omega, mX3_firstFault_4, c_sign T hi, nI_s]
theorem F_dig (T : TL t x L) {i : Nat} (hi : i ≤ L) {q q' lo hi' : Int32} (hq : ∀ c, mX0_after q c = if mX0_isIn c lo hi' = 0 then -1 else q') (h1 : ¬ q' = -1) (hm : mX0_mayEnd q = 0) : (Dg x L i lo hi' → Fa t L i q = Fa t L (i + 1) q') ∧ (¬ Dg x L i lo hi' → Fa t L i q = nI i) := by
  refine ⟨fun h => ?_, fun h => ?_⟩
  · rw [F_step T h.1, hq, if_neg (show ¬ mX0_isIn (x 3 i) lo hi' = 0 from by rw [(isIn_t h.2).1]; decide), if_neg h1]
  · by_cases c : i < L
    · rw [F_step T c, hq, if_pos (isIn_f (fun z => h ⟨c, z⟩)).1, if_pos rfl]
    · have e : i = L := by omega
      rw [e, F_end T, hm, if_pos rfl]
theorem F_eq (T : TL t x L) {i : Nat} (hi : i ≤ L) {q q' ch : Int32} (hq : ∀ c, mX0_after q c = if c = ch then q' else -1) (h1 : ¬ q' = -1) (hm : mX0_mayEnd q = 0) : ((i < L ∧ x 3 i = ch) → Fa t L i q = Fa t L (i + 1) q') ∧ (¬ (i < L ∧ x 3 i = ch) → Fa t L i q = nI i) := by
  refine ⟨fun h => ?_, fun h => ?_⟩
  · rw [F_step T h.1, hq, if_pos h.2, if_neg h1]
  · by_cases c : i < L
    · rw [F_step T c, hq, if_neg (fun z => h ⟨c, z⟩), if_pos rfl]
    · have e : i = L := by omega
      rw [e, F_end T, hm, if_pos rfl]
theorem m_dig_t (T : TL t x L) {i : Nat} (h : Dg x L i 48 57) : mX6_digit x (nI i) = x 3 i - 48 := by
  unfold mX6_digit
  rw [m_sign_in T h.1, lt, if_neg (by rw [(isIn_t h.2).2]; decide), lt]
theorem m_dig_f (T : TL t x L) {i : Nat} (hi : i < 1000) (h : ¬ Dg x L i 48 57) : mX6_digit x (nI i) = -1 := by
  unfold mX6_digit
  by_cases c : i < L
  · rw [m_sign_in T c, lt, if_pos (isIn_f (fun z => h ⟨c, z⟩)).2]
  · rw [m_sign_out T (by omega) hi, lt, if_pos (by decide)]
theorem Dg_48 {i : Nat} {lo hi : Int32} (h : Dg x L i lo hi) (h1 : 48 ≤ lo.toInt) (h2 : hi.toInt ≤ 57) : Dg x L i 48 57 := by
  have e1 : (48 : Int32).toInt = 48 := rfl
  have e2 : (57 : Int32).toInt = 57 := rfl
  exact ⟨h.1, by rw [e1]; exact Int.le_trans h1 h.2.1, by rw [e2]; exact Int.le_trans h.2.2 h2⟩
theorem d_sub {c : Int32} (h : 48 ≤ c.toInt ∧ c.toInt ≤ 57) : (c - 48).toInt = c.toInt - 48 := ti_sub rfl (show (48 : Int32).toInt = 48 from rfl) (by omega)
theorem m_dE (T : TL t x L) {i : Nat} (hi : i < 900) {lo hi' l2 h2 : Int32} (h1 : 48 ≤ lo.toInt) (h3 : hi'.toInt ≤ 57) (e1 : l2.toInt = lo.toInt - 48) (e2 : h2.toInt = hi'.toInt - 48) : (Dg x L i lo hi' → mX6_digitEnd x (nI i) l2 h2 = nI (i + 1)) ∧ (¬ Dg x L i lo hi' → mX6_digitEnd x (nI i) l2 h2 = (-1) - nI i) := by
  unfold mX6_digitEnd
  have em : (-1 : Int32).toInt = -1 := rfl
  have f1 : (48 : Int32).toInt = 48 := rfl
  have f2 : (57 : Int32).toInt = 57 := rfl
  rw [if_pos (pg (by omega))]
  refine ⟨fun h => ?_, fun h => ?_⟩
  · have g := Dg_48 h h1 h3
    have gd := d_sub (c := x 3 i) ⟨by have := g.2.1; omega, by have := g.2.2; omega⟩
    have a1 := h.2.1
    have a2 := h.2.2
    rw [m_dig_t T g, lt, if_neg (by rw [(isIn_t ⟨by omega, by omega⟩).2]; decide), nI_s]
  · by_cases c : Dg x L i 48 57
    · have gd := d_sub (c := x 3 i) ⟨by have := c.2.1; omega, by have := c.2.2; omega⟩
      have b1 := c.2.1
      have b2 := c.2.2
      rw [m_dig_t T c, lt, if_pos (isIn_f (fun z => h ⟨c.1, by omega, by omega⟩)).2]
    · rw [m_dig_f T (by omega) c, lt, if_pos (isIn_f (fun z => by omega)).2]
theorem m_bE (T : TL t x L) {i : Nat} (hi : i < 900) {ch : Int32} (hc : ¬ (-1) = ch) : ((i < L ∧ x 3 i = ch) → mX6_behind x (nI i) ch = nI (i + 1)) ∧ (¬ (i < L ∧ x 3 i = ch) → mX6_behind x (nI i) ch = (-1) - nI i) := by
  unfold mX6_behind
  rw [if_pos (pg (by omega))]
  refine ⟨fun h => ?_, fun h => ?_⟩
  · rw [m_sign_in T h.1, lt, if_pos h.2, nI_s]
  · by_cases c : i < L
    · rw [m_sign_in T c, lt, if_neg (fun z => h ⟨c, z⟩)]
    · rw [m_sign_out T (by omega) (by omega), lt, if_neg hc]
theorem m_yE (T : TL t x L) {i : Nat} (hi : i < 900) : (Dg x L i 97 108 → mX6_yardEnd x (nI i) = mX6_digitEnd x (nI (i + 1)) 0 7) ∧ (¬ Dg x L i 97 108 → mX6_yardEnd x (nI i) = (-1) - nI i) := by
  unfold mX6_yardEnd
  rw [if_pos (pg (by omega))]
  refine ⟨fun h => ?_, fun h => ?_⟩
  · rw [m_sign_in T h.1, lt, if_neg (by rw [(isIn_t h.2).2]; decide), lt, nI_s]
  · by_cases c : i < L
    · rw [m_sign_in T c, lt, if_pos (isIn_f (fun z => h ⟨c, z⟩)).2]
    · rw [m_sign_out T (by omega) (by omega), lt, if_pos (by decide)]
theorem n_dE {e : Int32} (h : ¬ 0 ≤ e) (lo hi : Int32) : mX6_digitEnd x e lo hi = e := by unfold mX6_digitEnd; rw [if_neg h]
theorem n_bE {e : Int32} (h : ¬ 0 ≤ e) (c : Int32) : mX6_behind x e c = e := by unfold mX6_behind; rw [if_neg h]
theorem n_yE {e : Int32} (h : ¬ 0 ≤ e) : mX6_yardEnd x e = e := by unfold mX6_yardEnd; rw [if_neg h]
theorem n_hE {e : Int32} (h : ¬ 0 ≤ e) : mX6_hourEnd x e = e := by unfold mX6_hourEnd; rw [if_neg h]
/-- an hour of two digits -/
def two (x : Nat → Nat → Int32) (L p : Nat) : Prop := (Dg x L p 49 49 ∧ Dg x L (p + 1) 48 57) ∨ (Dg x L p 50 50 ∧ Dg x L (p + 1) 48 51)
def HRc (x : Nat → Nat → Int32) (L p k : Nat) : Prop := Dg x L p 48 57 ∧ ((k = p + 1 ∧ ¬ two x L p) ∨ (k = p + 2 ∧ two x L p))
theorem m_hE (T : TL t x L) {p : Nat} (hp : p < 900) : (Dg x L p 48 57 → ∃ k, HRc x L p k ∧ mX6_hourEnd x (nI p) = nI k) ∧ (¬ Dg x L p 48 57 → mX6_hourEnd x (nI p) = (-1) - nI p) := by
  unfold mX6_hourEnd
  have em : (-1 : Int32).toInt = -1 := rfl
  have f0 : (0 : Int32).toInt = 0 := rfl
  have f1 : (48 : Int32).toInt = 48 := rfl
  have f2 : (57 : Int32).toInt = 57 := rfl
  have f3 : (49 : Int32).toInt = 49 := rfl
  have f4 : (50 : Int32).toInt = 50 := rfl
  have f5 : (51 : Int32).toInt = 51 := rfl
  have f24 : (24 : Int32).toInt = 24 := rfl
  rw [if_pos (pg (by omega))]
  refine ⟨fun h => ?_, fun h => ?_⟩
  · have gd := d_sub (c := x 3 p) ⟨by have := h.2.1; omega, by have := h.2.2; omega⟩
    have h1 := h.2.1
    have h2 := h.2.2
    rw [m_dig_t T h, lt, if_pos (by rw [i_le]; omega), lt, nI_s]
    by_cases c0 : x 3 p - 48 ≤ 0
    · rw [if_pos c0]
      refine ⟨p + 1, ⟨h, Or.inl ⟨rfl, fun z => ?_⟩⟩, rfl⟩
      rw [i_le] at c0
      rcases z with z | z
      · have := z.1.2.1; omega
      · have := z.1.2.1; omega
    rw [if_neg c0]
    rw [i_le] at c0
    by_cases c1 : Dg x L (p + 1) 48 57
    · have hd := d_sub (c := x 3 (p + 1)) ⟨by have := c1.2.1; omega, by have := c1.2.2; omega⟩
      have k1 := c1.2.1
      have k2 := c1.2.2
      have hs : ((10 * (x 3 p - 48)) + (x 3 (p + 1) - 48)).toInt = 10 * ((x 3 p).toInt - 48) + ((x 3 (p + 1)).toInt - 48) := ti_add (ti_mul (show (10 : Int32).toInt = 10 from rfl) gd (by omega)) hd (by omega)
      rw [m_dig_t T c1, lt, if_neg (by rw [i_lt]; omega), lt, lt]
      by_cases c2 : 24 ≤ (10 * (x 3 p - 48)) + (x 3 (p + 1) - 48)
      · rw [if_pos c2]
        rw [i_le] at c2
        refine ⟨p + 1, ⟨h, Or.inl ⟨rfl, fun z => ?_⟩⟩, rfl⟩
        rcases z with z | z
        · have := z.1.2.2; omega
        · have := z.1.2.2; have := z.2.2.2; omega
      · rw [if_neg c2, show nI p + 2 = nI (p + 2) from nI_add p 2]
        rw [i_le] at c2
        refine ⟨p + 2, ⟨h, Or.inr ⟨rfl, ?_⟩⟩, rfl⟩
        by_cases c3 : (x 3 p).toInt = 49
        · exact Or.inl ⟨⟨h.1, by omega, by omega⟩, c1⟩
        · exact Or.inr ⟨⟨h.1, by omega, by omega⟩, c1.1, by omega, by omega⟩
    · rw [m_dig_f T (by omega) c1, lt, if_pos (by decide)]
      refine ⟨p + 1, ⟨h, Or.inl ⟨rfl, fun z => c1 ?_⟩⟩, rfl⟩
      rcases z with z | z
      · exact z.2
      · exact Dg_48 z.2 (by omega) (by omega)
  · rw [m_dig_f T (by omega) h, lt, if_neg (by decide)]
theorem F_hour (T : TL t x L) {p : Nat} (hp : p ≤ L) {q a1 a2 a3 : Int32} (hq : ∀ c, mX0_after q c = mX0_afterHourDigit c a1 a2 a3) (h1 : ∀ c, mX0_after a1 c = if mX0_isIn c 48 57 = 0 then mX0_after a3 c else a3) (h2 : ∀ c, mX0_after a2 c = if mX0_isIn c 48 51 = 0 then mX0_after a3 c else a3) (m0 : mX0_mayEnd q = 0) (m1 : mX0_mayEnd a1 = mX0_mayEnd a3) (m2 : mX0_mayEnd a2 = mX0_mayEnd a3) (n1 : ¬ a1 = -1) (n2 : ¬ a2 = -1) (n3 : ¬ a3 = -1) : (∀ k, HRc x L p k → Fa t L p q = Fa t L k a3) ∧ (¬ Dg x L p 48 57 → Fa t L p q = nI p) := by
  have f1 : (48 : Int32).toInt = 48 := rfl
  have f2 : (57 : Int32).toInt = 57 := rfl
  have f3 : (49 : Int32).toInt = 49 := rfl
  have f4 : (50 : Int32).toInt = 50 := rfl
  have f5 : (51 : Int32).toInt = 51 := rfl
  refine ⟨fun k hk => ?_, fun h => ?_⟩
  · obtain ⟨h, hk⟩ := hk
    have b1 := h.2.1
    have b2 := h.2.2
    rw [F_step T h.1, hq]
    unfold mX0_afterHourDigit
    have step : ∀ {a lo hi : Int32}, (∀ c, mX0_after a c = if mX0_isIn c lo hi = 0 then mX0_after a3 c else a3) → mX0_mayEnd a = mX0_mayEnd a3 → p + 1 ≤ L → (Dg x L (p + 1) lo hi → Fa t L (p + 1) a = Fa t L (p + 2) a3) ∧ (¬ Dg x L (p + 1) lo hi → Fa t L (p + 1) a = Fa t L (p + 1) a3) := fun {a lo hi} ha hm hl => by
      refine ⟨fun z => ?_, fun z => ?_⟩
      · rw [F_step T z.1, ha, if_neg (show ¬ mX0_isIn (x 3 (p + 1)) lo hi = 0 from by rw [(isIn_t z.2).1]; decide), if_neg n3]
      · by_cases c : p + 1 < L
        · rw [F_step T c, ha, if_pos (isIn_f (fun y => z ⟨c, y⟩)).1, F_step T c]
        · have e : p + 1 = L := by omega
          rw [e, F_end T, F_end T, hm]
    by_cases c1 : x 3 p = 49
    · rw [if_pos c1, if_neg n1]
      have s := step h1 m1 h.1
      have d9 : Dg x L p 49 49 := ⟨h.1, by rw [c1]; omega, by rw [c1]; omega⟩
      by_cases c2 : Dg x L (p + 1) 48 57
      · rw [s.1 c2]
        rcases hk with ⟨hk, z⟩ | ⟨hk, z⟩
        · exact absurd (Or.inl ⟨d9, c2⟩) z
        · rw [hk]
      · rw [s.2 c2]
        rcases hk with ⟨hk, z⟩ | ⟨hk, z⟩
        · rw [hk]
        · rcases z with z | z
          · exact absurd z.2 c2
          · exact absurd (Dg_48 z.2 (by omega) (by omega)) c2
    rw [if_neg c1]
    by_cases c3 : x 3 p = 50
    · rw [if_pos c3, if_neg n2]
      have s := step h2 m2 h.1
      have d9 : Dg x L p 50 50 := ⟨h.1, by rw [c3]; omega, by rw [c3]; omega⟩
      by_cases c2 : Dg x L (p + 1) 48 51
      · rw [s.1 c2]
        rcases hk with ⟨hk, z⟩ | ⟨hk, z⟩
        · exact absurd (Or.inr ⟨d9, c2⟩) z
        · rw [hk]
      · rw [s.2 c2]
        rcases hk with ⟨hk, z⟩ | ⟨hk, z⟩
        · rw [hk]
        · rcases z with z | z
          · exact absurd (i_eq.mpr (by have := z.1.2.1; have := z.1.2.2; omega)) c1
          · exact absurd z.2 c2
    rw [if_neg c3, if_neg (show ¬ mX0_isIn (x 3 p) 48 57 = 0 from by rw [(isIn_t h.2).1]; decide), if_neg n3]
    rcases hk with ⟨hk, z⟩ | ⟨hk, z⟩
    · rw [hk]
    · rcases z with z | z
      · exact absurd (i_eq.mpr (by have := z.1.2.1; have := z.1.2.2; omega)) c1
      · exact absurd (i_eq.mpr (by have := z.1.2.1; have := z.1.2.2; omega)) c3
  · by_cases c : p < L
    · have c4 := (isIn_f (fun z => h ⟨c, z⟩)).1
      have c1 : ¬ x 3 p = 49 := fun z => h ⟨c, by rw [z]; omega, by rw [z]; omega⟩
      have c3 : ¬ x 3 p = 50 := fun z => h ⟨c, by rw [z]; omega, by rw [z]; omega⟩
      rw [F_step T c, hq]
      unfold mX0_afterHourDigit
      rw [if_neg c1, if_neg c3, if_pos c4, if_pos rfl]
    · have e : p = L := by omega
      rw [e, F_end T, m0, if_pos rfl]
/-- what a part is made of -/
def PS (x : Nat → Nat → Int32) (L i j : Nat) : Prop := i < L ∧ j ≤ L ∧ ((x 3 i = 109 ∧ Dg x L (i + 1) 49 53 ∧ (i + 2 < L ∧ x 3 (i + 2) = 64) ∧ Dg x L (i + 3) 97 108 ∧ Dg x L (i + 4) 48 55 ∧ j = i + 5) ∨ (x 3 i = 104 ∧ (i + 1 < L ∧ x 3 (i + 1) = 64) ∧ Dg x L (i + 2) 97 108 ∧ Dg x L (i + 3) 48 55 ∧ j = i + 4) ∨ (x 3 i = 119 ∧ ∃ k, HRc x L (i + 1) k ∧ (k < L ∧ x 3 k = 61) ∧ Dg x L (k + 1) 48 57 ∧ j = k + 2) ∨ (x 3 i = 99 ∧ Dg x L (i + 1) 48 57 ∧ Dg x L (i + 2) 48 51 ∧ (i + 3 < L ∧ (x 3 (i + 3) = 110 ∨ x 3 (i + 3) = 115)) ∧ HRc x L (i + 4) j))
def RK (t x : Nat → Nat → Int32) (L i : Nat) (e f : Int32) : Prop := (∃ j, i ≤ j ∧ j ≤ L ∧ e = (-1) - nI j ∧ f = nI j) ∨ (∃ j, PS x L i j ∧ e = nI j ∧ f = Fa t L j 1)
theorem HR_le {p k : Nat} (h : HRc x L p k) : p + 1 ≤ k ∧ k ≤ p + 2 ∧ k ≤ L := by
  obtain ⟨h0, h | h⟩ := h
  · have := h0.1; omega
  · rcases h.2 with z | z
    · have := z.2.1; omega
    · have := z.2.1; omega
theorem part_rel (T : TL t x L) {i : Nat} (hi : i ≤ L) : RK t x L i (mX6_partEnd x (nI i)) (Fa t L i 0) := by
  have hL := T.1
  have bad : ∀ {j : Nat} {e f : Int32}, i ≤ j → j ≤ L → e = (-1) - nI j → f = nI j → RK t x L i e f := fun a b c d => Or.inl ⟨_, a, b, c, d⟩
  have q2 : ∀ c, mX0_after 2 c = if mX0_isIn c 49 53 = 0 then -1 else 3 := fun c => by simp (decide := true) only [mX0_after, if_true, if_false]
  have q3 : ∀ c, mX0_after 3 c = if c = 64 then 4 else -1 := fun c => by simp (decide := true) only [mX0_after, if_true, if_false]
  have q4 : ∀ c, mX0_after 4 c = if mX0_isIn c 97 108 = 0 then -1 else 5 := fun c => by simp (decide := true) only [mX0_after, if_true, if_false]
  have q5 : ∀ c, mX0_after 5 c = if mX0_isIn c 48 55 = 0 then -1 else 1 := fun c => by simp (decide := true) only [mX0_after, if_true, if_false]
  have q6 : ∀ c, mX0_after 6 c = mX0_afterHourDigit c 7 8 9 := fun c => by simp (decide := true) only [mX0_after, if_true, if_false]
  have q9 : ∀ c, mX0_after 9 c = if c = 61 then 10 else -1 := fun c => by simp (decide := true) only [mX0_after, mX0_afterWindHour, if_true, if_false]
  have q7 : ∀ c, mX0_after 7 c = if mX0_isIn c 48 57 = 0 then mX0_after 9 c else 9 := fun c => by simp (decide := true) only [mX0_after, if_true, if_false]
  have q8 : ∀ c, mX0_after 8 c = if mX0_isIn c 48 51 = 0 then mX0_after 9 c else 9 := fun c => by simp (decide := true) only [mX0_after, if_true, if_false]
  have q10 : ∀ c, mX0_after 10 c = if mX0_isIn c 48 57 = 0 then -1 else 1 := fun c => by simp (decide := true) only [mX0_after, if_true, if_false]
  have q11 : ∀ c, mX0_after 11 c = if mX0_isIn c 48 57 = 0 then -1 else 12 := fun c => by simp (decide := true) only [mX0_after, if_true, if_false]
  have q12 : ∀ c, mX0_after 12 c = if mX0_isIn c 48 51 = 0 then -1 else 13 := fun c => by simp (decide := true) only [mX0_after, if_true, if_false]
  have q13 : ∀ c, mX0_after 13 c = if c = 110 then 14 else if c = 115 then 14 else -1 := fun c => by simp (decide := true) only [mX0_after, if_true, if_false]
  have q14 : ∀ c, mX0_after 14 c = mX0_afterHourDigit c 15 16 1 := fun c => by simp (decide := true) only [mX0_after, if_true, if_false]
  have q15 : ∀ c, mX0_after 15 c = if mX0_isIn c 48 57 = 0 then mX0_after 1 c else 1 := fun c => by simp (decide := true) only [mX0_after, if_true, if_false]
  have q16 : ∀ c, mX0_after 16 c = if mX0_isIn c 48 51 = 0 then mX0_after 1 c else 1 := fun c => by simp (decide := true) only [mX0_after, if_true, if_false]
  unfold mX6_partEnd
  by_cases c0 : i < L
  case neg =>
    have e : i = L := by omega
    subst e
    rw [m_sign_out T (by omega) (by omega), lt, if_neg (by decide), if_neg (by decide), if_neg (by decide), if_neg (by decide)]
    exact bad (Nat.le_refl _) (Nat.le_refl _) rfl (by rw [F_end T, if_pos (by decide)])
  have fs : Fa t L i 0 = if mX0_afterPartName (x 3 i) = -1 then nI i else Fa t L (i + 1) (mX0_afterPartName (x 3 i)) := by
    rw [F_step T c0]; rfl
  rw [m_sign_in T c0, lt, fs]
  unfold mX0_afterPartName
  rw [nI_s]
  -- a yard's end
  have yard : ∀ {k : Nat}, i ≤ k → k ≤ L → (k + 2 ≤ L → Dg x L k 97 108 → Dg x L (k + 1) 48 55 → PS x L i (k + 2)) → RK t x L i (mX6_yardEnd x (nI k)) (Fa t L k 4) := fun {k} h1 h2 h3 => by
    by_cases d1 : Dg x L k 97 108
    · rw [(m_yE T (by omega)).1 d1, (F_dig T h2 q4 (by decide) (by decide)).1 d1]
      have := d1.1
      by_cases d2 : Dg x L (k + 1) 48 55
      · rw [(m_dE T (by omega) (by decide) (by decide) rfl rfl).1 d2, (F_dig T (by omega) q5 (by decide) (by decide)).1 d2]
        have := d2.1
        exact Or.inr ⟨k + 2, h3 (by omega) d1 d2, rfl, rfl⟩
      · rw [(m_dE T (by omega) (by decide) (by decide) rfl rfl).2 d2, (F_dig T (by omega) q5 (by decide) (by decide)).2 d2]
        exact bad (by omega) (by omega) rfl rfl
    · rw [(m_yE T (by omega)).2 d1, (F_dig T h2 q4 (by decide) (by decide)).2 d1]
      exact bad (by omega) (by omega) rfl rfl
  by_cases c1 : x 3 i = 99
  · rw [if_pos c1, if_pos c1, if_neg (by decide)]
    by_cases d1 : Dg x L (i + 1) 48 57
    case neg =>
      rw [(m_dE T (by omega) (by decide) (by decide) rfl rfl).2 d1, lt, n_dE (ng (by omega)), lt, if_pos (by have := ng (j := i + 1) (by omega); rw [i_le] at this; rw [i_lt]; omega), if_neg (ng (by omega)), (F_dig T (by omega) q11 (by decide) (by decide)).2 d1]
      exact bad (by omega) (by omega) rfl rfl
    rw [(m_dE T (by omega) (by decide) (by decide) rfl rfl).1 d1, lt, (F_dig T (by omega) q11 (by decide) (by decide)).1 d1]
    have := d1.1
    by_cases d2 : Dg x L (i + 1 + 1) 48 51
    case neg =>
      rw [(m_dE T (by omega) (by decide) (by decide) rfl rfl).2 d2, lt, if_pos (by have := ng (j := i + 1 + 1) (by omega); rw [i_le] at this; rw [i_lt]; omega), if_neg (ng (by omega)), (F_dig T (by omega) q12 (by decide) (by decide)).2 d2]
      exact bad (by omega) (by omega) rfl rfl
    rw [(m_dE T (by omega) (by decide) (by decide) rfl rfl).1 d2, lt, (F_dig T (by omega) q12 (by decide) (by decide)).1 d2]
    have := d2.1
    have p0 := pg (j := i + 1 + 1 + 1) (by omega)
    rw [if_neg (show ¬ nI (i + 1 + 1 + 1) < 0 from by rw [i_le] at p0; rw [i_lt]; omega), if_pos p0, nI_s]
    have hour : (i + 3 < L ∧ (x 3 (i + 3) = 110 ∨ x 3 (i + 3) = 115)) → RK t x L i (mX6_hourEnd x (nI (i + 1 + 1 + 1 + 1))) (Fa t L (i + 1 + 1 + 1 + 1) 14) := fun hk => by
      by_cases d4 : Dg x L (i + 1 + 1 + 1 + 1) 48 57
      · obtain ⟨k, hk1, hk2⟩ := (m_hE T (by omega)).1 d4
        rw [hk2, (F_hour T (by omega) q14 q15 q16 (by decide) (by decide) (by decide) (by decide) (by decide) (by decide)).1 k hk1]
        have := HR_le hk1
        exact Or.inr ⟨k, ⟨c0, by omega, Or.inr (Or.inr (Or.inr ⟨c1, d1, d2, hk, hk1⟩))⟩, rfl, rfl⟩
      · rw [(m_hE T (by omega)).2 d4, (F_hour T (by omega) q14 q15 q16 (by decide) (by decide) (by decide) (by decide) (by decide) (by decide)).2 d4]
        exact bad (by omega) (by omega) rfl rfl
    by_cases d3 : i + 1 + 1 + 1 < L
    case neg =>
      have e : i + 1 + 1 + 1 = L := by omega
      rw [m_sign_out T (by omega) (by omega), lt, if_neg (by decide), lt, if_neg (by decide), if_pos p0, e, F_end T, if_pos (by decide)]
      exact bad (by omega) (by omega) rfl rfl
    rw [m_sign_in T d3, lt, F_step T d3, q13]
    by_cases d4 : x 3 (i + 1 + 1 + 1) = 110
    · rw [if_pos d4, if_pos d4, lt, if_neg (by decide)]; exact hour ⟨d3, Or.inl d4⟩
    rw [if_neg d4, if_neg d4, lt]
    by_cases d5 : x 3 (i + 1 + 1 + 1) = 115
    · rw [if_pos d5, if_pos d5, lt, if_neg (by decide)]; exact hour ⟨d3, Or.inr d5⟩
    rw [if_neg d5, if_neg d5, if_pos p0, if_pos rfl]
    exact bad (by omega) (by omega) rfl rfl
  rw [if_neg c1, if_neg c1]
  by_cases c2 : x 3 i = 104
  · rw [if_pos c2, if_pos c2, if_neg (by decide)]
    by_cases d1 : i + 1 < L ∧ x 3 (i + 1) = 64
    case neg =>
      rw [(m_bE T (by omega) (by decide)).2 d1, lt, n_yE (ng (by omega)), lt, (F_eq T (by omega) q3 (by decide) (by decide)).2 d1]
      exact bad (by omega) (by omega) rfl rfl
    rw [(m_bE T (by omega) (by decide)).1 d1, lt, lt, (F_eq T (by omega) q3 (by decide) (by decide)).1 d1]
    have := d1.1
    exact yard (by omega) (by omega) (fun a b c => ⟨c0, by omega, Or.inr (Or.inl ⟨c2, d1, b, c, rfl⟩)⟩)
  rw [if_neg c2, if_neg c2]
  by_cases c3 : x 3 i = 109
  · rw [if_pos c3, if_pos c3, if_neg (by decide)]
    by_cases d0 : Dg x L (i + 1) 49 53
    case neg =>
      rw [(m_dE T (by omega) (by decide) (by decide) rfl rfl).2 d0, lt, n_bE (ng (by omega)), lt, n_yE (ng (by omega)), lt, (F_dig T (by omega) q2 (by decide) (by decide)).2 d0]
      exact bad (by omega) (by omega) rfl rfl
    rw [(m_dE T (by omega) (by decide) (by decide) rfl rfl).1 d0, lt, (F_dig T (by omega) q2 (by decide) (by decide)).1 d0]
    have := d0.1
    by_cases d1 : i + 1 + 1 < L ∧ x 3 (i + 1 + 1) = 64
    case neg =>
      rw [(m_bE T (by omega) (by decide)).2 d1, lt, n_yE (ng (by omega)), lt, (F_eq T (by omega) q3 (by decide) (by decide)).2 d1]
      exact bad (by omega) (by omega) rfl rfl
    rw [(m_bE T (by omega) (by decide)).1 d1, lt, lt, (F_eq T (by omega) q3 (by decide) (by decide)).1 d1]
    have := d1.1
    exact yard (by omega) (by omega) (fun a b c => ⟨c0, by omega, Or.inl ⟨c3, d0, d1, b, c, rfl⟩⟩)
  rw [if_neg c3, if_neg c3]
  by_cases c4 : x 3 i = 119
  · rw [if_pos c4, if_pos c4, if_neg (by decide)]
    have fh := F_hour T (p := i + 1) (by omega) q6 q7 q8 (by decide) (by decide) (by decide) (by decide) (by decide) (by decide)
    by_cases d0 : Dg x L (i + 1) 48 57
    case neg =>
      rw [(m_hE T (by omega)).2 d0, lt, n_bE (ng (by omega)), lt, n_dE (ng (by omega)), lt, fh.2 d0]
      exact bad (by omega) (by omega) rfl rfl
    obtain ⟨k, hk1, hk2⟩ := (m_hE T (by omega)).1 d0
    have hk3 := HR_le hk1
    rw [hk2, lt, fh.1 k hk1]
    by_cases d1 : k < L ∧ x 3 k = 61
    case neg =>
      rw [(m_bE T (by omega) (by decide)).2 d1, lt, n_dE (ng (by omega)), lt, (F_eq T (by omega) q9 (by decide) (by decide)).2 d1]
      exact bad (by omega) (by omega) rfl rfl
    rw [(m_bE T (by omega) (by decide)).1 d1, lt, (F_eq T (by omega) q9 (by decide) (by decide)).1 d1]
    have := d1.1
    by_cases d2 : Dg x L (k + 1) 48 57
    case neg =>
      rw [(m_dE T (by omega) (by decide) (by decide) rfl rfl).2 d2, lt, (F_dig T (by omega) q10 (by decide) (by decide)).2 d2]
      exact bad (by omega) (by omega) rfl rfl
    rw [(m_dE T (by omega) (by decide) (by decide) rfl rfl).1 d2, lt, (F_dig T (by omega) q10 (by decide) (by decide)).1 d2]
    have := d2.1
    exact Or.inr ⟨k + 2, ⟨c0, by omega, Or.inr (Or.inr (Or.inl ⟨c4, k, hk1, d1, d2, rfl⟩))⟩, rfl, rfl⟩
  rw [if_neg c4, if_neg c4, if_pos rfl]
  exact bad (Nat.le_refl _) (by omega) rfl rfl
theorem PS_4 {i j : Nat} (h : PS x L i j) : i + 4 ≤ j ∧ j ≤ L := by
  obtain ⟨h1, h2, h | h | h | h⟩ := h
  · have := h.2.2.2.2.2; omega
  · have := h.2.2.2.2; omega
  · obtain ⟨-, k, k1, k2, k3, k4⟩ := h
    have := HR_le k1; omega
  · have := HR_le h.2.2.2.2; omega
theorem F_1 (T : TL t x L) {j : Nat} (hj : j ≤ L) : Fa t L j 1 = if j = L then -5 else if x 3 j = 59 then Fa t L (j + 1) 0 else nI j := by
  by_cases c : j = L
  · subst c; rw [if_pos rfl, F_end T, if_neg (by decide)]
  · rw [if_neg c, F_step T (by omega)]
    have q1 : ∀ c, mX0_after 1 c = if c = 59 then 0 else -1 := fun c => by simp (decide := true) only [mX0_after, mX0_afterPart, if_true, if_false]
    rw [q1]
    by_cases c2 : x 3 j = 59
    · rw [if_pos c2, if_neg (by decide), if_pos c2]
    · rw [if_neg c2, if_pos rfl, if_neg c2]
theorem fault_l (T : TL t x L) : ∀ (n i : Nat) (c : Int32), i ≤ L → L < i + 5 * n → mX6_fault_4 x (fun x2_4 x1_4 => (-5)) n c (nI i) = Fa t L i 0
  | 0, i, c, h1, h2 => by omega
  | n + 1, i, c, h1, h2 => by
    have hL := T.1
    rw [mX6_fault_4]
    rcases part_rel T h1 with ⟨j, j1, j2, j3, j4⟩ | ⟨j, j1, j3, j4⟩
    · rw [j3, lt, if_neg (ng (by omega)), j4]
      rw [i_eq, ti_sub (show (-1 : Int32).toInt = -1 from rfl) (ti_sub (show (-1 : Int32).toInt = -1 from rfl) (nI_toInt (n := j) (by omega)) (by omega)) (by omega), nI_toInt (by omega)]
      omega
    · have := PS_4 j1
      rw [j3, lt, if_pos (pg (by omega)), j4, F_1 T this.2, T.2.2.1]
      by_cases c1 : j = L
      · rw [if_pos (by rw [c1]), if_pos c1]
      · rw [if_neg (by rw [nJ_eq (by omega) (by omega)]; exact c1), if_neg c1, m_sign_in T (by omega), lt]
        by_cases c2 : x 3 j = 59
        · rw [if_pos c2, if_pos c2, nI_s, fault_l T n (j + 1) _ (by omega) (by omega)]
        · rw [if_neg c2, if_neg c2]
theorem tr_60 : tr 0 60 = 60 := by decide +kernel
theorem e_fault (T : TL t x L) : mX3_firstFault t = Fa t L 0 0 ∧ mX6_fault x = Fa t L 0 0 := by
  have hL := T.1
  refine ⟨?_, ?_⟩
  · unfold mX3_firstFault Fa
    rw [T.2.1, tr_0 (by omega)]; rfl
  · have f := fault_l T 60 0 0 (by omega) (by omega)
    unfold mX6_fault
    rw [tr_60]; exact f
end GR
