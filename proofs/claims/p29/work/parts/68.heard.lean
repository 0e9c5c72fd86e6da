/-! P29, PURE 7: complaints. -/
theorem SS_c {v v' : Nat → Nat → Int32} (h : v' 8 = v 8) : SS v' = SS v := by unfold SS D2; rw [h]
theorem D2_c {v v' : Nat → Nat → Int32} (h : v' 8 = v 8) : D2 v' = D2 v := by unfold D2; rw [h]
theorem ta_up {f : Nat → Int32} {e B i : Nat} (h : ∀ k, k < B → ∃ n, n ≤ e ∧ f k = nI n) (hi : i < B) : ∀ k, k < B → ∃ n, n ≤ e + 1 ∧ upd f i (f i + 1) k = nI n := by
  intro k hk
  by_cases c : k = i
  · subst c
    obtain ⟨n, h1, h2⟩ := h k hk
    exact ⟨n + 1, by omega, by rw [upd_same, h2, nI_s]⟩
  · obtain ⟨n, h1, h2⟩ := h k hk
    exact ⟨n, by omega, by rw [upd_ne _ _ c, h2]⟩
theorem ta_id {f : Nat → Int32} {e B : Nat} (h : ∀ k, k < B → ∃ n, n ≤ e ∧ f k = nI n) : ∀ k, k < B → ∃ n, n ≤ e + 1 ∧ f k = nI n := fun k hk => by
  obtain ⟨n, h1, h2⟩ := h k hk
  exact ⟨n, by omega, h2⟩
theorem up_t {f : Nat → Int32} {e i : Nat} (h : ∃ n, n ≤ e ∧ f i = nI n) (he : e ≤ 100000) : (upd f i (f i + 1) i).toInt = (f i).toInt + 1 := by
  obtain ⟨n, h1, h2⟩ := h
  rw [upd_same, h2, nI_s, nI_toInt (by omega), nI_toInt (by omega)]; omega
theorem LI.act {e M' N' : Nat} {xx q : Nat → Nat → Nat → Int32} {x' : Nat → Nat → Int32} (hR : RR q x') (hq : EX e M' N' (q 0) (xx 10 0)) : LI e M' N' (setV q 10 (xx 10)) :=
  ⟨⟨x', RR_10 hR _⟩, by rw [setV_ne _ _ (show 0 ≠ 10 by omega), setV_same]; exact hq⟩
theorem fin_LI {e M N : Nat} {xx : Nat → Nat → Nat → Int32} {x' : Nat → Nat → Int32} {q T : Int32 × (Nat → Nat → Nat → Int32)} (hRR : RR q.2 x') (h : ∃ v', q.2 0 = v' ∧ EX (e + 1) M N v' (xx 10 0) ∧ T = (1, q.2)) : T = (1, q.2) ∧ LI (e + 1) M N (setV q.2 10 (xx 10)) := by
  obtain ⟨v', e1, e2, e3⟩ := h
  exact ⟨e3, LI.act hRR (by rw [e1]; exact e2)⟩
theorem fin_S {e M N : Nat} {xx yy : Nat → Nat → Nat → Int32} {x' : Nat → Nat → Int32} {q T : Int32 × (Nat → Nat → Nat → Int32)} (hRR : RR q.2 x') (hyy : yy = setV q.2 10 (xx 10)) (h : ∃ v', q.2 0 = v' ∧ EX (e + 1) M N v' (xx 10 0) ∧ T = (1, yy)) : T.1 = 1 ∧ LI (e + 1) M N T.2 := by
  obtain ⟨v', e1, e2, e3⟩ := h
  rw [e3]
  refine ⟨rfl, ?_⟩
  show LI (e + 1) M N yy
  rw [hyy]
  exact LI.act hRR (by rw [e1]; exact e2)
theorem cp_e (xx : Nat → Nat → Nat → Int32) (a m k t : Int32) : mX5_complain xx a m k t = mX5_recorded (und xx (mX5_lodge (xx 0) a m k t).2) (mX5_lodge (xx 0) a m k t).1 := by
  unfold mX5_complain und
  refine lt_v ?_
  rw [show setV xx 1 (xx 0) 0 = xx 0 from setV_ne _ _ (by omega)]
  refine lt_v ?_
  refine lt_v ?_
  refine lt_v ?_
  exact eta2 _
theorem cp_12 (xx : Nat → Nat → Nat → Int32) (a m k t : Int32) : (mX5_complain xx a m k t).1 = (mX5_lodge (xx 0) a m k t).1 ∧ (mX5_complain xx a m k t).2 0 = (mX5_lodge (xx 0) a m k t).2 := by
  rw [cp_e]
  have h := rec_0 (und xx (mX5_lodge (xx 0) a m k t).2) (mX5_lodge (xx 0) a m k t).1
  exact ⟨h.1, h.2.trans (und_0 _ _)⟩
theorem z_le0 : (0 : Int32) ≤ 0 := by decide
section LD
variable {v : Nat → Nat → Int32} {M N : Nat}
theorem lodge_0 (V : VV v M N) {a m k h : Nat} (ha : a < N) (hm : m < M) (hk : k < 2) (hh : h < 24) (hR : mX4_reasonAgainst v (nI a) (nI m) (nI k) (nI h) = 0) : ∃ v' p, mX5_lodge v (nI a) (nI m) (nI k) (nI h) = (nI p, v') ∧ p = sL (stV v' m h) N 0 ∧ (∀ j, j ≠ 2 → j ≠ 5 → j ≠ 8 → v' j = v j) ∧ v' 8 = upd (v 8) (8 * a + 2 * m + k) (v 8 (8 * a + 2 * m + k) ||| ((1 : Int32) <<< (nI h &&& 31))) ∧ v' 2 = upd (v 2) 0 (v 2 0 + 1) ∧ ((nI p < v 1 2 ∧ v' 5 = v 5) ∨ (¬ nI p < v 1 2 ∧ v' 5 = upd (v 5) m (v 5 m ||| ((1 : Int32) <<< (nI h &&& 31))))) := by
  have hM := V.M4
  have hN := V.N10
  obtain ⟨q, hq⟩ : ∃ z, z = mX4_letStand v (nI a) (nI m) (nI k) (nI h) := ⟨_, rfl⟩
  obtain ⟨v5, h5⟩ : ∃ z, z = setA q 2 (mX5_add 6 (q 2) 0 1) := ⟨_, rfl⟩
  have E : mX5_lodge v (nI a) (nI m) (nI k) (nI h) = if mX4_points v5 (nI m) (nI h) < mX4_setting v5 2 then (mX4_points v5 (nI m) (nI h), v5) else (mX4_points v5 (nI m) (nI h), mX4_tie v5 (nI m) (nI h)) := by
    unfold mX5_lodge
    rw [hR, if_pos z_le0, if_pos z_le0, ← hq]
    refine lt_v ?_
    refine lt_v ?_
    rw [← h5]
    refine lt_v ?_
    by_cases c : mX4_points v5 (nI m) (nI h) < mX4_setting v5 2
    · rw [if_pos c, if_pos c]
    · rw [if_neg c, if_neg c]
      refine lt_v ?_
      exact rfl
  rw [c_letStand v _ (show a < 10 by omega) (show m < 4 by omega) hk] at hq
  have q2 : q 2 = v 2 := by rw [hq, setA_ne _ _ (by omega)]
  have w2 : v5 2 = upd (v 2) 0 (v 2 0 + 1) := by rw [h5, setA_same, q2]; exact add_in (k := 0) (v 2) 1 (by omega) (by omega)
  have w8 : v5 8 = upd (v 8) (8 * a + 2 * m + k) (v 8 (8 * a + 2 * m + k) ||| ((1 : Int32) <<< (nI h &&& 31))) := by rw [h5, setA_ne _ _ (by omega), hq, setA_same]
  have wj : ∀ j, j ≠ 2 → j ≠ 8 → v5 j = v j := fun j h1 h2 => by rw [h5, setA_ne _ _ h1, hq, setA_ne _ _ h2]
  have ep : mX4_points v5 (nI m) (nI h) = nI (sL (stV v5 m h) N 0) := c_pts v5 (by rw [wj 10 (by omega) (by omega)]; exact V.eN) hN (by omega) hh
  have es : mX4_setting v5 2 = v 1 2 := by rw [← wj 1 (by omega) (by omega)]; exact c_set v5 (k := 2) (by omega)
  rw [ep, es] at E
  by_cases c : nI (sL (stV v5 m h) N 0) < v 1 2
  · rw [if_pos c] at E
    exact ⟨v5, _, E, rfl, fun j h1 h2 h3 => wj j h1 h3, w8, w2, Or.inl ⟨c, wj 5 (by omega) (by omega)⟩⟩
  · rw [if_neg c, c_tie v5 _ (show m < 4 by omega)] at E
    refine ⟨_, _, E, ?_, fun j h1 h2 h3 => ?_, ?_, ?_, Or.inr ⟨c, ?_⟩⟩
    · unfold stV; rw [setA_ne _ _ (show 8 ≠ 5 by omega)]
    · rw [setA_ne _ _ h2, wj j h1 h3]
    · rw [setA_ne _ _ (show 8 ≠ 5 by omega), w8]
    · rw [setA_ne _ _ (show 2 ≠ 5 by omega), w2]
    · rw [setA_same, wj 5 (by omega) (by omega)]
theorem lodge_1 {a m k h : Int32} {r : Nat} (hR : mX4_reasonAgainst v a m k h = nI r) (h1 : 1 ≤ r) (h2 : r ≤ 3) : mX5_lodge v a m k h = ((-10) - nI r, v) := by
  have z : mX5_isVain (nI r) = 0 := by
    rcases (show r = 1 ∨ r = 2 ∨ r = 3 by omega) with rfl | rfl | rfl <;> decide
  unfold mX5_lodge
  rw [hR, if_pos (by rw [show (0 : Int32) = nI 0 from rfl, nJ_le (by omega) (by omega)]; omega), if_neg (by rw [show (0 : Int32) = nI 0 from rfl, nJ_le (by omega) (by omega)]; omega), z, if_pos rfl]
theorem lodge_2 {a m h : Nat} {k : Int32} {r : Nat} (ha : a < 10) (hR : mX4_reasonAgainst v (nI a) (nI m) k (nI h) = nI r) (h1 : 4 ≤ r) (h2 : r ≤ 6) : ∃ v', mX5_lodge v (nI a) (nI m) k (nI h) = ((-10) - nI r, v') ∧ (∀ j, j ≠ 2 → j ≠ 7 → v' j = v j) ∧ v' 7 = upd (v 7) a (v 7 a + 1) ∧ v' 2 = upd (v 2) 1 (v 2 1 + 1) := by
  have z : ¬ mX5_isVain (nI r) = 0 := by
    rcases (show r = 4 ∨ r = 5 ∨ r = 6 by omega) with rfl | rfl | rfl <;> decide
  have E : mX5_lodge v (nI a) (nI m) k (nI h) = ((-10) - nI r, setA (setA v 7 (mX5_add 10 (v 7) (nI a) 1)) 2 (mX5_add 6 ((setA v 7 (mX5_add 10 (v 7) (nI a) 1)) 2) 1 1)) := by
    unfold mX5_lodge
    rw [hR, if_pos (by rw [show (0 : Int32) = nI 0 from rfl, nJ_le (by omega) (by omega)]; omega), if_neg (by rw [show (0 : Int32) = nI 0 from rfl, nJ_le (by omega) (by omega)]; omega), if_neg z]; rfl
  refine ⟨_, E, fun j h1 h2 => ?_, ?_, ?_⟩
  · rw [setA_ne _ _ h1, setA_ne _ _ h2]
  · rw [setA_ne _ _ (show 7 ≠ 2 by omega), setA_same, add_in _ _ ha (by omega)]
  · rw [setA_same, setA_ne _ _ (show 2 ≠ 7 by omega)]
    exact add_in (k := 1) (v 2) 1 (by omega) (by omega)
/-- one more standing complaint -/
theorem D2_or {v' : Nat → Nat → Int32} {a m k h : Nat} (ha : a < 10) (hm : m < 4) (hk : k < 2) (hh : h < 24) (hb : bt (v 8 (8 * a + 2 * m + k)) h = false) (e : v' 8 = upd (v 8) (8 * a + 2 * m + k) (v 8 (8 * a + 2 * m + k) ||| ((1 : Int32) <<< (nI h &&& 31)))) : D2 v' a m = D2 v a m + 1 ∧ ∀ b j, b < 10 → j < 4 → ¬ (b = a ∧ j = m) → D2 v' b j = D2 v b j := by
  unfold D2
  rw [e]
  refine ⟨?_, fun b j hb hj hc => ?_⟩
  · rcases (show k = 0 ∨ k = 1 by omega) with rfl | rfl
    · rw [upd_same, oN_or hh hb, upd_ne _ _ (by omega)]; exact Nat.add_right_comm _ _ _
    · rw [upd_same, oN_or hh hb, upd_ne _ _ (by omega)]; exact (Nat.add_assoc _ _ _).symm
  · rw [upd_ne _ _ (by omega), upd_ne _ _ (by omega)]
theorem ar3 {A B C D E F : Nat} (e1 : A + B = C + D) (e3 : E + C = F + A) : E + B = F + D := by omega
/-- sums in which D2 changes at one place -/
theorem D2_sums {v' : Nat → Nat → Int32} {a m : Nat} (ha : a < 10) (hm : m < 4) (h2 : ∀ b j, b < 10 → j < 4 → ¬ (b = a ∧ j = m) → D2 v' b j = D2 v b j) : sL (D2 v' a) 4 0 + D2 v a m = sL (D2 v a) 4 0 + D2 v' a m ∧ sL (fun b => D2 v' b m) 10 0 + D2 v a m = sL (fun b => D2 v b m) 10 0 + D2 v' a m ∧ SS v' + D2 v a m = SS v + D2 v' a m := by
  have e1 := sL_one' (f := D2 v a) (g := D2 v' a) (h := m) 4 0 (by omega) (by omega) (fun i _ h4 h5 => h2 a i ha (by omega) (fun z => h5 z.2))
  have e2 := sL_one' (f := fun b => D2 v b m) (g := fun b => D2 v' b m) (h := a) 10 0 (Nat.zero_le _) (Nat.lt_of_lt_of_eq ha rfl) (fun i _ h4 h5 => h2 i m (Nat.lt_of_lt_of_eq h4 rfl) hm (fun z => h5 z.1))
  have e3 := sL_one' (f := fun b => sL (D2 v b) 4 0) (g := fun b => sL (D2 v' b) 4 0) (h := a) 10 0 (Nat.zero_le _) (Nat.lt_of_lt_of_eq ha rfl) (fun i _ h4 h5 => sL_c 4 0 (fun j _ h6 => h2 i j (Nat.lt_of_lt_of_eq h4 rfl) (Nat.lt_of_lt_of_eq h6 rfl) (fun z => h5 z.1)))
  exact ⟨e1, e2, ar3 e1 e3⟩
theorem arA {A B C D : Nat} (h : A + B = C + D) (d : D = B + 1) : A = C + 1 := by omega
theorem arB {S S' B D : Nat} (h : S' + B = S + D) (d : D = B + 1) (t : Int) (q : (S : Int) ≤ t) : (S' : Int) ≤ t + 1 := by omega
theorem arC {A B C D g : Nat} (h : A + B = C + D) (d : D + g = B) : A + g = C := by omega
theorem arD {S S' B D g : Nat} (h : S' + B = S + D) (d : D + g = B) (t : Int) (q : (S : Int) ≤ t) : (S' : Int) ≤ t := by omega
theorem nI_dif {A g C : Nat} (h : A + g = C) (hC : C < 2147483648) : nI C - nI A = nI g ∧ nI A = nI C - nI g := by
  rw [nI_sub (by omega) (by omega), nI_sub (by omega) (by omega), show C - A = g by omega, show C - g = A by omega]
  exact ⟨rfl, rfl⟩
theorem sum4_lt (v : Nat → Nat → Int32) (a : Nat) : sL (D2 v a) 4 0 < 2147483648 := Nat.lt_of_le_of_lt (sL_le (D2_le v a) 4 0) (by omega)
theorem sum10_lt (v : Nat → Nat → Int32) (m : Nat) : sL (fun b => D2 v b m) 10 0 < 2147483648 := Nat.lt_of_le_of_lt (sL_le (f := fun b => D2 v b m) (fun b => D2_le v b m) 10 0) (by omega)
/-- a complaint more, told in sums -/
theorem more_1 {v' : Nat → Nat → Int32} {a m k h : Nat} (ha : a < 10) (hm : m < 4) (hk : k < 2) (hh : h < 24) (hb : bt (v 8 (8 * a + 2 * m + k)) h = false) (e : v' 8 = upd (v 8) (8 * a + 2 * m + k) (v 8 (8 * a + 2 * m + k) ||| ((1 : Int32) <<< (nI h &&& 31)))) : nI (sL (D2 v' a) 4 0) = nI (sL (D2 v a) 4 0) + 1 ∧ nI (sL (fun b => D2 v' b m) 10 0) = nI (sL (fun b => D2 v b m) 10 0) + 1 ∧ ∀ t : Int, (SS v : Int) ≤ t → (SS v' : Int) ≤ t + 1 := by
  obtain ⟨d1, d2⟩ := D2_or ha hm hk hh hb e
  obtain ⟨s1, s2, s3⟩ := D2_sums ha hm d2
  exact ⟨by rw [arA s1 d1, nI_s], by rw [arA s2 d1, nI_s], arB s3 d1⟩
end LD
theorem rsn_cases (B0 B1 B2 : Bool) (w T : Int32) (k : Nat) (su : Bool) : ∃ r, r ≤ 6 ∧ rsnI B0 B1 B2 w T k su = nI r := by
  unfold rsnI
  split
  · exact ⟨1, by omega, rfl⟩
  split
  · exact ⟨2, by omega, rfl⟩
  split
  · exact ⟨3, by omega, rfl⟩
  split
  · exact ⟨4, by omega, rfl⟩
  split
  · exact ⟨5, by omega, rfl⟩
  split
  · split
    · exact ⟨5, by omega, rfl⟩
    · exact ⟨6, by omega, rfl⟩
  · exact ⟨0, by omega, rfl⟩
theorem rsn_0 {B0 B1 B2 : Bool} {w T : Int32} {k : Nat} {su : Bool} (h : rsnI B0 B1 B2 w T k su = 0) : B0 = false ∧ B1 = false ∧ B2 = false := by
  unfold rsnI at h
  cases B0
  · rw [if_neg (show ¬ false = true by decide)] at h
    cases B1
    · rw [if_neg (show ¬ false = true by decide)] at h
      cases B2
      · exact ⟨rfl, rfl, rfl⟩
      · rw [if_pos rfl] at h; exact absurd h (by decide)
    · rw [if_pos rfl] at h; exact absurd h (by decide)
  · rw [if_pos rfl] at h; exact absurd h (by decide)
