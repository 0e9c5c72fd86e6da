/-! PURE 5: sums over houses, mills and hours. -/
theorem nI_sub {a b : Nat} (h : b ≤ a) (ha : a < 2147483648) : nI a - nI b = nI (a - b) := by
  rw [i_eq, ti_sub (nI_toInt (by omega)) (nI_toInt (by omega)) (by omega), nI_toInt (by omega)]; omega
theorem rowP0 (x : Nat → Nat → Int32) : rowP x 0 = x 0 := by
  funext i; show x 0 (0 + i) = x 0 i; rw [Nat.zero_add]
theorem sum20 (f : Nat → Nat → Nat) : sL (fun k => f (k / 2) (k % 2)) 20 0 = sL (fun a => f a 0 + f a 1) 10 0 := by
  simp only [sL]
  show f 0 0 + (f 0 1 + (f 1 0 + (f 1 1 + (f 2 0 + (f 2 1 + (f 3 0 + (f 3 1 + (f 4 0 + (f 4 1 + (f 5 0 + (f 5 1 + (f 6 0 + (f 6 1 + (f 7 0 + (f 7 1 + (f 8 0 + (f 8 1 + (f 9 0 + (f 9 1 + 0))))))))))))))))))) = f 0 0 + f 0 1 + (f 1 0 + f 1 1 + (f 2 0 + f 2 1 + (f 3 0 + f 3 1 + (f 4 0 + f 4 1 + (f 5 0 + f 5 1 + (f 6 0 + f 6 1 + (f 7 0 + f 7 1 + (f 8 0 + f 8 1 + (f 9 0 + f 9 1 + 0)))))))))
  simp only [Nat.add_assoc]
section PT
variable {v : Nat → Nat → Int32} {x : Nat → Nat → Int32} {P : Nat}
def stN (r : Nat → Int32) (m h a : Nat) : Nat := bN (r (68 + (8 * a + 2 * m + 0))) h + bN (r (68 + (8 * a + 2 * m + 1))) h
theorem e_stN (R : Rv v (rowP x P)) (hP : P ≤ 200) {a m k h : Nat} (ha : a < 10) (hm : m < 4) (hk : k < 2) (hh : h < 24) : mX4_stands v (nI a) (nI m) (nI k) (nI h) = nI (bN (rowP x P (68 + (8 * a + 2 * m + k))) h) := by
  rw [e_stands R hP ha hm hk hh, bN]; split <;> rfl
theorem e_stFor (R : Rv v (rowP x P)) (hP : P ≤ 200) {a m h : Nat} (ha : a < 10) (hm : m < 4) (hh : h < 24) : mX4_standingFor v (nI a) (nI m) (nI h) = nI (stN (rowP x P) m h a) := by
  unfold mX4_standingFor
  rw [tr_2]
  simp only [mX4_standingFor_6]
  rw [show (0 : Int32) + 1 = nI 1 from rfl, e_stN R hP ha hm (by omega) hh (k := 1), show (0 : Int32) = nI 0 from rfl, e_stN R hP ha hm (by omega) hh (k := 0)]
  unfold stN
  have h0 := bN_le (rowP x P (68 + (8 * a + 2 * m + 0))) h
  have h1 := bN_le (rowP x P (68 + (8 * a + 2 * m + 1))) h
  revert h0 h1
  generalize bN (rowP x P (68 + (8 * a + 2 * m + 0))) h = A
  generalize bN (rowP x P (68 + (8 * a + 2 * m + 1))) h = B
  intro h0 h1
  rcases (show A = 0 ∨ A = 1 by omega) with rfl | rfl <;> rcases (show B = 0 ∨ B = 1 by omega) with rfl | rfl <;> rfl
theorem pts_loop (R : Rv v (rowP x P)) (hP : P ≤ 200) {m h : Nat} (hm : m < 4) (hh : h < 24) : ∀ (n k s : Nat), k + n ≤ 10 → mX4_points_5 v (nI m) (nI h) (fun _ y => y) n (nI k) (nI s) = nI (s + sL (stN (rowP x P) m h) n k)
  | 0, k, s, _ => rfl
  | n + 1, k, s, hk => by
    rw [mX4_points_5, e_stFor R hP (by omega) hm hh, nI_add, nI_s, pts_loop R hP hm hh n (k + 1) _ (by omega), sL]
    congr 1; omega
theorem pts6_loop (R : Rv v (rowP x P)) (hP : P ≤ 200) {m h : Nat} (hm : m < 4) (hh : h < 24) : ∀ (n k s : Nat), k + n ≤ 20 → mX6_points_6 x (nI P) (nI m) (nI h) (fun _ y => y) n (nI k) (nI s) = nI (s + sL (fun k => bN (rowP x P (68 + (8 * (k / 2) + 2 * m + k % 2))) h) n k)
  | 0, k, s, _ => rfl
  | n + 1, k, s, hk => by
    have e1 : nI k / 2 = nI (k / 2) ∧ nI k - nI k / 2 * 2 = nI (k % 2) :=
      (show ∀ k : Fin 20, nI k.1 / 2 = nI (k.1 / 2) ∧ nI k.1 - nI k.1 / 2 * 2 = nI (k.1 % 2) by decide +kernel) ⟨k, by omega⟩
    rw [mX6_points_6, e1.2, e1.1, jS (by omega), bit_N _ hh, nI_add, nI_s, pts6_loop R hP hm hh n (k + 1) _ (by omega), sL]
    exact congrArg nI (Nat.add_assoc _ _ _)
theorem p_class (R : Rv v (rowP x P)) (ok : okR (rowP x P)) (hP : P ≤ 200) {m h : Nat} (hm : m < 4) (hh : h < 24) : mX4_points v (nI m) (nI h) = nI (sL (stN (rowP x P) m h) 10 0) := by
  obtain ⟨n, hn, e⟩ := ok.H
  unfold mX4_points
  rw [R.nh, e, tr_0 (by omega), show (0 : Int32) = nI 0 from rfl, pts_loop R hP hm hh n 0 0 (by omega), Nat.zero_add]
  congr 1
  refine sL_few hn (fun i h1 h2 => ?_)
  unfold stN
  rw [ok.szH n i m 0 e h1 h2 hm (by omega), ok.szH n i m 1 e h1 h2 hm (by omega), bN_0]
theorem p_model (R : Rv v (rowP x P)) (hP : P ≤ 200) {m h : Nat} (hm : m < 4) (hh : h < 24) : mX6_points x (nI P) (nI m) (nI h) = nI (sL (stN (rowP x P) m h) 10 0) := by
  have key : sL (fun k => bN (rowP x P (68 + (8 * (k / 2) + 2 * m + k % 2))) h) 20 0 = sL (stN (rowP x P) m h) 10 0 :=
    (sum20 (fun a k => bN (rowP x P (68 + (8 * a + 2 * m + k))) h)).trans (sL_c 10 0 (fun i _ _ => rfl))
  have e := pts6_loop R hP hm hh 20 0 0 (by omega)
  rw [key, Nat.zero_add, nI_0] at e
  unfold mX6_points
  rw [tr_20]
  exact e
theorem e_points (R : Rv v (rowP x P)) (ok : okR (rowP x P)) (hP : P ≤ 200) {m h : Nat} (hm : m < 4) (hh : h < 24) : mX4_points v (nI m) (nI h) = mX6_points x (nI P) (nI m) (nI h) := by
  rw [p_class R ok hP hm hh, p_model R hP hm hh]
end PT
section P0
variable {v : Nat → Nat → Int32} {x : Nat → Nat → Int32}
def tfN (x : Nat → Nat → Int32) (m h a : Nat) : Nat := if mX6_wouldTroubleAny x 0 (nI a) (nI m) (nI h) = 0 then 0 else 1
theorem tfN_le (x : Nat → Nat → Int32) (m h a : Nat) : tfN x m h a ≤ 1 := by unfold tfN; split <;> omega
def tN (x : Nat → Nat → Int32) (m h : Nat) (H : Nat) : Nat := sL (tfN x m h) H 0
theorem tN_le (x : Nat → Nat → Int32) (m h H : Nat) : tN x m h H ≤ H := by
  have := sL_le (tfN_le x m h) H 0; unfold tN; omega
theorem tr_loop (R : Rv v (rowP x 0)) (ok : okR (rowP x 0)) {m h : Nat} (hm : m < 4) (hh : h < 24) : ∀ (n k s : Nat), k + n ≤ 10 → mX4_troubledIfUntied_5 v (nI m) (nI h) (fun _ y => y) n (nI k) (nI s) = nI (s + sL (tfN x m h) n k)
  | 0, k, s, _ => rfl
  | n + 1, k, s, hk => by
    have t0 := e_troubles R ok (by omega) (a := k) (m := m) (k := 0) (h := h) (by omega) hm (by omega) hh
    have t1 := e_troubles R ok (by omega) (a := k) (m := m) (k := 1) (h := h) (by omega) hm (by omega) hh
    rw [nI_0] at t0 t1
    rw [show nI 1 = 1 from rfl] at t1
    have hf : tfN x m h k = if mX6_wouldTrouble x 0 (nI k) (nI m) 0 (nI h) = 0 then (if mX6_wouldTrouble x 0 (nI k) (nI m) 1 (nI h) = 0 then 0 else 1) else 1 := by
      unfold tfN mX6_wouldTroubleAny
      split
      · split <;> rfl
      · rfl
    rw [mX4_troubledIfUntied_5, t0, t1, nI_s, nI_s, tr_loop R ok hm hh n (k + 1) _ (by omega), tr_loop R ok hm hh n (k + 1) _ (by omega), sL, hf]
    split
    · split
      · congr 1; omega
      · congr 1; omega
    · congr 1; omega
theorem vt_loop (R : Rv v (rowP x 0)) (ok : okR (rowP x 0)) {m h : Nat} : ∀ (n k s : Nat), k + n ≤ 10 → mX6_votes_5 x (nI m) (nI h) (fun _ y => y) n (nI k) (nI s) = nI (s + sL (fun a => 1 - tfN x m h a) n k)
  | 0, k, s, _ => rfl
  | n + 1, k, s, hk => by
    rw [mX6_votes_5, show (0 : Int32) = nI 0 from rfl, nI_add, nI_s, nI_s, vt_loop R ok n (k + 1) _ (by omega), vt_loop R ok n (k + 1) _ (by omega), sL, nI_0]
    unfold tfN
    split
    · congr 1; omega
    · rw [Nat.sub_self, Nat.zero_add, Nat.add_zero]
theorem hN (R : Rv v (rowP x 0)) (ok : okR (rowP x 0)) : ∃ n, n ≤ 10 ∧ x 0 13 = nI n ∧ v 10 0 = nI n := by
  obtain ⟨n, hn, e⟩ := ok.H
  exact ⟨n, hn, e, by rw [R.nh, e]⟩
theorem mN (R : Rv v (rowP x 0)) (ok : okR (rowP x 0)) : ∃ n, n ≤ 4 ∧ x 0 0 = nI n ∧ v 9 0 = nI n := by
  obtain ⟨n, hn, e⟩ := ok.M
  exact ⟨n, hn, e, by rw [R.nm, e]⟩
theorem c_troubled (R : Rv v (rowP x 0)) (ok : okR (rowP x 0)) {m h n : Nat} (hm : m < 4) (hh : h < 24) (e : x 0 13 = nI n) (hn : n ≤ 10) : mX4_troubledIfUntied v (nI m) (nI h) = nI (tN x m h n) := by
  unfold mX4_troubledIfUntied
  rw [show v 10 0 = nI n by rw [R.nh]; exact e, tr_0 (by omega), show (0 : Int32) = nI 0 from rfl, tr_loop R ok hm hh n 0 0 (by omega), Nat.zero_add]; rfl
theorem m_votes (R : Rv v (rowP x 0)) (ok : okR (rowP x 0)) {m h n : Nat} (e : x 0 13 = nI n) (hn : n ≤ 10) : mX6_votes x (nI m) (nI h) = nI (n - tN x m h n) := by
  unfold mX6_votes
  rw [e, tr_0 (by omega), show (0 : Int32) = nI 0 from rfl, vt_loop R ok n 0 0 (by omega), Nat.zero_add]
  congr 1
  have h1 := sL_add (tfN x m h) (fun a => 1 - tfN x m h a) n 0
  have h2 : sL (fun i => tfN x m h i + (1 - tfN x m h i)) n 0 = n := by
    have : ∀ n k, sL (fun i => tfN x m h i + (1 - tfN x m h i)) n k = n := by
      intro n
      induction n with
      | zero => intro k; rfl
      | succ n ih =>
        intro k
        have := tfN_le x m h k
        rw [sL, ih]; omega
    exact this n 0
  unfold tN
  omega
theorem e_votes (R : Rv v (rowP x 0)) (ok : okR (rowP x 0)) {m h : Nat} (hm : m < 4) (hh : h < 24) : mX4_votesForUntying v (nI m) (nI h) = mX6_votes x (nI m) (nI h) := by
  obtain ⟨n, hn, e, e2⟩ := hN R ok
  unfold mX4_votesForUntying
  rw [m_votes R ok e hn, c_troubled R ok hm hh e hn, e2, nI_sub (tN_le x m h n) (by omega)]
theorem m_troubles (R : Rv v (rowP x 0)) (ok : okR (rowP x 0)) {m h n : Nat} (e : x 0 13 = nI n) (hn : n ≤ 10) : mX6_troubles x (nI m) (nI h) = nI (tN x m h n) := by
  unfold mX6_troubles
  rw [m_votes R ok e hn, e, nI_sub (by omega) (by omega)]
  have := tN_le x m h n
  congr 1; omega
theorem e_troubledI (R : Rv v (rowP x 0)) (ok : okR (rowP x 0)) {m h : Nat} (hm : m < 4) (hh : h < 24) : mX4_troubledIfUntied v (nI m) (nI h) = mX6_troubles x (nI m) (nI h) := by
  obtain ⟨n, hn, e, e2⟩ := hN R ok
  rw [m_troubles R ok e hn, c_troubled R ok hm hh e hn]
end P0
