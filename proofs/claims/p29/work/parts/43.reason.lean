/-! PURE 4: reasons, votes, points. -/
def sL (f : Nat → Nat) : Nat → Nat → Nat
  | 0, _ => 0
  | n + 1, k => f k + sL f n (k + 1)
theorem sL_c {f g : Nat → Nat} : ∀ (n k : Nat), (∀ i, k ≤ i → i < k + n → f i = g i) → sL f n k = sL g n k
  | 0, _, _ => rfl
  | n + 1, k, h => by
    rw [sL, sL, h k (by omega) (by omega), sL_c n (k + 1) (fun i h1 h2 => h i (by omega) (by omega))]
theorem sL_add (f g : Nat → Nat) : ∀ (n k : Nat), sL (fun i => f i + g i) n k = sL f n k + sL g n k
  | 0, _ => rfl
  | n + 1, k => by
    rw [sL, sL, sL, sL_add f g n (k + 1)]; omega
theorem sL_z {f : Nat → Nat} : ∀ (n k : Nat), (∀ i, k ≤ i → i < k + n → f i = 0) → sL f n k = 0
  | 0, _, _ => rfl
  | n + 1, k, h => by
    rw [sL, h k (by omega) (by omega), sL_z n (k + 1) (fun i h1 h2 => h i (by omega) (by omega))]
theorem sL_app (f : Nat → Nat) : ∀ (n m k : Nat), sL f (n + m) k = sL f n k + sL f m (k + n)
  | 0, m, k => by rw [Nat.zero_add, sL, Nat.zero_add, Nat.add_zero]
  | n + 1, m, k => by
    rw [show n + 1 + m = (n + m) + 1 by omega, sL, sL, sL_app f n m (k + 1), show k + 1 + n = k + (n + 1) by omega]; omega
/-- a sum of few is the sum of all, where the rest is nothing -/
theorem sL_few {f : Nat → Nat} {n N : Nat} (h : n ≤ N) (hz : ∀ i, n ≤ i → i < N → f i = 0) : sL f n 0 = sL f N 0 := by
  rw [show N = n + (N - n) by omega, sL_app, sL_z (N - n) (0 + n) (fun i h1 h2 => hz i (by omega) (by omega))]; omega
theorem sL_le {f : Nat → Nat} {b : Nat} (hb : ∀ i, f i ≤ b) : ∀ (n k : Nat), sL f n k ≤ n * b
  | 0, _ => by rw [sL]; omega
  | n + 1, k => by
    have h1 := sL_le hb n (k + 1)
    have h2 := hb k
    rw [sL, Nat.succ_mul]; omega
theorem sL_sw (f : Nat → Nat → Nat) (m j : Nat) : ∀ (n k : Nat), sL (fun a => sL (f a) m j) n k = sL (fun b => sL (fun a => f a b) n k) m j
  | 0, k => by
    rw [sL]
    exact (sL_z m j (fun i _ _ => by rw [sL])).symm
  | n + 1, k => by
    rw [sL, sL_sw f m j n (k + 1), ← sL_add]
    exact sL_c m j (fun i _ _ => by rw [sL])
def bN (a : Int32) (h : Nat) : Nat := if bt a h then 1 else 0
theorem bN_le (a : Int32) (h : Nat) : bN a h ≤ 1 := by unfold bN; split <;> omega
theorem bN_0 (h : Nat) : bN 0 h = 0 := by
  unfold bN bt
  rw [show (0 : Int32).toBitVec = 0#32 from rfl, BitVec.getLsbD_zero]; rfl
theorem bit_N (a : Int32) {h : Nat} (hh : h < 24) : ((a >>> (nI h &&& 31)) &&& 1) = nI (bN a h) := by
  rw [bit_e a hh, bN]; split <;> rfl
def oN (a : Int32) : Nat := sL (bN a) 24 0
theorem onL_sL (a : Int32) : ∀ (n k : Nat), onL (un a) n k = sL (bN a) n k
  | 0, _ => rfl
  | n + 1, k => by
    rw [onL, sL, onL_sL a n (k + 1), bN, bt_nat]
theorem ones_N (a : Int32) : mX6_ones a = nI (oN a) := by
  unfold mX6_ones
  rw [tr_24, show (0 : Int32) = nI 0 from rfl, on_loop a 24 0 0 (by omega), onL_sL, Nat.zero_add]; rfl
theorem oN_0 : oN 0 = 0 := by
  unfold oN; exact sL_z 24 0 (fun i _ _ => bN_0 i)
theorem oN_le (a : Int32) : oN a ≤ 24 := by
  have := sL_le (bN_le a) 24 0; unfold oN; omega
theorem tr_2 : tr 0 2 = 2 := by decide +kernel
theorem tr_20 : tr 0 20 = 20 := by decide +kernel
theorem tr_8 : tr 0 8 = 8 := by decide +kernel
theorem nJ_in {i a b : Nat} (ha : a < 2147483648) (hb : b < 2147483648) (hi : i < 2147483648) : mX6_in (nI i) (nI a) (nI b) = if a ≤ i ∧ i ≤ b then 1 else 0 := by
  unfold mX6_in
  by_cases h1 : i < a
  · rw [if_pos ((nJ_lt hi ha).mpr h1), if_neg (by omega)]
  · rw [if_neg (fun z => h1 ((nJ_lt hi ha).mp z))]
    by_cases h2 : b < i
    · rw [if_pos ((nJ_lt hb hi).mpr h2), if_neg (by omega)]
    · rw [if_neg (fun z => h2 ((nJ_lt hb hi).mp z)), if_pos (by omega)]
section RD
variable {v : Nat → Nat → Int32} {x : Nat → Nat → Int32} {P : Nat}
def whyP (x : Nat → Nat → Int32) (pp a m k h : Int32) : Int32 := if 0 ≤ mX6_wrong x pp a m k h then mX6_reason x pp a m k h else mX6_wrong x pp a m k h
theorem kind_nI {k h : Int32} (hk : ¬ mX6_isRight k h = 0) : ∃ n, n < 2 ∧ k = nI n := by
  unfold mX6_isRight at hk
  by_cases c : mX6_in k 0 1 = 0
  · rw [if_pos c] at hk; exact absurd rfl hk
  · have := f6_in c
    have e0 : (0 : Int32).toInt = 0 := rfl
    have e1 : (1 : Int32).toInt = 1 := rfl
    exact of_rng (n := 2) (by omega) (by omega)
theorem z_hasMill (v : Nat → Nat → Int32) (i : Int32) : mX4_hasMill v i = 0 ∨ mX4_hasMill v i = 1 := by
  unfold mX4_hasMill; split
  · exact Or.inl rfl
  · split
    · exact Or.inl rfl
    · exact Or.inr rfl
theorem right_2 {k h : Int32} (hh : ¬ mX6_isHour h = 0) (h0 : ¬ k = 0) (h1 : ¬ k = 1) : mX6_isRight k h = 0 := by
  unfold mX6_isRight
  rw [if_pos]
  rw [in_iff]
  rw [i_eq] at h0 h1
  have e0 : (0 : Int32).toInt = 0 := rfl
  have e1 : (1 : Int32).toInt = 1 := rfl
  omega
theorem right_1 {n : Nat} {h : Int32} (hh : ¬ mX6_isHour h = 0) (hn : n < 2) : mX6_isRight (nI n) h = 1 := by
  unfold mX6_isRight
  rw [if_neg (fun z => by rw [show (0 : Int32) = nI 0 from rfl, show (1 : Int32) = nI 1 from rfl, nJ_in (by omega) (by omega) (by omega), if_pos (by omega)] at z; exact absurd z (by decide)), if_neg hh]
theorem e_reason (R : Rv v (rowP x P)) (ok : okR (rowP x P)) (hP : P ≤ 200) {a m k h : Nat} (ha : a < 10) (hm : m < 4) (hk : k < 2) (hh : h < 24) (c1 : ¬ mX4_hasHouse v (nI a) = 0) (c2 : ¬ mX4_hasMill v (nI m) = 0) : mX4_reasonAgainst v (nI a) (nI m) (nI k) (nI h) = mX6_reason x (nI P) (nI a) (nI m) (nI k) (nI h) := by
  have c3 : ¬ mX5_isHour (nI h) = 0 :=
    (show ∀ h : Fin 24, ¬ mX5_isHour (nI h.1) = 0 by decide +kernel) ⟨h, hh⟩
  unfold mX4_reasonAgainst mX6_reason
  rw [if_neg c1, if_neg c2, if_neg c3, e_stands R hP ha hm hk hh, e_isTied R hP hm hh, e_blows R hP hh, e_hasSun hh, e_troubles R ok hP ha hm hk hh, jS (by omega), bit_e _ hh]
  unfold mX4_isBarred
  rw [e_vain R hP ha]
  have tw : x 0 (((nI P + 34) + nI h)).toNatClampNeg < 2 → mX6_wouldTrouble x (nI P) (nI a) (nI m) (nI k) (nI h) = 0 := by
    intro c
    unfold mX6_wouldTrouble
    rw [if_neg (fun z => (w_2.mpr z) c)]
  have hsun : k = 1 → mX6_isSun (nI h) = 0 → mX6_wouldTrouble x (nI P) (nI a) (nI m) (nI k) (nI h) = 0 := by
    rintro rfl hs
    unfold mX6_wouldTrouble
    rw [if_neg (show ¬ nI 1 = 0 by decide)]
    obtain ⟨y, b, hy, hb, e1, e2, e3, e4⟩ := mcell R ok hP hm
    have : lenN b h = 0 := by
      have := e_reach hh hb e4
      unfold mX6_reach at this
      rw [hs] at this
      simp at this
      have h2 := (e_len0 hb hh).2
      have h3 : nI (lenN b h) = nI 0 := this.symm
      exact nI_inj (by omega) (by omega) h3
    unfold mX6_walks
    rw [e_reach hh hb e4, this, tr_0 (by omega)]
    split <;> rfl
  revert tw hsun
  generalize mX6_wouldTrouble x (nI P) (nI a) (nI m) (nI k) (nI h) = W
  generalize x 0 (((nI P + 34) + nI h)).toNatClampNeg = w
  generalize mX6_isSun (nI h) = S
  generalize mX6_isTied x (nI P) (nI m) (nI h) = T
  generalize x 0 ((((nI P + 14) + (2 * nI a)) + 1)).toNatClampNeg = V
  generalize bt (x 0 (P + (68 + (8 * a + 2 * m + k)))) h = B
  intro tw hsun
  have k1 : ¬ nI 1 = 0 := by decide
  have k0 : nI 0 = 0 := rfl
  have k1' : nI 1 = 1 := rfl
  have k01 : ¬ nI 0 = 1 := by decide
  have z10 : ¬ (1 : Int32) = 0 := by decide
  have z01 : ¬ (0 : Int32) = 1 := by decide
  have w2 := @w_2 w
  by_cases cV : V < 3
  · by_cases cw : w < 2
    · have cw2 : ¬ 2 ≤ w := fun z => (w2.mpr z) cw
      rcases (show k = 0 ∨ k = 1 by omega) with rfl | rfl
      · cases B <;> simp [cV, cw, cw2, k0, z01, z10]
      · cases B <;> simp [cV, cw, cw2, k1', z01, z10]
    · have cw2 := w2.mp cw
      rcases (show k = 0 ∨ k = 1 by omega) with rfl | rfl
      · cases B <;> simp [cV, cw, cw2, k0, z01, z10]
      · by_cases cS : S = 0
        · have := hsun rfl cS
          cases B <;> simp [cV, cw, cw2, k1', z01, z10, cS, this]
        · cases B <;> simp [cV, cw, cw2, k1', z01, z10, cS]
  · rcases (show k = 0 ∨ k = 1 by omega) with rfl | rfl
    · simp [cV, k0]
    · simp [cV, k1']
theorem e_why (R : Rv v (rowP x P)) (ok : okR (rowP x P)) (hP : P ≤ 200) (a m k h : Int32) : mX4_reasonAgainst v a m k h = whyP x (nI P) a m k h := by
  unfold whyP mX6_wrong
  have E1 := e_hasHouse R ok hP a
  have E2 := e_hasMill R ok hP m
  have E3 := e_isHour h
  by_cases c1 : mX6_isHouse x (nI P) a = 0
  · rw [if_pos c1, if_neg (by decide)]
    unfold mX4_reasonAgainst
    rw [E1, if_pos c1]
  · rw [if_neg c1]
    by_cases c2 : mX6_isMill x (nI P) m = 0
    · rw [if_pos c2, if_neg (by decide)]
      unfold mX4_reasonAgainst
      rw [E1, if_neg c1, E2, if_pos c2]
    · rw [if_neg c2]
      by_cases c3 : mX6_isHour h = 0
      · rw [if_pos c3, if_neg (by decide)]
        unfold mX4_reasonAgainst
        rw [E1, if_neg c1, E2, if_neg c2, E3, if_pos c3]
      · rw [if_neg c3]
        by_cases c4 : mX6_isRight k h = 0
        · rw [if_pos c4, if_neg (by decide)]
          unfold mX4_reasonAgainst
          have k0 : ¬ k = 0 := fun z => by
            rw [z, show (0 : Int32) = nI 0 from rfl, right_1 c3 (by omega)] at c4
            exact absurd c4 (by decide)
          have k1 : ¬ k = 1 := fun z => by
            rw [z, show (1 : Int32) = nI 1 from rfl, right_1 c3 (by omega)] at c4
            exact absurd c4 (by decide)
          rw [E1, if_neg c1, E2, if_neg c2, E3, if_neg c3, if_neg k0, if_neg k1]
        · rw [if_neg c4, if_pos (by decide)]
          obtain ⟨n1, g1, f1, -⟩ := house_nI ok hP c1
          obtain ⟨n2, g2, f2, -⟩ := mill_nI ok hP c2
          obtain ⟨n3, g3, f3⟩ := hour_nI c3
          obtain ⟨n4, g4, f4⟩ := kind_nI c4
          rw [f1, f2, f3, f4]
          rw [f1] at E1 c1
          rw [f2] at E2 c2
          exact e_reason R ok hP g1 g2 g4 g3 (by rw [E1]; exact c1) (by rw [E2]; exact c2)
end RD
