/-! PURE 1: sets of hours as bits; the bit count. -/
def bt (a : Int32) (h : Nat) : Bool := a.toBitVec.getLsbD h
theorem and1_bt (a : Int32) : a &&& 1 = if bt a 0 then 1 else 0 := by
  have h : (a &&& 1).toBitVec.toNat = a.toBitVec.toNat % 2 := by
    rw [Int32.toBitVec_and, BitVec.toNat_and]
    show a.toBitVec.toNat &&& 1 = _
    exact Nat.and_one_is_mod _
  apply Int32.toBitVec_inj.mp; apply BitVec.eq_of_toNat_eq; rw [h]
  unfold bt
  rw [← BitVec.testBit_toNat]
  rcases Nat.mod_two_eq_zero_or_one a.toBitVec.toNat with h0 | h0
  · rw [h0, if_neg]; rfl
    simp [Nat.testBit, h0]
  · rw [h0, if_pos]; rfl
    simp [Nat.testBit, h0]
theorem sm31 {h : Nat} (hh : h < 24) : ((nI h &&& 31).toBitVec.smod 32) = BitVec.ofNat 32 h :=
  (show ∀ h : Fin 24, ((nI h.1 &&& 31).toBitVec.smod 32) = BitVec.ofNat 32 h.1 by decide +kernel) ⟨h, hh⟩
theorem bt_shr (a : Int32) {h : Nat} (hh : h < 24) : bt (a >>> (nI h &&& 31)) 0 = bt a h := by
  unfold bt
  rw [Int32.toBitVec_shiftRight, sm31 hh]
  show (a.toBitVec.sshiftRight ((BitVec.ofNat 32 h).toNat)).getLsbD 0 = _
  rw [BitVec.getLsbD_sshiftRight, BitVec.toNat_ofNat, Nat.mod_eq_of_lt (by omega)]
  simp
  intro h1; omega
theorem bt_shl {h : Nat} (hh : h < 24) (k : Nat) : bt ((1 : Int32) <<< (nI h &&& 31)) k = decide (k = h) := by
  unfold bt
  rw [Int32.toBitVec_shiftLeft, sm31 hh]
  show ((1 : BitVec 32) <<< ((BitVec.ofNat 32 h).toNat)).getLsbD k = _
  rw [BitVec.toNat_ofNat, Nat.mod_eq_of_lt (by omega), BitVec.getLsbD_shiftLeft]
  by_cases hk : k = h
  · subst hk
    simp; omega
  · rw [show decide (k = h) = false from decide_eq_false hk]
    by_cases h2 : k < h
    · simp [h2]
    · simp [h2]
      intro h3
      omega
theorem bit_e (a : Int32) {h : Nat} (hh : h < 24) : ((a >>> (nI h &&& 31)) &&& 1) = if bt a h then 1 else 0 := by
  rw [and1_bt, bt_shr a hh]
theorem bt_or (a b : Int32) (k : Nat) : bt (a ||| b) k = (bt a k || bt b k) := by
  unfold bt; rw [Int32.toBitVec_or, BitVec.getLsbD_or]
theorem bt_and (a b : Int32) (k : Nat) : bt (a &&& b) k = (bt a k && bt b k) := by
  unfold bt; rw [Int32.toBitVec_and, BitVec.getLsbD_and]
theorem bt_not1 {h : Nat} (hh : h < 24) {k : Nat} (hk : k < 32) : bt (((1 : Int32) <<< (nI h &&& 31)) ^^^ (-1)) k = decide (k ≠ h) := by
  have h1 := bt_shl hh k
  have h2 : (-1 : Int32).toBitVec = BitVec.allOnes 32 := by decide
  unfold bt at h1 ⊢
  rw [Int32.toBitVec_xor, BitVec.getLsbD_xor, h1, h2, BitVec.getLsbD_allOnes]
  simp [hk]
theorem bt_ge (a : Int32) {k : Nat} (hk : 32 ≤ k) : bt a k = false := by
  unfold bt; exact BitVec.getLsbD_of_ge _ _ hk
theorem bt_ext {a b : Int32} (h : ∀ k, k < 32 → bt a k = bt b k) : a = b := by
  apply Int32.toBitVec_inj.mp
  exact BitVec.eq_of_getLsbD_eq (fun i hi => h i hi)
/-- a set of hours -/
def hs (a : Int32) : Prop := ∀ k, 24 ≤ k → bt a k = false
theorem hs_0 : hs 0 := fun k hk => by unfold bt; exact BitVec.getLsbD_zero
theorem hs_or {a : Int32} (ha : hs a) {h : Nat} (hh : h < 24) : hs (a ||| ((1 : Int32) <<< (nI h &&& 31))) := by
  intro k hk
  rw [bt_or, ha k hk, bt_shl hh]
  simp; omega
theorem hs_and {a : Int32} (ha : hs a) (b : Int32) : hs (a &&& b) := by
  intro k hk
  rw [bt_and, ha k hk]; rfl
theorem hs_lt {a : Int32} (ha : hs a) : a.toBitVec.toNat < 2 ^ 24 := by
  apply Nat.lt_pow_two_of_testBit
  intro i hi
  rw [BitVec.testBit_toNat]
  exact ha i hi
def q1 (a : Int32) : Int32 := a - (((a.toUInt32 >>> ((1 : Int32).toUInt32 &&& Int32.toUInt32 31)).toInt32) &&& 1431655765)
def q2 (b : Int32) : Int32 := (b &&& 858993459) + (((b.toUInt32 >>> ((2 : Int32).toUInt32 &&& Int32.toUInt32 31)).toInt32) &&& 858993459)
def q3 (c : Int32) : Int32 := (c + ((c.toUInt32 >>> ((4 : Int32).toUInt32 &&& Int32.toUInt32 31)).toInt32)) &&& 252645135
def q4 (d : Int32) : Int32 := d + ((d.toUInt32 >>> ((8 : Int32).toUInt32 &&& Int32.toUInt32 31)).toInt32)
def q5 (d : Int32) : Int32 := d + ((d.toUInt32 >>> ((16 : Int32).toUInt32 &&& Int32.toUInt32 31)).toInt32)
theorem bc_eq (a : Int32) : mJ6_bitCount_0f7a4 a = q5 (q4 (q3 (q2 (q1 a)))) &&& 63 := rfl
abbrev un (a : Int32) : Nat := a.toBitVec.toNat
theorem un_shr (a : Int32) (k : Int32) (j : Nat) (h : (k.toUInt32 &&& Int32.toUInt32 31).toBitVec.toNat % 32 = j) : un ((a.toUInt32 >>> (k.toUInt32 &&& Int32.toUInt32 31)).toInt32) = un a / 2 ^ j := by
  show ((a.toUInt32 >>> (k.toUInt32 &&& Int32.toUInt32 31)).toBitVec).toNat = _
  rw [UInt32.toBitVec_shiftRight]
  show ((a.toUInt32.toBitVec) >>> (((k.toUInt32 &&& Int32.toUInt32 31).toBitVec % 32))).toNat = _
  show (a.toUInt32.toBitVec >>> (BitVec.toNat ((k.toUInt32 &&& Int32.toUInt32 31).toBitVec % 32))).toNat = _
  rw [BitVec.toNat_ushiftRight, BitVec.toNat_umod, Nat.shiftRight_eq_div_pow]
  rw [show (BitVec.toNat (32 : BitVec 32)) = 32 from rfl, h]
  rfl
theorem un_add {a b : Int32} (h : un a + un b < 4294967296) : un (a + b) = un a + un b := by
  show (a + b).toBitVec.toNat = _
  rw [Int32.toBitVec_add, BitVec.toNat_add]
  exact Nat.mod_eq_of_lt h
theorem un_sub {a b : Int32} (h : un b ≤ un a) : un (a - b) = un a - un b := by
  show (a - b).toBitVec.toNat = _
  rw [Int32.toBitVec_sub, BitVec.toNat_sub]
  have h1 : un a < 2 ^ 32 := BitVec.isLt _
  have h2 : un b < 2 ^ 32 := BitVec.isLt _
  unfold un at *
  omega
theorem un_and (a b : Int32) : un (a &&& b) = un a &&& un b := by
  show (a &&& b).toBitVec.toNat = _
  rw [Int32.toBitVec_and, BitVec.toNat_and]
theorem and8 (u v m M : Nat) (hu : u < 256) (hm : m < 256) : (u + 256 * v) &&& (m + 256 * M) = (u &&& m) + 256 * (v &&& M) := by
  have h1 := Nat.and_mod_two_pow (a := u + 256 * v) (b := m + 256 * M) (n := 8)
  have h2 := Nat.and_div_two_pow (a := u + 256 * v) (b := m + 256 * M) (n := 8)
  rw [show (u + 256 * v) % 2 ^ 8 = u by omega, show (m + 256 * M) % 2 ^ 8 = m by omega] at h1
  rw [show (u + 256 * v) / 2 ^ 8 = v by omega, show (m + 256 * M) / 2 ^ 8 = M by omega] at h2
  omega
theorem and24 (a b c m : Nat) (ha : a < 256) (hb : b < 256) (hc : c < 256) (hm : m < 256) (M : Nat) : (a + 256 * (b + 256 * c)) &&& (m + 256 * (m + 256 * (m + 256 * M))) = (a &&& m) + 256 * ((b &&& m) + 256 * (c &&& m)) := by
  rw [and8 a _ m _ ha hm, and8 b _ m _ hb hm]
  have h3 := and8 c 0 m M hc hm
  rw [Nat.mul_zero, Nat.add_zero, Nat.zero_and, Nat.mul_zero, Nat.add_zero] at h3
  rw [h3]
def b1 (x : Nat) : Nat := x - (x / 2 &&& 85)
def b2 (x : Nat) : Nat := (x &&& 51) + (x / 4 &&& 51)
def b3 (x : Nat) : Nat := (x + x / 16) &&& 15
theorem t1 : ∀ x : Fin 256, ∀ d : Fin 2, (x.1 / 2 + 128 * d.1) &&& 85 = x.1 / 2 &&& 85 := by decide +kernel
theorem t1' : ∀ x : Fin 256, x.1 / 2 &&& 85 ≤ x.1 ∧ b1 x.1 < 256 := by decide +kernel
theorem t2 : ∀ x : Fin 256, ∀ d : Fin 4, (x.1 / 4 + 64 * d.1) &&& 51 = x.1 / 4 &&& 51 := by decide +kernel
theorem t2' : ∀ x : Fin 256, b2 (b1 x.1) % 16 ≤ 4 ∧ b2 (b1 x.1) / 16 ≤ 4 ∧ (x.1 &&& 51) + (x.1 / 4 &&& 51) < 256 := by decide +kernel
theorem t3 : ∀ x : Fin 256, ∀ d : Fin 5, x.1 % 16 ≤ 4 → x.1 / 16 ≤ 4 → x.1 + x.1 / 16 + 16 * d.1 < 256 ∧ (x.1 + x.1 / 16 + 16 * d.1) &&& 15 = (x.1 + x.1 / 16) &&& 15 ∧ (x.1 + x.1 / 16) &&& 15 ≤ 8 := by decide +kernel
def pc8 (x : Nat) : Nat := x % 2 + x / 2 % 2 + x / 4 % 2 + x / 8 % 2 + x / 16 % 2 + x / 32 % 2 + x / 64 % 2 + x / 128 % 2
theorem t4 : ∀ x : Fin 256, b3 (b2 (b1 x.1)) = pc8 x.1 := by decide +kernel
theorem un_q1 {a : Int32} {x y z : Nat} (hx : x < 256) (hy : y < 256) (hz : z < 256) (h : un a = x + 256 * (y + 256 * z)) : un (q1 a) = b1 x + 256 * (b1 y + 256 * b1 z) := by
  unfold q1
  have e : un (((a.toUInt32 >>> ((1 : Int32).toUInt32 &&& Int32.toUInt32 31)).toInt32) &&& 1431655765) = (x / 2 &&& 85) + 256 * ((y / 2 &&& 85) + 256 * (z / 2 &&& 85)) := by
    rw [un_and, un_shr a 1 1 (by decide), h, show (x + 256 * (y + 256 * z)) / 2 ^ 1 = (x / 2 + 128 * (y % 2)) + 256 * ((y / 2 + 128 * (z % 2)) + 256 * (z / 2)) by omega]
    rw [show un (1431655765 : Int32) = 85 + 256 * (85 + 256 * (85 + 256 * 85)) by decide]
    rw [and24 _ _ _ _ (by omega) (by omega) (by omega) (by omega)]
    rw [t1 ⟨x, hx⟩ ⟨y % 2, by omega⟩, t1 ⟨y, hy⟩ ⟨z % 2, by omega⟩]
  have k1 := (t1' ⟨x, hx⟩).1
  have k2 := (t1' ⟨y, hy⟩).1
  have k3 := (t1' ⟨z, hz⟩).1
  dsimp only at k1 k2 k3
  rw [un_sub (by rw [e, h]; omega), e, h]
  unfold b1
  omega
theorem un_q2 {a : Int32} {x y z : Nat} (hx : x < 256) (hy : y < 256) (hz : z < 256) (h : un a = x + 256 * (y + 256 * z)) : un (q2 a) = b2 x + 256 * (b2 y + 256 * b2 z) := by
  unfold q2
  have e : un (((a.toUInt32 >>> ((2 : Int32).toUInt32 &&& Int32.toUInt32 31)).toInt32) &&& 858993459) = (x / 4 &&& 51) + 256 * ((y / 4 &&& 51) + 256 * (z / 4 &&& 51)) := by
    rw [un_and, un_shr a 2 2 (by decide), h, show (x + 256 * (y + 256 * z)) / 2 ^ 2 = (x / 4 + 64 * (y % 4)) + 256 * ((y / 4 + 64 * (z % 4)) + 256 * (z / 4)) by omega]
    rw [show un (858993459 : Int32) = 51 + 256 * (51 + 256 * (51 + 256 * 51)) by decide]
    rw [and24 _ _ _ _ (by omega) (by omega) (by omega) (by omega)]
    rw [t2 ⟨x, hx⟩ ⟨y % 4, by omega⟩, t2 ⟨y, hy⟩ ⟨z % 4, by omega⟩]
  have e2 : un (a &&& 858993459) = (x &&& 51) + 256 * ((y &&& 51) + 256 * (z &&& 51)) := by
    rw [un_and, h, show un (858993459 : Int32) = 51 + 256 * (51 + 256 * (51 + 256 * 51)) by decide]
    rw [and24 _ _ _ _ (by omega) (by omega) (by omega) (by omega)]
  have k1 := (t2' ⟨x, hx⟩).2.2
  have k2 := (t2' ⟨y, hy⟩).2.2
  have k3 := (t2' ⟨z, hz⟩).2.2
  dsimp only at k1 k2 k3
  rw [un_add (by rw [e, e2]; omega), e, e2]
  unfold b2
  omega
theorem un_q3 {a : Int32} {x y z : Nat} (hx : x < 256 ∧ x % 16 ≤ 4 ∧ x / 16 ≤ 4) (hy : y < 256 ∧ y % 16 ≤ 4 ∧ y / 16 ≤ 4) (hz : z < 256 ∧ z % 16 ≤ 4 ∧ z / 16 ≤ 4) (h : un a = x + 256 * (y + 256 * z)) : un (q3 a) = b3 x + 256 * (b3 y + 256 * b3 z) := by
  unfold q3
  have e : un ((a.toUInt32 >>> ((4 : Int32).toUInt32 &&& Int32.toUInt32 31)).toInt32) = (x / 16 + 16 * (y % 16)) + 256 * ((y / 16 + 16 * (z % 16)) + 256 * (z / 16)) := by
    rw [un_shr a 4 4 (by decide), h]
    omega
  have k1 := (t3 ⟨x, hx.1⟩ ⟨y % 16, by omega⟩ hx.2.1 hx.2.2)
  have k2 := (t3 ⟨y, hy.1⟩ ⟨z % 16, by omega⟩ hy.2.1 hy.2.2)
  have k3 := (t3 ⟨z, hz.1⟩ ⟨0, by omega⟩ hz.2.1 hz.2.2)
  dsimp only at k1 k2 k3
  rw [un_and, un_add (by rw [e, h]; omega), e, h]
  rw [show x + 256 * (y + 256 * z) + ((x / 16 + 16 * (y % 16)) + 256 * ((y / 16 + 16 * (z % 16)) + 256 * (z / 16))) = (x + x / 16 + 16 * (y % 16)) + 256 * ((y + y / 16 + 16 * (z % 16)) + 256 * (z + z / 16 + 16 * 0)) by omega]
  rw [show un (252645135 : Int32) = 15 + 256 * (15 + 256 * (15 + 256 * 15)) by decide]
  rw [and24 _ _ _ _ k1.1 k2.1 k3.1 (by omega), k1.2.1, k2.2.1, k3.2.1]
  rfl
theorem un_bc {a : Int32} {x y z : Nat} (hx : x < 256) (hy : y < 256) (hz : z < 256) (h : un a = x + 256 * (y + 256 * z)) : un (mJ6_bitCount_0f7a4 a) = pc8 x + pc8 y + pc8 z := by
  rw [bc_eq]
  have e1 := un_q1 hx hy hz h
  have e2 := un_q2 (t1' ⟨x, hx⟩).2 (t1' ⟨y, hy⟩).2 (t1' ⟨z, hz⟩).2 e1
  have s1 := t2' ⟨x, hx⟩
  have s2 := t2' ⟨y, hy⟩
  have s3 := t2' ⟨z, hz⟩
  dsimp only at s1 s2 s3
  have e3 := un_q3 ⟨by omega, s1.1, s1.2.1⟩ ⟨by omega, s2.1, s2.2.1⟩ ⟨by omega, s3.1, s3.2.1⟩ e2
  have u1 : pc8 x ≤ 8 := by unfold pc8; omega
  have u2 : pc8 y ≤ 8 := by unfold pc8; omega
  have u3 : pc8 z ≤ 8 := by unfold pc8; omega
  rw [t4 ⟨x, hx⟩, t4 ⟨y, hy⟩, t4 ⟨z, hz⟩] at e3
  dsimp only at e3
  have e4 : un (q4 (q3 (q2 (q1 a)))) = (pc8 x + pc8 y) + 256 * ((pc8 y + pc8 z) + 256 * pc8 z) := by
    unfold q4
    have f : un (((q3 (q2 (q1 a))).toUInt32 >>> ((8 : Int32).toUInt32 &&& Int32.toUInt32 31)).toInt32) = pc8 y + 256 * pc8 z := by
      rw [un_shr _ 8 8 (by decide), e3]; omega
    rw [un_add (by rw [f, e3]; omega), f, e3]; omega
  have e5 : un (q5 (q4 (q3 (q2 (q1 a))))) = (pc8 x + pc8 y + pc8 z) + 256 * ((pc8 y + pc8 z) + 256 * pc8 z) := by
    unfold q5
    have f : un (((q4 (q3 (q2 (q1 a)))).toUInt32 >>> ((16 : Int32).toUInt32 &&& Int32.toUInt32 31)).toInt32) = pc8 z := by
      rw [un_shr _ 16 16 (by decide), e4]; omega
    rw [un_add (by rw [f, e4]; omega), f, e4]; omega
  rw [un_and, e5, show un (63 : Int32) = 63 by decide]
  have := Nat.and_two_pow_sub_one_eq_mod ((pc8 x + pc8 y + pc8 z) + 256 * ((pc8 y + pc8 z) + 256 * pc8 z)) 6
  rw [show 2 ^ 6 - 1 = 63 from rfl] at this
  rw [this]; omega

theorem un_nI {n : Nat} (h : n < 4294967296) : un (nI n) = n := by
  show (Int32.ofNat n).toBitVec.toNat = n
  rw [show (Int32.ofNat n).toBitVec = BitVec.ofNat 32 n from rfl, BitVec.toNat_ofNat]
  exact Nat.mod_eq_of_lt h
theorem un_ext {a b : Int32} (h : un a = un b) : a = b := by
  apply Int32.toBitVec_inj.mp
  exact BitVec.eq_of_toNat_eq h
def onL (a : Nat) : Nat → Nat → Nat
  | 0, _ => 0
  | n + 1, k => a / 2 ^ k % 2 + onL a n (k + 1)
theorem bt_nat (a : Int32) (k : Nat) : (if bt a k then (1 : Nat) else 0) = un a / 2 ^ k % 2 := by
  unfold bt
  rw [← BitVec.testBit_toNat, Nat.testBit_eq_decide_div_mod_eq]
  have := Nat.mod_two_eq_zero_or_one (un a / 2 ^ k)
  rcases this with h | h <;> simp [un] at h ⊢ <;> simp [h]
theorem nI_if (c : Bool) : (if c then (1 : Int32) else 0) = nI (if c then 1 else 0) := by cases c <;> rfl
theorem on_loop (a : Int32) : ∀ (n k s : Nat), k + n ≤ 24 → mX6_ones_4 a (fun _ y => y) n (nI k) (nI s) = nI (s + onL (un a) n k)
  | 0, k, s, _ => by rfl
  | n + 1, k, s, h => by
    rw [mX6_ones_4, bit_e a (by omega), nI_if, bt_nat, nI_add, show nI k + 1 = nI (k + 1) from nI_add k 1, on_loop a n (k + 1) _ (by omega)]
    congr 1
    rw [onL]; omega
theorem dA0 (A : Nat) : A / 2 ^ 0 % 2 = A % 256 % 2 := by omega
theorem dA1 (A : Nat) : A / 2 ^ (0 + 1) % 2 = A % 256 / 2 % 2 := by omega
theorem dA2 (A : Nat) : A / 2 ^ (0 + 1 + 1) % 2 = A % 256 / 4 % 2 := by omega
theorem dA3 (A : Nat) : A / 2 ^ (0 + 1 + 1 + 1) % 2 = A % 256 / 8 % 2 := by omega
theorem dA4 (A : Nat) : A / 2 ^ (0 + 1 + 1 + 1 + 1) % 2 = A % 256 / 16 % 2 := by omega
theorem dA5 (A : Nat) : A / 2 ^ (0 + 1 + 1 + 1 + 1 + 1) % 2 = A % 256 / 32 % 2 := by omega
theorem dA6 (A : Nat) : A / 2 ^ (0 + 1 + 1 + 1 + 1 + 1 + 1) % 2 = A % 256 / 64 % 2 := by omega
theorem dA7 (A : Nat) : A / 2 ^ (0 + 1 + 1 + 1 + 1 + 1 + 1 + 1) % 2 = A % 256 / 128 % 2 := by omega
theorem dA8 (A : Nat) : A / 2 ^ (0 + 1 + 1 + 1 + 1 + 1 + 1 + 1 + 1) % 2 = A / 256 % 256 % 2 := by omega
theorem dA9 (A : Nat) : A / 2 ^ (0 + 1 + 1 + 1 + 1 + 1 + 1 + 1 + 1 + 1) % 2 = A / 256 % 256 / 2 % 2 := by omega
theorem dA10 (A : Nat) : A / 2 ^ (0 + 1 + 1 + 1 + 1 + 1 + 1 + 1 + 1 + 1 + 1) % 2 = A / 256 % 256 / 4 % 2 := by omega
theorem dA11 (A : Nat) : A / 2 ^ (0 + 1 + 1 + 1 + 1 + 1 + 1 + 1 + 1 + 1 + 1 + 1) % 2 = A / 256 % 256 / 8 % 2 := by omega
theorem dA12 (A : Nat) : A / 2 ^ (0 + 1 + 1 + 1 + 1 + 1 + 1 + 1 + 1 + 1 + 1 + 1 + 1) % 2 = A / 256 % 256 / 16 % 2 := by omega
theorem dA13 (A : Nat) : A / 2 ^ (0 + 1 + 1 + 1 + 1 + 1 + 1 + 1 + 1 + 1 + 1 + 1 + 1 + 1) % 2 = A / 256 % 256 / 32 % 2 := by omega
theorem dA14 (A : Nat) : A / 2 ^ (0 + 1 + 1 + 1 + 1 + 1 + 1 + 1 + 1 + 1 + 1 + 1 + 1 + 1 + 1) % 2 = A / 256 % 256 / 64 % 2 := by omega
theorem dA15 (A : Nat) : A / 2 ^ (0 + 1 + 1 + 1 + 1 + 1 + 1 + 1 + 1 + 1 + 1 + 1 + 1 + 1 + 1 + 1) % 2 = A / 256 % 256 / 128 % 2 := by omega
theorem dA16 (A : Nat) : A / 2 ^ (0 + 1 + 1 + 1 + 1 + 1 + 1 + 1 + 1 + 1 + 1 + 1 + 1 + 1 + 1 + 1 + 1) % 2 = A / 65536 % 256 % 2 := by omega
theorem dA17 (A : Nat) : A / 2 ^ (0 + 1 + 1 + 1 + 1 + 1 + 1 + 1 + 1 + 1 + 1 + 1 + 1 + 1 + 1 + 1 + 1 + 1) % 2 = A / 65536 % 256 / 2 % 2 := by omega
theorem dA18 (A : Nat) : A / 2 ^ (0 + 1 + 1 + 1 + 1 + 1 + 1 + 1 + 1 + 1 + 1 + 1 + 1 + 1 + 1 + 1 + 1 + 1 + 1) % 2 = A / 65536 % 256 / 4 % 2 := by omega
theorem dA19 (A : Nat) : A / 2 ^ (0 + 1 + 1 + 1 + 1 + 1 + 1 + 1 + 1 + 1 + 1 + 1 + 1 + 1 + 1 + 1 + 1 + 1 + 1 + 1) % 2 = A / 65536 % 256 / 8 % 2 := by omega
theorem dA20 (A : Nat) : A / 2 ^ (0 + 1 + 1 + 1 + 1 + 1 + 1 + 1 + 1 + 1 + 1 + 1 + 1 + 1 + 1 + 1 + 1 + 1 + 1 + 1 + 1) % 2 = A / 65536 % 256 / 16 % 2 := by omega
theorem dA21 (A : Nat) : A / 2 ^ (0 + 1 + 1 + 1 + 1 + 1 + 1 + 1 + 1 + 1 + 1 + 1 + 1 + 1 + 1 + 1 + 1 + 1 + 1 + 1 + 1 + 1) % 2 = A / 65536 % 256 / 32 % 2 := by omega
theorem dA22 (A : Nat) : A / 2 ^ (0 + 1 + 1 + 1 + 1 + 1 + 1 + 1 + 1 + 1 + 1 + 1 + 1 + 1 + 1 + 1 + 1 + 1 + 1 + 1 + 1 + 1 + 1) % 2 = A / 65536 % 256 / 64 % 2 := by omega
theorem dA23 (A : Nat) : A / 2 ^ (0 + 1 + 1 + 1 + 1 + 1 + 1 + 1 + 1 + 1 + 1 + 1 + 1 + 1 + 1 + 1 + 1 + 1 + 1 + 1 + 1 + 1 + 1 + 1) % 2 = A / 65536 % 256 / 128 % 2 := by omega
theorem onL_pc {A x y z : Nat} (hx : x < 256) (hy : y < 256) (hz : z < 256) (hA : A = x + 256 * (y + 256 * z)) : onL A 24 0 = pc8 x + pc8 y + pc8 z := by
  have h0 : A % 256 = x := by omega
  have h1 : A / 256 % 256 = y := by omega
  have h2 : A / 65536 % 256 = z := by omega
  simp only [onL]
  rw [dA0, dA1, dA2, dA3, dA4, dA5, dA6, dA7, dA8, dA9, dA10, dA11, dA12, dA13, dA14, dA15, dA16, dA17, dA18, dA19, dA20, dA21, dA22, dA23]
  rw [h0, h1, h2]
  simp only [pc8, Nat.add_assoc, Nat.add_zero]
theorem tr_24 : tr 0 24 = 24 := by decide +kernel
theorem bc_ones {a : Int32} (h : hs a) : mJ6_bitCount_0f7a4 a = mX6_ones a := by
  have h1 : un a < 2 ^ 24 := hs_lt h
  have h2 : un a = un a % 256 + 256 * (un a / 256 % 256 + 256 * (un a / 65536)) := by omega
  have h3 := un_bc (a := a) (x := un a % 256) (y := un a / 256 % 256) (z := un a / 65536) (by omega) (by omega) (by omega) h2
  have h4 : mX6_ones a = nI (0 + onL (un a) 24 0) := by
    unfold mX6_ones
    rw [tr_24]
    exact on_loop a 24 0 0 (by omega)
  have h5 := onL_pc (x := un a % 256) (y := un a / 256 % 256) (z := un a / 65536) (by omega) (by omega) (by omega) h2
  apply un_ext
  rw [h4, h3, Nat.zero_add, h5, un_nI]
  unfold pc8; omega
