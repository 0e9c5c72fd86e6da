/-! FLOATS: a quotient of whole numbers is no NaN; what is no NaN is none when it is made wider; a number is as great as itself. -/
def okD (f : FP.Core.Fmt) : FP.Core.Datum → Prop
  | .nan => False
  | .inf _ => True
  | .fin _ c q => c < 2 ^ f.p ∧ f.qmin ≤ q ∧ q ≤ f.qmax
theorem rr_ok (f : FP.Core.Fmt) (h0 : f.qmin ≤ f.qmax) (h1 : f.tails < 2 ^ f.p) (s : Bool) (num den : Nat) (e : Int) : okD f (FP.Core.roundRatio f s num den e) := by
  have bd : ∀ (c : Nat) (q : Int), c < 2 ^ f.p → f.qmin ≤ q → okD f (FP.Core.bound f s c q) := fun c q hc hq => by
    unfold FP.Core.bound
    by_cases h : q ≤ f.qmax
    · rw [if_pos h]; exact ⟨hc, hq, h⟩
    · rw [if_neg h]; exact trivial
  unfold FP.Core.roundRatio
  by_cases h : num = 0
  · rw [if_pos h]; exact ⟨by omega, Int.le_refl _, h0⟩
  · rw [if_neg h]
    have hq : f.qmin ≤ FP.Core.quantum f num den e := by unfold FP.Core.quantum; omega
    unfold FP.Core.roundAt FP.Core.settle
    by_cases c : FP.Core.nearest (FP.Core.unitsNum num e (FP.Core.quantum f num den e)) (FP.Core.unitsDen den e (FP.Core.quantum f num den e)) < 2 ^ f.p
    · rw [if_pos c]; exact bd _ _ c hq
    · rw [if_neg c]; exact bd _ _ h1 (by omega)
theorem asm32 (s : Bool) (e t : Nat) (he : e < 256) (ht : t < 8388608) (h : e < 255 ∨ t = 0) : FP.Core.assemble FP.Core.b32 s e t % 2147483648 ≤ 2139095040 ∧ FP.Core.assemble FP.Core.b32 s e t < 4294967296 := by
  have a : FP.Core.assemble FP.Core.b32 s e t = (s.toNat * 256 + e) * 8388608 + t := rfl
  have b : s.toNat ≤ 1 := by cases s <;> decide
  rw [a]
  constructor <;> omega
theorem asm64 (s : Bool) (e t : Nat) (he : e < 2048) (ht : t < 4503599627370496) (h : e < 2047 ∨ t = 0) : FP.Core.assemble FP.Core.b64 s e t % 9223372036854775808 ≤ 9218868437227405312 ∧ FP.Core.assemble FP.Core.b64 s e t < 18446744073709551616 := by
  have a : FP.Core.assemble FP.Core.b64 s e t = (s.toNat * 2048 + e) * 4503599627370496 + t := rfl
  have b : s.toNat ≤ 1 := by cases s <;> decide
  rw [a]
  constructor <;> omega
theorem enc32 : ∀ {d : FP.Core.Datum}, okD FP.Core.b32 d → FP.Core.encode FP.Core.b32 d % 2147483648 ≤ 2139095040 ∧ FP.Core.encode FP.Core.b32 d < 4294967296
  | .nan, h => h.elim
  | .inf s, _ => asm32 s 255 0 (by omega) (by omega) (Or.inr rfl)
  | .fin s c q, h => by
    obtain ⟨h1, h2, h3⟩ := h
    have h1 : c < 16777216 := h1
    have h2 : -149 ≤ q := h2
    have h3 : q ≤ 104 := h3
    have e : FP.Core.encode FP.Core.b32 (.fin s c q) = if c < 8388608 then FP.Core.assemble FP.Core.b32 s 0 c else FP.Core.assemble FP.Core.b32 s ((q - (-149)).toNat + 1) (c - 8388608) := rfl
    rw [e]
    by_cases c1 : c < 8388608
    · rw [if_pos c1]; exact asm32 s 0 c (by omega) c1 (Or.inl (by omega))
    · rw [if_neg c1]; exact asm32 s _ _ (by omega) (by omega) (Or.inl (by omega))
theorem enc64 : ∀ {d : FP.Core.Datum}, okD FP.Core.b64 d → FP.Core.encode FP.Core.b64 d % 9223372036854775808 ≤ 9218868437227405312 ∧ FP.Core.encode FP.Core.b64 d < 18446744073709551616
  | .nan, h => h.elim
  | .inf s, _ => asm64 s 2047 0 (by omega) (by omega) (Or.inr rfl)
  | .fin s c q, h => by
    obtain ⟨h1, h2, h3⟩ := h
    have h1 : c < 9007199254740992 := h1
    have h2 : -1074 ≤ q := h2
    have h3 : q ≤ 971 := h3
    have e : FP.Core.encode FP.Core.b64 (.fin s c q) = if c < 4503599627370496 then FP.Core.assemble FP.Core.b64 s 0 c else FP.Core.assemble FP.Core.b64 s ((q - (-1074)).toNat + 1) (c - 4503599627370496) := rfl
    rw [e]
    by_cases c1 : c < 4503599627370496
    · rw [if_pos c1]; exact asm64 s 0 c (by omega) c1 (Or.inl (by omega))
    · rw [if_neg c1]; exact asm64 s _ _ (by omega) (by omega) (Or.inl (by omega))
theorem nn32 {n : Nat} (h : n % 2147483648 ≤ 2139095040 ∧ n < 4294967296) : vf_n32 (UInt32.ofNat n) := by
  unfold vf_n32
  rw [UInt32.le_iff_toNat_le, UInt32.toNat_and, UInt32.toNat_ofNat_of_lt' h.2]
  have h2 : n &&& (0x7fffffff : UInt32).toNat = n % 2 ^ 31 := Nat.and_two_pow_sub_one_eq_mod n 31
  rw [h2]
  exact h.1
theorem nn64 {n : Nat} (h : n % 9223372036854775808 ≤ 9218868437227405312 ∧ n < 18446744073709551616) : vf_n64 (UInt64.ofNat n) := by
  unfold vf_n64
  rw [UInt64.le_iff_toNat_le, UInt64.toNat_and, UInt64.toNat_ofNat_of_lt' h.2]
  have h2 : n &&& (0x7fffffffffffffff : UInt64).toNat = n % 2 ^ 63 := Nat.and_two_pow_sub_one_eq_mod n 63
  rw [h2]
  exact h.1
theorem dn32 {n : Nat} (h : n % 2147483648 ≤ 2139095040) : FP.Core.decode FP.Core.b32 n ≠ .nan := by
  have e : FP.Core.decode FP.Core.b32 n = if n / 8388608 % 256 = 255 then (if n % 8388608 = 0 then .inf (FP.Core.fieldS FP.Core.b32 n) else .nan) else if n / 8388608 % 256 = 0 then .fin (FP.Core.fieldS FP.Core.b32 n) (n % 8388608) FP.Core.b32.qmin else .fin (FP.Core.fieldS FP.Core.b32 n) (8388608 + n % 8388608) (FP.Core.b32.qmin + (((n / 8388608 % 256 : Nat) : Int) - 1)) := rfl
  rw [e]
  by_cases c : n / 8388608 % 256 = 255
  · rw [if_pos c, if_pos (by omega)]; exact fun z => by cases z
  · rw [if_neg c]
    split <;> exact fun z => by cases z
theorem dn64 {n : Nat} (h : n % 9223372036854775808 ≤ 9218868437227405312) : FP.Core.decode FP.Core.b64 n ≠ .nan := by
  have e : FP.Core.decode FP.Core.b64 n = if n / 4503599627370496 % 2048 = 2047 then (if n % 4503599627370496 = 0 then .inf (FP.Core.fieldS FP.Core.b64 n) else .nan) else if n / 4503599627370496 % 2048 = 0 then .fin (FP.Core.fieldS FP.Core.b64 n) (n % 4503599627370496) FP.Core.b64.qmin else .fin (FP.Core.fieldS FP.Core.b64 n) (4503599627370496 + n % 4503599627370496) (FP.Core.b64.qmin + (((n / 4503599627370496 % 2048 : Nat) : Int) - 1)) := rfl
  rw [e]
  by_cases c : n / 4503599627370496 % 2048 = 2047
  · rw [if_pos c, if_pos (by omega)]; exact fun z => by cases z
  · rw [if_neg c]
    split <;> exact fun z => by cases z
theorem lo32 {r : UInt32} (h : vf_n32 r) : r.toNat % 2147483648 ≤ 2139095040 := by
  unfold vf_n32 at h
  rw [UInt32.le_iff_toNat_le, UInt32.toNat_and] at h
  have h2 : r.toNat &&& (0x7fffffff : UInt32).toNat = r.toNat % 2 ^ 31 := Nat.and_two_pow_sub_one_eq_mod r.toNat 31
  rw [h2] at h
  exact h
theorem lo64 {r : UInt64} (h : vf_n64 r) : r.toNat % 9223372036854775808 ≤ 9218868437227405312 := by
  unfold vf_n64 at h
  rw [UInt64.le_iff_toNat_le, UInt64.toNat_and] at h
  have h2 : r.toNat &&& (0x7fffffffffffffff : UInt64).toNat = r.toNat % 2 ^ 63 := Nat.and_two_pow_sub_one_eq_mod r.toNat 63
  rw [h2] at h
  exact h
theorem f2d_ok {r : UInt32} (h : vf_n32 r) : vf_n64 (FP.f2d r) := by
  have hd := dn32 (lo32 h)
  have e : FP.f2d r = UInt64.ofNat (FP.Core.encode FP.Core.b64 (FP.Core.round FP.Core.b64 (FP.Core.decode FP.Core.b32 r.toNat))) := by
    have z : FP.Core.fIsNaN r = false := by
      show decide (FP.Core.decode FP.Core.b32 r.toNat = .nan) = false
      exact decide_eq_false hd
    unfold FP.f2d
    rw [z]; rfl
  rw [e]
  refine nn64 (enc64 ?_)
  revert hd
  generalize FP.Core.decode FP.Core.b32 r.toNat = d
  intro hd
  cases d with
  | nan => exact absurd rfl hd
  | inf s => exact trivial
  | fin s c q => exact rr_ok FP.Core.b64 (by decide) (by decide) s c 1 q
theorem ord_self : ∀ {d : FP.Core.Datum}, d ≠ .nan → FP.Core.order d d = some .eq
  | .nan, h => absurd rfl h
  | .inf s, _ => by cases s <;> decide
  | .fin s c q, _ => by
    show some (compare (FP.Core.signed s (FP.Core.inUnits c q (min q q))) (FP.Core.signed s (FP.Core.inUnits c q (min q q)))) = _
    generalize FP.Core.signed s (FP.Core.inUnits c q (min q q)) = z
    have : compare z z = .eq := by simp [compare, compareOfLessAndEq]
    rw [this]
theorem dcmp_self {x : UInt64} (h : vf_n64 x) : Op.cmpValue (FP.dcmp x x) .l = 0 := by
  have e : FP.dcmp x x = FP.Core.order (FP.Core.decode FP.Core.b64 x.toNat) (FP.Core.decode FP.Core.b64 x.toNat) := rfl
  rw [e, ord_self (dn64 (lo64 h))]; rfl
theorem near_1 (n : Nat) : FP.Core.nearest n 1 = n := by
  unfold FP.Core.nearest
  rw [if_pos (by omega), Nat.div_one]
theorem near_b {n d : Nat} : n / d ≤ FP.Core.nearest n d ∧ FP.Core.nearest n d ≤ n / d + 1 := by
  unfold FP.Core.nearest
  split
  · omega
  · split <;> omega
/-- a whole number as a float: a number, and not zero but for zero -/
theorem ri_32 {n : Nat} (h0 : n ≠ 0) (h1 : n ≤ 2147483648) (s : Bool) : ∃ c q, FP.Core.roundRatio FP.Core.b32 s n 1 0 = .fin s c q ∧ 8388608 ≤ c ∧ c < 16777216 ∧ -30 ≤ q ∧ q ≤ 30 := by
  have l1 : 2 ^ n.log2 ≤ n := Nat.log2_self_le h0
  have l2 : n < 2 ^ (n.log2 + 1) := Nat.lt_log2_self
  have l3 : n.log2 ≤ 31 := by
    have : 2 ^ n.log2 ≤ 2 ^ 31 := Nat.le_trans l1 h1
    exact (Nat.pow_le_pow_iff_right (by omega)).mp this
  have ld : FP.Core.leading n 1 = (n.log2 : Int) := by
    unfold FP.Core.leading
    have z : (1 : Nat).log2 = 0 := by decide
    rw [z]
    have a1 : ((n.log2 : Int) - ((0 : Nat) : Int)).toNat = n.log2 := by omega
    have a2 : (-((n.log2 : Int) - ((0 : Nat) : Int))).toNat = 0 := by omega
    show (if 1 * 2 ^ ((n.log2 : Int) - ((0 : Nat) : Int)).toNat ≤ n * 2 ^ (-((n.log2 : Int) - ((0 : Nat) : Int))).toNat then ((n.log2 : Int) - ((0 : Nat) : Int)) else ((n.log2 : Int) - ((0 : Nat) : Int)) - 1) = _
    rw [a1, a2, if_pos (by omega)]; omega
  have qd : FP.Core.quantum FP.Core.b32 n 1 0 = (n.log2 : Int) - 23 := by
    unfold FP.Core.quantum
    rw [ld]
    show max (-149 : Int) ((n.log2 : Int) + 0 - (((24 : Nat) : Int) - 1)) = _
    omega
  generalize hL : n.log2 = L at l1 l2 l3 qd
  have qx : FP.Core.b32.qmax = 104 := by decide
  have key : ∀ c : Nat, 8388608 ≤ c → c ≤ 16777216 → ∃ c' q, FP.Core.settle FP.Core.b32 s c ((L : Int) - 23) = .fin s c' q ∧ 8388608 ≤ c' ∧ c' < 16777216 ∧ -30 ≤ q ∧ q ≤ 30 := fun c hc1 hc2 => by
    unfold FP.Core.settle
    by_cases cc : c < 2 ^ FP.Core.b32.p
    · rw [if_pos cc]
      unfold FP.Core.bound
      rw [if_pos (show (L : Int) - 23 ≤ FP.Core.b32.qmax by omega)]
      exact ⟨c, _, rfl, hc1, cc, by omega, by omega⟩
    · rw [if_neg cc]
      unfold FP.Core.bound
      rw [if_pos (show (L : Int) - 23 + 1 ≤ FP.Core.b32.qmax by omega)]
      exact ⟨8388608, _, rfl, by omega, by omega, by omega, by omega⟩
  have p23 : (2 : Nat) ^ 23 = 8388608 := by decide
  have p24 : (2 : Nat) ^ 24 = 16777216 := by decide
  unfold FP.Core.roundRatio FP.Core.roundAt
  rw [if_neg h0, qd]
  unfold FP.Core.unitsNum FP.Core.unitsDen
  by_cases c : L ≤ 23
  · rw [show ((0 : Int) - ((L : Int) - 23)).toNat = 23 - L by omega, show (((L : Int) - 23) - 0).toNat = 0 by omega, show 1 * 2 ^ 0 = 1 from rfl, near_1]
    have e1 : 2 ^ L * 2 ^ (23 - L) = 8388608 := by rw [← Nat.pow_add, show L + (23 - L) = 23 by omega, p23]
    have e2 : 2 ^ (L + 1) * 2 ^ (23 - L) = 16777216 := by rw [← Nat.pow_add, show L + 1 + (23 - L) = 24 by omega, p24]
    refine key _ ?_ ?_
    · rw [← e1]; exact Nat.mul_le_mul_right _ l1
    · rw [← e2]; exact Nat.mul_le_mul_right _ (Nat.le_of_lt l2)
  · rw [show ((0 : Int) - ((L : Int) - 23)).toNat = 0 by omega, show (((L : Int) - 23) - 0).toNat = L - 23 by omega, show n * 2 ^ 0 = n by omega, show 1 * 2 ^ (L - 23) = 2 ^ (L - 23) by omega]
    have pz : 0 < 2 ^ (L - 23) := Nat.two_pow_pos _
    have e1 : 8388608 * 2 ^ (L - 23) = 2 ^ L := by rw [← p23, ← Nat.pow_add, show 23 + (L - 23) = L by omega]
    have e2 : 16777216 * 2 ^ (L - 23) = 2 ^ (L + 1) := by rw [← p24, ← Nat.pow_add, show 24 + (L - 23) = L + 1 by omega]
    have d1 : 8388608 ≤ n / 2 ^ (L - 23) := (Nat.le_div_iff_mul_le pz).mpr (by rw [e1]; exact l1)
    have d2 : n / 2 ^ (L - 23) < 16777216 := (Nat.div_lt_iff_lt_mul pz).mpr (by rw [e2]; exact l2)
    have nb := near_b (n := n) (d := 2 ^ (L - 23))
    exact key _ (by omega) (by omega)
theorem i2f_fin (a : Int32) : ∃ s c q, FP.Core.decode FP.Core.b32 (FP.i2f a).toNat = .fin s c q ∧ (a ≠ 0 → c ≠ 0) := by
  have e : FP.i2f a = UInt32.ofNat (FP.Core.encode FP.Core.b32 (FP.Core.roundRatio FP.Core.b32 (decide (a.toInt < 0)) a.toInt.natAbs 1 0)) := rfl
  have ok := rr_ok FP.Core.b32 (by decide) (by decide) (decide (a.toInt < 0)) a.toInt.natAbs 1 0
  have lt := (enc32 ok).2
  rw [e, UInt32.toNat_ofNat_of_lt' lt]
  by_cases z : a.toInt.natAbs = 0
  · have za : a = 0 := by
      have : (0 : Int32).toInt = 0 := rfl
      exact i_eq.mpr (by omega)
    subst za
    exact ⟨false, 0, _, rfl, fun h => absurd rfl h⟩
  · obtain ⟨c, q, h1, h2, h3, h4, h5⟩ := ri_32 z (by have := i_rng a; omega) (decide (a.toInt < 0))
    rw [h1]
    generalize decide (a.toInt < 0) = s
    have e2 : FP.Core.encode FP.Core.b32 (.fin s c q) = (s.toNat * 256 + ((q - (-149)).toNat + 1)) * 8388608 + (c - 8388608) := by
      have e3 : FP.Core.encode FP.Core.b32 (.fin s c q) = if c < 8388608 then FP.Core.assemble FP.Core.b32 s 0 c else FP.Core.assemble FP.Core.b32 s ((q - (-149)).toNat + 1) (c - 8388608) := rfl
      rw [e3, if_neg (by omega)]; rfl
    rw [e2]
    have b : s.toNat ≤ 1 := by cases s <;> decide
    generalize hn : (s.toNat * 256 + ((q - (-149)).toNat + 1)) * 8388608 + (c - 8388608) = n
    have f1 : n / 8388608 % 256 = (q - (-149)).toNat + 1 := by omega
    have e4 : FP.Core.decode FP.Core.b32 n = if n / 8388608 % 256 = 255 then (if n % 8388608 = 0 then .inf (FP.Core.fieldS FP.Core.b32 n) else .nan) else if n / 8388608 % 256 = 0 then .fin (FP.Core.fieldS FP.Core.b32 n) (n % 8388608) FP.Core.b32.qmin else .fin (FP.Core.fieldS FP.Core.b32 n) (8388608 + n % 8388608) (FP.Core.b32.qmin + (((n / 8388608 % 256 : Nat) : Int) - 1)) := rfl
    rw [e4, if_neg (by omega), if_neg (by omega)]
    exact ⟨_, _, _, rfl, fun _ => by omega⟩
theorem fd_ok {b : Int32} (h : ¬ b = 0) (a : Int32) : vf_n32 (FP.fdiv (FP.i2f a) (FP.i2f b)) := by
  obtain ⟨s, c, q, h1, -⟩ := i2f_fin a
  obtain ⟨t, d, r, h2, h3⟩ := i2f_fin b
  have e : FP.fdiv (FP.i2f a) (FP.i2f b) = UInt32.ofNat (FP.Core.encode FP.Core.b32 (FP.Core.quotient FP.Core.b32 (FP.Core.decode FP.Core.b32 (FP.i2f a).toNat) (FP.Core.decode FP.Core.b32 (FP.i2f b).toNat))) := rfl
  rw [e, h1, h2]
  refine nn32 (enc32 ?_)
  have e5 : FP.Core.quotient FP.Core.b32 (.fin s c q) (.fin t d r) = if d = 0 then (if c = 0 then .nan else .inf (s != t)) else FP.Core.roundRatio FP.Core.b32 (s != t) c d (q - r) := rfl
  rw [e5, if_neg (h3 h)]
  exact rr_ok FP.Core.b32 (by decide) (by decide) _ _ _ _
