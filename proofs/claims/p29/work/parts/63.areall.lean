/-! P29, PURE 2: all mills and all houses together. -/
theorem fcmp_self {x : UInt32} (h : vf_n32 x) : Op.cmpValue (FP.fcmp x x) .l = 0 := by
  have e : FP.fcmp x x = FP.Core.order (FP.Core.decode FP.Core.b32 x.toNat) (FP.Core.decode FP.Core.b32 x.toNat) := rfl
  rw [e, ord_self (dn32 (lo32 h))]; rfl
theorem fone_self : Op.cmpValue (FP.fcmp FP.fconst1 FP.fconst1) .l = 0 := fcmp_self (show vf_n32 (UInt32.ofNat 1065353216) from nn32 ⟨by decide, by decide⟩)
theorem bc_N {a : Int32} (h : hs a) : mJ6_bitCount_0f7a4 a = nI (oN a) := by rw [bc_ones h, ones_N]
theorem sL_s (f : Nat → Nat) (n k : Nat) : sL f (n + 1) k = f k + sL f n (k + 1) := rfl
def D2 (v : Nat → Nat → Int32) (a m : Nat) : Nat := oN (v 8 (8 * a + 2 * m + 0)) + oN (v 8 (8 * a + 2 * m + 1))
theorem D2_le (v : Nat → Nat → Int32) (a m : Nat) : D2 v a m ≤ 48 := by
  have h : oN (v 8 (8 * a + 2 * m + 0)) + oN (v 8 (8 * a + 2 * m + 1)) ≤ 24 + 24 := Nat.add_le_add (oN_le _) (oN_le _)
  exact h
def SS (v : Nat → Nat → Int32) : Nat := sL (fun a => sL (D2 v a) 4 0) 10 0
theorem SS_le (v : Nat → Nat → Int32) : SS v ≤ 1920 := sL_le (f := fun a => sL (D2 v a) 4 0) (b := 192) (fun a => sL_le (D2_le v a) 4 0) 10 0
def fwN (v : Nat → Nat → Int32) (h : Nat) : Nat := if nn (v 0 h) ≤ 1 then 0 else nn (v 0 h)
section AA
variable {v : Nat → Nat → Int32} {M N : Nat}
theorem D2_zN (V : VV v M N) {a m : Nat} (h : N ≤ a) (ha : a < 10) (hm : m < 4) : D2 v a m = 0 := by
  unfold D2; rw [V.zN h ha hm (by omega), V.zN h ha hm (by omega), oN_0]
theorem D2_zM (V : VV v M N) {a m : Nat} (h : M ≤ m) (ha : a < 10) (hm : m < 4) : D2 v a m = 0 := by
  unfold D2; rw [V.zM h ha hm (by omega), V.zM h ha hm (by omega), oN_0]
theorem c_day (V : VV v M N) {a m : Nat} (ha : a < 10) (hm : m < 4) : mX4_standingOfDay v (nI a) (nI m) = nI (D2 v a m) := by
  unfold mX4_standingOfDay D2
  rw [tr_2]
  simp only [mX4_standingOfDay_5]
  rw [show (0 : Int32) + 1 = nI 1 from rfl, show (0 : Int32) = nI 0 from rfl, pl_nI, pl_nI, at_in _ (by omega) (by omega), at_in _ (by omega) (by omega), bc_N (V.st (by omega)), bc_N (V.st (by omega)), nI_add, nI_add, Nat.zero_add]
theorem stO_loop (V : VV v M N) {a : Nat} (ha : a < 10) : ∀ (n k s : Nat), k + n ≤ 4 → mX4_standingOf_4 v (nI a) (fun _ y => y) n (nI k) (nI s) = nI (s + sL (D2 v a) n k)
  | 0, k, s, _ => rfl
  | n + 1, k, s, h => by
    rw [mX4_standingOf_4, c_day V ha (by omega), nI_add, nI_s, stO_loop V ha n (k + 1) _ (by omega), sL]
    exact congrArg nI (Nat.add_assoc _ _ _)
theorem c_stO (V : VV v M N) {a : Nat} (ha : a < 10) : mX4_standingOf v (nI a) = nI (sL (D2 v a) 4 0) := by
  have := V.M4
  unfold mX4_standingOf
  rw [V.eM, tr_0 (by omega), show (0 : Int32) = nI 0 from rfl, stO_loop V ha M 0 0 (by omega), Nat.zero_add, sL_few V.M4 (fun i h1 h2 => D2_zM V h1 ha h2)]
theorem pO_loop (V : VV v M N) {m : Nat} (hm : m < 4) : ∀ (n k s : Nat), k + n ≤ 10 → mX4_pointsOfDay_4 v (nI m) (fun _ y => y) n (nI k) (nI s) = nI (s + sL (fun a => D2 v a m) n k)
  | 0, k, s, _ => rfl
  | n + 1, k, s, h => by
    rw [mX4_pointsOfDay_4, c_day V (by omega) hm, nI_add, nI_s, pO_loop V hm n (k + 1) _ (by omega), sL]
    exact congrArg nI (Nat.add_assoc _ _ _)
theorem c_pO (V : VV v M N) {m : Nat} (hm : m < 4) : mX4_pointsOfDay v (nI m) = nI (sL (fun a => D2 v a m) 10 0) := by
  have := V.N10
  unfold mX4_pointsOfDay
  rw [V.eN, tr_0 (by omega), show (0 : Int32) = nI 0 from rfl, pO_loop V hm N 0 0 (by omega), Nat.zero_add, sL_few V.N10 (fun i h1 h2 => D2_zN V h1 h2 hm)]
theorem tA_loop (V : VV v M N) : ∀ (n k s : Nat), k + n ≤ 4 → mX4_tiedHoursOfAll_4 v (fun _ y => y) n (nI k) (nI s) = nI (s + sL (fun m => oN (v 5 m)) n k)
  | 0, k, s, _ => rfl
  | n + 1, k, s, h => by
    rw [mX4_tiedHoursOfAll_4, c_tied v (by omega), bc_N (V.ti (by omega)), nI_add, nI_s, tA_loop V n (k + 1) _ (by omega), sL]
    exact congrArg nI (Nat.add_assoc _ _ _)
theorem c_tA (V : VV v M N) : mX4_tiedHoursOfAll v = nI (sL (fun m => oN (v 5 m)) M 0) := by
  have := V.M4
  unfold mX4_tiedHoursOfAll
  rw [V.eM, tr_0 (by omega), show (0 : Int32) = nI 0 from rfl, tA_loop V M 0 0 (by omega), Nat.zero_add]
theorem c_gA (V : VV v M N) : mX4_grainOfAll v = mX4_grainOfAll_4 v (fun _ y => y) M (nI 0) (nI 0) := by
  have := V.M4
  unfold mX4_grainOfAll
  rw [V.eM, tr_0 (by omega)]; rfl
theorem w_lt2 (V : VV v M N) {h : Nat} (hh : h < 24) : v 0 h < 2 ↔ nn (v 0 h) ≤ 1 := by
  have := V.wi9 hh
  conv => lhs; rw [V.wi hh]
  rw [show (2 : Int32) = nI 2 from rfl, nJ_lt (by omega) (by omega)]; omega
theorem gU_loop (V : VV v M N) (C : Int32 → Int32) : ∀ (n k s : Nat), k + n ≤ 24 → mX4_grainOfAllIfUntied_4 v (fun _ y => C y) n (nI k) (nI s) = C (nI (s + sL (fwN v) n k))
  | 0, k, s, _ => rfl
  | n + 1, k, s, h => by
    rw [mX4_grainOfAllIfUntied_4, c_blows v (by omega), c_wind v (by omega), sL]
    unfold fwN
    by_cases c : v 0 k < 2
    · rw [if_pos c, if_pos rfl, if_pos ((w_lt2 V (by omega)).mp c), nI_s, gU_loop V C n (k + 1) _ (by omega), Nat.zero_add]; rfl
    · rw [if_neg c, if_neg (by decide), if_neg (fun z => c ((w_lt2 V (by omega)).mpr z)), V.wi (h := k) (by omega), nI_add, nI_s, gU_loop V C n (k + 1) _ (by omega), nn_nI (by have := V.wi9 (h := k) (by omega); omega), Nat.add_assoc]; rfl
theorem c_gU (V : VV v M N) : mX4_grainOfAllIfUntied v = nI (M * sL (fwN v) 24 0) := by
  unfold mX4_grainOfAllIfUntied
  rw [tr_24, show (0 : Int32) = nI 0 from rfl, gU_loop V (fun y => y * v 9 0) 24 0 0 (by omega), Nat.zero_add, V.eM, nI_mul, Nat.mul_comm]
end AA
section AL
variable {xx : Nat → Nat → Nat → Int32} {M N : Nat}
theorem l123 (V : VV (xx 0) M N) (C : Int32 → Int32 → Int32) : ∀ (n k s : Nat), k + n ≤ N → mL_areAll_123 xx C n (nI k) (nI s) = C (nI (k + n)) (nI (s + sL (fun a => sL (D2 (xx 0) a) 4 0) n k))
  | 0, k, s, _ => rfl
  | n + 1, k, s, h => by
    have := V.N10
    rw [mL_areAll_123, if_neg (by rw [show (10 : Int32) = nI 10 from rfl, nJ_le (by omega) (by omega)]; omega), ho_3 V (by omega), c_stO V (by omega)]
    refine lt_v ?_
    refine lt_v ?_
    rw [nI_add, nI_s, l123 V C n (k + 1) _ (by omega), sL_s (fun a => sL (D2 (xx 0) a) 4 0) n k, Nat.add_assoc s, show k + 1 + n = k + (n + 1) by omega]
theorem l57 (V : VV (xx 0) M N) (hw : ∀ h, h < 24 → xx 10 0 h = xx 0 0 h) {m : Nat} (hm : m < M) (C : Int32 → Int32 → Int32 → Int32) : ∀ (n k f t : Nat), k + n ≤ 24 → mL_areAll_57 xx (nI m) C n (nI k) (nI f) (nI t) = C (nI (k + n)) (nI (f + sL (fwN (xx 0)) n k)) (nI (t + sL (bN (xx 0 5 m)) n k))
  | 0, k, f, t, _ => rfl
  | n + 1, k, f, t, h => by
    have e1 : (if ((xx 10 0) (nI k).toNatClampNeg) ≤ 1 then 0 else ((xx 10 0) (nI k).toNatClampNeg)) = nI (fwN (xx 0) k) := by
      rw [nI_cl (by omega), hw k (by omega)]
      unfold fwN
      have h9 := V.wi9 (h := k) (by omega)
      have e := V.wi (h := k) (by omega)
      generalize nn (xx 0 0 k) = w at h9 e
      rw [e, show (1 : Int32) = nI 1 from rfl]
      by_cases c : w ≤ 1
      · rw [if_pos ((nJ_le (by omega) (by omega)).mpr c), if_pos c]; rfl
      · rw [if_neg (fun z => c ((nJ_le (by omega) (by omega)).mp z)), if_neg c]
    have e2 : ∀ b : Bool, (if (if b then (1 : Int32) else 0) = 0 then (0 : Int32) else 1) = nI (if b then 1 else 0) := fun b => by cases b <;> rfl
    rw [mL_areAll_57, mo_2 V hm]
    refine lt_v ?_
    rw [c_has _ (by omega)]
    refine lt_v ?_
    rw [e2]
    refine lt_v ?_
    refine lt_v ?_
    rw [e1]
    refine lt_v ?_
    refine lt_v ?_
    rw [nI_add, nI_add, nI_s, l57 V hw hm C n (k + 1) _ _ (by omega), sL, sL, Nat.add_assoc f, Nat.add_assoc t, show k + 1 + n = k + (n + 1) by omega]
    rfl
theorem l16 (V : VV (xx 0) M N) (hw : ∀ h, h < 24 → xx 10 0 h = xx 0 0 h) (C : Int32 → Int32 → Int32 → Int32 → Int32 → Int32) : ∀ (n k f : Nat) (g : Int32) (t p : Nat), k + n ≤ M → mL_areAll_16 xx C n (nI k) (nI f) g (nI t) (nI p) = C (nI (k + n)) (nI (f + n * sL (fwN (xx 0)) 24 0)) (mX4_grainOfAll_4 (xx 0) (fun _ y => y) n (nI k) g) (nI (t + sL (fun m => oN (xx 0 5 m)) n k)) (nI (p + sL (fun m => sL (fun a => D2 (xx 0) a m) 10 0) n k))
  | 0, k, f, g, t, p, _ => by rw [mL_areAll_16, mX4_grainOfAll_4, Nat.zero_mul]; rfl
  | n + 1, k, f, g, t, p, h => by
    have := V.M4
    rw [mL_areAll_16, if_neg (by rw [show (4 : Int32) = nI 4 from rfl, nJ_le (by omega) (by omega)]; omega), mo_5 V (by omega), c_pO V (by omega)]
    refine lt_v ?_
    refine lt_v ?_
    rw [mo_4 V (by omega)]
    refine lt_v ?_
    refine lt_v ?_
    rw [tr_24, show (0 : Int32) = nI 0 from rfl, l57 V hw (by omega) _ 24 0 f t (by omega), nI_add, nI_s, l16 V hw C n (k + 1) _ _ _ _ (by omega), mX4_grainOfAll_4, nI_s, sL_s (fun m => oN (xx 0 5 m)) n k, sL_s (fun m => sL (fun a => D2 (xx 0) a m) 10 0) n k, Nat.add_assoc f, Nat.add_assoc t, Nat.add_assoc p, show k + 1 + n = k + (n + 1) by omega, Nat.succ_mul, Nat.add_comm (sL (fwN (xx 0)) 24 0), show sL (bN (xx 0 5 k)) 24 0 = oN (xx 0 5 k) from rfl]
theorem sum_pts (V : VV (xx 0) M N) : sL (fun m => sL (fun a => D2 (xx 0) a m) 10 0) M 0 = SS (xx 0) := by
  rw [sL_few V.M4 (fun i h1 h2 => sL_z 10 0 (fun a _ ha => D2_zM V h1 (by omega) h2))]
  unfold SS
  rw [sL_sw (fun a m => D2 (xx 0) a m)]
theorem sum_std (V : VV (xx 0) M N) : sL (fun a => sL (D2 (xx 0) a) 4 0) N 0 = SS (xx 0) :=
  sL_few V.N10 (fun i h1 h2 => sL_z 4 0 (fun m _ hm => D2_zN V h1 h2 (by omega)))
theorem p_areAll (V : VV (xx 0) M N) (hw : ∀ h, h < 24 → xx 10 0 h = xx 0 0 h) (hS : (SS (xx 0) : Int) ≤ (xx 0 2 0).toInt) (h2 : (xx 0 2 3).toInt ≤ (xx 0 2 2).toInt) (h4 : (xx 0 2 5).toInt ≤ (xx 0 2 4).toInt) : mL_areAll xx = 1 := by
  have hM := V.M4
  have hN := V.N10
  obtain ⟨S, eS, hS9, hS0⟩ : ∃ S, nI (SS (xx 0)) = nI S ∧ S ≤ 1920 ∧ (S : Int) ≤ (xx 0 2 0).toInt := ⟨_, rfl, SS_le (xx 0), hS⟩
  clear hS
  have eP : nI (sL (fun m => sL (fun a => D2 (xx 0) a m) 10 0) M 0) = nI (SS (xx 0)) := congrArg nI (sum_pts V)
  have eQ : nI (sL (fun a => sL (D2 (xx 0) a) 4 0) N 0) = nI (SS (xx 0)) := congrArg nI (sum_std V)
  rw [eS] at eP eQ
  unfold mL_areAll
  rw [ct_0, ct_1, V.eM, V.eN, tr_0 (by omega), tr_0 (by omega)]
  rw [show (0 : Int32) = nI 0 from rfl, l16 V hw _ M 0 0 _ 0 0 (by omega), l123 V _ N 0 0 (by omega)]
  rw [Nat.zero_add, Nat.zero_add, Nat.zero_add, Nat.zero_add, eP, eQ, if_pos rfl]
  refine lt_v ?_
  rw [show mX5_count xx 2 = xx 0 2 0 from ct_2, if_neg (by rw [i_lt, nI_toInt (by omega)]; omega)]
  refine lt_v ?_
  rw [show mX5_count xx 8 = _ from ct_8, c_tA V, if_pos rfl]
  refine lt_v ?_
  rw [show mX5_count xx 9 = _ from ct_9, c_gA V, if_pos rfl]
  refine lt_v ?_
  refine lt_v ?_
  rw [show mX5_count xx 5 = _ from ct_5, show mX5_count xx 4 = _ from ct_4, if_neg (by rw [i_lt]; omega)]
  refine lt_v ?_
  refine lt_v ?_
  rw [show mX5_count xx 7 = _ from ct_7, show mX5_count xx 6 = _ from ct_6, if_neg (by rw [i_lt]; omega)]
  refine lt_v ?_
  have eg : (if nI (M * sL (fwN (xx 0)) 24 0) = nI 0 then FP.fconst1 else FP.fdiv (FP.i2f (mX4_grainOfAll_4 (xx 0) (fun _ y => y) M (nI 0) (nI 0))) (FP.i2f (nI (M * sL (fwN (xx 0)) 24 0)))) = mX5_ground (xx 0) := by
    unfold mX5_ground
    rw [c_gU V, c_gA V]; rfl
  have es : Op.cmpValue (FP.fcmp (mX5_ground (xx 0)) (mX5_ground (xx 0))) .l = 0 := by
    unfold mX5_ground
    by_cases c : mX4_grainOfAllIfUntied (xx 0) = 0
    · rw [if_pos c]; exact fone_self
    · rw [if_neg c]; exact fcmp_self (fd_ok c _)
  rw [eg, es, if_pos (show (0 : Int32) = nI 0 from rfl)]
  refine lt_v ?_
  refine lt_v ?_
  have e0 : mX5_millOf (xx 0) (nI M) (nI 0) = -1 := by
    unfold mX5_millOf; rw [if_pos (hm_0 V (Nat.le_refl M) (by omega))]
  rw [e0, if_pos rfl]
end AL
