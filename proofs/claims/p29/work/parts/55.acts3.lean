/-! PURE 16: suits and votes. -/
section SV
variable {v : Nat → Nat → Int32} {x : Nat → Nat → Int32}
theorem and_hs {a : Int32} (b : Int32) (h : hs a) : hs (a &&& b) := hs_and h b
theorem e_any (R : Rv v (rowP x 0)) {a m h : Nat} (ha : a < 10) (hm : m < 4) (hh : h < 24) : mX4_standingFor v (nI a) (nI m) (nI h) = 0 ↔ mX6_standsAny x (nI a) (nI m) (nI h) = 0 := by
  rw [e_stFor R (by omega) ha hm hh]
  unfold mX6_standsAny stN bN
  rw [show (((((0 + 68) + (8 * nI a)) + (2 * nI m)) + 0) : Int32).toNatClampNeg = 0 + (68 + (8 * a + 2 * m + 0)) from jS (P := 0) (k := 0) (by omega), show (((((0 + 68) + (8 * nI a)) + (2 * nI m)) + 1) : Int32).toNatClampNeg = 0 + (68 + (8 * a + 2 * m + 1)) from jS (P := 0) (k := 1) (by omega), bit_e _ hh, bt_or]
  show nI ((if bt (x 0 (0 + (68 + (8 * a + 2 * m + 0)))) h then 1 else 0) + (if bt (x 0 (0 + (68 + (8 * a + 2 * m + 1)))) h then 1 else 0)) = 0 ↔ _
  cases bt (x 0 (0 + (68 + (8 * a + 2 * m + 0)))) h <;> cases bt (x 0 (0 + (68 + (8 * a + 2 * m + 1)))) h <;> decide
theorem zand {y b : Int32} (h : y = 0) : y &&& b = 0 := by rw [h]; exact Int32.zero_and
theorem s_drop (R : Rv v (rowP x 0)) (ok : okR (rowP x 0)) {a m h : Nat} (ha : a < 10) (hm : m < 4) (hh : h < 24) : Rv (mX4_dropFor v (nI a) (nI m) (nI h)) (rowP (mX6_clears x (nI a) (nI m) (nI h)) 0) ∧ okR (rowP (mX6_clears x (nI a) (nI m) (nI h)) 0) ∧ low 0 x (mX6_clears x (nI a) (nI m) (nI h)) ∧ (∀ k, k < 68 → mX6_clears x (nI a) (nI m) (nI h) 0 k = x 0 k) := by
  unfold mX4_dropFor mX6_clears
  rw [tr_2, mX4_dropFor_3, show (0 : Int32) = nI 0 from rfl, pl_nI, at_in _ (by omega) (by omega), put_in _ _ (by omega) (by omega), lt, lt, mX4_dropFor_3, nI_s, pl_nI, at_in _ (by omega) (by omega), put_in _ _ (by omega) (by omega), lt, lt, mX4_dropFor_3]
  rw [show (((((nI 0 + 68) + (8 * nI a)) + (2 * nI m)) + nI 0) : Int32).toNatClampNeg = 0 + (68 + (8 * a + 2 * m + 0)) from jS (by omega), show (((((nI 0 + 68) + (8 * nI a)) + (2 * nI m)) + 1) : Int32).toNatClampNeg = 0 + (68 + (8 * a + 2 * m + (0 + 1))) from jS (P := 0) (k := 1) (by omega)]
  rw [lt, lt]
  obtain ⟨v1, h1⟩ : ∃ z, z = setA v 8 (upd (v 8) (8 * a + 2 * m + 0) (v 8 (8 * a + 2 * m + 0) &&& ((1 <<< (nI h &&& 31)) ^^^ (-1)))) := ⟨_, rfl⟩
  obtain ⟨x1, k1⟩ : ∃ z, z = setA x 0 (upd (x 0) (0 + (68 + (8 * a + 2 * m + 0))) (x 0 (0 + (68 + (8 * a + 2 * m + 0))) &&& ((1 <<< (nI h &&& 31)) ^^^ (-1)))) := ⟨_, rfl⟩
  rw [← h1, ← k1]
  have e1 : v 8 (8 * a + 2 * m + 0) = x 0 (0 + (68 + (8 * a + 2 * m + 0))) := R.st _ (by omega)
  have R1 : Rv v1 (rowP x1 0) := by rw [h1, k1, rowP_u, e1]; exact Rv_st R (by omega) _
  have o1 : okR (rowP x1 0) := by
    rw [k1, rowP_u]
    exact ok_st ok ha hm (by omega) (hs_and (ok.st _ (by omega)) _) (fun n e hn => zand (ok.szH n a m 0 e hn ha hm (by omega))) (fun n e hn => zand (ok.szM n a m 0 e hn ha hm (by omega)))
  have e2 : v1 8 (8 * a + 2 * m + (0 + 1)) = x1 0 (0 + (68 + (8 * a + 2 * m + (0 + 1)))) := R1.st _ (by omega)
  refine ⟨?_, ?_, ?_, fun k hk => ?_⟩
  · rw [rowP_u, e2]; exact Rv_st R1 (by omega) _
  · rw [rowP_u]
    exact ok_st o1 ha hm (by omega) (hs_and (o1.st _ (by omega)) _) (fun n e hn => zand (o1.szH n a m 1 e hn ha hm (by omega))) (fun n e hn => zand (o1.szM n a m 1 e hn ha hm (by omega)))
  · exact low_t (by rw [k1]; exact low_u 0 _ x _) (low_u 0 _ x1 _)
  · rw [setA_same, upd_ne _ _ (by omega), k1, setA_same, upd_ne _ _ (by omega)]
theorem clears_0 (ok : okR (rowP x 0)) {a m n : Nat} (h : Int32) (ha : a < 10) (hm : m < 4) (e : x 0 13 = nI n) (hn : n ≤ a) : mX6_clears x (nI a) (nI m) h = x := by
  have z : ∀ k, k < 2 → x 0 (0 + (68 + (8 * a + 2 * m + k))) = 0 := fun k hk => ok.szH n a m k (by rw [rowP0]; exact e) hn ha hm hk
  unfold mX6_clears
  rw [show (((((0 + 68) + (8 * nI a)) + (2 * nI m)) + 0) : Int32).toNatClampNeg = 0 + (68 + (8 * a + 2 * m + 0)) from jS (P := 0) (k := 0) (by omega), show (((((0 + 68) + (8 * nI a)) + (2 * nI m)) + 1) : Int32).toNatClampNeg = 0 + (68 + (8 * a + 2 * m + 1)) from jS (P := 0) (k := 1) (by omega)]
  rw [z 0 (by omega), zand rfl, set_id x _ (z 0 (by omega)), lt, z 1 (by omega), zand rfl, set_id x _ (z 1 (by omega)), lt]
theorem s_untie (R : Rv v (rowP x 0)) (ok : okR (rowP x 0)) {m h : Nat} (hm : m < 4) {x' : Nat → Nat → Int32} (hx : x' = setA x 0 (upd (x 0) (((((0 : Int32) + 1) + (3 * nI m)) + 2) : Int32).toNatClampNeg (((x 0) (((((0 : Int32) + 1) + (3 * nI m)) + 2)).toNatClampNeg) &&& ((1 <<< (nI h &&& 31)) ^^^ (-1))))) : Rv (mX4_untie v (nI m) (nI h)) (rowP x' 0) ∧ okR (rowP x' 0) ∧ low 0 x x' ∧ x' 0 13 = x 0 13 := by
  rw [c_untie v _ hm]
  rw [show (((((0 : Int32) + 1) + (3 * nI m)) + 2) : Int32).toNatClampNeg = 0 + (3 + 3 * m) from jti (P := 0) (by omega)] at hx
  have e6 : v 5 m = x 0 (0 + (3 + 3 * m)) := R.ti m hm
  refine ⟨?_, ?_, ?_, ?_⟩
  · rw [hx, rowP_u, e6]; exact Rv_ti R hm _
  · rw [hx, rowP_u]; exact ok_ti ok hm (hs_and (ok.ti m hm) _)
  · rw [hx]; exact low_u 0 _ x _
  · rw [hx, setA_same, upd_ne _ _ (by omega)]
theorem s_tally (R : Rv v (rowP x 0)) (ok : okR (rowP x 0)) {k : Nat} (hk : k < 6) {i j : Int32} (hi : i = nI k) (hj : j = nI (62 + k)) {x' : Nat → Nat → Int32} (hx : x' = setA x 0 (upd (x 0) j.toNatClampNeg (x 0 (62 + k) + 1))) : Rv (setA v 2 (mX5_add 6 (v 2) i 1)) (rowP x' 0) ∧ okR (rowP x' 0) ∧ low 0 x x' ∧ (∀ l, l < 62 → x' 0 l = x 0 l) := by
  have e6 : v 2 k = x 0 (62 + k) := by have t := R.ta k hk; rw [rowP0] at t; exact t
  have i0 : (nI (62 + k)).toNatClampNeg = 0 + (62 + k) := by rw [nI_cl (by omega)]; omega
  rw [hj, i0] at hx
  rw [hi, add_in _ _ hk (by omega)]
  refine ⟨?_, ?_, ?_, fun l hl => ?_⟩
  · rw [hx, rowP_u, e6]; exact Rv_ta R hk _
  · rw [hx, rowP_u]; exact ok_ta ok hk
  · rw [hx]; exact low_u 0 _ x _
  · rw [hx, setA_same, upd_ne _ _ (by omega)]
end SV
theorem lt_b {α β : Type} (a : α) (f : α → β) : lt a f = f a := rfl
theorem lt_z {α β : Type} {a : α} {f : α → β} {Q : β → Prop} (h : ∀ z, z = a → Q (f z)) : Q (lt a f) := h a rfl
theorem a_sue {xx : Nat → Nat → Nat → Int32} {x : Nat → Nat → Int32} (h : RR xx x) (a b c : Int32) : (mX5_sue xx a b c).1 = (mX6_sue x a b c).1 ∧ RR (mX5_sue xx a b c).2 (mX6_sue x a b c).2 := by
  have R0 : Rv (xx 0) (rowP x 0) := by rw [rowP0]; exact h.now
  have o0 : okR (rowP x 0) := by rw [rowP0]; exact h.ok
  unfold mX5_sue mX6_sue
  rw [hM0 R0 o0, hH0 R0 o0, e_isHour]
  by_cases c1 : mX6_isMill x 0 a = 0
  · rw [if_pos c1, if_pos c1]; exact ⟨rfl, h⟩
  rw [if_neg c1, if_neg c1]
  obtain ⟨m, hm, rfl⟩ := mill0 o0 c1
  by_cases c2 : mX6_isHouse x 0 b = 0
  · rw [if_pos c2, if_pos c2]; exact ⟨rfl, h⟩
  rw [if_neg c2, if_neg c2]
  obtain ⟨n, hn, rfl⟩ := house0 o0 c2
  by_cases c3 : mX6_isHour c = 0
  · rw [if_pos c3, if_pos c3]; exact ⟨rfl, h⟩
  rw [if_neg c3, if_neg c3]
  obtain ⟨t, ht, rfl⟩ := hour_nI c3
  rw [show mX4_isTied (xx 0) (nI m) (nI t) = mX6_isTied x 0 (nI m) (nI t) from e_isTied R0 (by omega) hm ht]
  by_cases c4 : mX6_isTied x 0 (nI m) (nI t) = 0
  · rw [if_pos c4, if_pos c4]; exact ⟨rfl, h⟩
  rw [if_neg c4, if_neg c4]
  have ea := e_any R0 hn hm ht
  by_cases c5 : mX6_standsAny x (nI n) (nI m) (nI t) = 0
  · rw [if_pos (ea.mpr c5), if_pos c5]; exact ⟨rfl, h⟩
  rw [if_neg (fun z => c5 (ea.mp z)), if_neg c5]
  obtain ⟨q6, hq6⟩ : ∃ z, z = mX6_remembers x := ⟨_, rfl⟩
  have R6 : Rv (xx 0) (rowP q6 0) := by rw [rowP0, hq6, (rem_k h).1]; exact h.now
  have o6 : okR (rowP q6 0) := by rw [rowP0, hq6, (rem_k h).1]; exact h.ok
  rw [lt_b (mX6_remembers x), ← hq6]
  refine lt_z (Q := fun (d : Int32 × (Nat → Nat → Int32)) => (Prod.fst (lt (setV xx 1 (xx 0)) _)) = d.1 ∧ RR (Prod.snd (lt (setV xx 1 (xx 0)) _)) d.2) (fun x7 h7 => ?_)
  obtain ⟨R7, o7, l7, w7⟩ := s_tally (v := xx 0) R6 o6 (k := 2) (i := 2) (j := 64) (by omega) rfl rfl h7
  obtain ⟨v7, hv7⟩ : ∃ z, z = setA (xx 0) 2 (mX5_add 6 (xx 0 2) 2 1) := ⟨_, rfl⟩
  rw [← hv7] at R7
  have eU : ∀ f : (Nat → Nat → Nat → Int32) → Int32 × (Nat → Nat → Nat → Int32), lt (setV xx 1 (xx 0)) (fun xx_6 => lt (mX5_add 6 ((xx_6 0) 2) 2 1) (fun q_7 => lt (setV xx_6 0 (setA (xx_6 0) 2 q_7)) f)) = f (und xx v7) := fun f => by rw [hv7]; rfl
  rw [eU, und_0]
  have eset : mX4_setting v7 3 = (x7 0) 61 := e_setting R7 (k := 3) (by omega)
  have ewin : mX4_windAt v7 (nI t) = x7 0 ((34 + nI t)).toNatClampNeg := e_wind R7 (by omega) ht
  have eti : mX4_tiedHours v7 (nI m) = x7 0 ((((0 + 1) + (3 * nI m)) + 2) : Int32).toNatClampNeg := e_tiedH R7 (by omega) hm
  have ebc : mJ6_bitCount_0f7a4 (x7 0 ((((0 + 1) + (3 * nI m)) + 2) : Int32).toNatClampNeg) = mX6_ones (x7 0 ((((0 + 1) + (3 * nI m)) + 2) : Int32).toNatClampNeg) := by
    refine bc_ones ?_
    rw [show ((((0 + 1) + (3 * nI m)) + 2) : Int32).toNatClampNeg = 0 + (3 + 3 * m) from jti (P := 0) (by omega)]
    exact o7.ti m hm
  rw [eset, ewin, eti, ebc]
  by_cases c6 : (x7 0) 61 < ((x7 0) ((34 + nI t)).toNatClampNeg) * (mX6_ones ((x7 0) ((((0 + 1) + (3 * nI m)) + 2)).toNatClampNeg))
  case neg =>
    rw [if_neg c6, if_neg c6, rec_take h (Or.inl (by decide)), lt]
    exact fin2 (Q := RR) rfl (act_rem h R7 o7 (by rw [← hq6]; exact l7))
  rw [if_pos c6, if_pos c6]
  unfold mX5_winSuit
  refine lt_z (Q := fun (d : Int32 × (Nat → Nat → Int32)) => (Prod.fst (lt (lt (mX5_add 6 (v7 2) 3 1) _) _)) = d.1 ∧ RR (Prod.snd (lt (lt (mX5_add 6 (v7 2) 3 1) _) _)) d.2) (fun x9 h9 => ?_)
  obtain ⟨R9, o9, l9, w9⟩ := s_tally (v := v7) R7 o7 (k := 3) (i := 3) (j := 65) (by omega) rfl rfl h9
  obtain ⟨v9, hv9⟩ : ∃ z, z = setA v7 2 (mX5_add 6 (v7 2) 3 1) := ⟨_, rfl⟩
  rw [← hv9] at R9
  rw [lt_b (mX5_add 6 (v7 2) 3 1), lt_b (setA v7 2 _), ← hv9, add_in _ _ hn (by omega)]
  rw [show ((((0 + 14) + (2 * nI n)) + 1) : Int32).toNatClampNeg = 0 + (15 + 2 * n) from jva (P := 0) (by omega)]
  refine lt_z (Q := fun (d : Int32 × (Nat → Nat → Int32)) => (Prod.fst (lt (lt (upd (v9 7) n (v9 7 n + 1)) _) _)) = d.1 ∧ RR (Prod.snd (lt (lt (upd (v9 7) n (v9 7 n + 1)) _) _)) d.2) (fun x10 h10 => ?_)
  have e10 : v9 7 n = x9 0 (0 + (15 + 2 * n)) := R9.va n hn
  obtain ⟨v10, hv10⟩ : ∃ z, z = setA v9 7 (upd (v9 7) n (v9 7 n + 1)) := ⟨_, rfl⟩
  have R10 : Rv v10 (rowP x10 0) := by rw [hv10, h10, rowP_u, e10]; exact Rv_va R9 hn _
  have o10 : okR (rowP x10 0) := by rw [h10, rowP_u]; exact ok_va o9 hn
  have l10 : low 0 x9 x10 := by rw [h10]; exact low_u 0 _ x9 _
  rw [lt_b (upd (v9 7) n (v9 7 n + 1)), lt_b (setA v9 7 _), ← hv10]
  obtain ⟨R11, o11, l11, -⟩ := s_drop R10 o10 hn hm ht
  obtain ⟨v11, hv11⟩ : ∃ z, z = mX4_dropFor v10 (nI n) (nI m) (nI t) := ⟨_, rfl⟩
  obtain ⟨x11, hx11⟩ : ∃ z, z = mX6_clears x10 (nI n) (nI m) (nI t) := ⟨_, rfl⟩
  rw [← hv11, ← hx11] at R11
  rw [← hx11] at o11 l11
  rw [lt_b (mX4_dropFor v10 _ _ _), lt_b (mX6_clears x10 _ _ _), ← hv11, ← hx11]
  have l : low 0 (mX6_remembers x) x11 := by rw [← hq6]; exact low_t l7 (low_t l9 (low_t l10 l11))
  rw [show mX4_setting v11 2 = (x11 0) 60 from e_setting R11 (k := 2) (by omega), show mX4_points v11 (nI m) (nI t) = mX6_points x11 0 (nI m) (nI t) from e_points R11 o11 (by omega) hm ht]
  by_cases c7 : (x11 0) 60 ≤ mX6_points x11 0 (nI m) (nI t)
  · rw [if_pos c7, if_pos c7, lt_b v11, show setV (und xx v7) 0 v11 = und xx v11 from setV2 _ _ _ _, lt_b (und xx v11), rec_take h (Or.inl (by decide)), lt]
    exact fin2 (Q := RR) rfl (act_rem h R11 o11 l)
  · rw [if_neg c7, if_neg c7]
    refine lt_z (Q := fun (d : Int32 × (Nat → Nat → Int32)) => (Prod.fst (lt (lt (mX4_untie v11 (nI m) (nI t)) _) _)) = d.1 ∧ RR (Prod.snd (lt (lt (mX4_untie v11 (nI m) (nI t)) _) _)) d.2) (fun x13 h13 => ?_)
    obtain ⟨R13, o13, l13, -⟩ := s_untie R11 o11 hm h13
    rw [lt_b (mX4_untie v11 _ _), lt_b (mX4_untie v11 _ _), show setV (und xx v7) 0 (mX4_untie v11 (nI m) (nI t)) = und xx (mX4_untie v11 (nI m) (nI t)) from setV2 _ _ _ _, lt_b (und xx _), rec_take h (Or.inl (by decide)), lt]
    exact fin2 (Q := RR) rfl (act_rem h R13 o13 (low_t l l13))
theorem vote_both {m h : Nat} (hm : m < 4) (hh : h < 24) : ∀ (n k : Nat) (xx : Nat → Nat → Nat → Int32) (x : Nat → Nat → Int32), k + n ≤ 10 → Rv (xx 0) (rowP x 0) → okR (rowP x 0) → ∃ v' x', (∀ C, mX5_vote_115 (nI m) (nI h) C n xx (nI k) = C (setV xx 0 v') (nI (k + n))) ∧ (∀ C j, mX6_vote_109 (nI m) (nI h) C (n + j) x (nI k) = mX6_vote_109 (nI m) (nI h) C j x' (nI (k + n))) ∧ Rv v' (rowP x' 0) ∧ okR (rowP x' 0) ∧ low 0 x x' ∧ x' 0 13 = x 0 13
  | 0, k, xx, x, _, R, ok => ⟨xx 0, x, fun C => by rw [mX5_vote_115, setV_id]; rfl, fun C j => by rw [Nat.zero_add]; rfl, R, ok, low_r 0 x, rfl⟩
  | n + 1, k, xx, x, hk, R, ok => by
    obtain ⟨R1, o1, l1, w1⟩ := s_drop R ok (a := k) (by omega) hm hh
    obtain ⟨v', x', a1, a2, a3, a4, a5, a6⟩ := vote_both hm hh n (k + 1) (setV xx 0 (mX4_dropFor (xx 0) (nI k) (nI m) (nI h))) (mX6_clears x (nI k) (nI m) (nI h)) (by omega) (by rw [setV_same]; exact R1) o1
    refine ⟨v', x', fun C => ?_, fun C j => ?_, a3, a4, low_t l1 a5, by rw [a6, w1 13 (by omega)]⟩
    · rw [mX5_vote_115, lt, lt, nI_s, a1, setV2, show k + 1 + n = k + (n + 1) by omega]
    · rw [show n + 1 + j = (n + j) + 1 by omega, mX6_vote_109, lt, nI_s, a2, show k + 1 + n = k + (n + 1) by omega]
theorem vote_rest {m H : Nat} (h : Int32) (hm : m < 4) {x : Nat → Nat → Int32} (ok : okR (rowP x 0)) (e : x 0 13 = nI H) (C : (Nat → Nat → Int32) → Int32 → (Int32 × (Nat → Nat → Int32))) : ∀ (j k : Nat), H ≤ k → k + j ≤ 10 → mX6_vote_109 (nI m) h C j x (nI k) = C x (nI (k + j))
  | 0, k, _, _ => rfl
  | j + 1, k, h1, h2 => by
    rw [mX6_vote_109, clears_0 ok h (by omega) hm e h1, lt, nI_s, vote_rest h hm ok e C j (k + 1) (by omega) (by omega), show k + 1 + j = k + (j + 1) by omega]
theorem tr_10 : tr 0 10 = 10 := by decide +kernel
theorem a_vote {xx : Nat → Nat → Nat → Int32} {x : Nat → Nat → Int32} (h : RR xx x) (a c : Int32) : (mX5_vote xx a c).1 = (mX6_vote x a c).1 ∧ RR (mX5_vote xx a c).2 (mX6_vote x a c).2 := by
  have R0 : Rv (xx 0) (rowP x 0) := by rw [rowP0]; exact h.now
  have o0 : okR (rowP x 0) := by rw [rowP0]; exact h.ok
  unfold mX5_vote mX6_vote
  rw [hM0 R0 o0, e_isHour]
  by_cases c1 : mX6_isMill x 0 a = 0
  · rw [if_pos c1, if_pos c1]; exact ⟨rfl, h⟩
  rw [if_neg c1, if_neg c1]
  obtain ⟨m, hm, rfl⟩ := mill0 o0 c1
  by_cases c3 : mX6_isHour c = 0
  · rw [if_pos c3, if_pos c3]; exact ⟨rfl, h⟩
  rw [if_neg c3, if_neg c3]
  obtain ⟨t, ht, rfl⟩ := hour_nI c3
  rw [show mX4_isTied (xx 0) (nI m) (nI t) = mX6_isTied x 0 (nI m) (nI t) from e_isTied R0 (by omega) hm ht, show (xx 0) 10 0 = x 0 13 from h.now.nh]
  by_cases c4 : mX6_isTied x 0 (nI m) (nI t) = 0
  · rw [if_pos c4, if_pos c4]; exact ⟨rfl, h⟩
  rw [if_neg c4, if_neg c4]
  by_cases c5 : x 0 13 = 0
  · rw [if_pos c5, if_pos c5]; exact ⟨rfl, h⟩
  rw [if_neg c5, if_neg c5]
  obtain ⟨q6, hq6⟩ : ∃ z, z = mX6_remembers x := ⟨_, rfl⟩
  have R6 : Rv (xx 0) (rowP q6 0) := by rw [rowP0, hq6, (rem_k h).1]; exact h.now
  have o6 : okR (rowP q6 0) := by rw [rowP0, hq6, (rem_k h).1]; exact h.ok
  rw [lt_b (mX6_remembers x), ← hq6]
  refine lt_z (Q := fun (d : Int32 × (Nat → Nat → Int32)) => (Prod.fst (lt (setV xx 1 (xx 0)) _)) = d.1 ∧ RR (Prod.snd (lt (setV xx 1 (xx 0)) _)) d.2) (fun x7 h7 => ?_)
  obtain ⟨R7, o7, l7, w7⟩ := s_tally (v := xx 0) R6 o6 (k := 4) (i := 4) (j := 66) (by omega) rfl rfl h7
  obtain ⟨v7, hv7⟩ : ∃ z, z = setA (xx 0) 2 (mX5_add 6 (xx 0 2) 4 1) := ⟨_, rfl⟩
  rw [← hv7] at R7
  have eU : ∀ f : (Nat → Nat → Nat → Int32) → Int32 × (Nat → Nat → Nat → Int32), lt (setV xx 1 (xx 0)) (fun xx_6 => lt (mX5_add 6 ((xx_6 0) 2) 4 1) (fun q_7 => lt (setV xx_6 0 (setA (xx_6 0) 2 q_7)) f)) = f (und xx v7) := fun f => by rw [hv7]; rfl
  rw [eU, und_0]
  rw [e_votes R7 o7 hm ht, show v7 10 0 = x7 0 13 from by have t := R7.nh; rw [rowP0] at t; exact t]
  obtain ⟨H, hH, eH⟩ := o7.H
  rw [rowP0] at eH
  have vr : 0 ≤ (mX6_votes x7 (nI m) (nI t)).toInt := by
    rw [m_votes R7 o7 eH hH, nI_toInt (by omega)]; omega
  revert vr
  generalize mX6_votes x7 (nI m) (nI t) = vs
  intro vr
  by_cases c6 : 2 * vs ≤ x7 0 13
  · rw [if_pos c6, if_pos c6, rec_take h (Or.inl vr), lt]
    exact fin2 (Q := RR) rfl (act_rem h R7 o7 (by rw [← hq6]; exact l7))
  rw [if_neg c6, if_neg c6]
  refine lt_z (Q := fun (d : Int32 × (Nat → Nat → Int32)) => (Prod.fst (lt (mX5_add 6 (v7 2) 5 1) _)) = d.1 ∧ RR (Prod.snd (lt (mX5_add 6 (v7 2) 5 1) _)) d.2) (fun x8 h8 => ?_)
  obtain ⟨R8, o8, l8, w8⟩ := s_tally (v := v7) R7 o7 (k := 5) (i := 5) (j := 67) (by omega) rfl rfl h8
  obtain ⟨v8, hv8⟩ : ∃ z, z = setA v7 2 (mX5_add 6 (v7 2) 5 1) := ⟨_, rfl⟩
  rw [← hv8] at R8
  refine lt_z (Q := fun (d : Int32 × (Nat → Nat → Int32)) => (Prod.fst (lt (mX5_add 6 (v7 2) 5 1) _)) = d.1 ∧ RR (Prod.snd (lt (mX5_add 6 (v7 2) 5 1) _)) d.2) (fun x9 h9 => ?_)
  obtain ⟨R9, o9, l9, w9⟩ := s_untie R8 o8 hm h9
  have eV : ∀ f : (Nat → Nat → Nat → Int32) → Int32 × (Nat → Nat → Nat → Int32), lt (mX5_add 6 (v7 2) 5 1) (fun q_10 => lt (setV (und xx v7) 0 (setA v7 2 q_10)) (fun xx_11 => lt (mX4_untie (xx_11 0) (nI m) (nI t)) (fun q_12 => lt (setV xx_11 0 q_12) f))) = f (und xx (mX4_untie v8 (nI m) (nI t))) := fun f => by
    rw [lt, lt, lt, lt, setV_same, setV2, ← hv8]; unfold und; rw [setV2]
  rw [eV, und_0]
  obtain ⟨v9, hv9⟩ : ∃ z, z = mX4_untie v8 (nI m) (nI t) := ⟨_, rfl⟩
  rw [← hv9] at R9 ⊢
  have eH9 : x9 0 13 = nI H := by rw [w9, w8 13 (by omega)]; exact eH
  rw [show v9 10 0 = nI H from by have t := R9.nh; rw [rowP0, eH9] at t; exact t, tr_0 (by omega), tr_10]
  obtain ⟨v', x', a1, a2, a3, a4, a5, a6⟩ := vote_both hm ht H 0 (und xx v9) x9 (by omega) (by rw [und_0]; exact R9) o9
  rw [nI_0] at a1 a2
  rw [a1, show 10 = H + (10 - H) by omega, a2, vote_rest (nI t) hm a4 (by rw [a6]; exact eH9) _ (10 - H) (0 + H) (by omega) (by omega)]
  rw [show setV (und xx v9) 0 v' = und xx v' from setV2 _ _ _ _, rec_take h (Or.inl vr), lt]
  exact fin2 (Q := RR) rfl (act_rem h a3 a4 (by rw [← hq6]; exact low_t l7 (low_t l8 (low_t l9 a5))))
