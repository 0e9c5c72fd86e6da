/-! P29, PURE 5: hours: votes, quiet ones, the loudest house, the best hour. -/
section AH
variable {v : Nat → Nat → Int32} {M N : Nat}
def tcN (v : Nat → Nat → Int32) (m h a : Nat) : Nat := if mX4_troublesIfUntied v (nI m) (nI a) (nI 0) (nI h) = 0 then (if mX4_troublesIfUntied v (nI m) (nI a) (nI 1) (nI h) = 0 then 0 else 1) else 1
theorem tcN_le (v : Nat → Nat → Int32) (m h a : Nat) : tcN v m h a ≤ 1 := by unfold tcN; split <;> (try split) <;> omega
def tcS (v : Nat → Nat → Int32) (m h N : Nat) : Nat := sL (tcN v m h) N 0
theorem tcS_le (v : Nat → Nat → Int32) (m h N : Nat) : tcS v m h N ≤ N := by
  have := sL_le (tcN_le v m h) N 0; unfold tcS; omega
theorem tc_loop {m h : Nat} : ∀ (n k s : Nat), mX4_troubledIfUntied_5 v (nI m) (nI h) (fun _ y => y) n (nI k) (nI s) = nI (s + sL (tcN v m h) n k)
  | 0, k, s => rfl
  | n + 1, k, s => by
    rw [mX4_troubledIfUntied_5, show mX4_troublesIfUntied v (nI m) (nI k) 0 (nI h) = mX4_troublesIfUntied v (nI m) (nI k) (nI 0) (nI h) from rfl, show mX4_troublesIfUntied v (nI m) (nI k) 1 (nI h) = mX4_troublesIfUntied v (nI m) (nI k) (nI 1) (nI h) from rfl, nI_s, nI_s, tc_loop n (k + 1), tc_loop n (k + 1), sL]
    unfold tcN
    split
    · split
      · congr 1; omega
      · congr 1; omega
    · congr 1; omega
theorem c_tc (V : VV v M N) {m h : Nat} : mX4_troubledIfUntied v (nI m) (nI h) = nI (tcS v m h N) := by
  have := V.N10
  unfold mX4_troubledIfUntied
  rw [V.eN, tr_0 (by omega), show (0 : Int32) = nI 0 from rfl, tc_loop N 0 0, Nat.zero_add]; rfl
theorem c_votes (V : VV v M N) {m h : Nat} : mX4_votesForUntying v (nI m) (nI h) = nI (N - tcS v m h N) := by
  have := V.N10
  unfold mX4_votesForUntying
  rw [c_tc V, V.eN, nI_sub (tcS_le v m h N) (by omega)]
theorem c_ifV (V : VV v M N) {m h : Nat} (hm : m < M) (hh : h < 24) : mX5_ifVoted v (nI m) (nI h) = nI (N - tcS v m h N) := by
  unfold mX5_ifVoted
  rw [if_neg (hm_1 V hm), if_neg (hr_1 hh), c_votes V]
theorem tc_calm (V : VV v M N) {m h : Nat} (hm : m < 4) (hh : h < 24) (c : v 0 h < 2) : tcS v m h N = 0 := by
  have := V.N10
  refine sL_z N 0 (fun a _ ha => ?_)
  have d := c_tr1 V (a := a) (by omega) hm hh
  have c2 := (w_lt2 V hh).mp c
  unfold tcN
  have n0 : nzV v m (nn (v 6 a)) h = 0 := by unfold nzV nzN; rw [if_pos (by omega)]
  rw [c_tr0 V (by omega) hm hh, if_pos (show nzV v m (nn (v 6 a)) h ≤ nn (v 1 (bnK h)) by rw [n0]; exact Nat.zero_le _), if_pos rfl]
  rcases d with ⟨z, q⟩ | ⟨z, q⟩
  · exact absurd c q.1
  · rw [z, if_pos rfl]
theorem tv_bits (V : VV v M N) {m : Nat} (hm : m < 4) : ∀ (n k : Nat) (s : Int32) (h : Nat), k + n ≤ 24 → h < 24 → bt (mX4_turningHours_4 v (nI m) (fun _ y => y) n (nI k) s) h = (bt s h || (decide (k ≤ h ∧ h < k + n) && tuV v m h))
  | 0, k, s, h, _, _ => by
    rw [mX4_turningHours_4]
    rw [decide_eq_false (by omega)]; simp
  | n + 1, k, s, h, hk, hh => by
    rw [mX4_turningHours_4, nI_s, c_tu V hm (by omega)]
    by_cases e : h = k
    · subst e
      cases c : tuV v m h
      · rw [if_pos (by rfl), tv_bits V hm n (h + 1) s h (by omega) hh, c]; simp
      · rw [if_neg (by decide), tv_bits V hm n (h + 1) _ h (by omega) hh, bt_or, bt_shl (by omega), decide_eq_true (show h ≤ h ∧ h < h + (n + 1) by omega), c]; simp
    · cases tuV v m k
      · rw [if_pos (by rfl), tv_bits V hm n (k + 1) s h (by omega) hh]
        rw [show decide (k + 1 ≤ h ∧ h < k + 1 + n) = decide (k ≤ h ∧ h < k + (n + 1)) from decide_eq_decide.mpr (by omega)]
      · rw [if_neg (by decide), tv_bits V hm n (k + 1) _ h (by omega) hh, bt_or, bt_shl (by omega)]
        rw [show decide (k + 1 ≤ h ∧ h < k + 1 + n) = decide (k ≤ h ∧ h < k + (n + 1)) from decide_eq_decide.mpr (by omega), decide_eq_false e]; simp
theorem bt_z (h : Nat) : bt 0 h = false := by unfold bt; exact BitVec.getLsbD_zero
theorem bt_tv (V : VV v M N) {m h : Nat} (hm : m < 4) (hh : h < 24) : bt (mX4_turningHours v (nI m)) h = tuV v m h := by
  have e := tv_bits V hm 24 0 0 h (by omega) hh
  have e2 : mX4_turningHours v (nI m) = mX4_turningHours_4 v (nI m) (fun _ y => y) 24 (nI 0) 0 := by unfold mX4_turningHours; rw [tr_24]; rfl
  rw [e2, e, bt_z, decide_eq_true (show 0 ≤ h ∧ h < 0 + 24 by omega)]; simp
/-- the best hour, a step of it, told as the law tells it -/
theorem bt_step (V : VV v M N) {m k n : Nat} (hm : m < 4) (hk : k < 24) (D : Int32 → Int32 → Int32 → Int32) {p b T : Int32} (hp : 0 ≤ p.toInt) (hb : b = -5 ∨ ∃ j, j < 24 ∧ b = nI j) (hT : T = if tuV v m k then nI (tcS v m k N) else 0) : mX5_bestTied_21 v (nI m) D (n + 1) (nI k) p b = mX5_bestTied_21 v (nI m) D n (nI (k + 1)) (if T ≤ p then p else T) (if p < T then nI k else (if T = p then (if b < 0 then b else (if v 0 b.toNatClampNeg ≤ v 0 k then b else nI k)) else b)) := by
  have e0 : (0 : Int32).toInt = 0 := rfl
  have e5 : (-5 : Int32).toInt = -5 := rfl
  have hp' : ¬ p < 0 := by rw [i_lt]; omega
  rw [mX5_bestTied_21, nI_s, c_tu V hm hk, c_tc V, c_wind v hk]
  have F : ∀ T : Int32, (b = -5 ∨ ∃ j, j < 24 ∧ b = nI j) → (if b = (-5) then (if p < T then (mX5_bestTied_21 v (nI m) D n (nI (k + 1)) T (nI k)) else (if T = p then (mX5_bestTied_21 v (nI m) D n (nI (k + 1)) p b) else (mX5_bestTied_21 v (nI m) D n (nI (k + 1)) p b))) else (if (mX4_windAt v b) ≤ v 0 k then (if p < T then (mX5_bestTied_21 v (nI m) D n (nI (k + 1)) T (nI k)) else (if T = p then (mX5_bestTied_21 v (nI m) D n (nI (k + 1)) p b) else (mX5_bestTied_21 v (nI m) D n (nI (k + 1)) p b))) else (if p < T then (mX5_bestTied_21 v (nI m) D n (nI (k + 1)) T (nI k)) else (if T = p then (mX5_bestTied_21 v (nI m) D n (nI (k + 1)) T (nI k)) else (mX5_bestTied_21 v (nI m) D n (nI (k + 1)) p b))))) = mX5_bestTied_21 v (nI m) D n (nI (k + 1)) (if T ≤ p then p else T) (if p < T then nI k else (if T = p then (if b < 0 then b else (if v 0 b.toNatClampNeg ≤ v 0 k then b else nI k)) else b)) := by
    intro T hb
    by_cases c1 : p < T
    · have c2 : ¬ T ≤ p := by rw [i_le]; rw [i_lt] at c1; omega
      simp only [if_pos c1, if_neg c2]
      split
      · rfl
      · split <;> rfl
    · have c2 : T ≤ p := by rw [i_le]; rw [i_lt] at c1; omega
      simp only [if_neg c1, if_pos c2]
      by_cases c3 : T = p
      · simp only [if_pos c3]
        rcases hb with rfl | ⟨j, hj, rfl⟩
        · rw [if_pos rfl, if_pos (show (-5 : Int32) < 0 by decide)]
        · have hn5 : ¬ nI j = -5 := fun z => by
            have := congrArg Int32.toInt z
            rw [nI_toInt (by omega)] at this
            omega
          rw [if_neg hn5, if_neg (nI_lt0 (by omega)), c_wind v hj, nI_cl (by omega)]
          by_cases c4 : v 0 j ≤ v 0 k
          · rw [if_pos c4, if_pos c4]
          · rw [if_neg c4, if_neg c4, c3]
      · simp only [if_neg c3]
        split
        · rfl
        · split <;> rfl
  have G0 := F 0 hb
  have GT := F (nI (tcS v m k N)) hb
  subst hT
  cases tuV v m k
  · rw [if_pos (show (if false = true then (1 : Int32) else 0) = 0 from rfl)]
    exact G0
  · rw [if_neg (show ¬ (if true = true then (1 : Int32) else 0) = 0 by decide)]
    exact GT
end AH
section AJ
variable {xx : Nat → Nat → Nat → Int32} {M N : Nat}
theorem c_noiseH (V : VV (xx 0) M N) {m a h : Nat} (hm : m < M) (ha : a < N) (hh : h < 24) : mX5_noise (xx 0) (nI m) (xx 0 6 a) (nI h) = mX4_noiseIn (xx 0) (nI m) (mX5_at 10 (xx 0 6) (nI a)) (nI h) := by
  have := V.N10
  unfold mX5_noise
  rw [if_neg (hm_1 V hm), if_neg (by rw [V.hy (a := a) (by omega)]; exact yd_1 (V.hy9 (by omega))), if_neg (hr_1 hh), at_in _ (by omega) (by omega)]
theorem l197 (V : VV (xx 0) M N) {a h : Nat} (ha : a < N) (hh : h < 24) (C : Int32 → Int32 → Int32) : ∀ (n k : Nat) (s : Int32), k + n ≤ M → mL_areHours_197 xx (nI h) (nI a) C n (nI k) s = C (nI (k + n)) (mX4_noiseOfAllMills_5 (xx 0) (nI a) (nI h) (fun _ y => y) n (nI k) s)
  | 0, k, s, _ => by rw [mL_areHours_197, mX4_noiseOfAllMills_5]; rfl
  | n + 1, k, s, hk => by
    rw [mL_areHours_197, ho_0 V ha]
    refine lt_v ?_
    rw [c_noiseH V (by omega) ha hh]
    refine lt_v ?_
    refine lt_v ?_
    rw [nI_s, l197 V ha hh C n (k + 1) _ (by omega), mX4_noiseOfAllMills_5, nI_s, show k + 1 + n = k + (n + 1) by omega]
theorem l184 (V : VV (xx 0) M N) {h : Nat} (hh : h < 24) (C : Int32 → Int32 → Int32 → Int32) : ∀ (n k : Nat) (p q : Int32), k + n ≤ N → mL_areHours_184 xx (nI h) C n (nI k) p q = C (nI (k + n)) (mX5_loudest_17 (xx 0) (nI h) (fun _ y _ => y) n (nI k) p q) (mX5_loudest_17 (xx 0) (nI h) (fun _ _ y => y) n (nI k) p q)
  | 0, k, p, q, _ => by rw [mL_areHours_184, mX5_loudest_17, mX5_loudest_17]; rfl
  | n + 1, k, p, q, hk => by
    have hM := V.M4
    have e : mX4_noiseOfAllMills (xx 0) (nI k) (nI h) = mX4_noiseOfAllMills_5 (xx 0) (nI k) (nI h) (fun _ y => y) M (nI 0) 0 := by
      unfold mX4_noiseOfAllMills; rw [V.eM, tr_0 (by omega)]; rfl
    have e2 := l197 V (a := k) (by omega) hh (fun x15_197 x14_197 => (lt (if x14_197 ≤ p then q else nI k) (fun y247 => (lt (if x14_197 ≤ p then p else x14_197) (fun y263 => (mL_areHours_184 xx (nI h) C n (nI k + 1) y263 y247)))))) M 0 0 (by omega)
    rw [mL_areHours_184, ct_0, V.eM, tr_0 (by omega)]
    refine e2.trans ?_
    rw [← e, mX5_loudest_17, mX5_loudest_17, nI_s]
    refine lt_v ?_
    refine lt_v ?_
    rw [l184 V hh C n (k + 1) _ _ (by omega), show k + 1 + n = k + (n + 1) by omega]
    by_cases c : mX4_noiseOfAllMills (xx 0) (nI k) (nI h) ≤ p
    · rw [if_pos c, if_pos c, if_pos c, if_pos c]
    · rw [if_neg c, if_neg c, if_neg c, if_neg c]
theorem l184_0 (V : VV (xx 0) M N) {h : Nat} (hh : h < 24) (C : Int32 → Int32 → Int32 → Int32) : mL_areHours_184 xx (nI h) C N 0 0 (-5) = C (nI (0 + N)) (mX5_loudest_17 (xx 0) (nI h) (fun _ y _ => y) N 0 0 (-5)) (mX5_loudest_17 (xx 0) (nI h) (fun _ _ y => y) N 0 0 (-5)) := l184 V hh C N 0 0 (-5) (by omega)
theorem c_loud (V : VV (xx 0) M N) {h : Nat} (hh : h < 24) : mX5_loudest (xx 0) (nI h) = mX5_loudest_17 (xx 0) (nI h) (fun _ _ y => y) N 0 0 (-5) := by
  have := V.N10
  unfold mX5_loudest
  rw [if_neg (hr_1 hh), V.eN, tr_0 (by omega)]
theorem l27 (V : VV (xx 0) M N) (hw : ∀ h, h < 24 → xx 10 0 h = xx 0 0 h) {m : Nat} (hm : m < M) (C : Int32 → Int32 → Int32 → Int32 → Int32) : ∀ (n k : Nat) (p b s : Int32), k + n ≤ 24 → 0 ≤ p.toInt → (b = -5 ∨ ∃ j, j < 24 ∧ b = nI j) → mL_areHours_27 xx (nI m) (nI N) (mX4_turningHours (xx 0) (nI m)) C n (nI k) p b s = C (nI (k + n)) (mX5_bestTied_21 (xx 0) (nI m) (fun _ y _ => y) n (nI k) p b) (mX5_bestTied_21 (xx 0) (nI m) (fun _ _ y => y) n (nI k) p b) (mX5_quietHours_17 (xx 0) (nI m) (fun _ y => y) n (nI k) s)
  | 0, k, p, b, s, _, _, _ => by rw [mL_areHours_27, mX5_bestTied_21, mX5_bestTied_21, mX5_quietHours_17]; rfl
  | n + 1, k, p, b, s, hk, hp, hb => by
    have hM := V.M4
    have hN := V.N10
    have hm4 : m < 4 := by omega
    have hh : k < 24 := by omega
    have e0 : (0 : Int32).toInt = 0 := rfl
    have hle := tcS_le (xx 0) m k N
    have ek : xx 10 0 (nI k).toNatClampNeg = xx 0 0 k := by rw [nI_cl (by omega), hw k hh]
    have hbw : ¬ b < 0 → xx 10 0 b.toNatClampNeg = xx 0 0 b.toNatClampNeg := by
      intro c
      rcases hb with rfl | ⟨j, hj, rfl⟩
      · exact absurd (by decide) c
      · rw [nI_cl (by omega), hw j hj]
    obtain ⟨T, hT⟩ : ∃ T, T = if tuV (xx 0) m k then nI (tcS (xx 0) m k N) else 0 := ⟨_, rfl⟩
    have hT0 : 0 ≤ T.toInt := by
      rw [hT]; split
      · rw [nI_toInt (by omega)]; omega
      · omega
    obtain ⟨p', hp'⟩ : ∃ z, z = (if T ≤ p then p else T) := ⟨_, rfl⟩
    obtain ⟨b', hb'⟩ : ∃ z, z = (if p < T then nI k else (if T = p then (if b < 0 then b else (if xx 0 0 b.toNatClampNeg ≤ xx 0 0 k then b else nI k)) else b)) := ⟨_, rfl⟩
    have hp0 : 0 ≤ p'.toInt := by rw [hp']; split <;> omega
    have hb0 : b' = -5 ∨ ∃ j, j < 24 ∧ b' = nI j := by
      rw [hb']
      split
      · exact Or.inr ⟨k, hh, rfl⟩
      · split
        · split
          · exact hb
          · split
            · exact hb
            · exact Or.inr ⟨k, hh, rfl⟩
        · exact hb
    obtain ⟨s', hs'⟩ : ∃ z, z = s ||| (if xx 0 0 k ≤ 1 then (0 : Int32) else (if nI (N - tcS (xx 0) m k N) = nI N then ((1 : Int32) <<< (nI k &&& 31)) else 0)) := ⟨_, rfl⟩
    have ih := l27 V hw hm C n (k + 1) p' b' s' (by omega) hp0 hb0
    have qh : mX5_quietHours_17 (xx 0) (nI m) (fun _ y => y) (n + 1) (nI k) s = mX5_quietHours_17 (xx 0) (nI m) (fun _ y => y) n (nI (k + 1)) s' := by
      rw [mX5_quietHours_17, c_blows _ hh, c_tc V, nI_s, hs']
      by_cases c : xx 0 0 k < 2
      · rw [if_pos c, if_pos rfl, if_pos (by have : (1 : Int32).toInt = 1 := rfl; have : (2 : Int32).toInt = 2 := rfl; rw [i_le]; rw [i_lt] at c; omega), Int32.or_zero]
      · have c1 : ¬ xx 0 0 k ≤ 1 := by
          have : (1 : Int32).toInt = 1 := rfl
          have : (2 : Int32).toInt = 2 := rfl
          rw [i_le]; rw [i_lt] at c; omega
        rw [if_neg c, if_neg (show ¬ (1 : Int32) = 0 by decide), if_neg c1]
        by_cases c2 : nI (tcS (xx 0) m k N) = 0
        · have t0 : tcS (xx 0) m k N = 0 := nI_inj (by omega) (by omega) (show nI (tcS (xx 0) m k N) = nI 0 from c2)
          rw [if_pos c2, t0, Nat.sub_zero, if_pos rfl]
        · rw [if_neg c2, if_neg (fun z => c2 (by have := nI_inj (by omega) (by omega) z; rw [show tcS (xx 0) m k N = 0 by omega]; rfl)), Int32.or_zero]
    rw [bt_step V hm4 hh _ hp hb hT, bt_step V hm4 hh _ hp hb hT, ← hp', ← hb', qh, show k + (n + 1) = k + 1 + n by omega, ← ih]
    have main : (lt (if xx 0 0 k ≤ 1 then (0 : Int32) else (if nI (N - tcS (xx 0) m k N) = nI N then ((1 : Int32) <<< (nI k &&& 31)) else 0)) (fun y96 => (lt (s ||| y96) (fun e_13 => (lt (mL_has (mX4_turningHours (xx 0) (nI m)) (nI k)) (fun r_14 => (lt (if r_14 = 0 then (0 : Int32) else (nI N - nI (N - tcS (xx 0) m k N))) (fun y117 => (lt (if p < y117 then nI k else (if y117 = p then (if b < 0 then b else (if ((xx 10 0) (b).toNatClampNeg) ≤ xx 0 0 k then b else nI k)) else b)) (fun y156 => (lt (if y117 ≤ p then p else y117) (fun y172 => (mL_areHours_184 xx (nI k) (fun x13 x12 x11 => (lt (mX5_loudest (xx 0) (nI k)) (fun r_19 => (if r_19 = x11 then (mL_areHours_27 xx (nI m) (nI N) (mX4_turningHours (xx 0) (nI m)) C n (nI k + 1) y172 y156 e_13) else 0)))) (tr 0 (nI N)) 0 0 (-5)))))))))))))) = mL_areHours_27 xx (nI m) (nI N) (mX4_turningHours (xx 0) (nI m)) C n (nI (k + 1)) p' b' s' := by
      refine lt_v ?_
      rw [← hs']
      refine lt_v ?_
      rw [c_has _ hh, bt_tv V hm4 hh]
      refine lt_v ?_
      have eT : (if (if tuV (xx 0) m k then (1 : Int32) else 0) = 0 then 0 else (nI N - nI (N - tcS (xx 0) m k N))) = T := by
        rw [hT]
        cases tuV (xx 0) m k
        · rfl
        · show nI N - nI (N - tcS (xx 0) m k N) = nI (tcS (xx 0) m k N)
          rw [nI_sub (by omega) (by omega)]
          congr 1; omega
      rw [eT]
      refine lt_v ?_
      have eb : (if p < T then nI k else (if T = p then (if b < 0 then b else (if ((xx 10 0) (b).toNatClampNeg) ≤ xx 0 0 k then b else nI k)) else b)) = b' := by
        rw [hb']
        split
        · rfl
        · split
          · by_cases c : b < 0
            · rw [if_pos c, if_pos c]
            · rw [if_neg c, if_neg c, hbw c]
          · rfl
      rw [eb]
      refine lt_v ?_
      rw [← hp']
      refine lt_v ?_
      rw [tr_0 (by omega), l184_0 V hh, c_loud V hh]
      refine lt_v ?_
      rw [if_pos rfl, nI_s]
    rw [mL_areHours_27, ek, c_ifV V hm hh]
    refine lt_v ?_
    rw [if_neg (nI_lt0 (by omega)), if_neg (by rw [nJ_lt (by omega) (by omega)]; omega)]
    by_cases c : 2 ≤ xx 0 0 k
    · rw [if_pos c]; exact main
    · have c2 : xx 0 0 k < 2 := by rw [i_lt]; rw [i_le] at c; omega
      rw [if_neg c, if_pos (by rw [tc_calm V hm4 hh c2, Nat.sub_zero])]
      exact main
theorem l27_0 (V : VV (xx 0) M N) (hw : ∀ h, h < 24 → xx 10 0 h = xx 0 0 h) {m : Nat} (hm : m < M) (C : Int32 → Int32 → Int32 → Int32 → Int32) : mL_areHours_27 xx (nI m) (nI N) (mX4_turningHours (xx 0) (nI m)) C 24 0 0 (-5) 0 = C (nI (0 + 24)) (mX5_bestTied_21 (xx 0) (nI m) (fun _ y _ => y) 24 0 0 (-5)) (mX5_bestTied_21 (xx 0) (nI m) (fun _ _ y => y) 24 0 0 (-5)) (mX5_quietHours_17 (xx 0) (nI m) (fun _ y => y) 24 0 0) := l27 V hw hm C 24 0 0 (-5) 0 (by omega) (by decide) (Or.inl rfl)
theorem p_areHours (V : VV (xx 0) M N) (hw : ∀ h, h < 24 → xx 10 0 h = xx 0 0 h) {m : Nat} (hm : m < M) : mL_areHours xx (nI m) = 1 := by
  unfold mL_areHours
  rw [ct_1, V.eN]
  refine lt_v ?_
  rw [mo_3 V hm]
  refine lt_v ?_
  rw [tr_24, l27_0 V hw hm]
  refine lt_v ?_
  rw [if_pos (show mX5_quietHours (xx 0) (nI m) = mX5_quietHours_17 (xx 0) (nI m) (fun _ y => y) 24 0 0 by unfold mX5_quietHours; rw [if_neg (hm_1 V hm), tr_24])]
  refine lt_v ?_
  rw [if_pos (show mX5_bestTied (xx 0) (nI m) = mX5_bestTied_21 (xx 0) (nI m) (fun _ _ y => y) 24 0 0 (-5) by unfold mX5_bestTied; rw [if_neg (hm_1 V hm), tr_24])]
end AJ
