/-! PURE 19: settings; ground. -/
theorem e_ground {v x : Nat → Nat → Int32} (R : Rv v (rowP x 0)) (ok : okR (rowP x 0)) : mX5_ground v = mX6_ground x := by
  unfold mX5_ground mX6_ground
  rw [e_om1 R ok, e_om9 R ok]
theorem e_canSet (k : Nat) (hk : k < 4) (b : Int32) : (b < mX5_at 4 (setF 1) (nI k) → mX6_canSet (nI k) b = 0) ∧ (¬ b < mX5_at 4 (setF 1) (nI k) → b ≤ mX5_at 4 (setF 2) (nI k) → mX6_canSet (nI k) b = 1 ∧ ∃ n, n ≤ 99 ∧ b = nI n) ∧ (¬ b < mX5_at 4 (setF 1) (nI k) → ¬ b ≤ mX5_at 4 (setF 2) (nI k) → mX6_canSet (nI k) b = 0) := by
  have t0 : (0 : Int32).toInt = 0 := rfl
  have t1 : (1 : Int32).toInt = 1 := rfl
  have t9 : (9 : Int32).toInt = 9 := rfl
  have t20 : (20 : Int32).toInt = 20 := rfl
  have t99 : (99 : Int32).toInt = 99 := rfl
  rw [at_in _ hk (by omega), at_in _ hk (by omega)]
  have key : ∀ lo hi : Int32, 0 ≤ lo.toInt → hi.toInt ≤ 99 → (b < lo → mX6_in b lo hi = 0) ∧ (¬ b < lo → b ≤ hi → mX6_in b lo hi = 1 ∧ ∃ n, n ≤ 99 ∧ b = nI n) ∧ (¬ b < lo → ¬ b ≤ hi → mX6_in b lo hi = 0) := fun lo hi h1 h2 => by
    unfold mX6_in
    refine ⟨fun c => by rw [if_pos c], fun c d => ?_, fun c d => ?_⟩
    · refine ⟨by rw [if_neg c, if_neg (by rw [i_lt]; rw [i_le] at d; omega)], ?_⟩
      rw [i_lt] at c
      rw [i_le] at d
      obtain ⟨n, hn, e⟩ := of_rng (i := b) (n := 100) (by omega) (by omega)
      exact ⟨n, by omega, e⟩
    · rw [if_neg c, if_pos (by rw [i_lt]; rw [i_le] at d; omega)]
  have w : ∀ u : Int32, (if u = 0 then (0 : Int32) else 1) = u → (u = 0 ∨ u = 1) := fun u h => by
    by_cases c : u = 0
    · exact Or.inl c
    · rw [if_neg c] at h; exact Or.inr h.symm
  rcases (show k = 0 ∨ k = 1 ∨ k = 2 ∨ k = 3 by omega) with rfl | rfl | rfl | rfl
  · exact key 0 20 (by decide) (by decide)
  · exact key 0 20 (by decide) (by decide)
  · exact key 1 9 (by decide) (by decide)
  · have kk := key 0 99 (by decide) (by decide)
    have e : mX6_canSet (nI 3) b = if mX6_in b 0 99 = 0 then 0 else 1 := rfl
    rw [e]
    refine ⟨fun c => by rw [if_pos (kk.1 c)], fun c d => ⟨by rw [if_neg (by rw [(kk.2.1 c d).1]; decide)], (kk.2.1 c d).2⟩, fun c d => by rw [if_pos (kk.2.2 c d)]⟩
theorem a_set {xx : Nat → Nat → Nat → Int32} {x : Nat → Nat → Int32} (h : RR xx x) (a b : Int32) : (mX5_set xx a b).1 = (mX6_set x a b).1 ∧ RR (mX5_set xx a b).2 (mX6_set x a b).2 := by
  have R0 : Rv (xx 0) (rowP x 0) := by rw [rowP0]; exact h.now
  have o0 : okR (rowP x 0) := by rw [rowP0]; exact h.ok
  have t0 : (0 : Int32).toInt = 0 := rfl
  have t4 : (4 : Int32).toInt = 4 := rfl
  unfold mX5_set mX6_set
  have bad : ¬ (0 ≤ a.toInt ∧ a.toInt < 4) → mX6_canSet a b = 0 := fun z => by
    have ne : ∀ u : Int32, 0 ≤ u.toInt → u.toInt < 4 → ¬ a = u := fun u h1 h2 e => z (by rw [e]; exact ⟨h1, h2⟩)
    unfold mX6_canSet
    rw [if_neg (ne 0 (by decide) (by decide)), if_neg (ne 1 (by decide) (by decide)), if_neg (ne 2 (by decide) (by decide)), if_neg (ne 3 (by decide) (by decide))]
  by_cases c1 : a < 0
  · rw [if_pos c1, if_pos (bad (by rw [i_lt] at c1; omega))]; exact fin2 (Q := RR) rfl h
  rw [if_neg c1]
  by_cases c2 : a < 4
  case neg => rw [if_neg c2, if_pos (bad (by rw [i_lt] at c2; omega))]; exact fin2 (Q := RR) rfl h
  rw [if_pos c2]
  obtain ⟨k, hk, rfl⟩ := of_rng (i := a) (n := 4) ⟨by rw [i_lt] at c1; omega, by rw [i_lt] at c2; omega⟩ (by omega)
  obtain ⟨s1, s2, s3⟩ := e_canSet k hk b
  by_cases c3 : b < mX5_at 4 (setF 1) (nI k)
  · rw [if_pos c3, if_pos (s1 c3)]; exact fin2 (Q := RR) rfl h
  rw [if_neg c3]
  by_cases c4 : b ≤ mX5_at 4 (setF 2) (nI k)
  case neg => rw [if_neg c4, if_pos (s3 c3 c4)]; exact fin2 (Q := RR) rfl h
  obtain ⟨s5, n, hn, en⟩ := s2 c3 c4
  have e58 : ((58 : Int32) + nI k).toNatClampNeg = 0 + (58 + k) := by rw [show (58 : Int32) = nI 58 from rfl, nI_add, nI_cl (by omega)]; omega
  have es : mX4_setting (xx 0) (nI k) = x 0 (0 + (58 + k)) := e_setting R0 hk
  rw [if_pos c4, if_neg (show ¬ mX6_canSet (nI k) b = 0 by rw [s5]; decide), e58, es]
  by_cases c5 : x 0 (0 + (58 + k)) = b
  · rw [if_pos c5, if_pos c5]; exact fin2 (Q := RR) rfl h
  rw [if_neg c5, if_neg c5]
  obtain ⟨q6, hq6⟩ : ∃ z, z = mX6_remembers x := ⟨_, rfl⟩
  have R6 : Rv (xx 0) (rowP q6 0) := by rw [rowP0, hq6, (rem_k h).1]; exact h.now
  have o6 : okR (rowP q6 0) := by rw [rowP0, hq6, (rem_k h).1]; exact h.ok
  have eU : ∀ f : (Nat → Nat → Nat → Int32) → Int32 × (Nat → Nat → Nat → Int32), lt (setV xx 1 (xx 0)) (fun xx_6 => lt (mX5_put 4 ((xx_6 0) 1) (nI k) b) (fun q_7 => lt (setV xx_6 0 (setA (xx_6 0) 1 q_7)) f)) = f (und xx (setA (xx 0) 1 (upd (xx 0 1) k b))) := fun f => by
    rw [← put_in (n := 4) (xx 0 1) b hk (by omega)]; rfl
  obtain ⟨m, hm, em⟩ := o0.se k hk
  have em' : x 0 (0 + (58 + k)) = nI m := em
  have ti := nI_toInt (n := m) (by omega)
  rw [eU, em', rec_take h (Or.inl (by omega)), lt_b (_, _), lt_b (mX6_remembers x), ← hq6, lt_b (setA q6 0 _), eta2]
  refine fin2 (Q := RR) rfl (act_rem h ?_ ?_ ?_)
  · rw [rowP_u]; exact Rv_se R6 hk b
  · rw [rowP_u]; exact ok_se o6 hk ⟨n, hn, en⟩
  · rw [← hq6]; exact low_u 0 _ q6 b
