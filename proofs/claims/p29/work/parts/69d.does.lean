/-! P29, PURE 11: an event of the law, whichever it is. -/
theorem lt_qg {α β : Type} {a : α} {f : α → β} {P : β → Prop} (h : ∀ z, z = a → P (f z)) : P (lt a f) := h a rfl
theorem if2 {β : Type} {z a b : Int32} (h : z = a ∨ z = b) (x y : β) : (if z = a then x else if z = b then x else y) = x := by
  by_cases c : z = a
  · rw [if_pos c]
  · rw [if_neg c, if_pos (h.resolve_left c)]
theorem if3 {β : Type} {z a b d : Int32} (h : z = a ∨ z = b ∨ z = d) (x y : β) : (if z = a then x else if z = b then x else if z = d then x else y) = x := by
  by_cases c : z = a
  · rw [if_pos c]
  · rw [if_neg c, if2 (h.resolve_left c)]
theorem l297_0 (w : Int32) (C : (Nat → Nat → Nat → Int32) → Int32 → Int32 → (Int32 × (Nat → Nat → Nat → Int32))) (n k : Nat) (yy : Nat → Nat → Nat → Int32) (h : k + n ≤ 24) : mL_does_297 w C n yy (nI k) 0 = C (setV yy 10 (setA (yy 10) 0 (wrF (yy 10 0) k n w))) (nI (k + n)) (nI (sL (cnF (yy 10 0) w) n k)) := by
  have := l297 w C n k 0 yy h
  rw [Nat.zero_add] at this
  exact this
theorem low_set (x0 : Int32) {k : Nat} (hk : k < 4) : ∃ z, z < 100 ∧ (if 2 ≤ nI k then (if nI k = 2 then (1 + (mL_low x0 4)) else (mL_low x0 60)) else (mL_low x0 21)) = nI z ∧ ¬ nI z < setF 1 k ∧ nI z ≤ setF 2 k := by
  rcases (show k = 0 ∨ k = 1 ∨ k = 2 ∨ k = 3 by omega) with rfl | rfl | rfl | rfl
  · obtain ⟨z, h1, h2⟩ := low_N x0 (K := 21) (by omega) (by omega)
    exact ⟨z, by omega, by rw [if_neg (show ¬ 2 ≤ nI 0 by decide)]; exact h2, by rw [show setF 1 0 = nI 0 by decide, nJ_lt (by omega) (by omega)]; omega, by rw [show setF 2 0 = nI 20 by decide, nJ_le (by omega) (by omega)]; omega⟩
  · obtain ⟨z, h1, h2⟩ := low_N x0 (K := 21) (by omega) (by omega)
    exact ⟨z, by omega, by rw [if_neg (show ¬ 2 ≤ nI 1 by decide)]; exact h2, by rw [show setF 1 1 = nI 0 by decide, nJ_lt (by omega) (by omega)]; omega, by rw [show setF 2 1 = nI 20 by decide, nJ_le (by omega) (by omega)]; omega⟩
  · obtain ⟨z, h1, h2⟩ := low_N x0 (K := 4) (by omega) (by omega)
    have h2 : mL_low x0 4 = nI z := h2
    exact ⟨z + 1, by omega, by rw [if_pos (show 2 ≤ nI 2 by decide), if_pos (show nI 2 = 2 from rfl), h2, show (1 : Int32) = nI 1 from rfl, nI_add, Nat.add_comm], by rw [show setF 1 2 = nI 1 by decide, nJ_lt (by omega) (by omega)]; omega, by rw [show setF 2 2 = nI 9 by decide, nJ_le (by omega) (by omega)]; omega⟩
  · obtain ⟨z, h1, h2⟩ := low_N x0 (K := 60) (by omega) (by omega)
    exact ⟨z, by omega, by rw [if_pos (show 2 ≤ nI 3 by decide), if_neg (show ¬ nI 3 = 2 by decide)]; exact h2, by rw [show setF 1 3 = nI 0 by decide, nJ_lt (by omega) (by omega)]; omega, by rw [show setF 2 3 = nI 99 by decide, nJ_le (by omega) (by omega)]; omega⟩
section PD
variable {xx : Nat → Nat → Nat → Int32} {e M N : Nat}
set_option maxHeartbeats 4000000 in
set_option maxRecDepth 100000 in
theorem p_does (L : LI e M N xx) (he : e ≤ 900) (v0 x0 : Int32) : Pd e (mL_does xx v0 x0) := by
  have V := L.V
  have hM := V.M4
  have hN := V.N10
  obtain ⟨y, hy, ey⟩ := low_N x0 (K := 96) (by omega) (by omega)
  obtain ⟨h, hh, eh⟩ := low_N (x0 >>> (4 &&& 31)) (K := 24) (by omega) (by omega)
  obtain ⟨t, ht, et⟩ := low_N v0 (K := 18) (by omega) (by omega)
  have ey : mL_low x0 96 = nI y := ey
  have eh : mL_low (x0 >>> (4 &&& 31)) 24 = nI h := eh
  have et : mL_low v0 18 = nI t := et
  have zM : M ≠ 0 → ¬ nI M = 0 := fun c z => c (nI_inj (by omega) (by omega) (show nI M = nI 0 from z))
  have zN : N ≠ 0 → ¬ nI N = 0 := fun c z => c (nI_inj (by omega) (by omega) (show nI N = nI 0 from z))
  obtain ⟨m, hm, em⟩ : ∃ m, (M ≠ 0 → m < M) ∧ (if nI M = 0 then 0 else (mL_low (v0 >>> (5 &&& 31)) (nI M))) = nI m := by
    by_cases c : M = 0
    · exact ⟨0, fun z => absurd c z, by rw [c]; rfl⟩
    · obtain ⟨m, h1, h2⟩ := low_N (v0 >>> (5 &&& 31)) (K := M) (by omega) (by omega)
      exact ⟨m, fun _ => h1, by rw [if_neg (zM c)]; exact h2⟩
  obtain ⟨a, ha, ea⟩ : ∃ a, (N ≠ 0 → a < N) ∧ (if nI N = 0 then 0 else (mL_low (v0 >>> (8 &&& 31)) (nI N))) = nI a := by
    by_cases c : N = 0
    · exact ⟨0, fun z => absurd c z, by rw [c]; rfl⟩
    · obtain ⟨m, h1, h2⟩ := low_N (v0 >>> (8 &&& 31)) (K := N) (by omega) (by omega)
      exact ⟨m, fun _ => h1, by rw [if_neg (zN c)]; exact h2⟩
  have nt : ∀ j : Nat, j < 100 → t ≠ j → ¬ nI t = nI j := fun j hj c z => c (nI_inj (by omega) (by omega) z)
  unfold mL_does
  rw [ct_0, ct_1, V.eM, V.eN]
  refine lt_q (P := Pd e) ?_
  refine lt_q (P := Pd e) ?_
  rw [ey]
  refine lt_q (P := Pd e) ?_
  refine lt_q (P := Pd e) ?_
  refine lt_qg (P := Pd e) (fun B hB => ?_)
  rw [eh]
  refine lt_q (P := Pd e) ?_
  rw [em]
  refine lt_q (P := Pd e) ?_
  rw [ea]
  refine lt_q (P := Pd e) ?_
  rw [et]
  refine lt_q (P := Pd e) ?_
  rcases (show (t = 0 ∨ t = 1) ∨ (t = 2 ∨ t = 3 ∨ t = 4) ∨ (t = 5 ∨ t = 6) ∨ t = 7 ∨ (t = 8 ∨ t = 9) ∨ (t = 10 ∨ t = 11) ∨ 12 ≤ t by omega) with c | c | c | c | c | c | c
  · rw [if2 (show nI t = 0 ∨ nI t = 1 from c.imp (fun z => by rw [z]; rfl) (fun z => by rw [z]; rfl))]
    obtain ⟨b, hb, eb⟩ := low_N (x0 >>> (7 &&& 31)) (K := 5) (by omega) (by omega)
    rw [show mL_low (x0 >>> (7 &&& 31)) 5 = nI b from eb]
    refine lt_q (P := Pd e) ?_
    rw [show (1 : Int32) + nI b = nI (b + 1) by rw [show (1 : Int32) = nI 1 from rfl, nI_add, Nat.add_comm]]
    obtain ⟨M', d1, d2⟩ := d_mill L hy hb
    refine lt_qg (P := Pd e) (fun q hq => ?_)
    rw [← hq] at d1 d2
    rw [← hB] at d1
    refine lt_q (P := Pd e) ?_
    refine lt_q (P := Pd e) ?_
    rw [if_pos d1]
    exact ⟨M', N, rfl, d2⟩
  · rw [if_neg (show ¬ nI t = 0 from nt 0 (by omega) (by omega)), if_neg (show ¬ nI t = 1 from nt 1 (by omega) (by omega)), if3 (show nI t = 2 ∨ nI t = 3 ∨ nI t = 4 from c.imp (fun z => by rw [z]; rfl) (fun z => z.imp (fun z => by rw [z]; rfl) (fun z => by rw [z]; rfl)))]
    obtain ⟨N', d1, d2⟩ := d_house L hy
    refine lt_qg (P := Pd e) (fun q hq => ?_)
    rw [← hq] at d1 d2
    rw [← hB] at d1
    refine lt_q (P := Pd e) ?_
    refine lt_q (P := Pd e) ?_
    rw [if_pos d1]
    exact ⟨M, N', rfl, d2⟩
  · rw [if_neg (show ¬ nI t = 0 from nt 0 (by omega) (by omega)), if_neg (show ¬ nI t = 1 from nt 1 (by omega) (by omega)), if_neg (show ¬ nI t = 2 from nt 2 (by omega) (by omega)), if_neg (show ¬ nI t = 3 from nt 3 (by omega) (by omega)), if_neg (show ¬ nI t = 4 from nt 4 (by omega) (by omega)), if2 (show nI t = 5 ∨ nI t = 6 from c.imp (fun z => by rw [z]; rfl) (fun z => by rw [z]; rfl))]
    obtain ⟨f, hf, ef⟩ := low_N x0 (K := 24) (by omega) (by omega)
    obtain ⟨d, hd, ed⟩ := low_N (x0 >>> (5 &&& 31)) (K := 24 - f) (by omega) (by omega)
    obtain ⟨w, hw, ew⟩ := low_N (x0 >>> (10 &&& 31)) (K := 10) (by omega) (by omega)
    rw [show mL_low x0 24 = nI f from ef]
    refine lt_q (P := Pd e) ?_
    rw [show (24 : Int32) - nI f = nI (24 - f) from nI_sub (a := 24) (by omega) (by omega), ed]
    refine lt_q (P := Pd e) ?_
    rw [nI_add]
    refine lt_q (P := Pd e) ?_
    rw [show mL_low (x0 >>> (10 &&& 31)) 10 = nI w from ew]
    refine lt_q (P := Pd e) ?_
    rw [tq_nI (by omega) (by omega), l297_0 _ _ _ _ _ (by omega)]
    obtain ⟨yy, hyy, d1, d2⟩ := d_wind L (f := f) (t := f + d) (w := w) (by omega) (by omega) (by omega)
    rw [← hyy]
    refine lt_qg (P := Pd e) (fun q hq => ?_)
    rw [← hq] at d1 d2
    refine lt_q (P := Pd e) ?_
    refine lt_q (P := Pd e) ?_
    rw [if_pos d1]
    exact ⟨M, N, rfl, d2⟩
  · rw [if_neg (show ¬ nI t = 0 from nt 0 (by omega) (by omega)), if_neg (show ¬ nI t = 1 from nt 1 (by omega) (by omega)), if_neg (show ¬ nI t = 2 from nt 2 (by omega) (by omega)), if_neg (show ¬ nI t = 3 from nt 3 (by omega) (by omega)), if_neg (show ¬ nI t = 4 from nt 4 (by omega) (by omega)), if_neg (show ¬ nI t = 5 from nt 5 (by omega) (by omega)), if_neg (show ¬ nI t = 6 from nt 6 (by omega) (by omega)), if_pos (show nI t = 7 by rw [c]; rfl)]
    obtain ⟨k, hk, ek⟩ := low_N (v0 >>> (5 &&& 31)) (K := 4) (by omega) (by omega)
    rw [show mL_low (v0 >>> (5 &&& 31)) 4 = nI k from ek]
    refine lt_q (P := Pd e) ?_
    obtain ⟨z, z1, z2, z3, z4⟩ := low_set x0 hk
    rw [z2]
    refine lt_q (P := Pd e) ?_
    rw [ct_s hk]
    refine lt_q (P := Pd e) ?_
    obtain ⟨d1, d2, d3⟩ := d_set L hk z3 z4
    refine lt_qg (P := Pd e) (fun q hq => ?_)
    rw [← hq] at d1 d2 d3
    refine lt_q (P := Pd e) ?_
    refine lt_q (P := Pd e) ?_
    rw [if_pos d1, d2]
    refine lt_q (P := Pd e) ?_
    rw [if_pos rfl]
    exact ⟨M, N, rfl, d3⟩
  · rw [if_neg (show ¬ nI t = 0 from nt 0 (by omega) (by omega)), if_neg (show ¬ nI t = 1 from nt 1 (by omega) (by omega)), if_neg (show ¬ nI t = 2 from nt 2 (by omega) (by omega)), if_neg (show ¬ nI t = 3 from nt 3 (by omega) (by omega)), if_neg (show ¬ nI t = 4 from nt 4 (by omega) (by omega)), if_neg (show ¬ nI t = 5 from nt 5 (by omega) (by omega)), if_neg (show ¬ nI t = 6 from nt 6 (by omega) (by omega)), if_neg (show ¬ nI t = 7 from nt 7 (by omega) (by omega)), if2 (show nI t = 8 ∨ nI t = 9 from c.imp (fun z => by rw [z]; rfl) (fun z => by rw [z]; rfl))]
    by_cases c1 : M = 0
    · rw [if_pos (show nI M = 0 by rw [c1]; rfl)]
      exact ⟨M, N, rfl, L.1, L.2.same⟩
    · rw [if_neg (zM c1)]
      by_cases c2 : N = 0
      · rw [if_pos (show nI N = 0 by rw [c2]; rfl)]
        exact ⟨M, N, rfl, L.1, L.2.same⟩
      · rw [if_neg (zN c2)]
        obtain ⟨d1, d2⟩ := p_sued L (by omega) (ha c2) (hm c1) hh
        refine lt_qg (P := Pd e) (fun q hq => ?_)
        rw [← hq] at d1 d2
        rw [d1, if_neg (show ¬ (1 : Int32) = 0 by decide)]
        exact ⟨M, N, rfl, d2⟩
  · rw [if_neg (show ¬ nI t = 0 from nt 0 (by omega) (by omega)), if_neg (show ¬ nI t = 1 from nt 1 (by omega) (by omega)), if_neg (show ¬ nI t = 2 from nt 2 (by omega) (by omega)), if_neg (show ¬ nI t = 3 from nt 3 (by omega) (by omega)), if_neg (show ¬ nI t = 4 from nt 4 (by omega) (by omega)), if_neg (show ¬ nI t = 5 from nt 5 (by omega) (by omega)), if_neg (show ¬ nI t = 6 from nt 6 (by omega) (by omega)), if_neg (show ¬ nI t = 7 from nt 7 (by omega) (by omega)), if_neg (show ¬ nI t = 8 from nt 8 (by omega) (by omega)), if_neg (show ¬ nI t = 9 from nt 9 (by omega) (by omega)), if2 (show nI t = 10 ∨ nI t = 11 from c.imp (fun z => by rw [z]; rfl) (fun z => by rw [z]; rfl))]
    by_cases c1 : M = 0
    · rw [if_pos (show nI M = 0 by rw [c1]; rfl)]
      obtain ⟨d1, d2⟩ := d_vote0 L c1 (nI h)
      refine lt_qg (P := Pd e) (fun q hq => ?_)
      rw [← hq] at d1 d2
      refine lt_q (P := Pd e) ?_
      rw [if_pos d1]
      exact ⟨M, N, rfl, d2⟩
    · rw [if_neg (zM c1)]
      obtain ⟨d1, d2⟩ := p_voted L (by omega) (hm c1) hh
      rw [d1]
      refine lt_q (P := Pd e) ?_
      refine lt_q (P := Pd e) ?_
      exact ⟨M, N, rfl, d2⟩
  · rw [if_neg (show ¬ nI t = 0 from nt 0 (by omega) (by omega)), if_neg (show ¬ nI t = 1 from nt 1 (by omega) (by omega)), if_neg (show ¬ nI t = 2 from nt 2 (by omega) (by omega)), if_neg (show ¬ nI t = 3 from nt 3 (by omega) (by omega)), if_neg (show ¬ nI t = 4 from nt 4 (by omega) (by omega)), if_neg (show ¬ nI t = 5 from nt 5 (by omega) (by omega)), if_neg (show ¬ nI t = 6 from nt 6 (by omega) (by omega)), if_neg (show ¬ nI t = 7 from nt 7 (by omega) (by omega)), if_neg (show ¬ nI t = 8 from nt 8 (by omega) (by omega)), if_neg (show ¬ nI t = 9 from nt 9 (by omega) (by omega)), if_neg (show ¬ nI t = 10 from nt 10 (by omega) (by omega)), if_neg (show ¬ nI t = 11 from nt 11 (by omega) (by omega))]
    by_cases c1 : M = 0
    · rw [if_pos (show nI M = 0 by rw [c1]; rfl)]
      obtain ⟨d1, d2⟩ := d_none L (Or.inl c1)
      refine lt_qg (P := Pd e) (fun q hq => ?_)
      rw [← hq] at d1 d2
      refine lt_q (P := Pd e) ?_
      rw [if_pos d1]
      exact ⟨M, N, rfl, d2⟩
    · rw [if_neg (zM c1)]
      by_cases c2 : N = 0
      · rw [if_pos (show nI N = 0 by rw [c2]; rfl)]
        obtain ⟨d1, d2⟩ := d_none L (Or.inr c2)
        refine lt_qg (P := Pd e) (fun q hq => ?_)
        rw [← hq] at d1 d2
        refine lt_q (P := Pd e) ?_
        rw [if_pos d1]
        exact ⟨M, N, rfl, d2⟩
      · rw [if_neg (zN c2)]
        obtain ⟨k, hk, ek⟩ : ∃ k, k < 2 ∧ ((x0 >>> (9 &&& 31)) &&& 1) = nI k := by
          rw [and1_bt]
          split
          · exact ⟨1, by omega, rfl⟩
          · exact ⟨0, by omega, rfl⟩
        rw [ek]
        obtain ⟨d1, d2⟩ := p_heard L (by omega) (ha c2) (hm c1) hk hh
        rw [d1]
        refine lt_q (P := Pd e) ?_
        refine lt_q (P := Pd e) ?_
        exact ⟨M, N, rfl, d2⟩
end PD
