/-! P29, PURE 10: an event of the law. -/
def Pd (e : Nat) (T : Int32 × (Nat → Nat → Nat → Int32)) : Prop := ∃ M' N', T.1 = 1 ∧ LI (e + 1) M' N' T.2
theorem lt_q {α β : Type} {a : α} {f : α → β} {P : β → Prop} (h : P (f a)) : P (lt a f) := h
theorem low_N (a : Int32) {K : Nat} (h0 : 0 < K) (hK : K < 2147483648) : ∃ t, t < K ∧ mL_low a (nI K) = nI t := by
  have h := b_low a (nI K) (k := K) (nI_toInt hK) (by omega)
  obtain ⟨k, h1, h2⟩ := of_rng (n := K) h hK
  exact ⟨k, h1, h2⟩
theorem fw_cases (f : Nat → Int32) {B : Nat} (hB : B < 2147483648) (y : Int32) : ∀ (n k : Nat), k + n ≤ B → (mX4_firstWith_2 B f y (fun _ => -5) n (nI k) = -5 ∧ ∀ i, k ≤ i → i < k + n → f i ≠ y) ∨ ∃ i, i < k + n ∧ f i = y ∧ mX4_firstWith_2 B f y (fun _ => -5) n (nI k) = nI i
  | 0, k, _ => Or.inl ⟨rfl, fun i h1 h2 => by omega⟩
  | n + 1, k, h => by
    rw [mX4_firstWith_2, at_in _ (by omega) hB]
    by_cases c : f k = y
    · rw [if_pos c]; exact Or.inr ⟨k, by omega, c, rfl⟩
    · rw [if_neg c, nI_s]
      rcases fw_cases f hB y n (k + 1) (by omega) with ⟨h1, h2⟩ | ⟨i, h1, h2, h3⟩
      · refine Or.inl ⟨h1, fun i h3 h4 => ?_⟩
        by_cases c2 : i = k
        · rw [c2]; exact c
        · exact h2 i (by omega) (by omega)
      · exact Or.inr ⟨i, by omega, h2, h3⟩
section BR
variable {v : Nat → Nat → Int32} {M N : Nat}
theorem built (V : VV v M N) {y : Nat} (hy : y < 96) : ((mX4_isFree v (nI y) = 0 ∧ (if 0 ≤ mX5_yardOf v (nI y) 0 then (1 : Int32) else (if mX5_yardOf v (nI y) 1 < 0 then 0 else 1)) = 1) ∨ (¬ mX4_isFree v (nI y) = 0 ∧ (if 0 ≤ mX5_yardOf v (nI y) 0 then (1 : Int32) else (if mX5_yardOf v (nI y) 1 < 0 then 0 else 1)) = 0 ∧ (∀ i, i < M → v 4 i ≠ nI y) ∧ ∀ i, i < N → v 6 i ≠ nI y)) := by
  have hM := V.M4
  have hN := V.N10
  have e0 : mX5_yardOf v (nI y) 0 = mX4_millAt v (nI y) := by unfold mX5_yardOf; rw [if_neg (yd_1 hy), if_pos rfl]
  have e1 : mX5_yardOf v (nI y) 1 = mX4_houseAt v (nI y) := by unfold mX5_yardOf; rw [if_neg (yd_1 hy), if_neg (by decide), if_pos rfl]
  have m0 : mX4_millAt v (nI y) = mX4_firstWith_2 4 (v 4) (nI y) (fun _ => -5) M (nI 0) := by unfold mX4_millAt mX4_firstWith; rw [V.eM, tr_0 (by omega)]; rfl
  have h0 : mX4_houseAt v (nI y) = mX4_firstWith_2 10 (v 6) (nI y) (fun _ => -5) N (nI 0) := by unfold mX4_houseAt mX4_firstWith; rw [V.eN, tr_0 (by omega)]; rfl
  have n5 : ∀ i : Nat, i < 100 → ¬ nI i = -5 := fun i hi z => by
    have := congrArg Int32.toInt z
    rw [nI_toInt (by omega)] at this
    have e5 : (-5 : Int32).toInt = -5 := rfl
    omega
  have p0 : ∀ i : Nat, i < 100 → 0 ≤ nI i := fun i hi => by rw [show (0 : Int32) = nI 0 from rfl, nJ_le (by omega) (by omega)]; omega
  unfold mX4_isFree
  rw [e0, e1]
  rcases fw_cases (v 4) (B := 4) (by omega) (nI y) M 0 (by omega) with ⟨a1, a2⟩ | ⟨i, a1, a2, a3⟩
  · rw [← m0] at a1
    rcases fw_cases (v 6) (B := 10) (by omega) (nI y) N 0 (by omega) with ⟨b1, b2⟩ | ⟨i, b1, b2, b3⟩
    · rw [← h0] at b1
      rw [a1, b1]
      exact Or.inr ⟨by decide, by decide, fun i hi => a2 i (by omega) (by omega), fun i hi => b2 i (by omega) (by omega)⟩
    · rw [← h0] at b3
      rw [a1, b3]
      refine Or.inl ⟨?_, ?_⟩
      · rw [if_pos rfl, if_neg (n5 i (by omega))]
      · rw [if_neg (by decide), if_neg (nI_lt0 (by omega))]
  · rw [← m0] at a3
    rw [a3]
    refine Or.inl ⟨?_, ?_⟩
    · rw [if_neg (n5 i (by omega))]
    · rw [if_pos (p0 i (by omega))]
theorem brM_0 {y b : Nat} (hy : y < 96) (hb : b < 5) (hf : mX4_isFree v (nI y) = 0) : mX5_bringMill v (nI (b + 1)) (nI y) = (-4, v) := by
  unfold mX5_bringMill
  rw [if_neg (yd_1 hy), if_neg (by rw [show (1 : Int32) = nI 1 from rfl, nJ_lt (by omega) (by omega)]; omega), if_pos (by rw [show (5 : Int32) = nI 5 from rfl, nJ_le (by omega) (by omega)]; omega), if_pos hf]
theorem brM_1 (V : VV v M N) {y b : Nat} (hy : y < 96) (hb : b < 5) (hf : ¬ mX4_isFree v (nI y) = 0) (hM : M = 4) : mX5_bringMill v (nI (b + 1)) (nI y) = (-3, v) := by
  unfold mX5_bringMill
  rw [if_neg (yd_1 hy), if_neg (by rw [show (1 : Int32) = nI 1 from rfl, nJ_lt (by omega) (by omega)]; omega), if_pos (by rw [show (5 : Int32) = nI 5 from rfl, nJ_le (by omega) (by omega)]; omega), if_neg hf, V.eM, hM, if_neg (by decide)]
theorem brM_2 (V : VV v M N) {y b : Nat} (hy : y < 96) (hb : b < 5) (hf : ¬ mX4_isFree v (nI y) = 0) (hM : M < 4) : ∃ v', mX5_bringMill v (nI (b + 1)) (nI y) = (nI M, v') ∧ (∀ j, j ≠ 3 → j ≠ 4 → j ≠ 9 → v' j = v j) ∧ v' 3 = upd (v 3) M (nI (b + 1)) ∧ v' 4 = upd (v 4) M (nI y) ∧ v' 9 0 = nI (M + 1) := by
  have E : mX5_bringMill v (nI (b + 1)) (nI y) = (nI M, setA (setA (setA v 3 (mX5_put 4 (v 3) (nI M) (nI (b + 1)))) 4 (mX5_put 4 ((setA v 3 (mX5_put 4 (v 3) (nI M) (nI (b + 1)))) 4) (nI M) (nI y))) 9 (upd ((setA (setA v 3 (mX5_put 4 (v 3) (nI M) (nI (b + 1)))) 4 (mX5_put 4 ((setA v 3 (mX5_put 4 (v 3) (nI M) (nI (b + 1)))) 4) (nI M) (nI y))) 9) 0 (nI M + 1))) := by
    unfold mX5_bringMill
    rw [if_neg (yd_1 hy), if_neg (by rw [show (1 : Int32) = nI 1 from rfl, nJ_lt (by omega) (by omega)]; omega), if_pos (by rw [show (5 : Int32) = nI 5 from rfl, nJ_le (by omega) (by omega)]; omega), if_neg hf, V.eM, if_pos (by rw [show (4 : Int32) = nI 4 from rfl, nJ_lt (by omega) (by omega)]; omega)]
    rfl
  refine ⟨_, E, fun j h1 h2 h3 => ?_, ?_, ?_, ?_⟩
  · rw [setA_ne _ _ h3, setA_ne _ _ h2, setA_ne _ _ h1]
  · rw [setA_ne _ _ (by omega), setA_ne _ _ (by omega), setA_same, put_in _ _ hM (by omega)]
  · rw [setA_ne _ _ (by omega), setA_same, setA_ne _ _ (by omega), put_in _ _ hM (by omega)]
  · rw [setA_same, upd_same, nI_s]
theorem brH_0 {y : Nat} (hy : y < 96) (hf : mX4_isFree v (nI y) = 0) : mX5_bringHouse v (nI y) = (-4, v) := by
  unfold mX5_bringHouse
  rw [if_neg (yd_1 hy), if_pos hf]
theorem brH_1 (V : VV v M N) {y : Nat} (hy : y < 96) (hf : ¬ mX4_isFree v (nI y) = 0) (hN : N = 10) : mX5_bringHouse v (nI y) = (-3, v) := by
  unfold mX5_bringHouse
  rw [if_neg (yd_1 hy), if_neg hf, V.eN, hN, if_neg (by decide)]
theorem brH_2 (V : VV v M N) {y : Nat} (hy : y < 96) (hf : ¬ mX4_isFree v (nI y) = 0) (hN : N < 10) : ∃ v', mX5_bringHouse v (nI y) = (nI N, v') ∧ (∀ j, j ≠ 6 → j ≠ 10 → v' j = v j) ∧ v' 6 = upd (v 6) N (nI y) ∧ v' 10 0 = nI (N + 1) := by
  have E : mX5_bringHouse v (nI y) = (nI N, setA (setA v 6 (mX5_put 10 (v 6) (nI N) (nI y))) 10 (upd ((setA v 6 (mX5_put 10 (v 6) (nI N) (nI y))) 10) 0 (nI N + 1))) := by
    unfold mX5_bringHouse
    rw [if_neg (yd_1 hy), if_neg hf, V.eN, if_pos (by rw [show (10 : Int32) = nI 10 from rfl, nJ_lt (by omega) (by omega)]; omega)]
    rfl
  refine ⟨_, E, fun j h1 h2 => ?_, ?_, ?_⟩
  · rw [setA_ne _ _ h2, setA_ne _ _ h1]
  · rw [setA_ne _ _ (by omega), setA_same, put_in _ _ hN (by omega)]
  · rw [setA_same, upd_same, nI_s]
end BR
section EV
variable {xx : Nat → Nat → Nat → Int32} {e M N : Nat}
theorem EX.cols {v v' : Nat → Nat → Int32} {w : Nat → Int32} (E : EX e M N v w) (h2 : v' 2 = v 2) (h7 : v' 7 = v 7) (h8 : v' 8 = v 8) : (∀ k, k < 6 → ∃ n, n ≤ e + 1 ∧ v' 2 k = nI n) ∧ (∀ a, a < 10 → ∃ n, n ≤ e + 1 ∧ v' 7 a = nI n) ∧ (v' 2 3).toInt ≤ (v' 2 2).toInt ∧ (v' 2 5).toInt ≤ (v' 2 4).toInt ∧ (SS v' : Int) ≤ (v' 2 0).toInt := by
  rw [h2, h7, SS_c h8]
  exact ⟨ta_id E.ta, ta_id E.va, E.s23, E.s45, E.ss⟩
theorem d_mill (L : LI e M N xx) {y b : Nat} (hy : y < 96) (hb : b < 5) : ∃ M', (mX5_mill xx (nI (b + 1)) (nI y)).1 = (if (if 0 ≤ mX5_yardOf (xx 0) (nI y) 0 then (1 : Int32) else (if mX5_yardOf (xx 0) (nI y) 1 < 0 then 0 else 1)) = 0 then (if nI M = 4 then (-3) else nI M) else (-4)) ∧ LI (e + 1) M' N (setV (mX5_mill xx (nI (b + 1)) (nI y)).2 10 (xx 10)) := by
  have V := L.V
  have hM := V.M4
  obtain ⟨⟨x, hx⟩, E⟩ := L
  have hRR := (a_mill hx (nI (b + 1)) (nI y)).2
  have e0 : mX5_mill xx (nI (b + 1)) (nI y) = mX5_recorded (und xx (mX5_bringMill (xx 0) (nI (b + 1)) (nI y)).2) (mX5_bringMill (xx 0) (nI (b + 1)) (nI y)).1 := rfl
  have r0 := rec_0 (und xx (mX5_bringMill (xx 0) (nI (b + 1)) (nI y)).2) (mX5_bringMill (xx 0) (nI (b + 1)) (nI y)).1
  rw [← e0, und_0] at r0
  obtain ⟨r1, r2⟩ := r0
  rw [r1]
  rcases built V hy with ⟨f1, f2⟩ | ⟨f1, f2, f3, f4⟩
  · rw [f2, if_neg (show ¬ (1 : Int32) = 0 by decide)]
    rw [brM_0 hy hb f1] at r2 ⊢
    exact ⟨M, rfl, LI.act hRR (by rw [r2]; exact E.same)⟩
  · rw [f2, if_pos rfl]
    by_cases c : M = 4
    · rw [brM_1 V hy hb f1 c] at r2 ⊢
      exact ⟨M, by rw [c, if_pos (show nI 4 = 4 from rfl)], LI.act hRR (by rw [r2]; exact E.same)⟩
    · obtain ⟨v', l1, l2, l3, l4, l5⟩ := brM_2 V hy hb f1 (show M < 4 by omega)
      rw [l1] at r2 ⊢
      refine ⟨M + 1, by rw [if_neg (show ¬ nI M = 4 from fun z => c (nI_inj (by omega) (by omega) (show nI M = nI 4 from z)))], LI.act hRR ?_⟩
      rw [show (mX5_mill xx (nI (b + 1)) (nI y)).2 0 = v' from r2]
      have cc := E.cols (v' := v') (l2 2 (by omega) (by omega) (by omega)) (l2 7 (by omega) (by omega) (by omega)) (l2 8 (by omega) (by omega) (by omega))
      refine ⟨⟨l5, by omega, by rw [l2 10 (by omega) (by omega) (by omega)]; exact E.cn.2.2.1, E.cn.2.2.2⟩, by rw [l2 0 (by omega) (by omega) (by omega)]; exact E.ew, fun m hm => ?_, fun m j hm hj hmj => ?_, by rw [l2 6 (by omega) (by omega) (by omega)]; exact E.hh, fun m a hm ha => ?_, cc.1, cc.2.1, cc.2.2.1, cc.2.2.2.1, cc.2.2.2.2⟩
      · rw [l3]
        by_cases d : m = M
        · subst d; rw [upd_same, nn_nI (by omega)]; omega
        · rw [upd_ne _ _ d]; exact E.h1 m (by omega)
      · rw [l4]
        by_cases d : m = M
        · subst d
          rw [upd_same, upd_ne _ _ (fun z => hmj z.symm)]
          exact fun z => f3 j (by omega) z.symm
        · rw [upd_ne _ _ d]
          by_cases d2 : j = M
          · subst d2; rw [upd_same]; exact f3 m (by omega)
          · rw [upd_ne _ _ d2]; exact E.mm m j (by omega) (by omega) hmj
      · rw [l4, l2 6 (by omega) (by omega) (by omega)]
        by_cases d : m = M
        · subst d; rw [upd_same]; exact fun z => f4 a ha z.symm
        · rw [upd_ne _ _ d]; exact E.mh m a (by omega) ha
theorem d_house (L : LI e M N xx) {y : Nat} (hy : y < 96) : ∃ N', (mX5_house xx (nI y)).1 = (if (if 0 ≤ mX5_yardOf (xx 0) (nI y) 0 then (1 : Int32) else (if mX5_yardOf (xx 0) (nI y) 1 < 0 then 0 else 1)) = 0 then (if nI N = 10 then (-3) else nI N) else (-4)) ∧ LI (e + 1) M N' (setV (mX5_house xx (nI y)).2 10 (xx 10)) := by
  have V := L.V
  have hN := V.N10
  obtain ⟨⟨x, hx⟩, E⟩ := L
  have hRR := (a_house hx (nI y)).2
  have e0 : mX5_house xx (nI y) = mX5_recorded (und xx (mX5_bringHouse (xx 0) (nI y)).2) (mX5_bringHouse (xx 0) (nI y)).1 := rfl
  have r0 := rec_0 (und xx (mX5_bringHouse (xx 0) (nI y)).2) (mX5_bringHouse (xx 0) (nI y)).1
  rw [← e0, und_0] at r0
  obtain ⟨r1, r2⟩ := r0
  rw [r1]
  rcases built V hy with ⟨f1, f2⟩ | ⟨f1, f2, f3, f4⟩
  · rw [f2, if_neg (show ¬ (1 : Int32) = 0 by decide)]
    rw [brH_0 hy f1] at r2 ⊢
    exact ⟨N, rfl, LI.act hRR (by rw [r2]; exact E.same)⟩
  · rw [f2, if_pos rfl]
    by_cases c : N = 10
    · rw [brH_1 V hy f1 c] at r2 ⊢
      exact ⟨N, by rw [c, if_pos (show nI 10 = 10 from rfl)], LI.act hRR (by rw [r2]; exact E.same)⟩
    · obtain ⟨v', l1, l2, l3, l4⟩ := brH_2 V hy f1 (show N < 10 by omega)
      rw [l1] at r2 ⊢
      refine ⟨N + 1, by rw [if_neg (show ¬ nI N = 10 from fun z => c (nI_inj (by omega) (by omega) (show nI N = nI 10 from z)))], LI.act hRR ?_⟩
      rw [show (mX5_house xx (nI y)).2 0 = v' from r2]
      have cc := E.cols (v' := v') (l2 2 (by omega) (by omega)) (l2 7 (by omega) (by omega)) (l2 8 (by omega) (by omega))
      refine ⟨⟨by rw [l2 9 (by omega) (by omega)]; exact E.cn.1, E.cn.2.1, l4, by omega⟩, by rw [l2 0 (by omega) (by omega)]; exact E.ew, by rw [l2 3 (by omega) (by omega)]; exact E.h1, by rw [l2 4 (by omega) (by omega)]; exact E.mm, fun m j hm hj hmj => ?_, fun m a hm ha => ?_, cc.1, cc.2.1, cc.2.2.1, cc.2.2.2.1, cc.2.2.2.2⟩
      · rw [l3]
        by_cases d : m = N
        · subst d
          rw [upd_same, upd_ne _ _ (fun z => hmj z.symm)]
          exact fun z => f4 j (by omega) z.symm
        · rw [upd_ne _ _ d]
          by_cases d2 : j = N
          · subst d2; rw [upd_same]; exact f4 m (by omega)
          · rw [upd_ne _ _ d2]; exact E.hh m j (by omega) (by omega) hmj
      · rw [l3, l2 4 (by omega) (by omega)]
        by_cases d : a = N
        · subst d; rw [upd_same]; exact f3 m hm
        · rw [upd_ne _ _ d]; exact E.mh m a hm (by omega)
def wrF (f : Nat → Int32) (k n : Nat) (w : Int32) : Nat → Int32 := fun i => if k ≤ i ∧ i < k + n then w else f i
def cnF (f : Nat → Int32) (w : Int32) (i : Nat) : Nat := if f i = w then 0 else 1
theorem wrF_0 (f : Nat → Int32) (k : Nat) (w : Int32) : wrF f k 0 w = f := by
  funext i; unfold wrF; rw [if_neg (by omega)]
theorem wrF_s (f : Nat → Int32) (k n : Nat) (w : Int32) : wrF (upd f k w) (k + 1) n w = wrF f k (n + 1) w := by
  funext i; unfold wrF
  by_cases c : i = k
  · subst c; rw [if_neg (by omega), upd_same, if_pos (by omega)]
  · rw [upd_ne _ _ c]
    by_cases d : k + 1 ≤ i ∧ i < k + 1 + n
    · rw [if_pos d, if_pos (by omega)]
    · rw [if_neg d, if_neg (by omega)]
theorem wrF_e {f : Nat → Int32} {k n : Nat} {w : Int32} (h : f k = w) : wrF f (k + 1) n w = wrF f k (n + 1) w := by
  rw [← wrF_s, show upd f k w = f by rw [← h]; exact upd_id f k]
theorem cnF_s (f : Nat → Int32) (k n : Nat) (w : Int32) : sL (cnF (upd f k w) w) n (k + 1) = sL (cnF f w) n (k + 1) := sL_c n (k + 1) (fun i h1 h2 => by unfold cnF; rw [upd_ne _ _ (by omega)])
theorem l297 (w : Int32) (C : (Nat → Nat → Nat → Int32) → Int32 → Int32 → (Int32 × (Nat → Nat → Nat → Int32))) : ∀ (n k c : Nat) (yy : Nat → Nat → Nat → Int32), k + n ≤ 24 → mL_does_297 w C n yy (nI k) (nI c) = C (setV yy 10 (setA (yy 10) 0 (wrF (yy 10 0) k n w))) (nI (k + n)) (nI (c + sL (cnF (yy 10 0) w) n k))
  | 0, k, c, yy, _ => by
    rw [mL_does_297, wrF_0, setA_id, setV_id]; rfl
  | n + 1, k, c, yy, h => by
    rw [mL_does_297, nI_cl (by omega), show (if yy 10 0 k = w then (0 : Int32) else 1) = nI (cnF (yy 10 0) w k) by unfold cnF; split <;> rfl]
    refine lt_v ?_
    refine lt_v ?_
    refine lt_v ?_
    rw [nI_add, nI_s, l297 w C n (k + 1) _ _ (by omega), setV_same, setV2, setA_same, setA2, wrF_s, cnF_s, sL, Nat.add_assoc c, show k + 1 + n = k + (n + 1) by omega]
theorem l40 {w : Nat} (C : (Nat → Nat → Int32) → Int32 → Int32 → (Int32 × (Nat → Nat → Int32))) : ∀ (n k c : Nat) (v : Nat → Nat → Int32), k + n ≤ 24 → mX5_tellWind_40 (nI w) C n v (nI k) (nI c) = C (setA v 0 (wrF (v 0) k n (nI w))) (nI (k + n)) (nI (c + sL (cnF (v 0) (nI w)) n k))
  | 0, k, c, v, _ => by rw [mX5_tellWind_40, wrF_0, setA_id]; rfl
  | n + 1, k, c, v, h => by
    rw [mX5_tellWind_40, c_wind v (by omega)]
    by_cases d : v 0 k = nI w
    · rw [if_pos d, nI_s, l40 C n (k + 1) c v (by omega), wrF_e d, sL, show cnF (v 0) (nI w) k = 0 by unfold cnF; rw [if_pos d], Nat.zero_add, show k + 1 + n = k + (n + 1) by omega]
    · rw [if_neg d]
      refine lt_v ?_
      refine lt_v ?_
      rw [put_in _ _ (by omega) (by omega), nI_s, nI_s, l40 C n (k + 1) (c + 1) _ (by omega), setA_same, setA2, wrF_s, cnF_s, sL, show cnF (v 0) (nI w) k = 1 by unfold cnF; rw [if_neg d], Nat.add_assoc c, show k + 1 + n = k + (n + 1) by omega]
theorem c_tell (v : Nat → Nat → Int32) {f t w : Nat} (hf : f ≤ t) (ht : t < 24) (hw : w ≤ 9) : mX5_tellWind v (nI f) (nI t) (nI w) = ((if nI (sL (cnF (v 0) (nI w)) (t + 1 - f) f) = 0 then (-5) else nI (sL (cnF (v 0) (nI w)) (t + 1 - f) f)), setA v 0 (wrF (v 0) f (t + 1 - f) (nI w))) := by
  have l := l40 (w := w) (fun v_40 x5_40 x4_40 => (if x4_40 = 0 then ((-5 : Int32), v_40) else (x4_40, v_40))) (t + 1 - f) f 0 v (by omega)
  unfold mX5_tellWind
  rw [if_neg (hr_1 (by omega)), if_neg (hr_1 ht), if_pos ((nJ_le (by omega) (by omega)).mpr hf), if_neg (nI_lt0 (by omega)), if_pos (by rw [show (9 : Int32) = nI 9 from rfl, nJ_le (by omega) (by omega)]; omega), tq_nI (by omega) (by omega)]
  refine Eq.trans l ?_
  rw [Nat.zero_add]
  by_cases c : nI (sL (cnF (v 0) (nI w)) (t + 1 - f) f) = 0
  · rw [if_pos c, if_pos c]
  · rw [if_neg c, if_neg c]
theorem d_wind (L : LI e M N xx) {f t w : Nat} (hf : f ≤ t) (ht : t < 24) (hw : w ≤ 9) : ∃ yy, yy = setV xx 10 (setA (xx 10) 0 (wrF (xx 10 0) f (t + 1 - f) (nI w))) ∧ (mX5_wind yy (nI f) (nI t) (nI w)).1 = (if nI (sL (cnF (xx 10 0) (nI w)) (t + 1 - f) f) = 0 then (-5) else nI (sL (cnF (xx 10 0) (nI w)) (t + 1 - f) f)) ∧ LI (e + 1) M N (setV (mX5_wind yy (nI f) (nI t) (nI w)).2 10 (yy 10)) := by
  obtain ⟨⟨x, hx⟩, E⟩ := L
  obtain ⟨yy, hyy⟩ : ∃ z, z = setV xx 10 (setA (xx 10) 0 (wrF (xx 10 0) f (t + 1 - f) (nI w))) := ⟨_, rfl⟩
  have hy : RR yy x := by rw [hyy]; exact RR_10 hx _
  have y0 : yy 0 = xx 0 := by rw [hyy, setV_ne _ _ (by omega)]
  have y10 : yy 10 0 = wrF (xx 10 0) f (t + 1 - f) (nI w) := by rw [hyy, setV_same, setA_same]
  have hRR := (a_wind hy (nI f) (nI t) (nI w)).2
  have e0 : mX5_wind yy (nI f) (nI t) (nI w) = mX5_recorded (und yy (mX5_tellWind (yy 0) (nI f) (nI t) (nI w)).2) (mX5_tellWind (yy 0) (nI f) (nI t) (nI w)).1 := rfl
  have r0 := rec_0 (und yy (mX5_tellWind (yy 0) (nI f) (nI t) (nI w)).2) (mX5_tellWind (yy 0) (nI f) (nI t) (nI w)).1
  rw [← e0, und_0, y0, c_tell (xx 0) hf ht hw] at r0
  obtain ⟨r1, r2⟩ := r0
  refine ⟨yy, hyy, ?_, LI.act hRR ?_⟩
  · rw [r1, show sL (cnF (xx 0 0) (nI w)) (t + 1 - f) f = sL (cnF (xx 10 0) (nI w)) (t + 1 - f) f from sL_c _ _ (fun i h1 h2 => by unfold cnF; rw [E.ew i (by omega)])]
  · obtain ⟨v', hv⟩ : ∃ z, z = setA (xx 0) 0 (wrF (xx 0 0) f (t + 1 - f) (nI w)) := ⟨_, rfl⟩
    have r2 : (mX5_wind yy (nI f) (nI t) (nI w)).2 0 = v' := by rw [hv]; exact r2
    have vj : ∀ j, j ≠ 0 → v' j = xx 0 j := fun j hj => by rw [hv, setA_ne _ _ hj]
    have v0 : v' 0 = wrF (xx 0 0) f (t + 1 - f) (nI w) := by rw [hv, setA_same]
    rw [r2, y10]
    have cc := E.cols (v' := v') (vj 2 (by omega)) (vj 7 (by omega)) (vj 8 (by omega))
    refine ⟨?_, fun h hh => ?_, ?_, ?_, ?_, ?_, cc.1, cc.2.1, cc.2.2.1, cc.2.2.2.1, cc.2.2.2.2⟩
    · rw [vj 9 (by omega), vj 10 (by omega)]; exact E.cn
    · rw [v0]; unfold wrF; rw [E.ew h hh]
    · rw [vj 3 (by omega)]; exact E.h1
    · rw [vj 4 (by omega)]; exact E.mm
    · rw [vj 6 (by omega)]; exact E.hh
    · rw [vj 4 (by omega), vj 6 (by omega)]; exact E.mh
theorem d_set (L : LI e M N xx) {k z : Nat} (hk : k < 4) (h1 : ¬ nI z < setF 1 k) (h2 : nI z ≤ setF 2 k) : (mX5_set xx (nI k) (nI z)).1 = (if xx 0 1 k = nI z then (-5) else xx 0 1 k) ∧ mX5_count (setV (mX5_set xx (nI k) (nI z)).2 10 (xx 10)) (12 + nI k) = nI z ∧ LI (e + 1) M N (setV (mX5_set xx (nI k) (nI z)).2 10 (xx 10)) := by
  obtain ⟨⟨x, hx⟩, E⟩ := L
  have hRR := (a_set hx (nI k) (nI z)).2
  have hset : mX5_set xx (nI k) (nI z) = if xx 0 1 k = nI z then (-5, xx) else mX5_recorded (und xx (setA (xx 0) 1 (upd (xx 0 1) k (nI z)))) (xx 0 1 k) := by
    unfold mX5_set
    rw [if_neg (nI_lt0 (by omega)), if_pos (by rw [show (4 : Int32) = nI 4 from rfl, nJ_lt (by omega) (by omega)]; omega), at_in _ hk (by omega), if_neg h1, at_in _ hk (by omega), if_pos h2, c_set _ hk]
    by_cases c : xx 0 1 k = nI z
    · rw [if_pos c, if_pos c]
    · rw [if_neg c, if_neg c, show upd (xx 0 1) k (nI z) = mX5_put 4 (xx 0 1) (nI k) (nI z) from (put_in _ _ hk (by omega)).symm]; rfl
  by_cases c : xx 0 1 k = nI z
  · rw [if_pos c] at hset
    rw [hset] at hRR ⊢
    refine ⟨by rw [if_pos c], ?_, LI.act hRR E.same⟩
    rw [ct_s hk, setV_ne _ _ (by omega)]; exact c
  · rw [if_neg c] at hset
    have r0 := rec_0 (und xx (setA (xx 0) 1 (upd (xx 0 1) k (nI z)))) (xx 0 1 k)
    rw [← hset, und_0] at r0
    obtain ⟨r1, r2⟩ := r0
    refine ⟨by rw [r1, if_neg c], ?_, LI.act hRR ?_⟩
    · rw [ct_s hk, setV_ne _ _ (by omega), r2, setA_same, upd_same]
    · rw [r2]
      exact E.next (fun j hj => setA_ne _ _ (by omega)) (by rw [setA_ne _ _ (by omega)]; exact ta_id E.ta) (by rw [setA_ne _ _ (by omega)]; exact ta_id E.va) (by rw [setA_ne _ _ (by omega)]; exact E.s23) (by rw [setA_ne _ _ (by omega)]; exact E.s45) (by rw [setA_ne _ _ (show 2 ≠ 1 by omega), SS_c (setA_ne _ _ (by omega))]; exact E.ss)
theorem d_none (L : LI e M N xx) (c : M = 0 ∨ N = 0) : (mX5_complain xx 0 0 0 0).1 = -1 ∧ LI (e + 1) M N (setV (mX5_complain xx 0 0 0 0).2 10 (xx 10)) := by
  have V := L.V
  obtain ⟨⟨x, hx⟩, E⟩ := L
  have hRR := (a_complain hx 0 0 0 0).2
  have hr : mX4_reasonAgainst (xx 0) 0 0 0 0 = -1 := by
    unfold mX4_reasonAgainst
    by_cases d : mX4_hasHouse (xx 0) 0 = 0
    · rw [if_pos d]
    · rw [if_neg d]
      have d2 : mX4_hasMill (xx 0) 0 = 0 := by
        rcases c with c | c
        · exact hm_0 V (m := 0) (by omega) (by omega)
        · exfalso
          refine d ?_
          unfold mX4_hasHouse
          rw [V.eN, c]; decide
      rw [if_pos d2]
  have hl : mX5_lodge (xx 0) 0 0 0 0 = (-1, xx 0) := by
    unfold mX5_lodge; rw [hr, if_neg (by decide)]
  have cp := cp_12 xx 0 0 0 0
  rw [hl] at cp
  exact ⟨cp.1, LI.act hRR (by rw [show (mX5_complain xx 0 0 0 0).2 0 = xx 0 from cp.2]; exact E.same)⟩
theorem d_vote0 (L : LI e M N xx) (c : M = 0) (h : Int32) : (mX5_vote xx 0 h).1 = -1 ∧ LI (e + 1) M N (setV (mX5_vote xx 0 h).2 10 (xx 10)) := by
  have V := L.V
  obtain ⟨⟨x, hx⟩, E⟩ := L
  have hl : mX5_vote xx 0 h = (-1, xx) := by
    unfold mX5_vote; rw [if_pos (show mX4_hasMill (xx 0) 0 = 0 from hm_0 V (m := 0) (by omega) (by omega))]
  rw [hl]
  exact ⟨rfl, LI.act hx E.same⟩
end EV
