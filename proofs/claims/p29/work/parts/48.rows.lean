/-! PURE 9: rows that are copied; the history. -/
theorem setA2 (x : Nat → Nat → Int32) (b : Nat) (f g : Nat → Int32) : setA (setA x b f) b g = setA x b g := by
  funext j
  by_cases h : j = b
  · subst h; rw [setA_same, setA_same]
  · rw [setA_ne _ _ h, setA_ne _ _ h, setA_ne _ _ h]
theorem setA_id (x : Nat → Nat → Int32) (b : Nat) : setA x b (x b) = x := by
  funext j
  by_cases h : j = b
  · subst h; rw [setA_same]
  · rw [setA_ne _ _ h]
def cpF (f : Nat → Int32) (d k n : Nat) (g : Nat → Int32) : Nat → Int32 := fun i => if d + k ≤ i ∧ i < d + k + n then g (i - d) else f i
theorem cpF_0 (f : Nat → Int32) (d k : Nat) (g : Nat → Int32) : cpF f d k 0 g = f := by
  funext i; unfold cpF; rw [if_neg (by omega)]
theorem cpF_s (f : Nat → Int32) (d k n : Nat) (g : Nat → Int32) : cpF (upd f (d + k) (g k)) d (k + 1) n g = cpF f d k (n + 1) g := by
  funext i; unfold cpF upd
  by_cases h : i = d + k
  · subst h
    rw [if_neg (by omega), if_pos rfl, if_pos (by omega), Nat.add_sub_cancel_left]
  · by_cases h2 : d + (k + 1) ≤ i ∧ i < d + (k + 1) + n
    · rw [if_pos h2, if_pos (by omega)]
    · rw [if_neg h2, if_neg h, if_neg (by omega)]
theorem cp_in {f : Nat → Int32} {d n : Nat} {g : Nat → Int32} {k : Nat} (h : k < n) : cpF f d 0 n g (d + k) = g k := by
  unfold cpF; rw [if_pos (by omega), Nat.add_sub_cancel_left]
theorem cp_out {f : Nat → Int32} {d n : Nat} {g : Nat → Int32} {i : Nat} (h : ¬ (d ≤ i ∧ i < d + n)) : cpF f d 0 n g i = f i := by
  unfold cpF; rw [if_neg (by omega)]
theorem copies_l (C : (Nat → Nat → Int32) → Int32 → (Nat → Nat → Int32)) (g : Nat → Int32) : ∀ (n k : Nat) (x : Nat → Nat → Int32), k + n ≤ 148 → (∀ j, j < 148 → x 0 j = g j) → mX6_copies_2 C n x (nI k) = C (setA x 0 (cpF (x 0) 148 k n g)) (nI (k + n))
  | 0, k, x, _, _ => by rw [mX6_copies_2, cpF_0, setA_id]; rfl
  | n + 1, k, x, hk, hg => by
    have e1 : ((148 : Int32) + nI k).toNatClampNeg = 148 + k := by rw [show (148 : Int32) = nI 148 from rfl, nI_add, nI_cl (by omega)]
    rw [mX6_copies_2, lt, e1, nI_cl (by omega), nI_s, hg k (by omega), copies_l C g n (k + 1) _ (by omega) (fun j hj => by rw [setA_same]; unfold upd; rw [if_neg (by omega)]; exact hg j hj), setA_same, setA2, cpF_s, show k + 1 + n = k + (n + 1) by omega]
theorem tr_148 : tr 0 148 = 148 := by decide +kernel
theorem tr_444 : tr 0 444 = 444 := by decide +kernel
theorem copies_e (x : Nat → Nat → Int32) : mX6_copies x = setA x 0 (cpF (x 0) 148 0 148 (x 0)) := by
  unfold mX6_copies
  rw [tr_148]
  have t := copies_l (fun xL_2 x1_2 => xL_2) (x 0) 148 0 x (by omega) (fun _ _ => rfl)
  rw [nI_0] at t
  rw [t]
theorem rem_l (C : (Nat → Nat → Int32) → Int32 → (Nat → Nat → Int32)) {z : Nat} (hz : z ≤ 3) : ∀ (n k : Nat) (x : Nat → Nat → Int32), k + n ≤ 148 → x 4 0 = nI z → mX6_remembers_51 C n x (nI k) = C (setA x 1 (cpF (x 1) (148 * z) k n (x 0))) (nI (k + n))
  | 0, k, x, _, _ => by rw [mX6_remembers_51, cpF_0, setA_id]; rfl
  | n + 1, k, x, hk, e => by
    have e1 : ((148 : Int32) * nI z + nI k).toNatClampNeg = 148 * z + k := by rw [show (148 : Int32) = nI 148 from rfl, nI_mul, nI_add, nI_cl (by omega)]
    rw [mX6_remembers_51, lt, e, e1, nI_cl (by omega), nI_s, rem_l C hz n (k + 1) _ (by omega) (by rw [setA_ne _ _ (by omega)]; exact e), setA_same, setA2, setA_ne x _ (show 0 ≠ 1 by omega), cpF_s, show k + 1 + n = k + (n + 1) by omega]
theorem rem_la (C : (Nat → Nat → Int32) → Int32 → (Nat → Nat → Int32)) {z : Nat} (hz : z ≤ 3) : ∀ (n k : Nat) (x : Nat → Nat → Int32), k + n ≤ 148 → x 4 0 = nI z → mX6_remembers_51_a C n x (nI k) = C (setA x 1 (cpF (x 1) (148 * z) k n (x 0))) (nI (k + n))
  | 0, k, x, _, _ => by rw [mX6_remembers_51_a, cpF_0, setA_id]; rfl
  | n + 1, k, x, hk, e => by
    have e1 : ((148 : Int32) * nI z + nI k).toNatClampNeg = 148 * z + k := by rw [show (148 : Int32) = nI 148 from rfl, nI_mul, nI_add, nI_cl (by omega)]
    rw [mX6_remembers_51_a, lt, e, e1, nI_cl (by omega), nI_s, rem_la C hz n (k + 1) _ (by omega) (by rw [setA_ne _ _ (by omega)]; exact e), setA_same, setA2, setA_ne x _ (show 0 ≠ 1 by omega), cpF_s, show k + 1 + n = k + (n + 1) by omega]
theorem rem_10 (C : (Nat → Nat → Int32) → Int32 → (Nat → Nat → Int32)) (g : Nat → Int32) : ∀ (n k : Nat) (x : Nat → Nat → Int32), k + n ≤ 444 → (∀ j, k ≤ j → j < 444 → x 1 (148 + j) = g j) → mX6_remembers_10 C n x (nI k) = C (setA x 1 (cpF (x 1) 0 k n g)) (nI (k + n))
  | 0, k, x, _, _ => by rw [mX6_remembers_10, cpF_0, setA_id]; rfl
  | n + 1, k, x, hk, hg => by
    have e1 : ((148 : Int32) + nI k).toNatClampNeg = 148 + k := by rw [show (148 : Int32) = nI 148 from rfl, nI_add, nI_cl (by omega)]
    have e2 : cpF (upd (x 1) k (g k)) 0 (k + 1) n g = cpF (x 1) 0 k (n + 1) g := by
      have := cpF_s (x 1) 0 k n g
      rw [Nat.zero_add] at this; exact this
    rw [mX6_remembers_10, lt, e1, nI_cl (by omega), nI_s, hg k (by omega) (by omega), rem_10 C g n (k + 1) _ (by omega) (fun j h1 h2 => by rw [setA_same]; unfold upd; rw [if_neg (by omega)]; exact hg j (by omega) h2), setA_same, setA2, e2, show k + 1 + n = k + (n + 1) by omega]
theorem takes_l (C : (Nat → Nat → Int32) → Int32 → (Nat → Nat → Int32)) (g : Nat → Int32) : ∀ (n k : Nat) (x : Nat → Nat → Int32), k + n ≤ 148 → (∀ j, k ≤ j → j < 148 → x 0 (148 + j) = g j) → mX6_takes_6 C n x (nI k) = C (setA x 0 (cpF (x 0) 0 k n g)) (nI (k + n))
  | 0, k, x, _, _ => by rw [mX6_takes_6, cpF_0, setA_id]; rfl
  | n + 1, k, x, hk, hg => by
    have e1 : ((148 : Int32) + nI k).toNatClampNeg = 148 + k := by rw [show (148 : Int32) = nI 148 from rfl, nI_add, nI_cl (by omega)]
    have e2 : cpF (upd (x 0) k (g k)) 0 (k + 1) n g = cpF (x 0) 0 k (n + 1) g := by
      have := cpF_s (x 0) 0 k n g
      rw [Nat.zero_add] at this; exact this
    rw [mX6_takes_6, lt, e1, nI_cl (by omega), nI_s, hg k (by omega) (by omega), takes_l C g n (k + 1) _ (by omega) (fun j h1 h2 => by rw [setA_same]; unfold upd; rw [if_neg (by omega)]; exact hg j (by omega) h2), setA_same, setA2, e2, show k + 1 + n = k + (n + 1) by omega]
theorem undo_l (C : (Nat → Nat → Int32) → Int32 → (Int32 × (Nat → Nat → Int32))) {z : Nat} (hz : z ≤ 3) : ∀ (n k : Nat) (x : Nat → Nat → Int32), k + n ≤ 148 → x 4 0 = nI z → mX6_undo_22 C n x (nI k) = C (setA x 0 (cpF (x 0) 0 k n (fun i => x 1 (148 * z + i)))) (nI (k + n))
  | 0, k, x, _, _ => by rw [mX6_undo_22, cpF_0, setA_id]; rfl
  | n + 1, k, x, hk, e => by
    have e1 : ((148 : Int32) * nI z + nI k).toNatClampNeg = 148 * z + k := by rw [show (148 : Int32) = nI 148 from rfl, nI_mul, nI_add, nI_cl (by omega)]
    have e2 : cpF (upd (x 0) k (x 1 (148 * z + k))) 0 (k + 1) n (fun i => x 1 (148 * z + i)) = cpF (x 0) 0 k (n + 1) (fun i => x 1 (148 * z + i)) := by
      have := cpF_s (x 0) 0 k n (fun i => x 1 (148 * z + i))
      rw [Nat.zero_add] at this; exact this
    rw [mX6_undo_22, lt, e, e1, nI_cl (by omega), nI_s, undo_l C hz n (k + 1) _ (by omega) (by rw [setA_ne _ _ (by omega)]; exact e), setA_same, setA2, setA_ne x _ (show 1 ≠ 0 by omega), e2, show k + 1 + n = k + (n + 1) by omega]
theorem keep_l (C : (Nat → Nat → Int32) → Int32 → (Int32 × (Nat → Nat → Int32))) : ∀ (n k : Nat) (x : Nat → Nat → Int32), k + n ≤ 148 → mX6_keep_2 C n x (nI k) = C (setA x 2 (cpF (x 2) 0 k n (x 0))) (nI (k + n))
  | 0, k, x, _ => by rw [mX6_keep_2, cpF_0, setA_id]; rfl
  | n + 1, k, x, hk => by
    have e2 : cpF (upd (x 2) k (x 0 k)) 0 (k + 1) n (x 0) = cpF (x 2) 0 k (n + 1) (x 0) := by
      have := cpF_s (x 2) 0 k n (x 0)
      rw [Nat.zero_add] at this; exact this
    rw [mX6_keep_2, lt, nI_cl (by omega), nI_s, keep_l C n (k + 1) _ (by omega), setA_same, setA2, setA_ne x _ (show 0 ≠ 2 by omega), e2, show k + 1 + n = k + (n + 1) by omega]
theorem restore_l (C : (Nat → Nat → Int32) → Int32 → (Int32 × (Nat → Nat → Int32))) : ∀ (n k : Nat) (x : Nat → Nat → Int32), k + n ≤ 148 → mX6_restore_16 C n x (nI k) = C (setA x 0 (cpF (x 0) 0 k n (x 2))) (nI (k + n))
  | 0, k, x, _ => by rw [mX6_restore_16, cpF_0, setA_id]; rfl
  | n + 1, k, x, hk => by
    have e2 : cpF (upd (x 0) k (x 2 k)) 0 (k + 1) n (x 2) = cpF (x 0) 0 k (n + 1) (x 2) := by
      have := cpF_s (x 0) 0 k n (x 2)
      rw [Nat.zero_add] at this; exact this
    rw [mX6_restore_16, lt, nI_cl (by omega), nI_s, restore_l C n (k + 1) _ (by omega), setA_same, setA2, setA_ne x _ (show 2 ≠ 0 by omega), e2, show k + 1 + n = k + (n + 1) by omega]
/-- what remembers() does -/
def remA (x : Nat → Nat → Int32) (z : Nat) : Nat → Nat → Int32 := setA (setA x 1 (cpF (x 1) (148 * z) 0 148 (x 0))) 4 (upd (x 4) 0 (nI (z + 1)))
def remB (x : Nat → Nat → Int32) : Nat → Nat → Int32 := setA (setA x 1 (cpF (cpF (x 1) 0 0 444 (fun j => x 1 (148 + j))) 444 0 148 (x 0))) 4 (upd (upd (x 4) 0 (nI 3)) 0 (nI 4))
theorem rem_A {x : Nat → Nat → Int32} {z : Nat} (hz : z ≤ 3) (e : x 4 0 = nI z) : mX6_remembers x = remA x z := by
  unfold mX6_remembers
  have h4 : ¬ x 4 0 = 4 := by
    rw [e, show (4 : Int32) = nI 4 from rfl, nJ_eq (by omega) (by omega)]; omega
  rw [if_neg h4, tr_148, show (0 : Int32) = nI 0 from rfl, rem_l _ hz 148 0 x (by omega) e]
  unfold lt remA
  rw [setA_ne _ _ (show 4 ≠ 1 by omega), e, nI_s]
theorem rem_B {x : Nat → Nat → Int32} (e : x 4 0 = nI 4) : mX6_remembers x = remB x := by
  unfold mX6_remembers
  have h4 : x 4 0 = 4 := e
  rw [if_pos h4, tr_148, tr_444, show (0 : Int32) = nI 0 from rfl, rem_10 _ (fun j => x 1 (148 + j)) 444 0 x (by omega) (fun _ _ _ => rfl)]
  have e1 : (4 : Int32) - 1 = nI 3 := by decide
  rw [lt, setA_ne x _ (show 4 ≠ 1 by omega), h4, e1]
  rw [rem_la _ (show 3 ≤ 3 by omega) 148 0 _ (by omega) (by rw [setA_same]; rfl)]
  unfold remB
  have e2 : (nI 3 : Int32) + 1 = nI 4 := nI_s 3
  rw [setA_ne _ _ (show 4 ≠ 1 by omega), setA_same]
  rw [show upd (x 4) 0 (nI 3) 0 = nI 3 from rfl, e2, lt]
  funext j
  by_cases j4 : j = 4
  · subst j4; rw [setA_same, setA_same]
  · rw [setA_ne _ _ j4, setA_ne _ _ j4]
    by_cases j1 : j = 1
    · subst j1; rw [setA_same, setA_same, setA_ne _ _ (show 1 ≠ 4 by omega), setA_same, setA_ne _ _ (show 0 ≠ 4 by omega), setA_ne _ _ (show 0 ≠ 1 by omega)]
    · rw [setA_ne _ _ j1, setA_ne _ _ j1, setA_ne _ _ j4, setA_ne _ _ j1]
theorem takes_e {x q : Nat → Nat → Int32} (h : mX6_remembers x = q) : mX6_takes x = setA q 0 (cpF (q 0) 0 0 148 (fun j => q 0 (148 + j))) := by
  have t := takes_l (fun xL_6 x1_6 => xL_6) (fun j => q 0 (148 + j)) 148 0 q (by omega) (fun _ _ _ => rfl)
  rw [nI_0] at t
  rw [mX6_takes, h, lt, tr_148, t]
