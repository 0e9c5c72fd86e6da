/-! a text without a fault: its parts, from place to place -/
section CONG
variable {x y : Nat → Nat → Int32} (h3 : x 3 = y 3) (h4 : x 4 = y 4)
theorem cg_sign (h3 : x 3 = y 3) (h4 : x 4 = y 4) (p : Int32) : mX6_sign x p = mX6_sign y p := by unfold mX6_sign; rw [h3, h4]
theorem cg_digit (h3 : x 3 = y 3) (h4 : x 4 = y 4) (p : Int32) : mX6_digit x p = mX6_digit y p := by unfold mX6_digit; rw [cg_sign h3 h4]
theorem cg_behind (h3 : x 3 = y 3) (h4 : x 4 = y 4) (p g : Int32) : mX6_behind x p g = mX6_behind y p g := by unfold mX6_behind; rw [cg_sign h3 h4]
theorem cg_digitEnd (h3 : x 3 = y 3) (h4 : x 4 = y 4) (p a b : Int32) : mX6_digitEnd x p a b = mX6_digitEnd y p a b := by unfold mX6_digitEnd; rw [cg_digit h3 h4]
theorem cg_yardEnd (h3 : x 3 = y 3) (h4 : x 4 = y 4) (p : Int32) : mX6_yardEnd x p = mX6_yardEnd y p := by unfold mX6_yardEnd; rw [cg_sign h3 h4, cg_digitEnd h3 h4]
theorem cg_hourEnd (h3 : x 3 = y 3) (h4 : x 4 = y 4) (p : Int32) : mX6_hourEnd x p = mX6_hourEnd y p := by unfold mX6_hourEnd; rw [cg_digit h3 h4, cg_digit h3 h4]
theorem cg_partEnd (h3 : x 3 = y 3) (h4 : x 4 = y 4) (p : Int32) : mX6_partEnd x p = mX6_partEnd y p := by
  have e : mX6_sign x = mX6_sign y := funext (cg_sign h3 h4)
  have e1 : mX6_digitEnd x = mX6_digitEnd y := funext fun a => funext fun b => funext fun c => cg_digitEnd h3 h4 a b c
  have e2 : mX6_behind x = mX6_behind y := funext fun a => funext fun b => cg_behind h3 h4 a b
  have e3 : mX6_yardEnd x = mX6_yardEnd y := funext (cg_yardEnd h3 h4)
  have e4 : mX6_hourEnd x = mX6_hourEnd y := funext (cg_hourEnd h3 h4)
  unfold mX6_partEnd
  rw [e, e1, e2, e3, e4]
theorem cg_fault4 (h3 : x 3 = y 3) (h4 : x 4 = y 4) (C : Int32 → Int32 → Int32) : ∀ (n : Nat) (a b : Int32), mX6_fault_4 x C n a b = mX6_fault_4 y C n a b
  | 0, a, b => by rw [mX6_fault_4, mX6_fault_4]
  | n + 1, a, b => by
    rw [mX6_fault_4, mX6_fault_4, cg_partEnd h3 h4]
    unfold lt
    generalize mX6_partEnd y b = r
    dsimp only
    rw [cg_sign h3 h4 r, h4, cg_fault4 h3 h4 C n]
end CONG
/-- what ends, ends further on -/
theorem up_digitEnd {x : Nat → Nat → Int32} {p a b : Int32} (hp : p.toInt < 1000) (h : 0 ≤ (mX6_digitEnd x p a b).toInt) : 0 ≤ p.toInt ∧ (mX6_digitEnd x p a b).toInt = p.toInt + 1 := by
  by_cases h0 : 0 ≤ p.toInt
  · have h1 : (0 : Int32) ≤ p := i_le.mpr h0
    unfold mX6_digitEnd at h ⊢
    rw [if_pos h1] at h ⊢
    unfold lt at h ⊢
    dsimp only at h ⊢
    split at h
    · have h2 := b_m1 (p := p) (by omega); omega
    · rename_i h3
      rw [if_neg h3]
      exact ⟨h0, b_up (p := p) 1 (n := 1) rfl (by omega) (by omega)⟩
  · have h1 : ¬ (0 : Int32) ≤ p := fun z => h0 (i_le.mp z)
    unfold mX6_digitEnd at h
    rw [if_neg h1] at h
    exact absurd h h0
theorem up_behind {x : Nat → Nat → Int32} {p g : Int32} (hp : p.toInt < 1000) (h : 0 ≤ (mX6_behind x p g).toInt) : 0 ≤ p.toInt ∧ (mX6_behind x p g).toInt = p.toInt + 1 := by
  by_cases h0 : 0 ≤ p.toInt
  · have h1 : (0 : Int32) ≤ p := i_le.mpr h0
    unfold mX6_behind at h ⊢
    rw [if_pos h1] at h ⊢
    unfold lt at h ⊢
    dsimp only at h ⊢
    split at h
    · rename_i h3
      rw [if_pos h3]
      exact ⟨h0, b_up (p := p) 1 (n := 1) rfl (by omega) (by omega)⟩
    · have h2 := b_m1 (p := p) (by omega); omega
  · have h1 : ¬ (0 : Int32) ≤ p := fun z => h0 (i_le.mp z)
    unfold mX6_behind at h
    rw [if_neg h1] at h
    exact absurd h h0
theorem up_yardEnd {x : Nat → Nat → Int32} {p : Int32} (hp : p.toInt < 900) (h : 0 ≤ (mX6_yardEnd x p).toInt) : 0 ≤ p.toInt ∧ (mX6_yardEnd x p).toInt = p.toInt + 2 := by
  by_cases h0 : 0 ≤ p.toInt
  · have h1 : (0 : Int32) ≤ p := i_le.mpr h0
    have h4 := b_up (p := p) 1 (n := 1) rfl (by omega) (by omega)
    unfold mX6_yardEnd at h ⊢
    rw [if_pos h1] at h ⊢
    unfold lt at h ⊢
    dsimp only at h ⊢
    split at h
    · have h2 := b_m1 (p := p) (by omega); omega
    · rename_i h3
      rw [if_neg h3]
      have h5 := up_digitEnd (by omega) h
      omega
  · have h1 : ¬ (0 : Int32) ≤ p := fun z => h0 (i_le.mp z)
    unfold mX6_yardEnd at h
    rw [if_neg h1] at h
    exact absurd h h0
theorem up_hourEnd {x : Nat → Nat → Int32} {p : Int32} (hp : p.toInt < 900) (h : 0 ≤ (mX6_hourEnd x p).toInt) : 0 ≤ p.toInt ∧ ((mX6_hourEnd x p).toInt = p.toInt + 1 ∨ (mX6_hourEnd x p).toInt = p.toInt + 2) := by
  by_cases h0 : 0 ≤ p.toInt
  · have h5 := b_hourEnd x p (by omega)
    refine ⟨h0, ?_⟩
    have h1 : (0 : Int32) ≤ p := i_le.mpr h0
    have u1 := b_up (p := p) 1 (n := 1) rfl (by omega) (by omega)
    have u2 := b_up (p := p) 2 (n := 2) rfl (by omega) (by omega)
    have v1 := b_m1 (p := p) (by omega)
    unfold mX6_hourEnd at h ⊢
    rw [if_pos h1] at h ⊢
    unfold lt at h ⊢
    dsimp only at h ⊢
    split
    · split
      · exact Or.inl u1
      · split
        · exact Or.inl u1
        · split
          · exact Or.inl u1
          · exact Or.inr u2
    · rename_i h2
      rw [if_neg h2] at h
      omega
  · have h1 : ¬ (0 : Int32) ≤ p := fun z => h0 (i_le.mp z)
    unfold mX6_hourEnd at h
    rw [if_neg h1] at h
    exact absurd h h0
theorem up_partEnd {x : Nat → Nat → Int32} {p : Int32} (hp : 0 ≤ p.toInt ∧ p.toInt < 100) (h : 0 ≤ (mX6_partEnd x p).toInt) : p.toInt + 4 ≤ (mX6_partEnd x p).toInt := by
  have u1 := b_up (p := p) 1 (n := 1) rfl (by omega) (by omega)
  have v1 := b_m1 (p := p) (by omega)
  have c0 := pe4 x p (by omega)
  have w1 : ∀ r : Int32, r = mX6_digitEnd x (mX6_digitEnd x (p + 1) 0 9) 0 3 → 0 ≤ r.toInt → r.toInt = p.toInt + 3 := by
    intro r hr h0
    rw [hr] at h0 ⊢
    have a1 := pe_u (p := p) (by omega)
    have a2 := g_digitEnd x (p + 1) 0 9 a1 (by omega)
    have a3 := up_digitEnd (by omega) h0
    have a4 := up_digitEnd (by omega) a3.1
    omega
  unfold mX6_partEnd at h ⊢
  unfold lt at h ⊢
  dsimp only at h ⊢
  split
  · rename_i hc
    rw [if_pos hc] at h
    generalize hr : mX6_digitEnd x (mX6_digitEnd x (p + 1) 0 9) 0 3 = r at h ⊢ c0
    have hh : 0 ≤ r.toInt → (mX6_hourEnd x (r + 1)).toInt ≥ p.toInt + 5 ∨ (mX6_hourEnd x (r + 1)).toInt < 0 := by
      intro h0
      have a1 := w1 r hr.symm h0
      have a2 := b_up (p := r) 1 (n := 1) rfl (by omega) (by omega)
      by_cases h9 : 0 ≤ (mX6_hourEnd x (r + 1)).toInt
      · have a3 := up_hourEnd (by omega) h9; omega
      · exact Or.inr (by omega)
    have k1 : ∀ z : Int32, 0 ≤ (if 0 ≤ r then mX6_hourEnd x (r + 1) else r).toInt → p.toInt + 4 ≤ (if 0 ≤ r then mX6_hourEnd x (r + 1) else r).toInt := by
      intro z q
      split at q
      · rename_i h1
        rw [if_pos h1]
        have := hh (i_le.mp h1); omega
      · rename_i h1
        exact absurd (show (0 : Int32) ≤ r from i_le.mpr q) h1
    split at h
    · rename_i c1; rw [if_pos c1]; exact k1 0 h
    · rename_i c1; rw [if_neg c1]
      split at h
      · rename_i c2; rw [if_pos c2]; exact k1 0 h
      · rename_i c2; rw [if_neg c2]
        split at h
        · rename_i c3; rw [if_pos c3]; exact k1 0 h
        · rename_i c3; rw [if_neg c3]
          split at h
          · rename_i c4
            have a1 := w1 r hr.symm (i_le.mp c4)
            have a2 := b_m1 (p := r) (by omega)
            omega
          · rename_i c4; exact absurd (show (0 : Int32) ≤ r from i_le.mpr h) c4
  · rename_i hc
    rw [if_neg hc] at h
    split at h
    · rename_i c1; rw [if_pos c1]
      have a0 := pe_u (p := p) (by omega)
      have a1 := g_behind x (p + 1) 64 a0 (by omega)
      have a2 := up_yardEnd (by omega) h
      have a3 := up_behind (by omega) a2.1
      omega
    · rename_i c1; rw [if_neg c1]
      split at h
      · rename_i c2; rw [if_pos c2]
        have a0 := pe_u (p := p) (by omega)
        have a1 := g_digitEnd x (p + 1) 1 5 a0 (by omega)
        have a2 := g_behind x _ 64 a1 (by omega)
        have a3 := up_yardEnd (by omega) h
        have a4 := up_behind (by omega) a3.1
        have a5 := up_digitEnd (by omega) a4.1
        omega
      · rename_i c2; rw [if_neg c2]
        split at h
        · rename_i c3; rw [if_pos c3]
          have a0 := pe_u (p := p) (by omega)
          have a1 := g_hourEnd x (p + 1) a0 (by omega)
          have a2 := g_behind x _ 61 a1 (by omega)
          have a3 := up_digitEnd (by omega) h
          have a4 := up_behind (by omega) a3.1
          have a5 := up_hourEnd (by omega) a4.1
          omega
        · omega
/-- from p on the text has no fault, or p is behind it -/
def vch (x : Nat → Nat → Int32) (p : Int32) : Prop := ((x 4 2).toInt < p.toInt ∧ p.toInt < 100) ∨ ((0 ≤ p.toInt ∧ p.toInt < 61) ∧ ∃ (n : Nat) (k : Int32), 60 < p.toInt + 5 * n ∧ mX6_fault_4 x (fun _ _ => -5) n k p = -5)
theorem vch_cong {x y : Nat → Nat → Int32} (h3 : x 3 = y 3) (h4 : x 4 = y 4) {p : Int32} (h : vch x p) : vch y p := by
  rcases h with h | ⟨h1, n, k, h2, h5⟩
  · exact Or.inl (by rw [← h4]; exact h)
  · exact Or.inr ⟨h1, n, k, h2, by rw [← cg_fault4 h3 h4]; exact h5⟩
theorem vch_in {x : Nat → Nat → Int32} {p : Int32} (h : vch x p) (c : ¬ x 4 2 ≤ p) : 0 ≤ p.toInt ∧ p.toInt < 61 := by
  rw [i_le] at c
  rcases h with h | ⟨h1, -⟩
  · omega
  · exact h1
theorem vch_0 {x : Nat → Nat → Int32} (h : mX6_fault x = -5) : vch x 0 := by
  refine Or.inr ⟨by decide, 60, 0, by decide, ?_⟩
  unfold mX6_fault at h
  rw [tr_lit (n := 60) 60 rfl] at h
  exact h
theorem vch_next {x : Nat → Nat → Int32} {p : Int32} (hL : 0 ≤ (x 4 2).toInt ∧ (x 4 2).toInt < 61) (h : vch x p) (c : ¬ x 4 2 ≤ p) : vch x (mX6_partEnd x p + 1) ∧ p.toInt + 5 ≤ (mX6_partEnd x p + 1).toInt := by
  rw [i_le] at c
  rcases h with h | ⟨h1, n, k, h2, h5⟩
  · omega
  · cases n with
    | zero => omega
    | succ n =>
      rw [mX6_fault_4] at h5
      have hb := b_partEnd x p (by omega)
      have hu := up_partEnd (x := x) (p := p) (by omega)
      unfold lt at h5
      generalize mX6_partEnd x p = r at h5 hb hu ⊢
      dsimp only at h5
      have hr1 := b_up (p := r) 1 (n := 1) rfl (by omega) (by omega)
      split at h5
      · rename_i h0
        have h0' := i_le.mp h0
        have e0 : (0 : Int32).toInt = 0 := rfl
        have hu := hu (by omega)
        split at h5
        · rename_i h6
          have h7 := i_eq.mp h6
          exact ⟨Or.inl (by omega), by omega⟩
        · split at h5
          · rename_i h7
            have h8 := f_sign59 h7
            exact ⟨Or.inr ⟨by omega, n, k + 1, by omega, h5⟩, by omega⟩
          · have h9 := i_eq.mp h5
            have e5 : (-5 : Int32).toInt = -5 := rfl
            omega
      · rename_i h0
        have h0' : ¬ (0 : Int32).toInt ≤ r.toInt := fun z => h0 (i_le.mpr z)
        have e0 : (0 : Int32).toInt = 0 := rfl
        have hm := b_m1 (p := r) (by omega)
        have h9 := i_eq.mp h5
        have e5 : (-5 : Int32).toInt = -5 := rfl
        omega
def tw (p : Int32) : Nat := (162 - p.toInt).toNat
theorem tw0 {p N : Int32} (h : tw p ≤ 0) (c : ¬ N ≤ p) (hN : N.toInt < 61) : False := by
  unfold tw at h
  rw [i_le] at c
  omega
theorem twN {p r : Int32} {n : Nat} (h : tw p ≤ n + 1) (h2 : p.toInt + 5 ≤ r.toInt) : tw r ≤ n := by
  unfold tw at h ⊢
  omega
