section PE
variable (x : Nat → Nat → Int32) (p : Int32)
abbrev pe_B (p r : Int32) : Prop := -10 - p.toInt ≤ r.toInt ∧ r.toInt ≤ p.toInt + 10
theorem pe_w {p r : Int32} {B : Int} (h : -B ≤ r.toInt ∧ r.toInt ≤ B) (hB : B ≤ p.toInt + 10) : pe_B p r := ⟨by omega, by omega⟩
theorem pe_u {p : Int32} (hp : 0 ≤ p.toInt ∧ p.toInt < 900) : -(p.toInt + 1) ≤ (p + 1).toInt ∧ (p + 1).toInt ≤ p.toInt + 1 := by
  rw [b_up (p := p) 1 (n := 1) rfl (by omega) (by omega)]
  omega
theorem pe_u2 {r : Int32} {B : Int} (h : -B ≤ r.toInt ∧ r.toInt ≤ B) (hB : 0 ≤ B ∧ B < 1500) : -(B + 1) ≤ (r + 1).toInt ∧ (r + 1).toInt ≤ B + 1 := by
  rw [b_up (p := r) 1 (n := 1) rfl (by omega) (by omega)]
  omega
theorem pe_n {r : Int32} {B : Int} (h : -B ≤ r.toInt ∧ r.toInt ≤ B) (hB : 0 ≤ B ∧ B < 1500) : -(B + 1) ≤ ((-1) - r).toInt ∧ ((-1) - r).toInt ≤ B + 1 := by
  rw [b_m1 (p := r) (by omega)]
  omega
theorem pe1 (hp : 0 ≤ p.toInt ∧ p.toInt < 900) : pe_B p (mX6_yardEnd x (mX6_behind x (mX6_digitEnd x (p + 1) 1 5) 64)) :=
  pe_w (g_yardEnd x _ (g_behind x _ 64 (g_digitEnd x _ 1 5 (pe_u hp) (by omega)) (by omega)) (by omega)) (by omega)
theorem pe2 (hp : 0 ≤ p.toInt ∧ p.toInt < 900) : pe_B p (mX6_yardEnd x (mX6_behind x (p + 1) 64)) :=
  pe_w (g_yardEnd x _ (g_behind x _ 64 (pe_u hp) (by omega)) (by omega)) (by omega)
theorem pe3 (hp : 0 ≤ p.toInt ∧ p.toInt < 900) : pe_B p (mX6_digitEnd x (mX6_behind x (mX6_hourEnd x (p + 1)) 61) 0 9) :=
  pe_w (g_digitEnd x _ 0 9 (g_behind x _ 61 (g_hourEnd x _ (pe_u hp) (by omega)) (by omega)) (by omega)) (by omega)
theorem pe4 (hp : 0 ≤ p.toInt ∧ p.toInt < 900) : -(p.toInt + 1 + 1 + 1) ≤ (mX6_digitEnd x (mX6_digitEnd x (p + 1) 0 9) 0 3).toInt ∧ (mX6_digitEnd x (mX6_digitEnd x (p + 1) 0 9) 0 3).toInt ≤ p.toInt + 1 + 1 + 1 :=
  g_digitEnd x _ 0 3 (g_digitEnd x _ 0 9 (pe_u hp) (by omega)) (by omega)
theorem pe5 (hp : 0 ≤ p.toInt ∧ p.toInt < 900) : pe_B p (mX6_hourEnd x (mX6_digitEnd x (mX6_digitEnd x (p + 1) 0 9) 0 3 + 1)) :=
  pe_w (g_hourEnd x _ (pe_u2 (pe4 x p hp) (by omega)) (by omega)) (by omega)
theorem pe6 (hp : 0 ≤ p.toInt ∧ p.toInt < 900) : pe_B p ((-1) - mX6_digitEnd x (mX6_digitEnd x (p + 1) 0 9) 0 3) :=
  pe_w (pe_n (pe4 x p hp) (by omega)) (by omega)
theorem pe7 (hp : 0 ≤ p.toInt ∧ p.toInt < 900) : pe_B p ((-1) - p) := by
  have h := b_m1 (p := p) (by omega)
  exact ⟨by omega, by omega⟩
end PE
theorem b_partEnd (x : Nat → Nat → Int32) (p : Int32) (hp : 0 ≤ p.toInt ∧ p.toInt < 900) : -10 - p.toInt ≤ (mX6_partEnd x p).toInt ∧ (mX6_partEnd x p).toInt ≤ p.toInt + 10 := by
  unfold mX6_partEnd
  dsimp only [lt]
  repeat' split
  · exact pe5 x p hp
  · exact pe_w (pe4 x p hp) (by omega)
  · exact pe5 x p hp
  · exact pe_w (pe4 x p hp) (by omega)
  · exact pe5 x p hp
  · exact pe_w (pe4 x p hp) (by omega)
  · exact pe6 x p hp
  · exact pe_w (pe4 x p hp) (by omega)
  · exact pe2 x p hp
  · exact pe1 x p hp
  · exact pe3 x p hp
  · exact pe7 p hp
