theorem f_isHour {a : Int32} (h : ¬ mX5_isHour a = 0) : 0 ≤ a.toInt ∧ a.toInt < 24 := by
  unfold mX5_isHour at h
  have e0 : (0 : Int32).toInt = 0 := rfl
  have e24 : (24 : Int32).toInt = 24 := rfl
  by_cases h1 : a < 0
  · rw [if_pos h1] at h; exact absurd rfl h
  · rw [if_neg h1] at h
    rw [i_lt] at h1
    by_cases h2 : a < 24
    · rw [i_lt] at h2; omega
    · first
      | (rw [if_neg h2] at h; exact absurd rfl h)
      | (rw [if_pos (show (24 : Int32) ≤ a by rw [i_le]; rw [i_lt] at h2; omega)] at h; exact absurd rfl h)
