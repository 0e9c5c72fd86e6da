theorem k3_copies (x : Nat → Nat → Int32) : mX6_copies x 3 = x 3 := by
  rw [copies_eq]; exact cpr_ne 0 0 0 148 (by omega) _ _ _
/-- a store elsewhere leaves the numbers of mills and houses -/
theorem cnt_set {x : Nat → Nat → Int32} {i V : Int32} {u : Int} (h : cntP x 148) (hi : i.toInt = u) (hu : 0 ≤ u ∧ u ≠ 148 ∧ u ≠ 161) : cntP (setA x 0 (upd (x 0) i.toNatClampNeg V)) 148 := by
  obtain ⟨h1, h2⟩ := h
  have e1 : (setA x 0 (upd (x 0) i.toNatClampNeg V)) 0 ((148 : Int32) + 0).toNatClampNeg = x 0 ((148 : Int32) + 0).toNatClampNeg := by
    rw [setA_same]; exact pk_un (cl_ne (show ((148 : Int32) + 0).toInt = 148 from rfl) hi (by omega))
  have e2 : (setA x 0 (upd (x 0) i.toNatClampNeg V)) 0 ((148 : Int32) + 13).toNatClampNeg = x 0 ((148 : Int32) + 13).toNatClampNeg := by
    rw [setA_same]; exact pk_un (cl_ne (show ((148 : Int32) + 13).toInt = 161 from rfl) hi (by omega))
  unfold cntP
  rw [e1, e2]
  exact ⟨h1, h2⟩
theorem cnt_incM {x : Nat → Nat → Int32} (h : cntP x 148) (h4 : ¬ x 0 ((148 : Int32) + 0).toNatClampNeg = 4) : cntP (setA x 0 (upd (x 0) ((148 : Int32) + 0).toNatClampNeg (x 0 ((148 : Int32) + 0).toNatClampNeg + 1))) 148 := by
  obtain ⟨h1, h2⟩ := h
  have h5 : ¬ (x 0 ((148 : Int32) + 0).toNatClampNeg).toInt = 4 := fun z => h4 (i_eq.mpr z)
  have e1 : (setA x 0 (upd (x 0) ((148 : Int32) + 0).toNatClampNeg (x 0 ((148 : Int32) + 0).toNatClampNeg + 1))) 0 ((148 : Int32) + 0).toNatClampNeg = x 0 ((148 : Int32) + 0).toNatClampNeg + 1 := by
    rw [setA_same]; exact pk_us
  have e2 : (setA x 0 (upd (x 0) ((148 : Int32) + 0).toNatClampNeg (x 0 ((148 : Int32) + 0).toNatClampNeg + 1))) 0 ((148 : Int32) + 13).toNatClampNeg = x 0 ((148 : Int32) + 13).toNatClampNeg := by
    rw [setA_same]; exact pk_un (by decide)
  unfold cntP
  rw [e1, e2]
  generalize x 0 ((148 : Int32) + 0).toNatClampNeg = m at h1 h5 ⊢
  rw [ti_add (a := m) (b := 1) rfl (show (1 : Int32).toInt = 1 from rfl) (by omega)]
  exact ⟨by omega, h2⟩
theorem cnt_incH {x : Nat → Nat → Int32} (h : cntP x 148) (h4 : ¬ x 0 ((148 : Int32) + 13).toNatClampNeg = 10) : cntP (setA x 0 (upd (x 0) ((148 : Int32) + 13).toNatClampNeg (x 0 ((148 : Int32) + 13).toNatClampNeg + 1))) 148 := by
  obtain ⟨h1, h2⟩ := h
  have h5 : ¬ (x 0 ((148 : Int32) + 13).toNatClampNeg).toInt = 10 := fun z => h4 (i_eq.mpr z)
  have e1 : (setA x 0 (upd (x 0) ((148 : Int32) + 13).toNatClampNeg (x 0 ((148 : Int32) + 13).toNatClampNeg + 1))) 0 ((148 : Int32) + 13).toNatClampNeg = x 0 ((148 : Int32) + 13).toNatClampNeg + 1 := by
    rw [setA_same]; exact pk_us
  have e2 : (setA x 0 (upd (x 0) ((148 : Int32) + 13).toNatClampNeg (x 0 ((148 : Int32) + 13).toNatClampNeg + 1))) 0 ((148 : Int32) + 0).toNatClampNeg = x 0 ((148 : Int32) + 0).toNatClampNeg := by
    rw [setA_same]; exact pk_un (by decide)
  unfold cntP
  rw [e1, e2]
  generalize x 0 ((148 : Int32) + 13).toNatClampNeg = m at h2 h5 ⊢
  rw [ti_add (a := m) (b := 1) rfl (show (1 : Int32).toInt = 1 from rfl) (by omega)]
  exact ⟨h1, by omega⟩
theorem get_set {x : Nat → Nat → Int32} {i j V : Int32} {u v : Int} (hj : j.toInt = v) (hi : i.toInt = u) (h : 0 ≤ v ∧ 0 ≤ u ∧ v ≠ u) : (setA x 0 (upd (x 0) i.toNatClampNeg V)) 0 j.toNatClampNeg = x 0 j.toNatClampNeg := by
  rw [setA_same]; exact pk_un (cl_ne hj hi h)
theorem ix_mill {m k : Int32} {n : Int} (hm : 0 ≤ m.toInt ∧ m.toInt < 4) (hk : k.toInt = n) (hn : 0 ≤ n ∧ n < 3) : (((148 : Int32) + 1) + (3 * m) + k).toInt = 149 + 3 * m.toInt + n :=
  ti_add (ti_add (show ((148 : Int32) + 1).toInt = 149 from rfl) (ti_mul (show (3 : Int32).toInt = 3 from rfl) (b := m) rfl (by omega)) (by omega)) hk (by omega)
theorem ix_house {m k : Int32} {n : Int} (hm : 0 ≤ m.toInt ∧ m.toInt < 10) (hk : k.toInt = n) (hn : 0 ≤ n ∧ n < 2) : (((148 : Int32) + 14) + (2 * m) + k).toInt = 162 + 2 * m.toInt + n :=
  ti_add (ti_add (show ((148 : Int32) + 14).toInt = 162 from rfl) (ti_mul (show (2 : Int32).toInt = 2 from rfl) (b := m) rfl (by omega)) (by omega)) hk (by omega)
theorem cnt_millComes {x : Nat → Nat → Int32} (h : cntP x 148) (a b : Int32) : cntP (mX6_millComes x 148 a b).2 148 := by
  unfold mX6_millComes lt
  dsimp only
  split
  · exact h
  · split
    · exact h
    · split
      · split
        · exact h
        · rename_i h4
          have hm : 0 ≤ (x 0 ((148 : Int32) + 0).toNatClampNeg).toInt ∧ (x 0 ((148 : Int32) + 0).toNatClampNeg).toInt < 4 := by
            have h5 : ¬ (x 0 ((148 : Int32) + 0).toNatClampNeg).toInt = 4 := fun z => h4 (i_eq.mpr z)
            have h6 := h.1
            generalize x 0 ((148 : Int32) + 0).toNatClampNeg = m at h5 h6 ⊢
            omega
          have i0 := ix_mill (k := 0) hm (show (0 : Int32).toInt = 0 from rfl) (by omega)
          have i1 := ix_mill (k := 1) hm (show (1 : Int32).toInt = 1 from rfl) (by omega)
          have c1 := cnt_set (V := a) h i0 (by omega)
          have g1 := get_set (x := x) (V := a) (show ((148 : Int32) + 0).toInt = 148 from rfl) i0 (by omega)
          generalize hs1 : setA x 0 (upd (x 0) (((148 : Int32) + 1) + (3 * x 0 ((148 : Int32) + 0).toNatClampNeg) + 0).toNatClampNeg a) = s1 at c1 g1 ⊢
          rw [g1]
          have c2 := cnt_set (V := b) c1 i1 (by omega)
          have g2 := get_set (x := s1) (V := b) (show ((148 : Int32) + 0).toInt = 148 from rfl) i1 (by omega)
          generalize hs2 : setA s1 0 (upd (s1 0) (((148 : Int32) + 1) + (3 * x 0 ((148 : Int32) + 0).toNatClampNeg) + 1).toNatClampNeg b) = s2 at c2 g2 ⊢
          exact cnt_incM c2 (by rw [g2, g1]; exact h4)
      · exact h
theorem cnt_houseComes {x : Nat → Nat → Int32} (h : cntP x 148) (b : Int32) : cntP (mX6_houseComes x 148 b).2 148 := by
  unfold mX6_houseComes lt
  dsimp only
  split
  · exact h
  · split
    · split
      · exact h
      · rename_i h4
        have hm : 0 ≤ (x 0 ((148 : Int32) + 13).toNatClampNeg).toInt ∧ (x 0 ((148 : Int32) + 13).toNatClampNeg).toInt < 10 := by
          have h5 : ¬ (x 0 ((148 : Int32) + 13).toNatClampNeg).toInt = 10 := fun z => h4 (i_eq.mpr z)
          have h6 := h.2
          generalize x 0 ((148 : Int32) + 13).toNatClampNeg = m at h5 h6 ⊢
          omega
        have i0 := ix_house (k := 0) hm (show (0 : Int32).toInt = 0 from rfl) (by omega)
        have c1 := cnt_set (V := b) h i0 (by omega)
        have g1 := get_set (x := x) (V := b) (show ((148 : Int32) + 13).toInt = 161 from rfl) i0 (by omega)
        generalize hs1 : setA x 0 (upd (x 0) (((148 : Int32) + 14) + (2 * x 0 ((148 : Int32) + 13).toNatClampNeg) + 0).toNatClampNeg b) = s1 at c1 g1 ⊢
        exact cnt_incH c1 (by rw [g1]; exact h4)
    · exact h
theorem tq_self (h : Int32) : tq h h = 1 := by
  unfold tq; omega
theorem blows_1 (x : Nat → Nat → Int32) (p h w : Int32) : (mX6_blows x p h h w).2 = setA x 0 (upd (x 0) ((p + 34) + h).toNatClampNeg w) := by
  unfold mX6_blows
  rw [tq_self, mX6_blows_6]
  unfold lt
  split
  · dsimp only
    rw [mX6_blows_6]
    split <;> rfl
  · dsimp only
    rw [mX6_blows_6]
    split <;> rfl
theorem cnt_complains {x : Nat → Nat → Int32} {house mill kind hour : Int32} (h : cntP x 148) (hh : 0 ≤ house.toInt ∧ house.toInt < 10) (hm : 0 ≤ mill.toInt ∧ mill.toInt < 4) (hk : 0 ≤ kind.toInt ∧ kind.toInt < 2) : cntP (mX6_complains x 148 house mill kind hour).2 148 := by
  have i0 : ((((((148 : Int32) + 68) + (8 * house)) + (2 * mill)) + kind)).toInt = 216 + 8 * house.toInt + 2 * mill.toInt + kind.toInt := (ti_add (ti_add (ti_add (show ((148 : Int32) + 68).toInt = 216 from rfl) (ti_mul (show (8 : Int32).toInt = 8 from rfl) (b := house) rfl (by omega)) (by omega)) (ti_mul (show (2 : Int32).toInt = 2 from rfl) (b := mill) rfl (by omega)) (by omega)) rfl (by omega))
  have i1 := ix_mill (k := 2) hm (show (2 : Int32).toInt = 2 from rfl) (by omega)
  have i2 := ix_house (k := 1) hh (show (1 : Int32).toInt = 1 from rfl) (by omega)
  have i3 : ((148 : Int32) + 62).toInt = 210 := rfl
  have i4 : ((148 : Int32) + 63).toInt = 211 := rfl
  unfold mX6_complains lt
  dsimp only
  split
  · split
    · split
      · exact cnt_set (cnt_set h i0 (by omega)) i3 (by omega)
      · exact cnt_set (cnt_set (cnt_set h i0 (by omega)) i3 (by omega)) i1 (by omega)
    · exact h
  · split
    · split
      · exact cnt_set (cnt_set (cnt_set (cnt_set h i2 (by omega)) i4 (by omega)) i0 (by omega)) i3 (by omega)
      · exact cnt_set (cnt_set (cnt_set (cnt_set (cnt_set h i2 (by omega)) i4 (by omega)) i0 (by omega)) i3 (by omega)) i1 (by omega)
    · exact cnt_set (cnt_set h i2 (by omega)) i4 (by omega)
theorem k3_complains (x : Nat → Nat → Int32) (pp house mill kind hour : Int32) : (mX6_complains x pp house mill kind hour).2 3 = x 3 := by
  unfold mX6_complains lt
  dsimp only
  repeat' split
  all_goals rfl
theorem k3_millComes (x : Nat → Nat → Int32) (pp a b : Int32) : (mX6_millComes x pp a b).2 3 = x 3 := by
  unfold mX6_millComes lt
  dsimp only
  repeat' split
  all_goals rfl
theorem k3_houseComes (x : Nat → Nat → Int32) (pp b : Int32) : (mX6_houseComes x pp b).2 3 = x 3 := by
  unfold mX6_houseComes lt
  dsimp only
  repeat' split
  all_goals rfl
