/-! PURE 11: one cell changes in both. -/
theorem upd_same (f : Nat → Int32) (i : Nat) (y : Int32) : upd f i y i = y := by unfold upd; rw [if_pos rfl]
theorem upd_ne (f : Nat → Int32) {i j : Nat} (y : Int32) (h : j ≠ i) : upd f i y j = f j := by unfold upd; rw [if_neg h]
theorem Rv_wi {v : Nat → Nat → Int32} {r : Nat → Int32} (R : Rv v r) {c : Nat} (hc : c < 24) (y : Int32) : Rv (setA v 0 (upd (v 0) c y)) (upd r (34 + c) y) := Rv.mk
  (wi := fun k hk => by
    rw [setA_same]
    by_cases e : k = c
    · subst e; rw [upd_same, upd_same]
    · rw [upd_ne _ _ e, upd_ne _ _ (by omega)]; exact R.wi k hk)
  (se := fun k hk => by rw [setA_ne _ _ (by decide), upd_ne _ _ (by omega)]; exact R.se k hk)
  (ta := fun k hk => by rw [setA_ne _ _ (by decide), upd_ne _ _ (by omega)]; exact R.ta k hk)
  (he := fun k hk => by rw [setA_ne _ _ (by decide), upd_ne _ _ (by omega)]; exact R.he k hk)
  (my := fun k hk => by rw [setA_ne _ _ (by decide), upd_ne _ _ (by omega)]; exact R.my k hk)
  (ti := fun k hk => by rw [setA_ne _ _ (by decide), upd_ne _ _ (by omega)]; exact R.ti k hk)
  (hy := fun k hk => by rw [setA_ne _ _ (by decide), upd_ne _ _ (by omega)]; exact R.hy k hk)
  (va := fun k hk => by rw [setA_ne _ _ (by decide), upd_ne _ _ (by omega)]; exact R.va k hk)
  (st := fun k hk => by rw [setA_ne _ _ (by decide), upd_ne _ _ (by omega)]; exact R.st k hk)
  (nm := by rw [setA_ne _ _ (by decide), upd_ne _ _ (by omega)]; exact R.nm)
  (nh := by rw [setA_ne _ _ (by decide), upd_ne _ _ (by omega)]; exact R.nh)
theorem Rv_se {v : Nat → Nat → Int32} {r : Nat → Int32} (R : Rv v r) {c : Nat} (hc : c < 4) (y : Int32) : Rv (setA v 1 (upd (v 1) c y)) (upd r (58 + c) y) := Rv.mk
  (wi := fun k hk => by rw [setA_ne _ _ (by decide), upd_ne _ _ (by omega)]; exact R.wi k hk)
  (se := fun k hk => by
    rw [setA_same]
    by_cases e : k = c
    · subst e; rw [upd_same, upd_same]
    · rw [upd_ne _ _ e, upd_ne _ _ (by omega)]; exact R.se k hk)
  (ta := fun k hk => by rw [setA_ne _ _ (by decide), upd_ne _ _ (by omega)]; exact R.ta k hk)
  (he := fun k hk => by rw [setA_ne _ _ (by decide), upd_ne _ _ (by omega)]; exact R.he k hk)
  (my := fun k hk => by rw [setA_ne _ _ (by decide), upd_ne _ _ (by omega)]; exact R.my k hk)
  (ti := fun k hk => by rw [setA_ne _ _ (by decide), upd_ne _ _ (by omega)]; exact R.ti k hk)
  (hy := fun k hk => by rw [setA_ne _ _ (by decide), upd_ne _ _ (by omega)]; exact R.hy k hk)
  (va := fun k hk => by rw [setA_ne _ _ (by decide), upd_ne _ _ (by omega)]; exact R.va k hk)
  (st := fun k hk => by rw [setA_ne _ _ (by decide), upd_ne _ _ (by omega)]; exact R.st k hk)
  (nm := by rw [setA_ne _ _ (by decide), upd_ne _ _ (by omega)]; exact R.nm)
  (nh := by rw [setA_ne _ _ (by decide), upd_ne _ _ (by omega)]; exact R.nh)
theorem Rv_ta {v : Nat → Nat → Int32} {r : Nat → Int32} (R : Rv v r) {c : Nat} (hc : c < 6) (y : Int32) : Rv (setA v 2 (upd (v 2) c y)) (upd r (62 + c) y) := Rv.mk
  (wi := fun k hk => by rw [setA_ne _ _ (by decide), upd_ne _ _ (by omega)]; exact R.wi k hk)
  (se := fun k hk => by rw [setA_ne _ _ (by decide), upd_ne _ _ (by omega)]; exact R.se k hk)
  (ta := fun k hk => by
    rw [setA_same]
    by_cases e : k = c
    · subst e; rw [upd_same, upd_same]
    · rw [upd_ne _ _ e, upd_ne _ _ (by omega)]; exact R.ta k hk)
  (he := fun k hk => by rw [setA_ne _ _ (by decide), upd_ne _ _ (by omega)]; exact R.he k hk)
  (my := fun k hk => by rw [setA_ne _ _ (by decide), upd_ne _ _ (by omega)]; exact R.my k hk)
  (ti := fun k hk => by rw [setA_ne _ _ (by decide), upd_ne _ _ (by omega)]; exact R.ti k hk)
  (hy := fun k hk => by rw [setA_ne _ _ (by decide), upd_ne _ _ (by omega)]; exact R.hy k hk)
  (va := fun k hk => by rw [setA_ne _ _ (by decide), upd_ne _ _ (by omega)]; exact R.va k hk)
  (st := fun k hk => by rw [setA_ne _ _ (by decide), upd_ne _ _ (by omega)]; exact R.st k hk)
  (nm := by rw [setA_ne _ _ (by decide), upd_ne _ _ (by omega)]; exact R.nm)
  (nh := by rw [setA_ne _ _ (by decide), upd_ne _ _ (by omega)]; exact R.nh)
theorem Rv_he {v : Nat → Nat → Int32} {r : Nat → Int32} (R : Rv v r) {c : Nat} (hc : c < 4) (y : Int32) : Rv (setA v 3 (upd (v 3) c y)) (upd r (1 + 3 * c) y) := Rv.mk
  (wi := fun k hk => by rw [setA_ne _ _ (by decide), upd_ne _ _ (by omega)]; exact R.wi k hk)
  (se := fun k hk => by rw [setA_ne _ _ (by decide), upd_ne _ _ (by omega)]; exact R.se k hk)
  (ta := fun k hk => by rw [setA_ne _ _ (by decide), upd_ne _ _ (by omega)]; exact R.ta k hk)
  (he := fun k hk => by
    rw [setA_same]
    by_cases e : k = c
    · subst e; rw [upd_same, upd_same]
    · rw [upd_ne _ _ e, upd_ne _ _ (by omega)]; exact R.he k hk)
  (my := fun k hk => by rw [setA_ne _ _ (by decide), upd_ne _ _ (by omega)]; exact R.my k hk)
  (ti := fun k hk => by rw [setA_ne _ _ (by decide), upd_ne _ _ (by omega)]; exact R.ti k hk)
  (hy := fun k hk => by rw [setA_ne _ _ (by decide), upd_ne _ _ (by omega)]; exact R.hy k hk)
  (va := fun k hk => by rw [setA_ne _ _ (by decide), upd_ne _ _ (by omega)]; exact R.va k hk)
  (st := fun k hk => by rw [setA_ne _ _ (by decide), upd_ne _ _ (by omega)]; exact R.st k hk)
  (nm := by rw [setA_ne _ _ (by decide), upd_ne _ _ (by omega)]; exact R.nm)
  (nh := by rw [setA_ne _ _ (by decide), upd_ne _ _ (by omega)]; exact R.nh)
theorem Rv_my {v : Nat → Nat → Int32} {r : Nat → Int32} (R : Rv v r) {c : Nat} (hc : c < 4) (y : Int32) : Rv (setA v 4 (upd (v 4) c y)) (upd r (2 + 3 * c) y) := Rv.mk
  (wi := fun k hk => by rw [setA_ne _ _ (by decide), upd_ne _ _ (by omega)]; exact R.wi k hk)
  (se := fun k hk => by rw [setA_ne _ _ (by decide), upd_ne _ _ (by omega)]; exact R.se k hk)
  (ta := fun k hk => by rw [setA_ne _ _ (by decide), upd_ne _ _ (by omega)]; exact R.ta k hk)
  (he := fun k hk => by rw [setA_ne _ _ (by decide), upd_ne _ _ (by omega)]; exact R.he k hk)
  (my := fun k hk => by
    rw [setA_same]
    by_cases e : k = c
    · subst e; rw [upd_same, upd_same]
    · rw [upd_ne _ _ e, upd_ne _ _ (by omega)]; exact R.my k hk)
  (ti := fun k hk => by rw [setA_ne _ _ (by decide), upd_ne _ _ (by omega)]; exact R.ti k hk)
  (hy := fun k hk => by rw [setA_ne _ _ (by decide), upd_ne _ _ (by omega)]; exact R.hy k hk)
  (va := fun k hk => by rw [setA_ne _ _ (by decide), upd_ne _ _ (by omega)]; exact R.va k hk)
  (st := fun k hk => by rw [setA_ne _ _ (by decide), upd_ne _ _ (by omega)]; exact R.st k hk)
  (nm := by rw [setA_ne _ _ (by decide), upd_ne _ _ (by omega)]; exact R.nm)
  (nh := by rw [setA_ne _ _ (by decide), upd_ne _ _ (by omega)]; exact R.nh)
theorem Rv_ti {v : Nat → Nat → Int32} {r : Nat → Int32} (R : Rv v r) {c : Nat} (hc : c < 4) (y : Int32) : Rv (setA v 5 (upd (v 5) c y)) (upd r (3 + 3 * c) y) := Rv.mk
  (wi := fun k hk => by rw [setA_ne _ _ (by decide), upd_ne _ _ (by omega)]; exact R.wi k hk)
  (se := fun k hk => by rw [setA_ne _ _ (by decide), upd_ne _ _ (by omega)]; exact R.se k hk)
  (ta := fun k hk => by rw [setA_ne _ _ (by decide), upd_ne _ _ (by omega)]; exact R.ta k hk)
  (he := fun k hk => by rw [setA_ne _ _ (by decide), upd_ne _ _ (by omega)]; exact R.he k hk)
  (my := fun k hk => by rw [setA_ne _ _ (by decide), upd_ne _ _ (by omega)]; exact R.my k hk)
  (ti := fun k hk => by
    rw [setA_same]
    by_cases e : k = c
    · subst e; rw [upd_same, upd_same]
    · rw [upd_ne _ _ e, upd_ne _ _ (by omega)]; exact R.ti k hk)
  (hy := fun k hk => by rw [setA_ne _ _ (by decide), upd_ne _ _ (by omega)]; exact R.hy k hk)
  (va := fun k hk => by rw [setA_ne _ _ (by decide), upd_ne _ _ (by omega)]; exact R.va k hk)
  (st := fun k hk => by rw [setA_ne _ _ (by decide), upd_ne _ _ (by omega)]; exact R.st k hk)
  (nm := by rw [setA_ne _ _ (by decide), upd_ne _ _ (by omega)]; exact R.nm)
  (nh := by rw [setA_ne _ _ (by decide), upd_ne _ _ (by omega)]; exact R.nh)
theorem Rv_hy {v : Nat → Nat → Int32} {r : Nat → Int32} (R : Rv v r) {c : Nat} (hc : c < 10) (y : Int32) : Rv (setA v 6 (upd (v 6) c y)) (upd r (14 + 2 * c) y) := Rv.mk
  (wi := fun k hk => by rw [setA_ne _ _ (by decide), upd_ne _ _ (by omega)]; exact R.wi k hk)
  (se := fun k hk => by rw [setA_ne _ _ (by decide), upd_ne _ _ (by omega)]; exact R.se k hk)
  (ta := fun k hk => by rw [setA_ne _ _ (by decide), upd_ne _ _ (by omega)]; exact R.ta k hk)
  (he := fun k hk => by rw [setA_ne _ _ (by decide), upd_ne _ _ (by omega)]; exact R.he k hk)
  (my := fun k hk => by rw [setA_ne _ _ (by decide), upd_ne _ _ (by omega)]; exact R.my k hk)
  (ti := fun k hk => by rw [setA_ne _ _ (by decide), upd_ne _ _ (by omega)]; exact R.ti k hk)
  (hy := fun k hk => by
    rw [setA_same]
    by_cases e : k = c
    · subst e; rw [upd_same, upd_same]
    · rw [upd_ne _ _ e, upd_ne _ _ (by omega)]; exact R.hy k hk)
  (va := fun k hk => by rw [setA_ne _ _ (by decide), upd_ne _ _ (by omega)]; exact R.va k hk)
  (st := fun k hk => by rw [setA_ne _ _ (by decide), upd_ne _ _ (by omega)]; exact R.st k hk)
  (nm := by rw [setA_ne _ _ (by decide), upd_ne _ _ (by omega)]; exact R.nm)
  (nh := by rw [setA_ne _ _ (by decide), upd_ne _ _ (by omega)]; exact R.nh)
theorem Rv_va {v : Nat → Nat → Int32} {r : Nat → Int32} (R : Rv v r) {c : Nat} (hc : c < 10) (y : Int32) : Rv (setA v 7 (upd (v 7) c y)) (upd r (15 + 2 * c) y) := Rv.mk
  (wi := fun k hk => by rw [setA_ne _ _ (by decide), upd_ne _ _ (by omega)]; exact R.wi k hk)
  (se := fun k hk => by rw [setA_ne _ _ (by decide), upd_ne _ _ (by omega)]; exact R.se k hk)
  (ta := fun k hk => by rw [setA_ne _ _ (by decide), upd_ne _ _ (by omega)]; exact R.ta k hk)
  (he := fun k hk => by rw [setA_ne _ _ (by decide), upd_ne _ _ (by omega)]; exact R.he k hk)
  (my := fun k hk => by rw [setA_ne _ _ (by decide), upd_ne _ _ (by omega)]; exact R.my k hk)
  (ti := fun k hk => by rw [setA_ne _ _ (by decide), upd_ne _ _ (by omega)]; exact R.ti k hk)
  (hy := fun k hk => by rw [setA_ne _ _ (by decide), upd_ne _ _ (by omega)]; exact R.hy k hk)
  (va := fun k hk => by
    rw [setA_same]
    by_cases e : k = c
    · subst e; rw [upd_same, upd_same]
    · rw [upd_ne _ _ e, upd_ne _ _ (by omega)]; exact R.va k hk)
  (st := fun k hk => by rw [setA_ne _ _ (by decide), upd_ne _ _ (by omega)]; exact R.st k hk)
  (nm := by rw [setA_ne _ _ (by decide), upd_ne _ _ (by omega)]; exact R.nm)
  (nh := by rw [setA_ne _ _ (by decide), upd_ne _ _ (by omega)]; exact R.nh)
theorem Rv_st {v : Nat → Nat → Int32} {r : Nat → Int32} (R : Rv v r) {c : Nat} (hc : c < 80) (y : Int32) : Rv (setA v 8 (upd (v 8) c y)) (upd r (68 + c) y) := Rv.mk
  (wi := fun k hk => by rw [setA_ne _ _ (by decide), upd_ne _ _ (by omega)]; exact R.wi k hk)
  (se := fun k hk => by rw [setA_ne _ _ (by decide), upd_ne _ _ (by omega)]; exact R.se k hk)
  (ta := fun k hk => by rw [setA_ne _ _ (by decide), upd_ne _ _ (by omega)]; exact R.ta k hk)
  (he := fun k hk => by rw [setA_ne _ _ (by decide), upd_ne _ _ (by omega)]; exact R.he k hk)
  (my := fun k hk => by rw [setA_ne _ _ (by decide), upd_ne _ _ (by omega)]; exact R.my k hk)
  (ti := fun k hk => by rw [setA_ne _ _ (by decide), upd_ne _ _ (by omega)]; exact R.ti k hk)
  (hy := fun k hk => by rw [setA_ne _ _ (by decide), upd_ne _ _ (by omega)]; exact R.hy k hk)
  (va := fun k hk => by rw [setA_ne _ _ (by decide), upd_ne _ _ (by omega)]; exact R.va k hk)
  (st := fun k hk => by
    rw [setA_same]
    by_cases e : k = c
    · subst e; rw [upd_same, upd_same]
    · rw [upd_ne _ _ e, upd_ne _ _ (by omega)]; exact R.st k hk)
  (nm := by rw [setA_ne _ _ (by decide), upd_ne _ _ (by omega)]; exact R.nm)
  (nh := by rw [setA_ne _ _ (by decide), upd_ne _ _ (by omega)]; exact R.nh)
theorem Rv_nm {v : Nat → Nat → Int32} {r : Nat → Int32} (R : Rv v r) (y : Int32) : Rv (setA v 9 (upd (v 9) 0 y)) (upd r 0 y) := Rv.mk
  (wi := fun k hk => by rw [setA_ne _ _ (by decide), upd_ne _ _ (by omega)]; exact R.wi k hk)
  (se := fun k hk => by rw [setA_ne _ _ (by decide), upd_ne _ _ (by omega)]; exact R.se k hk)
  (ta := fun k hk => by rw [setA_ne _ _ (by decide), upd_ne _ _ (by omega)]; exact R.ta k hk)
  (he := fun k hk => by rw [setA_ne _ _ (by decide), upd_ne _ _ (by omega)]; exact R.he k hk)
  (my := fun k hk => by rw [setA_ne _ _ (by decide), upd_ne _ _ (by omega)]; exact R.my k hk)
  (ti := fun k hk => by rw [setA_ne _ _ (by decide), upd_ne _ _ (by omega)]; exact R.ti k hk)
  (hy := fun k hk => by rw [setA_ne _ _ (by decide), upd_ne _ _ (by omega)]; exact R.hy k hk)
  (va := fun k hk => by rw [setA_ne _ _ (by decide), upd_ne _ _ (by omega)]; exact R.va k hk)
  (st := fun k hk => by rw [setA_ne _ _ (by decide), upd_ne _ _ (by omega)]; exact R.st k hk)
  (nm := by rw [setA_same, upd_same, upd_same])
  (nh := by rw [setA_ne _ _ (by decide), upd_ne _ _ (by omega)]; exact R.nh)
theorem Rv_nh {v : Nat → Nat → Int32} {r : Nat → Int32} (R : Rv v r) (y : Int32) : Rv (setA v 10 (upd (v 10) 0 y)) (upd r 13 y) := Rv.mk
  (wi := fun k hk => by rw [setA_ne _ _ (by decide), upd_ne _ _ (by omega)]; exact R.wi k hk)
  (se := fun k hk => by rw [setA_ne _ _ (by decide), upd_ne _ _ (by omega)]; exact R.se k hk)
  (ta := fun k hk => by rw [setA_ne _ _ (by decide), upd_ne _ _ (by omega)]; exact R.ta k hk)
  (he := fun k hk => by rw [setA_ne _ _ (by decide), upd_ne _ _ (by omega)]; exact R.he k hk)
  (my := fun k hk => by rw [setA_ne _ _ (by decide), upd_ne _ _ (by omega)]; exact R.my k hk)
  (ti := fun k hk => by rw [setA_ne _ _ (by decide), upd_ne _ _ (by omega)]; exact R.ti k hk)
  (hy := fun k hk => by rw [setA_ne _ _ (by decide), upd_ne _ _ (by omega)]; exact R.hy k hk)
  (va := fun k hk => by rw [setA_ne _ _ (by decide), upd_ne _ _ (by omega)]; exact R.va k hk)
  (st := fun k hk => by rw [setA_ne _ _ (by decide), upd_ne _ _ (by omega)]; exact R.st k hk)
  (nm := by rw [setA_ne _ _ (by decide), upd_ne _ _ (by omega)]; exact R.nm)
  (nh := by rw [setA_same, upd_same, upd_same])
theorem ok_wi {r : Nat → Int32} (o : okR r) {c : Nat} (hc : c < 24) {y : Int32} (hy : ∃ n, n ≤ 9 ∧ y = nI n) : okR (upd r (34 + c) y) := okR.mk
  (M := by rw [upd_ne _ _ (by omega)]; exact o.M)
  (H := by rw [upd_ne _ _ (by omega)]; exact o.H)
  (wi := fun k hk => by
    by_cases e : k = c
    · subst e; rw [upd_same]; exact hy
    · rw [upd_ne _ _ (by omega)]; exact o.wi k hk)
  (se := fun k hk => by rw [upd_ne _ _ (by omega)]; exact o.se k hk)
  (he := fun k hk => by rw [upd_ne _ _ (by omega)]; exact o.he k hk)
  (my := fun k hk => by rw [upd_ne _ _ (by omega)]; exact o.my k hk)
  (ti := fun k hk => by rw [upd_ne _ _ (by omega)]; exact o.ti k hk)
  (hy := fun k hk => by rw [upd_ne _ _ (by omega)]; exact o.hy k hk)
  (st := fun k hk => by rw [upd_ne _ _ (by omega)]; exact o.st k hk)
  (szH := fun n a m k h0 h1 h2 h3 h4 => by rw [upd_ne _ _ (by omega)] at h0 ⊢; exact o.szH n a m k h0 h1 h2 h3 h4)
  (szM := fun n a m k h0 h1 h2 h3 h4 => by rw [upd_ne _ _ (by omega)] at h0 ⊢; exact o.szM n a m k h0 h1 h2 h3 h4)
theorem ok_se {r : Nat → Int32} (o : okR r) {c : Nat} (hc : c < 4) {y : Int32} (hy : ∃ n, n ≤ 99 ∧ y = nI n) : okR (upd r (58 + c) y) := okR.mk
  (M := by rw [upd_ne _ _ (by omega)]; exact o.M)
  (H := by rw [upd_ne _ _ (by omega)]; exact o.H)
  (wi := fun k hk => by rw [upd_ne _ _ (by omega)]; exact o.wi k hk)
  (se := fun k hk => by
    by_cases e : k = c
    · subst e; rw [upd_same]; exact hy
    · rw [upd_ne _ _ (by omega)]; exact o.se k hk)
  (he := fun k hk => by rw [upd_ne _ _ (by omega)]; exact o.he k hk)
  (my := fun k hk => by rw [upd_ne _ _ (by omega)]; exact o.my k hk)
  (ti := fun k hk => by rw [upd_ne _ _ (by omega)]; exact o.ti k hk)
  (hy := fun k hk => by rw [upd_ne _ _ (by omega)]; exact o.hy k hk)
  (st := fun k hk => by rw [upd_ne _ _ (by omega)]; exact o.st k hk)
  (szH := fun n a m k h0 h1 h2 h3 h4 => by rw [upd_ne _ _ (by omega)] at h0 ⊢; exact o.szH n a m k h0 h1 h2 h3 h4)
  (szM := fun n a m k h0 h1 h2 h3 h4 => by rw [upd_ne _ _ (by omega)] at h0 ⊢; exact o.szM n a m k h0 h1 h2 h3 h4)
theorem ok_he {r : Nat → Int32} (o : okR r) {c : Nat} (hc : c < 4) {y : Int32} (hy : ∃ n, n ≤ 5 ∧ y = nI n) : okR (upd r (1 + 3 * c) y) := okR.mk
  (M := by rw [upd_ne _ _ (by omega)]; exact o.M)
  (H := by rw [upd_ne _ _ (by omega)]; exact o.H)
  (wi := fun k hk => by rw [upd_ne _ _ (by omega)]; exact o.wi k hk)
  (se := fun k hk => by rw [upd_ne _ _ (by omega)]; exact o.se k hk)
  (he := fun k hk => by
    by_cases e : k = c
    · subst e; rw [upd_same]; exact hy
    · rw [upd_ne _ _ (by omega)]; exact o.he k hk)
  (my := fun k hk => by rw [upd_ne _ _ (by omega)]; exact o.my k hk)
  (ti := fun k hk => by rw [upd_ne _ _ (by omega)]; exact o.ti k hk)
  (hy := fun k hk => by rw [upd_ne _ _ (by omega)]; exact o.hy k hk)
  (st := fun k hk => by rw [upd_ne _ _ (by omega)]; exact o.st k hk)
  (szH := fun n a m k h0 h1 h2 h3 h4 => by rw [upd_ne _ _ (by omega)] at h0 ⊢; exact o.szH n a m k h0 h1 h2 h3 h4)
  (szM := fun n a m k h0 h1 h2 h3 h4 => by rw [upd_ne _ _ (by omega)] at h0 ⊢; exact o.szM n a m k h0 h1 h2 h3 h4)
theorem ok_my {r : Nat → Int32} (o : okR r) {c : Nat} (hc : c < 4) {y : Int32} (hy : ∃ n, n < 96 ∧ y = nI n) : okR (upd r (2 + 3 * c) y) := okR.mk
  (M := by rw [upd_ne _ _ (by omega)]; exact o.M)
  (H := by rw [upd_ne _ _ (by omega)]; exact o.H)
  (wi := fun k hk => by rw [upd_ne _ _ (by omega)]; exact o.wi k hk)
  (se := fun k hk => by rw [upd_ne _ _ (by omega)]; exact o.se k hk)
  (he := fun k hk => by rw [upd_ne _ _ (by omega)]; exact o.he k hk)
  (my := fun k hk => by
    by_cases e : k = c
    · subst e; rw [upd_same]; exact hy
    · rw [upd_ne _ _ (by omega)]; exact o.my k hk)
  (ti := fun k hk => by rw [upd_ne _ _ (by omega)]; exact o.ti k hk)
  (hy := fun k hk => by rw [upd_ne _ _ (by omega)]; exact o.hy k hk)
  (st := fun k hk => by rw [upd_ne _ _ (by omega)]; exact o.st k hk)
  (szH := fun n a m k h0 h1 h2 h3 h4 => by rw [upd_ne _ _ (by omega)] at h0 ⊢; exact o.szH n a m k h0 h1 h2 h3 h4)
  (szM := fun n a m k h0 h1 h2 h3 h4 => by rw [upd_ne _ _ (by omega)] at h0 ⊢; exact o.szM n a m k h0 h1 h2 h3 h4)
theorem ok_ti {r : Nat → Int32} (o : okR r) {c : Nat} (hc : c < 4) {y : Int32} (hy : hs y) : okR (upd r (3 + 3 * c) y) := okR.mk
  (M := by rw [upd_ne _ _ (by omega)]; exact o.M)
  (H := by rw [upd_ne _ _ (by omega)]; exact o.H)
  (wi := fun k hk => by rw [upd_ne _ _ (by omega)]; exact o.wi k hk)
  (se := fun k hk => by rw [upd_ne _ _ (by omega)]; exact o.se k hk)
  (he := fun k hk => by rw [upd_ne _ _ (by omega)]; exact o.he k hk)
  (my := fun k hk => by rw [upd_ne _ _ (by omega)]; exact o.my k hk)
  (ti := fun k hk => by
    by_cases e : k = c
    · subst e; rw [upd_same]; exact hy
    · rw [upd_ne _ _ (by omega)]; exact o.ti k hk)
  (hy := fun k hk => by rw [upd_ne _ _ (by omega)]; exact o.hy k hk)
  (st := fun k hk => by rw [upd_ne _ _ (by omega)]; exact o.st k hk)
  (szH := fun n a m k h0 h1 h2 h3 h4 => by rw [upd_ne _ _ (by omega)] at h0 ⊢; exact o.szH n a m k h0 h1 h2 h3 h4)
  (szM := fun n a m k h0 h1 h2 h3 h4 => by rw [upd_ne _ _ (by omega)] at h0 ⊢; exact o.szM n a m k h0 h1 h2 h3 h4)
theorem ok_hy {r : Nat → Int32} (o : okR r) {c : Nat} (hc : c < 10) {y : Int32} (hy : ∃ n, n < 96 ∧ y = nI n) : okR (upd r (14 + 2 * c) y) := okR.mk
  (M := by rw [upd_ne _ _ (by omega)]; exact o.M)
  (H := by rw [upd_ne _ _ (by omega)]; exact o.H)
  (wi := fun k hk => by rw [upd_ne _ _ (by omega)]; exact o.wi k hk)
  (se := fun k hk => by rw [upd_ne _ _ (by omega)]; exact o.se k hk)
  (he := fun k hk => by rw [upd_ne _ _ (by omega)]; exact o.he k hk)
  (my := fun k hk => by rw [upd_ne _ _ (by omega)]; exact o.my k hk)
  (ti := fun k hk => by rw [upd_ne _ _ (by omega)]; exact o.ti k hk)
  (hy := fun k hk => by
    by_cases e : k = c
    · subst e; rw [upd_same]; exact hy
    · rw [upd_ne _ _ (by omega)]; exact o.hy k hk)
  (st := fun k hk => by rw [upd_ne _ _ (by omega)]; exact o.st k hk)
  (szH := fun n a m k h0 h1 h2 h3 h4 => by rw [upd_ne _ _ (by omega)] at h0 ⊢; exact o.szH n a m k h0 h1 h2 h3 h4)
  (szM := fun n a m k h0 h1 h2 h3 h4 => by rw [upd_ne _ _ (by omega)] at h0 ⊢; exact o.szM n a m k h0 h1 h2 h3 h4)
theorem ok_ta {r : Nat → Int32} (o : okR r) {c : Nat} (hc : c < 6) {y : Int32} : okR (upd r (62 + c) y) := okR.mk
  (M := by rw [upd_ne _ _ (by omega)]; exact o.M)
  (H := by rw [upd_ne _ _ (by omega)]; exact o.H)
  (wi := fun k hk => by rw [upd_ne _ _ (by omega)]; exact o.wi k hk)
  (se := fun k hk => by rw [upd_ne _ _ (by omega)]; exact o.se k hk)
  (he := fun k hk => by rw [upd_ne _ _ (by omega)]; exact o.he k hk)
  (my := fun k hk => by rw [upd_ne _ _ (by omega)]; exact o.my k hk)
  (ti := fun k hk => by rw [upd_ne _ _ (by omega)]; exact o.ti k hk)
  (hy := fun k hk => by rw [upd_ne _ _ (by omega)]; exact o.hy k hk)
  (st := fun k hk => by rw [upd_ne _ _ (by omega)]; exact o.st k hk)
  (szH := fun n a m k h0 h1 h2 h3 h4 => by rw [upd_ne _ _ (by omega)] at h0 ⊢; exact o.szH n a m k h0 h1 h2 h3 h4)
  (szM := fun n a m k h0 h1 h2 h3 h4 => by rw [upd_ne _ _ (by omega)] at h0 ⊢; exact o.szM n a m k h0 h1 h2 h3 h4)
theorem ok_va {r : Nat → Int32} (o : okR r) {c : Nat} (hc : c < 10) {y : Int32} : okR (upd r (15 + 2 * c) y) := okR.mk
  (M := by rw [upd_ne _ _ (by omega)]; exact o.M)
  (H := by rw [upd_ne _ _ (by omega)]; exact o.H)
  (wi := fun k hk => by rw [upd_ne _ _ (by omega)]; exact o.wi k hk)
  (se := fun k hk => by rw [upd_ne _ _ (by omega)]; exact o.se k hk)
  (he := fun k hk => by rw [upd_ne _ _ (by omega)]; exact o.he k hk)
  (my := fun k hk => by rw [upd_ne _ _ (by omega)]; exact o.my k hk)
  (ti := fun k hk => by rw [upd_ne _ _ (by omega)]; exact o.ti k hk)
  (hy := fun k hk => by rw [upd_ne _ _ (by omega)]; exact o.hy k hk)
  (st := fun k hk => by rw [upd_ne _ _ (by omega)]; exact o.st k hk)
  (szH := fun n a m k h0 h1 h2 h3 h4 => by rw [upd_ne _ _ (by omega)] at h0 ⊢; exact o.szH n a m k h0 h1 h2 h3 h4)
  (szM := fun n a m k h0 h1 h2 h3 h4 => by rw [upd_ne _ _ (by omega)] at h0 ⊢; exact o.szM n a m k h0 h1 h2 h3 h4)
theorem ok_st {r : Nat → Int32} (o : okR r) {c d e : Nat} (hc : c < 10) (hd : d < 4) (he : e < 2) {y : Int32} (hy : hs y) (zH : ∀ n, r 13 = nI n → n ≤ c → y = 0) (zM : ∀ n, r 0 = nI n → n ≤ d → y = 0) : okR (upd r (68 + (8 * c + 2 * d + e)) y) := okR.mk
  (M := by rw [upd_ne _ _ (by omega)]; exact o.M)
  (H := by rw [upd_ne _ _ (by omega)]; exact o.H)
  (wi := fun k hk => by rw [upd_ne _ _ (by omega)]; exact o.wi k hk)
  (se := fun k hk => by rw [upd_ne _ _ (by omega)]; exact o.se k hk)
  (he := fun k hk => by rw [upd_ne _ _ (by omega)]; exact o.he k hk)
  (my := fun k hk => by rw [upd_ne _ _ (by omega)]; exact o.my k hk)
  (ti := fun k hk => by rw [upd_ne _ _ (by omega)]; exact o.ti k hk)
  (hy := fun k hk => by rw [upd_ne _ _ (by omega)]; exact o.hy k hk)
  (st := fun k hk => by
    by_cases q : k = 8 * c + 2 * d + e
    · subst q; rw [upd_same]; exact hy
    · rw [upd_ne _ _ (by omega)]; exact o.st k hk)
  (szH := fun n a m k h0 h1 h2 h3 h4 => by
    rw [upd_ne _ _ (by omega)] at h0
    by_cases q : 8 * a + 2 * m + k = 8 * c + 2 * d + e
    · rw [q, upd_same]; exact zH n h0 (by omega)
    · rw [upd_ne _ _ (by omega)]; exact o.szH n a m k h0 h1 h2 h3 h4)
  (szM := fun n a m k h0 h1 h2 h3 h4 => by
    rw [upd_ne _ _ (by omega)] at h0
    by_cases q : 8 * a + 2 * m + k = 8 * c + 2 * d + e
    · rw [q, upd_same]; exact zM n h0 (by omega)
    · rw [upd_ne _ _ (by omega)]; exact o.szM n a m k h0 h1 h2 h3 h4)
theorem ok_M {r : Nat → Int32} (o : okR r) {n : Nat} (e : r 0 = nI n) (hn : n + 1 ≤ 4) : okR (upd r 0 (nI (n + 1))) := okR.mk
  (M := by rw [upd_same]; exact ⟨n + 1, hn, rfl⟩)
  (H := by rw [upd_ne _ _ (by omega)]; exact o.H)
  (wi := fun k hk => by rw [upd_ne _ _ (by omega)]; exact o.wi k hk)
  (se := fun k hk => by rw [upd_ne _ _ (by omega)]; exact o.se k hk)
  (he := fun k hk => by rw [upd_ne _ _ (by omega)]; exact o.he k hk)
  (my := fun k hk => by rw [upd_ne _ _ (by omega)]; exact o.my k hk)
  (ti := fun k hk => by rw [upd_ne _ _ (by omega)]; exact o.ti k hk)
  (hy := fun k hk => by rw [upd_ne _ _ (by omega)]; exact o.hy k hk)
  (st := fun k hk => by rw [upd_ne _ _ (by omega)]; exact o.st k hk)
  (szH := fun n' a m k h0 h1 h2 h3 h4 => by rw [upd_ne _ _ (by omega)] at h0 ⊢; exact o.szH n' a m k h0 h1 h2 h3 h4)
  (szM := fun n' a m k h0 h1 h2 h3 h4 => by
    rw [upd_same] at h0
    have ob := o.M
    have e2 : n + 1 = n' := by
      have t := congrArg Int32.toInt h0
      rw [nI_toInt (by omega), nI_toInt (by omega)] at t
      omega
    rw [upd_ne _ _ (by omega)]; exact o.szM n a m k e (by omega) h2 h3 h4)
theorem ok_H {r : Nat → Int32} (o : okR r) {n : Nat} (e : r 13 = nI n) (hn : n + 1 ≤ 10) : okR (upd r 13 (nI (n + 1))) := okR.mk
  (H := by rw [upd_same]; exact ⟨n + 1, hn, rfl⟩)
  (M := by rw [upd_ne _ _ (by omega)]; exact o.M)
  (wi := fun k hk => by rw [upd_ne _ _ (by omega)]; exact o.wi k hk)
  (se := fun k hk => by rw [upd_ne _ _ (by omega)]; exact o.se k hk)
  (he := fun k hk => by rw [upd_ne _ _ (by omega)]; exact o.he k hk)
  (my := fun k hk => by rw [upd_ne _ _ (by omega)]; exact o.my k hk)
  (ti := fun k hk => by rw [upd_ne _ _ (by omega)]; exact o.ti k hk)
  (hy := fun k hk => by rw [upd_ne _ _ (by omega)]; exact o.hy k hk)
  (st := fun k hk => by rw [upd_ne _ _ (by omega)]; exact o.st k hk)
  (szH := fun n' a m k h0 h1 h2 h3 h4 => by
    rw [upd_same] at h0
    have ob := o.H
    have e2 : n + 1 = n' := by
      have t := congrArg Int32.toInt h0
      rw [nI_toInt (by omega), nI_toInt (by omega)] at t
      omega
    rw [upd_ne _ _ (by omega)]; exact o.szH n a m k e (by omega) h2 h3 h4)
  (szM := fun n' a m k h0 h1 h2 h3 h4 => by rw [upd_ne _ _ (by omega)] at h0 ⊢; exact o.szM n' a m k h0 h1 h2 h3 h4)
theorem rowP_u (x : Nat → Nat → Int32) (P i : Nat) (y : Int32) : rowP (setA x 0 (upd (x 0) (P + i) y)) P = upd (rowP x P) i y := by
  funext j
  show setA x 0 (upd (x 0) (P + i) y) 0 (P + j) = _
  rw [setA_same]
  by_cases e : j = i
  · subst e; rw [upd_same, upd_same]
  · rw [upd_ne _ _ e, upd_ne _ _ (by omega)]
/-- nothing below P, and no other row -/
def low (P : Nat) (x q : Nat → Nat → Int32) : Prop := (∀ k, k < P → q 0 k = x 0 k) ∧ ∀ j, j ≠ 0 → q j = x j
theorem low_r (P : Nat) (x : Nat → Nat → Int32) : low P x x := ⟨fun _ _ => rfl, fun _ _ => rfl⟩
theorem low_t {P : Nat} {x q z : Nat → Nat → Int32} (a : low P x q) (b : low P q z) : low P x z := ⟨fun k hk => by rw [b.1 k hk, a.1 k hk], fun j hj => by rw [b.2 j hj, a.2 j hj]⟩
theorem low_u (P i : Nat) (x : Nat → Nat → Int32) (y : Int32) : low P x (setA x 0 (upd (x 0) (P + i) y)) := ⟨fun k hk => by rw [setA_same, upd_ne _ _ (by omega)], fun j hj => by rw [setA_ne _ _ hj]⟩
