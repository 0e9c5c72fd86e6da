/-! PURE 10: the two states beside each other; recording. -/
theorem setV_same (x : Nat → Nat → Nat → Int32) (b : Nat) (f : Nat → Nat → Int32) : setV x b f b = f := by
  show (bif Nat.beq b b then f else x b) = f
  rw [Nat.beq_refl]; rfl
theorem setV_ne (x : Nat → Nat → Nat → Int32) {b j : Nat} (f : Nat → Nat → Int32) (h : j ≠ b) : setV x b f j = x j := by
  show (bif Nat.beq j b then f else x j) = x j
  rw [show Nat.beq j b = false from (by cases e : Nat.beq j b with
    | false => rfl
    | true => exact absurd (Nat.eq_of_beq_eq_true e) h)]; rfl
theorem Rv_c {v : Nat → Nat → Int32} {r s : Nat → Int32} (h : ∀ k, k < 148 → r k = s k) (R : Rv v r) : Rv v s := Rv.mk
  (wi := fun k hk => by rw [R.wi k hk, h _ (by omega)])
  (se := fun k hk => by rw [R.se k hk, h _ (by omega)])
  (ta := fun k hk => by rw [R.ta k hk, h _ (by omega)])
  (he := fun k hk => by rw [R.he k hk, h _ (by omega)])
  (my := fun k hk => by rw [R.my k hk, h _ (by omega)])
  (ti := fun k hk => by rw [R.ti k hk, h _ (by omega)])
  (hy := fun k hk => by rw [R.hy k hk, h _ (by omega)])
  (va := fun k hk => by rw [R.va k hk, h _ (by omega)])
  (st := fun k hk => by rw [R.st k hk, h _ (by omega)])
  (nm := by rw [R.nm, h _ (by omega)])
  (nh := by rw [R.nh, h _ (by omega)])
theorem ok_c {r s : Nat → Int32} (h : ∀ k, k < 148 → r k = s k) (o : okR r) : okR s := okR.mk
  (M := by rw [← h _ (by omega)]; exact o.M)
  (H := by rw [← h _ (by omega)]; exact o.H)
  (wi := fun k hk => by rw [← h _ (by omega)]; exact o.wi k hk)
  (se := fun k hk => by rw [← h _ (by omega)]; exact o.se k hk)
  (he := fun k hk => by rw [← h _ (by omega)]; exact o.he k hk)
  (my := fun k hk => by rw [← h _ (by omega)]; exact o.my k hk)
  (ti := fun k hk => by rw [← h _ (by omega)]; exact o.ti k hk)
  (hy := fun k hk => by rw [← h _ (by omega)]; exact o.hy k hk)
  (st := fun k hk => by rw [← h _ (by omega)]; exact o.st k hk)
  (szH := fun n a m k h0 h1 h2 h3 h4 => by
    rw [← h _ (by omega)] at h0; rw [← h _ (by omega)]; exact o.szH n a m k h0 h1 h2 h3 h4)
  (szM := fun n a m k h0 h1 h2 h3 h4 => by
    rw [← h _ (by omega)] at h0; rw [← h _ (by omega)]; exact o.szM n a m k h0 h1 h2 h3 h4)
def RG (xx : Nat → Nat → Nat → Int32) (x : Nat → Nat → Int32) : Prop := ∃ o z, o < 4 ∧ z ≤ 4 ∧ xx 8 0 0 = nI o ∧ xx 8 0 1 = nI z ∧ x 4 0 = nI z ∧ ∀ i, i < z → Rv (xx (3 + (o + i) % 4)) (fun k => x 1 (148 * i + k)) ∧ okR (fun k => x 1 (148 * i + k))
def SN (xx : Nat → Nat → Nat → Int32) (x : Nat → Nat → Int32) : Prop := (xx 9 0 0 = 0 ∧ x 4 1 = 0) ∨ (xx 9 0 0 = 1 ∧ x 4 1 = 1 ∧ Rv (xx 2) (x 2) ∧ okR (x 2))
def TX (t : Nat → Nat → Int32) (x : Nat → Nat → Int32) : Prop := chOk t ∧ ∃ L, L ≤ 60 ∧ t 1 0 = nI L ∧ x 4 2 = nI L ∧ ∀ j, j < 60 → t 0 j = x 3 j
def RR (xx : Nat → Nat → Nat → Int32) (x : Nat → Nat → Int32) : Prop := (Rv (xx 0) (x 0)) ∧ (okR (x 0)) ∧ (RG xx x) ∧ (SN xx x) ∧ (TX (xx 7) x)
theorem RR.now {xx : Nat → Nat → Nat → Int32} {x : Nat → Nat → Int32} (h : RR xx x) : Rv (xx 0) (x 0) := h.1
theorem RR.ok {xx : Nat → Nat → Nat → Int32} {x : Nat → Nat → Int32} (h : RR xx x) : okR (x 0) := h.2.1
theorem RR.rg {xx : Nat → Nat → Nat → Int32} {x : Nat → Nat → Int32} (h : RR xx x) : RG xx x := h.2.2.1
theorem RR.sn {xx : Nat → Nat → Nat → Int32} {x : Nat → Nat → Int32} (h : RR xx x) : SN xx x := h.2.2.2.1
theorem RR.tx {xx : Nat → Nat → Nat → Int32} {x : Nat → Nat → Int32} (h : RR xx x) : TX (xx 7) x := h.2.2.2.2
theorem RR.mk {xx : Nat → Nat → Nat → Int32} {x : Nat → Nat → Int32} (now : Rv (xx 0) (x 0)) (ok : okR (x 0)) (rg : RG xx x) (sn : SN xx x) (tx : TX (xx 7) x) : RR xx x := ⟨now, ok, rg, sn, tx⟩
def oN' (o z : Nat) : Nat := if z = 4 then (o + 1) % 4 else o
def zN' (z : Nat) : Nat := if z = 4 then 4 else z + 1
set_option maxHeartbeats 4000000 in
theorem add_e {xx : Nat → Nat → Nat → Int32} {o z : Nat} (ho : o < 4) (hz : z ≤ 4) (e1 : xx 8 0 0 = nI o) (e2 : xx 8 0 1 = nI z) : mX1_add xx 8 0 0 = nI (oN' o z) ∧ mX1_add xx 8 0 1 = nI (zN' z) ∧ mX1_add xx (3 + (oN' o z + (zN' z - 1)) % 4) = xx 1 ∧ ∀ j, j ≠ 8 → j ≠ 3 + (oN' o z + (zN' z - 1)) % 4 → mX1_add xx j = xx j := by
  rcases (show o = 0 ∨ o = 1 ∨ o = 2 ∨ o = 3 by omega) with rfl | rfl | rfl | rfl <;> rcases (show z = 0 ∨ z = 1 ∨ z = 2 ∨ z = 3 ∨ z = 4 by omega) with rfl | rfl | rfl | rfl | rfl <;>
  · unfold mX1_add
    have n0 : nI 0 = 0 := rfl
    have n1 : nI 1 = 1 := rfl
    have n2 : nI 2 = 2 := rfl
    have n3 : nI 3 = 3 := rfl
    have n4 : nI 4 = 4 := rfl
    simp only [n0, n1, n2, n3, n4] at e1 e2
    simp (decide := true) only [e1, e2, lt, if_true, if_false]
    refine ⟨?_, ?_, ?_, ?_⟩
    · first | exact e1 | rfl
    · rfl
    · rfl
    · intro j h1 h2
      have h2 : j ≠ _ := h2
      simp (decide := true) only [oN', zN', if_true, if_false] at h2
      simp only [setV_ne _ _ h1, setV_ne _ _ h2]
theorem recA {xx : Nat → Nat → Nat → Int32} {x : Nat → Nat → Int32} (g : RG xx x) (R : Rv (xx 1) (x 0)) (ok : okR (x 0)) : RG (mX1_add xx) (mX6_remembers x) ∧ (∀ j, j = 0 ∨ j = 1 ∨ j = 2 ∨ j = 7 ∨ j = 9 → mX1_add xx j = xx j) ∧ mX6_remembers x 0 = x 0 ∧ mX6_remembers x 2 = x 2 ∧ mX6_remembers x 3 = x 3 ∧ mX6_remembers x 4 1 = x 4 1 ∧ mX6_remembers x 4 2 = x 4 2 := by
  obtain ⟨o, z, ho, hz, e1, e2, e3, e4⟩ := g
  obtain ⟨a1, a2, a3, a4⟩ := add_e ho hz e1 e2
  have keep : ∀ j, j = 0 ∨ j = 1 ∨ j = 2 ∨ j = 7 ∨ j = 9 → mX1_add xx j = xx j := fun j hj => a4 j (by omega) (by omega)
  by_cases h4 : z = 4
  · subst h4
    rw [rem_B e3]
    have y0 : remB x 0 = x 0 := by unfold remB; rw [setA_ne _ _ (by omega), setA_ne _ _ (by omega)]
    have y2 : remB x 2 = x 2 := by unfold remB; rw [setA_ne _ _ (by omega), setA_ne _ _ (by omega)]
    have y3 : remB x 3 = x 3 := by unfold remB; rw [setA_ne _ _ (by omega), setA_ne _ _ (by omega)]
    have y1 : remB x 1 = cpF (cpF (x 1) 0 0 444 (fun j => x 1 (148 + j))) 444 0 148 (x 0) := by unfold remB; rw [setA_ne _ _ (by omega), setA_same]
    have y4 : remB x 4 = upd (upd (x 4) 0 (nI 3)) 0 (nI 4) := by unfold remB; rw [setA_same]
    refine ⟨⟨oN' o 4, zN' 4, by unfold oN'; rw [if_pos rfl]; omega, by unfold zN'; rw [if_pos rfl]; omega, a1, a2, by rw [y4]; rfl, ?_⟩, keep, y0, y2, y3, by rw [y4]; rfl, by rw [y4]; rfl⟩
    intro i hi
    rw [show zN' 4 = 4 from rfl] at hi
    rw [show zN' 4 = 4 from rfl, show oN' o 4 = (o + 1) % 4 from rfl] at a3 a4
    rw [show oN' o 4 = (o + 1) % 4 from rfl]
    by_cases h3 : i = 3
    · subst h3
      rw [a3]
      have hc : ∀ k, k < 148 → x 0 k = remB x 1 (148 * 3 + k) := fun k hk => by rw [y1, cp_in (d := 444) (by omega)]
      exact ⟨Rv_c hc R, ok_c hc ok⟩
    · have := e4 (i + 1) (by omega)
      rw [a4 _ (by omega) (by omega), show ((o + 1) % 4 + i) % 4 = (o + (i + 1)) % 4 by omega]
      have hc : ∀ k, k < 148 → x 1 (148 * (i + 1) + k) = remB x 1 (148 * i + k) := fun k hk => by
        rw [y1, cp_out (by omega), show 148 * i + k = 0 + (148 * i + k) by omega, cp_in (by omega)]
        congr 1; omega
      exact ⟨Rv_c hc this.1, ok_c hc this.2⟩
  · rw [rem_A (show z ≤ 3 by omega) e3]
    have y0 : remA x z 0 = x 0 := by unfold remA; rw [setA_ne _ _ (by omega), setA_ne _ _ (by omega)]
    have y2 : remA x z 2 = x 2 := by unfold remA; rw [setA_ne _ _ (by omega), setA_ne _ _ (by omega)]
    have y3 : remA x z 3 = x 3 := by unfold remA; rw [setA_ne _ _ (by omega), setA_ne _ _ (by omega)]
    have y1 : remA x z 1 = cpF (x 1) (148 * z) 0 148 (x 0) := by unfold remA; rw [setA_ne _ _ (by omega), setA_same]
    have y4 : remA x z 4 = upd (x 4) 0 (nI (z + 1)) := by unfold remA; rw [setA_same]
    have eo : oN' o z = o := by unfold oN'; rw [if_neg h4]
    have ez : zN' z = z + 1 := by unfold zN'; rw [if_neg h4]
    rw [eo, ez] at a3 a4
    rw [eo] at a1
    rw [ez] at a2
    refine ⟨⟨o, z + 1, ho, by omega, a1, a2, by rw [y4]; rfl, ?_⟩, keep, y0, y2, y3, by rw [y4]; rfl, by rw [y4]; rfl⟩
    intro i hi
    by_cases h3 : i = z
    · subst h3
      rw [Nat.add_sub_cancel] at a3
      rw [a3]
      have hc : ∀ k, k < 148 → x 0 k = remA x i 1 (148 * i + k) := fun k hk => by rw [y1, cp_in (by omega)]
      exact ⟨Rv_c hc R, ok_c hc ok⟩
    · have := e4 i (by omega)
      rw [a4 _ (by omega) (by omega)]
      have hc : ∀ k, k < 148 → x 1 (148 * i + k) = remA x z 1 (148 * i + k) := fun k hk => by
        rw [y1, cp_out (by omega)]
      exact ⟨Rv_c hc this.1, ok_c hc this.2⟩
theorem rec_e {xx : Nat → Nat → Nat → Int32} {x : Nat → Nat → Int32} (g : RG xx x) {a : Int32} (h : 0 ≤ a ∨ ¬ mX5_isVain ((-10) - a) = 0) : mX5_recorded xx a = (a, mX1_add xx) := by
  obtain ⟨o, z, ho, hz, e1, e2, e3, e4⟩ := g
  obtain ⟨a1, a2, a3, a4⟩ := add_e ho hz e1 e2
  have key : setV (setV (setV (setV (setV (setV xx 8 (mX1_add xx 8)) 3 (mX1_add xx 3)) 4 (mX1_add xx 4)) 5 (mX1_add xx 5)) 6 (mX1_add xx 6)) 1 (mX1_add xx 1) = mX1_add xx := by
    funext j
    by_cases j1 : j = 1
    · subst j1; rw [setV_same]
    rw [setV_ne _ _ j1]
    by_cases j6 : j = 6
    · subst j6; rw [setV_same]
    rw [setV_ne _ _ j6]
    by_cases j5 : j = 5
    · subst j5; rw [setV_same]
    rw [setV_ne _ _ j5]
    by_cases j4 : j = 4
    · subst j4; rw [setV_same]
    rw [setV_ne _ _ j4]
    by_cases j3 : j = 3
    · subst j3; rw [setV_same]
    rw [setV_ne _ _ j3]
    by_cases j8 : j = 8
    · subst j8; rw [setV_same]
    rw [setV_ne _ _ j8]
    exact (a4 j j8 (by omega)).symm
  unfold mX5_recorded lt
  by_cases h0 : 0 ≤ a
  · rw [if_pos h0]
    show (a, setV _ 1 _) = _
    rw [key]
  · rw [if_neg h0, if_neg (h.resolve_left h0)]
    show (a, setV _ 1 _) = _
    rw [key]
theorem rec_n {xx : Nat → Nat → Nat → Int32} {a : Int32} (h0 : ¬ 0 ≤ a) (h1 : mX5_isVain ((-10) - a) = 0) : mX5_recorded xx a = (a, xx) := by
  unfold mX5_recorded
  rw [if_neg h0, if_pos h1]
