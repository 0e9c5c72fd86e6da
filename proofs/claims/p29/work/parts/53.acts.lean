/-! PURE 14: acts beside each other. -/
theorem setV2 (x : Nat → Nat → Nat → Int32) (b : Nat) (f g : Nat → Nat → Int32) : setV (setV x b f) b g = setV x b g := by
  funext j
  by_cases h : j = b
  · subst h; rw [setV_same, setV_same]
  · rw [setV_ne _ _ h, setV_ne _ _ h, setV_ne _ _ h]
theorem setV_id (x : Nat → Nat → Nat → Int32) (b : Nat) : setV x b (x b) = x := by
  funext j
  by_cases h : j = b
  · subst h; rw [setV_same]
  · rw [setV_ne _ _ h]
theorem RG_c {xx yy : Nat → Nat → Nat → Int32} {x q : Nat → Nat → Int32} (h : ∀ j, j = 3 ∨ j = 4 ∨ j = 5 ∨ j = 6 ∨ j = 8 → yy j = xx j) (h1 : q 1 = x 1) (h4 : q 4 0 = x 4 0) (g : RG xx x) : RG yy q := by
  obtain ⟨o, z, ho, hz, e1, e2, e3, e4⟩ := g
  refine ⟨o, z, ho, hz, by rw [h 8 (by omega)]; exact e1, by rw [h 8 (by omega)]; exact e2, by rw [h4]; exact e3, fun i hi => ?_⟩
  rw [h (3 + (o + i) % 4) (by omega), h1]; exact e4 i hi
theorem SN_c {xx yy : Nat → Nat → Nat → Int32} {x q : Nat → Nat → Int32} (h9 : yy 9 = xx 9) (h2 : yy 2 = xx 2) (k4 : q 4 1 = x 4 1) (k2 : q 2 = x 2) (g : SN xx x) : SN yy q := by
  unfold SN at *
  rw [h9, h2, k4, k2]; exact g
theorem TX_c {t u : Nat → Nat → Int32} {x q : Nat → Nat → Int32} (h7 : u = t) (k3 : q 3 = x 3) (k4 : q 4 2 = x 4 2) (g : TX t x) : TX u q := by
  unfold TX at *
  rw [h7, k3, k4]; exact g
/-- the object while an act is under way -/
def und (xx : Nat → Nat → Nat → Int32) (v : Nat → Nat → Int32) : Nat → Nat → Nat → Int32 := setV (setV xx 1 (xx 0)) 0 v
theorem und_0 (xx : Nat → Nat → Nat → Int32) (v : Nat → Nat → Int32) : und xx v 0 = v := setV_same _ _ _
theorem und_1 (xx : Nat → Nat → Nat → Int32) (v : Nat → Nat → Int32) : und xx v 1 = xx 0 := by unfold und; rw [setV_ne _ _ (by omega), setV_same]
theorem und_j (xx : Nat → Nat → Nat → Int32) (v : Nat → Nat → Int32) {j : Nat} (h0 : j ≠ 0) (h1 : j ≠ 1) : und xx v j = xx j := by unfold und; rw [setV_ne _ _ h0, setV_ne _ _ h1]
theorem act_not {xx : Nat → Nat → Nat → Int32} {x q : Nat → Nat → Int32} (h : RR xx x) (l : ∀ k, k < 148 → q 0 k = x 0 k) (lj : ∀ j, j ≠ 0 → q j = x j) : RR (und xx (xx 0)) q := RR.mk
  (now := by rw [und_0]; exact Rv_c (fun k hk => (l k hk).symm) h.now)
  (ok := ok_c (fun k hk => (l k hk).symm) h.ok)
  (rg := RG_c (fun j hj => und_j _ _ (by omega) (by omega)) (lj 1 (by omega)) (by rw [lj 4 (by omega)]) h.rg)
  (sn := SN_c (und_j _ _ (by omega) (by omega)) (und_j _ _ (by omega) (by omega)) (by rw [lj 4 (by omega)]) (lj 2 (by omega)) h.sn)
  (tx := TX_c (und_j _ _ (by omega) (by omega)) (lj 3 (by omega)) (by rw [lj 4 (by omega)]) h.tx)
theorem act_rem {xx : Nat → Nat → Nat → Int32} {x q : Nat → Nat → Int32} (h : RR xx x) {v : Nat → Nat → Int32} (R : Rv v (rowP q 0)) (ok : okR (rowP q 0)) (l : low 0 (mX6_remembers x) q) : RR (mX1_add (und xx v)) q := by
  have g0 : RG (und xx v) x := RG_c (fun j hj => und_j _ _ (by omega) (by omega)) rfl rfl h.rg
  obtain ⟨g, ke, r0, r2, r3, r41, r42⟩ := recA g0 (by rw [und_1]; exact h.now) h.ok
  have lj := l.2
  exact RR.mk
    (now := by rw [ke 0 (by omega), und_0]; have R' := R; rw [rowP0] at R'; exact R')
    (ok := by have o' := ok; rw [rowP0] at o'; exact o')
    (rg := RG_c (fun _ _ => rfl) (lj 1 (by omega)) (by rw [lj 4 (by omega)]) g)
    (sn := SN_c (by rw [ke 9 (by omega)]; exact und_j _ _ (by omega) (by omega)) (by rw [ke 2 (by omega)]; exact und_j _ _ (by omega) (by omega)) (by rw [lj 4 (by omega)]; exact r41) (by rw [lj 2 (by omega)]; exact r2) h.sn)
    (tx := TX_c (by rw [ke 7 (by omega)]; exact und_j _ _ (by omega) (by omega)) (by rw [lj 3 (by omega)]; exact r3) (by rw [lj 4 (by omega)]; exact r42) h.tx)
theorem act_take {xx : Nat → Nat → Nat → Int32} {x q : Nat → Nat → Int32} (h : RR xx x) {v : Nat → Nat → Int32} (l : ∀ k, k < 148 → q 0 k = x 0 k) (lj : ∀ j, j ≠ 0 → q j = x j) (R : Rv v (rowP q 148)) (ok : okR (rowP q 148)) : RR (mX1_add (und xx v)) (mX6_takes q) := by
  have g0 : RG (und xx v) q := RG_c (fun j hj => und_j _ _ (by omega) (by omega)) (lj 1 (by omega)) (by rw [lj 4 (by omega)]) h.rg
  obtain ⟨g, ke, r0, r2, r3, r41, r42⟩ := recA g0 (by rw [und_1]; exact Rv_c (fun k hk => (l k hk).symm) h.now) (ok_c (fun k hk => (l k hk).symm) h.ok)
  rw [takes_e rfl]
  obtain ⟨z, hz⟩ : ∃ z, z = mX6_remembers q := ⟨_, rfl⟩
  rw [← hz] at g r0 r2 r3 r41 r42 ⊢
  have hc : ∀ k, k < 148 → rowP q 148 k = setA z 0 (cpF (z 0) 0 0 148 (fun j => z 0 (148 + j))) 0 k := fun k hk => by
    have t := cp_in (f := z 0) (d := 0) (n := 148) (g := fun j => z 0 (148 + j)) (k := k) hk
    rw [Nat.zero_add] at t
    rw [setA_same, t, r0]
  have n : ∀ j, j ≠ 0 → setA z 0 (cpF (z 0) 0 0 148 (fun j => z 0 (148 + j))) j = z j := fun j hj => setA_ne _ _ hj
  exact RR.mk
    (now := by rw [ke 0 (by omega), und_0]; exact Rv_c hc R)
    (ok := ok_c hc ok)
    (rg := RG_c (fun _ _ => rfl) (n 1 (by omega)) (by rw [n 4 (by omega)]) g)
    (sn := SN_c (by rw [ke 9 (by omega)]; exact und_j _ _ (by omega) (by omega)) (by rw [ke 2 (by omega)]; exact und_j _ _ (by omega) (by omega)) (by rw [n 4 (by omega), r41, lj 4 (by omega)]) (by rw [n 2 (by omega), r2, lj 2 (by omega)]) h.sn)
    (tx := TX_c (by rw [ke 7 (by omega)]; exact und_j _ _ (by omega) (by omega)) (by rw [n 3 (by omega), r3, lj 3 (by omega)]) (by rw [n 4 (by omega), r42, lj 4 (by omega)]) h.tx)
theorem fin2 {α β : Type} {Q : α → β → Prop} {a b : Int32} {X : α} {Y : β} (h1 : a = b) (h2 : Q X Y) : (a, X).1 = (b, Y).1 ∧ Q (a, X).2 (b, Y).2 := ⟨h1, h2⟩
theorem ti_10 {a : Int32} (h : -16 ≤ a.toInt) (h2 : a.toInt < 0) : ((-10) - a).toInt = -10 - a.toInt := ti_sub (show (-10 : Int32).toInt = -10 from rfl) rfl (by omega)
theorem vain_low {a : Int32} (h : -13 ≤ a.toInt) (h2 : a.toInt < 0) : mX5_isVain ((-10) - a) = 0 := by
  unfold mX5_isVain
  have e := ti_10 (a := a) (by omega) h2
  have e4 : (4 : Int32).toInt = 4 := rfl
  rw [if_pos (by rw [i_lt]; omega)]
theorem vain_hi {a : Int32} (h : -16 ≤ a.toInt) (h2 : a.toInt < -13) : ¬ mX5_isVain ((-10) - a) = 0 := by
  unfold mX5_isVain
  have e := ti_10 (a := a) h (by omega)
  have e4 : (4 : Int32).toInt = 4 := rfl
  have e6 : (6 : Int32).toInt = 6 := rfl
  rw [if_neg (by rw [i_lt]; omega), if_neg (by rw [i_lt]; omega)]; decide
theorem cp_R {xx : Nat → Nat → Nat → Int32} {x : Nat → Nat → Int32} (h : RR xx x) : Rv (xx 0) (rowP (mX6_copies x) 148) ∧ okR (rowP (mX6_copies x) 148) ∧ (∀ k, k < 148 → mX6_copies x 0 k = x 0 k) ∧ ∀ j, j ≠ 0 → mX6_copies x j = x j := by
  have hc : ∀ k, k < 148 → x 0 k = rowP (mX6_copies x) 148 k := fun k hk => by
    show _ = mX6_copies x 0 (148 + k)
    rw [copies_e, setA_same, cp_in hk]
  refine ⟨Rv_c hc h.now, ok_c hc h.ok, fun k hk => ?_, fun j hj => ?_⟩
  · rw [copies_e, setA_same, cp_out (by omega)]
  · rw [copies_e, setA_ne _ _ hj]
theorem rec_take {xx : Nat → Nat → Nat → Int32} {x : Nat → Nat → Int32} (h : RR xx x) {v : Nat → Nat → Int32} {a : Int32} (h0 : 0 ≤ a.toInt ∨ (-16 ≤ a.toInt ∧ a.toInt < -13)) : mX5_recorded (und xx v) a = (a, mX1_add (und xx v)) := by
  have g0 : RG (und xx v) x := RG_c (fun j hj => und_j _ _ (by omega) (by omega)) rfl rfl h.rg
  refine rec_e g0 ?_
  rcases h0 with h0 | h0
  · exact Or.inl (by rw [i_le]; exact h0)
  · exact Or.inr (vain_hi h0.1 h0.2)
theorem rec_not {yy : Nat → Nat → Nat → Int32} {a : Int32} (h : -13 ≤ a.toInt) (h2 : a.toInt < 0) : mX5_recorded yy a = (a, yy) := rec_n (by rw [i_le]; have : (0 : Int32).toInt = 0 := rfl; omega) (vain_low h h2)
theorem t_act {xx : Nat → Nat → Nat → Int32} {x : Nat → Nat → Int32} (h : RR xx x) {B : Int → Prop} (hB : ∀ z, B z → -5 ≤ z) {p d : Int32 × (Nat → Nat → Int32)} (s : SP 148 (mX6_copies x) (xx 0) B p d) : (mX5_recorded (und xx p.2) p.1).1 = (mX6_acts d.2 d.1).1 ∧ RR (mX5_recorded (und xx p.2) p.1).2 (mX6_acts d.2 d.1).2 := by
  obtain ⟨s1, s2, s3, s4, s5, s6⟩ := s
  replace s6 := hB _ s6
  obtain ⟨c1, c2, c3, c4⟩ := cp_R h
  have l : ∀ k, k < 148 → d.2 0 k = x 0 k := fun k hk => by rw [s4.1 k hk, c3 k hk]
  have lj : ∀ j, j ≠ 0 → d.2 j = x j := fun j hj => by rw [s4.2 j hj, c4 j hj]
  have e0 : (0 : Int32).toInt = 0 := rfl
  unfold mX6_acts
  by_cases c : 0 ≤ p.1.toInt
  · rw [rec_take h (Or.inl c), if_neg (by rw [← s1, i_lt]; omega), lt]
    have A := act_take h l lj s2 s3
    exact fin2 (Q := RR) s1 A
  · rw [rec_not (by omega) (by omega), if_pos (by rw [← s1, i_lt]; omega), s5 (by omega) (by omega)]
    exact fin2 (Q := RR) s1 (act_not h l lj)
theorem a_mill {xx : Nat → Nat → Nat → Int32} {x : Nat → Nat → Int32} (h : RR xx x) (a b : Int32) : (mX5_mill xx a b).1 = (mX6_mill x a b).1 ∧ RR (mX5_mill xx a b).2 (mX6_mill x a b).2 := by
  have e : mX5_mill xx a b = mX5_recorded (und xx (mX5_bringMill (xx 0) a b).2) (mX5_bringMill (xx 0) a b).1 := rfl
  have e2 : mX6_mill x a b = mX6_acts (mX6_millComes (mX6_copies x) (nI 148) a b).2 (mX6_millComes (mX6_copies x) (nI 148) a b).1 := rfl
  rw [e, e2]
  exact t_act h (fun z q => by unfold bM at q; omega) (s_mill (cp_R h).1 (cp_R h).2.1 (by omega) a b)
theorem a_house {xx : Nat → Nat → Nat → Int32} {x : Nat → Nat → Int32} (h : RR xx x) (b : Int32) : (mX5_house xx b).1 = (mX6_house x b).1 ∧ RR (mX5_house xx b).2 (mX6_house x b).2 := by
  have e : mX5_house xx b = mX5_recorded (und xx (mX5_bringHouse (xx 0) b).2) (mX5_bringHouse (xx 0) b).1 := rfl
  have e2 : mX6_house x b = mX6_acts (mX6_houseComes (mX6_copies x) (nI 148) b).2 (mX6_houseComes (mX6_copies x) (nI 148) b).1 := rfl
  rw [e, e2]
  exact t_act h (fun z q => by unfold bH at q; omega) (s_house (cp_R h).1 (cp_R h).2.1 (by omega) b)
theorem t_err {xx : Nat → Nat → Nat → Int32} {x : Nat → Nat → Int32} (h : RR xx x) {a : Int32} (h1 : -13 ≤ a.toInt) (h2 : a.toInt < 0) : (mX5_recorded (und xx (xx 0)) a).1 = a ∧ RR (mX5_recorded (und xx (xx 0)) a).2 x := by
  rw [rec_not h1 h2]
  exact ⟨rfl, act_not h (fun _ _ => rfl) (fun _ _ => rfl)⟩
theorem a_wind {xx : Nat → Nat → Nat → Int32} {x : Nat → Nat → Int32} (h : RR xx x) (a b c : Int32) : (mX5_wind xx a b c).1 = (mX6_wind x a b c).1 ∧ RR (mX5_wind xx a b c).2 (mX6_wind x a b c).2 := by
  have e : mX5_wind xx a b c = mX5_recorded (und xx (mX5_tellWind (xx 0) a b c).2) (mX5_tellWind (xx 0) a b c).1 := rfl
  rw [e]
  unfold mX6_wind
  have t0 : (0 : Int32).toInt = 0 := rfl
  have t9 : (9 : Int32).toInt = 9 := rfl
  have t23 : (23 : Int32).toInt = 23 := rfl
  have bad : ∀ {r : Int32}, -13 ≤ r.toInt → r.toInt < 0 → mX5_tellWind (xx 0) a b c = (r, xx 0) → (mX5_recorded (und xx (mX5_tellWind (xx 0) a b c).2) (mX5_tellWind (xx 0) a b c).1).1 = r ∧ RR (mX5_recorded (und xx (mX5_tellWind (xx 0) a b c).2) (mX5_tellWind (xx 0) a b c).1).2 x := fun h1 h2 e => by
    rw [e]; exact t_err h h1 h2
  by_cases c1 : mX6_isHour a = 0
  · rw [if_pos c1]; exact bad (r := -1) (by decide) (by decide) (by unfold mX5_tellWind; rw [e_isHour, if_pos c1])
  rw [if_neg c1]
  obtain ⟨f, hf, rfl⟩ := hour_nI c1
  by_cases c2 : mX6_in b (nI f) 23 = 0
  · rw [if_pos c2]
    refine bad (r := -1) (by decide) (by decide) ?_
    unfold mX5_tellWind
    rw [e_isHour, if_neg c1]
    by_cases c3 : mX5_isHour b = 0
    · rw [if_pos c3]
    · rw [if_neg c3, if_neg ?_]
      intro z
      rw [e_isHour] at c3
      obtain ⟨t, ht, rfl⟩ := hour_nI c3
      rw [show (23 : Int32) = nI 23 from rfl, nJ_in (by omega) (by omega) (by omega), if_pos ⟨(nJ_le (by omega) (by omega)).mp z, by omega⟩] at c2
      exact absurd c2 (by decide)
  rw [if_neg c2]
  obtain ⟨t, ht, rfl⟩ : ∃ t, t < 24 ∧ b = nI t := by
    have := f6_in c2
    have := nI_toInt (n := f) (by omega)
    exact of_rng (n := 24) (by omega) (by omega)
  rw [show (23 : Int32) = nI 23 from rfl, nJ_in (by omega) (by omega) (by omega)] at c2
  have hft : f ≤ t := by
    by_cases q : f ≤ t
    · exact q
    · rw [if_neg (by omega)] at c2; exact absurd rfl c2
  have y1 : ¬ mX5_isHour (nI t) = 0 := by
    unfold mX5_isHour
    rw [if_neg (by rw [show (0 : Int32) = nI 0 from rfl, nJ_lt (by omega) (by omega)]; omega), if_neg (by rw [show (24 : Int32) = nI 24 from rfl, nJ_le (by omega) (by omega)]; omega)]; decide
  by_cases c4 : mX6_in c 0 9 = 0
  · rw [if_pos c4]
    refine bad (r := -2) (by decide) (by decide) ?_
    unfold mX5_tellWind
    rw [e_isHour, if_neg c1, if_neg y1, if_pos ((nJ_le (by omega) (by omega)).mpr hft)]
    unfold mX6_in at c4
    by_cases d1 : c < 0
    · rw [if_pos d1]
    · rw [if_neg d1] at c4 ⊢
      by_cases d2 : 9 < c
      · rw [if_neg (by rw [i_le]; rw [i_lt] at d2; omega)]
      · rw [if_neg d2] at c4; exact absurd c4 (by decide)
  rw [if_neg c4]
  obtain ⟨w, hw, rfl⟩ : ∃ w, w < 10 ∧ c = nI w := by
    have := f6_in c4
    exact of_rng (n := 10) (by omega) (by omega)
  have s := s_blows (cp_R h).1 (cp_R h).2.1 (show 148 ≤ 200 by omega) ht hft (show w ≤ 9 by omega)
  exact t_act h (fun z q => by unfold bW at q; omega) s
theorem wrong_eq {xx : Nat → Nat → Nat → Int32} {x : Nat → Nat → Int32} (h : RR xx x) (a m k t : Int32) : mX6_wrong (mX6_copies x) (nI 148) a m k t = mX6_wrong x (nI 0) a m k t := by
  unfold mX6_wrong
  have R0 : Rv (xx 0) (rowP x 0) := by rw [rowP0]; exact h.now
  have o0 : okR (rowP x 0) := by rw [rowP0]; exact h.ok
  rw [← e_hasHouse (cp_R h).1 (cp_R h).2.1 (by omega), ← e_hasMill (cp_R h).1 (cp_R h).2.1 (by omega), ← e_hasHouse R0 o0 (by omega), ← e_hasMill R0 o0 (by omega)]
theorem wrong_rg (x : Nat → Nat → Int32) (pp a m k t : Int32) (h : ¬ 0 ≤ mX6_wrong x pp a m k t) : mX6_wrong x pp a m k t = -1 ∨ mX6_wrong x pp a m k t = -2 := by
  revert h
  unfold mX6_wrong
  repeat' split
  all_goals simp
theorem a_complain {xx : Nat → Nat → Nat → Int32} {x : Nat → Nat → Int32} (h : RR xx x) (a m k t : Int32) : (mX5_complain xx a m k t).1 = (mX6_complain x a m k t).1 ∧ RR (mX5_complain xx a m k t).2 (mX6_complain x a m k t).2 := by
  have e : mX5_complain xx a m k t = mX5_recorded (und xx (mX5_lodge (xx 0) a m k t).2) (mX5_lodge (xx 0) a m k t).1 := rfl
  rw [e]
  have R0 : Rv (xx 0) (rowP x 0) := by rw [rowP0]; exact h.now
  have o0 : okR (rowP x 0) := by rw [rowP0]; exact h.ok
  unfold mX6_complain
  by_cases c : 0 ≤ mX6_wrong x 0 a m k t
  · rw [if_pos c, lt, show (148 : Int32) = nI 148 from rfl]
    have s := s_lodge (cp_R h).1 (cp_R h).2.1 (show 148 ≤ 200 by omega) (a := a) (m := m) (k := k) (h := t) (by rw [wrong_eq h]; exact c)
    revert s
    generalize mX5_lodge (xx 0) a m k t = p
    generalize mX6_complains (mX6_copies x) (nI 148) a m k t = d
    intro s
    obtain ⟨s1, s2, s3, s4, s5, s6⟩ := s
    unfold bL at s6
    obtain ⟨c1, c2, c3, c4⟩ := cp_R h
    have l : ∀ k, k < 148 → d.2 0 k = x 0 k := fun k hk => by rw [s4.1 k hk, c3 k hk]
    have lj : ∀ j, j ≠ 0 → d.2 j = x j := fun j hj => by rw [s4.2 j hj, c4 j hj]
    have e0 : (0 : Int32).toInt = 0 := rfl
    have e14 : (-14 : Int32).toInt = -14 := rfl
    rw [lt]
    by_cases d0 : 0 ≤ p.1.toInt
    · rw [rec_take h (Or.inl d0), if_pos (by rw [← s1, i_le]; omega), lt]
      have A := act_take h l lj s2 s3
      exact fin2 (Q := RR) s1 A
    · rw [if_neg (by rw [← s1, i_le]; omega)]
      by_cases d1 : -13 ≤ p.1.toInt
      · rw [rec_not (by omega) (by omega), if_pos (by rw [← s1, i_lt]; omega), s5 (by omega) (by omega)]
        exact fin2 (Q := RR) s1 (act_not h l lj)
      · rw [rec_take h (Or.inr ⟨by omega, by omega⟩), if_neg (by rw [← s1, i_lt]; omega), lt]
        have A := act_take h l lj s2 s3
        exact fin2 (Q := RR) s1 A
  · rw [if_neg c]
    have er : mX4_reasonAgainst (xx 0) a m k t = mX6_wrong x 0 a m k t := by
      rw [e_why R0 o0 (by omega), whyP]; exact if_neg c
    have el : mX5_lodge (xx 0) a m k t = (mX6_wrong x 0 a m k t, xx 0) := by
      unfold mX5_lodge; rw [er, if_neg c]
    rw [el]
    rcases wrong_rg x 0 a m k t c with z | z
    · rw [z]; exact t_err h (a := -1) (by decide) (by decide)
    · rw [z]; exact t_err h (a := -2) (by decide) (by decide)
