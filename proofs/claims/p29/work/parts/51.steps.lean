/-! PURE 12: the steps of an act, in both. -/
theorem upd_id (f : Nat → Int32) (i : Nat) : upd f i (f i) = f := by
  funext j
  by_cases e : j = i
  · subst e; rw [upd_same]
  · rw [upd_ne _ _ e]
theorem set_id (x : Nat → Nat → Int32) (i : Nat) {y : Int32} (h : x 0 i = y) : setA x 0 (upd (x 0) i y) = x := by
  subst h; rw [upd_id, setA_id]
theorem jhe {P m : Nat} (h : P + 1 + 3 * m + 3 < 2147483648) : (((nI P + 1) + (3 * nI m)) + 0).toNatClampNeg = P + (1 + 3 * m) := jM 0 (by omega)
theorem jmy {P m : Nat} (h : P + 1 + 3 * m + 3 < 2147483648) : (((nI P + 1) + (3 * nI m)) + 1).toNatClampNeg = P + (2 + 3 * m) := by
  rw [show (((nI P + 1) + (3 * nI m)) + 1).toNatClampNeg = _ from jM 1 (by omega)]; omega
theorem jti {P m : Nat} (h : P + 1 + 3 * m + 3 < 2147483648) : (((nI P + 1) + (3 * nI m)) + 2).toNatClampNeg = P + (3 + 3 * m) := by
  rw [show (((nI P + 1) + (3 * nI m)) + 2).toNatClampNeg = _ from jM 2 (by omega)]; omega
theorem jhy {P m : Nat} (h : P + 14 + 2 * m + 3 < 2147483648) : (((nI P + 14) + (2 * nI m)) + 0).toNatClampNeg = P + (14 + 2 * m) := jH 0 (by omega)
theorem jva {P m : Nat} (h : P + 14 + 2 * m + 3 < 2147483648) : (((nI P + 14) + (2 * nI m)) + 1).toNatClampNeg = P + (15 + 2 * m) := by
  rw [show (((nI P + 14) + (2 * nI m)) + 1).toNatClampNeg = _ from jH 1 (by omega)]; omega
theorem add_in {n k : Nat} (f : Nat → Int32) (y : Int32) (h : k < n) (hn : n < 2147483648) : mX5_add n f (nI k) y = upd f k (f k + y) := by
  unfold mX5_add
  rw [lt, at_in f h hn, put_in f _ h hn]
/-- a step in both: answer, states, what an error leaves, how low the answer is -/
def SP (P : Nat) (x v : Nat → Nat → Int32) (B : Int → Prop) (p d : Int32 × (Nat → Nat → Int32)) : Prop := p.1 = d.1 ∧ Rv p.2 (rowP d.2 P) ∧ okR (rowP d.2 P) ∧ low P x d.2 ∧ (p.1.toInt < 0 → -13 ≤ p.1.toInt → p.2 = v) ∧ B p.1.toInt
theorem SP_d {P : Nat} {x v : Nat → Nat → Int32} {B : Int → Prop} {p : Int32 × (Nat → Nat → Int32)} {α : Type} {a : α} {f : α → Int32 × (Nat → Nat → Int32)} (h : ∀ z, z = a → SP P x v B p (f z)) : SP P x v B p (lt a f) := h a rfl
theorem SP_p {P : Nat} {x v : Nat → Nat → Int32} {B : Int → Prop} {d : Int32 × (Nat → Nat → Int32)} {α : Type} {a : α} {f : α → Int32 × (Nat → Nat → Int32)} (h : ∀ z, z = a → SP P x v B (f z) d) : SP P x v B (lt a f) d := h a rfl
/-- how the steps' answers go -/
def bM (a : Int32) (z : Int) : Prop := 0 ≤ z ∨ z = -1 ∨ z = -3 ∨ z = -4 ∨ (z = -2 ∧ ¬ (1 ≤ a.toInt ∧ a.toInt ≤ 5))
def bH (z : Int) : Prop := 0 ≤ z ∨ z = -1 ∨ z = -3 ∨ z = -4
def bW (z : Int) : Prop := 0 ≤ z ∨ z = -5
def bL (z : Int) : Prop := 0 ≤ z ∨ (-16 ≤ z ∧ z ≤ -11)
section ST
variable {v : Nat → Nat → Int32} {x : Nat → Nat → Int32} {P : Nat}
theorem SP_err (R : Rv v (rowP x P)) (ok : okR (rowP x P)) {B : Int → Prop} {c : Int32} (h : B c.toInt) : SP P x v B (c, v) (c, x) := ⟨rfl, R, ok, low_r P x, fun _ _ => rfl, h⟩
theorem SP_ok {v' x' : Nat → Nat → Int32} (R : Rv v' (rowP x' P)) (ok : okR (rowP x' P)) (l : low P x x') {B : Int → Prop} {c : Int32} (h : 0 ≤ c.toInt ∨ c.toInt < -13) (h2 : B c.toInt) : SP P x v B (c, v') (c, x') := ⟨rfl, R, ok, l, fun h3 h4 => by have h3 : c.toInt < 0 := h3; have h4 : -13 ≤ c.toInt := h4; omega, h2⟩
theorem s_mill (R : Rv v (rowP x P)) (ok : okR (rowP x P)) (hP : P ≤ 200) (a b : Int32) : SP P x v (bM a) (mX5_bringMill v a b) (mX6_millComes x (nI P) a b) := by
  obtain ⟨n, hn, e⟩ := ok.M
  have i0 : ((nI P + 0)).toNatClampNeg = P + 0 := j1 0 (by omega)
  have e5 : (5 : Int32).toInt = 5 := rfl
  have e1 : (1 : Int32).toInt = 1 := rfl
  unfold mX5_bringMill mX6_millComes
  rw [e_isYard]
  by_cases c1 : mX6_isYard b = 0
  · rw [if_pos c1, if_pos c1]; exact SP_err R ok (Or.inr (Or.inl rfl))
  rw [if_neg c1, if_neg c1]
  obtain ⟨y, hy, rfl⟩ := yard_nI c1
  by_cases c2 : a < 1
  · rw [if_pos c2, if_pos (show mX6_in a 1 5 = 0 from by unfold mX6_in; rw [if_pos c2])]; exact SP_err R ok (Or.inr (Or.inr (Or.inr (Or.inr ⟨rfl, fun z => by rw [i_lt] at c2; omega⟩))))
  rw [if_neg c2]
  by_cases c3 : a ≤ 5
  case neg =>
    rw [if_neg c3, if_pos (show mX6_in a 1 5 = 0 from by
      unfold mX6_in; rw [if_neg c2, if_pos (by rw [i_lt]; rw [i_le] at c3; omega)])]
    exact SP_err R ok (Or.inr (Or.inr (Or.inr (Or.inr ⟨rfl, fun z => by rw [i_le] at c3; omega⟩))))
  have c4 : ¬ mX6_in a 1 5 = 0 := by
    unfold mX6_in; rw [if_neg c2, if_neg (by rw [i_lt]; rw [i_le] at c3; omega)]; decide
  rw [if_pos c3, if_neg c4]
  obtain ⟨w, hw, ew⟩ : ∃ w, w ≤ 5 ∧ a = nI w := by
    obtain ⟨w, hw, ew⟩ := of_rng (i := a) (n := 6) ⟨by rw [i_lt] at c2; omega, by rw [i_le] at c3; omega⟩ (by omega)
    exact ⟨w, by omega, ew⟩
  by_cases c5 : mX6_isBuilt x (nI P) (nI y) = 0
  case neg =>
    rw [if_neg c5, if_pos ((e_isFree R ok hP (nI y)).mpr c5)]; exact SP_err R ok (Or.inr (Or.inr (Or.inr (Or.inl rfl))))
  rw [if_neg (fun z => (e_isFree R ok hP (nI y)).mp z c5), if_pos c5, R.nm, show rowP x P 0 = nI n from e, i0, show x 0 (P + 0) = nI n from e]
  by_cases c7 : n = 4
  · subst c7
    rw [if_neg (by decide), if_pos (show nI 4 = 4 from rfl)]; exact SP_err R ok (Or.inr (Or.inr (Or.inl rfl)))
  have hn4 : n < 4 := by omega
  rw [if_pos (by rw [show (4 : Int32) = nI 4 from rfl, nJ_lt (by omega) (by omega)]; omega), if_neg (by rw [show (4 : Int32) = nI 4 from rfl, nJ_eq (by omega) (by omega)]; exact c7)]
  rw [put_in _ _ hn4 (by omega), jhe (by omega)]
  refine SP_p (fun q6 h6 => SP_p (fun v7 h7 => ?_))
  refine SP_d (fun x5 h5 => ?_)
  have R5 : Rv v7 (rowP x5 P) := by rw [h5, h7, h6, rowP_u]; exact Rv_he R hn4 a
  have o5 : okR (rowP x5 P) := by rw [h5, rowP_u]; exact ok_he ok hn4 ⟨w, hw, ew⟩
  have l5 : low P x x5 := by rw [h5]; exact low_u P _ x a
  have g5 : x5 0 (P + 0) = nI n := by rw [h5, setA_same, upd_ne _ _ (by omega)]; exact e
  rw [put_in _ _ hn4 (by omega), g5, jmy (by omega)]
  refine SP_p (fun q8 h8 => SP_p (fun v9 h9 => ?_))
  refine SP_d (fun x6 k6 => ?_)
  have R6 : Rv v9 (rowP x6 P) := by rw [k6, h9, h8, rowP_u]; exact Rv_my R5 hn4 (nI y)
  have o6 : okR (rowP x6 P) := by rw [k6, rowP_u]; exact ok_my o5 hn4 ⟨y, hy, rfl⟩
  have l6 : low P x x6 := by rw [k6]; exact low_t l5 (low_u P _ x5 _)
  have g6 : x6 0 (P + 0) = nI n := by rw [k6, setA_same, upd_ne _ _ (by omega)]; exact g5
  rw [g6, nI_s]
  refine SP_p (fun v10 h10 => ?_)
  refine SP_d (fun x7 k7 => ?_)
  have R7 : Rv v10 (rowP x7 P) := by rw [k7, h10, rowP_u]; exact Rv_nm R6 _
  have o7 : okR (rowP x7 P) := by rw [k7, rowP_u]; exact ok_M o6 g6 (by omega)
  have l7 : low P x x7 := by rw [k7]; exact low_t l6 (low_u P _ x6 _)
  have g7 : x7 0 (P + 0) = nI (n + 1) := by rw [k7, setA_same, upd_same]
  rw [g7, show nI (n + 1) - 1 = nI n from nI_sub (b := 1) (by omega) (by omega)]
  have := nI_toInt (n := n) (by omega)
  exact SP_ok R7 o7 l7 (by omega) (Or.inl (by omega))
theorem s_house (R : Rv v (rowP x P)) (ok : okR (rowP x P)) (hP : P ≤ 200) (b : Int32) : SP P x v bH (mX5_bringHouse v b) (mX6_houseComes x (nI P) b) := by
  obtain ⟨n, hn, e⟩ := ok.H
  have i0 : ((nI P + 13)).toNatClampNeg = P + 13 := j1 13 (by omega)
  unfold mX5_bringHouse mX6_houseComes
  rw [e_isYard]
  by_cases c1 : mX6_isYard b = 0
  · rw [if_pos c1, if_pos c1]; exact SP_err R ok (Or.inr (Or.inl rfl))
  rw [if_neg c1, if_neg c1]
  obtain ⟨y, hy, rfl⟩ := yard_nI c1
  by_cases c5 : mX6_isBuilt x (nI P) (nI y) = 0
  case neg =>
    rw [if_neg c5, if_pos ((e_isFree R ok hP (nI y)).mpr c5)]; exact SP_err R ok (Or.inr (Or.inr (Or.inr rfl)))
  rw [if_neg (fun z => (e_isFree R ok hP (nI y)).mp z c5), if_pos c5, R.nh, show rowP x P 13 = nI n from e, i0, show x 0 (P + 13) = nI n from e]
  by_cases c7 : n = 10
  · subst c7
    rw [if_neg (by decide), if_pos (show nI 10 = 10 from rfl)]; exact SP_err R ok (Or.inr (Or.inr (Or.inl rfl)))
  have hn4 : n < 10 := by omega
  rw [if_pos (by rw [show (10 : Int32) = nI 10 from rfl, nJ_lt (by omega) (by omega)]; omega), if_neg (by rw [show (10 : Int32) = nI 10 from rfl, nJ_eq (by omega) (by omega)]; exact c7)]
  rw [put_in _ _ hn4 (by omega), jhy (by omega)]
  refine SP_p (fun q6 h6 => SP_p (fun v7 h7 => ?_))
  refine SP_d (fun x5 h5 => ?_)
  have R5 : Rv v7 (rowP x5 P) := by rw [h5, h7, h6, rowP_u]; exact Rv_hy R hn4 _
  have o5 : okR (rowP x5 P) := by rw [h5, rowP_u]; exact ok_hy ok hn4 ⟨y, hy, rfl⟩
  have l5 : low P x x5 := by rw [h5]; exact low_u P _ x _
  have g5 : x5 0 (P + 13) = nI n := by rw [h5, setA_same, upd_ne _ _ (by omega)]; exact e
  rw [g5, nI_s]
  refine SP_p (fun v10 h10 => ?_)
  refine SP_d (fun x7 k7 => ?_)
  have R7 : Rv v10 (rowP x7 P) := by rw [k7, h10, rowP_u]; exact Rv_nh R5 _
  have o7 : okR (rowP x7 P) := by rw [k7, rowP_u]; exact ok_H o5 g5 (by omega)
  have l7 : low P x x7 := by rw [k7]; exact low_t l5 (low_u P _ x5 _)
  have g7 : x7 0 (P + 13) = nI (n + 1) := by rw [k7, setA_same, upd_same]
  rw [g7, show nI (n + 1) - 1 = nI n from nI_sub (b := 1) (by omega) (by omega)]
  have := nI_toInt (n := n) (by omega)
  exact SP_ok R7 o7 l7 (by omega) (Or.inl (by omega))
end ST
theorem blow_loop {P w : Nat} (hP : P ≤ 200) (hw : w ≤ 9) : ∀ (n k c : Nat) (v x : Nat → Nat → Int32), k + n ≤ 24 → Rv v (rowP x P) → okR (rowP x P) → ∃ v' x' j, (∀ C, mX5_tellWind_40 (nI w) C n v (nI k) (nI c) = C v' (nI (k + n)) (nI (c + j))) ∧ (∀ C, mX6_blows_6 (nI P) (nI w) C n x (nI k) (nI c) = C x' (nI (k + n)) (nI (c + j))) ∧ Rv v' (rowP x' P) ∧ okR (rowP x' P) ∧ low P x x' ∧ j ≤ n ∧ (j = 0 → v' = v)
  | 0, k, c, v, x, _, R, ok => ⟨v, x, 0, fun _ => rfl, fun _ => rfl, R, ok, low_r P x, Nat.le_refl _, fun _ => rfl⟩
  | n + 1, k, c, v, x, hk, R, ok => by
    have i : x 0 (P + (34 + k)) = rowP x P (34 + k) := rfl
    by_cases e : rowP x P (34 + k) = nI w
    · obtain ⟨v', x', j, h1, h2, h3, h4, h5, h6, h7⟩ := blow_loop hP hw n (k + 1) c v x (by omega) R ok
      refine ⟨v', x', j, fun C => ?_, fun C => ?_, h3, h4, h5, by omega, h7⟩
      · rw [mX5_tellWind_40, if_pos (by rw [e_wind R hP (by omega), jW (by omega), i, e]), nI_s, h1, show k + 1 + n = k + (n + 1) by omega]
      · rw [mX6_blows_6, jW (by omega), i, if_pos e, set_id x _ (by rw [i, e]), lt, nI_s, Int32.add_zero, h2, show k + 1 + n = k + (n + 1) by omega]
    · obtain ⟨v', x', j, h1, h2, h3, h4, h5, h6, h7⟩ := blow_loop hP hw n (k + 1) (c + 1) (setA v 0 (upd (v 0) k (nI w))) (setA x 0 (upd (x 0) (P + (34 + k)) (nI w))) (by omega) (by rw [rowP_u]; exact Rv_wi R (by omega) _) (by rw [rowP_u]; exact ok_wi ok (by omega) ⟨w, hw, rfl⟩)
      refine ⟨v', x', j + 1, fun C => ?_, fun C => ?_, h3, h4, low_t (low_u P _ x _) h5, by omega, fun z => by omega⟩
      · rw [mX5_tellWind_40, if_neg (by rw [e_wind R hP (by omega), jW (by omega), i]; exact e), put_in _ _ (by omega) (by omega), lt, lt, nI_s, nI_s, h1, show k + 1 + n = k + (n + 1) by omega, show c + 1 + j = c + (j + 1) by omega]
      · rw [mX6_blows_6, jW (by omega), i, if_neg e, lt, nI_s, nI_s, h2, show k + 1 + n = k + (n + 1) by omega, show c + 1 + j = c + (j + 1) by omega]
theorem tq_nI {a b : Nat} (ha : a < 2147483648) (hb : b < 2147483647) : tq (nI a) (nI b) = b + 1 - a := by
  unfold tq; rw [nI_toInt ha, nI_toInt (by omega)]; omega
theorem s_blows {v x : Nat → Nat → Int32} {P : Nat} (R : Rv v (rowP x P)) (ok : okR (rowP x P)) (hP : P ≤ 200) {f t w : Nat} (ht : t < 24) (hf : f ≤ t) (hw : w ≤ 9) : SP P x v bW (mX5_tellWind v (nI f) (nI t) (nI w)) (mX6_blows x (nI P) (nI f) (nI t) (nI w)) := by
  obtain ⟨v', x', j, h1, h2, h3, h4, h5, h6, h7⟩ := blow_loop hP hw (t + 1 - f) f 0 v x (by omega) R ok
  have y1 : ∀ a, a < 24 → ¬ mX5_isHour (nI a) = 0 := fun a ha => by
    unfold mX5_isHour
    rw [if_neg (by rw [show (0 : Int32) = nI 0 from rfl, nJ_lt (by omega) (by omega)]; omega), if_neg (by rw [show (24 : Int32) = nI 24 from rfl, nJ_le (by omega) (by omega)]; omega)]; decide
  unfold mX5_tellWind mX6_blows
  rw [if_neg (y1 f (by omega)), if_neg (y1 t ht), if_pos (by rw [nJ_le (by omega) (by omega)]; exact hf), if_neg (by rw [show (0 : Int32) = nI 0 from rfl, nJ_lt (by omega) (by omega)]; omega), if_pos (by rw [show (9 : Int32) = nI 9 from rfl, nJ_le (by omega) (by omega)]; exact hw), tq_nI (by omega) (by omega)]
  rw [nI_0] at h1 h2
  rw [h1, h2, Nat.zero_add]
  by_cases j0 : j = 0
  · subst j0
    have e0 : nI 0 = 0 := rfl
    rw [if_pos e0, if_pos e0, h7 rfl]
    refine ⟨rfl, ?_, h4, h5, fun _ _ => rfl, Or.inr rfl⟩
    show Rv v (rowP x' P)
    rw [← h7 rfl]; exact h3
  · have e0 : ¬ nI j = 0 := by rw [show (0 : Int32) = nI 0 from rfl, nJ_eq (by omega) (by omega)]; exact j0
    rw [if_neg e0, if_neg e0]
    have := nI_toInt (n := j) (by omega)
    exact SP_ok h3 h4 h5 (by omega) (Or.inl (by omega))
