/-! PURE 3: shadows. -/
theorem w_2 {w : Int32} : (¬ w < 2) ↔ 2 ≤ w := by
  rw [i_lt, i_le]; omega
section SH
variable {v : Nat → Nat → Int32} {x : Nat → Nat → Int32} {P : Nat}
def sunN (h : Nat) : Prop := 6 ≤ h ∧ h ≤ 18
def dxN (h : Nat) : Int := if h < 12 then -1 else if 12 < h then 1 else 0
def dyN (h : Nat) : Int := if 10 ≤ h ∧ h ≤ 14 then -1 else 0
theorem e_east {h : Nat} (hh : h < 24) : mX2_eastward (nI h) = mX6_toEast (nI h) ∧ (mX6_toEast (nI h)).toInt = dxN h :=
  (show ∀ h : Fin 24, mX2_eastward (nI h.1) = mX6_toEast (nI h.1) ∧ (mX6_toEast (nI h.1)).toInt = dxN h.1 by decide +kernel) ⟨h, hh⟩
theorem e_south {h : Nat} (hh : h < 24) : mX2_southward (nI h) = mX6_toSouth (nI h) ∧ (mX6_toSouth (nI h)).toInt = dyN h :=
  (show ∀ h : Fin 24, mX2_southward (nI h.1) = mX6_toSouth (nI h.1) ∧ (mX6_toSouth (nI h.1)).toInt = dyN h.1 by decide +kernel) ⟨h, hh⟩
theorem e_hasSun {h : Nat} (hh : h < 24) : mX2_hasSun (nI h) = mX6_isSun (nI h) :=
  (show ∀ h : Fin 24, mX2_hasSun (nI h.1) = mX6_isSun (nI h.1) by decide +kernel) ⟨h, hh⟩
def lenN (a h : Nat) : Nat := if 6 ≤ h ∧ h ≤ 18 then (a * (if h < 12 then 12 - h else h - 12) + 1) / 2 else 0
theorem e_len0 {a h : Nat} (ha : a ≤ 5) (hh : h < 24) : mX2_length (nI a) (nI h) = nI (lenN a h) ∧ lenN a h ≤ 15 :=
  (show ∀ a : Fin 6, ∀ h : Fin 24, mX2_length (nI a.1) (nI h.1) = nI (lenN a.1 h.1) ∧ lenN a.1 h.1 ≤ 15 by decide +kernel) ⟨a, by omega⟩ ⟨h, hh⟩
def rcR (a h : Int32) : Int32 := (if 12 ≤ h then (if (mX6_isSun h) = 0 then 0 else (((a * (h - 12)) + 1) / 2)) else (if (mX6_isSun h) = 0 then 0 else (((a * (12 - h)) + 1) / 2)))
theorem e_len1 {a h : Nat} (ha : a ≤ 5) (hh : h < 24) : rcR (nI a) (nI h) = nI (lenN a h) :=
  (show ∀ a : Fin 6, ∀ h : Fin 24, rcR (nI a.1) (nI h.1) = nI (lenN a.1 h.1) by decide +kernel) ⟨a, by omega⟩ ⟨h, hh⟩
theorem e_reach {m h : Nat} (hh : h < 24) {a : Nat} (ha : a ≤ 5) (e : x 0 ((((nI P + 1) + (3 * nI m)) + 0)).toNatClampNeg = nI a) : mX6_reach x (nI P) (nI m) (nI h) = nI (lenN a h) := by
  unfold mX6_reach
  rw [e]
  exact e_len1 ha hh
/-- a truth value told as 1 or 0 -/
def dec (r : Int32) (L : Prop) : Prop := (r = 1 ∧ L) ∨ (r = 0 ∧ ¬ L)
theorem dec_eq {r s : Int32} {L : Prop} (h1 : dec r L) (h2 : dec s L) : r = s := by
  rcases h1 with ⟨a, b⟩ | ⟨a, b⟩ <;> rcases h2 with ⟨c, d⟩ | ⟨c, d⟩
  · rw [a, c]
  · exact absurd b d
  · exact absurd d b
  · rw [a, c]
theorem dec_iff {r : Int32} {L K : Prop} (h1 : dec r L) (h : L ↔ K) : dec r K := by
  rcases h1 with ⟨a, b⟩ | ⟨a, b⟩
  · exact Or.inl ⟨a, h.mp b⟩
  · exact Or.inr ⟨a, fun z => b (h.mpr z)⟩
def onRay (X Y dx dy : Int) (n : Nat) (px py : Int) : Prop := ∃ j : Int, 1 ≤ j ∧ j ≤ n ∧ X = px + j * dx ∧ Y = py + j * dy
theorem onRay_s {X Y dx dy : Int} {n : Nat} {px py : Int} : onRay X Y dx dy (n + 1) px py ↔ (X = px + dx ∧ Y = py + dy) ∨ onRay X Y dx dy n (px + dx) (py + dy) := by
  constructor
  · rintro ⟨j, h1, h2, h3, h4⟩
    by_cases hj : j = 1
    · subst hj; left; omega
    · right
      refine ⟨j - 1, by omega, by omega, ?_, ?_⟩
      · rw [Int.sub_mul]; omega
      · rw [Int.sub_mul]; omega
  · rintro (⟨h1, h2⟩ | ⟨j, h1, h2, h3, h4⟩)
    · exact ⟨1, by omega, by omega, by omega, by omega⟩
    · refine ⟨j + 1, by omega, by omega, ?_, ?_⟩
      · rw [Int.add_mul]; omega
      · rw [Int.add_mul]; omega
def isDir (dx dy : Int) : Prop := (dx = -1 ∧ dy = 0) ∨ (dx = -1 ∧ dy = -1) ∨ (dx = 0 ∧ dy = -1) ∨ (dx = 1 ∧ dy = -1) ∨ (dx = 1 ∧ dy = 0)
theorem onRay_out {X Y dx dy : Int} {n : Nat} {px py : Int} (hd : isDir dx dy) (hX : 0 ≤ X ∧ X < 12) (hY : 0 ≤ Y ∧ Y < 8) (hp : 0 ≤ px ∧ px < 12 ∧ 0 ≤ py ∧ py < 8) (ho : ¬ (0 ≤ px + dx ∧ px + dx < 12 ∧ 0 ≤ py + dy ∧ py + dy < 8)) : ¬ onRay X Y dx dy (n + 1) px py := by
  rintro ⟨j, h1, h2, h3, h4⟩
  rcases hd with ⟨rfl, rfl⟩ | ⟨rfl, rfl⟩ | ⟨rfl, rfl⟩ | ⟨rfl, rfl⟩ | ⟨rfl, rfl⟩ <;> omega
theorem met_loop {h : Nat} (hh : h < 24) (hd : isDir (dxN h) (dyN h)) {yard : Int32} {X Y : Int} (hy : yard.toInt = 12 * Y + X) (hX : 0 ≤ X ∧ X < 12) (hY : 0 ≤ Y ∧ Y < 8) : ∀ (n : Nat) (c y x : Int32) (px py : Int), x.toInt = px → y.toInt = py → (0 ≤ px ∧ px < 12 ∧ 0 ≤ py ∧ py < 8) → dec (mX2_isMetOnTheWalk_22 yard (nI h) (fun _ _ _ => 0) n c y x) (onRay X Y (dxN h) (dyN h) n px py)
  | 0, c, y, x, px, py, _, _, _ => Or.inr ⟨rfl, fun ⟨j, h1, h2, _⟩ => by omega⟩
  | n + 1, c, y, x, px, py, ex, ey, hp => by
    have e1 := (e_east hh).2
    have e2 := (e_south hh).2
    rw [← (e_east hh).1] at e1
    rw [← (e_south hh).1] at e2
    have b1 : -1 ≤ dxN h ∧ dxN h ≤ 1 := by rcases hd with z | z | z | z | z <;> omega
    have b2 : -1 ≤ dyN h ∧ dyN h ≤ 1 := by rcases hd with z | z | z | z | z <;> omega
    have ux : (x + mX2_eastward (nI h)).toInt = px + dxN h := ti_add ex e1 (by omega)
    have uy : (y + mX2_southward (nI h)).toInt = py + dyN h := ti_add ey e2 (by omega)
    have k0 : (0 : Int32).toInt = 0 := rfl
    have k8 : (8 : Int32).toInt = 8 := rfl
    have k12 : (12 : Int32).toInt = 12 := rfl
    rw [mX2_isMetOnTheWalk_22]
    by_cases c1 : (x + mX2_eastward (nI h)) < 0
    · rw [if_pos c1]; rw [i_lt] at c1
      exact Or.inr ⟨rfl, onRay_out hd hX hY hp (by omega)⟩
    · rw [if_neg c1]; rw [i_lt] at c1
      by_cases c2 : 12 ≤ (x + mX2_eastward (nI h))
      · rw [if_pos c2]; rw [i_le] at c2
        exact Or.inr ⟨rfl, onRay_out hd hX hY hp (by omega)⟩
      · rw [if_neg c2]; rw [i_le] at c2
        by_cases c3 : (y + mX2_southward (nI h)) < 0
        · rw [if_pos c3]; rw [i_lt] at c3
          exact Or.inr ⟨rfl, onRay_out hd hX hY hp (by omega)⟩
        · rw [if_neg c3]; rw [i_lt] at c3
          by_cases c4 : (y + mX2_southward (nI h)) < 8
          · rw [if_pos c4]; rw [i_lt] at c4
            have us : ((12 * (y + (mX2_southward (nI h)))) + (x + (mX2_eastward (nI h)))).toInt = 12 * (py + dyN h) + (px + dxN h) := ti_add (ti_mul k12 uy (by omega)) ux (by omega)
            by_cases c5 : ((12 * (y + (mX2_southward (nI h)))) + (x + (mX2_eastward (nI h)))) = yard
            · rw [if_pos c5]; rw [i_eq, us, hy] at c5
              exact Or.inl ⟨rfl, onRay_s.mpr (Or.inl (by omega))⟩
            · rw [if_neg c5]; rw [i_eq, us, hy] at c5
              refine dec_iff (met_loop hh hd hy hX hY n _ _ _ _ _ ux uy (by omega)) ⟨fun z => onRay_s.mpr (Or.inr z), fun z => ?_⟩
              rcases onRay_s.mp z with z | z
              · exact absurd (by omega) c5
              · exact z
          · rw [if_neg c4]; rw [i_lt] at c4
            exact Or.inr ⟨rfl, onRay_out hd hX hY hp (by omega)⟩
theorem walks_1 {yard hour : Int32} : ∀ (n : Nat) (c y x : Int32), mX6_walks_33 yard hour (fun _ b _ _ => b) n c 1 y x = 1
  | 0, c, y, x => rfl
  | n + 1, c, y, x => by
    rw [mX6_walks_33, if_neg (by decide)]
    exact walks_1 n _ _ _
theorem in_iff {a b c : Int32} : mX6_in a b c = 0 ↔ ¬ (b.toInt ≤ a.toInt ∧ a.toInt ≤ c.toInt) := by
  unfold mX6_in
  by_cases h1 : a < b
  · rw [if_pos h1]; rw [i_lt] at h1; simp; omega
  · rw [if_neg h1]; rw [i_lt] at h1
    by_cases h2 : c < a
    · rw [if_pos h2]; rw [i_lt] at h2; simp; omega
    · rw [if_neg h2]; rw [i_lt] at h2
      constructor
      · intro z; exact absurd z (by decide)
      · intro z; omega
theorem walks_loop {h : Nat} (hh : h < 24) {yard : Int32} {X Y : Int} (hy : yard.toInt = 12 * Y + X) (hX : 0 ≤ X ∧ X < 12) (hY : 0 ≤ Y ∧ Y < 8) : ∀ (n : Nat) (c y x : Int32) (px py : Int), x.toInt = px → y.toInt = py → (n ≤ 50 ∧ -(100 - (n : Int)) ≤ px ∧ px ≤ 100 - n ∧ -(100 - (n : Int)) ≤ py ∧ py ≤ 100 - n) → dec (mX6_walks_33 yard (nI h) (fun _ b _ _ => b) n c 0 y x) (onRay X Y (dxN h) (dyN h) n px py)
  | 0, c, y, x, px, py, _, _, _ => Or.inr ⟨rfl, fun ⟨j, h1, h2, _⟩ => by omega⟩
  | n + 1, c, y, x, px, py, ex, ey, hp => by
    have e1 := (e_east hh).2
    have e2 := (e_south hh).2
    have b1 : -1 ≤ dxN h ∧ dxN h ≤ 1 := by unfold dxN; split <;> (try split) <;> omega
    have b2 : -1 ≤ dyN h ∧ dyN h ≤ 1 := by unfold dyN; split <;> omega
    have ux : (x + mX6_toEast (nI h)).toInt = px + dxN h := ti_add ex e1 (by omega)
    have uy : (y + mX6_toSouth (nI h)).toInt = py + dyN h := ti_add ey e2 (by omega)
    have k0 : (0 : Int32).toInt = 0 := rfl
    have k7 : (7 : Int32).toInt = 7 := rfl
    have k11 : (11 : Int32).toInt = 11 := rfl
    have k12 : (12 : Int32).toInt = 12 := rfl
    have us : ((12 * (y + (mX6_toSouth (nI h)))) + (x + (mX6_toEast (nI h)))).toInt = 12 * (py + dyN h) + (px + dxN h) := ti_add (ti_mul k12 uy (by omega)) ux (by omega)
    have ih := walks_loop hh hy hX hY n (c + 1) _ _ _ _ ux uy (by omega)
    rw [mX6_walks_33, if_pos rfl]
    have miss : ¬ (X = px + dxN h ∧ Y = py + dyN h) → dec (mX6_walks_33 yard (nI h) (fun _ b _ _ => b) n (c + 1) 0 (y + mX6_toSouth (nI h)) (x + mX6_toEast (nI h))) (onRay X Y (dxN h) (dyN h) (n + 1) px py) := fun c5 =>
      dec_iff ih ⟨fun z => onRay_s.mpr (Or.inr z), fun z => (onRay_s.mp z).resolve_left c5⟩
    by_cases c1 : mX6_in (x + mX6_toEast (nI h)) 0 11 = 0
    · rw [if_pos c1]; rw [in_iff] at c1
      exact miss (by omega)
    · rw [if_neg c1]; rw [in_iff] at c1
      by_cases c2 : mX6_in (y + mX6_toSouth (nI h)) 0 7 = 0
      · rw [if_pos c2]; rw [in_iff] at c2
        exact miss (by omega)
      · rw [if_neg c2]; rw [in_iff] at c2
        by_cases c5 : ((12 * (y + (mX6_toSouth (nI h)))) + (x + (mX6_toEast (nI h)))) = yard
        · rw [if_pos c5, walks_1]; rw [i_eq, us, hy] at c5
          exact Or.inl ⟨rfl, onRay_s.mpr (Or.inl (by omega))⟩
        · rw [if_neg c5]; rw [i_eq, us, hy] at c5
          exact miss (by omega)
theorem dir_h {h : Nat} (hs : 6 ≤ h ∧ h ≤ 18) : isDir (dxN h) (dyN h) := by
  obtain ⟨h1, h2⟩ := hs
  have : ∀ k : Fin 13, ((dxN (6 + k.1) = -1 ∧ dyN (6 + k.1) = 0) ∨ (dxN (6 + k.1) = -1 ∧ dyN (6 + k.1) = -1) ∨ (dxN (6 + k.1) = 0 ∧ dyN (6 + k.1) = -1) ∨ (dxN (6 + k.1) = 1 ∧ dyN (6 + k.1) = -1) ∨ (dxN (6 + k.1) = 1 ∧ dyN (6 + k.1) = 0)) := by decide
  have := this ⟨h - 6, by omega⟩
  rw [show 6 + (⟨h - 6, by omega⟩ : Fin 13).1 = h by show 6 + (h - 6) = h; omega] at this
  exact this
def farN (e s : Int) : Int := max (e.natAbs : Int) s.natAbs
theorem apart_t {a b : Nat} (ha : a < 96) (hb : b < 96) : (mX6_apart (nI a) (nI b)).toInt = farN ((a % 12 : Nat) - (b % 12 : Nat) : Int) ((a / 12 : Nat) - (b / 12 : Nat) : Int) := by
  have k0 : (0 : Int32).toInt = 0 := rfl
  have k12 : (12 : Int32).toInt = 12 := rfl
  have ea : (nI a).toInt = a := nI_toInt (by omega)
  have eb : (nI b).toInt = b := nI_toInt (by omega)
  have a1 := ti_rem ea k12 (by omega) (by omega)
  have a2 := ti_rem eb k12 (by omega) (by omega)
  have a3 := ti_div ea k12 (by omega) (by omega)
  have a4 := ti_div eb k12 (by omega) (by omega)
  have a5 := ti_sub a1 a2 (by omega)
  have a6 := ti_sub a3 a4 (by omega)
  have a7 : (-((nI a - nI a / 12 * 12) - (nI b - nI b / 12 * 12))).toInt = -((a : Int) % 12 - (b : Int) % 12) := by
    rw [← Int32.zero_sub]
    rw [ti_sub k0 a5 (by omega)]; omega
  have a8 : (-((nI a / 12) - (nI b / 12))).toInt = -((a : Int) / 12 - (b : Int) / 12) := by
    rw [← Int32.zero_sub]
    rw [ti_sub k0 a6 (by omega)]; omega
  unfold mX6_apart farN
  revert a5 a6 a7 a8
  generalize (nI a - nI a / 12 * 12) - (nI b - nI b / 12 * 12) = E
  generalize (nI a / 12) - (nI b / 12) = S
  intro a5 a6 a7 a8
  simp only [i_le]
  split <;> split <;> split <;> omega
theorem lies_ray {dx dy : Int} (hd : isDir dx dy) {e s : Int} {n : Nat} {px py X Y : Int} (he : e = X - px) (hs : s = Y - py) : (¬ farN e s ≤ 0 ∧ ¬ (n : Int) < farN e s ∧ e = farN e s * dx ∧ s = farN e s * dy) ↔ onRay X Y dx dy n px py := by
  unfold farN onRay
  constructor
  · rintro ⟨h1, h2, h3, h4⟩
    refine ⟨max (e.natAbs : Int) s.natAbs, by omega, by omega, ?_, ?_⟩
    · rw [← h3]; omega
    · rw [← h4]; omega
  · rintro ⟨j, h1, h2, h3, h4⟩
    rcases hd with ⟨rfl, rfl⟩ | ⟨rfl, rfl⟩ | ⟨rfl, rfl⟩ | ⟨rfl, rfl⟩ | ⟨rfl, rfl⟩ <;> omega
theorem ray_0 {X Y dx dy px py : Int} : ¬ onRay X Y dx dy 0 px py := fun ⟨j, h1, h2, _⟩ => by omega
theorem len_sun {b h : Nat} (hs : ¬ (6 ≤ h ∧ h ≤ 18)) : lenN b h = 0 := by unfold lenN; rw [if_neg hs]
theorem d_met {a b y h : Nat} (ha : a < 96) (hb : b ≤ 5) (hy : y < 96) (hh : h < 24) : dec (mX2_isMetOnTheWalk (nI a) (nI b) (nI y) (nI h)) (onRay ((y % 12 : Nat) : Int) ((y / 12 : Nat) : Int) (dxN h) (dyN h) (lenN b h) ((a % 12 : Nat) : Int) ((a / 12 : Nat) : Int)) := by
  unfold mX2_isMetOnTheWalk
  have e0 := e_len0 hb hh
  have et : tq 1 (nI (lenN b h)) = lenN b h := by
    unfold tq; rw [nI_toInt (by omega)]; have : (1 : Int32).toInt = 1 := rfl; omega
  rw [e0.1, et]
  have k12 : (12 : Int32).toInt = 12 := rfl
  have ea : (nI a).toInt = a := nI_toInt (by omega)
  have ey : (nI y).toInt = y := nI_toInt (by omega)
  have a1 := ti_rem ea k12 (by omega) (by omega)
  have a3 := ti_div ea k12 (by omega) (by omega)
  by_cases hs : 6 ≤ h ∧ h ≤ 18
  · exact met_loop hh (dir_h hs) (by rw [ey]; omega) (by omega) (by omega) _ _ _ _ _ _ (by rw [a1]; omega) (by rw [a3]; omega) (by omega)
  · rw [len_sun hs]
    exact Or.inr ⟨rfl, ray_0⟩
theorem d_walks {m a b y h : Nat} (ha : a < 96) (hb : b ≤ 5) (hy : y < 96) (hh : h < 24) (e1 : x 0 ((((nI P + 1) + (3 * nI m)) + 1)).toNatClampNeg = nI a) (e0 : x 0 ((((nI P + 1) + (3 * nI m)) + 0)).toNatClampNeg = nI b) : dec (mX6_walks x (nI P) (nI m) (nI y) (nI h)) (onRay ((y % 12 : Nat) : Int) ((y / 12 : Nat) : Int) (dxN h) (dyN h) (lenN b h) ((a % 12 : Nat) : Int) ((a / 12 : Nat) : Int)) := by
  unfold mX6_walks
  have e2 := (e_len0 hb hh).2
  rw [e_reach hh hb e0, e1, tr_0 (by omega)]
  have k12 : (12 : Int32).toInt = 12 := rfl
  have ea : (nI a).toInt = a := nI_toInt (by omega)
  have ey : (nI y).toInt = y := nI_toInt (by omega)
  have a1 := ti_rem ea k12 (by omega) (by omega)
  have a3 := ti_div ea k12 (by omega) (by omega)
  exact walks_loop hh (by rw [ey]; omega) (by omega) (by omega) _ _ _ _ _ _ (by rw [a1]; omega) (by rw [a3]; omega) (by omega)
theorem far_b {e s : Int} (he : -12 < e ∧ e < 12) (hs : -8 < s ∧ s < 8) : 0 ≤ farN e s ∧ farN e s < 12 := by unfold farN; omega
theorem farN_neg (e s : Int) : farN (-e) (-s) = farN e s := by unfold farN; omega
theorem d_lies {m a b y h : Nat} (ha : a < 96) (hb : b ≤ 5) (hy : y < 96) (hh : h < 24) (e1 : x 0 ((((nI P + 1) + (3 * nI m)) + 1)).toNatClampNeg = nI a) (e0 : x 0 ((((nI P + 1) + (3 * nI m)) + 0)).toNatClampNeg = nI b) : dec (mX6_lies x (nI P) (nI m) (nI y) (nI h)) (onRay ((y % 12 : Nat) : Int) ((y / 12 : Nat) : Int) (dxN h) (dyN h) (lenN b h) ((a % 12 : Nat) : Int) ((a / 12 : Nat) : Int)) := by
  have e2 := (e_len0 hb hh).2
  unfold mX6_lies
  rw [e_reach hh hb e0, e1]
  have k12 : (12 : Int32).toInt = 12 := rfl
  have k0 : (0 : Int32).toInt = 0 := rfl
  have ea : (nI a).toInt = a := nI_toInt (by omega)
  have ey : (nI y).toInt = y := nI_toInt (by omega)
  have en : (nI (lenN b h)).toInt = lenN b h := nI_toInt (by omega)
  have a1 := ti_rem ea k12 (by omega) (by omega)
  have a2 := ti_rem ey k12 (by omega) (by omega)
  have a3 := ti_div ea k12 (by omega) (by omega)
  have a4 := ti_div ey k12 (by omega) (by omega)
  have a5 := ti_sub a2 a1 (by omega)
  have a6 := ti_sub a4 a3 (by omega)
  have ap := apart_t ha hy
  have fb := far_b (e := ((a % 12 : Nat) - (y % 12 : Nat) : Int)) (s := ((a / 12 : Nat) - (y / 12 : Nat) : Int)) (by omega) (by omega)
  have de := (e_east hh).2
  have ds := (e_south hh).2
  have b1 : -1 ≤ dxN h ∧ dxN h ≤ 1 := by unfold dxN; split <;> (try split) <;> omega
  have b2 : -1 ≤ dyN h ∧ dyN h ≤ 1 := by unfold dyN; split <;> omega
  have fx : -12 < farN ((a % 12 : Nat) - (y % 12 : Nat) : Int) ((a / 12 : Nat) - (y / 12 : Nat) : Int) * dxN h ∧ farN ((a % 12 : Nat) - (y % 12 : Nat) : Int) ((a / 12 : Nat) - (y / 12 : Nat) : Int) * dxN h < 12 := by
    rcases (show dxN h = -1 ∨ dxN h = 0 ∨ dxN h = 1 by omega) with z | z | z <;> rw [z] <;> omega
  have fy : -12 < farN ((a % 12 : Nat) - (y % 12 : Nat) : Int) ((a / 12 : Nat) - (y / 12 : Nat) : Int) * dyN h ∧ farN ((a % 12 : Nat) - (y % 12 : Nat) : Int) ((a / 12 : Nat) - (y / 12 : Nat) : Int) * dyN h < 12 := by
    rcases (show dyN h = -1 ∨ dyN h = 0 ∨ dyN h = 1 by omega) with z | z | z <;> rw [z] <;> omega
  have m1 := ti_mul ap de (by omega)
  have m2 := ti_mul ap ds (by omega)
  simp only [i_le, i_lt, i_eq]
  rw [ap, en, a5, a6, m1, m2, k0]
  have hf : farN ((a % 12 : Nat) - (y % 12 : Nat) : Int) ((a / 12 : Nat) - (y / 12 : Nat) : Int) = farN ((y : Int) % 12 - (a : Int) % 12) ((y : Int) / 12 - (a : Int) / 12) := by
    rw [← farN_neg]; congr 1 <;> omega
  rw [hf]
  by_cases hs : 6 ≤ h ∧ h ≤ 18
  · have key := lies_ray (dir_h hs) (e := ((y : Int) % 12 - (a : Int) % 12)) (s := ((y : Int) / 12 - (a : Int) / 12)) (n := lenN b h) (px := ((a % 12 : Nat) : Int)) (py := ((a / 12 : Nat) : Int)) (X := ((y % 12 : Nat) : Int)) (Y := ((y / 12 : Nat) : Int)) (by omega) (by omega)
    by_cases c1 : farN ((y : Int) % 12 - (a : Int) % 12) ((y : Int) / 12 - (a : Int) / 12) ≤ 0
    · rw [if_pos c1]; exact Or.inr ⟨rfl, fun z => (key.mpr z).1 c1⟩
    · rw [if_neg c1]
      by_cases c2 : (lenN b h : Int) < farN ((y : Int) % 12 - (a : Int) % 12) ((y : Int) / 12 - (a : Int) / 12)
      · rw [if_pos c2]; exact Or.inr ⟨rfl, fun z => (key.mpr z).2.1 c2⟩
      · rw [if_neg c2]
        by_cases c3 : ((y : Int) % 12 - (a : Int) % 12) = farN ((y : Int) % 12 - (a : Int) % 12) ((y : Int) / 12 - (a : Int) / 12) * dxN h
        · rw [if_pos c3]
          by_cases c4 : ((y : Int) / 12 - (a : Int) / 12) = farN ((y : Int) % 12 - (a : Int) % 12) ((y : Int) / 12 - (a : Int) / 12) * dyN h
          · rw [if_pos c4]; exact Or.inl ⟨rfl, key.mp ⟨c1, c2, c3, c4⟩⟩
          · rw [if_neg c4]; exact Or.inr ⟨rfl, fun z => c4 (key.mpr z).2.2.2⟩
        · rw [if_neg c3]; exact Or.inr ⟨rfl, fun z => c3 (key.mpr z).2.2.1⟩
  · rw [len_sun hs]
    by_cases c1 : farN ((y : Int) % 12 - (a : Int) % 12) ((y : Int) / 12 - (a : Int) / 12) ≤ 0
    · rw [if_pos c1]; exact Or.inr ⟨rfl, ray_0⟩
    · rw [if_neg c1, if_pos (by omega)]; exact Or.inr ⟨rfl, ray_0⟩
theorem liesThere_eq {a b : Int32} {y h m : Nat} (hh : h < 24) (e1 : x 0 ((((nI P + 1) + (3 * nI m)) + 1)).toNatClampNeg = a) (e2 : mX6_reach x (nI P) (nI m) (nI h) = mX2_length b (nI h)) : mX2_liesThere a b (nI y) (nI h) = mX6_lies x (nI P) (nI m) (nI y) (nI h) := by
  unfold mX2_liesThere mX6_lies
  rw [e1, e2, e_distance, (e_east hh).1, (e_south hh).1]
  generalize mX6_apart a (nI y) = f
  have e0 : (0 : Int32).toInt = 0 := rfl
  have e1 : (1 : Int32).toInt = 1 := rfl
  by_cases c1 : f < 1
  · have c1' : f ≤ 0 := by rw [i_lt] at c1; rw [i_le]; omega
    simp [c1, c1']
  · have c1' : ¬ f ≤ 0 := by rw [i_lt] at c1; rw [i_le]; omega
    by_cases c2 : mX2_length b (nI h) < f
    · simp [c1, c1', c2]
    · simp [c1, c1', c2]
theorem mcell (R : Rv v (rowP x P)) (ok : okR (rowP x P)) (hP : P ≤ 200) {m : Nat} (hm : m < 4) : ∃ a b, a < 96 ∧ b ≤ 5 ∧ mX5_at 4 (v 4) (nI m) = nI a ∧ x 0 ((((nI P + 1) + (3 * nI m)) + 1)).toNatClampNeg = nI a ∧ mX5_at 4 (v 3) (nI m) = nI b ∧ x 0 ((((nI P + 1) + (3 * nI m)) + 0)).toNatClampNeg = nI b := by
  obtain ⟨a, ha, ea⟩ := ok.my m hm
  obtain ⟨b, hb, eb⟩ := ok.he m hm
  have e1 := e_myard R hP hm
  have e0 := e_height R hP hm
  rw [at_in _ hm (by omega), R.my m hm, ea] at e1
  rw [at_in _ hm (by omega), R.he m hm, eb] at e0
  refine ⟨a, b, ha, hb, ?_, e1.symm, ?_, e0.symm⟩
  · rw [at_in _ hm (by omega), R.my m hm, ea]
  · rw [at_in _ hm (by omega), R.he m hm, eb]
theorem e_met (R : Rv v (rowP x P)) (ok : okR (rowP x P)) (hP : P ≤ 200) {m y h : Nat} (hm : m < 4) (hy : y < 96) (hh : h < 24) : mX2_isMetOnTheWalk (mX5_at 4 (v 4) (nI m)) (mX5_at 4 (v 3) (nI m)) (nI y) (nI h) = mX6_walks x (nI P) (nI m) (nI y) (nI h) := by
  obtain ⟨a, b, ha, hb, e1, e2, e3, e4⟩ := mcell R ok hP hm
  rw [e1, e3]
  exact dec_eq (d_met ha hb hy hh) (d_walks ha hb hy hh e2 e4)
theorem e_liesW (R : Rv v (rowP x P)) (ok : okR (rowP x P)) (hP : P ≤ 200) {m y h : Nat} (hm : m < 4) (hy : y < 96) (hh : h < 24) : mX6_lies x (nI P) (nI m) (nI y) (nI h) = mX6_walks x (nI P) (nI m) (nI y) (nI h) := by
  obtain ⟨a, b, ha, hb, e1, e2, e3, e4⟩ := mcell R ok hP hm
  exact dec_eq (d_lies ha hb hy hh e2 e4) (d_walks ha hb hy hh e2 e4)
theorem e_lies (R : Rv v (rowP x P)) (ok : okR (rowP x P)) (hP : P ≤ 200) {m y h : Nat} (hm : m < 4) (hy : y < 96) (hh : h < 24) : mX2_liesThere (mX5_at 4 (v 4) (nI m)) (mX5_at 4 (v 3) (nI m)) (nI y) (nI h) = mX6_lies x (nI P) (nI m) (nI y) (nI h) := by
  obtain ⟨a, b, ha, hb, e1, e2, e3, e4⟩ := mcell R ok hP hm
  rw [e1, e3]
  exact liesThere_eq hh e2 (by rw [e_reach hh hb e4, (e_len0 hb hh).1])
theorem z_walks (R : Rv v (rowP x P)) (ok : okR (rowP x P)) (hP : P ≤ 200) {m y h : Nat} (hm : m < 4) (hy : y < 96) (hh : h < 24) : mX6_walks x (nI P) (nI m) (nI y) (nI h) = 0 ∨ mX6_walks x (nI P) (nI m) (nI y) (nI h) = 1 := by
  obtain ⟨a, b, ha, hb, e1, e2, e3, e4⟩ := mcell R ok hP hm
  rcases d_walks ha hb hy hh e2 e4 with z | z
  · exact Or.inr z.1
  · exact Or.inl z.1
theorem hcell (R : Rv v (rowP x P)) (ok : okR (rowP x P)) (hP : P ≤ 200) {m : Nat} (hm : m < 10) : ∃ a, a < 96 ∧ mX5_at 10 (v 6) (nI m) = nI a ∧ x 0 ((((nI P + 14) + (2 * nI m)) + 0)).toNatClampNeg = nI a := by
  obtain ⟨a, ha, ea⟩ := ok.hy m hm
  have e1 := e_hyard R hP hm
  rw [at_in _ hm (by omega), R.hy m hm, ea] at e1
  exact ⟨a, ha, by rw [at_in _ hm (by omega), R.hy m hm, ea], e1.symm⟩
theorem e_troubles (R : Rv v (rowP x P)) (ok : okR (rowP x P)) (hP : P ≤ 200) {a m k h : Nat} (ha : a < 10) (hm : m < 4) (hk : k < 2) (hh : h < 24) : mX4_troublesIfUntied v (nI m) (nI a) (nI k) (nI h) = mX6_wouldTrouble x (nI P) (nI a) (nI m) (nI k) (nI h) := by
  obtain ⟨y, hy, e1, e2⟩ := hcell R ok hP ha
  unfold mX4_troublesIfUntied mX6_wouldTrouble
  rw [e1, e2, e_loud R hP hm hh, e_borne R hP, e_blows R hP hh, e_lies R ok hP hm hy hh, e_liesW R ok hP hm hy hh]
  have hb : (0 : Int32) ≤ mX6_borne x (nI P) (nI h) := by
    have hb : ∃ n, n ≤ 99 ∧ mX6_borne x (nI P) (nI h) = nI n := by
      rw [← e_borne R hP]
      unfold mX4_borneNoise
      obtain ⟨n0, h0, f0⟩ := ok.se 0 (by omega)
      obtain ⟨n1, h1, f1⟩ := ok.se 1 (by omega)
      have g0 := e_setting R (k := 0) (by omega)
      have g1 := e_setting R (k := 1) (by omega)
      rw [show x 0 (P + (58 + 0)) = nI n0 from f0] at g0
      rw [show x 0 (P + (58 + 1)) = nI n1 from f1] at g1
      rw [show mX4_setting v 1 = nI n1 from g1, show mX4_setting v 0 = nI n0 from g0]
      split
      · exact ⟨_, h1, rfl⟩
      · split
        · exact ⟨_, h0, rfl⟩
        · exact ⟨_, h1, rfl⟩
    obtain ⟨n, hn, e⟩ := hb
    rw [e, i_le, nI_toInt (by omega)]
    have : (0 : Int32).toInt = 0 := rfl
    omega
  have hw := z_walks R ok hP hm hy hh
  revert hw hb
  generalize mX6_walks x (nI P) (nI m) (nI y) (nI h) = W
  generalize mX6_borne x (nI P) (nI h) = B
  generalize mX6_loud x (nI P) (nI m) (nI y) (nI h) = U
  generalize x 0 (((nI P + 34) + nI h)).toNatClampNeg = w
  intro hb hw
  have k1 : ¬ nI 1 = 0 := by decide
  have k0 : nI 0 = 0 := rfl
  by_cases c1 : w < 2
  · have c2 : ¬ 2 ≤ w := fun z => (w_2.mpr z) c1
    rcases (show k = 0 ∨ k = 1 by omega) with rfl | rfl
    · simp [c1, c2, k0, hb]
    · simp [c1, c2, k1]
  · have c2 := w_2.mp c1
    rcases (show k = 0 ∨ k = 1 by omega) with rfl | rfl
    · simp [c1, c2, k0]
    · rcases hw with z | z
      · simp [c1, c2, k1, z]
      · simp [c1, c2, k1, z]
end SH
