/-! PURE 0: the mirrors of the model, as functions alone (a ghost beside the class). -/
/-- how many mills and houses the row at p has -/
def cntP (x : Nat → Nat → Int32) (p : Int32) : Prop := (0 ≤ (x 0 (p + 0).toNatClampNeg).toInt ∧ (x 0 (p + 0).toNatClampNeg).toInt < 5) ∧ (0 ≤ (x 0 (p + 13).toNatClampNeg).toInt ∧ (x 0 (p + 13).toNatClampNeg).toInt < 11)
def mX6_in (a1 a2 a3 : Int32) : Int32 := (if a1 < a2 then 0 else (if a3 < a1 then 0 else 1))
theorem zX6_in (a b c : Int32) : mX6_in a b c = 0 ∨ mX6_in a b c = 1 := by
  unfold mX6_in
  repeat' split
  all_goals first | exact Or.inl rfl | exact Or.inr rfl
theorem f6_in {a b c : Int32} (h : ¬ mX6_in a b c = 0) : b.toInt ≤ a.toInt ∧ a.toInt ≤ c.toInt := by
  unfold mX6_in at h
  by_cases h1 : a < b
  · rw [if_pos h1] at h; exact absurd rfl h
  · rw [if_neg h1] at h
    by_cases h2 : c < a
    · rw [if_pos h2] at h; exact absurd rfl h
    · rw [i_lt] at h1 h2; omega
def mX6_isYard (a1 : Int32) : Int32 := (mX6_in a1 0 95)
def mX6_isHour (a1 : Int32) : Int32 := (mX6_in a1 0 23)
theorem f6_isHour {a : Int32} (h : ¬ mX6_isHour a = 0) : 0 ≤ a.toInt ∧ a.toInt < 24 := by
  have h1 := f6_in (a := a) (b := 0) (c := 23) h
  have e0 : (0 : Int32).toInt = 0 := rfl
  have e1 : (23 : Int32).toInt = 23 := rfl
  omega
def mX6_isSun (a1 : Int32) : Int32 := (mX6_in a1 6 18)
def mX6_isRight (a1 a2 : Int32) : Int32 := (if (mX6_in a1 0 1) = 0 then 0 else (if (mX6_isHour a2) = 0 then 0 else 1))
def mX6_ofMill (a1 a2 a3 : Int32) : Int32 := (((a1 + 1) + (3 * a2)) + a3)
def mX6_ofHouse (a1 a2 a3 : Int32) : Int32 := (((a1 + 14) + (2 * a2)) + a3)
def mX6_stands (a1 a2 a3 a4 : Int32) : Int32 := ((((a1 + 68) + (8 * a2)) + (2 * a3)) + a4)
def mX6_ones_4 (a1 : Int32) (C : Int32 → Int32 → Int32) : Nat → Int32 → Int32 → Int32
  | 0, x2_4, x1_4 => C x2_4 x1_4
  | n_4 + 1, x2_4, x1_4 => (mX6_ones_4 a1 C n_4 (x2_4 + 1) (x1_4 + ((a1 >>> (x2_4 &&& 31)) &&& 1)))
def mX6_ones (a1 : Int32) : Int32 := (mX6_ones_4 a1 (fun x2_4 x1_4 => x1_4) (tr 0 24) 0 0)
def mX6_apart (a1 a2 : Int32) : Int32 := (if 0 ≤ ((a1 - a1 / 12 * 12) - (a2 - a2 / 12 * 12)) then (if 0 ≤ ((a1 / 12) - (a2 / 12)) then (if ((a1 - a1 / 12 * 12) - (a2 - a2 / 12 * 12)) ≤ ((a1 / 12) - (a2 / 12)) then ((a1 / 12) - (a2 / 12)) else ((a1 - a1 / 12 * 12) - (a2 - a2 / 12 * 12))) else (if ((a1 - a1 / 12 * 12) - (a2 - a2 / 12 * 12)) ≤ (-((a1 / 12) - (a2 / 12))) then (-((a1 / 12) - (a2 / 12))) else ((a1 - a1 / 12 * 12) - (a2 - a2 / 12 * 12)))) else (if 0 ≤ ((a1 / 12) - (a2 / 12)) then (if (-((a1 - a1 / 12 * 12) - (a2 - a2 / 12 * 12))) ≤ ((a1 / 12) - (a2 / 12)) then ((a1 / 12) - (a2 / 12)) else (-((a1 - a1 / 12 * 12) - (a2 - a2 / 12 * 12)))) else (if (-((a1 - a1 / 12 * 12) - (a2 - a2 / 12 * 12))) ≤ (-((a1 / 12) - (a2 / 12))) then (-((a1 / 12) - (a2 / 12))) else (-((a1 - a1 / 12 * 12) - (a2 - a2 / 12 * 12))))))
def mX6_toEast (a1 : Int32) : Int32 := (if 12 ≤ a1 then (if a1 ≤ 12 then 0 else 1) else (-1))
def mX6_toSouth (a1 : Int32) : Int32 := (if (mX6_in a1 10 14) = 0 then 0 else (-1))
def mX6_canSet (a1 a2 : Int32) : Int32 := (if a1 = 0 then (mX6_in a2 0 20) else (if a1 = 1 then (mX6_in a2 0 20) else (if a1 = 2 then (mX6_in a2 1 9) else (if a1 = 3 then (if (mX6_in a2 0 99) = 0 then 0 else 1) else 0))))
def mX6_isMill (x : Nat → Nat → Int32) (pp mill : Int32) : Int32 := (mX6_in mill 0 (((x 0) ((pp + 0)).toNatClampNeg) - 1))
def mX6_isHouse (x : Nat → Nat → Int32) (pp house : Int32) : Int32 := (mX6_in house 0 (((x 0) ((pp + 13)).toNatClampNeg) - 1))
theorem f_isMill {x : Nat → Nat → Int32} {p a : Int32} (hC : cntP x p) (h : ¬ mX6_isMill x p a = 0) : 0 ≤ a.toInt ∧ a.toInt < 4 := by
  have h1 := f6_in (a := a) (b := 0) h
  have e0 : (0 : Int32).toInt = 0 := rfl
  have e1 : (1 : Int32).toInt = 1 := rfl
  obtain ⟨h2, h3⟩ := hC
  rw [ti_sub (a := x 0 (p + 0).toNatClampNeg) (b := 1) rfl e1 (by omega)] at h1
  omega
theorem f_isHouse {x : Nat → Nat → Int32} {p a : Int32} (hC : cntP x p) (h : ¬ mX6_isHouse x p a = 0) : 0 ≤ a.toInt ∧ a.toInt < 10 := by
  have h1 := f6_in (a := a) (b := 0) h
  have e0 : (0 : Int32).toInt = 0 := rfl
  have e1 : (1 : Int32).toInt = 1 := rfl
  obtain ⟨h2, h3⟩ := hC
  rw [ti_sub (a := x 0 (p + 13).toNatClampNeg) (b := 1) rfl e1 (by omega)] at h1
  omega
def mX6_isTied (x : Nat → Nat → Int32) (pp mill hour : Int32) : Int32 := (if ((((x 0) ((((pp + 1) + (3 * mill)) + 2)).toNatClampNeg) >>> (hour &&& 31)) &&& 1) = 1 then 1 else 0)
def mX6_turns (x : Nat → Nat → Int32) (pp mill hour : Int32) : Int32 := (if (mX6_isTied x pp mill hour) = 0 then (if ((x 0) (((pp + 34) + hour)).toNatClampNeg) < 2 then 0 else 1) else 0)
def mX6_loud (x : Nat → Nat → Int32) (pp mill yard hour : Int32) : Int32 := (if 0 ≤ ((2 * ((x 0) (((pp + 34) + hour)).toNatClampNeg)) - (mX6_apart ((x 0) ((((pp + 1) + (3 * mill)) + 1)).toNatClampNeg) yard)) then ((2 * ((x 0) (((pp + 34) + hour)).toNatClampNeg)) - (mX6_apart ((x 0) ((((pp + 1) + (3 * mill)) + 1)).toNatClampNeg) yard)) else 0)
def mX6_borne (x : Nat → Nat → Int32) (pp hour : Int32) : Int32 := (if 22 ≤ hour then ((x 0) (((pp + 58) + 1)).toNatClampNeg) else (if 5 < hour then ((x 0) ((pp + 58)).toNatClampNeg) else ((x 0) (((pp + 58) + 1)).toNatClampNeg)))
def mX6_reach (x : Nat → Nat → Int32) (pp mill hour : Int32) : Int32 := (if 12 ≤ hour then (if (mX6_isSun hour) = 0 then 0 else (((((x 0) ((((pp + 1) + (3 * mill)) + 0)).toNatClampNeg) * (hour - 12)) + 1) / 2)) else (if (mX6_isSun hour) = 0 then 0 else (((((x 0) ((((pp + 1) + (3 * mill)) + 0)).toNatClampNeg) * (12 - hour)) + 1) / 2)))
def mX6_walks_33 (yard : Int32) (hour : Int32) (C : Int32 → Int32 → Int32 → Int32 → Int32) : Nat → Int32 → Int32 → Int32 → Int32 → Int32
  | 0, x9_33, x8_33, x7_33, x6_33 => C x9_33 x8_33 x7_33 x6_33
  | n_33 + 1, x9_33, x8_33, x7_33, x6_33 => (if x8_33 = 0 then (if (mX6_in (x6_33 + (mX6_toEast hour)) 0 11) = 0 then (mX6_walks_33 yard hour C n_33 (x9_33 + 1) 0 (x7_33 + (mX6_toSouth hour)) (x6_33 + (mX6_toEast hour))) else (if (mX6_in (x7_33 + (mX6_toSouth hour)) 0 7) = 0 then (mX6_walks_33 yard hour C n_33 (x9_33 + 1) 0 (x7_33 + (mX6_toSouth hour)) (x6_33 + (mX6_toEast hour))) else (if ((12 * (x7_33 + (mX6_toSouth hour))) + (x6_33 + (mX6_toEast hour))) = yard then (mX6_walks_33 yard hour C n_33 (x9_33 + 1) 1 (x7_33 + (mX6_toSouth hour)) (x6_33 + (mX6_toEast hour))) else (mX6_walks_33 yard hour C n_33 (x9_33 + 1) 0 (x7_33 + (mX6_toSouth hour)) (x6_33 + (mX6_toEast hour)))))) else (mX6_walks_33 yard hour C n_33 (x9_33 + 1) 1 (x7_33 + (mX6_toSouth hour)) (x6_33 + (mX6_toEast hour))))
def mX6_walks (x : Nat → Nat → Int32) (pp mill yard hour : Int32) : Int32 := (mX6_walks_33 yard hour (fun x9_33 x8_33 x7_33 x6_33 => x8_33) (tr 0 (mX6_reach x pp mill hour)) 0 0 (((x 0) ((((pp + 1) + (3 * mill)) + 1)).toNatClampNeg) / 12) (((x 0) ((((pp + 1) + (3 * mill)) + 1)).toNatClampNeg) - ((x 0) ((((pp + 1) + (3 * mill)) + 1)).toNatClampNeg) / 12 * 12))
theorem zX6_walks_33 (yard hour : Int32) : ∀ (n : Nat) (a b c d : Int32), (b = 0 ∨ b = 1) → (mX6_walks_33 yard hour (fun x9_33 x8_33 x7_33 x6_33 => x8_33) n a b c d = 0 ∨ mX6_walks_33 yard hour (fun x9_33 x8_33 x7_33 x6_33 => x8_33) n a b c d = 1)
  | 0, a, b, c, d, h => by rw [mX6_walks_33]; exact h
  | n + 1, a, b, c, d, h => by
    rw [mX6_walks_33]
    repeat' split
    all_goals first | exact zX6_walks_33 yard hour n _ _ _ _ (Or.inl rfl) | exact zX6_walks_33 yard hour n _ _ _ _ (Or.inr rfl)
theorem zX6_walks (x : Nat → Nat → Int32) (pp mill yard hour : Int32) : mX6_walks x pp mill yard hour = 0 ∨ mX6_walks x pp mill yard hour = 1 := zX6_walks_33 yard hour _ _ _ _ _ (Or.inl rfl)
def mX6_lies (x : Nat → Nat → Int32) (pp mill yard hour : Int32) : Int32 := (if (mX6_apart ((x 0) ((((pp + 1) + (3 * mill)) + 1)).toNatClampNeg) yard) ≤ 0 then 0 else (if (mX6_reach x pp mill hour) < (mX6_apart ((x 0) ((((pp + 1) + (3 * mill)) + 1)).toNatClampNeg) yard) then 0 else (if ((yard - yard / 12 * 12) - (((x 0) ((((pp + 1) + (3 * mill)) + 1)).toNatClampNeg) - ((x 0) ((((pp + 1) + (3 * mill)) + 1)).toNatClampNeg) / 12 * 12)) = ((mX6_apart ((x 0) ((((pp + 1) + (3 * mill)) + 1)).toNatClampNeg) yard) * (mX6_toEast hour)) then (if ((yard / 12) - (((x 0) ((((pp + 1) + (3 * mill)) + 1)).toNatClampNeg) / 12)) = ((mX6_apart ((x 0) ((((pp + 1) + (3 * mill)) + 1)).toNatClampNeg) yard) * (mX6_toSouth hour)) then 1 else 0) else 0)))
def mX6_wouldTrouble (x : Nat → Nat → Int32) (pp house mill kind hour : Int32) : Int32 := (if 2 ≤ ((x 0) (((pp + 34) + hour)).toNatClampNeg) then (if kind = 0 then (if (mX6_loud x pp mill ((x 0) ((((pp + 14) + (2 * house)) + 0)).toNatClampNeg) hour) ≤ (mX6_borne x pp hour) then 0 else 1) else (mX6_walks x pp mill ((x 0) ((((pp + 14) + (2 * house)) + 0)).toNatClampNeg) hour)) else 0)
def mX6_wouldTroubleAny (x : Nat → Nat → Int32) (pp house mill hour : Int32) : Int32 := (if (mX6_wouldTrouble x pp house mill 0 hour) = 0 then (if (mX6_wouldTrouble x pp house mill 1 hour) = 0 then 0 else 1) else 1)
def mX6_reason (x : Nat → Nat → Int32) (pp house mill kind hour : Int32) : Int32 := (if ((x 0) ((((pp + 14) + (2 * house)) + 1)).toNatClampNeg) < 3 then (if ((((x 0) (((((pp + 68) + (8 * house)) + (2 * mill)) + kind)).toNatClampNeg) >>> (hour &&& 31)) &&& 1) = 1 then 2 else (if (mX6_isTied x pp mill hour) = 0 then (if 2 ≤ ((x 0) (((pp + 34) + hour)).toNatClampNeg) then (if (mX6_wouldTrouble x pp house mill kind hour) = 0 then (if kind = 0 then 5 else (if (mX6_isSun hour) = 0 then 5 else 6)) else 0) else 4) else 3)) else 1)
def mX6_wrong (x : Nat → Nat → Int32) (pp house mill kind hour : Int32) : Int32 := (if (mX6_isHouse x pp house) = 0 then (-1) else (if (mX6_isMill x pp mill) = 0 then (-1) else (if (mX6_isHour hour) = 0 then (-1) else (if (mX6_isRight kind hour) = 0 then (-2) else 0))))
theorem f_wrong {x : Nat → Nat → Int32} {p house mill kind hour : Int32} (hC : cntP x p) (h : ¬ mX6_wrong x p house mill kind hour < 0) : (0 ≤ house.toInt ∧ house.toInt < 10) ∧ (0 ≤ mill.toInt ∧ mill.toInt < 4) ∧ (0 ≤ kind.toInt ∧ kind.toInt < 2) ∧ (0 ≤ hour.toInt ∧ hour.toInt < 24) := by
  unfold mX6_wrong at h
  by_cases h1 : mX6_isHouse x p house = 0
  · rw [if_pos h1] at h; exact absurd (by decide) h
  · rw [if_neg h1] at h
    by_cases h2 : mX6_isMill x p mill = 0
    · rw [if_pos h2] at h; exact absurd (by decide) h
    · rw [if_neg h2] at h
      by_cases h3 : mX6_isHour hour = 0
      · rw [if_pos h3] at h; exact absurd (by decide) h
      · rw [if_neg h3] at h
        by_cases h4 : mX6_isRight kind hour = 0
        · rw [if_pos h4] at h; exact absurd (by decide) h
        · refine ⟨f_isHouse hC h1, f_isMill hC h2, ?_, f6_isHour h3⟩
          unfold mX6_isRight at h4
          by_cases h5 : mX6_in kind 0 1 = 0
          · rw [if_pos h5] at h4; exact absurd rfl h4
          · have h6 := f6_in h5
            have e0 : (0 : Int32).toInt = 0 := rfl
            have e1 : (1 : Int32).toInt = 1 := rfl
            omega
def mX6_points_6 (x : Nat → Nat → Int32) (pp : Int32) (mill : Int32) (hour : Int32) (C : Int32 → Int32 → Int32) : Nat → Int32 → Int32 → Int32
  | 0, x5_6, x4_6 => C x5_6 x4_6
  | n_6 + 1, x5_6, x4_6 => (mX6_points_6 x pp mill hour C n_6 (x5_6 + 1) (x4_6 + ((((x 0) (((((pp + 68) + (8 * (x5_6 / 2))) + (2 * mill)) + (x5_6 - x5_6 / 2 * 2))).toNatClampNeg) >>> (hour &&& 31)) &&& 1)))
def mX6_points (x : Nat → Nat → Int32) (pp mill hour : Int32) : Int32 := (mX6_points_6 x pp mill hour (fun x5_6 x4_6 => x4_6) (tr 0 20) 0 0)
def mX6_standsAny (x : Nat → Nat → Int32) (house mill hour : Int32) : Int32 := (if (((((x 0) (((((0 + 68) + (8 * house)) + (2 * mill)) + 0)).toNatClampNeg) ||| ((x 0) (((((0 + 68) + (8 * house)) + (2 * mill)) + 1)).toNatClampNeg)) >>> (hour &&& 31)) &&& 1) = 1 then 1 else 0)
def mX6_votes_5 (x : Nat → Nat → Int32) (mill : Int32) (hour : Int32) (C : Int32 → Int32 → Int32) : Nat → Int32 → Int32 → Int32
  | 0, x4_5, x3_5 => C x4_5 x3_5
  | n_5 + 1, x4_5, x3_5 => (if (mX6_wouldTroubleAny x 0 x4_5 mill hour) = 0 then (mX6_votes_5 x mill hour C n_5 (x4_5 + 1) (x3_5 + 1)) else (mX6_votes_5 x mill hour C n_5 (x4_5 + 1) (x3_5 + 0)))
def mX6_votes (x : Nat → Nat → Int32) (mill hour : Int32) : Int32 := (mX6_votes_5 x mill hour (fun x4_5 x3_5 => x3_5) (tr 0 ((x 0) 13)) 0 0)
def mX6_millAt_2 (x : Nat → Nat → Int32) (pp : Int32) (yard : Int32) (C : Int32 → Int32) : Nat → Int32 → Int32
  | 0, x3_2 => C x3_2
  | n_2 + 1, x3_2 => (if ((x 0) ((((pp + 1) + (3 * x3_2)) + 1)).toNatClampNeg) = yard then x3_2 else (mX6_millAt_2 x pp yard C n_2 (x3_2 + 1)))
def mX6_millAt (x : Nat → Nat → Int32) (pp yard : Int32) : Int32 := (mX6_millAt_2 x pp yard (fun x3_2 => (-5)) (tr 0 ((x 0) ((pp + 0)).toNatClampNeg)) 0)
def mX6_houseAt_2 (x : Nat → Nat → Int32) (pp : Int32) (yard : Int32) (C : Int32 → Int32) : Nat → Int32 → Int32
  | 0, x3_2 => C x3_2
  | n_2 + 1, x3_2 => (if ((x 0) ((((pp + 14) + (2 * x3_2)) + 0)).toNatClampNeg) = yard then x3_2 else (mX6_houseAt_2 x pp yard C n_2 (x3_2 + 1)))
def mX6_houseAt (x : Nat → Nat → Int32) (pp yard : Int32) : Int32 := (mX6_houseAt_2 x pp yard (fun x3_2 => (-5)) (tr 0 ((x 0) ((pp + 13)).toNatClampNeg)) 0)
def mX6_isBuilt (x : Nat → Nat → Int32) (pp yard : Int32) : Int32 := (if (mX6_millAt x pp yard) = (-5) then (if (mX6_houseAt x pp yard) = (-5) then 0 else 1) else 1)
def mX6_sign (x : Nat → Nat → Int32) (pl : Int32) : Int32 := (if (x 4 2) ≤ pl then (-1) else ((x 3) (pl).toNatClampNeg))
def mX6_digit (x : Nat → Nat → Int32) (pl : Int32) : Int32 := (lt (mX6_sign x pl) (fun r_1 => (if (mX6_in r_1 48 57) = 0 then (-1) else (lt (mX6_sign x pl) (fun r_3 => (r_3 - 48))))))
theorem b_digit (x : Nat → Nat → Int32) (p : Int32) : -1 ≤ (mX6_digit x p).toInt ∧ (mX6_digit x p).toInt ≤ 9 := by
  unfold mX6_digit
  dsimp only [lt]
  split
  · exact ⟨by decide, by decide⟩
  · rename_i h
    have h1 := f6_in h
    have e0 : (48 : Int32).toInt = 48 := rfl
    have e1 : (57 : Int32).toInt = 57 := rfl
    rw [ti_sub (a := mX6_sign x p) (b := 48) rfl e0 (by omega)]
    omega
def mX6_behind (x : Nat → Nat → Int32) (pl sg : Int32) : Int32 := (if 0 ≤ pl then (lt (mX6_sign x pl) (fun r_2 => (if r_2 = sg then (pl + 1) else ((-1) - pl)))) else pl)
def mX6_digitEnd (x : Nat → Nat → Int32) (pl lo hi : Int32) : Int32 := (if 0 ≤ pl then (lt (mX6_digit x pl) (fun r_2 => (if (mX6_in r_2 lo hi) = 0 then ((-1) - pl) else (pl + 1)))) else pl)
theorem b_up {p : Int32} (k : Int32) {n : Int} (hk : k.toInt = n) (hn : 0 ≤ n ∧ n < 100) (hp : -2000 ≤ p.toInt ∧ p.toInt < 2000) : (p + k).toInt = p.toInt + n := ti_add rfl hk (by omega)
theorem b_m1 {p : Int32} (hp : -2000 ≤ p.toInt ∧ p.toInt < 2000) : ((-1) - p).toInt = -1 - p.toInt := ti_sub (show (-1 : Int32).toInt = -1 from rfl) rfl (by omega)
theorem b_behind (x : Nat → Nat → Int32) (p g : Int32) (hp : -1000 ≤ p.toInt ∧ p.toInt < 1000) : (mX6_behind x p g).toInt = p.toInt ∨ (mX6_behind x p g).toInt = p.toInt + 1 ∨ (mX6_behind x p g).toInt = -1 - p.toInt := by
  unfold mX6_behind
  dsimp only [lt]
  repeat' split
  · exact Or.inr (Or.inl (b_up 1 (n := 1) rfl (by omega) (by omega)))
  · exact Or.inr (Or.inr (b_m1 (by omega)))
  · exact Or.inl rfl
theorem b_digitEnd (x : Nat → Nat → Int32) (p a b : Int32) (hp : -1000 ≤ p.toInt ∧ p.toInt < 1000) : (mX6_digitEnd x p a b).toInt = p.toInt ∨ (mX6_digitEnd x p a b).toInt = p.toInt + 1 ∨ (mX6_digitEnd x p a b).toInt = -1 - p.toInt := by
  unfold mX6_digitEnd
  dsimp only [lt]
  repeat' split
  · exact Or.inr (Or.inr (b_m1 (by omega)))
  · exact Or.inr (Or.inl (b_up 1 (n := 1) rfl (by omega) (by omega)))
  · exact Or.inl rfl
theorem g_behind (x : Nat → Nat → Int32) (p g : Int32) {B : Int} (h : -B ≤ p.toInt ∧ p.toInt ≤ B) (hB : B < 1000) : -(B + 1) ≤ (mX6_behind x p g).toInt ∧ (mX6_behind x p g).toInt ≤ B + 1 := by
  have h1 := b_behind x p g (by omega)
  omega
theorem g_digitEnd (x : Nat → Nat → Int32) (p a b : Int32) {B : Int} (h : -B ≤ p.toInt ∧ p.toInt ≤ B) (hB : B < 1000) : -(B + 1) ≤ (mX6_digitEnd x p a b).toInt ∧ (mX6_digitEnd x p a b).toInt ≤ B + 1 := by
  have h1 := b_digitEnd x p a b (by omega)
  omega
def mX6_yardEnd (x : Nat → Nat → Int32) (pl : Int32) : Int32 := (if 0 ≤ pl then (lt (mX6_sign x pl) (fun r_2 => (if (mX6_in r_2 97 108) = 0 then ((-1) - pl) else (lt (mX6_digitEnd x (pl + 1) 0 7) (fun r_5 => r_5))))) else pl)
theorem b_yardEnd (x : Nat → Nat → Int32) (p : Int32) (hp : -999 ≤ p.toInt ∧ p.toInt < 999) : (mX6_yardEnd x p).toInt = p.toInt ∨ (mX6_yardEnd x p).toInt = p.toInt + 1 ∨ (mX6_yardEnd x p).toInt = p.toInt + 2 ∨ (mX6_yardEnd x p).toInt = -1 - p.toInt ∨ (mX6_yardEnd x p).toInt = -2 - p.toInt := by
  unfold mX6_yardEnd
  dsimp only [lt]
  repeat' split
  · have h := b_m1 (p := p) (by omega); omega
  · have h1 := b_up (p := p) 1 (n := 1) rfl (by omega) (by omega)
    have h := b_digitEnd x (p + 1) 0 7 (by omega)
    omega
  · omega
theorem g_yardEnd (x : Nat → Nat → Int32) (p : Int32) {B : Int} (h : -B ≤ p.toInt ∧ p.toInt ≤ B) (hB : B < 999) : -(B + 2) ≤ (mX6_yardEnd x p).toInt ∧ (mX6_yardEnd x p).toInt ≤ B + 2 := by
  have h1 := b_yardEnd x p (by omega)
  omega
def mX6_hourEnd (x : Nat → Nat → Int32) (pl : Int32) : Int32 := (if 0 ≤ pl then (lt (mX6_digit x pl) (fun r_2 => (if 0 ≤ r_2 then (lt (mX6_digit x pl) (fun r_4 => (if r_4 ≤ 0 then (pl + 1) else (lt (mX6_digit x (pl + 1)) (fun r_8 => (if r_8 < 0 then (pl + 1) else (lt (mX6_digit x pl) (fun r_11 => (lt (mX6_digit x (pl + 1)) (fun r_13 => (if 24 ≤ ((10 * r_11) + r_13) then (pl + 1) else (pl + 2)))))))))))) else ((-1) - pl)))) else pl)
theorem b_hourEnd (x : Nat → Nat → Int32) (p : Int32) (hp : -999 ≤ p.toInt ∧ p.toInt < 999) : (mX6_hourEnd x p).toInt = p.toInt ∨ (mX6_hourEnd x p).toInt = p.toInt + 1 ∨ (mX6_hourEnd x p).toInt = p.toInt + 2 ∨ (mX6_hourEnd x p).toInt = -1 - p.toInt := by
  have h1 := b_up (p := p) 1 (n := 1) rfl (by omega) (by omega)
  have h2 := b_up (p := p) 2 (n := 2) rfl (by omega) (by omega)
  have h3 := b_m1 (p := p) (by omega)
  unfold mX6_hourEnd
  dsimp only [lt]
  repeat' split
  all_goals omega
theorem g_hourEnd (x : Nat → Nat → Int32) (p : Int32) {B : Int} (h : -B ≤ p.toInt ∧ p.toInt ≤ B) (hB : B < 999) : -(B + 2) ≤ (mX6_hourEnd x p).toInt ∧ (mX6_hourEnd x p).toInt ≤ B + 2 := by
  have h1 := b_hourEnd x p (by omega)
  omega
def mX6_yardIn (x : Nat → Nat → Int32) (pl : Int32) : Int32 := (lt (mX6_digit x (pl + 1)) (fun r_2 => (lt (mX6_sign x pl) (fun r_3 => (((12 * r_2) + r_3) - 97)))))
def mX6_hourIn (x : Nat → Nat → Int32) (pl : Int32) : Int32 := (lt (mX6_hourEnd x pl) (fun r_1 => (if r_1 = (pl + 1) then (lt (mX6_digit x pl) (fun r_6 => r_6)) else (lt (mX6_digit x pl) (fun r_3 => (lt (mX6_digit x (pl + 1)) (fun r_5 => ((10 * r_3) + r_5))))))))
theorem b_hourIn (x : Nat → Nat → Int32) (p : Int32) (_ : 0 ≤ p.toInt) : -11 ≤ (mX6_hourIn x p).toInt ∧ (mX6_hourIn x p).toInt < 100 := by
  have h1 := b_digit x p
  have h2 := b_digit x (p + 1)
  have e0 : (10 : Int32).toInt = 10 := rfl
  unfold mX6_hourIn
  dsimp only [lt]
  split
  · omega
  · rw [ti_add (ti_mul e0 (b := mX6_digit x p) rfl (by omega)) (b := mX6_digit x (p + 1)) rfl (by omega)]
    omega
def mX6_partEnd (x : Nat → Nat → Int32) (pl : Int32) : Int32 := (lt (mX6_sign x pl) (fun r_1 => (if r_1 = 99 then (lt (mX6_digitEnd x (pl + 1) 0 9) (fun r_4 => (lt (mX6_digitEnd x r_4 0 3) (fun r_5 => (if r_5 < 0 then (if 0 ≤ r_5 then (lt (mX6_hourEnd x (r_5 + 1)) (fun r_10 => r_10)) else r_5) else (lt (mX6_sign x r_5) (fun r_11 => (if r_11 = 110 then (if 0 ≤ r_5 then (lt (mX6_hourEnd x (r_5 + 1)) (fun r_16 => r_16)) else r_5) else (lt (mX6_sign x r_5) (fun r_17 => (if r_17 = 115 then (if 0 ≤ r_5 then (lt (mX6_hourEnd x (r_5 + 1)) (fun r_24 => r_24)) else r_5) else (if 0 ≤ r_5 then ((-1) - r_5) else r_5)))))))))))) else (if r_1 = 104 then (lt (mX6_behind x (pl + 1) 64) (fun r_27 => (lt (mX6_yardEnd x r_27) (fun r_28 => r_28)))) else (if r_1 = 109 then (lt (mX6_digitEnd x (pl + 1) 1 5) (fun r_31 => (lt (mX6_behind x r_31 64) (fun r_32 => (lt (mX6_yardEnd x r_32) (fun r_33 => r_33)))))) else (if r_1 = 119 then (lt (mX6_hourEnd x (pl + 1)) (fun r_36 => (lt (mX6_behind x r_36 61) (fun r_37 => (lt (mX6_digitEnd x r_37 0 9) (fun r_38 => r_38)))))) else ((-1) - pl)))))))
section PE
variable (x : Nat → Nat → Int32) (p : Int32)
abbrev pe_B (p r : Int32) : Prop := -10 - p.toInt ≤ r.toInt ∧ r.toInt ≤ p.toInt + 10
theorem pe_w {p r : Int32} {B : Int} (h : -B ≤ r.toInt ∧ r.toInt ≤ B) (hB : B ≤ p.toInt + 10) : pe_B p r := ⟨by omega, by omega⟩
theorem pe_u {p : Int32} (hp : 0 ≤ p.toInt ∧ p.toInt < 900) : -(p.toInt + 1) ≤ (p + 1).toInt ∧ (p + 1).toInt ≤ p.toInt + 1 := by
  rw [b_up (p := p) 1 (n := 1) rfl (by omega) (by omega)]
  omega
theorem pe_u2 {r : Int32} {B : Int} (h : -B ≤ r.toInt ∧ r.toInt ≤ B) (hB : 0 ≤ B ∧ B < 1500) : -(B + 1) ≤ (r + 1).toInt ∧ (r + 1).toInt ≤ B + 1 := by
  rw [b_up (p := r) 1 (n := 1) rfl (by omega) (by omega)]
  omega
theorem pe_n {r : Int32} {B : Int} (h : -B ≤ r.toInt ∧ r.toInt ≤ B) (hB : 0 ≤ B ∧ B < 1500) : -(B + 1) ≤ ((-1) - r).toInt ∧ ((-1) - r).toInt ≤ B + 1 := by
  rw [b_m1 (p := r) (by omega)]
  omega
theorem pe1 (hp : 0 ≤ p.toInt ∧ p.toInt < 900) : pe_B p (mX6_yardEnd x (mX6_behind x (mX6_digitEnd x (p + 1) 1 5) 64)) :=
  pe_w (g_yardEnd x _ (g_behind x _ 64 (g_digitEnd x _ 1 5 (pe_u hp) (by omega)) (by omega)) (by omega)) (by omega)
theorem pe2 (hp : 0 ≤ p.toInt ∧ p.toInt < 900) : pe_B p (mX6_yardEnd x (mX6_behind x (p + 1) 64)) :=
  pe_w (g_yardEnd x _ (g_behind x _ 64 (pe_u hp) (by omega)) (by omega)) (by omega)
theorem pe3 (hp : 0 ≤ p.toInt ∧ p.toInt < 900) : pe_B p (mX6_digitEnd x (mX6_behind x (mX6_hourEnd x (p + 1)) 61) 0 9) :=
  pe_w (g_digitEnd x _ 0 9 (g_behind x _ 61 (g_hourEnd x _ (pe_u hp) (by omega)) (by omega)) (by omega)) (by omega)
theorem pe4 (hp : 0 ≤ p.toInt ∧ p.toInt < 900) : -(p.toInt + 1 + 1 + 1) ≤ (mX6_digitEnd x (mX6_digitEnd x (p + 1) 0 9) 0 3).toInt ∧ (mX6_digitEnd x (mX6_digitEnd x (p + 1) 0 9) 0 3).toInt ≤ p.toInt + 1 + 1 + 1 :=
  g_digitEnd x _ 0 3 (g_digitEnd x _ 0 9 (pe_u hp) (by omega)) (by omega)
theorem pe5 (hp : 0 ≤ p.toInt ∧ p.toInt < 900) : pe_B p (mX6_hourEnd x (mX6_digitEnd x (mX6_digitEnd x (p + 1) 0 9) 0 3 + 1)) :=
  pe_w (g_hourEnd x _ (pe_u2 (pe4 x p hp) (by omega)) (by omega)) (by omega)
theorem pe6 (hp : 0 ≤ p.toInt ∧ p.toInt < 900) : pe_B p ((-1) - mX6_digitEnd x (mX6_digitEnd x (p + 1) 0 9) 0 3) :=
  pe_w (pe_n (pe4 x p hp) (by omega)) (by omega)
theorem pe7 (hp : 0 ≤ p.toInt ∧ p.toInt < 900) : pe_B p ((-1) - p) := by
  have h := b_m1 (p := p) (by omega)
  exact ⟨by omega, by omega⟩
end PE
theorem b_partEnd (x : Nat → Nat → Int32) (p : Int32) (hp : 0 ≤ p.toInt ∧ p.toInt < 900) : -10 - p.toInt ≤ (mX6_partEnd x p).toInt ∧ (mX6_partEnd x p).toInt ≤ p.toInt + 10 := by
  unfold mX6_partEnd
  dsimp only [lt]
  repeat' split
  · exact pe5 x p hp
  · exact pe_w (pe4 x p hp) (by omega)
  · exact pe5 x p hp
  · exact pe_w (pe4 x p hp) (by omega)
  · exact pe5 x p hp
  · exact pe_w (pe4 x p hp) (by omega)
  · exact pe6 x p hp
  · exact pe_w (pe4 x p hp) (by omega)
  · exact pe2 x p hp
  · exact pe1 x p hp
  · exact pe3 x p hp
  · exact pe7 p hp
theorem f_wrongP {x : Nat → Nat → Int32} {p house mill kind hour : Int32} (hC : cntP x p) (h : 0 ≤ mX6_wrong x p house mill kind hour) : (0 ≤ house.toInt ∧ house.toInt < 10) ∧ (0 ≤ mill.toInt ∧ mill.toInt < 4) ∧ (0 ≤ kind.toInt ∧ kind.toInt < 2) ∧ (0 ≤ hour.toInt ∧ hour.toInt < 24) :=
  f_wrong hC (fun h2 => by rw [i_le] at h; rw [i_lt] at h2; omega)
def mX6_turning_4 (x : Nat → Nat → Int32) (mill : Int32) (C : Int32 → Int32 → Int32) : Nat → Int32 → Int32 → Int32
  | 0, x3_4, x2_4 => C x3_4 x2_4
  | n_4 + 1, x3_4, x2_4 => (if (mX6_turns x 0 mill x3_4) = 0 then (mX6_turning_4 x mill C n_4 (x3_4 + 1) (x2_4 ||| 0)) else (mX6_turning_4 x mill C n_4 (x3_4 + 1) (x2_4 ||| (1 <<< (x3_4 &&& 31)))))
def mX6_turning (x : Nat → Nat → Int32) (mill : Int32) : Int32 := (mX6_turning_4 x mill (fun x3_4 x2_4 => x2_4) (tr 0 24) 0 0)
def mX6_grain_4 (x : Nat → Nat → Int32) (hours : Int32) (C : Int32 → Int32 → Int32) : Nat → Int32 → Int32 → Int32
  | 0, x3_4, x2_4 => C x3_4 x2_4
  | n_4 + 1, x3_4, x2_4 => (if ((hours >>> (x3_4 &&& 31)) &&& 1) = 1 then (if ((x 0) ((34 + x3_4)).toNatClampNeg) < 2 then (mX6_grain_4 x hours C n_4 (x3_4 + 1) (x2_4 + 0)) else (mX6_grain_4 x hours C n_4 (x3_4 + 1) (x2_4 + ((x 0) ((34 + x3_4)).toNatClampNeg)))) else (mX6_grain_4 x hours C n_4 (x3_4 + 1) (x2_4 + 0)))
def mX6_grain (x : Nat → Nat → Int32) (hours : Int32) : Int32 := (mX6_grain_4 x hours (fun x3_4 x2_4 => x2_4) (tr 0 24) 0 0)
def mX6_allPoints_4 (x : Nat → Nat → Int32) (mill : Int32) (C : Int32 → Int32 → Int32) : Nat → Int32 → Int32 → Int32
  | 0, x3_4, x2_4 => C x3_4 x2_4
  | n_4 + 1, x3_4, x2_4 => (mX6_allPoints_4 x mill C n_4 (x3_4 + 1) (x2_4 + (mX6_points x 0 mill x3_4)))
def mX6_allPoints (x : Nat → Nat → Int32) (mill : Int32) : Int32 := (mX6_allPoints_4 x mill (fun x3_4 x2_4 => x2_4) (tr 0 24) 0 0)
def mX6_standing_4 (x : Nat → Nat → Int32) (house : Int32) (C : Int32 → Int32 → Int32) : Nat → Int32 → Int32 → Int32
  | 0, x3_4, x2_4 => C x3_4 x2_4
  | n_4 + 1, x3_4, x2_4 => (mX6_standing_4 x house C n_4 (x3_4 + 1) (x2_4 + (mX6_ones ((x 0) (((68 + (8 * house)) + x3_4)).toNatClampNeg))))
def mX6_standing (x : Nat → Nat → Int32) (house : Int32) : Int32 := (mX6_standing_4 x house (fun x3_4 x2_4 => x2_4) (tr 0 8) 0 0)
def mX6_troubled_5 (x : Nat → Nat → Int32) (house : Int32) (kind : Int32) (C : Int32 → Int32 → Int32) : Nat → Int32 → Int32 → Int32
  | 0, x4_5, x3_5 => C x4_5 x3_5
  | n_5 + 1, x4_5, x3_5 => (if (mX6_turns x 0 (x4_5 / 24) (x4_5 - x4_5 / 24 * 24)) = 0 then (mX6_troubled_5 x house kind C n_5 (x4_5 + 1) (x3_5 ||| 0)) else (if (mX6_wouldTrouble x 0 house (x4_5 / 24) kind (x4_5 - x4_5 / 24 * 24)) = 0 then (mX6_troubled_5 x house kind C n_5 (x4_5 + 1) (x3_5 ||| 0)) else (mX6_troubled_5 x house kind C n_5 (x4_5 + 1) (x3_5 ||| (1 <<< ((x4_5 - x4_5 / 24 * 24) &&& 31))))))
def mX6_troubled (x : Nat → Nat → Int32) (house kind : Int32) : Int32 := (mX6_troubled_5 x house kind (fun x4_5 x3_5 => x3_5) (tr 0 (((x 0) 0) * 24)) 0 0)
def mX6_noiseOf (x : Nat → Nat → Int32) (mill yard hour : Int32) : Int32 := (if (mX6_turns x 0 mill hour) = 0 then 0 else (mX6_loud x 0 mill yard hour))
def mX6_ofMills_4 (x : Nat → Nat → Int32) (what : Int32) (C : Int32 → Int32 → Int32) : Nat → Int32 → Int32 → Int32
  | 0, x3_4, x2_4 => C x3_4 x2_4
  | n_4 + 1, x3_4, x2_4 => (if what = 8 then (mX6_ofMills_4 x what C n_4 (x3_4 + 1) (x2_4 + (mX6_ones ((x 0) ((((0 + 1) + (3 * x3_4)) + 2)).toNatClampNeg)))) else (if what = 9 then (mX6_ofMills_4 x what C n_4 (x3_4 + 1) (x2_4 + (mX6_grain x (mX6_turning x x3_4)))) else (mX6_ofMills_4 x what C n_4 (x3_4 + 1) (x2_4 + (mX6_grain x (-1))))))
def mX6_ofMills (x : Nat → Nat → Int32) (what : Int32) : Int32 := (mX6_ofMills_4 x what (fun x3_4 x2_4 => x2_4) (tr 0 ((x 0) 0)) 0 0)
def mX6_troubles (x : Nat → Nat → Int32) (mill hour : Int32) : Int32 := (((x 0) 13) - (mX6_votes x mill hour))
def mX6_yardOf (x : Nat → Nat → Int32) (yard what : Int32) : Int32 := (if (mX6_isYard yard) = 0 then (-1) else (if what = 0 then (mX6_millAt x 0 yard) else (if what = 1 then (mX6_houseAt x 0 yard) else (-2))))
def mX6_millOf (x : Nat → Nat → Int32) (mill what : Int32) : Int32 := (if (mX6_isMill x 0 mill) = 0 then (-1) else (if what = 0 then ((x 0) ((((0 + 1) + (3 * mill)) + what)).toNatClampNeg) else (if what = 1 then ((x 0) ((((0 + 1) + (3 * mill)) + what)).toNatClampNeg) else (if what = 2 then ((x 0) ((((0 + 1) + (3 * mill)) + what)).toNatClampNeg) else (if what = 3 then (mX6_turning x mill) else (if what = 4 then (mX6_grain x (mX6_turning x mill)) else (if what = 5 then (mX6_allPoints x mill) else (-2))))))))
def mX6_houseOf (x : Nat → Nat → Int32) (house what : Int32) : Int32 := (if (mX6_isHouse x 0 house) = 0 then (-1) else (if what = 0 then ((x 0) ((((0 + 14) + (2 * house)) + what)).toNatClampNeg) else (if what = 1 then ((x 0) ((((0 + 14) + (2 * house)) + what)).toNatClampNeg) else (if what = 2 then (if ((x 0) ((((0 + 14) + (2 * house)) + 1)).toNatClampNeg) < 3 then 0 else 1) else (if what = 3 then (mX6_standing x house) else (if what = 4 then (mX6_troubled x house (what - 4)) else (if what = 5 then (mX6_troubled x house (what - 4)) else (-2))))))))
def mX6_noise (x : Nat → Nat → Int32) (mill yard hour : Int32) : Int32 := (if (mX6_isMill x 0 mill) = 0 then (-1) else (if (mX6_isYard yard) = 0 then (-1) else (if (mX6_isHour hour) = 0 then (-1) else (mX6_noiseOf x mill yard hour))))
def mX6_shadow (x : Nat → Nat → Int32) (mill yard hour way : Int32) : Int32 := (if (mX6_isMill x 0 mill) = 0 then (-1) else (if (mX6_isYard yard) = 0 then (-1) else (if (mX6_isHour hour) = 0 then (-1) else (if (mX6_in way 0 1) = 0 then (-2) else (if way = 0 then (if (mX6_walks x 0 mill yard hour) = 0 then 0 else 1) else (if (mX6_lies x 0 mill yard hour) = 0 then 0 else 1))))))
def mX6_why (x : Nat → Nat → Int32) (house mill kind hour : Int32) : Int32 := (if 0 ≤ (mX6_wrong x 0 house mill kind hour) then (mX6_reason x 0 house mill kind hour) else (mX6_wrong x 0 house mill kind hour))
def mX6_count (x : Nat → Nat → Int32) (what : Int32) : Int32 := (if what = 0 then ((x 0) 0) else (if what = 1 then ((x 0) 13) else (if what = 2 then ((x 0) (((62 + what) - 2)).toNatClampNeg) else (if what = 3 then ((x 0) (((62 + what) - 2)).toNatClampNeg) else (if what = 4 then ((x 0) (((62 + what) - 2)).toNatClampNeg) else (if what = 5 then ((x 0) (((62 + what) - 2)).toNatClampNeg) else (if what = 6 then ((x 0) (((62 + what) - 2)).toNatClampNeg) else (if what = 7 then ((x 0) (((62 + what) - 2)).toNatClampNeg) else (if what = 8 then (mX6_ofMills x what) else (if what = 9 then (mX6_ofMills x what) else (if what = 10 then (x 4 0) else (if what = 11 then (x 4 2) else (if (mX6_in what 12 15) = 0 then (-2) else ((x 0) (((58 + what) - 12)).toNatClampNeg))))))))))))))
def mX6_quietHours_15 (x : Nat → Nat → Int32) (mill : Int32) (C : Int32 → Int32 → Int32) : Nat → Int32 → Int32 → Int32
  | 0, x3_15, x2_15 => C x3_15 x2_15
  | n_15 + 1, x3_15, x2_15 => (if ((x 0) ((34 + x3_15)).toNatClampNeg) < 2 then (mX6_quietHours_15 x mill C n_15 (x3_15 + 1) (x2_15 ||| 0)) else (if (mX6_troubles x mill x3_15) = 0 then (mX6_quietHours_15 x mill C n_15 (x3_15 + 1) (x2_15 ||| (1 <<< (x3_15 &&& 31)))) else (mX6_quietHours_15 x mill C n_15 (x3_15 + 1) (x2_15 ||| 0))))
def mX6_quietHours (x : Nat → Nat → Int32) (mill : Int32) : Int32 := (if (mX6_isMill x 0 mill) = 0 then (-1) else (mX6_quietHours_15 x mill (fun x3_15 x2_15 => x2_15) (tr 0 24) 0 0))
def mX6_loudest_35 (x : Nat → Nat → Int32) (hour : Int32) (x4_17 : Int32) (C : Int32 → Int32 → Int32) : Nat → Int32 → Int32 → Int32
  | 0, x6_35, x5_35 => C x6_35 x5_35
  | n_35 + 1, x6_35, x5_35 => (mX6_loudest_35 x hour x4_17 C n_35 (x6_35 + 1) (x5_35 + (mX6_noiseOf x x6_35 ((x 0) ((((0 + 14) + (2 * x4_17)) + 0)).toNatClampNeg) hour)))
def mX6_loudest_17 (x : Nat → Nat → Int32) (hour : Int32) (C : Int32 → Int32 → Int32 → Int32) : Nat → Int32 → Int32 → Int32 → Int32
  | 0, x4_17, x3_17, x2_17 => C x4_17 x3_17 x2_17
  | n_17 + 1, x4_17, x3_17, x2_17 => (mX6_loudest_35 x hour x4_17 (fun x6_35 x5_35 => (if x5_35 ≤ x3_17 then (if x5_35 ≤ x3_17 then (mX6_loudest_17 x hour C n_17 (x4_17 + 1) x3_17 x2_17) else (mX6_loudest_17 x hour C n_17 (x4_17 + 1) x5_35 x2_17)) else (if x5_35 ≤ x3_17 then (mX6_loudest_17 x hour C n_17 (x4_17 + 1) x3_17 x4_17) else (mX6_loudest_17 x hour C n_17 (x4_17 + 1) x5_35 x4_17)))) (tr 0 ((x 0) 0)) 0 0)
def mX6_loudest (x : Nat → Nat → Int32) (hour : Int32) : Int32 := (if (mX6_isHour hour) = 0 then (-1) else (mX6_loudest_17 x hour (fun x4_17 x3_17 x2_17 => x2_17) (tr 0 ((x 0) 13)) 0 0 (-5)))
def mX6_bestTied_19 (x : Nat → Nat → Int32) (mill : Int32) (C : Int32 → Int32 → Int32 → Int32) : Nat → Int32 → Int32 → Int32 → Int32
  | 0, x4_19, x3_19, x2_19 => C x4_19 x3_19 x2_19
  | n_19 + 1, x4_19, x3_19, x2_19 => (if (mX6_turns x 0 mill x4_19) = 0 then (if x2_19 = (-5) then (if x3_19 < 0 then (if 0 ≤ x3_19 then (mX6_bestTied_19 x mill C n_19 (x4_19 + 1) x3_19 x4_19) else (mX6_bestTied_19 x mill C n_19 (x4_19 + 1) 0 x4_19)) else (if 0 ≤ x3_19 then (mX6_bestTied_19 x mill C n_19 (x4_19 + 1) x3_19 x2_19) else (mX6_bestTied_19 x mill C n_19 (x4_19 + 1) 0 x2_19))) else (if 0 = x3_19 then (if ((x 0) ((34 + x2_19)).toNatClampNeg) ≤ ((x 0) ((34 + x4_19)).toNatClampNeg) then (if x3_19 < 0 then (if 0 ≤ x3_19 then (mX6_bestTied_19 x mill C n_19 (x4_19 + 1) x3_19 x4_19) else (mX6_bestTied_19 x mill C n_19 (x4_19 + 1) 0 x4_19)) else (if 0 ≤ x3_19 then (mX6_bestTied_19 x mill C n_19 (x4_19 + 1) x3_19 x2_19) else (mX6_bestTied_19 x mill C n_19 (x4_19 + 1) 0 x2_19))) else (if x3_19 < 0 then (if 0 ≤ x3_19 then (mX6_bestTied_19 x mill C n_19 (x4_19 + 1) x3_19 x4_19) else (mX6_bestTied_19 x mill C n_19 (x4_19 + 1) 0 x4_19)) else (if 0 ≤ x3_19 then (mX6_bestTied_19 x mill C n_19 (x4_19 + 1) x3_19 x4_19) else (mX6_bestTied_19 x mill C n_19 (x4_19 + 1) 0 x4_19)))) else (if x3_19 < 0 then (if 0 ≤ x3_19 then (mX6_bestTied_19 x mill C n_19 (x4_19 + 1) x3_19 x4_19) else (mX6_bestTied_19 x mill C n_19 (x4_19 + 1) 0 x4_19)) else (if 0 ≤ x3_19 then (mX6_bestTied_19 x mill C n_19 (x4_19 + 1) x3_19 x2_19) else (mX6_bestTied_19 x mill C n_19 (x4_19 + 1) 0 x2_19))))) else (if x2_19 = (-5) then (if x3_19 < (mX6_troubles x mill x4_19) then (if (mX6_troubles x mill x4_19) ≤ x3_19 then (mX6_bestTied_19 x mill C n_19 (x4_19 + 1) x3_19 x4_19) else (mX6_bestTied_19 x mill C n_19 (x4_19 + 1) (mX6_troubles x mill x4_19) x4_19)) else (if (mX6_troubles x mill x4_19) ≤ x3_19 then (mX6_bestTied_19 x mill C n_19 (x4_19 + 1) x3_19 x2_19) else (mX6_bestTied_19 x mill C n_19 (x4_19 + 1) (mX6_troubles x mill x4_19) x2_19))) else (if (mX6_troubles x mill x4_19) = x3_19 then (if ((x 0) ((34 + x2_19)).toNatClampNeg) ≤ ((x 0) ((34 + x4_19)).toNatClampNeg) then (if x3_19 < (mX6_troubles x mill x4_19) then (if (mX6_troubles x mill x4_19) ≤ x3_19 then (mX6_bestTied_19 x mill C n_19 (x4_19 + 1) x3_19 x4_19) else (mX6_bestTied_19 x mill C n_19 (x4_19 + 1) (mX6_troubles x mill x4_19) x4_19)) else (if (mX6_troubles x mill x4_19) ≤ x3_19 then (mX6_bestTied_19 x mill C n_19 (x4_19 + 1) x3_19 x2_19) else (mX6_bestTied_19 x mill C n_19 (x4_19 + 1) (mX6_troubles x mill x4_19) x2_19))) else (if x3_19 < (mX6_troubles x mill x4_19) then (if (mX6_troubles x mill x4_19) ≤ x3_19 then (mX6_bestTied_19 x mill C n_19 (x4_19 + 1) x3_19 x4_19) else (mX6_bestTied_19 x mill C n_19 (x4_19 + 1) (mX6_troubles x mill x4_19) x4_19)) else (if (mX6_troubles x mill x4_19) ≤ x3_19 then (mX6_bestTied_19 x mill C n_19 (x4_19 + 1) x3_19 x4_19) else (mX6_bestTied_19 x mill C n_19 (x4_19 + 1) (mX6_troubles x mill x4_19) x4_19)))) else (if x3_19 < (mX6_troubles x mill x4_19) then (if (mX6_troubles x mill x4_19) ≤ x3_19 then (mX6_bestTied_19 x mill C n_19 (x4_19 + 1) x3_19 x4_19) else (mX6_bestTied_19 x mill C n_19 (x4_19 + 1) (mX6_troubles x mill x4_19) x4_19)) else (if (mX6_troubles x mill x4_19) ≤ x3_19 then (mX6_bestTied_19 x mill C n_19 (x4_19 + 1) x3_19 x2_19) else (mX6_bestTied_19 x mill C n_19 (x4_19 + 1) (mX6_troubles x mill x4_19) x2_19))))))
def mX6_bestTied (x : Nat → Nat → Int32) (mill : Int32) : Int32 := (if (mX6_isMill x 0 mill) = 0 then (-1) else (mX6_bestTied_19 x mill (fun x4_19 x3_19 x2_19 => x2_19) (tr 0 24) 0 0 (-5)))
def mX6_ifVoted (x : Nat → Nat → Int32) (mill hour : Int32) : Int32 := (if (mX6_isMill x 0 mill) = 0 then (-1) else (if (mX6_isHour hour) = 0 then (-1) else (mX6_votes x mill hour)))
theorem pl_up {r : Int32} (h : 0 ≤ r.toInt) (h2 : r.toInt < 60) : 0 ≤ (r + 1).toInt ∧ (r + 1).toInt < 61 := by
  rw [ti_add (a := r) (b := 1) rfl (show (1 : Int32).toInt = 1 from rfl) (by omega)]
  omega
theorem f_sign59 {x : Nat → Nat → Int32} {p : Int32} (h : mX6_sign x p = 59) : p.toInt < (x 4 2).toInt := by
  unfold mX6_sign at h
  by_cases h1 : x 4 2 ≤ p
  · rw [if_pos h1] at h; exact absurd h (by decide)
  · rw [i_le] at h1; omega
theorem f_canSet {w v : Int32} (h : ¬ mX6_canSet w v = 0) : 0 ≤ w.toInt ∧ w.toInt < 4 := by
  unfold mX6_canSet at h
  by_cases h0 : w = 0
  · subst h0; decide
  · rw [if_neg h0] at h
    by_cases h1 : w = 1
    · subst h1; decide
    · rw [if_neg h1] at h
      by_cases h2 : w = 2
      · subst h2; decide
      · rw [if_neg h2] at h
        by_cases h3 : w = 3
        · subst h3; decide
        · rw [if_neg h3] at h; exact absurd rfl h
/-- a copy, place by place: n places from k on, of row a (from so) into row b (from d) -/
def cpr (a so b d : Nat) : Nat → (Nat → Nat → Int32) → Nat → (Nat → Nat → Int32)
  | 0, x, _ => x
  | n + 1, x, k => cpr a so b d n (setA x b (upd (x b) (d + k) (x a (so + k)))) (k + 1)
theorem setA_same (x : Nat → Nat → Int32) (b : Nat) (f : Nat → Int32) : setA x b f b = f := by
  unfold setA
  have : Nat.beq b b = true := Nat.beq_refl b
  rw [this]; rfl
theorem setA_ne (x : Nat → Nat → Int32) {b j : Nat} (f : Nat → Int32) (h : j ≠ b) : setA x b f j = x j := by
  unfold setA
  have : Nat.beq j b = false := by
    cases hc : Nat.beq j b with
    | false => rfl
    | true => exact absurd (Nat.eq_of_beq_eq_true hc) h
  rw [this]; rfl
theorem cpr_ne (a so b d : Nat) {j : Nat} (hj : j ≠ b) : ∀ (n : Nat) (x : Nat → Nat → Int32) (k : Nat), cpr a so b d n x k j = x j
  | 0, x, k => rfl
  | n + 1, x, k => by
    rw [cpr, cpr_ne a so b d hj n, setA_ne _ _ hj]
theorem cpr_out (a so b d : Nat) : ∀ (n : Nat) (x : Nat → Nat → Int32) (k i : Nat), (i < d + k ∨ d + k + n ≤ i) → cpr a so b d n x k b i = x b i
  | 0, x, k, i, _ => rfl
  | n + 1, x, k, i, h => by
    rw [cpr, cpr_out a so b d n _ (k + 1) i (by omega), setA_same]
    exact pk_un (by omega)
theorem cpr_in (a so b d : Nat) : ∀ (n : Nat) (x : Nat → Nat → Int32) (k i : Nat), (∀ i j, k ≤ i → i < j → j < k + n → ¬ (a = b ∧ d + i = so + j)) → k ≤ i → i < k + n → cpr a so b d n x k b (d + i) = x a (so + i)
  | 0, x, k, i, _, h1, h2 => by omega
  | n + 1, x, k, i, H, h1, h2 => by
    rw [cpr]
    by_cases hi : i = k
    · subst hi
      rw [cpr_out a so b d n _ (i + 1) (d + i) (by omega), setA_same]
      exact pk_us
    · rw [cpr_in a so b d n _ (k + 1) i (fun i j q1 q2 q3 => H i j (by omega) q2 (by omega)) (by omega) (by omega)]
      by_cases hab : a = b
      · subst hab
        rw [setA_same]
        exact pk_un (fun q => H k i (Nat.le_refl _) (by omega) (by omega) ⟨rfl, q.symm⟩)
      · exact congrFun (setA_ne _ _ hab) _
theorem cl_nI {k : Nat} (h : k < 2147483648) : (nI k).toNatClampNeg = k := nI_clamp h
theorem cl_add {m k : Nat} (M : Int32) (hM : M = nI m) (h : m + k < 2147483648) : (M + nI k).toNatClampNeg = m + k := by
  rw [hM, nI_add]; exact nI_clamp h
theorem tr_lit {n : Nat} (N : Int32) (hN : N.toInt = n) : tr 0 N = n := by
  unfold tr
  rw [hN]
  show ((n : Int) - 0).toNat = n
  omega
def mX6_fault_4 (x : Nat → Nat → Int32) (C : Int32 → Int32 → Int32) : Nat → Int32 → Int32 → Int32
  | 0, x2_4, x1_4 => C x2_4 x1_4
  | n_4 + 1, x2_4, x1_4 => (lt (mX6_partEnd x x1_4) (fun r_2 => (if 0 ≤ r_2 then (if r_2 = (x 4 2) then (-5) else (lt (mX6_sign x r_2) (fun r_5 => (if r_5 = 59 then (mX6_fault_4 x C n_4 (x2_4 + 1) (r_2 + 1)) else r_2)))) else ((-1) - r_2))))
def mX6_fault (x : Nat → Nat → Int32) : Int32 := (mX6_fault_4 x (fun x2_4 x1_4 => (-5)) (tr 0 60) 0 0)
def mX6_copies_2  (C : (Nat → Nat → Int32) → Int32 → ((Nat → Nat → Int32))) : Nat → (Nat → Nat → Int32) → Int32 → ((Nat → Nat → Int32))
  | 0, xL_2, x1_2 => C xL_2 x1_2
  | n_2 + 1, xL_2, x1_2 => (lt (setA xL_2 0 (upd (xL_2 0) ((148 + x1_2) : Int32).toNatClampNeg ((xL_2 0) (x1_2).toNatClampNeg))) (fun x_2 => (mX6_copies_2  C n_2 x_2 (x1_2 + 1))))
def mX6_copies (x : Nat → Nat → Int32) : (Nat → Nat → Int32) := (mX6_copies_2  (fun xL_2 x1_2 => xL_2) (tr 0 148) x 0)
theorem copies_cp (C : (Nat → Nat → Int32) → Int32 → (Nat → Nat → Int32)) : ∀ (n : Nat) (x : Nat → Nat → Int32) (k : Nat), k + n ≤ 148 → mX6_copies_2 C n x (nI k) = C (cpr 0 0 0 148 n x k) (nI (k + n))
  | 0, x, k, _ => by rw [mX6_copies_2]; rfl
  | n + 1, x, k, h => by
    rw [mX6_copies_2]
    dsimp only [lt]
    rw [nI_1, cl_add (m := 148) 148 rfl (by omega), cl_nI (by omega), copies_cp C n _ (k + 1) (by omega), cpr, Nat.zero_add, show k + 1 + n = k + (n + 1) by omega]
theorem copies_eq (x : Nat → Nat → Int32) : mX6_copies x = cpr 0 0 0 148 148 x 0 := by
  unfold mX6_copies
  rw [tr_lit 148 rfl]
  exact copies_cp _ 148 x 0 (by omega)
theorem k4_copies (x : Nat → Nat → Int32) : mX6_copies x 4 = x 4 := by
  rw [copies_eq]; exact cpr_ne 0 0 0 148 (by omega) _ _ _
theorem copies_lo (x : Nat → Nat → Int32) {i : Nat} (h : i < 148) : mX6_copies x 0 i = x 0 i := by
  rw [copies_eq]; exact cpr_out 0 0 0 148 _ _ _ _ (by omega)
theorem copies_hi (x : Nat → Nat → Int32) {i : Nat} (h : i < 148) : mX6_copies x 0 (148 + i) = x 0 i := by
  rw [copies_eq, cpr_in 0 0 0 148 148 x 0 i (fun i j q1 q2 q3 q4 => by omega) (by omega) (by omega), Nat.zero_add]
theorem cnt_copies {x : Nat → Nat → Int32} (h : cntP x 0) : cntP (mX6_copies x) 148 := by
  obtain ⟨h1, h2⟩ := h
  have e1 : mX6_copies x 0 ((148 : Int32) + 0).toNatClampNeg = x 0 ((0 : Int32) + 0).toNatClampNeg := copies_hi x (i := 0) (by omega)
  have e2 : mX6_copies x 0 ((148 : Int32) + 13).toNatClampNeg = x 0 ((0 : Int32) + 13).toNatClampNeg := copies_hi x (i := 13) (by omega)
  unfold cntP
  rw [e1, e2]
  exact ⟨h1, h2⟩
def mX6_remembers_51  (C : (Nat → Nat → Int32) → Int32 → ((Nat → Nat → Int32))) : Nat → (Nat → Nat → Int32) → Int32 → ((Nat → Nat → Int32))
  | 0, xL_51, x1_51 => C xL_51 x1_51
  | n_51 + 1, xL_51, x1_51 => (lt (setA xL_51 1 (upd (xL_51 1) (((148 * (xL_51 4 0)) + x1_51) : Int32).toNatClampNeg ((xL_51 0) (x1_51).toNatClampNeg))) (fun x_4 => (mX6_remembers_51  C n_51 x_4 (x1_51 + 1))))
def mX6_remembers_51_a  (C : (Nat → Nat → Int32) → Int32 → ((Nat → Nat → Int32))) : Nat → (Nat → Nat → Int32) → Int32 → ((Nat → Nat → Int32))
  | 0, xL_51, x1_51 => C xL_51 x1_51
  | n_51 + 1, xL_51, x1_51 => (lt (setA xL_51 1 (upd (xL_51 1) (((148 * (xL_51 4 0)) + x1_51) : Int32).toNatClampNeg ((xL_51 0) (x1_51).toNatClampNeg))) (fun x_9 => (mX6_remembers_51_a  C n_51 x_9 (x1_51 + 1))))
def mX6_remembers_10  (C : (Nat → Nat → Int32) → Int32 → ((Nat → Nat → Int32))) : Nat → (Nat → Nat → Int32) → Int32 → ((Nat → Nat → Int32))
  | 0, xL_10, x1_10 => C xL_10 x1_10
  | n_10 + 1, xL_10, x1_10 => (lt (setA xL_10 1 (upd (xL_10 1) (x1_10 : Int32).toNatClampNeg ((xL_10 1) ((148 + x1_10)).toNatClampNeg))) (fun x_10 => (mX6_remembers_10  C n_10 x_10 (x1_10 + 1))))
def mX6_remembers (x : Nat → Nat → Int32) : (Nat → Nat → Int32) := (if (x 4 0) = 4 then (mX6_remembers_10  (fun xL_10 x1_10 => (lt (setA xL_10 4 (upd (xL_10 4) 0 ((xL_10 4 0) - 1))) (fun x_6 => (mX6_remembers_51_a  (fun xL_51 x1_51 => (lt (setA xL_51 4 (upd (xL_51 4) 0 ((xL_51 4 0) + 1))) (fun x_8 => x_8))) (tr 0 148) x_6 0)))) (tr 0 444) x 0) else (mX6_remembers_51  (fun xL_51 x1_51 => (lt (setA xL_51 4 (upd (xL_51 4) 0 ((xL_51 4 0) + 1))) (fun x_3 => x_3))) (tr 0 148) x 0))
theorem rem51_0 (C : (Nat → Nat → Int32) → Int32 → (Nat → Nat → Int32)) (hC : ∀ z k, C z k 0 = z 0) : ∀ (n : Nat) (x : Nat → Nat → Int32) (k : Int32), mX6_remembers_51 C n x k 0 = x 0
  | 0, x, k => by rw [mX6_remembers_51]; exact hC x k
  | n + 1, x, k => by
    rw [mX6_remembers_51]
    exact rem51_0 C hC n _ _
theorem rem51a_0 (C : (Nat → Nat → Int32) → Int32 → (Nat → Nat → Int32)) (hC : ∀ z k, C z k 0 = z 0) : ∀ (n : Nat) (x : Nat → Nat → Int32) (k : Int32), mX6_remembers_51_a C n x k 0 = x 0
  | 0, x, k => by rw [mX6_remembers_51_a]; exact hC x k
  | n + 1, x, k => by
    rw [mX6_remembers_51_a]
    exact rem51a_0 C hC n _ _
theorem rem10_0 (C : (Nat → Nat → Int32) → Int32 → (Nat → Nat → Int32)) (hC : ∀ z k, C z k 0 = z 0) : ∀ (n : Nat) (x : Nat → Nat → Int32) (k : Int32), mX6_remembers_10 C n x k 0 = x 0
  | 0, x, k => by rw [mX6_remembers_10]; exact hC x k
  | n + 1, x, k => by
    rw [mX6_remembers_10]
    exact rem10_0 C hC n _ _
theorem lt_i {α β : Type} {a : α} {f : α → β} {P : β → Prop} (h : P (f a)) : P (lt a f) := h
theorem hC51 (z : Nat → Nat → Int32) (k : Int32) : (fun (x_51 : Nat → Nat → Int32) (x1_51 : Int32) => lt (setA x_51 4 (upd (x_51 4) 0 ((x_51 4 0) + 1))) (fun x_8 => x_8)) z k 0 = z 0 := rfl
theorem hC10 (N : Nat) (z : Nat → Nat → Int32) (k : Int32) : (fun (xL_10 : Nat → Nat → Int32) (x1_10 : Int32) => (lt (setA xL_10 4 (upd (xL_10 4) 0 ((xL_10 4 0) - 1))) (fun x_6 => (mX6_remembers_51_a (fun xL_51 x1_51 => (lt (setA xL_51 4 (upd (xL_51 4) 0 ((xL_51 4 0) + 1))) (fun x_8 => x_8))) N x_6 0)))) z k 0 = z 0 :=
  (rem51a_0 _ hC51 N (setA z 4 (upd (z 4) 0 (z 4 0 - 1))) 0).trans (setA_ne z _ (by omega))
theorem k0_remembers (x : Nat → Nat → Int32) : mX6_remembers x 0 = x 0 := by
  unfold mX6_remembers
  split
  · exact rem10_0 _ (hC10 (tr 0 148)) _ _ _
  · exact rem51_0 _ hC51 _ _ _
theorem cnt_rem {x : Nat → Nat → Int32} {V : Int32} (h : cntP x 0) : cntP (setA (mX6_remembers x) 0 (upd (mX6_remembers x 0) (66 : Int32).toNatClampNeg V)) 0 := by
  obtain ⟨h1, h2⟩ := h
  have e1 : (setA (mX6_remembers x) 0 (upd (mX6_remembers x 0) (66 : Int32).toNatClampNeg V)) 0 ((0 : Int32) + 0).toNatClampNeg = x 0 ((0 : Int32) + 0).toNatClampNeg := by
    rw [setA_same, pk_un (by decide), k0_remembers]
  have e2 : (setA (mX6_remembers x) 0 (upd (mX6_remembers x 0) (66 : Int32).toNatClampNeg V)) 0 ((0 : Int32) + 13).toNatClampNeg = x 0 ((0 : Int32) + 13).toNatClampNeg := by
    rw [setA_same, pk_un (by decide), k0_remembers]
  unfold cntP
  rw [e1, e2]
  exact ⟨h1, h2⟩
def mX6_takes_6  (C : (Nat → Nat → Int32) → Int32 → ((Nat → Nat → Int32))) : Nat → (Nat → Nat → Int32) → Int32 → ((Nat → Nat → Int32))
  | 0, xL_6, x1_6 => C xL_6 x1_6
  | n_6 + 1, xL_6, x1_6 => (lt (setA xL_6 0 (upd (xL_6 0) (x1_6 : Int32).toNatClampNeg ((xL_6 0) ((148 + x1_6)).toNatClampNeg))) (fun x_3 => (mX6_takes_6  C n_6 x_3 (x1_6 + 1))))
def mX6_takes (x : Nat → Nat → Int32) : (Nat → Nat → Int32) := (lt (mX6_remembers x) (fun q_1 => (mX6_takes_6  (fun xL_6 x1_6 => xL_6) (tr 0 148) q_1 0)))
def mX6_acts (x : Nat → Nat → Int32) (told : Int32) : Int32 × (Nat → Nat → Int32) := (if told < 0 then (told, x) else (lt (mX6_takes x) (fun q_2 => (told, q_2))))
def mX6_clears (x : Nat → Nat → Int32) (house mill hour : Int32) : (Nat → Nat → Int32) := (lt (setA x 0 (upd (x 0) (((((0 + 68) + (8 * house)) + (2 * mill)) + 0) : Int32).toNatClampNeg (((x 0) (((((0 + 68) + (8 * house)) + (2 * mill)) + 0)).toNatClampNeg) &&& ((1 <<< (hour &&& 31)) ^^^ (-1))))) (fun x_1 => (lt (setA x_1 0 (upd (x_1 0) (((((0 + 68) + (8 * house)) + (2 * mill)) + 1) : Int32).toNatClampNeg (((x_1 0) (((((0 + 68) + (8 * house)) + (2 * mill)) + 1)).toNatClampNeg) &&& ((1 <<< (hour &&& 31)) ^^^ (-1))))) (fun x_2 => x_2))))
theorem k4_clears (x : Nat → Nat → Int32) (house mill hour : Int32) : (mX6_clears x house mill hour) 4 = x 4 := rfl
def mX6_complains (x : Nat → Nat → Int32) (pp house mill kind hour : Int32) : Int32 × (Nat → Nat → Int32) := (if (mX6_reason x pp house mill kind hour) < 4 then (if (mX6_reason x pp house mill kind hour) ≤ 0 then (lt (setA x 0 (upd (x 0) (((((pp + 68) + (8 * house)) + (2 * mill)) + kind) : Int32).toNatClampNeg (((x 0) (((((pp + 68) + (8 * house)) + (2 * mill)) + kind)).toNatClampNeg) ||| (1 <<< (hour &&& 31))))) (fun x_3 => (lt (setA x_3 0 (upd (x_3 0) ((pp + 62) : Int32).toNatClampNeg (((x_3 0) ((pp + 62)).toNatClampNeg) + 1))) (fun x_4 => (if (mX6_points x_4 pp mill hour) < ((x_4 0) (((pp + 58) + 2)).toNatClampNeg) then ((mX6_points x_4 pp mill hour), x_4) else (lt (setA x_4 0 (upd (x_4 0) ((((pp + 1) + (3 * mill)) + 2) : Int32).toNatClampNeg (((x_4 0) ((((pp + 1) + (3 * mill)) + 2)).toNatClampNeg) ||| (1 <<< (hour &&& 31))))) (fun x_6 => ((mX6_points x_4 pp mill hour), x_6)))))))) else (((-10) - (mX6_reason x pp house mill kind hour)), x)) else (lt (setA x 0 (upd (x 0) ((((pp + 14) + (2 * house)) + 1) : Int32).toNatClampNeg (((x 0) ((((pp + 14) + (2 * house)) + 1)).toNatClampNeg) + 1))) (fun x_7 => (lt (setA x_7 0 (upd (x_7 0) ((pp + 63) : Int32).toNatClampNeg (((x_7 0) ((pp + 63)).toNatClampNeg) + 1))) (fun x_8 => (if (mX6_reason x pp house mill kind hour) ≤ 0 then (lt (setA x_8 0 (upd (x_8 0) (((((pp + 68) + (8 * house)) + (2 * mill)) + kind) : Int32).toNatClampNeg (((x_8 0) (((((pp + 68) + (8 * house)) + (2 * mill)) + kind)).toNatClampNeg) ||| (1 <<< (hour &&& 31))))) (fun x_10 => (lt (setA x_10 0 (upd (x_10 0) ((pp + 62) : Int32).toNatClampNeg (((x_10 0) ((pp + 62)).toNatClampNeg) + 1))) (fun x_11 => (if (mX6_points x_11 pp mill hour) < ((x_11 0) (((pp + 58) + 2)).toNatClampNeg) then ((mX6_points x_11 pp mill hour), x_11) else (lt (setA x_11 0 (upd (x_11 0) ((((pp + 1) + (3 * mill)) + 2) : Int32).toNatClampNeg (((x_11 0) ((((pp + 1) + (3 * mill)) + 2)).toNatClampNeg) ||| (1 <<< (hour &&& 31))))) (fun x_13 => ((mX6_points x_11 pp mill hour), x_13)))))))) else (((-10) - (mX6_reason x pp house mill kind hour)), x_8)))))))
theorem k4_complains (x : Nat → Nat → Int32) (pp house mill kind hour : Int32) : (mX6_complains x pp house mill kind hour).2 4 = x 4 := by
  unfold mX6_complains
  dsimp only [lt]
  repeat' split
  all_goals rfl
theorem cl_ne {a b : Int32} {u v : Int} (ha : a.toInt = u) (hb : b.toInt = v) (h : 0 ≤ u ∧ 0 ≤ v ∧ u ≠ v) : a.toNatClampNeg ≠ b.toNatClampNeg := by
  intro e
  have h1 : (a.toNatClampNeg : Int) = u := by
    show ((a.toInt.toNat : Nat) : Int) = u
    rw [ha]; omega
  have h2 : (b.toNatClampNeg : Int) = v := by
    show ((b.toInt.toNat : Nat) : Int) = v
    rw [hb]; omega
  rw [e] at h1
  omega
def mX6_complain (x : Nat → Nat → Int32) (house mill kind hour : Int32) : Int32 × (Nat → Nat → Int32) := (if 0 ≤ (mX6_wrong x 0 house mill kind hour) then (lt (mX6_copies x) (fun q_2 => (lt (mX6_complains q_2 148 house mill kind hour) (fun q_3 => (if 0 ≤ q_3.1 then (lt (mX6_takes q_3.2) (fun q_5 => (q_3.1, q_5))) else (if (-14) < q_3.1 then (q_3.1, q_3.2) else (lt (mX6_takes q_3.2) (fun q_7 => (q_3.1, q_7))))))))) else ((mX6_wrong x 0 house mill kind hour), x))
def mX6_sue (x : Nat → Nat → Int32) (mill house hour : Int32) : Int32 × (Nat → Nat → Int32) := (if (mX6_isMill x 0 mill) = 0 then ((-1), x) else (if (mX6_isHouse x 0 house) = 0 then ((-1), x) else (if (mX6_isHour hour) = 0 then ((-1), x) else (if (mX6_isTied x 0 mill hour) = 0 then ((-4), x) else (if (mX6_standsAny x house mill hour) = 0 then ((-4), x) else (lt (mX6_remembers x) (fun q_6 => (lt (setA q_6 0 (upd (q_6 0) (64 : Int32).toNatClampNeg (((q_6 0) 64) + 1))) (fun x_7 => (if ((x_7 0) 61) < (((x_7 0) ((34 + hour)).toNatClampNeg) * (mX6_ones ((x_7 0) ((((0 + 1) + (3 * mill)) + 2)).toNatClampNeg))) then (lt (setA x_7 0 (upd (x_7 0) (65 : Int32).toNatClampNeg (((x_7 0) 65) + 1))) (fun x_9 => (lt (setA x_9 0 (upd (x_9 0) ((((0 + 14) + (2 * house)) + 1) : Int32).toNatClampNeg (((x_9 0) ((((0 + 14) + (2 * house)) + 1)).toNatClampNeg) + 1))) (fun x_10 => (lt (mX6_clears x_10 house mill hour) (fun q_11 => (if ((q_11 0) 60) ≤ (mX6_points q_11 0 mill hour) then (1, q_11) else (lt (setA q_11 0 (upd (q_11 0) ((((0 + 1) + (3 * mill)) + 2) : Int32).toNatClampNeg (((q_11 0) ((((0 + 1) + (3 * mill)) + 2)).toNatClampNeg) &&& ((1 <<< (hour &&& 31)) ^^^ (-1))))) (fun x_13 => (1, x_13)))))))))) else (0, x_7)))))))))))
def mX6_vote_109 (mill : Int32) (hour : Int32) (C : (Nat → Nat → Int32) → Int32 → (Int32 × (Nat → Nat → Int32))) : Nat → (Nat → Nat → Int32) → Int32 → (Int32 × (Nat → Nat → Int32))
  | 0, xL_109, x4_109 => C xL_109 x4_109
  | n_109 + 1, xL_109, x4_109 => (lt (mX6_clears xL_109 x4_109 mill hour) (fun q_11 => (mX6_vote_109 mill hour C n_109 q_11 (x4_109 + 1))))
def mX6_vote (x : Nat → Nat → Int32) (mill hour : Int32) : Int32 × (Nat → Nat → Int32) := (if (mX6_isMill x 0 mill) = 0 then ((-1), x) else (if (mX6_isHour hour) = 0 then ((-1), x) else (if (mX6_isTied x 0 mill hour) = 0 then ((-4), x) else (if ((x 0) 13) = 0 then ((-4), x) else (lt (mX6_remembers x) (fun q_5 => (lt (setA q_5 0 (upd (q_5 0) (66 : Int32).toNatClampNeg (((q_5 0) 66) + 1))) (fun x_6 => (if (2 * (mX6_votes x_6 mill hour)) ≤ ((x_6 0) 13) then ((mX6_votes x_6 mill hour), x_6) else (lt (setA x_6 0 (upd (x_6 0) (67 : Int32).toNatClampNeg (((x_6 0) 67) + 1))) (fun x_8 => (lt (setA x_8 0 (upd (x_8 0) ((((0 + 1) + (3 * mill)) + 2) : Int32).toNatClampNeg (((x_8 0) ((((0 + 1) + (3 * mill)) + 2)).toNatClampNeg) &&& ((1 <<< (hour &&& 31)) ^^^ (-1))))) (fun x_9 => (mX6_vote_109 mill hour (fun xL_109 x4_109 => ((mX6_votes x_6 mill hour), xL_109)) (tr 0 10) x_9 0))))))))))))))
def mX6_millComes (x : Nat → Nat → Int32) (pp height yard : Int32) : Int32 × (Nat → Nat → Int32) := (if (mX6_isYard yard) = 0 then ((-1), x) else (if (mX6_in height 1 5) = 0 then ((-2), x) else (if (mX6_isBuilt x pp yard) = 0 then (if ((x 0) ((pp + 0)).toNatClampNeg) = 4 then ((-3), x) else (lt (setA x 0 (upd (x 0) ((((pp + 1) + (3 * ((x 0) ((pp + 0)).toNatClampNeg))) + 0) : Int32).toNatClampNeg height)) (fun x_5 => (lt (setA x_5 0 (upd (x_5 0) ((((pp + 1) + (3 * ((x_5 0) ((pp + 0)).toNatClampNeg))) + 1) : Int32).toNatClampNeg yard)) (fun x_6 => (lt (setA x_6 0 (upd (x_6 0) ((pp + 0) : Int32).toNatClampNeg (((x_6 0) ((pp + 0)).toNatClampNeg) + 1))) (fun x_7 => ((((x_7 0) ((pp + 0)).toNatClampNeg) - 1), x_7)))))))) else ((-4), x))))
theorem k4_millComes (x : Nat → Nat → Int32) (pp height yard : Int32) : (mX6_millComes x pp height yard).2 4 = x 4 := by
  unfold mX6_millComes
  dsimp only [lt]
  repeat' split
  all_goals rfl
def mX6_houseComes (x : Nat → Nat → Int32) (pp yard : Int32) : Int32 × (Nat → Nat → Int32) := (if (mX6_isYard yard) = 0 then ((-1), x) else (if (mX6_isBuilt x pp yard) = 0 then (if ((x 0) ((pp + 13)).toNatClampNeg) = 10 then ((-3), x) else (lt (setA x 0 (upd (x 0) ((((pp + 14) + (2 * ((x 0) ((pp + 13)).toNatClampNeg))) + 0) : Int32).toNatClampNeg yard)) (fun x_4 => (lt (setA x_4 0 (upd (x_4 0) ((pp + 13) : Int32).toNatClampNeg (((x_4 0) ((pp + 13)).toNatClampNeg) + 1))) (fun x_5 => ((((x_5 0) ((pp + 13)).toNatClampNeg) - 1), x_5)))))) else ((-4), x)))
theorem k4_houseComes (x : Nat → Nat → Int32) (pp yard : Int32) : (mX6_houseComes x pp yard).2 4 = x 4 := by
  unfold mX6_houseComes
  dsimp only [lt]
  repeat' split
  all_goals rfl
def mX6_blows_6 (pp : Int32) (wind : Int32) (C : (Nat → Nat → Int32) → Int32 → Int32 → (Int32 × (Nat → Nat → Int32))) : Nat → (Nat → Nat → Int32) → Int32 → Int32 → (Int32 × (Nat → Nat → Int32))
  | 0, xL_6, x6_6, x5_6 => C xL_6 x6_6 x5_6
  | n_6 + 1, xL_6, x6_6, x5_6 => (if ((xL_6 0) (((pp + 34) + x6_6)).toNatClampNeg) = wind then (lt (setA xL_6 0 (upd (xL_6 0) (((pp + 34) + x6_6) : Int32).toNatClampNeg wind)) (fun x_5 => (mX6_blows_6 pp wind C n_6 x_5 (x6_6 + 1) (x5_6 + 0)))) else (lt (setA xL_6 0 (upd (xL_6 0) (((pp + 34) + x6_6) : Int32).toNatClampNeg wind)) (fun x_4 => (mX6_blows_6 pp wind C n_6 x_4 (x6_6 + 1) (x5_6 + 1)))))
def mX6_blows (x : Nat → Nat → Int32) (pp fr tt wind : Int32) : Int32 × (Nat → Nat → Int32) := (mX6_blows_6 pp wind (fun xL_6 x6_6 x5_6 => (if x5_6 = 0 then ((-5), xL_6) else (x5_6, xL_6))) (tq fr tt) x fr 0)
theorem blows_k4 (pp wind : Int32) (C : (Nat → Nat → Int32) → Int32 → Int32 → (Int32 × (Nat → Nat → Int32))) (hC : ∀ z a b, (C z a b).2 4 = z 4) : ∀ (n : Nat) (x : Nat → Nat → Int32) (a b : Int32), (mX6_blows_6 pp wind C n x a b).2 4 = x 4
  | 0, x, a, b => by rw [mX6_blows_6]; exact hC x a b
  | n + 1, x, a, b => by
    rw [mX6_blows_6]
    split
    · exact blows_k4 pp wind C hC n _ _ _
    · exact blows_k4 pp wind C hC n _ _ _
theorem k4_blows (x : Nat → Nat → Int32) (pp fr tt wind : Int32) : (mX6_blows x pp fr tt wind).2 4 = x 4 := blows_k4 pp wind _ (fun z a b => by split <;> rfl) _ _ _ _
def mX6_mill (x : Nat → Nat → Int32) (height yard : Int32) : Int32 × (Nat → Nat → Int32) := (lt (mX6_copies x) (fun q_1 => (lt (mX6_millComes q_1 148 height yard) (fun q_2 => (lt (mX6_acts q_2.2 q_2.1) (fun q_3 => (q_3.1, q_3.2)))))))
def mX6_house (x : Nat → Nat → Int32) (yard : Int32) : Int32 × (Nat → Nat → Int32) := (lt (mX6_copies x) (fun q_1 => (lt (mX6_houseComes q_1 148 yard) (fun q_2 => (lt (mX6_acts q_2.2 q_2.1) (fun q_3 => (q_3.1, q_3.2)))))))
def mX6_wind (x : Nat → Nat → Int32) (fr tt wind : Int32) : Int32 × (Nat → Nat → Int32) := (if (mX6_isHour fr) = 0 then ((-1), x) else (if (mX6_in tt fr 23) = 0 then ((-1), x) else (if (mX6_in wind 0 9) = 0 then ((-2), x) else (lt (mX6_copies x) (fun q_4 => (lt (mX6_blows q_4 148 fr tt wind) (fun q_5 => (lt (mX6_acts q_5.2 q_5.1) (fun q_6 => (q_6.1, q_6.2))))))))))
def mX6_set (x : Nat → Nat → Int32) (which value : Int32) : Int32 × (Nat → Nat → Int32) := (if (mX6_canSet which value) = 0 then ((-2), x) else (if ((x 0) ((58 + which)).toNatClampNeg) = value then ((-5), x) else (lt (mX6_remembers x) (fun q_3 => (lt (setA q_3 0 (upd (q_3 0) ((58 + which) : Int32).toNatClampNeg value)) (fun x_4 => (((x 0) ((58 + which)).toNatClampNeg), x_4)))))))
def mX6_type (x : Nat → Nat → Int32) (ch : Int32) : Int32 × (Nat → Nat → Int32) := (if (x 4 2) = 60 then ((-3), x) else (lt (setA x 3 (upd (x 3) ((x 4 2) : Int32).toNatClampNeg ch)) (fun x_2 => (lt (setA x_2 4 (upd (x_2 4) 2 ((x_2 4 2) + 1))) (fun x_3 => ((x_3 4 2), x_3))))))
def mX6_clearText (x : Nat → Nat → Int32) : Int32 × (Nat → Nat → Int32) := (lt (setA x 4 (upd (x 4) 2 0)) (fun x_1 => ((x 4 2), x_1)))
def mX6_undo_22  (C : (Nat → Nat → Int32) → Int32 → (Int32 × (Nat → Nat → Int32))) : Nat → (Nat → Nat → Int32) → Int32 → (Int32 × (Nat → Nat → Int32))
  | 0, xL_22, x1_22 => C xL_22 x1_22
  | n_22 + 1, xL_22, x1_22 => (lt (setA xL_22 0 (upd (xL_22 0) (x1_22 : Int32).toNatClampNeg ((xL_22 1) (((148 * (xL_22 4 0)) + x1_22)).toNatClampNeg))) (fun x_4 => (mX6_undo_22  C n_22 x_4 (x1_22 + 1))))
def mX6_undo (x : Nat → Nat → Int32) : Int32 × (Nat → Nat → Int32) := (if (x 4 0) = 0 then ((-5), x) else (lt (setA x 4 (upd (x 4) 0 ((x 4 0) - 1))) (fun x_2 => (mX6_undo_22  (fun xL_22 x1_22 => ((xL_22 4 0), xL_22)) (tr 0 148) x_2 0))))
def mX6_keep_2  (C : (Nat → Nat → Int32) → Int32 → (Int32 × (Nat → Nat → Int32))) : Nat → (Nat → Nat → Int32) → Int32 → (Int32 × (Nat → Nat → Int32))
  | 0, xL_2, x1_2 => C xL_2 x1_2
  | n_2 + 1, xL_2, x1_2 => (lt (setA xL_2 2 (upd (xL_2 2) (x1_2 : Int32).toNatClampNeg ((xL_2 0) (x1_2).toNatClampNeg))) (fun x_3 => (mX6_keep_2  C n_2 x_3 (x1_2 + 1))))
def mX6_keep (x : Nat → Nat → Int32) : Int32 × (Nat → Nat → Int32) := (mX6_keep_2  (fun xL_2 x1_2 => (lt (setA xL_2 4 (upd (xL_2 4) 1 1)) (fun x_2 => (((x_2 0) 13), x_2)))) (tr 0 148) x 0)
def mX6_restore_16  (C : (Nat → Nat → Int32) → Int32 → (Int32 × (Nat → Nat → Int32))) : Nat → (Nat → Nat → Int32) → Int32 → (Int32 × (Nat → Nat → Int32))
  | 0, xL_16, x1_16 => C xL_16 x1_16
  | n_16 + 1, xL_16, x1_16 => (lt (setA xL_16 0 (upd (xL_16 0) (x1_16 : Int32).toNatClampNeg ((xL_16 2) (x1_16).toNatClampNeg))) (fun x_4 => (mX6_restore_16  C n_16 x_4 (x1_16 + 1))))
def mX6_restore (x : Nat → Nat → Int32) : Int32 × (Nat → Nat → Int32) := (if (x 4 1) = 0 then ((-5), x) else (lt (mX6_remembers x) (fun q_2 => (mX6_restore_16  (fun xL_16 x1_16 => (((xL_16 0) 13), xL_16)) (tr 0 148) q_2 0))))
section CONG
variable {x y : Nat → Nat → Int32} (h3 : x 3 = y 3) (h4 : x 4 = y 4)
theorem cg_sign (h3 : x 3 = y 3) (h4 : x 4 = y 4) (p : Int32) : mX6_sign x p = mX6_sign y p := by unfold mX6_sign; rw [h3, h4]
theorem cg_digit (h3 : x 3 = y 3) (h4 : x 4 = y 4) (p : Int32) : mX6_digit x p = mX6_digit y p := by unfold mX6_digit; rw [cg_sign h3 h4]
theorem cg_behind (h3 : x 3 = y 3) (h4 : x 4 = y 4) (p g : Int32) : mX6_behind x p g = mX6_behind y p g := by unfold mX6_behind; rw [cg_sign h3 h4]
theorem cg_digitEnd (h3 : x 3 = y 3) (h4 : x 4 = y 4) (p a b : Int32) : mX6_digitEnd x p a b = mX6_digitEnd y p a b := by unfold mX6_digitEnd; rw [cg_digit h3 h4]
theorem cg_yardEnd (h3 : x 3 = y 3) (h4 : x 4 = y 4) (p : Int32) : mX6_yardEnd x p = mX6_yardEnd y p := by unfold mX6_yardEnd; rw [cg_sign h3 h4, cg_digitEnd h3 h4]
theorem cg_hourEnd (h3 : x 3 = y 3) (h4 : x 4 = y 4) (p : Int32) : mX6_hourEnd x p = mX6_hourEnd y p := by unfold mX6_hourEnd; rw [cg_digit h3 h4, cg_digit h3 h4]
theorem cg_partEnd (h3 : x 3 = y 3) (h4 : x 4 = y 4) (p : Int32) : mX6_partEnd x p = mX6_partEnd y p := by
  have e : mX6_sign x = mX6_sign y := funext (cg_sign h3 h4)
  have e1 : mX6_digitEnd x = mX6_digitEnd y := funext fun a => funext fun b => funext fun c => cg_digitEnd h3 h4 a b c
  have e2 : mX6_behind x = mX6_behind y := funext fun a => funext fun b => cg_behind h3 h4 a b
  have e3 : mX6_yardEnd x = mX6_yardEnd y := funext (cg_yardEnd h3 h4)
  have e4 : mX6_hourEnd x = mX6_hourEnd y := funext (cg_hourEnd h3 h4)
  unfold mX6_partEnd
  rw [e, e1, e2, e3, e4]
theorem cg_fault4 (h3 : x 3 = y 3) (h4 : x 4 = y 4) (C : Int32 → Int32 → Int32) : ∀ (n : Nat) (a b : Int32), mX6_fault_4 x C n a b = mX6_fault_4 y C n a b
  | 0, a, b => by rw [mX6_fault_4, mX6_fault_4]
  | n + 1, a, b => by
    rw [mX6_fault_4, mX6_fault_4, cg_partEnd h3 h4]
    unfold lt
    generalize mX6_partEnd y b = r
    dsimp only
    rw [cg_sign h3 h4 r, h4, cg_fault4 h3 h4 C n]
end CONG
/-- what ends, ends further on -/
theorem up_digitEnd {x : Nat → Nat → Int32} {p a b : Int32} (hp : p.toInt < 1000) (h : 0 ≤ (mX6_digitEnd x p a b).toInt) : 0 ≤ p.toInt ∧ (mX6_digitEnd x p a b).toInt = p.toInt + 1 := by
  by_cases h0 : 0 ≤ p.toInt
  · have h1 : (0 : Int32) ≤ p := i_le.mpr h0
    unfold mX6_digitEnd at h ⊢
    rw [if_pos h1] at h ⊢
    unfold lt at h ⊢
    dsimp only at h ⊢
    split at h
    · have h2 := b_m1 (p := p) (by omega); omega
    · rename_i h3
      rw [if_neg h3]
      exact ⟨h0, b_up (p := p) 1 (n := 1) rfl (by omega) (by omega)⟩
  · have h1 : ¬ (0 : Int32) ≤ p := fun z => h0 (i_le.mp z)
    unfold mX6_digitEnd at h
    rw [if_neg h1] at h
    exact absurd h h0
theorem up_behind {x : Nat → Nat → Int32} {p g : Int32} (hp : p.toInt < 1000) (h : 0 ≤ (mX6_behind x p g).toInt) : 0 ≤ p.toInt ∧ (mX6_behind x p g).toInt = p.toInt + 1 := by
  by_cases h0 : 0 ≤ p.toInt
  · have h1 : (0 : Int32) ≤ p := i_le.mpr h0
    unfold mX6_behind at h ⊢
    rw [if_pos h1] at h ⊢
    unfold lt at h ⊢
    dsimp only at h ⊢
    split at h
    · rename_i h3
      rw [if_pos h3]
      exact ⟨h0, b_up (p := p) 1 (n := 1) rfl (by omega) (by omega)⟩
    · have h2 := b_m1 (p := p) (by omega); omega
  · have h1 : ¬ (0 : Int32) ≤ p := fun z => h0 (i_le.mp z)
    unfold mX6_behind at h
    rw [if_neg h1] at h
    exact absurd h h0
theorem up_yardEnd {x : Nat → Nat → Int32} {p : Int32} (hp : p.toInt < 900) (h : 0 ≤ (mX6_yardEnd x p).toInt) : 0 ≤ p.toInt ∧ (mX6_yardEnd x p).toInt = p.toInt + 2 := by
  by_cases h0 : 0 ≤ p.toInt
  · have h1 : (0 : Int32) ≤ p := i_le.mpr h0
    have h4 := b_up (p := p) 1 (n := 1) rfl (by omega) (by omega)
    unfold mX6_yardEnd at h ⊢
    rw [if_pos h1] at h ⊢
    unfold lt at h ⊢
    dsimp only at h ⊢
    split at h
    · have h2 := b_m1 (p := p) (by omega); omega
    · rename_i h3
      rw [if_neg h3]
      have h5 := up_digitEnd (by omega) h
      omega
  · have h1 : ¬ (0 : Int32) ≤ p := fun z => h0 (i_le.mp z)
    unfold mX6_yardEnd at h
    rw [if_neg h1] at h
    exact absurd h h0
theorem up_hourEnd {x : Nat → Nat → Int32} {p : Int32} (hp : p.toInt < 900) (h : 0 ≤ (mX6_hourEnd x p).toInt) : 0 ≤ p.toInt ∧ ((mX6_hourEnd x p).toInt = p.toInt + 1 ∨ (mX6_hourEnd x p).toInt = p.toInt + 2) := by
  by_cases h0 : 0 ≤ p.toInt
  · have h5 := b_hourEnd x p (by omega)
    refine ⟨h0, ?_⟩
    have h1 : (0 : Int32) ≤ p := i_le.mpr h0
    have u1 := b_up (p := p) 1 (n := 1) rfl (by omega) (by omega)
    have u2 := b_up (p := p) 2 (n := 2) rfl (by omega) (by omega)
    have v1 := b_m1 (p := p) (by omega)
    unfold mX6_hourEnd at h ⊢
    rw [if_pos h1] at h ⊢
    unfold lt at h ⊢
    dsimp only at h ⊢
    split
    · split
      · exact Or.inl u1
      · split
        · exact Or.inl u1
        · split
          · exact Or.inl u1
          · exact Or.inr u2
    · rename_i h2
      rw [if_neg h2] at h
      omega
  · have h1 : ¬ (0 : Int32) ≤ p := fun z => h0 (i_le.mp z)
    unfold mX6_hourEnd at h
    rw [if_neg h1] at h
    exact absurd h h0
theorem up_partEnd {x : Nat → Nat → Int32} {p : Int32} (hp : 0 ≤ p.toInt ∧ p.toInt < 100) (h : 0 ≤ (mX6_partEnd x p).toInt) : p.toInt + 4 ≤ (mX6_partEnd x p).toInt := by
  have u1 := b_up (p := p) 1 (n := 1) rfl (by omega) (by omega)
  have v1 := b_m1 (p := p) (by omega)
  have c0 := pe4 x p (by omega)
  have w1 : ∀ r : Int32, r = mX6_digitEnd x (mX6_digitEnd x (p + 1) 0 9) 0 3 → 0 ≤ r.toInt → r.toInt = p.toInt + 3 := by
    intro r hr h0
    rw [hr] at h0 ⊢
    have a1 := pe_u (p := p) (by omega)
    have a2 := g_digitEnd x (p + 1) 0 9 a1 (by omega)
    have a3 := up_digitEnd (by omega) h0
    have a4 := up_digitEnd (by omega) a3.1
    omega
  unfold mX6_partEnd at h ⊢
  unfold lt at h ⊢
  dsimp only at h ⊢
  split
  · rename_i hc
    rw [if_pos hc] at h
    generalize hr : mX6_digitEnd x (mX6_digitEnd x (p + 1) 0 9) 0 3 = r at h ⊢ c0
    have hh : 0 ≤ r.toInt → (mX6_hourEnd x (r + 1)).toInt ≥ p.toInt + 5 ∨ (mX6_hourEnd x (r + 1)).toInt < 0 := by
      intro h0
      have a1 := w1 r hr.symm h0
      have a2 := b_up (p := r) 1 (n := 1) rfl (by omega) (by omega)
      by_cases h9 : 0 ≤ (mX6_hourEnd x (r + 1)).toInt
      · have a3 := up_hourEnd (by omega) h9; omega
      · exact Or.inr (by omega)
    have k1 : ∀ z : Int32, 0 ≤ (if 0 ≤ r then mX6_hourEnd x (r + 1) else r).toInt → p.toInt + 4 ≤ (if 0 ≤ r then mX6_hourEnd x (r + 1) else r).toInt := by
      intro z q
      split at q
      · rename_i h1
        rw [if_pos h1]
        have := hh (i_le.mp h1); omega
      · rename_i h1
        exact absurd (show (0 : Int32) ≤ r from i_le.mpr q) h1
    split at h
    · rename_i c1; rw [if_pos c1]; exact k1 0 h
    · rename_i c1; rw [if_neg c1]
      split at h
      · rename_i c2; rw [if_pos c2]; exact k1 0 h
      · rename_i c2; rw [if_neg c2]
        split at h
        · rename_i c3; rw [if_pos c3]; exact k1 0 h
        · rename_i c3; rw [if_neg c3]
          split at h
          · rename_i c4
            have a1 := w1 r hr.symm (i_le.mp c4)
            have a2 := b_m1 (p := r) (by omega)
            omega
          · rename_i c4; exact absurd (show (0 : Int32) ≤ r from i_le.mpr h) c4
  · rename_i hc
    rw [if_neg hc] at h
    split at h
    · rename_i c1; rw [if_pos c1]
      have a0 := pe_u (p := p) (by omega)
      have a1 := g_behind x (p + 1) 64 a0 (by omega)
      have a2 := up_yardEnd (by omega) h
      have a3 := up_behind (by omega) a2.1
      omega
    · rename_i c1; rw [if_neg c1]
      split at h
      · rename_i c2; rw [if_pos c2]
        have a0 := pe_u (p := p) (by omega)
        have a1 := g_digitEnd x (p + 1) 1 5 a0 (by omega)
        have a2 := g_behind x _ 64 a1 (by omega)
        have a3 := up_yardEnd (by omega) h
        have a4 := up_behind (by omega) a3.1
        have a5 := up_digitEnd (by omega) a4.1
        omega
      · rename_i c2; rw [if_neg c2]
        split at h
        · rename_i c3; rw [if_pos c3]
          have a0 := pe_u (p := p) (by omega)
          have a1 := g_hourEnd x (p + 1) a0 (by omega)
          have a2 := g_behind x _ 61 a1 (by omega)
          have a3 := up_digitEnd (by omega) h
          have a4 := up_behind (by omega) a3.1
          have a5 := up_hourEnd (by omega) a4.1
          omega
        · omega
/-- from p on the text has no fault, or p is behind it -/
def vch (x : Nat → Nat → Int32) (p : Int32) : Prop := ((x 4 2).toInt < p.toInt ∧ p.toInt < 100) ∨ ((0 ≤ p.toInt ∧ p.toInt < 61) ∧ ∃ (n : Nat) (k : Int32), 60 < p.toInt + 5 * n ∧ mX6_fault_4 x (fun _ _ => -5) n k p = -5)
theorem vch_cong {x y : Nat → Nat → Int32} (h3 : x 3 = y 3) (h4 : x 4 = y 4) {p : Int32} (h : vch x p) : vch y p := by
  rcases h with h | ⟨h1, n, k, h2, h5⟩
  · exact Or.inl (by rw [← h4]; exact h)
  · exact Or.inr ⟨h1, n, k, h2, by rw [← cg_fault4 h3 h4]; exact h5⟩
theorem vch_in {x : Nat → Nat → Int32} {p : Int32} (h : vch x p) (c : ¬ x 4 2 ≤ p) : 0 ≤ p.toInt ∧ p.toInt < 61 := by
  rw [i_le] at c
  rcases h with h | ⟨h1, -⟩
  · omega
  · exact h1
theorem vch_0 {x : Nat → Nat → Int32} (h : mX6_fault x = -5) : vch x 0 := by
  refine Or.inr ⟨by decide, 60, 0, by decide, ?_⟩
  unfold mX6_fault at h
  rw [tr_lit (n := 60) 60 rfl] at h
  exact h
theorem vch_next {x : Nat → Nat → Int32} {p : Int32} (hL : 0 ≤ (x 4 2).toInt ∧ (x 4 2).toInt < 61) (h : vch x p) (c : ¬ x 4 2 ≤ p) : vch x (mX6_partEnd x p + 1) ∧ p.toInt + 5 ≤ (mX6_partEnd x p + 1).toInt := by
  rw [i_le] at c
  rcases h with h | ⟨h1, n, k, h2, h5⟩
  · omega
  · cases n with
    | zero => omega
    | succ n =>
      rw [mX6_fault_4] at h5
      have hb := b_partEnd x p (by omega)
      have hu := up_partEnd (x := x) (p := p) (by omega)
      unfold lt at h5
      generalize mX6_partEnd x p = r at h5 hb hu ⊢
      dsimp only at h5
      have hr1 := b_up (p := r) 1 (n := 1) rfl (by omega) (by omega)
      split at h5
      · rename_i h0
        have h0' := i_le.mp h0
        have e0 : (0 : Int32).toInt = 0 := rfl
        have hu := hu (by omega)
        split at h5
        · rename_i h6
          have h7 := i_eq.mp h6
          exact ⟨Or.inl (by omega), by omega⟩
        · split at h5
          · rename_i h7
            have h8 := f_sign59 h7
            exact ⟨Or.inr ⟨by omega, n, k + 1, by omega, h5⟩, by omega⟩
          · have h9 := i_eq.mp h5
            have e5 : (-5 : Int32).toInt = -5 := rfl
            omega
      · rename_i h0
        have h0' : ¬ (0 : Int32).toInt ≤ r.toInt := fun z => h0 (i_le.mpr z)
        have e0 : (0 : Int32).toInt = 0 := rfl
        have hm := b_m1 (p := r) (by omega)
        have h9 := i_eq.mp h5
        have e5 : (-5 : Int32).toInt = -5 := rfl
        omega
def tw (p : Int32) : Nat := (162 - p.toInt).toNat
theorem tw0 {p N : Int32} (h : tw p ≤ 0) (c : ¬ N ≤ p) (hN : N.toInt < 61) : False := by
  unfold tw at h
  rw [i_le] at c
  omega
theorem twN {p r : Int32} {n : Nat} (h : tw p ≤ n + 1) (h2 : p.toInt + 5 ≤ r.toInt) : tw r ≤ n := by
  unfold tw at h ⊢
  omega
theorem k3_copies (x : Nat → Nat → Int32) : mX6_copies x 3 = x 3 := by
  rw [copies_eq]; exact cpr_ne 0 0 0 148 (by omega) _ _ _
/-- a store elsewhere leaves the numbers of mills and houses -/
theorem cnt_set {x : Nat → Nat → Int32} {i V : Int32} {u : Int} (h : cntP x 148) (hi : i.toInt = u) (hu : 0 ≤ u ∧ u ≠ 148 ∧ u ≠ 161) : cntP (setA x 0 (upd (x 0) i.toNatClampNeg V)) 148 := by
  obtain ⟨h1, h2⟩ := h
  have e1 : (setA x 0 (upd (x 0) i.toNatClampNeg V)) 0 ((148 : Int32) + 0).toNatClampNeg = x 0 ((148 : Int32) + 0).toNatClampNeg := by
    rw [setA_same]; exact pk_un (cl_ne (show ((148 : Int32) + 0).toInt = 148 from rfl) hi (by omega))
  have e2 : (setA x 0 (upd (x 0) i.toNatClampNeg V)) 0 ((148 : Int32) + 13).toNatClampNeg = x 0 ((148 : Int32) + 13).toNatClampNeg := by
    rw [setA_same]; exact pk_un (cl_ne (show ((148 : Int32) + 13).toInt = 161 from rfl) hi (by omega))
  unfold cntP
  rw [e1, e2]
  exact ⟨h1, h2⟩
theorem cnt_incM {x : Nat → Nat → Int32} (h : cntP x 148) (h4 : ¬ x 0 ((148 : Int32) + 0).toNatClampNeg = 4) : cntP (setA x 0 (upd (x 0) ((148 : Int32) + 0).toNatClampNeg (x 0 ((148 : Int32) + 0).toNatClampNeg + 1))) 148 := by
  obtain ⟨h1, h2⟩ := h
  have h5 : ¬ (x 0 ((148 : Int32) + 0).toNatClampNeg).toInt = 4 := fun z => h4 (i_eq.mpr z)
  have e1 : (setA x 0 (upd (x 0) ((148 : Int32) + 0).toNatClampNeg (x 0 ((148 : Int32) + 0).toNatClampNeg + 1))) 0 ((148 : Int32) + 0).toNatClampNeg = x 0 ((148 : Int32) + 0).toNatClampNeg + 1 := by
    rw [setA_same]; exact pk_us
  have e2 : (setA x 0 (upd (x 0) ((148 : Int32) + 0).toNatClampNeg (x 0 ((148 : Int32) + 0).toNatClampNeg + 1))) 0 ((148 : Int32) + 13).toNatClampNeg = x 0 ((148 : Int32) + 13).toNatClampNeg := by
    rw [setA_same]; exact pk_un (by decide)
  unfold cntP
  rw [e1, e2]
  generalize x 0 ((148 : Int32) + 0).toNatClampNeg = m at h1 h5 ⊢
  rw [ti_add (a := m) (b := 1) rfl (show (1 : Int32).toInt = 1 from rfl) (by omega)]
  exact ⟨by omega, h2⟩
theorem cnt_incH {x : Nat → Nat → Int32} (h : cntP x 148) (h4 : ¬ x 0 ((148 : Int32) + 13).toNatClampNeg = 10) : cntP (setA x 0 (upd (x 0) ((148 : Int32) + 13).toNatClampNeg (x 0 ((148 : Int32) + 13).toNatClampNeg + 1))) 148 := by
  obtain ⟨h1, h2⟩ := h
  have h5 : ¬ (x 0 ((148 : Int32) + 13).toNatClampNeg).toInt = 10 := fun z => h4 (i_eq.mpr z)
  have e1 : (setA x 0 (upd (x 0) ((148 : Int32) + 13).toNatClampNeg (x 0 ((148 : Int32) + 13).toNatClampNeg + 1))) 0 ((148 : Int32) + 13).toNatClampNeg = x 0 ((148 : Int32) + 13).toNatClampNeg + 1 := by
    rw [setA_same]; exact pk_us
  have e2 : (setA x 0 (upd (x 0) ((148 : Int32) + 13).toNatClampNeg (x 0 ((148 : Int32) + 13).toNatClampNeg + 1))) 0 ((148 : Int32) + 0).toNatClampNeg = x 0 ((148 : Int32) + 0).toNatClampNeg := by
    rw [setA_same]; exact pk_un (by decide)
  unfold cntP
  rw [e1, e2]
  generalize x 0 ((148 : Int32) + 13).toNatClampNeg = m at h2 h5 ⊢
  rw [ti_add (a := m) (b := 1) rfl (show (1 : Int32).toInt = 1 from rfl) (by omega)]
  exact ⟨h1, by omega⟩
theorem get_set {x : Nat → Nat → Int32} {i j V : Int32} {u v : Int} (hj : j.toInt = v) (hi : i.toInt = u) (h : 0 ≤ v ∧ 0 ≤ u ∧ v ≠ u) : (setA x 0 (upd (x 0) i.toNatClampNeg V)) 0 j.toNatClampNeg = x 0 j.toNatClampNeg := by
  rw [setA_same]; exact pk_un (cl_ne hj hi h)
theorem ix_mill {m k : Int32} {n : Int} (hm : 0 ≤ m.toInt ∧ m.toInt < 4) (hk : k.toInt = n) (hn : 0 ≤ n ∧ n < 3) : (((148 : Int32) + 1) + (3 * m) + k).toInt = 149 + 3 * m.toInt + n :=
  ti_add (ti_add (show ((148 : Int32) + 1).toInt = 149 from rfl) (ti_mul (show (3 : Int32).toInt = 3 from rfl) (b := m) rfl (by omega)) (by omega)) hk (by omega)
theorem ix_house {m k : Int32} {n : Int} (hm : 0 ≤ m.toInt ∧ m.toInt < 10) (hk : k.toInt = n) (hn : 0 ≤ n ∧ n < 2) : (((148 : Int32) + 14) + (2 * m) + k).toInt = 162 + 2 * m.toInt + n :=
  ti_add (ti_add (show ((148 : Int32) + 14).toInt = 162 from rfl) (ti_mul (show (2 : Int32).toInt = 2 from rfl) (b := m) rfl (by omega)) (by omega)) hk (by omega)
theorem cnt_millComes {x : Nat → Nat → Int32} (h : cntP x 148) (a b : Int32) : cntP (mX6_millComes x 148 a b).2 148 := by
  unfold mX6_millComes lt
  dsimp only
  split
  · exact h
  · split
    · exact h
    · split
      · split
        · exact h
        · rename_i h4
          have hm : 0 ≤ (x 0 ((148 : Int32) + 0).toNatClampNeg).toInt ∧ (x 0 ((148 : Int32) + 0).toNatClampNeg).toInt < 4 := by
            have h5 : ¬ (x 0 ((148 : Int32) + 0).toNatClampNeg).toInt = 4 := fun z => h4 (i_eq.mpr z)
            have h6 := h.1
            generalize x 0 ((148 : Int32) + 0).toNatClampNeg = m at h5 h6 ⊢
            omega
          have i0 := ix_mill (k := 0) hm (show (0 : Int32).toInt = 0 from rfl) (by omega)
          have i1 := ix_mill (k := 1) hm (show (1 : Int32).toInt = 1 from rfl) (by omega)
          have c1 := cnt_set (V := a) h i0 (by omega)
          have g1 := get_set (x := x) (V := a) (show ((148 : Int32) + 0).toInt = 148 from rfl) i0 (by omega)
          generalize hs1 : setA x 0 (upd (x 0) (((148 : Int32) + 1) + (3 * x 0 ((148 : Int32) + 0).toNatClampNeg) + 0).toNatClampNeg a) = s1 at c1 g1 ⊢
          rw [g1]
          have c2 := cnt_set (V := b) c1 i1 (by omega)
          have g2 := get_set (x := s1) (V := b) (show ((148 : Int32) + 0).toInt = 148 from rfl) i1 (by omega)
          generalize hs2 : setA s1 0 (upd (s1 0) (((148 : Int32) + 1) + (3 * x 0 ((148 : Int32) + 0).toNatClampNeg) + 1).toNatClampNeg b) = s2 at c2 g2 ⊢
          exact cnt_incM c2 (by rw [g2, g1]; exact h4)
      · exact h
theorem cnt_houseComes {x : Nat → Nat → Int32} (h : cntP x 148) (b : Int32) : cntP (mX6_houseComes x 148 b).2 148 := by
  unfold mX6_houseComes lt
  dsimp only
  split
  · exact h
  · split
    · split
      · exact h
      · rename_i h4
        have hm : 0 ≤ (x 0 ((148 : Int32) + 13).toNatClampNeg).toInt ∧ (x 0 ((148 : Int32) + 13).toNatClampNeg).toInt < 10 := by
          have h5 : ¬ (x 0 ((148 : Int32) + 13).toNatClampNeg).toInt = 10 := fun z => h4 (i_eq.mpr z)
          have h6 := h.2
          generalize x 0 ((148 : Int32) + 13).toNatClampNeg = m at h5 h6 ⊢
          omega
        have i0 := ix_house (k := 0) hm (show (0 : Int32).toInt = 0 from rfl) (by omega)
        have c1 := cnt_set (V := b) h i0 (by omega)
        have g1 := get_set (x := x) (V := b) (show ((148 : Int32) + 13).toInt = 161 from rfl) i0 (by omega)
        generalize hs1 : setA x 0 (upd (x 0) (((148 : Int32) + 14) + (2 * x 0 ((148 : Int32) + 13).toNatClampNeg) + 0).toNatClampNeg b) = s1 at c1 g1 ⊢
        exact cnt_incH c1 (by rw [g1]; exact h4)
    · exact h
theorem tq_self (h : Int32) : tq h h = 1 := by
  unfold tq; omega
theorem blows_1 (x : Nat → Nat → Int32) (p h w : Int32) : (mX6_blows x p h h w).2 = setA x 0 (upd (x 0) ((p + 34) + h).toNatClampNeg w) := by
  unfold mX6_blows
  rw [tq_self, mX6_blows_6]
  unfold lt
  split
  · dsimp only
    rw [mX6_blows_6]
    split <;> rfl
  · dsimp only
    rw [mX6_blows_6]
    split <;> rfl
theorem cnt_complains {x : Nat → Nat → Int32} {house mill kind hour : Int32} (h : cntP x 148) (hh : 0 ≤ house.toInt ∧ house.toInt < 10) (hm : 0 ≤ mill.toInt ∧ mill.toInt < 4) (hk : 0 ≤ kind.toInt ∧ kind.toInt < 2) : cntP (mX6_complains x 148 house mill kind hour).2 148 := by
  have i0 : ((((((148 : Int32) + 68) + (8 * house)) + (2 * mill)) + kind)).toInt = 216 + 8 * house.toInt + 2 * mill.toInt + kind.toInt := (ti_add (ti_add (ti_add (show ((148 : Int32) + 68).toInt = 216 from rfl) (ti_mul (show (8 : Int32).toInt = 8 from rfl) (b := house) rfl (by omega)) (by omega)) (ti_mul (show (2 : Int32).toInt = 2 from rfl) (b := mill) rfl (by omega)) (by omega)) rfl (by omega))
  have i1 := ix_mill (k := 2) hm (show (2 : Int32).toInt = 2 from rfl) (by omega)
  have i2 := ix_house (k := 1) hh (show (1 : Int32).toInt = 1 from rfl) (by omega)
  have i3 : ((148 : Int32) + 62).toInt = 210 := rfl
  have i4 : ((148 : Int32) + 63).toInt = 211 := rfl
  unfold mX6_complains lt
  dsimp only
  split
  · split
    · split
      · exact cnt_set (cnt_set h i0 (by omega)) i3 (by omega)
      · exact cnt_set (cnt_set (cnt_set h i0 (by omega)) i3 (by omega)) i1 (by omega)
    · exact h
  · split
    · split
      · exact cnt_set (cnt_set (cnt_set (cnt_set h i2 (by omega)) i4 (by omega)) i0 (by omega)) i3 (by omega)
      · exact cnt_set (cnt_set (cnt_set (cnt_set (cnt_set h i2 (by omega)) i4 (by omega)) i0 (by omega)) i3 (by omega)) i1 (by omega)
    · exact cnt_set (cnt_set h i2 (by omega)) i4 (by omega)
theorem k3_complains (x : Nat → Nat → Int32) (pp house mill kind hour : Int32) : (mX6_complains x pp house mill kind hour).2 3 = x 3 := by
  unfold mX6_complains lt
  dsimp only
  repeat' split
  all_goals rfl
theorem k3_millComes (x : Nat → Nat → Int32) (pp a b : Int32) : (mX6_millComes x pp a b).2 3 = x 3 := by
  unfold mX6_millComes lt
  dsimp only
  repeat' split
  all_goals rfl
theorem k3_houseComes (x : Nat → Nat → Int32) (pp b : Int32) : (mX6_houseComes x pp b).2 3 = x 3 := by
  unfold mX6_houseComes lt
  dsimp only
  repeat' split
  all_goals rfl
def mX6_doesComplaint (x : Nat → Nat → Int32) (pl : Int32) : Int32 × (Nat → Nat → Int32) := (lt (mX6_digit x (pl + 1)) (fun r_2 => (lt (mX6_digit x (pl + 2)) (fun r_4 => (lt (mX6_sign x (pl + 3)) (fun r_6 => (if r_6 = 115 then (lt (mX6_hourIn x (pl + 4)) (fun r_14 => (if 0 ≤ (mX6_wrong x 148 r_2 r_4 1 r_14) then (lt (mX6_complains x 148 r_2 r_4 1 r_14) (fun q_17 => ((mX6_wrong x 148 r_2 r_4 1 r_14), q_17.2))) else ((mX6_wrong x 148 r_2 r_4 1 r_14), x)))) else (lt (mX6_hourIn x (pl + 4)) (fun r_9 => (if 0 ≤ (mX6_wrong x 148 r_2 r_4 0 r_9) then (lt (mX6_complains x 148 r_2 r_4 0 r_9) (fun q_12 => ((mX6_wrong x 148 r_2 r_4 0 r_9), q_12.2))) else ((mX6_wrong x 148 r_2 r_4 0 r_9), x)))))))))))
def dcR (x : Nat → Nat → Int32) (s a b h : Int32) : Int32 × (Nat → Nat → Int32) := if s = 115 then (if 0 ≤ mX6_wrong x 148 a b 1 h then (mX6_wrong x 148 a b 1 h, (mX6_complains x 148 a b 1 h).2) else (mX6_wrong x 148 a b 1 h, x)) else (if 0 ≤ mX6_wrong x 148 a b 0 h then (mX6_wrong x 148 a b 0 h, (mX6_complains x 148 a b 0 h).2) else (mX6_wrong x 148 a b 0 h, x))
theorem dc_eq (x : Nat → Nat → Int32) (p : Int32) : mX6_doesComplaint x p = dcR x (mX6_sign x (p + 3)) (mX6_digit x (p + 1)) (mX6_digit x (p + 2)) (mX6_hourIn x (p + 4)) := by
  unfold mX6_doesComplaint dcR
  generalize mX6_digit x (p + 1) = a
  generalize mX6_digit x (p + 2) = b
  generalize mX6_hourIn x (p + 4) = h
  generalize mX6_sign x (p + 3) = s
  unfold lt
  dsimp only
theorem dc_all {x : Nat → Nat → Int32} {P : (Nat → Nat → Int32) → Prop} (s a b h : Int32) (h0 : P x) (h1 : ∀ k : Int32, 0 ≤ k.toInt ∧ k.toInt < 2 → 0 ≤ mX6_wrong x 148 a b k h → P (mX6_complains x 148 a b k h).2) : P (dcR x s a b h).2 := by
  unfold dcR
  by_cases c1 : s = 115
  · rw [if_pos c1]
    by_cases c2 : 0 ≤ mX6_wrong x 148 a b 1 h
    · rw [if_pos c2]; exact h1 1 (by decide) c2
    · rw [if_neg c2]; exact h0
  · rw [if_neg c1]
    by_cases c2 : 0 ≤ mX6_wrong x 148 a b 0 h
    · rw [if_pos c2]; exact h1 0 (by decide) c2
    · rw [if_neg c2]; exact h0
theorem k4_doesComplaint (x : Nat → Nat → Int32) (p : Int32) : (mX6_doesComplaint x p).2 4 = x 4 := by
  rw [dc_eq]
  exact dc_all (P := fun z => z 4 = x 4) _ _ _ _ rfl (fun k _ _ => k4_complains _ _ _ _ _ _)
theorem k3_doesComplaint (x : Nat → Nat → Int32) (p : Int32) : (mX6_doesComplaint x p).2 3 = x 3 := by
  rw [dc_eq]
  exact dc_all (P := fun z => z 3 = x 3) _ _ _ _ rfl (fun k _ _ => k3_complains _ _ _ _ _ _)
theorem cnt_doesComplaint {x : Nat → Nat → Int32} (h : cntP x 148) (p : Int32) : cntP (mX6_doesComplaint x p).2 148 := by
  rw [dc_eq]
  exact dc_all (P := fun z => cntP z 148) _ _ _ _ h (fun k _ c => (fun f => cnt_complains h f.1 f.2.1 f.2.2.1) (f_wrongP h c))
theorem w_hourEnd {x : Nat → Nat → Int32} {p : Int32} (hs : mX6_sign x p = 119) (hv : 0 ≤ (mX6_partEnd x p).toInt) (hp : 0 ≤ p.toInt ∧ p.toInt < 900) : 0 ≤ (mX6_hourEnd x (p + 1)).toInt := by
  have a0 := pe_u (p := p) (by omega)
  have a1 := g_hourEnd x (p + 1) a0 (by omega)
  have a2 := g_behind x _ 61 a1 (by omega)
  have e : mX6_partEnd x p = mX6_digitEnd x (mX6_behind x (mX6_hourEnd x (p + 1)) 61) 0 9 := by
    unfold mX6_partEnd
    rw [hs]
    unfold lt
    dsimp only
    rw [if_neg (show ¬ (119 : Int32) = 99 by decide), if_neg (show ¬ (119 : Int32) = 104 by decide), if_neg (show ¬ (119 : Int32) = 109 by decide), if_pos (Eq.refl (119 : Int32))]
  rw [e] at hv
  have a3 := up_digitEnd (by omega) hv
  exact (up_behind (by omega) a3.1).1
theorem vch_part {x : Nat → Nat → Int32} {p : Int32} (hL : 0 ≤ (x 4 2).toInt ∧ (x 4 2).toInt < 61) (h : vch x p) (c : ¬ x 4 2 ≤ p) : 0 ≤ (mX6_partEnd x p).toInt := by
  have h1 := vch_next hL h c
  have h2 := vch_in h c
  have h3 := b_partEnd x p (by omega)
  have h4 := h1.2
  generalize mX6_partEnd x p = r at h3 h4 ⊢
  rw [b_up (p := r) 1 (n := 1) rfl (by omega) (by omega)] at h4
  omega
def mX6_does (x : Nat → Nat → Int32) (pl : Int32) : Int32 × (Nat → Nat → Int32) := (lt (mX6_sign x pl) (fun r_1 => (if r_1 = 104 then (lt (mX6_yardIn x (pl + 2)) (fun r_4 => (lt (mX6_houseComes x 148 r_4) (fun q_5 => (q_5.1, q_5.2))))) else (if r_1 = 109 then (lt (mX6_digit x (pl + 1)) (fun r_8 => (lt (mX6_yardIn x (pl + 3)) (fun r_10 => (lt (mX6_millComes x 148 r_8 r_10) (fun q_11 => (q_11.1, q_11.2))))))) else (if r_1 = 119 then (lt (mX6_hourIn x (pl + 1)) (fun r_14 => (lt (mX6_hourEnd x (pl + 1)) (fun r_16 => (lt (mX6_digit x (r_16 + 1)) (fun r_18 => (lt (mX6_blows x 148 r_14 r_14 r_18) (fun q_19 => (0, q_19.2))))))))) else (lt (mX6_doesComplaint x pl) (fun q_20 => (q_20.1, q_20.2))))))))
def doR (x : Nat → Nat → Int32) (s a b c d e : Int32) (z : Int32 × (Nat → Nat → Int32)) : Int32 × (Nat → Nat → Int32) := if s = 104 then ((mX6_houseComes x 148 a).1, (mX6_houseComes x 148 a).2) else if s = 109 then ((mX6_millComes x 148 b c).1, (mX6_millComes x 148 b c).2) else if s = 119 then (0, (mX6_blows x 148 d d e).2) else (z.1, z.2)
theorem do_eq (x : Nat → Nat → Int32) (p : Int32) : mX6_does x p = doR x (mX6_sign x p) (mX6_yardIn x (p + 2)) (mX6_digit x (p + 1)) (mX6_yardIn x (p + 3)) (mX6_hourIn x (p + 1)) (mX6_digit x (mX6_hourEnd x (p + 1) + 1)) (mX6_doesComplaint x p) := by
  unfold mX6_does doR
  generalize mX6_doesComplaint x p = z
  generalize mX6_hourEnd x (p + 1) = he
  generalize mX6_hourIn x (p + 1) = hi
  generalize mX6_yardIn x (p + 2) = y2
  generalize mX6_yardIn x (p + 3) = y3
  generalize mX6_digit x (p + 1) = d1
  generalize mX6_sign x p = s
  unfold lt
  dsimp only
theorem do_all {x : Nat → Nat → Int32} {P : (Nat → Nat → Int32) → Prop} (s a b c d e : Int32) (z : Int32 × (Nat → Nat → Int32)) (h1 : P (mX6_houseComes x 148 a).2) (h2 : P (mX6_millComes x 148 b c).2) (h3 : P (mX6_blows x 148 d d e).2) (h4 : P z.2) : P (doR x s a b c d e z).2 := by
  unfold doR
  by_cases c1 : s = 104
  · rw [if_pos c1]; exact h1
  · rw [if_neg c1]
    by_cases c2 : s = 109
    · rw [if_pos c2]; exact h2
    · rw [if_neg c2]
      by_cases c3 : s = 119
      · rw [if_pos c3]; exact h3
      · rw [if_neg c3]; exact h4
theorem k4_does (x : Nat → Nat → Int32) (p : Int32) : (mX6_does x p).2 4 = x 4 := by
  rw [do_eq]
  exact do_all (P := fun z => z 4 = x 4) _ _ _ _ _ _ _ (k4_houseComes _ _ _) (k4_millComes _ _ _ _) (k4_blows _ _ _ _ _) (k4_doesComplaint _ _)
theorem k3_does (x : Nat → Nat → Int32) (p : Int32) : (mX6_does x p).2 3 = x 3 := by
  rw [do_eq]
  exact do_all (P := fun z => z 3 = x 3) _ _ _ _ _ _ _ (k3_houseComes _ _ _) (k3_millComes _ _ _ _) (by rw [blows_1]; exact setA_ne _ _ (by omega)) (k3_doesComplaint _ _)
theorem cnt_does {x : Nat → Nat → Int32} (h : cntP x 148) {p : Int32} (hp : 0 ≤ p.toInt ∧ p.toInt < 800) : cntP (mX6_does x p).2 148 := by
  have h1 := b_up (p := p) 1 (n := 1) rfl (by omega) (by omega)
  have h2 := b_hourIn x (p + 1) (by omega)
  have h5 := cnt_doesComplaint h p
  rw [do_eq]
  generalize mX6_hourIn x (p + 1) = r at h2 ⊢
  exact do_all (P := fun z => cntP z 148) _ _ _ _ _ _ _ (cnt_houseComes h _) (cnt_millComes h _ _) (by rw [blows_1]; exact cnt_set h (ti_add (show ((148 : Int32) + 34).toInt = 182 from rfl) (b := r) rfl (by omega)) (by omega)) h5
def mX6_doAll_24  (C : (Nat → Nat → Int32) → Int32 → Int32 → (Int32 × (Nat → Nat → Int32))) : Nat → (Nat → Nat → Int32) → Int32 → Int32 → (Int32 × (Nat → Nat → Int32))
  | 0, xL_24, x3_24, x2_24 => C xL_24 x3_24 x2_24
  | n_24 + 1, xL_24, x3_24, x2_24 => (if (xL_24 4 2) ≤ x3_24 then (C xL_24 x3_24 x2_24) else (lt (mX6_does xL_24 x3_24) (fun q_6 => (if 0 ≤ q_6.1 then (lt (mX6_partEnd q_6.2 x3_24) (fun r_8 => (mX6_doAll_24  C n_24 q_6.2 (r_8 + 1) (x2_24 + 1)))) else (q_6.1, q_6.2)))))
def mX6_doAll (x : Nat → Nat → Int32) : Int32 × (Nat → Nat → Int32) := (lt (mX6_fault x) (fun r_1 => (if r_1 = (-5) then (lt (mX6_copies x) (fun q_3 => (mX6_doAll_24  (fun xL_24 x3_24 x2_24 => (lt (mX6_acts xL_24 x2_24) (fun q_5 => (q_5.1, q_5.2)))) 200 q_3 0 0))) else (((-100) - r_1), x))))
def mX6_ground (x : Nat → Nat → Int32) : UInt32 := (if (mX6_ofMills x (-1)) = 0 then FP.fconst1 else (FP.fdiv (FP.i2f (mX6_ofMills x 9)) (FP.i2f (mX6_ofMills x (-1)))))
