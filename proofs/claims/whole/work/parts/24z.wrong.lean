theorem f_wrongP {x : Nat → Nat → Int32} {p house mill kind hour : Int32} (hC : cntP x p) (h : 0 ≤ mX6_wrong x p house mill kind hour) : (0 ≤ house.toInt ∧ house.toInt < 10) ∧ (0 ≤ mill.toInt ∧ mill.toInt < 4) ∧ (0 ≤ kind.toInt ∧ kind.toInt < 2) ∧ (0 ≤ hour.toInt ∧ hour.toInt < 24) :=
  f_wrong hC (fun h2 => by rw [i_le] at h; rw [i_lt] at h2; omega)
