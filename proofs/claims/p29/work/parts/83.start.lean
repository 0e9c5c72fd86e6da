/-! LAYER 3, 7: what the law finds at its start; its loop; its entry. -/
set_option maxRecDepth 20000 in
theorem nw_all {args : Array Value} {s : State} (hts : ∀ w ∈ lw_tbl, w.before args s = true) : nwOk s := by
  refine ⟨?_, ?_⟩
  · unfold nwF
    exact List.forall_mem_cons.mpr ⟨va_Nw.of rfl (hts _ (List.mem_of_getElem? (i := 36) (by decide +kernel))), List.forall_mem_cons.mpr ⟨va_Nw.of rfl (hts _ (List.mem_of_getElem? (i := 42) (by decide +kernel))), List.forall_mem_cons.mpr ⟨va_Nw.of rfl (hts _ (List.mem_of_getElem? (i := 44) (by decide +kernel))), List.forall_mem_cons.mpr ⟨va_Nw.of rfl (hts _ (List.mem_of_getElem? (i := 46) (by decide +kernel))), List.forall_mem_cons.mpr ⟨va_Nw.of rfl (hts _ (List.mem_of_getElem? (i := 48) (by decide +kernel))), List.forall_mem_cons.mpr ⟨va_Nw.of rfl (hts _ (List.mem_of_getElem? (i := 50) (by decide +kernel))), List.forall_mem_cons.mpr ⟨va_Nw.of rfl (hts _ (List.mem_of_getElem? (i := 52) (by decide +kernel))), List.forall_mem_cons.mpr ⟨va_Nw.of rfl (hts _ (List.mem_of_getElem? (i := 55) (by decide +kernel))), List.forall_mem_cons.mpr ⟨va_Nw.of rfl (hts _ (List.mem_of_getElem? (i := 57) (by decide +kernel))), List.forall_mem_cons.mpr ⟨va_Nw.of rfl (hts _ (List.mem_of_getElem? (i := 59) (by decide +kernel))), List.forall_mem_cons.mpr ⟨va_Nw.of rfl (hts _ (List.mem_of_getElem? (i := 97) (by decide +kernel))), List.forall_mem_cons.mpr ⟨va_Nw.of rfl (hts _ (List.mem_of_getElem? (i := 113) (by decide +kernel))), fun _ h => absurd h List.not_mem_nil⟩⟩⟩⟩⟩⟩⟩⟩⟩⟩⟩⟩
  · unfold nwM
    exact List.forall_mem_cons.mpr ⟨va_Nw.of rfl (hts _ (List.mem_of_getElem? (i := 38) (by decide +kernel))), List.forall_mem_cons.mpr ⟨va_Nw.of rfl (hts _ (List.mem_of_getElem? (i := 165) (by decide +kernel))), List.forall_mem_cons.mpr ⟨va_Nw.of rfl (hts _ (List.mem_of_getElem? (i := 291) (by decide +kernel))), List.forall_mem_cons.mpr ⟨va_Nw.of rfl (hts _ (List.mem_of_getElem? (i := 327) (by decide +kernel))), List.forall_mem_cons.mpr ⟨va_Nw.of rfl (hts _ (List.mem_of_getElem? (i := 345) (by decide +kernel))), List.forall_mem_cons.mpr ⟨va_Nw.of rfl (hts _ (List.mem_of_getElem? (i := 362) (by decide +kernel))), fun _ h => absurd h List.not_mem_nil⟩⟩⟩⟩⟩⟩
theorem q_all {args : Array Value} {s : State} (hts : ∀ w ∈ lw_tbl, w.before args s = true) : ∃ q : Nat → ClassId, ∀ (k : Nat) (x : ClassId × FieldType), (tyq q)[k]? = some x → ArrOfT s x.1 x.2 ∧ va_RA s x.1 x.2 := by
  have h1 : (Cond.arrayClass .int).before args s = true := hts _ (List.mem_of_getElem? (i := 84) (by decide +kernel))
  have h2 : (Cond.arrayClass .char).before args s = true := hts _ (List.mem_of_getElem? (i := 119) (by decide +kernel))
  have h3 : (Cond.arrayOver (.object "MillComplaints$Village")).before args s = true := hts _ (List.mem_of_getElem? (i := 92) (by decide +kernel))
  obtain ⟨c1, k1, p1, a1, a2, a3⟩ := Cond.arrayClass_spec h1
  obtain ⟨c2, k2, p2, b1, b2, b3⟩ := Cond.arrayClass_spec h2
  obtain ⟨p3, c3, k3, d1, d2, d3, d4, d5⟩ := Cond.arrayOver_spec h3
  refine ⟨fun j => match j with | 0 => c1 | 1 => c2 | _ => c3, fun k x hk => ?_⟩
  match k, hk with
  | 0, hk => cases hk; exact ⟨fun n z => ⟨(fun k h => by cases h), k1, a2, p1, a3⟩, a1⟩
  | 1, hk => cases hk; exact ⟨fun n z => ⟨(fun k h => by cases h), k2, b2, p2, b3⟩, b1⟩
  | 2, hk => cases hk; exact ⟨fun n z => ⟨(fun k h => by cases h), k3, d3, p3, d4⟩, k3, p3, d3, d4, d1, d5⟩
  | k + 3, hk => simp at hk
set_option maxRecDepth 20000 in
theorem st_all {b : Nat} {s : State} {A : Nat → Prop} (hA : ∀ a : Nat, a < s.heap.size → ¬ A a) (hts : ∀ w ∈ lw_tbl, w.before #[Value.ref b] s = true) (hgv : (Jvm.Cond.and given_1 narrow_1).before #[Value.ref b] s = true) : ∃ z : Nat → Nat, stKA z A s s.heap := by
  have hs := flat_of_before _ hgv
  have ha0 : (Cond.arrayOf (.static "MillComplaints" "FIRST_SETTING" "[I") .int).before #[Value.ref b] s = true := hs _ (by decide +kernel)
  have hl0 : (Cond.eq (.length (.static "MillComplaints" "FIRST_SETTING" "[I")) (.int 4)).before #[Value.ref b] s = true := hs _ (by decide +kernel)
  have e00 : (Cond.eq (.elem (.static "MillComplaints" "FIRST_SETTING" "[I") (.int 0)) (.int 6)).before #[Value.ref b] s = true := hs _ (by decide +kernel)
  have e01 : (Cond.eq (.elem (.static "MillComplaints" "FIRST_SETTING" "[I") (.int 1)) (.int 3)).before #[Value.ref b] s = true := hs _ (by decide +kernel)
  have e02 : (Cond.eq (.elem (.static "MillComplaints" "FIRST_SETTING" "[I") (.int 2)) (.int 2)).before #[Value.ref b] s = true := hs _ (by decide +kernel)
  have e03 : (Cond.eq (.elem (.static "MillComplaints" "FIRST_SETTING" "[I") (.int 3)) (.int 8)).before #[Value.ref b] s = true := hs _ (by decide +kernel)
  obtain ⟨t0, ht0, hT0⟩ := va_Tof (N := 4) (f := fun j => .int (setF 0 j)) (A := A) (by decide) ha0 (va_eqt hl0) (fun j hj => by
    rcases (show j = 0 ∨ j = 1 ∨ j = 2 ∨ j = 3 by omega) with rfl | rfl | rfl | rfl
    · exact va_eqt e00
    · exact va_eqt e01
    · exact va_eqt e02
    · exact va_eqt e03) hA
  have hZ0 : va_Z "MillComplaints" "FIRST_SETTING" "[I" (.ref t0) A s s.heap := va_Zof (hts _ (List.mem_of_getElem? (i := 37) (by decide +kernel))) (hts _ (List.mem_of_getElem? (i := 14) (by decide +kernel))) ht0 hA
  have ha1 : (Cond.arrayOf (.static "MillComplaints" "LEAST_SETTING" "[I") .int).before #[Value.ref b] s = true := hs _ (by decide +kernel)
  have hl1 : (Cond.eq (.length (.static "MillComplaints" "LEAST_SETTING" "[I")) (.int 4)).before #[Value.ref b] s = true := hs _ (by decide +kernel)
  have e10 : (Cond.eq (.elem (.static "MillComplaints" "LEAST_SETTING" "[I") (.int 0)) (.int 0)).before #[Value.ref b] s = true := hs _ (by decide +kernel)
  have e11 : (Cond.eq (.elem (.static "MillComplaints" "LEAST_SETTING" "[I") (.int 1)) (.int 0)).before #[Value.ref b] s = true := hs _ (by decide +kernel)
  have e12 : (Cond.eq (.elem (.static "MillComplaints" "LEAST_SETTING" "[I") (.int 2)) (.int 1)).before #[Value.ref b] s = true := hs _ (by decide +kernel)
  have e13 : (Cond.eq (.elem (.static "MillComplaints" "LEAST_SETTING" "[I") (.int 3)) (.int 0)).before #[Value.ref b] s = true := hs _ (by decide +kernel)
  obtain ⟨t1, ht1, hT1⟩ := va_Tof (N := 4) (f := fun j => .int (setF 1 j)) (A := A) (by decide) ha1 (va_eqt hl1) (fun j hj => by
    rcases (show j = 0 ∨ j = 1 ∨ j = 2 ∨ j = 3 by omega) with rfl | rfl | rfl | rfl
    · exact va_eqt e10
    · exact va_eqt e11
    · exact va_eqt e12
    · exact va_eqt e13) hA
  have hZ1 : va_Z "MillComplaints" "LEAST_SETTING" "[I" (.ref t1) A s s.heap := va_Zof (hts _ (List.mem_of_getElem? (i := 212) (by decide +kernel))) (hts _ (List.mem_of_getElem? (i := 14) (by decide +kernel))) ht1 hA
  have ha2 : (Cond.arrayOf (.static "MillComplaints" "MOST_SETTING" "[I") .int).before #[Value.ref b] s = true := hs _ (by decide +kernel)
  have hl2 : (Cond.eq (.length (.static "MillComplaints" "MOST_SETTING" "[I")) (.int 4)).before #[Value.ref b] s = true := hs _ (by decide +kernel)
  have e20 : (Cond.eq (.elem (.static "MillComplaints" "MOST_SETTING" "[I") (.int 0)) (.int 20)).before #[Value.ref b] s = true := hs _ (by decide +kernel)
  have e21 : (Cond.eq (.elem (.static "MillComplaints" "MOST_SETTING" "[I") (.int 1)) (.int 20)).before #[Value.ref b] s = true := hs _ (by decide +kernel)
  have e22 : (Cond.eq (.elem (.static "MillComplaints" "MOST_SETTING" "[I") (.int 2)) (.int 9)).before #[Value.ref b] s = true := hs _ (by decide +kernel)
  have e23 : (Cond.eq (.elem (.static "MillComplaints" "MOST_SETTING" "[I") (.int 3)) (.int 99)).before #[Value.ref b] s = true := hs _ (by decide +kernel)
  obtain ⟨t2, ht2, hT2⟩ := va_Tof (N := 4) (f := fun j => .int (setF 2 j)) (A := A) (by decide) ha2 (va_eqt hl2) (fun j hj => by
    rcases (show j = 0 ∨ j = 1 ∨ j = 2 ∨ j = 3 by omega) with rfl | rfl | rfl | rfl
    · exact va_eqt e20
    · exact va_eqt e21
    · exact va_eqt e22
    · exact va_eqt e23) hA
  have hZ2 : va_Z "MillComplaints" "MOST_SETTING" "[I" (.ref t2) A s s.heap := va_Zof (hts _ (List.mem_of_getElem? (i := 215) (by decide +kernel))) (hts _ (List.mem_of_getElem? (i := 14) (by decide +kernel))) ht2 hA
  refine ⟨fun k => match k with | 0 => t0 | 1 => t1 | _ => t2, fun k hk => ?_⟩
  rcases (show k = 0 ∨ k = 1 ∨ k = 2 by omega) with rfl | rfl | rfl
  · exact ⟨hZ0, hT0⟩
  · exact ⟨hZ1, hT1⟩
  · exact ⟨hZ2, hT2⟩
theorem RR_0 : RR xI mI := by
  have z : ∀ j, (34 ≤ j ∧ j < 62) ∨ rI j = 0 := fun j => by
    by_cases c : 34 ≤ j ∧ j < 62
    · exact Or.inl c
    · refine Or.inr ?_
      unfold rI
      rw [upd_ne _ _ (by omega), upd_ne _ _ (by omega), upd_ne _ _ (by omega), upd_ne _ _ (by omega)]
      unfold rK; rw [if_neg (by omega)]
  have z0 : ∀ j, ¬ (34 ≤ j ∧ j < 62) → rI j = 0 := fun j h => (z j).resolve_left h
  have w : ∀ k, k < 24 → rI (34 + k) = 3 := fun k hk => by
    unfold rI
    rw [upd_ne _ _ (by omega), upd_ne _ _ (by omega), upd_ne _ _ (by omega), upd_ne _ _ (by omega)]
    unfold rK; rw [if_pos (by omega)]
  have se : ∀ k, k < 4 → rI (58 + k) = setF 0 k := fun k hk => by
    rcases (show k = 0 ∨ k = 1 ∨ k = 2 ∨ k = 3 by omega) with rfl | rfl | rfl | rfl <;> decide
  have R : Rv vI rI := Rv.mk (fun k hk => (w k hk).symm) (fun k hk => (se k hk).symm) (fun k hk => (z0 _ (by omega)).symm) (fun k hk => (z0 _ (by omega)).symm) (fun k hk => (z0 _ (by omega)).symm) (fun k hk => (z0 _ (by omega)).symm) (fun k hk => (z0 _ (by omega)).symm) (fun k hk => (z0 _ (by omega)).symm) (fun k hk => (z0 _ (by omega)).symm) (z0 0 (by omega)).symm (z0 13 (by omega)).symm
  have ok : okR rI := okR.mk ⟨0, by omega, z0 0 (by omega)⟩ ⟨0, by omega, z0 13 (by omega)⟩ (fun k hk => ⟨3, by omega, w k hk⟩) (fun k hk => by
      rw [se k hk]
      rcases (show k = 0 ∨ k = 1 ∨ k = 2 ∨ k = 3 by omega) with rfl | rfl | rfl | rfl
      · exact ⟨6, by omega, rfl⟩
      · exact ⟨3, by omega, rfl⟩
      · exact ⟨2, by omega, rfl⟩
      · exact ⟨8, by omega, rfl⟩)
    (fun k hk => ⟨0, by omega, z0 _ (by omega)⟩) (fun k hk => ⟨0, by omega, z0 _ (by omega)⟩) (fun k hk => by rw [z0 _ (by omega)]; exact hs_0) (fun k hk => ⟨0, by omega, z0 _ (by omega)⟩) (fun k hk => by rw [z0 _ (by omega)]; exact hs_0) (fun _ _ _ _ _ _ _ _ _ => z0 _ (by omega)) (fun _ _ _ _ _ _ _ _ _ => z0 _ (by omega))
  refine RR.mk R ok ⟨0, 0, by omega, by omega, rfl, rfl, rfl, fun i hi => absurd hi (Nat.not_lt_zero i)⟩ (Or.inl ⟨rfl, rfl⟩) ⟨fun j => ?_, 0, by omega, rfl, rfl, fun j hj => rfl⟩
  show narrow .char (.int 0) = .int 0
  decide +kernel
theorem EX_0 {w : Nat → Int32} (hw : ∀ h, h < 24 → w h = 3) : EX 0 0 0 vI w := by
  refine ⟨⟨rfl, by omega, rfl, by omega⟩, hw, fun m hm => by omega, fun m j hm => by omega, fun m j hm => by omega, fun m a hm => by omega, fun k hk => ⟨0, by omega, rfl⟩, fun k hk => ⟨0, by omega, rfl⟩, Int.le_refl _, Int.le_refl _, ?_⟩
  have : SS vI = 0 := sL_z 10 0 (fun a _ _ => sL_z 4 0 (fun m _ _ => by unfold D2; rw [show vI 8 (8 * a + 2 * m + 0) = 0 from rfl, show vI 8 (8 * a + 2 * m + 1) = 0 from rfl, oN_0]))
  rw [this]; decide
theorem LI_0 {f : Nat → Nat → Int32} (hw : ∀ h, h < 24 → f 0 h = 3) : LI 0 0 0 (setV xI 10 f) :=
  ⟨⟨mI, RR_10 RR_0 f⟩, by rw [setV_ne _ _ (show 0 ≠ 10 by omega), setV_same]; exact EX_0 hw⟩
