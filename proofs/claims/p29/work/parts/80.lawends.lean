/-! P29, LAW 1: the script's cell; the static tables; what the first and the last calls answer. -/
def stKA (z : Nat → Nat) (A : Nat → Prop) (U : State) (H : Heap) : Prop := ∀ k, k < 3 → va_Z "MillComplaints" (stNm k) "[I" (.ref (z k)) A U H ∧ va_T .int (z k) 4 (fun j => .int (setF k j)) A U H
theorem stKA.of {z : Nat → Nat} {A : Nat → Prop} {U : State} {H H1 : Heap} {locs1 : List Loc} (hZ : stKA z A U H) (hS : va_S A H H1 locs1) : stKH z U H1 := fun k hk => ⟨((hZ k hk).1.kept hS.2.1).narrow (fun _ h => h.elim), ((hZ k hk).2.kept hS.2.1).narrow (fun _ h => h.elim)⟩
def roMX (l : Launch) (y : MethodName) (ws : List Cond) (rm : Room) (av : List Value) (b L : Nat) (xs : Nat → Int32) (o : Option Value) : Prop := Met l y ws rm (va_Pc av (fun U => va_X b L xs U U.heap)) (roQ o) 0 0 (fun _ => False)
section XS
variable {p : Program} {l : Launch} {e : Env} {R : Room} {s : State} {m : MethodId} {args : Array Value} {below : List Frame} {meth : Method} {c : Code} {H : Heap} {locs : List Loc} {cells slots : Nat} {Q : State → Prop}
variable {pc : Nat} {ls : Array Slot} {rest st0 As : List Value} {v : Value}
variable {y : MethodName} {Ts wsc wsc' : List Cond} {rmc : Room} {cc bytes : ByteArray} {maxL nL n index b L : Nat} {xs : Nat → Int32} {ret : Option FieldType} {own : String} {lv : List (Nat × Value)}
theorem ro_SX (hx : p.tables.exec = Jvm.exec) (hb : c.code = cc) (hml : c.maxLocals = nL) (hown : s.vm.findClass own = some m.cls) (hts : ∀ w ∈ Ts, w.before args s = true) (hl : lv_has ls nL lv)
    (hM : roMX l y wsc rmc As b L xs (some v)) (hT : GoodIn Ts (va_wsS own index y wsc)) (hw : wsc = Cond.code y bytes maxL ret :: wsc') (hd : y.cls ≠ "java/lang/invoke/MethodHandle" ∧ y.cls ≠ "java/lang/invoke/VarHandle" ∧ (parseMethodDescriptor y.desc).map (fun d => d.parameters.length) = some n) (hR : rmc.frames + 1 ≤ R.frames ∧ 8 + (maxL + 11) + rmc.locals ≤ R.locals) (hrc : rmc.cells = 0) (hrs : rmc.slots = 0)
    (hX : va_X b L xs s H) (hn : As.length = n) (hst : st0 = As.reverse ++ rest) (hroom : (rest.map fun v => v.category).sum ≤ 8) (hdg : decode cc pc = .ok (.invokestatic index, 3)) (hf : cells ≤ R.cells ∧ slots ≤ R.slots)
    (kk : W p l e R s m args below meth c H locs cells slots Q (F0 m (pc + 3) ls (v :: rest))) : W p l e R s m args below meth c H locs cells slots Q (F0 m pc ls st0) :=
  ro_run (va_runS (As := As) (rest := rest) ⟨hx, hb, hml, hown, hts⟩ hM (va_cwS n hts hT hw hrc hrs hd hR) ⟨fun a U g mk q => ⟨q.1, va_X.moved (u := U) (U := U.calling g mk a) (Vm.Alike.refl U.vm) q.2⟩, fun U hU hW => ⟨rfl, by show va_X b L xs U U.heap; rw [hU]; exact hX.moved hW.alike⟩⟩ rfl hn hl.1 hst (lv_room hroom) hdg hf) kk
end XS
def mL_cell (L : Nat) (xs : Nat → Int32) (k : Int32) : Int32 := if Int32.ofNat L ≤ k then ((7919 * (k + 3)) * (k + 11)) else xs k.toNatClampNeg
theorem kL_cell : yL_cell.cls ≠ "java/lang/invoke/MethodHandle" ∧ yL_cell.cls ≠ "java/lang/invoke/VarHandle" ∧ (parseMethodDescriptor yL_cell.desc).map (fun d => d.parameters.length) = some 2 := by decide +kernel
set_option maxHeartbeats 4000000 in
set_option maxRecDepth 100000 in
theorem ML_cell (l : Launch) (b L : Nat) (xs : Nat → Int32) (k : Int32) (hk : 0 ≤ k.toInt) (hL : L ≤ 260) : roMX l yL_cell wsL_cell ({ frames := 0, cells := 0, slots := 0, locals := 0 } : Room) [.ref b, .int k] b L xs (some (.int (mL_cell L xs k))) := by
  obtain ⟨R, hR⟩ : ∃ z, (mL_cell L xs k) = z := ⟨_, rfl⟩
  rw [hR]
  unfold mL_cell at hR
  refine Met.ofW (cc := cL_cell) (maxL := 2) (ret := some .int) (by decide) rfl ?_
  intro p e s m args below meth c s₁ B hml hv
  obtain ⟨rfl, hX⟩ := hv
  rw [lg_entry_eq]
  have hx := B.exec
  have hb := B.bytes
  have hr := B.returns
  have hlk := B.notSynchronized
  have hl := lv_entry [.ref b, .int k] (n := 2) (Nat.le_of_ble_eq_true rfl)
  generalize (lg_sl ([.ref b, .int k]) ++ List.replicate (2 - (lg_sl ([.ref b, .int k])).length) Slot.unset).toArray = ls at hl ⊢
  have hl : lv_has ls 2 [(0, .ref b), (1, .int k)] := hl
  have hbl : b < s.heap.size := by
    obtain ⟨scr, h1, h2, h3, h4, h5⟩ := hX
    exact (Array.getElem?_eq_some_iff.mp h1).1
  have tL : (Int32.ofNat L).toInt = L := nI_toInt (n := L) (by omega)
  refine lv_iload_n hx hb dL_cell_0 rfl (lv_at hl 1 rfl) ?_
  refine lv_aload_n hx hb dL_cell_1 rfl (lv_at hl 0 rfl) ?_
  refine va_slen hx hb hX hbl (A := fun _ => False) (fun h => h) va_S.rf dL_cell_2 ?_
  refine lv_icmp_ge (tgt := 12) hx hb dL_cell_3 (by decide) (fun c_1 => ?_) (fun c_1 => ?_)
  · rw [if_pos c_1] at hR
    refine lv_sipush (v := 7919) hx hb dL_cell_12 (by decide) ?_
    refine lv_iload_n hx hb dL_cell_15 rfl (lv_at hl 1 rfl) ?_
    refine lv_iconst (v := 3) hx hb dL_cell_16 (by decide) ?_
    refine lv_iadd hx hb dL_cell_17 ?_
    refine lv_imul hx hb dL_cell_18 ?_
    refine lv_iload_n hx hb dL_cell_19 rfl (lv_at hl 1 rfl) ?_
    refine lv_bipush (v := 11) hx hb dL_cell_20 (by decide) ?_
    refine lv_iadd hx hb dL_cell_22 ?_
    refine lv_imul hx hb dL_cell_23 ?_
    exact ro_iret hx hb hr hlk hR dL_cell_24
  · rw [if_neg c_1] at hR
    rw [i_le, tL] at c_1
    refine lv_aload_n hx hb dL_cell_6 rfl (lv_at hl 0 rfl) ?_
    refine lv_iload_n hx hb dL_cell_7 rfl (lv_at hl 1 rfl) ?_
    refine va_sld hx hb hX hbl (A := fun _ => False) (fun h => h) va_S.rf (ix_t (i := k) (x := k.toInt) (n := L) rfl (by omega)) dL_cell_8 ?_
    refine lv_goto (tgt := 24) hx hb dL_cell_9 (by decide) ?_
    exact ro_iret hx hb hr hlk hR dL_cell_24
theorem u_mill9 (xx : Nat → Nat → Nat → Int32) (a b : Int32) : mX5_mill xx a b = mX5_recorded (und xx (mX5_bringMill (xx 0) a b).2) (mX5_bringMill (xx 0) a b).1 := rfl
theorem u_wind9 (xx : Nat → Nat → Nat → Int32) (a b c : Int32) : mX5_wind xx a b c = mX5_recorded (und xx (mX5_tellWind (xx 0) a b c).2) (mX5_tellWind (xx 0) a b c).1 := rfl
section ENDS
variable {xx : Nat → Nat → Nat → Int32} {e M N : Nat}
theorem f_mill1 (L : LI e M N xx) : (mX5_mill xx 1 96).1 = -1 ∧ LI (e + 1) M N (setV (mX5_mill xx 1 96).2 10 (xx 10)) := by
  obtain ⟨⟨x, hx⟩, E⟩ := L
  have hRR := (a_mill hx 1 96).2
  have e0 : mX5_mill xx 1 96 = mX5_recorded (und xx (mX5_bringMill (xx 0) 1 96).2) (mX5_bringMill (xx 0) 1 96).1 := u_mill9 xx 1 96
  have e1 : mX5_bringMill (xx 0) 1 96 = (-1, xx 0) := by
    unfold mX5_bringMill; rw [if_pos (by decide)]
  have r0 := rec_0 (und xx (mX5_bringMill (xx 0) 1 96).2) (mX5_bringMill (xx 0) 1 96).1
  rw [← e0, und_0, e1] at r0
  exact ⟨r0.1, LI.act hRR (by rw [r0.2]; exact E.same)⟩
theorem f_mill2 (L : LI e M N xx) : (mX5_mill xx 6 95).1 = -2 ∧ LI (e + 1) M N (setV (mX5_mill xx 6 95).2 10 (xx 10)) := by
  obtain ⟨⟨x, hx⟩, E⟩ := L
  have hRR := (a_mill hx 6 95).2
  have e0 : mX5_mill xx 6 95 = mX5_recorded (und xx (mX5_bringMill (xx 0) 6 95).2) (mX5_bringMill (xx 0) 6 95).1 := u_mill9 xx 6 95
  have e1 : mX5_bringMill (xx 0) 6 95 = (-2, xx 0) := by
    unfold mX5_bringMill; rw [if_neg (by decide), if_neg (by decide), if_neg (by decide)]
  have r0 := rec_0 (und xx (mX5_bringMill (xx 0) 6 95).2) (mX5_bringMill (xx 0) 6 95).1
  rw [← e0, und_0, e1] at r0
  exact ⟨r0.1, LI.act hRR (by rw [r0.2]; exact E.same)⟩
theorem f_wind1 (L : LI e M N xx) : (mX5_wind xx 3 2 1).1 = -1 ∧ LI (e + 1) M N (setV (mX5_wind xx 3 2 1).2 10 (xx 10)) := by
  obtain ⟨⟨x, hx⟩, E⟩ := L
  have hRR := (a_wind hx 3 2 1).2
  have e0 : mX5_wind xx 3 2 1 = mX5_recorded (und xx (mX5_tellWind (xx 0) 3 2 1).2) (mX5_tellWind (xx 0) 3 2 1).1 := u_wind9 xx 3 2 1
  have e1 : mX5_tellWind (xx 0) 3 2 1 = (-1, xx 0) := by
    unfold mX5_tellWind; rw [if_neg (by decide), if_neg (by decide), if_neg (by decide)]
  have r0 := rec_0 (und xx (mX5_tellWind (xx 0) 3 2 1).2) (mX5_tellWind (xx 0) 3 2 1).1
  rw [← e0, und_0, e1] at r0
  exact ⟨r0.1, LI.act hRR (by rw [r0.2]; exact E.same)⟩
theorem f_wind2 (L : LI e M N xx) : (mX5_wind xx 0 0 10).1 = -2 ∧ LI (e + 1) M N (setV (mX5_wind xx 0 0 10).2 10 (xx 10)) := by
  obtain ⟨⟨x, hx⟩, E⟩ := L
  have hRR := (a_wind hx 0 0 10).2
  have e0 : mX5_wind xx 0 0 10 = mX5_recorded (und xx (mX5_tellWind (xx 0) 0 0 10).2) (mX5_tellWind (xx 0) 0 0 10).1 := u_wind9 xx 0 0 10
  have e1 : mX5_tellWind (xx 0) 0 0 10 = (-2, xx 0) := by
    unfold mX5_tellWind; rw [if_neg (by decide), if_neg (by decide), if_pos (by decide), if_neg (by decide), if_neg (by decide)]
  have r0 := rec_0 (und xx (mX5_tellWind (xx 0) 0 0 10).2) (mX5_tellWind (xx 0) 0 0 10).1
  rw [← e0, und_0, e1] at r0
  exact ⟨r0.1, LI.act hRR (by rw [r0.2]; exact E.same)⟩
theorem f_set (L : LI e M N xx) : mX5_set xx 2 0 = (-2, xx) := by
  unfold mX5_set
  rw [if_neg (by decide), if_pos (by decide), if_pos (show (0 : Int32) < mX5_at 4 (setF 1) 2 by decide)]
theorem f_yard : mX5_yardOf (xx 0) 0 2 = -2 := by
  unfold mX5_yardOf
  rw [if_neg (by decide), if_neg (by decide), if_neg (by decide)]
theorem f_quiet (L : LI e M N xx) : mX5_quietHours (xx 0) 4 = -1 := by
  unfold mX5_quietHours
  rw [if_pos (show mX4_hasMill (xx 0) 4 = 0 from hm_0 L.V (m := 4) L.V.M4 (by omega))]
theorem f_count : mX5_count xx 16 = -2 := by
  unfold mX5_count
  rw [if_neg (by decide), if_neg (by decide), if_neg (by decide), if_neg (by decide), if_neg (by decide), if_neg (by decide), if_neg (by decide), if_neg (by decide), if_neg (by decide), if_neg (by decide), if_neg (by decide), if_neg (by decide), if_neg (by decide), if_neg (by decide), if_neg (by decide), if_neg (by decide)]
theorem f_ground (L : LI e 0 0 xx) : mX5_ground (xx 0) = FP.fconst1 := by
  unfold mX5_ground
  rw [c_gU L.V, Nat.zero_mul, if_pos (show nI 0 = 0 from rfl)]
theorem f_loud (L : LI e 0 0 xx) : mX5_loudest (xx 0) 5 = -5 := c_loud L.V (h := 5) (by omega)
theorem f_undo (h : xx 8 0 1 = 0) : mX5_undo xx = (-5, xx) := by unfold mX5_undo; rw [if_pos h]
theorem f_restore (h : xx 9 0 0 = 0) : mX5_restore xx = (-5, xx) := by unfold mX5_restore; rw [if_pos h]
theorem f_doAll (h : xx 7 = fun _ _ => 0) : mX5_doAll xx = (-100, xx) := by
  have e : mX3_firstFault (fun _ _ => 0) = 0 := by decide +kernel
  unfold mX5_doAll
  rw [h, e, if_neg (by decide)]; rfl
end ENDS
