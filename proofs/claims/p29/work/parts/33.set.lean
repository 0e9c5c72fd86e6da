/-! static tables: what the three rows of settings hold -/
def setF (k j : Nat) : Int32 := (([[6, 3, 2, 8], [0, 0, 1, 0], [20, 20, 9, 99]] : List (List Int32)).getD k []).getD j 0
def stNm (k : Nat) : String := (["FIRST_SETTING", "LEAST_SETTING", "MOST_SETTING"] : List String).getD k ""
def stT (z k : Nat) (U : State) (H : Heap) : Prop := va_T .int z 4 (fun j => .int (setF k j)) (fun _ => False) U H
def stKH (z : Nat → Nat) (U : State) (H : Heap) : Prop := ∀ k, k < 3 → va_Z "MillComplaints" (stNm k) "[I" (.ref (z k)) (fun _ => False) U H ∧ stT (z k) k U H
theorem stT.moved {z k : Nat} {u U : State} {H : Heap} (hvm : u.vm.Alike U.vm) (h : stT z k u H) : stT z k U H := va_T.moved hvm h
theorem stKH.moved {z : Nat → Nat} {u U : State} {H : Heap} (hvm : u.vm.Alike U.vm) (h : stKH z u H) : stKH z U H := fun k hk => ⟨va_Z.moved hvm (h k hk).1, va_T.moved hvm (h k hk).2⟩
def roMT (l : Launch) (y : MethodName) (ws : List Cond) (rm : Room) (av : List Value) (z k : Nat) (o : Option Value) : Prop := Met l y ws rm (va_Pc av (fun U => stT z k U U.heap)) (roQ o) 0 0 (fun _ => False)
def muMK (l : Launch) (D : va_G) (TY : List (ClassId × FieldType)) (y : MethodName) (ws : List Cond) (rm : Room) (av : List Value) (world : va_W) (z : Nat → Nat) (o : Option Value) (world' : va_W) : Prop := Met l y ws rm (fun a U => stP D TY av world a U ∧ stKH z U U.heap) (muQ D o world world') 0 0 (wAt world)
section KENTRY
variable {l : Launch} {D : va_G} {TY : List (ClassId × FieldType)} {y : MethodName} {ws ws' : List Cond} {rm : Room} {av : List Value} {world world' : va_W} {o : Option Value} {cc : ByteArray} {maxL : Nat} {ret : Option FieldType} {z : Nat → Nat} {z0 k0 : Nat}
theorem roMT.of (hy : plainName y.cls = true) (hw : ws = Cond.code y cc maxL ret :: ws') (hlen : (lg_sl av).length ≤ maxL)
    (body : ∀ (p : Program) (e : Env) (s : State) (m : MethodId) (below : List Frame) (meth : Method) (c : Code) (ls : Array Slot), p.tables.exec = Jvm.exec → c.code = cc → meth.sig.returnType = ret → meth.locks = false → c.maxLocals = maxL → s.vm.findClass y.cls = some m.cls → (∀ w ∈ ws, w.before av.toArray s = true) → stT z0 k0 s s.heap → lv_has ls maxL (lv_args 0 av) →
      W p l e rm s m av.toArray below meth c s.heap [] 0 0 (MQ below (roQ o) av.toArray s 0 0 (fun _ => False)) (F0 m 0 ls [])) : roMT l y ws rm av z0 k0 o := by
  refine Met.ofW hy hw ?_
  intro p e s m args below meth c s₁ B hml hv
  obtain ⟨rfl, hT⟩ := hv
  rw [lg_entry_eq]
  exact body p e s m below meth c _ B.exec B.bytes B.returns B.notSynchronized hml (findClass_of_methodNamed B.named) (atoms_spec (ws := ws) B.pre) hT (lv_entry av hlen)
theorem muMK.of (hy : plainName y.cls = true) (hw : ws = Cond.code y cc maxL ret :: ws') (hlen : (lg_sl av).length ≤ maxL)
    (body : ∀ (p : Program) (e : Env) (s : State) (m : MethodId) (below : List Frame) (meth : Method) (c : Code) (ls : Array Slot) (A : Nat → Prop), p.tables.exec = Jvm.exec → c.code = cc → meth.sig.returnType = ret → meth.locks = false → c.maxLocals = maxL → s.vm.findClass y.cls = some m.cls → (∀ w ∈ ws, w.before av.toArray s = true) → va_P D vwCl world s.heap → va_D A world → gxO D TY s → A = wAt world → stKH z s s.heap → lv_has ls maxL (lv_args 0 av) →
      W p l e rm s m av.toArray below meth c s.heap [] 0 0 (MQ below (muQ D o world world') av.toArray s 0 0 (wAt world)) (F0 m 0 ls [])) : muMK l D TY y ws rm av world z o world' := by
  refine Met.ofW hy hw ?_
  intro p e s m args below meth c s₁ B hml hv
  obtain ⟨⟨rfl, hP, hD, hG⟩, hK⟩ := hv
  rw [lg_entry_eq]
  exact body p e s m below meth c _ (wAt world) B.exec B.bytes B.returns B.notSynchronized hml (findClass_of_methodNamed B.named) (atoms_spec (ws := ws) B.pre) hP ⟨hD.1, fun k q hk => ⟨k, q.2, hk⟩⟩ hG rfl hK (lv_entry av hlen)
end KENTRY
section KCALL
variable {p : Program} {l : Launch} {e : Env} {R : Room} {s : State} {m : MethodId} {args : Array Value} {below : List Frame} {meth : Method} {c : Code} {H : Heap} {locs : List Loc} {cells slots : Nat} {Q : State → Prop}
variable {pc : Nat} {ls : Array Slot} {rest st0 As : List Value} {v : Value}
variable {y : MethodName} {Ts wsc wsc' : List Cond} {rmc : Room} {cc bytes : ByteArray} {maxL nL n index z k : Nat} {ret : Option FieldType} {own : String} {lv : List (Nat × Value)}
theorem ro_ST (hx : p.tables.exec = Jvm.exec) (hb : c.code = cc) (hml : c.maxLocals = nL) (hown : s.vm.findClass own = some m.cls) (hts : ∀ w ∈ Ts, w.before args s = true) (hl : lv_has ls nL lv)
    (hM : roMT l y wsc rmc As z k (some v)) (hT : GoodIn Ts (va_wsS own index y wsc)) (hw : wsc = Cond.code y bytes maxL ret :: wsc') (hd : y.cls ≠ "java/lang/invoke/MethodHandle" ∧ y.cls ≠ "java/lang/invoke/VarHandle" ∧ (parseMethodDescriptor y.desc).map (fun d => d.parameters.length) = some n) (hR : rmc.frames + 1 ≤ R.frames ∧ 8 + (maxL + 11) + rmc.locals ≤ R.locals) (hrc : rmc.cells = 0) (hrs : rmc.slots = 0)
    (hZ : stT z k s H) (hn : As.length = n) (hst : st0 = As.reverse ++ rest) (hroom : (rest.map fun v => v.category).sum ≤ 8) (hdg : decode cc pc = .ok (.invokestatic index, 3)) (hf : cells ≤ R.cells ∧ slots ≤ R.slots)
    (kk : W p l e R s m args below meth c H locs cells slots Q (F0 m (pc + 3) ls (v :: rest))) : W p l e R s m args below meth c H locs cells slots Q (F0 m pc ls st0) :=
  ro_run (va_runS (As := As) (rest := rest) ⟨hx, hb, hml, hown, hts⟩ hM (va_cwS n hts hT hw hrc hrs hd hR) ⟨fun a U g mk q => ⟨q.1, va_T.moved (u := U) (U := U.calling g mk a) (Vm.Alike.refl U.vm) q.2⟩, fun U hU hW => ⟨rfl, by show stT z k U U.heap; rw [hU]; exact hZ.moved hW.alike⟩⟩ rfl hn hl.1 hst (lv_room hroom) hdg hf) kk
end KCALL
set_option maxHeartbeats 4000000 in
set_option maxRecDepth 100000 in
theorem MX5_atT (l : Launch) (z k : Nat) (i : Int32) : roMT l yX5_at wsX5_at ({ frames := 0, cells := 0, slots := 0, locals := 0 } : Room) [.ref z, .int i] z k (some (.int (mX5_at 4 (setF k) i))) := by
  obtain ⟨R, hR⟩ : ∃ z, (mX5_at 4 (setF k) i) = z := ⟨_, rfl⟩
  rw [hR]
  unfold mX5_at at hR
  refine roMT.of (cc := cX5_at) (maxL := 2) (ret := (some .int)) (by decide) rfl (Nat.le_of_ble_eq_true rfl) ?_
  intro p e s m below meth c ls hx hb hr hk hml hown hts hZ hl
  have hl : lv_has ls 2 [(0, .ref z), (1, .int i)] := hl
  refine lv_iload_n hx hb dX5_at_0 rfl (lv_at hl 1 rfl) ?_
  refine lv_if_lt (tgt := 16) hx hb dX5_at_1 (by decide) (fun c_1 => ?_) (fun c_1 => ?_)
  · rw [if_pos c_1] at hR
    refine lv_iconst (v := 0) hx hb dX5_at_16 (by decide) ?_
    exact ro_iret hx hb hr hk hR dX5_at_17
  · rw [if_neg c_1] at hR
    refine lv_iload_n hx hb dX5_at_4 rfl (lv_at hl 1 rfl) ?_
    refine lv_aload_n hx hb dX5_at_5 rfl (lv_at hl 0 rfl) ?_
    refine va_tlen (v := (nI 4)) hx hb hZ (va_S.rf (A := fun _ => False)) rfl dX5_at_6 ?_
    refine lv_icmp_ge (tgt := 16) hx hb dX5_at_7 (by decide) (fun c_2 => ?_) (fun c_2 => ?_)
    · rw [if_pos c_2] at hR
      refine lv_iconst (v := 0) hx hb dX5_at_16 (by decide) ?_
      exact ro_iret hx hb hr hk hR dX5_at_17
    · rw [if_neg c_2] at hR
      refine lv_aload_n hx hb dX5_at_10 rfl (lv_at hl 0 rfl) ?_
      refine lv_iload_n hx hb dX5_at_11 rfl (lv_at hl 1 rfl) ?_
      refine va_ti (v := .int (setF k i.toNatClampNeg)) hx hb hZ (va_S.rf (A := fun _ => False)) (by first | exact ix_c (n := 4) c_1 c_2 (by decide) | exact ix_d (n := 4) c_1 c_2 (by decide)) rfl dX5_at_12 ?_
      refine lv_goto (tgt := 17) hx hb dX5_at_13 (by decide) ?_
      exact ro_iret hx hb hr hk hR dX5_at_17
def mX5_set (xx : Nat → Nat → Nat → Int32) (a1 a2 : Int32) : Int32 × (Nat → Nat → Nat → Int32) := (if a1 < 0 then ((-2), xx) else (if a1 < 4 then (if a2 < (mX5_at 4 (setF 1) a1) then ((-2), xx) else (if a2 ≤ (mX5_at 4 (setF 2) a1) then (if (mX4_setting (xx 0) a1) = a2 then ((-5), xx) else (lt (setV xx 1 (xx 0)) (fun xx_6 => (lt (mX5_put 4 ((xx_6 0) 1) a1 a2) (fun q_7 => (lt (setV xx_6 0 (setA (xx_6 0) 1 q_7)) (fun xx_8 => (lt (mX5_recorded xx_8 (mX4_setting (xx 0) a1)) (fun q_9 => (q_9.1, q_9.2)))))))))) else ((-2), xx))) else ((-2), xx)))
theorem kX5_set : yX5_set.cls = RX5 ∧ yX5_set.cls ≠ "java/lang/invoke/MethodHandle" ∧ yX5_set.cls ≠ "java/lang/invoke/VarHandle" ∧ (parseMethodDescriptor yX5_set.desc).map (fun d => d.parameters.length) = some 2 := by decide +kernel
theorem iX5_set_X5 : ∀ w ∈ wsX50, w ∈ wsX5_set := fun w h => (List.mem_cons_of_mem _ (List.mem_append_left _ (List.mem_append_left _ (List.mem_append_right _ h))))
theorem iX5_set_X4 : ∀ w ∈ wsX40, w ∈ wsX5_set := fun w h => (List.mem_cons_of_mem _ (List.mem_append_left _ (List.mem_append_right _ h)))
set_option maxHeartbeats 4000000 in
set_option maxRecDepth 100000 in
theorem MX5_set (l : Launch) (D : va_G) (q : Nat → ClassId) (ad : Nat → Nat → Nat) (xx : Nat → Nat → Nat → Int32) (a1 a2 : Int32) (z : Nat → Nat) (hrg : rgOk xx) : muMK l D (tyq q) yX5_set wsX5_set ({ frames := 4, cells := 0, slots := 0, locals := 86 } : Room) [.ref (ad 9 0), .int a1, .int a2] (wX q ad xx) z (some (.int (mX5_set xx a1 a2).1)) (wX q ad (mX5_set xx a1 a2).2) := by
  obtain ⟨R, hR⟩ : ∃ z, (mX5_set xx a1 a2) = z := ⟨_, rfl⟩
  rw [hR]
  unfold mX5_set at hR
  refine muMK.of (cc := cX5_set) (maxL := 4) (ret := (some .int)) (by decide) rfl (Nat.le_of_ble_eq_true rfl) ?_
  intro p e s m below meth c ls A hx hb hr hk hml hown hts hP hD hG hA hK hl
  have hS : va_S A s.heap s.heap [] := va_S.rf
  have hl : lv_has ls 4 [(0, .ref (ad 9 0)), (1, .int a1), (2, .int a2)] := hl
  refine lv_iload_n hx hb dX5_set_0 rfl (lv_at hl 1 rfl) ?_
  refine lv_if_lt (tgt := 12) hx hb dX5_set_1 (by decide) (fun c_1 => ?_) (fun c_1 => ?_)
  · rw [if_pos c_1] at hR
    refine lv_bipush (v := (-2)) hx hb dX5_set_12 (by decide) ?_
    subst hR
    exact mu_iret hx hb hr hk hA hS hP rfl dX5_set_14
  · rw [if_neg c_1] at hR
    refine lv_iload_n hx hb dX5_set_4 rfl (lv_at hl 1 rfl) ?_
    refine va_gets hx hb (hK 0 (by decide)).1 va_S.rf hown (hts (.fieldLink RX5 59 "MillComplaints" "FIRST_SETTING" "[I") (List.mem_of_getElem? (i := 1) rfl)) (fun _ h9 => h9) dX5_set_5 ?_
    refine va_tlen (v := 4) hx hb (hK 0 (by decide)).2 va_S.rf rfl dX5_set_8 ?_
    refine lv_icmp_lt (tgt := 15) hx hb dX5_set_9 (by decide) (fun c_2 => ?_) (fun c_2 => ?_)
    · rw [if_pos c_2] at hR
      refine lv_iload_n hx hb dX5_set_15 rfl (lv_at hl 2 rfl) ?_
      refine va_gets hx hb (hK 1 (by decide)).1 va_S.rf hown (hts (.fieldLink RX5 63 "MillComplaints" "LEAST_SETTING" "[I") (List.mem_of_getElem? (i := 2) rfl)) (fun _ h9 => h9) dX5_set_16 ?_
      refine lv_iload_n hx hb dX5_set_19 rfl (lv_at hl 1 rfl) ?_
      refine ro_ST (v := .int (mX5_at 4 (setF 1) a1)) (rest := [.int a2]) (As := [.ref (z 1), .int a1]) hx hb hml hown hts hl (MX5_atT l (z 1) 1 a1) gX5_set_X5_at rfl kX5_at ⟨Nat.le_of_ble_eq_true rfl, Nat.le_of_ble_eq_true rfl⟩ rfl rfl (hK 1 (by decide)).2 rfl rfl (Nat.le_of_ble_eq_true rfl) dX5_set_20 ⟨Nat.zero_le _, Nat.zero_le _⟩ ?_
      refine lv_icmp_lt (tgt := 37) hx hb dX5_set_23 (by decide) (fun c_3 => ?_) (fun c_3 => ?_)
      · rw [if_pos c_3] at hR
        refine lv_bipush (v := (-2)) hx hb dX5_set_37 (by decide) ?_
        subst hR
        exact mu_iret hx hb hr hk hA hS hP rfl dX5_set_39
      · rw [if_neg c_3] at hR
        refine lv_iload_n hx hb dX5_set_26 rfl (lv_at hl 2 rfl) ?_
        refine va_gets hx hb (hK 2 (by decide)).1 va_S.rf hown (hts (.fieldLink RX5 70 "MillComplaints" "MOST_SETTING" "[I") (List.mem_of_getElem? (i := 3) rfl)) (fun _ h9 => h9) dX5_set_27 ?_
        refine lv_iload_n hx hb dX5_set_30 rfl (lv_at hl 1 rfl) ?_
        refine ro_ST (v := .int (mX5_at 4 (setF 2) a1)) (rest := [.int a2]) (As := [.ref (z 2), .int a1]) hx hb hml hown hts hl (MX5_atT l (z 2) 2 a1) gX5_set_X5_at rfl kX5_at ⟨Nat.le_of_ble_eq_true rfl, Nat.le_of_ble_eq_true rfl⟩ rfl rfl (hK 2 (by decide)).2 rfl rfl (Nat.le_of_ble_eq_true rfl) dX5_set_31 ⟨Nat.zero_le _, Nat.zero_le _⟩ ?_
        refine lv_icmp_le (tgt := 40) hx hb dX5_set_34 (by decide) (fun c_4 => ?_) (fun c_4 => ?_)
        · rw [if_pos c_4] at hR
          refine lv_aload_n hx hb dX5_set_40 rfl (lv_at hl 0 rfl) ?_
          refine va_get (D := D) (ci := 3) (v := .ref ((ad 0) 0)) (C := RX5) (T := TX5) (N := 6) hx hb hts iX5_set_X5 hown hG.1 hP 0 rfl rfl 0 (by decide) (hts (.fieldLink RX5 12 "MillComplaints" "now" "LMillComplaints$Village;") (List.mem_of_getElem? (i := 4) rfl)) (fun _ h9 => h9) rfl dX5_set_41 ?_
          refine lv_iload_n hx hb dX5_set_44 rfl (lv_at hl 1 rfl) ?_
          refine ro_V (v := .int (mX4_setting (xx 0) a1)) (rest := []) (As := [.int a1]) hx hb hml hown hts hl (MX4_setting l D q (ad 0) (xx 0) a1) gX5_set_X4_setting rfl kX4_setting ⟨Nat.le_of_ble_eq_true rfl, Nat.le_of_ble_eq_true rfl⟩ rfl rfl (hP.sub (ws' := (wV q (ad 0) (xx 0))) [1, 2, 3, 4, 5, 6, 7, 8, 9, 10] rfl) (dT (hD.sub (ws' := (wV q (ad 0) (xx 0))) [1, 2, 3, 4, 5, 6, 7, 8, 9, 10] (by decide) rfl)) hG (ci := 2) rfl rfl rfl rfl (Nat.le_of_ble_eq_true rfl) dX5_set_45 ⟨Nat.zero_le _, Nat.zero_le _⟩ ?_
          refine lv_istore_n (lv' := [(3, .int (mX4_setting (xx 0) a1)), (0, .ref (ad 9 0)), (1, .int a1), (2, .int a2)]) hx hb dX5_set_48 rfl hl (by decide) rfl (fun ls hl => ?_)
          refine lv_iload_n hx hb dX5_set_49 rfl (lv_at hl 0 rfl) ?_
          refine lv_iload_n hx hb dX5_set_50 rfl (lv_at hl 3 rfl) ?_
          refine lv_icmp_ne (tgt := 57) hx hb dX5_set_51 (by decide) (fun c_5 => ?_) (fun c_5 => ?_)
          · rw [if_neg c_5] at hR
            refine lv_aload_n hx hb dX5_set_57 rfl (lv_at hl 1 rfl) ?_
            refine va_get (D := D) (ci := 3) (v := .ref ((ad 1) 0)) (C := RX5) (T := TX5) (N := 6) hx hb hts iX5_set_X5 hown hG.1 hP 0 rfl rfl 1 (by decide) (hts (.fieldLink RX5 16 "MillComplaints" "before" "LMillComplaints$Village;") (List.mem_of_getElem? (i := 5) rfl)) (fun _ h9 => h9) rfl dX5_set_58 ?_
            refine lv_aload_n hx hb dX5_set_61 rfl (lv_at hl 1 rfl) ?_
            refine va_get (D := D) (ci := 3) (v := .ref ((ad 0) 0)) (C := RX5) (T := TX5) (N := 6) hx hb hts iX5_set_X5 hown hG.1 hP 0 rfl rfl 0 (by decide) (hts (.fieldLink RX5 12 "MillComplaints" "now" "LMillComplaints$Village;") (List.mem_of_getElem? (i := 4) rfl)) (fun _ h9 => h9) rfl dX5_set_62 ?_
            have hM := MX4_copyFrom' l D q (ad 1) (xx 1) (ad 0) (xx 0)
            refine mu_V (D := D) (ws := (wX q ad xx)) (ws' := (wX q ad (setV xx 1 (xx 0)))) (rest := []) (As := [.ref ((ad 0) 0)]) hx hb hml hown hts hl hM gX5_set_X4_copyFrom rfl kX4_copyFrom ⟨Nat.le_of_ble_eq_true rfl, Nat.le_of_ble_eq_true rfl⟩ rfl rfl hP hD hS hG [11, 12, 13, 14, 15, 16, 17, 18, 19, 20, 1, 2, 3, 4, 5, 6, 7, 8, 9, 10] rfl rfl (by decide) [0, 85, 86, 87, 88, 89, 90, 91, 92, 93, 94, 75, 76, 77, 78, 79, 80, 81, 82, 83, 84, 21, 22, 23, 24, 25, 26, 27, 28, 29, 30, 31, 32, 33, 34, 35, 36, 37, 38, 39, 40, 41, 42, 43, 44, 45, 46, 47, 48, 49, 50, 51, 52, 53, 54, 55, 56, 57, 58, 59, 60, 61, 62, 63, 64, 65, 66, 67, 68, 69, 70, 71, 72, 73, 74] rfl (by decide) rfl (ci := 2) rfl rfl rfl rfl (Nat.le_of_ble_eq_true rfl) dX5_set_65 ⟨Nat.zero_le _, Nat.zero_le _⟩ (fun H locs hP hD hS => ?_)
            obtain ⟨xx_6, exx_6⟩ : ∃ z, z = (setV xx 1 (xx 0)) := ⟨_, rfl⟩
            rw [← exx_6] at hP hD
            replace hR := lt_e hR exx_6
            refine lv_aload_n hx hb dX5_set_68 rfl (lv_at hl 1 rfl) ?_
            refine va_get (D := D) (ci := 3) (v := .ref ((ad 0) 0)) (C := RX5) (T := TX5) (N := 6) hx hb hts iX5_set_X5 hown hG.1 hP 0 rfl rfl 0 (by decide) (hts (.fieldLink RX5 12 "MillComplaints" "now" "LMillComplaints$Village;") (List.mem_of_getElem? (i := 4) rfl)) (fun _ h9 => h9) rfl dX5_set_69 ?_
            refine va_getN (D := D) (ci := 2) (v := .ref ((ad 0) 2)) (C := RX4) (T := TX4) (N := 11) hx hb hts iX5_set_X4 hown hG.1 hP 1 rfl rfl 1 (by decide) (nwf_2 hG) (fun _ h9 => h9) rfl dX5_set_72 ?_
            refine lv_iload_n hx hb dX5_set_75 rfl (lv_at hl 2 rfl) ?_
            refine lv_iload_n hx hb dX5_set_76 rfl (lv_at hl 3 rfl) ?_
            obtain ⟨q_7, eq_7⟩ : ∃ z, z = (mX5_put 4 ((xx_6 0) 1) a1 a2) := ⟨_, rfl⟩
            have hM := MX5_put l D q ((ad 0) 2) 4 ((xx_6 0) 1) a1 a2 (by decide)
            rw [← eq_7] at hM
            replace hR := lt_e hR eq_7
            refine mu_S (D := D) (ws := (wX q ad xx_6)) (ws' := (wX q ad (setV xx_6 0 (setA (xx_6 0) 1 q_7)))) (rest := []) (As := [.ref ((ad 0) 2), .int a1, .int a2]) hx hb hml hown hts hl hM gX5_set_X5_put rfl kX5_put ⟨Nat.le_of_ble_eq_true rfl, Nat.le_of_ble_eq_true rfl⟩ rfl rfl hP hD hS hG [3] rfl rfl (by decide) [0, 1, 2, 75, 4, 5, 6, 7, 8, 9, 10, 11, 12, 13, 14, 15, 16, 17, 18, 19, 20, 21, 22, 23, 24, 25, 26, 27, 28, 29, 30, 31, 32, 33, 34, 35, 36, 37, 38, 39, 40, 41, 42, 43, 44, 45, 46, 47, 48, 49, 50, 51, 52, 53, 54, 55, 56, 57, 58, 59, 60, 61, 62, 63, 64, 65, 66, 67, 68, 69, 70, 71, 72, 73, 74] rfl (by decide) rfl rfl rfl (Nat.le_of_ble_eq_true rfl) dX5_set_77 ⟨Nat.zero_le _, Nat.zero_le _⟩ (fun H locs hP hD hS => ?_)
            obtain ⟨xx_8, exx_8⟩ : ∃ z, z = (setV xx_6 0 (setA (xx_6 0) 1 q_7)) := ⟨_, rfl⟩
            rw [← exx_8] at hP hD
            replace hR := lt_e hR exx_8
            refine lv_aload_n hx hb dX5_set_80 rfl (lv_at hl 1 rfl) ?_
            refine lv_iload_n hx hb dX5_set_81 rfl (lv_at hl 0 rfl) ?_
            obtain ⟨q_9, eq_9⟩ : ∃ z, z = (mX5_recorded xx_8 (mX4_setting (xx 0) a1)) := ⟨_, rfl⟩
            have hM := MX5_recorded l D q ad xx_8 (mX4_setting (xx 0) a1) (by rw [exx_8, exx_6]; exact hrg)
            rw [← eq_9] at hM
            replace hR := lt_e hR eq_9
            refine mu_V (D := D) (ws := (wX q ad xx_8)) (ws' := (wX q ad q_9.2)) (rest := []) (As := [.int (mX4_setting (xx 0) a1)]) hx hb hml hown hts hl hM gX5_set_X5_recorded rfl kX5_recorded ⟨Nat.le_of_ble_eq_true rfl, Nat.le_of_ble_eq_true rfl⟩ rfl rfl hP hD hS hG [0, 1, 2, 3, 4, 5, 6, 7, 8, 9, 10, 11, 12, 13, 14, 15, 16, 17, 18, 19, 20, 21, 22, 23, 24, 25, 26, 27, 28, 29, 30, 31, 32, 33, 34, 35, 36, 37, 38, 39, 40, 41, 42, 43, 44, 45, 46, 47, 48, 49, 50, 51, 52, 53, 54, 55, 56, 57, 58, 59, 60, 61, 62, 63, 64, 65, 66, 67, 68, 69, 70, 71, 72, 73, 74] rfl rfl (by decide) [75, 76, 77, 78, 79, 80, 81, 82, 83, 84, 85, 86, 87, 88, 89, 90, 91, 92, 93, 94, 95, 96, 97, 98, 99, 100, 101, 102, 103, 104, 105, 106, 107, 108, 109, 110, 111, 112, 113, 114, 115, 116, 117, 118, 119, 120, 121, 122, 123, 124, 125, 126, 127, 128, 129, 130, 131, 132, 133, 134, 135, 136, 137, 138, 139, 140, 141, 142, 143, 144, 145, 146, 147, 148, 149] rfl (by decide) rfl (ci := 3) rfl rfl rfl rfl (Nat.le_of_ble_eq_true rfl) dX5_set_82 ⟨Nat.zero_le _, Nat.zero_le _⟩ (fun H locs hP hD hS => ?_)
            subst hR
            exact mu_iret hx hb hr hk hA hS hP rfl dX5_set_85
          · rw [if_pos c_5] at hR
            refine lv_bipush (v := (-5)) hx hb dX5_set_54 (by decide) ?_
            subst hR
            exact mu_iret hx hb hr hk hA hS hP rfl dX5_set_56
        · rw [if_neg c_4] at hR
          refine lv_bipush (v := (-2)) hx hb dX5_set_37 (by decide) ?_
          subst hR
          exact mu_iret hx hb hr hk hA hS hP rfl dX5_set_39
    · rw [if_neg c_2] at hR
      refine lv_bipush (v := (-2)) hx hb dX5_set_12 (by decide) ?_
      subst hR
      exact mu_iret hx hb hr hk hA hS hP rfl dX5_set_14
