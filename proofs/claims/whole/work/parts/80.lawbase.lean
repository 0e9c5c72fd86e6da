/-! LAYER 3, 5: the law, its calls. -/
abbrev wL (q : Nat → ClassId) (ad : Nat → Nat → Nat) (xx : Nat → Nat → Nat → Int32) (h : Nat → Nat) (x : Nat → Nat → Int32) : va_W := wX q ad xx ++ wM q h x
/-! what the contracts ask, out of what both states share -/
section RRF
variable {xx : Nat → Nat → Nat → Int32} {x : Nat → Nat → Int32}
theorem rr_rg (h : RR xx x) : rgOk xx := by
  obtain ⟨o, z, ho, hz, e1, e2, e3, e4⟩ := h.rg
  exact ⟨⟨o, ho, e1⟩, z, hz, e2⟩
theorem rr_ch (h : RR xx x) : chOk (xx 7) := h.tx.1
theorem rr_l7 (h : RR xx x) : (xx 7 1 0).toInt < 2147483647 := by
  obtain ⟨hc, L, h1, h2, h3, h4⟩ := h.tx
  rw [h2, nI_toInt (by omega)]; omega
theorem rr_len (h : RR xx x) : 0 ≤ (x 4 2).toInt ∧ (x 4 2).toInt < 61 := by
  obtain ⟨hc, L, h1, h2, h3, h4⟩ := h.tx
  rw [h3, nI_toInt (by omega)]; omega
theorem rr_kn (h : RR xx x) : 0 ≤ (x 4 0).toInt ∧ (x 4 0).toInt < 5 := by
  obtain ⟨o, z, ho, hz, e1, e2, e3, e4⟩ := h.rg
  rw [e3, nI_toInt (by omega)]; omega
theorem rr_cnt (h : RR xx x) : cntP x 0 := by
  obtain ⟨n, hn, e⟩ := h.ok.M
  obtain ⟨k, hk, f⟩ := h.ok.H
  unfold cntP
  rw [show ((0 : Int32) + 0).toNatClampNeg = 0 from by decide, show ((0 : Int32) + 13).toNatClampNeg = 13 from by decide, e, f, nI_toInt (by omega), nI_toInt (by omega)]
  omega
theorem rr_R (h : RR xx x) : Rv (xx 0) (rowP x 0) := by rw [rowP0]; exact h.now
theorem rr_o2 (h : RR xx x) : okR (rowP x 0) := by rw [rowP0]; exact h.ok
theorem t_fault (h : RR xx x) : mX5_fault xx = mX6_fault x := a_fault h
theorem t_count (h : RR xx x) (b : Int32) : mX5_count xx b = mX6_count x b := by
  obtain ⟨o, z, ho, hz, e1, e2, e3, e4⟩ := h.rg
  obtain ⟨hc, L, h1, h2, h3, h4⟩ := h.tx
  exact p_count (rr_R h) (rr_o2 h) (by rw [e2, e3]) (by rw [h2, h3]) b
end RRF
section LAW
variable {p : Program} {l : Launch} {e : Env} {s : State} {m : MethodId} {args : Array Value} {below : List Frame} {meth : Method} {c : Code} {H : Heap} {locs : List Loc} {cells slots : Nat} {Q : State → Prop}
variable {pc : Nat} {ls : Array Slot} {rest st0 As : List Value} {A0 : Nat → Prop} {D : va_G} {q : Nat → ClassId} {ad : Nat → Nat → Nat} {xx xx' : Nat → Nat → Nat → Int32} {h : Nat → Nat} {x x' : Nat → Nat → Int32} {v : Value}
variable {y : MethodName} {wsc wsc' : List Cond} {rmc : Room} {bytes : ByteArray} {maxL n index : Nat} {ret : Option FieldType} {lv : List (Nat × Value)}
set_option maxHeartbeats 4000000 in
set_option maxRecDepth 100000 in
theorem law_mX (hx : p.tables.exec = Jvm.exec) (hb : c.code = cL_law) (hml : c.maxLocals = 8) (hown : s.vm.findClass RL = some m.cls) (hts : ∀ w ∈ wsL_law, w.before args s = true) (hl : lv_has ls 8 lv)
    (hM : muM l D (tyq q) y wsc rmc (.ref (ad 9 0) :: As) (wX q ad xx) (some v) (wX q ad xx')) (hT : GoodIn wsL_law (wsV RL index RX5 y wsc)) (hw : wsc = Cond.code y bytes maxL ret :: wsc') (hd : y.cls = RX5 ∧ y.cls ≠ "java/lang/invoke/MethodHandle" ∧ y.cls ≠ "java/lang/invoke/VarHandle" ∧ (parseMethodDescriptor y.desc).map (fun d => d.parameters.length) = some n) (hR : rmc.frames + 1 ≤ room_1.frames ∧ 8 + (maxL + 11) + rmc.locals ≤ room_1.locals) (hrc : rmc.cells = 0) (hrs : rmc.slots = 0)
    (hP : va_P D vwCl (wL q ad xx h x) H) (hD : va_D A0 (wL q ad xx h x)) (hS : va_S A0 s.heap H locs) (hG : gxO D (tyq q) s) (hn : As.length = n) (hst : st0 = As.reverse ++ .ref (ad 9 0) :: rest) (hroom : (rest.map fun v => v.category).sum ≤ 8) (hdg : decode cL_law pc = .ok (.invokevirtual index, 3)) (hf : cells ≤ room_1.cells ∧ slots ≤ room_1.slots)
    (kk : ∀ (H1 : Heap) (locs1 : List Loc), va_P D vwCl (wL q ad xx' h x) H1 → va_D A0 (wL q ad xx' h x) → va_S A0 s.heap H1 locs1 → W p l e room_1 s m args below meth c H1 locs1 cells slots Q (F0 m (pc + 3) ls (v :: rest))) : W p l e room_1 s m args below meth c H locs cells slots Q (F0 m pc ls st0) :=
  mu_V (D := D) (ws := wL q ad xx h x) (ws' := wL q ad xx' h x) hx hb hml hown hts hl hM hT hw hd hR hrc hrs hP hD hS hG [0, 1, 2, 3, 4, 5, 6, 7, 8, 9, 10, 11, 12, 13, 14, 15, 16, 17, 18, 19, 20, 21, 22, 23, 24, 25, 26, 27, 28, 29, 30, 31, 32, 33, 34, 35, 36, 37, 38, 39, 40, 41, 42, 43, 44, 45, 46, 47, 48, 49, 50, 51, 52, 53, 54, 55, 56, 57, 58, 59, 60, 61, 62, 63, 64, 65, 66, 67, 68, 69, 70, 71, 72, 73, 74] rfl rfl (by decide) [80, 81, 82, 83, 84, 85, 86, 87, 88, 89, 90, 91, 92, 93, 94, 95, 96, 97, 98, 99, 100, 101, 102, 103, 104, 105, 106, 107, 108, 109, 110, 111, 112, 113, 114, 115, 116, 117, 118, 119, 120, 121, 122, 123, 124, 125, 126, 127, 128, 129, 130, 131, 132, 133, 134, 135, 136, 137, 138, 139, 140, 141, 142, 143, 144, 145, 146, 147, 148, 149, 150, 151, 152, 153, 154, 75, 76, 77, 78, 79] rfl (by decide) rfl (ci := 3) rfl rfl hn hst hroom hdg hf kk
set_option maxHeartbeats 4000000 in
set_option maxRecDepth 100000 in
theorem law_mM (hx : p.tables.exec = Jvm.exec) (hb : c.code = cL_law) (hml : c.maxLocals = 8) (hown : s.vm.findClass RL = some m.cls) (hts : ∀ w ∈ wsL_law, w.before args s = true) (hl : lv_has ls 8 lv)
    (hM : muM l D (tyq q) y wsc rmc (.ref (h 0) :: As) (wM q h x) (some v) (wM q h x')) (hT : GoodIn wsL_law (wsV RL index RX6 y wsc)) (hw : wsc = Cond.code y bytes maxL ret :: wsc') (hd : y.cls = RX6 ∧ y.cls ≠ "java/lang/invoke/MethodHandle" ∧ y.cls ≠ "java/lang/invoke/VarHandle" ∧ (parseMethodDescriptor y.desc).map (fun d => d.parameters.length) = some n) (hR : rmc.frames + 1 ≤ room_1.frames ∧ 8 + (maxL + 11) + rmc.locals ≤ room_1.locals) (hrc : rmc.cells = 0) (hrs : rmc.slots = 0)
    (hP : va_P D vwCl (wL q ad xx h x) H) (hD : va_D A0 (wL q ad xx h x)) (hS : va_S A0 s.heap H locs) (hG : gxO D (tyq q) s) (hn : As.length = n) (hst : st0 = As.reverse ++ .ref (h 0) :: rest) (hroom : (rest.map fun v => v.category).sum ≤ 8) (hdg : decode cL_law pc = .ok (.invokevirtual index, 3)) (hf : cells ≤ room_1.cells ∧ slots ≤ room_1.slots)
    (kk : ∀ (H1 : Heap) (locs1 : List Loc), va_P D vwCl (wL q ad xx h x') H1 → va_D A0 (wL q ad xx h x') → va_S A0 s.heap H1 locs1 → W p l e room_1 s m args below meth c H1 locs1 cells slots Q (F0 m (pc + 3) ls (v :: rest))) : W p l e room_1 s m args below meth c H locs cells slots Q (F0 m pc ls st0) :=
  mu_V (D := D) (ws := wL q ad xx h x) (ws' := wL q ad xx h x') hx hb hml hown hts hl hM hT hw hd hR hrc hrs hP hD hS hG [75, 76, 77, 78, 79] rfl rfl (by decide) [0, 1, 2, 3, 4, 5, 6, 7, 8, 9, 10, 11, 12, 13, 14, 15, 16, 17, 18, 19, 20, 21, 22, 23, 24, 25, 26, 27, 28, 29, 30, 31, 32, 33, 34, 35, 36, 37, 38, 39, 40, 41, 42, 43, 44, 45, 46, 47, 48, 49, 50, 51, 52, 53, 54, 55, 56, 57, 58, 59, 60, 61, 62, 63, 64, 65, 66, 67, 68, 69, 70, 71, 72, 73, 74, 80, 81, 82, 83, 84] rfl (by decide) rfl (ci := 4) rfl rfl hn hst hroom hdg hf kk
set_option maxHeartbeats 4000000 in
set_option maxRecDepth 100000 in
theorem law_rX (hx : p.tables.exec = Jvm.exec) (hb : c.code = cL_law) (hml : c.maxLocals = 8) (hown : s.vm.findClass RL = some m.cls) (hts : ∀ w ∈ wsL_law, w.before args s = true) (hl : lv_has ls 8 lv)
    (hM : roM l D (tyq q) y wsc rmc (.ref (ad 9 0) :: As) (wX q ad xx) (some v)) (hT : GoodIn wsL_law (wsV RL index RX5 y wsc)) (hw : wsc = Cond.code y bytes maxL ret :: wsc') (hd : y.cls = RX5 ∧ y.cls ≠ "java/lang/invoke/MethodHandle" ∧ y.cls ≠ "java/lang/invoke/VarHandle" ∧ (parseMethodDescriptor y.desc).map (fun d => d.parameters.length) = some n) (hR : rmc.frames + 1 ≤ room_1.frames ∧ 8 + (maxL + 11) + rmc.locals ≤ room_1.locals) (hrc : rmc.cells = 0) (hrs : rmc.slots = 0)
    (hP : va_P D vwCl (wL q ad xx h x) H) (hD : va_D A0 (wL q ad xx h x)) (hG : gxO D (tyq q) s) (hn : As.length = n) (hst : st0 = As.reverse ++ .ref (ad 9 0) :: rest) (hroom : (rest.map fun v => v.category).sum ≤ 8) (hdg : decode cL_law pc = .ok (.invokevirtual index, 3)) (hf : cells ≤ room_1.cells ∧ slots ≤ room_1.slots)
    (kk : W p l e room_1 s m args below meth c H locs cells slots Q (F0 m (pc + 3) ls (v :: rest))) : W p l e room_1 s m args below meth c H locs cells slots Q (F0 m pc ls st0) :=
  ro_V (D := D) (v := v) (rest := rest) (As := As) hx hb hml hown hts hl hM hT hw hd hR hrc hrs (hP.sub (ws' := wX q ad xx) [0, 1, 2, 3, 4, 5, 6, 7, 8, 9, 10, 11, 12, 13, 14, 15, 16, 17, 18, 19, 20, 21, 22, 23, 24, 25, 26, 27, 28, 29, 30, 31, 32, 33, 34, 35, 36, 37, 38, 39, 40, 41, 42, 43, 44, 45, 46, 47, 48, 49, 50, 51, 52, 53, 54, 55, 56, 57, 58, 59, 60, 61, 62, 63, 64, 65, 66, 67, 68, 69, 70, 71, 72, 73, 74] rfl) (dT (hD.sub (ws' := wX q ad xx) [0, 1, 2, 3, 4, 5, 6, 7, 8, 9, 10, 11, 12, 13, 14, 15, 16, 17, 18, 19, 20, 21, 22, 23, 24, 25, 26, 27, 28, 29, 30, 31, 32, 33, 34, 35, 36, 37, 38, 39, 40, 41, 42, 43, 44, 45, 46, 47, 48, 49, 50, 51, 52, 53, 54, 55, 56, 57, 58, 59, 60, 61, 62, 63, 64, 65, 66, 67, 68, 69, 70, 71, 72, 73, 74] (by decide) rfl)) hG (ci := 3) rfl rfl hn hst hroom hdg hf kk
set_option maxHeartbeats 4000000 in
set_option maxRecDepth 100000 in
theorem law_rN (hx : p.tables.exec = Jvm.exec) (hb : c.code = cL_law) (hml : c.maxLocals = 8) (hown : s.vm.findClass RL = some m.cls) (hts : ∀ w ∈ wsL_law, w.before args s = true) (hl : lv_has ls 8 lv)
    (hM : roM l D (tyq q) y wsc rmc (.ref (ad 9 0) :: As) (wXN q ad (xx 9 0 0) (xx 0)) (some v)) (hT : GoodIn wsL_law (wsV RL index RX5 y wsc)) (hw : wsc = Cond.code y bytes maxL ret :: wsc') (hd : y.cls = RX5 ∧ y.cls ≠ "java/lang/invoke/MethodHandle" ∧ y.cls ≠ "java/lang/invoke/VarHandle" ∧ (parseMethodDescriptor y.desc).map (fun d => d.parameters.length) = some n) (hR : rmc.frames + 1 ≤ room_1.frames ∧ 8 + (maxL + 11) + rmc.locals ≤ room_1.locals) (hrc : rmc.cells = 0) (hrs : rmc.slots = 0)
    (hP : va_P D vwCl (wL q ad xx h x) H) (hD : va_D A0 (wL q ad xx h x)) (hG : gxO D (tyq q) s) (hn : As.length = n) (hst : st0 = As.reverse ++ .ref (ad 9 0) :: rest) (hroom : (rest.map fun v => v.category).sum ≤ 8) (hdg : decode cL_law pc = .ok (.invokevirtual index, 3)) (hf : cells ≤ room_1.cells ∧ slots ≤ room_1.slots)
    (kk : W p l e room_1 s m args below meth c H locs cells slots Q (F0 m (pc + 3) ls (v :: rest))) : W p l e room_1 s m args below meth c H locs cells slots Q (F0 m pc ls st0) :=
  ro_V (D := D) (v := v) (rest := rest) (As := As) hx hb hml hown hts hl hM hT hw hd hR hrc hrs (hP.sub (ws' := wXN q ad (xx 9 0 0) (xx 0)) [0, 1, 2, 3, 4, 5, 6, 7, 8, 9, 10] rfl) (dT (hD.sub (ws' := wXN q ad (xx 9 0 0) (xx 0)) [0, 1, 2, 3, 4, 5, 6, 7, 8, 9, 10] (by decide) rfl)) hG (ci := 3) rfl rfl hn hst hroom hdg hf kk
set_option maxHeartbeats 4000000 in
set_option maxRecDepth 100000 in
theorem law_rM (hx : p.tables.exec = Jvm.exec) (hb : c.code = cL_law) (hml : c.maxLocals = 8) (hown : s.vm.findClass RL = some m.cls) (hts : ∀ w ∈ wsL_law, w.before args s = true) (hl : lv_has ls 8 lv)
    (hM : roM l D (tyq q) y wsc rmc (.ref (h 0) :: As) (wM q h x) (some v)) (hT : GoodIn wsL_law (wsV RL index RX6 y wsc)) (hw : wsc = Cond.code y bytes maxL ret :: wsc') (hd : y.cls = RX6 ∧ y.cls ≠ "java/lang/invoke/MethodHandle" ∧ y.cls ≠ "java/lang/invoke/VarHandle" ∧ (parseMethodDescriptor y.desc).map (fun d => d.parameters.length) = some n) (hR : rmc.frames + 1 ≤ room_1.frames ∧ 8 + (maxL + 11) + rmc.locals ≤ room_1.locals) (hrc : rmc.cells = 0) (hrs : rmc.slots = 0)
    (hP : va_P D vwCl (wL q ad xx h x) H) (hD : va_D A0 (wL q ad xx h x)) (hG : gxO D (tyq q) s) (hn : As.length = n) (hst : st0 = As.reverse ++ .ref (h 0) :: rest) (hroom : (rest.map fun v => v.category).sum ≤ 8) (hdg : decode cL_law pc = .ok (.invokevirtual index, 3)) (hf : cells ≤ room_1.cells ∧ slots ≤ room_1.slots)
    (kk : W p l e room_1 s m args below meth c H locs cells slots Q (F0 m (pc + 3) ls (v :: rest))) : W p l e room_1 s m args below meth c H locs cells slots Q (F0 m pc ls st0) :=
  ro_V (D := D) (v := v) (rest := rest) (As := As) hx hb hml hown hts hl hM hT hw hd hR hrc hrs (hP.sub (ws' := wM q h x) [75, 76, 77, 78, 79] rfl) (dT (hD.sub (ws' := wM q h x) [75, 76, 77, 78, 79] (by decide) rfl)) hG (ci := 4) rfl rfl hn hst hroom hdg hf kk
/-- the static tables, apart from what the law makes -/
def stKA (z : Nat → Nat) (A : Nat → Prop) (U : State) (H : Heap) : Prop := ∀ k, k < 3 → va_Z "MillComplaints" (stNm k) "[I" (.ref (z k)) A U H ∧ va_T .int (z k) 4 (fun j => .int (setF k j)) A U H
theorem stKA.of {z : Nat → Nat} {A : Nat → Prop} {U : State} {H H1 : Heap} {locs1 : List Loc} (hZ : stKA z A U H) (hS : va_S A H H1 locs1) : stKH z U H1 := fun k hk => ⟨((hZ k hk).1.kept hS.2.1).narrow (fun _ h => h.elim), ((hZ k hk).2.kept hS.2.1).narrow (fun _ h => h.elim)⟩
set_option maxHeartbeats 4000000 in
set_option maxRecDepth 100000 in
theorem law_kX {z : Nat → Nat} (hx : p.tables.exec = Jvm.exec) (hb : c.code = cL_law) (hml : c.maxLocals = 8) (hown : s.vm.findClass RL = some m.cls) (hts : ∀ w ∈ wsL_law, w.before args s = true) (hl : lv_has ls 8 lv)
    (hM : muMK l D (tyq q) y wsc rmc (.ref (ad 9 0) :: As) (wX q ad xx) z (some v) (wX q ad xx')) (hT : GoodIn wsL_law (wsV RL index RX5 y wsc)) (hw : wsc = Cond.code y bytes maxL ret :: wsc') (hd : y.cls = RX5 ∧ y.cls ≠ "java/lang/invoke/MethodHandle" ∧ y.cls ≠ "java/lang/invoke/VarHandle" ∧ (parseMethodDescriptor y.desc).map (fun d => d.parameters.length) = some n) (hR : rmc.frames + 1 ≤ room_1.frames ∧ 8 + (maxL + 11) + rmc.locals ≤ room_1.locals) (hrc : rmc.cells = 0) (hrs : rmc.slots = 0) (hZ : stKA z A0 s s.heap)
    (hP : va_P D vwCl (wL q ad xx h x) H) (hD : va_D A0 (wL q ad xx h x)) (hS : va_S A0 s.heap H locs) (hG : gxO D (tyq q) s) (hn : As.length = n) (hst : st0 = As.reverse ++ .ref (ad 9 0) :: rest) (hroom : (rest.map fun v => v.category).sum ≤ 8) (hdg : decode cL_law pc = .ok (.invokevirtual index, 3)) (hf : cells ≤ room_1.cells ∧ slots ≤ room_1.slots)
    (kk : ∀ (H1 : Heap) (locs1 : List Loc), va_P D vwCl (wL q ad xx' h x) H1 → va_D A0 (wL q ad xx' h x) → va_S A0 s.heap H1 locs1 → W p l e room_1 s m args below meth c H1 locs1 cells slots Q (F0 m (pc + 3) ls (v :: rest))) : W p l e room_1 s m args below meth c H locs cells slots Q (F0 m pc ls st0) := by
  have hPc : va_P D vwCl (wX q ad xx) H := hP.sub [0, 1, 2, 3, 4, 5, 6, 7, 8, 9, 10, 11, 12, 13, 14, 15, 16, 17, 18, 19, 20, 21, 22, 23, 24, 25, 26, 27, 28, 29, 30, 31, 32, 33, 34, 35, 36, 37, 38, 39, 40, 41, 42, 43, 44, 45, 46, 47, 48, 49, 50, 51, 52, 53, 54, 55, 56, 57, 58, 59, 60, 61, 62, 63, 64, 65, 66, 67, 68, 69, 70, 71, 72, 73, 74] rfl
  have hDc : va_D A0 (wX q ad xx) := hD.sub [0, 1, 2, 3, 4, 5, 6, 7, 8, 9, 10, 11, 12, 13, 14, 15, 16, 17, 18, 19, 20, 21, 22, 23, 24, 25, 26, 27, 28, 29, 30, 31, 32, 33, 34, 35, 36, 37, 38, 39, 40, 41, 42, 43, 44, 45, 46, 47, 48, 49, 50, 51, 52, 53, 54, 55, 56, 57, 58, 59, 60, 61, 62, 63, 64, 65, 66, 67, 68, 69, 70, 71, 72, 73, 74] (by decide) rfl
  exact mu_run (ws' := wL q ad xx' h x) (va_runV (As := As) (rest := rest) ⟨hx, hb, hml, hown, hts⟩ hM (cwV n hts hT hw hrc hrs hd hR) ⟨fun a U g mk r => ⟨stP.blind a U g mk r.1, r.2.moved (u := U) (U := U.calling g mk a) (Vm.Alike.refl U.vm)⟩, va_recv hG.1 hPc (ci := 3) (q0 := 0) rfl rfl, fun U hU hW => ⟨st_pre hPc (dT hDc) hG U hU hW, by show stKH z U U.heap; rw [hU]; exact (hZ.of hS).moved hW.alike⟩⟩ rfl hn hl.1 hst (lv_room hroom) hdg hf) hP hD hS [0, 1, 2, 3, 4, 5, 6, 7, 8, 9, 10, 11, 12, 13, 14, 15, 16, 17, 18, 19, 20, 21, 22, 23, 24, 25, 26, 27, 28, 29, 30, 31, 32, 33, 34, 35, 36, 37, 38, 39, 40, 41, 42, 43, 44, 45, 46, 47, 48, 49, 50, 51, 52, 53, 54, 55, 56, 57, 58, 59, 60, 61, 62, 63, 64, 65, 66, 67, 68, 69, 70, 71, 72, 73, 74] rfl [80, 81, 82, 83, 84, 85, 86, 87, 88, 89, 90, 91, 92, 93, 94, 95, 96, 97, 98, 99, 100, 101, 102, 103, 104, 105, 106, 107, 108, 109, 110, 111, 112, 113, 114, 115, 116, 117, 118, 119, 120, 121, 122, 123, 124, 125, 126, 127, 128, 129, 130, 131, 132, 133, 134, 135, 136, 137, 138, 139, 140, 141, 142, 143, 144, 145, 146, 147, 148, 149, 150, 151, 152, 153, 154, 75, 76, 77, 78, 79] rfl (by decide) rfl kk
theorem lw_rd {b o1 o2 i L k : Nat} {xs : Nat → Int32} {z : Int} (hx : p.tables.exec = Jvm.exec) (hb : c.code = cL_law) (hX : va_X b L xs s s.heap) (hbl : b < s.heap.size) (hbA : ¬ A0 b) (hL : L ≤ 2560) (hl : lv_has ls 8 [(0, .ref b), (1, .ref o1), (2, .ref o2), (3, .int (nI i))]) (hS : va_S A0 s.heap H locs) (hk : Int32.ofInt z = nI k) (hi : i + k < L) (d0 : decode cL_law pc = .ok (.aload_n 0, 1)) (d1 : decode cL_law (pc + 1) = .ok (.iload_n 3, 1)) (d2 : decode cL_law (pc + 1 + 1) = .ok (.iconst z, 1)) (d3 : decode cL_law (pc + 1 + 1 + 1) = .ok (.iadd, 1)) (d4 : decode cL_law (pc + 1 + 1 + 1 + 1) = .ok (.iaload, 1))
    (kk : W p l e room_1 s m args below meth c H locs cells slots Q (F0 m (pc + 5) ls (.int (xs (i + k)) :: rest))) : W p l e room_1 s m args below meth c H locs cells slots Q (F0 m pc ls rest) := by
  refine lv_aload_n hx hb d0 rfl (lv_at hl 0 rfl) ?_
  refine lv_iload_n hx hb d1 rfl (lv_at hl 3 rfl) ?_
  refine lv_iconst (v := nI k) hx hb d2 hk ?_
  refine lv_iadd hx hb d3 ?_
  rw [nI_add]
  refine va_sld hx hb hX hbl hbA hS (vp_in_nI hi (by omega)) d4 ?_
  rw [nI_clamp (by omega)]
  exact kk
end LAW
/-- all that a case of the law stands on -/
def lwX (p : Program) (l : Launch) (s : State) (m : MethodId) (meth : Method) (c : Code) (A : Nat → Prop) (b L i : Nat) (xs : Nat → Int32) (D : va_G) (q z : Nat → Nat) : Prop :=
  p.tables.exec = Jvm.exec ∧ c.code = cL_law ∧ c.maxLocals = 8 ∧ s.vm.findClass RL = some m.cls ∧ (∀ w ∈ wsL_law, w.before #[Value.ref b] s = true) ∧ va_X b L xs s s.heap ∧ b < s.heap.size ∧ ¬ A b ∧ L ≤ 2560 ∧ i + 5 ≤ L ∧ gxO D (tyq q) s ∧ stKA z A s s.heap
/-- a case's goal: from its first row on to the law's end, the row behind the switch taken as given -/
def lwG (p : Program) (l : Launch) (e : Env) (s : State) (m : MethodId) (below : List Frame) (meth : Method) (c : Code) (A : Nat → Prop) (b i : Nat) (D : va_G) (q : Nat → ClassId) (ad : Nat → Nat → Nat) (h : Nat → Nat) (Z : State → Prop) (pc : Nat) : Prop :=
  ∀ (xx : Nat → Nat → Nat → Int32) (x : Nat → Nat → Int32) (H : Heap) (locs : List Loc), RR xx x → va_P D vwCl (wL q ad xx h x) H → va_D A (wL q ad xx h x) → va_S A s.heap H locs → ∀ ls : Array Slot, lv_has ls 8 [(0, .ref b), (1, .ref (ad 9 0)), (2, .ref (h 0)), (3, .int (nI i))] → W p l e room_1 s m #[Value.ref b] below meth c H locs 80 2277 Z (F0 m pc ls [])
