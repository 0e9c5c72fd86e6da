/-! BASE: contracts of methods that only read (ro) and of methods that write (mu); the rows by which they are entered, called and left. -/
/-- the words that name private members of nest mates -/
def nwF : List (String × Nat × String × String × String × String) := [("MillComplaints$Village", 15, "MillComplaints", "FIRST_SETTING", "[I", "MillComplaints"), ("MillComplaints", 249, "MillComplaints$Village", "winds", "[I", "MillComplaints"), ("MillComplaints", 76, "MillComplaints$Village", "settings", "[I", "MillComplaints"), ("MillComplaints", 119, "MillComplaints$Village", "tallies", "[I", "MillComplaints"), ("MillComplaints", 217, "MillComplaints$Village", "mills", "I", "MillComplaints"), ("MillComplaints", 172, "MillComplaints$Village", "heights", "[I", "MillComplaints"), ("MillComplaints", 175, "MillComplaints$Village", "millYards", "[I", "MillComplaints"), ("MillComplaints", 140, "MillComplaints$Village", "houses", "I", "MillComplaints"), ("MillComplaints", 187, "MillComplaints$Village", "houseYards", "[I", "MillComplaints"), ("MillComplaints", 190, "MillComplaints$Village", "vain", "[I", "MillComplaints"), ("MillComplaints", 157, "MillComplaints$History", "size", "I", "MillComplaints"), ("MillComplaints", 87, "MillComplaints$Text", "length", "I", "MillComplaints")]
def nwM : List (String × Nat × MethodName × String) := [("MillComplaints$Village", 49, yX5_copyRow, "MillComplaints"), ("MillComplaints$Village", 64, yX5_at, "MillComplaints"), ("MillComplaints$Village", 149, yX5_isHour, "MillComplaints"), ("MillComplaints$Village", 97, yX5_distance, "MillComplaints"), ("MillComplaints$Shadows", 22, yX5_distance, "MillComplaints"), ("MillComplaints$Village", 79, yX5_put, "MillComplaints")]
def nwOk (U : State) : Prop := (∀ q ∈ nwF, va_Nw (.fieldLinkNest q.1 q.2.1 q.2.2.1 q.2.2.2.1 q.2.2.2.2.1 q.2.2.2.2.2) U) ∧ ∀ q ∈ nwM, va_Nw (.methodLinkNest q.1 q.2.1 q.2.2.1 q.2.2.2) U
theorem nwOk.warm {s U : State} (hW : s.WarmedH U.vm) (h : nwOk s) : nwOk U := ⟨fun q hq => va_Nw.warmF hW (h.1 q hq), fun q hq => va_Nw.warmM hW (h.2 q hq)⟩
theorem nwOk.same {u U : State} (hv : u.vm = U.vm) (h : nwOk u) : nwOk U := ⟨fun q hq => va_Nw.same rfl hv (h.1 q hq), fun q hq => va_Nw.same rfl hv (h.2 q hq)⟩
/-- what every contract knows of the tables -/
def gxO (D : va_G) (TY : List (ClassId × FieldType)) (U : State) : Prop := va_K D vwCl TY U ∧ nwOk U
theorem gxO.warm {D : va_G} {TY : List (ClassId × FieldType)} {s U : State} (hW : s.WarmedH U.vm) (h : gxO D TY s) : gxO D TY U := ⟨va_K.moved hW.alike h.1, h.2.warm hW⟩
theorem gxO.same {D : va_G} {TY : List (ClassId × FieldType)} {s U : State} (hv : s.vm = U.vm) (h : gxO D TY s) : gxO D TY U := ⟨va_K.moved (by rw [hv]; exact Vm.Alike.refl U.vm) h.1, h.2.same hv⟩
/-- a method's start -/
def stP (D : va_G) (TY : List (ClassId × FieldType)) (av : List Value) (world : va_W) : Array Value → State → Prop := va_Pc av (fun U => va_P D vwCl world U.heap ∧ va_D (fun _ => True) world ∧ gxO D TY U)
theorem stP.blind {D : va_G} {TY : List (ClassId × FieldType)} {av : List Value} {world : va_W} : FrameBlind (stP D TY av world) := by
  intro a U g mk q
  obtain ⟨h1, h2, h3, h4⟩ := q
  exact ⟨h1, h2, h3, h4.same rfl⟩
/-- a method's end, without a change: what it returns -/
def roQ (o : Option Value) : Array Value → State → Outcome → State → Prop := fun _ st oc t => oc = .returned o ∧ t.heap = st.heap
/-- a method that only reads -/
def roM (l : Launch) (D : va_G) (TY : List (ClassId × FieldType)) (y : MethodName) (ws : List Cond) (rm : Room) (av : List Value) (world : va_W) (o : Option Value) : Prop := Met l y ws rm (stP D TY av world) (roQ o) 0 0 (fun _ => False)
/-- a cell of a world -/
def wAt (world : va_W) : Nat → Prop := fun q => ∃ (k : Nat) (e : va_E), world[k]? = some (q, e)
/-- a method's end with a change: what it returns, its world then -/
def muQ (D : va_G) (o : Option Value) (world world' : va_W) : Array Value → State → Outcome → State → Prop := fun _ st oc t => oc = .returned o ∧ va_P D vwCl world' t.heap ∧ va_F (wAt world) st t
/-- a method that writes cells of its world, and makes none -/
def muM (l : Launch) (D : va_G) (TY : List (ClassId × FieldType)) (y : MethodName) (ws : List Cond) (rm : Room) (av : List Value) (world : va_W) (o : Option Value) (world' : va_W) : Prop := Met l y ws rm (fun a U => stP D TY av world a U) (muQ D o world world') 0 0 (wAt world)
section ENTRY
variable {l : Launch} {D : va_G} {TY : List (ClassId × FieldType)} {y : MethodName} {ws ws' : List Cond} {rm : Room} {av : List Value} {world world' : va_W} {o : Option Value} {cc : ByteArray} {maxL : Nat} {ret : Option FieldType}
theorem roM.of (hy : plainName y.cls = true) (hw : ws = Cond.code y cc maxL ret :: ws') (hlen : (lg_sl av).length ≤ maxL)
    (body : ∀ (p : Program) (e : Env) (s : State) (m : MethodId) (below : List Frame) (meth : Method) (c : Code) (ls : Array Slot), p.tables.exec = Jvm.exec → c.code = cc → meth.sig.returnType = ret → meth.locks = false → c.maxLocals = maxL → s.vm.findClass y.cls = some m.cls → (∀ w ∈ ws, w.before av.toArray s = true) → va_P D vwCl world s.heap → va_D (fun _ => True) world → gxO D TY s → lv_has ls maxL (lv_args 0 av) →
      W p l e rm s m av.toArray below meth c s.heap [] 0 0 (MQ below (roQ o) av.toArray s 0 0 (fun _ => False)) (F0 m 0 ls [])) : roM l D TY y ws rm av world o := by
  refine Met.ofW hy hw ?_
  intro p e s m args below meth c s₁ B hml hv
  obtain ⟨rfl, hP, hD, hG⟩ := hv
  rw [lg_entry_eq]
  exact body p e s m below meth c _ B.exec B.bytes B.returns B.notSynchronized hml (findClass_of_methodNamed B.named) (atoms_spec (ws := ws) B.pre) hP hD hG (lv_entry av hlen)
theorem muM.of (hy : plainName y.cls = true) (hw : ws = Cond.code y cc maxL ret :: ws') (hlen : (lg_sl av).length ≤ maxL)
    (body : ∀ (p : Program) (e : Env) (s : State) (m : MethodId) (below : List Frame) (meth : Method) (c : Code) (ls : Array Slot) (A : Nat → Prop), p.tables.exec = Jvm.exec → c.code = cc → meth.sig.returnType = ret → meth.locks = false → c.maxLocals = maxL → s.vm.findClass y.cls = some m.cls → (∀ w ∈ ws, w.before av.toArray s = true) → va_P D vwCl world s.heap → va_D A world → gxO D TY s → A = wAt world → lv_has ls maxL (lv_args 0 av) →
      W p l e rm s m av.toArray below meth c s.heap [] 0 0 (MQ below (muQ D o world world') av.toArray s 0 0 (wAt world)) (F0 m 0 ls [])) : muM l D TY y ws rm av world o world' := by
  refine Met.ofW hy hw ?_
  intro p e s m args below meth c s₁ B hml hv
  obtain ⟨rfl, hP, hD, hG⟩ := hv
  rw [lg_entry_eq]
  exact body p e s m below meth c _ (wAt world) B.exec B.bytes B.returns B.notSynchronized hml (findClass_of_methodNamed B.named) (atoms_spec (ws := ws) B.pre) hP ⟨hD.1, fun k q hk => ⟨k, q.2, hk⟩⟩ hG rfl (lv_entry av hlen)
end ENTRY
section LEAVE
variable {p : Program} {l : Launch} {e : Env} {R : Room} {s : State} {m : MethodId} {args : Array Value} {below : List Frame} {meth : Method} {c : Code} {cc : ByteArray} {pc : Nat} {ls : Array Slot} {H : Heap} {locs : List Loc} {D : va_G} {world world' : va_W}
theorem ro_iret {v r : Int32} (hx : p.tables.exec = Jvm.exec) (hb : c.code = cc) (hr : meth.sig.returnType = some .int) (hk : meth.locks = false) (hv : v = r) (hdg : decode cc pc = .ok (.ireturn, 1)) : W p l e R s m args below meth c s.heap [] 0 0 (MQ below (roQ (some (.int r))) args s 0 0 (fun _ => False)) (F0 m pc ls [.int v]) := by
  subst hv
  exact W.iret hx hb hr (fun t ht hW => ⟨rfl, ht⟩) (fun q hq => absurd hq List.not_mem_nil) hdg hk
theorem b01n {v : Int32} (h : v = 0 ∨ v = 1) : narrow .boolean (.int v) = .int v := by
  rcases h with rfl | rfl <;> decide +kernel
theorem ro_zret {v r : Int32} (hx : p.tables.exec = Jvm.exec) (hb : c.code = cc) (hr : meth.sig.returnType = some .boolean) (hk : meth.locks = false) (h01 : v = 0 ∨ v = 1) (hv : v = r) (hdg : decode cc pc = .ok (.ireturn, 1)) : W p l e R s m args below meth c s.heap [] 0 0 (MQ below (roQ (some (.int r))) args s 0 0 (fun _ => False)) (F0 m pc ls [.int v]) := by
  subst hv
  exact W.zret hx hb hr (b01n h01) (fun t ht hW => ⟨rfl, ht⟩) (fun q hq => absurd hq List.not_mem_nil) hdg hk
theorem ro_fret {v r : UInt32} (hx : p.tables.exec = Jvm.exec) (hb : c.code = cc) (hr : meth.sig.returnType = some .float) (hk : meth.locks = false) (hv : v = r) (hdg : decode cc pc = .ok (.freturn, 1)) : W p l e R s m args below meth c s.heap [] 0 0 (MQ below (roQ (some (.float r))) args s 0 0 (fun _ => False)) (F0 m pc ls [.float v]) := by
  subst hv
  exact W.fret hx hb hr (fun t ht hW => ⟨rfl, ht⟩) (fun q hq => absurd hq List.not_mem_nil) hdg hk
end LEAVE
section CALLS
variable {p : Program} {l : Launch} {e : Env} {R : Room} {s : State} {m : MethodId} {args : Array Value} {below : List Frame} {meth : Method} {c : Code} {H : Heap} {locs : List Loc} {cells slots : Nat} {Q : State → Prop}
variable {pc : Nat} {ls : Array Slot} {rest st0 As : List Value} {a : Array Value} {A0 : Nat → Prop} {H0 : Heap} {D : va_G} {TY : List (ClassId × FieldType)} {world world' wc wc' : va_W} {o : Option Value}
variable {y : MethodName} {Ts wsc wsc' : List Cond} {rmc : Room} {cc bytes : ByteArray} {maxL nL n index : Nat} {ret : Option FieldType} {own C host : String} {b : Addr} {lv : List (Nat × Value)}
theorem ro_run (hr : va_Run p l e R s m args below meth c H locs cells slots 0 0 (F0 m pc ls st0) rest (roQ o a) (fun _ => False))
    (kk : W p l e R s m args below meth c H locs cells slots Q (F0 m (pc + 3) ls (o.toList ++ rest))) : W p l e R s m args below meth c H locs cells slots Q (F0 m pc ls st0) := by
  intro T hT X
  obtain ⟨v, st₀, t, T', L, h0, X', hL, e1, e2, ⟨hv, hh⟩, st⟩ := hr T hT X
  cases hv
  obtain ⟨t2, a1, b1⟩ := kk T' (by rw [e1, hh, h0]) (Stand.forget (locs := locs) X' (fun q h => (hL q h).elim))
  exact ⟨t2, st t2 a1, b1⟩
/-- behind a call of a method that writes: the places of its cells in the caller's world get what it left -/
theorem wr_join {ws ws' : va_W} {H1 : Heap} (hP : va_P D vwCl ws H) (hD : va_D A0 ws) (isC : List Nat) (hC : isC.map (fun i => ws[i]?) = wc.map some) (js : List Nat) (hj : js.map (fun j => (ws ++ wc')[j]?) = ws'.map some) (hjs : js.all (fun j => decide (j ∉ isC)) = true) (had : ws'.map Prod.fst = ws.map Prod.fst)
    (hk : ∀ q : Nat, q < H.size → ¬ wAt wc q → H1[q]? = H[q]?) (hP1 : va_P D vwCl wc' H1) : va_P D vwCl ws' H1 ∧ va_D A0 ws' := by
  have key : ∀ (k : Nat) (q : Nat × va_E), ws'[k]? = some q → ∃ j, js[k]? = some j ∧ (ws ++ wc')[j]? = some q := by
    intro k q hq
    have h1 : (js.map (fun j => (ws ++ wc')[j]?))[k]? = some (some q) := by rw [hj, List.getElem?_map, hq]; rfl
    rw [List.getElem?_map] at h1
    cases hi : js[k]? with
    | none => rw [hi] at h1; cases h1
    | some i => rw [hi] at h1; exact ⟨i, rfl, Option.some.inj h1⟩
  have fst : ∀ (k : Nat) (q : Nat × va_E), ws'[k]? = some q → ∃ q0, ws[k]? = some q0 ∧ q0.1 = q.1 := by
    intro k q hq
    have h1 : (ws'.map Prod.fst)[k]? = some q.1 := by rw [List.getElem?_map, hq]; rfl
    rw [had, List.getElem?_map] at h1
    cases hi : ws[k]? with
    | none => rw [hi] at h1; cases h1
    | some i => rw [hi] at h1; exact ⟨i, rfl, Option.some.inj h1⟩
  refine ⟨fun k q hq => ?_, fun i j x z hi hj hxz => ?_, fun k q hq => ?_⟩
  · obtain ⟨j, h1, h2⟩ := key k q hq
    by_cases hl : j < ws.length
    · rw [List.getElem?_append_left hl] at h2
      refine (hP j q h2).kept (hk q.1 ((hP j q h2).lt) ?_)
      rintro ⟨k2, e, h⟩
      have h3 : (isC.map (fun i => ws[i]?))[k2]? = some (some (q.1, e)) := by rw [hC, List.getElem?_map, h]; rfl
      rw [List.getElem?_map] at h3
      cases hi : isC[k2]? with
      | none => rw [hi] at h3; cases h3
      | some i =>
        rw [hi] at h3
        have h4 : ws[i]? = some (q.1, e) := Option.some.inj h3
        have h5 := hD.1 j i q (q.1, e) h2 h4 rfl
        subst h5
        have h6 := List.all_eq_true.mp hjs j (List.mem_of_getElem? h1)
        exact (of_decide_eq_true h6) (List.mem_of_getElem? hi)
    · rw [List.getElem?_append_right (by omega)] at h2
      exact hP1 _ q h2
  · obtain ⟨x0, h1, h2⟩ := fst i x hi
    obtain ⟨z0, h3, h4⟩ := fst j z hj
    exact hD.1 i j x0 z0 h1 h3 (h2.trans (hxz.trans h4.symm))
  · obtain ⟨q0, h1, h2⟩ := fst k q hq
    rw [← h2]
    exact hD.2 k q0 h1
theorem mu_run {ws ws' : va_W} (hr : va_Run p l e R s m args below meth c H locs cells slots 0 0 (F0 m pc ls st0) rest (muQ D o wc wc' a) (wAt wc)) (hP : va_P D vwCl ws H) (hD : va_D A0 ws) (hS : va_S A0 H0 H locs) (isC : List Nat) (hC : isC.map (fun i => ws[i]?) = wc.map some) (js : List Nat) (hj : js.map (fun j => (ws ++ wc')[j]?) = ws'.map some) (hjs : js.all (fun j => decide (j ∉ isC)) = true) (had : ws'.map Prod.fst = ws.map Prod.fst)
    (kk : ∀ (H1 : Heap) (locs1 : List Loc), va_P D vwCl ws' H1 → va_D A0 ws' → va_S A0 H0 H1 locs1 → W p l e R s m args below meth c H1 locs1 cells slots Q (F0 m (pc + 3) ls (o.toList ++ rest))) : W p l e R s m args below meth c H locs cells slots Q (F0 m pc ls st0) := by
  intro T hT X
  obtain ⟨v, st₀, t, T', L, h0, X', hL, e1, e2, ⟨hv, hp, hz, hk⟩, st⟩ := hr T hT X
  cases hv
  rw [h0] at hz hk
  have hin : ∀ q, wAt wc q → A0 q := by
    rintro q ⟨k2, e, h⟩
    have h3 : (isC.map (fun i => ws[i]?))[k2]? = some (some (q, e)) := by rw [hC, List.getElem?_map, h]; rfl
    rw [List.getElem?_map] at h3
    cases hi : isC[k2]? with
    | none => rw [hi] at h3; cases h3
    | some i => rw [hi] at h3; exact hD.2 i (q, e) (Option.some.inj h3)
  have hk1 : ∀ q : Nat, q < H.size → ¬ wAt wc q → T'.heap[q]? = H[q]? := fun q h1 h2 => by rw [e1]; exact hk q h1 h2
  obtain ⟨hP1, hD1⟩ := wr_join hP hD isC hC js hj hjs had (H1 := T'.heap) hk1 (by rw [e1]; exact hp)
  obtain ⟨t2, a1, b1⟩ := kk T'.heap (locs ++ L) hP1 hD1 ⟨Nat.le_trans hS.1 (by rw [e1]; exact hz), fun q h1 h2 => by rw [hk1 q (Nat.lt_of_lt_of_le h1 hS.1) (fun z => h2 (hin q z))]; exact hS.2.1 q h1 h2, fun q hq => by
      rcases List.mem_append.mp hq with h | h
      · exact hS.2.2 q h
      · exact hin _ (hL q h)⟩ T' rfl X'
  exact ⟨t2, st t2 a1, b1⟩
end CALLS
section CALLS2
variable {p : Program} {l : Launch} {e : Env} {R : Room} {s : State} {m : MethodId} {args : Array Value} {below : List Frame} {meth : Method} {c : Code} {H : Heap} {locs : List Loc} {cells slots : Nat} {Q : State → Prop}
variable {pc : Nat} {ls : Array Slot} {rest st0 As : List Value} {A0 : Nat → Prop} {H0 : Heap} {D : va_G} {TY : List (ClassId × FieldType)} {world world' wc wc' ws ws' : va_W} {o : Option Value} {v : Value}
variable {y : MethodName} {Ts wsc wsc' : List Cond} {rmc : Room} {cc bytes : ByteArray} {maxL nL n index ci N : Nat} {ret : Option FieldType} {own C host : String} {T : u_T} {b : Addr} {lv : List (Nat × Value)} {fs : List Value}
theorem st_pre {av : List Value} (hPc : va_P D vwCl wc H) (hDc : va_D (fun _ => True) wc) (hG : gxO D TY s) (U : State) (hU : U.heap = H) (hW : s.WarmedH U.vm) : stP D TY av wc av.toArray U := ⟨rfl, by rw [hU]; exact hPc, hDc, hG.warm hW⟩
theorem dT {A : Nat → Prop} (h : va_D A wc) : va_D (fun _ => True) wc := h.weaken (fun _ _ _ _ => trivial)
theorem ro_V (hx : p.tables.exec = Jvm.exec) (hb : c.code = cc) (hml : c.maxLocals = nL) (hown : s.vm.findClass own = some m.cls) (hts : ∀ w ∈ Ts, w.before args s = true) (hl : lv_has ls nL lv)
    (hM : roM l D TY y wsc rmc (.ref b :: As) wc (some v)) (hT : GoodIn Ts (wsV own index C y wsc)) (hw : wsc = Cond.code y bytes maxL ret :: wsc') (hd : y.cls = C ∧ y.cls ≠ "java/lang/invoke/MethodHandle" ∧ y.cls ≠ "java/lang/invoke/VarHandle" ∧ (parseMethodDescriptor y.desc).map (fun d => d.parameters.length) = some n) (hR : rmc.frames + 1 ≤ R.frames ∧ 8 + (maxL + 11) + rmc.locals ≤ R.locals) (hrc : rmc.cells = 0) (hrs : rmc.slots = 0)
    (hPc : va_P D vwCl wc H) (hDc : va_D (fun _ => True) wc) (hG : gxO D TY s) (hc : vwCl[ci]? = some (C, T, N)) (he : wc[0]? = some (b, .inr (ci, fs))) (hn : As.length = n) (hst : st0 = As.reverse ++ .ref b :: rest) (hroom : (rest.map fun v => v.category).sum ≤ 8) (hdg : decode cc pc = .ok (.invokevirtual index, 3)) (hf : cells ≤ R.cells ∧ slots ≤ R.slots)
    (kk : W p l e R s m args below meth c H locs cells slots Q (F0 m (pc + 3) ls (v :: rest))) : W p l e R s m args below meth c H locs cells slots Q (F0 m pc ls st0) :=
  ro_run (va_runV (As := As) (rest := rest) ⟨hx, hb, hml, hown, hts⟩ hM (cwV n hts hT hw hrc hrs hd hR) ⟨stP.blind, va_recv hG.1 hPc hc he, st_pre hPc hDc hG⟩ rfl hn hl.1 hst (lv_room hroom) hdg hf) kk
theorem ro_S (hx : p.tables.exec = Jvm.exec) (hb : c.code = cc) (hml : c.maxLocals = nL) (hown : s.vm.findClass own = some m.cls) (hts : ∀ w ∈ Ts, w.before args s = true) (hl : lv_has ls nL lv)
    (hM : roM l D TY y wsc rmc As wc (some v)) (hT : GoodIn Ts (va_wsS own index y wsc)) (hw : wsc = Cond.code y bytes maxL ret :: wsc') (hd : y.cls ≠ "java/lang/invoke/MethodHandle" ∧ y.cls ≠ "java/lang/invoke/VarHandle" ∧ (parseMethodDescriptor y.desc).map (fun d => d.parameters.length) = some n) (hR : rmc.frames + 1 ≤ R.frames ∧ 8 + (maxL + 11) + rmc.locals ≤ R.locals) (hrc : rmc.cells = 0) (hrs : rmc.slots = 0)
    (hPc : va_P D vwCl wc H) (hDc : va_D (fun _ => True) wc) (hG : gxO D TY s) (hn : As.length = n) (hst : st0 = As.reverse ++ rest) (hroom : (rest.map fun v => v.category).sum ≤ 8) (hdg : decode cc pc = .ok (.invokestatic index, 3)) (hf : cells ≤ R.cells ∧ slots ≤ R.slots)
    (kk : W p l e R s m args below meth c H locs cells slots Q (F0 m (pc + 3) ls (v :: rest))) : W p l e R s m args below meth c H locs cells slots Q (F0 m pc ls st0) :=
  ro_run (va_runS (As := As) (rest := rest) ⟨hx, hb, hml, hown, hts⟩ hM (va_cwS n hts hT hw hrc hrs hd hR) ⟨stP.blind, st_pre hPc hDc hG⟩ rfl hn hl.1 hst (lv_room hroom) hdg hf) kk
theorem ro_SN (hx : p.tables.exec = Jvm.exec) (hb : c.code = cc) (hml : c.maxLocals = nL) (hown : s.vm.findClass own = some m.cls) (hts : ∀ w ∈ Ts, w.before args s = true) (hl : lv_has ls nL lv)
    (hM : roM l D TY y wsc rmc As wc (some v)) (hT : GoodIn Ts wsc) (hw : wsc = Cond.code y bytes maxL ret :: wsc') (hd : y.cls ≠ "java/lang/invoke/MethodHandle" ∧ y.cls ≠ "java/lang/invoke/VarHandle" ∧ (parseMethodDescriptor y.desc).map (fun d => d.parameters.length) = some n) (hR : rmc.frames + 1 ≤ R.frames ∧ 8 + (maxL + 11) + rmc.locals ≤ R.locals) (hrc : rmc.cells = 0) (hrs : rmc.slots = 0)
    (hnw : va_Nw (.methodLinkNest own index y host) s) (hini : Cond.initialized y.cls ∈ Ts) (hsta : Cond.static y ∈ Ts)
    (hPc : va_P D vwCl wc H) (hDc : va_D (fun _ => True) wc) (hG : gxO D TY s) (hn : As.length = n) (hst : st0 = As.reverse ++ rest) (hroom : (rest.map fun v => v.category).sum ≤ 8) (hdg : decode cc pc = .ok (.invokestatic index, 3)) (hf : cells ≤ R.cells ∧ slots ≤ R.slots)
    (kk : W p l e R s m args below meth c H locs cells slots Q (F0 m (pc + 3) ls (v :: rest))) : W p l e R s m args below meth c H locs cells slots Q (F0 m pc ls st0) :=
  ro_run (va_runSN (As := As) (rest := rest) ⟨hx, hb, hml, hown, hts⟩ hM ⟨va_cnB n hts hT hw hrc hrs hnw (hts _ hini) hd hR, hts _ hsta, trivial⟩ ⟨stP.blind, st_pre hPc hDc hG⟩ rfl hn hl.1 hst (lv_room hroom) hdg hf) kk
theorem mu_V (hx : p.tables.exec = Jvm.exec) (hb : c.code = cc) (hml : c.maxLocals = nL) (hown : s.vm.findClass own = some m.cls) (hts : ∀ w ∈ Ts, w.before args s = true) (hl : lv_has ls nL lv)
    (hM : muM l D TY y wsc rmc (.ref b :: As) wc o wc') (hT : GoodIn Ts (wsV own index C y wsc)) (hw : wsc = Cond.code y bytes maxL ret :: wsc') (hd : y.cls = C ∧ y.cls ≠ "java/lang/invoke/MethodHandle" ∧ y.cls ≠ "java/lang/invoke/VarHandle" ∧ (parseMethodDescriptor y.desc).map (fun d => d.parameters.length) = some n) (hR : rmc.frames + 1 ≤ R.frames ∧ 8 + (maxL + 11) + rmc.locals ≤ R.locals) (hrc : rmc.cells = 0) (hrs : rmc.slots = 0)
    (hP : va_P D vwCl ws H) (hD : va_D A0 ws) (hS : va_S A0 H0 H locs) (hG : gxO D TY s) (isC : List Nat) (hPs : isC.filterMap (fun i => ws[i]?) = wc) (hC : isC.map (fun i => ws[i]?) = wc.map some) (hnd : va_nd isC = true) (js : List Nat) (hj : js.map (fun j => (ws ++ wc')[j]?) = ws'.map some) (hjs : js.all (fun j => decide (j ∉ isC)) = true) (had : ws'.map Prod.fst = ws.map Prod.fst)
    (hc : vwCl[ci]? = some (C, T, N)) (he : wc[0]? = some (b, .inr (ci, fs))) (hn : As.length = n) (hst : st0 = As.reverse ++ .ref b :: rest) (hroom : (rest.map fun v => v.category).sum ≤ 8) (hdg : decode cc pc = .ok (.invokevirtual index, 3)) (hf : cells ≤ R.cells ∧ slots ≤ R.slots)
    (kk : ∀ (H1 : Heap) (locs1 : List Loc), va_P D vwCl ws' H1 → va_D A0 ws' → va_S A0 H0 H1 locs1 → W p l e R s m args below meth c H1 locs1 cells slots Q (F0 m (pc + 3) ls (o.toList ++ rest))) : W p l e R s m args below meth c H locs cells slots Q (F0 m pc ls st0) := by
  have hPc : va_P D vwCl wc H := hP.sub isC hPs
  have hDc : va_D A0 wc := hD.sub isC hnd hC
  exact mu_run (va_runV (As := As) (rest := rest) ⟨hx, hb, hml, hown, hts⟩ hM (cwV n hts hT hw hrc hrs hd hR) ⟨stP.blind, va_recv hG.1 hPc hc he, st_pre hPc (dT hDc) hG⟩ rfl hn hl.1 hst (lv_room hroom) hdg hf) hP hD hS isC hC js hj hjs had kk
theorem mu_S (hx : p.tables.exec = Jvm.exec) (hb : c.code = cc) (hml : c.maxLocals = nL) (hown : s.vm.findClass own = some m.cls) (hts : ∀ w ∈ Ts, w.before args s = true) (hl : lv_has ls nL lv)
    (hM : muM l D TY y wsc rmc As wc o wc') (hT : GoodIn Ts (va_wsS own index y wsc)) (hw : wsc = Cond.code y bytes maxL ret :: wsc') (hd : y.cls ≠ "java/lang/invoke/MethodHandle" ∧ y.cls ≠ "java/lang/invoke/VarHandle" ∧ (parseMethodDescriptor y.desc).map (fun d => d.parameters.length) = some n) (hR : rmc.frames + 1 ≤ R.frames ∧ 8 + (maxL + 11) + rmc.locals ≤ R.locals) (hrc : rmc.cells = 0) (hrs : rmc.slots = 0)
    (hP : va_P D vwCl ws H) (hD : va_D A0 ws) (hS : va_S A0 H0 H locs) (hG : gxO D TY s) (isC : List Nat) (hPs : isC.filterMap (fun i => ws[i]?) = wc) (hC : isC.map (fun i => ws[i]?) = wc.map some) (hnd : va_nd isC = true) (js : List Nat) (hj : js.map (fun j => (ws ++ wc')[j]?) = ws'.map some) (hjs : js.all (fun j => decide (j ∉ isC)) = true) (had : ws'.map Prod.fst = ws.map Prod.fst)
    (hn : As.length = n) (hst : st0 = As.reverse ++ rest) (hroom : (rest.map fun v => v.category).sum ≤ 8) (hdg : decode cc pc = .ok (.invokestatic index, 3)) (hf : cells ≤ R.cells ∧ slots ≤ R.slots)
    (kk : ∀ (H1 : Heap) (locs1 : List Loc), va_P D vwCl ws' H1 → va_D A0 ws' → va_S A0 H0 H1 locs1 → W p l e R s m args below meth c H1 locs1 cells slots Q (F0 m (pc + 3) ls (o.toList ++ rest))) : W p l e R s m args below meth c H locs cells slots Q (F0 m pc ls st0) := by
  have hPc : va_P D vwCl wc H := hP.sub isC hPs
  have hDc : va_D A0 wc := hD.sub isC hnd hC
  exact mu_run (va_runS (As := As) (rest := rest) ⟨hx, hb, hml, hown, hts⟩ hM (va_cwS n hts hT hw hrc hrs hd hR) ⟨stP.blind, st_pre hPc (dT hDc) hG⟩ rfl hn hl.1 hst (lv_room hroom) hdg hf) hP hD hS isC hC js hj hjs had kk
theorem mu_SN (hx : p.tables.exec = Jvm.exec) (hb : c.code = cc) (hml : c.maxLocals = nL) (hown : s.vm.findClass own = some m.cls) (hts : ∀ w ∈ Ts, w.before args s = true) (hl : lv_has ls nL lv)
    (hM : muM l D TY y wsc rmc As wc o wc') (hT : GoodIn Ts wsc) (hw : wsc = Cond.code y bytes maxL ret :: wsc') (hd : y.cls ≠ "java/lang/invoke/MethodHandle" ∧ y.cls ≠ "java/lang/invoke/VarHandle" ∧ (parseMethodDescriptor y.desc).map (fun d => d.parameters.length) = some n) (hR : rmc.frames + 1 ≤ R.frames ∧ 8 + (maxL + 11) + rmc.locals ≤ R.locals) (hrc : rmc.cells = 0) (hrs : rmc.slots = 0)
    (hnw : va_Nw (.methodLinkNest own index y host) s) (hini : Cond.initialized y.cls ∈ Ts) (hsta : Cond.static y ∈ Ts)
    (hP : va_P D vwCl ws H) (hD : va_D A0 ws) (hS : va_S A0 H0 H locs) (hG : gxO D TY s) (isC : List Nat) (hPs : isC.filterMap (fun i => ws[i]?) = wc) (hC : isC.map (fun i => ws[i]?) = wc.map some) (hnd : va_nd isC = true) (js : List Nat) (hj : js.map (fun j => (ws ++ wc')[j]?) = ws'.map some) (hjs : js.all (fun j => decide (j ∉ isC)) = true) (had : ws'.map Prod.fst = ws.map Prod.fst)
    (hn : As.length = n) (hst : st0 = As.reverse ++ rest) (hroom : (rest.map fun v => v.category).sum ≤ 8) (hdg : decode cc pc = .ok (.invokestatic index, 3)) (hf : cells ≤ R.cells ∧ slots ≤ R.slots)
    (kk : ∀ (H1 : Heap) (locs1 : List Loc), va_P D vwCl ws' H1 → va_D A0 ws' → va_S A0 H0 H1 locs1 → W p l e R s m args below meth c H1 locs1 cells slots Q (F0 m (pc + 3) ls (o.toList ++ rest))) : W p l e R s m args below meth c H locs cells slots Q (F0 m pc ls st0) := by
  have hPc : va_P D vwCl wc H := hP.sub isC hPs
  have hDc : va_D A0 wc := hD.sub isC hnd hC
  exact mu_run (va_runSN (As := As) (rest := rest) ⟨hx, hb, hml, hown, hts⟩ hM ⟨va_cnB n hts hT hw hrc hrs hnw (hts _ hini) hd hR, hts _ hsta, trivial⟩ ⟨stP.blind, st_pre hPc (dT hDc) hG⟩ rfl hn hl.1 hst (lv_room hroom) hdg hf) hP hD hS isC hC js hj hjs had kk
end CALLS2
section LEAVE2
variable {p : Program} {l : Launch} {e : Env} {R : Room} {s : State} {m : MethodId} {args : Array Value} {below : List Frame} {meth : Method} {c : Code} {cc : ByteArray} {pc : Nat} {ls : Array Slot} {H : Heap} {locs : List Loc} {D : va_G} {world world' : va_W} {A : Nat → Prop}
theorem mu_iret {v r : Int32} (hx : p.tables.exec = Jvm.exec) (hb : c.code = cc) (hr : meth.sig.returnType = some .int) (hk : meth.locks = false) (hA : A = wAt world) (hS : va_S A s.heap H locs) (hP : va_P D vwCl world' H) (hv : v = r) (hdg : decode cc pc = .ok (.ireturn, 1)) : W p l e R s m args below meth c H locs 0 0 (MQ below (muQ D (some (.int r)) world world') args s 0 0 (wAt world)) (F0 m pc ls [.int v]) := by
  subst hv
  subst hA
  exact W.iret hx hb hr (fun t ht hW => ⟨rfl, by rw [ht]; exact hP, hS.F ht⟩) hS.2.2 hdg hk
theorem mu_vret (hx : p.tables.exec = Jvm.exec) (hb : c.code = cc) (hr : meth.sig.returnType = none) (hk : meth.locks = false) (hA : A = wAt world) (hS : va_S A s.heap H locs) (hP : va_P D vwCl world' H) (hdg : decode cc pc = .ok (.return_, 1)) : W p l e R s m args below meth c H locs 0 0 (MQ below (muQ D none world world') args s 0 0 (wAt world)) (F0 m pc ls []) := by
  subst hA
  exact W.vret hx hb hr (fun t ht hW => ⟨rfl, by rw [ht]; exact hP, hS.F ht⟩) hS.2.2 hdg hk
end LEAVE2
/-! mirrors: names for values, counters of loops, rows of arrays -/
def lt {α β : Type} (a : α) (f : α → β) : β := f a
theorem lt_e {α β : Type} {a : α} {f : α → β} {R : β} (h : lt a f = R) {x : α} (hx : x = a) : f x = R := by subst hx; exact h
def tr (k N : Int32) : Nat := (N.toInt - k.toInt).toNat
def tq (k N : Int32) : Nat := (N.toInt + 1 - k.toInt).toNat
theorem i_rng (x : Int32) : -2147483648 ≤ x.toInt ∧ x.toInt < 2147483648 := ⟨Int32.le_toInt x, Int32.toInt_lt x⟩
theorem i_le {a b : Int32} : a ≤ b ↔ a.toInt ≤ b.toInt := Int32.le_iff_toInt_le
theorem i_lt {a b : Int32} : a < b ↔ a.toInt < b.toInt := Int32.lt_iff_toInt_lt
theorem i_eq {a b : Int32} : a = b ↔ a.toInt = b.toInt := Int32.toInt_inj.symm
theorem ti_add {a b : Int32} {x y : Int} (ha : a.toInt = x) (hb : b.toInt = y) (h : -2147483648 ≤ x + y ∧ x + y < 2147483648) : (a + b).toInt = x + y := by
  rw [Int32.toInt_add, ha, hb]
  exact Int.bmod_eq_of_le (by omega) (by omega)
theorem ti_sub {a b : Int32} {x y : Int} (ha : a.toInt = x) (hb : b.toInt = y) (h : -2147483648 ≤ x - y ∧ x - y < 2147483648) : (a - b).toInt = x - y := by
  rw [Int32.toInt_sub, ha, hb]
  exact Int.bmod_eq_of_le (by omega) (by omega)
theorem ti_mul {a b : Int32} {x y : Int} (ha : a.toInt = x) (hb : b.toInt = y) (h : -2147483648 ≤ x * y ∧ x * y < 2147483648) : (a * b).toInt = x * y := by
  rw [Int32.toInt_mul, ha, hb]
  exact Int.bmod_eq_of_le (by omega) (by omega)
theorem tr0 {k N : Int32} (h : tr k N = 0) (c : ¬ N ≤ k) : False := by
  rw [i_le] at c; unfold tr at h; omega
theorem trS {k N : Int32} {n : Nat} (h : tr k N = n + 1) (c : N ≤ k) : False := by
  rw [i_le] at c; unfold tr at h; omega
theorem trN {k N : Int32} {n : Nat} (h : tr k N = n + 1) : tr (k + 1) N = n := by
  unfold tr at h ⊢
  have h1 := i_rng k
  have h2 := i_rng N
  rw [ti_add (a := k) (b := 1) rfl rfl (by have : (1 : Int32).toInt = 1 := rfl; omega)]
  have : (1 : Int32).toInt = 1 := rfl
  omega
theorem tq0 {k N : Int32} (h : tq k N = 0) (c : ¬ N < k) : False := by
  rw [i_lt] at c; unfold tq at h; omega
theorem tqS {k N : Int32} {n : Nat} (h : tq k N = n + 1) (c : N < k) : False := by
  rw [i_lt] at c; unfold tq at h; omega
theorem tqN {k N : Int32} {n : Nat} (h : tq k N = n + 1) (hN : N.toInt < 2147483647) : tq (k + 1) N = n := by
  unfold tq at h ⊢
  have h1 := i_rng k
  have h2 := i_rng N
  rw [ti_add (a := k) (b := 1) rfl rfl (by have : (1 : Int32).toInt = 1 := rfl; omega)]
  have : (1 : Int32).toInt = 1 := rfl
  omega
theorem ix_c {i : Int32} {n : Nat} (h0 : ¬ i < 0) (h : ¬ nI n ≤ i) (hn : n < 2147483648) : vp_in i n := by
  rw [i_lt] at h0
  rw [i_le, nI_toInt hn] at h
  exact vp_in_iff.mpr ⟨by have : (0 : Int32).toInt = 0 := rfl; omega, by omega⟩
theorem ix_t {i : Int32} {x : Int} {n : Nat} (hi : i.toInt = x) (h : 0 ≤ x ∧ x < n) : vp_in i n := by
  subst hi
  exact vp_in_iff.mpr h
/-- a row's store -/
def setA (v : Nat → Nat → Int32) (k : Nat) (f : Nat → Int32) : Nat → Nat → Int32 := fun j => bif Nat.beq j k then f else v j
/-- a village's store -/
def setV (x : Nat → Nat → Nat → Int32) (k : Nat) (f : Nat → Nat → Int32) : Nat → Nat → Nat → Int32 := fun j => bif Nat.beq j k then f else x j
abbrev tyq (q : Nat → ClassId) : List (ClassId × FieldType) := [(q 0, .int), (q 1, .char), (q 2, .object RX4)]
abbrev wR (q : Nat → ClassId) (a n : Nat) (f : Nat → Int32) : va_W := [(a, .inl (q 0, n, .inl f))]
abbrev wV (q : Nat → ClassId) (h : Nat → Nat) (v : Nat → Nat → Int32) : va_W := [(h 0, .inr (2, [.ref (h 1), .ref (h 2), .ref (h 3), .int (v 9 0), .ref (h 4), .ref (h 5), .ref (h 6), .int (v 10 0), .ref (h 7), .ref (h 8), .ref (h 9)])), (h 1, .inl (q 0, 24, .inl (v 0))), (h 2, .inl (q 0, 4, .inl (v 1))), (h 3, .inl (q 0, 6, .inl (v 2))), (h 4, .inl (q 0, 4, .inl (v 3))), (h 5, .inl (q 0, 4, .inl (v 4))), (h 6, .inl (q 0, 4, .inl (v 5))), (h 7, .inl (q 0, 10, .inl (v 6))), (h 8, .inl (q 0, 10, .inl (v 7))), (h 9, .inl (q 0, 80, .inl (v 8)))]
abbrev wT (q : Nat → ClassId) (h : Nat → Nat) (t : Nat → Nat → Int32) : va_W := [(h 0, .inr (1, [.ref (h 1), .int (t 1 0)])), (h 1, .inl (q 1, 60, .inl (t 0)))]
abbrev wM (q : Nat → ClassId) (h : Nat → Nat) (x : Nat → Nat → Int32) : va_W := [(h 0, .inr (4, [.ref (h 1), .ref (h 2), .int (x 4 0), .ref (h 3), .int (x 4 1), .ref (h 4), .int (x 4 2)])), (h 1, .inl (q 0, 296, .inl (x 0))), (h 2, .inl (q 0, 592, .inl (x 1))), (h 3, .inl (q 0, 148, .inl (x 2))), (h 4, .inl (q 0, 60, .inl (x 3)))]
theorem ti_div {a d : Int32} {x n : Int} (ha : a.toInt = x) (hd : d.toInt = n) (hx : 0 ≤ x) (hn : 0 < n) : (a / d).toInt = x / n := by
  rw [lg_idiv_nonneg (by rw [ha]; exact hx) (by rw [hd]; exact hn), ha, hd]
theorem ti_rem {a d : Int32} {x n : Int} (ha : a.toInt = x) (hd : d.toInt = n) (hx : 0 ≤ x) (hn : 0 < n) : (a - a / d * d).toInt = x % n := by
  have h0 := i_rng a
  have h3 := ti_div ha hd hx hn
  have h4 : 0 ≤ x / n := Int.ediv_nonneg hx (Int.le_of_lt hn)
  have h5 : x / n * n ≤ x := Int.ediv_mul_le x (Int.ne_of_gt hn)
  have h6 : 0 ≤ x / n * n := Int.mul_nonneg h4 (Int.le_of_lt hn)
  rw [ti_sub ha (ti_mul h3 hd (by omega)) (by omega)]
  have := Int.emod_def x n
  rw [this, Int.mul_comm]
theorem rg_t {i : Int32} {x lo hi : Int} (hi' : i.toInt = x) (h : lo ≤ x ∧ x < hi) : lo ≤ i.toInt ∧ i.toInt < hi := by
  subst hi'
  exact h
section LEAVE3
variable {p : Program} {l : Launch} {e : Env} {R : Room} {s : State} {m : MethodId} {args : Array Value} {below : List Frame} {meth : Method} {c : Code} {cc : ByteArray} {pc : Nat} {ls : Array Slot} {H : Heap} {locs : List Loc} {cells slots : Nat} {Q : State → Prop} {rest : List Value}
theorem ro_cret {v r : Int32} (hx : p.tables.exec = Jvm.exec) (hb : c.code = cc) (hr : meth.sig.returnType = some .char) (hk : meth.locks = false) (h01 : narrow .char (.int v) = .int v) (hv : v = r) (hdg : decode cc pc = .ok (.ireturn, 1)) : W p l e R s m args below meth c s.heap [] 0 0 (MQ below (roQ (some (.int r))) args s 0 0 (fun _ => False)) (F0 m pc ls [.int v]) := by
  subst hv
  exact W.zret hx hb hr h01 (fun t ht hW => ⟨rfl, ht⟩) (fun q hq => absurd hq List.not_mem_nil) hdg hk
theorem lv_tope {x y : Int32} (h : x = y) (k : W p l e R s m args below meth c H locs cells slots Q (F0 m pc ls (.int y :: rest))) : W p l e R s m args below meth c H locs cells slots Q (F0 m pc ls (.int x :: rest)) := by
  subst h
  exact k
end LEAVE3
/-- an index that is written -/
theorem ix_n {i : Int32} {n : Nat} (h : ¬ (i < 0 ∨ n ≤ i.toNatClampNeg)) : vp_in i n := h
section LEAVE4
variable {p : Program} {l : Launch} {e : Env} {R : Room} {s : State} {m : MethodId} {args : Array Value} {below : List Frame} {meth : Method} {c : Code} {cc : ByteArray} {pc : Nat} {ls : Array Slot}
theorem ro_aret {v : Value} (hx : p.tables.exec = Jvm.exec) (hb : c.code = cc) (hr : meth.sig.returnType = some (.object RX4)) (hk : meth.locks = false) (hv : v = .null ∨ ∃ a, v = .ref a) (hdg : decode cc pc = .ok (.areturn, 1)) : W p l e R s m args below meth c s.heap [] 0 0 (MQ below (roQ (some v)) args s 0 0 (fun _ => False)) (F0 m pc ls [v]) :=
  W.aret hx hb hr (Or.inl ⟨_, rfl⟩) hv (fun t ht hW => ⟨rfl, ht⟩) (fun q hq => absurd hq List.not_mem_nil) hdg hk
end LEAVE4
abbrev wRR (q : Nat → ClassId) (a b n : Nat) (f g : Nat → Int32) : va_W := [(a, .inl (q 0, n, .inl f)), (b, .inl (q 0, n, .inl g))]
abbrev wVV (q : Nat → ClassId) (h : Nat → Nat) (v : Nat → Nat → Int32) (g : Nat → Nat) (w : Nat → Nat → Int32) : va_W := wV q h v ++ wV q g w
abbrev wXo (hx : Nat → Nat → Nat) (sn : Int32) : Nat × va_E := (hx 9 0, .inr (3, [.ref (hx 0 0), .ref (hx 1 0), .ref (hx 2 0), .int sn, .ref (hx 8 0), .ref (hx 7 0)]))
abbrev wHo (q : Nat → ClassId) (hx : Nat → Nat → Nat) (xx : Nat → Nat → Nat → Int32) : va_W := [(hx 8 0, .inr (0, [.ref (hx 8 1), .int (xx 8 0 0), .int (xx 8 0 1)])), (hx 8 1, .inl (q 2, 4, .inr (.inr (.inr (.inr (fun j => some (hx (3 + j) 0)))))))]
abbrev wHK (q : Nat → ClassId) (hx : Nat → Nat → Nat) (xx : Nat → Nat → Nat → Int32) (k : Nat) : va_W := wHo q hx xx ++ (wV q (hx 3) (xx 3) ++ (wV q (hx 4) (xx 4) ++ (wV q (hx 5) (xx 5) ++ (wV q (hx 6) (xx 6) ++ wV q (hx k) (xx k)))))
abbrev wXN (q : Nat → ClassId) (hx : Nat → Nat → Nat) (sn : Int32) (v : Nat → Nat → Int32) : va_W := wXo hx sn :: wV q (hx 0) v
abbrev wXNT (q : Nat → ClassId) (hx : Nat → Nat → Nat) (sn : Int32) (v t : Nat → Nat → Int32) : va_W := wXo hx sn :: (wV q (hx 0) v ++ wT q (hx 7) t)
abbrev wX (q : Nat → ClassId) (hx : Nat → Nat → Nat) (xx : Nat → Nat → Nat → Int32) : va_W := wXo hx (xx 9 0 0) :: (wV q (hx 0) (xx 0) ++ (wV q (hx 1) (xx 1) ++ (wV q (hx 2) (xx 2) ++ (wV q (hx 3) (xx 3) ++ (wV q (hx 4) (xx 4) ++ (wV q (hx 5) (xx 5) ++ (wV q (hx 6) (xx 6) ++ (wHo q hx xx ++ wT q (hx 7) (xx 7)))))))))
/-- a text holds characters -/
def chOk (t : Nat → Nat → Int32) : Prop := ∀ j : Nat, narrow .char (.int (t 0 j)) = .int (t 0 j)
/-- the ring's numbers -/
def rgOk (xx : Nat → Nat → Nat → Int32) : Prop := (∃ o : Nat, o < 4 ∧ xx 8 0 0 = nI o) ∧ ∃ z : Nat, z ≤ 4 ∧ xx 8 0 1 = nI z
theorem rg_o {xx : Nat → Nat → Nat → Int32} (h : rgOk xx) (h0 : ¬ xx 8 0 0 = 0) (h1 : ¬ xx 8 0 0 = 1) (h2 : ¬ xx 8 0 0 = 2) (h3 : ¬ xx 8 0 0 = 3) : False := by
  obtain ⟨⟨o, ho, e⟩, -⟩ := h
  rw [e] at h0 h1 h2 h3
  rcases (show o = 0 ∨ o = 1 ∨ o = 2 ∨ o = 3 by omega) with rfl | rfl | rfl | rfl
  · exact h0 rfl
  · exact h1 rfl
  · exact h2 rfl
  · exact h3 rfl
theorem rg_z {xx : Nat → Nat → Nat → Int32} (h : rgOk xx) (h0 : ¬ xx 8 0 1 = 0) (h1 : ¬ xx 8 0 1 = 1) (h2 : ¬ xx 8 0 1 = 2) (h3 : ¬ xx 8 0 1 = 3) (h4 : ¬ xx 8 0 1 = 4) : False := by
  obtain ⟨-, z, hz, e⟩ := h
  rw [e] at h0 h1 h2 h3 h4
  rcases (show z = 0 ∨ z = 1 ∨ z = 2 ∨ z = 3 ∨ z = 4 by omega) with rfl | rfl | rfl | rfl | rfl
  · exact h0 rfl
  · exact h1 rfl
  · exact h2 rfl
  · exact h3 rfl
  · exact h4 rfl
