/-! LAYER 3, 1: constructors; the village. -/
/-- the static table where a constructor finds it -/
def stI (z : Nat) (A : Nat → Prop) (U : State) (H : Heap) : Prop := va_Z "MillComplaints" "FIRST_SETTING" "[I" (.ref z) A U H ∧ va_T .int z 4 (fun j => .int (setF 0 j)) A U H ∧ va_AO RX4 U
theorem stI.kept {z : Nat} {A : Nat → Prop} {U : State} {H H1 : Heap} (h : stI z A U H) (hq : ∀ a : Nat, a < H.size → ¬ A a → H1[a]? = H[a]?) : stI z A U H1 := ⟨h.1.kept hq, h.2.1.kept hq, h.2.2⟩
theorem stI.narrow {z : Nat} {A B : Nat → Prop} {U : State} {H : Heap} (h : stI z A U H) (hAB : ∀ q, B q → A q) : stI z B U H := ⟨h.1.narrow hAB, h.2.1.narrow hAB, h.2.2⟩
theorem stI.moved {z : Nat} {A : Nat → Prop} {u U : State} {H : Heap} (hvm : u.vm.Alike U.vm) (h : stI z A u H) : stI z A U H := ⟨h.1.moved hvm, h.2.1.moved hvm, va_AO.moved hvm h.2.2⟩
def mkP (D : va_G) (q : Nat → ClassId) (h0 : Nat) (e0 : va_E) (sz z : Nat) (U : State) : Prop := U.heap.size = sz ∧ va_P D vwCl [(h0, e0)] U.heap ∧ gxO D (tyq q) U ∧ stI z (va_A [(h0, e0)] sz) U U.heap
def mkQ (D : va_G) (h0 : Nat) (e0 : va_E) (sz : Nat) (Pz : va_W → Prop) : Array Value → State → Outcome → State → Prop := va_Qv Pz (fun w t => va_P D vwCl w t.heap ∧ va_D (va_A [(h0, e0)] sz) w) (va_A [(h0, e0)] sz)
/-- a constructor: out of one cell it makes a world -/
def mkM (l : Launch) (D : va_G) (q : Nat → ClassId) (y : MethodName) (ws : List Cond) (rm : Room) (h0 : Nat) (e0 : va_E) (sz z mc ms : Nat) (Pz : va_W → Prop) : Prop := Met l y ws rm (va_Pc [.ref h0] (mkP D q h0 e0 sz z)) (mkQ D h0 e0 sz Pz) mc ms (va_A [(h0, e0)] sz)
section MK
variable {l : Launch} {D : va_G} {q : Nat → ClassId} {y : MethodName} {ws ws' : List Cond} {rm : Room} {h0 sz z mc ms : Nat} {e0 : va_E} {Pz : va_W → Prop} {cc : ByteArray} {maxL : Nat}
theorem mkM.of (hy : plainName y.cls = true) (hw : ws = Cond.code y cc maxL none :: ws') (hlen : (lg_sl [Value.ref h0]).length ≤ maxL) (hi : y.name = "<init>")
    (body : ∀ (p : Program) (e : Env) (s : State) (m : MethodId) (below : List Frame) (meth : Method) (c : Code) (ls : Array Slot) (A : Nat → Prop), p.tables.exec = Jvm.exec → c.code = cc → meth.sig.returnType = none → meth.locks = false → c.maxLocals = maxL → s.vm.findClass y.cls = some m.cls → (∀ w ∈ ws, w.before ([.ref h0] : List Value).toArray s = true) → meth.name = "<init>" → va_P D vwCl [(h0, e0)] s.heap → va_D A [(h0, e0)] → gxO D (tyq q) s → A = va_A [(h0, e0)] s.heap.size → (∀ q, s.heap.size ≤ q → A q) → stI z A s s.heap → lv_has ls maxL (lv_args 0 [.ref h0]) →
      W p l e rm s m ([.ref h0] : List Value).toArray below meth c s.heap [] 0 0 (MQ below (mkQ D h0 e0 s.heap.size Pz) ([.ref h0] : List Value).toArray s mc ms (va_A [(h0, e0)] s.heap.size)) (F0 m 0 ls [])) : mkM l D q y ws rm h0 e0 sz z mc ms Pz := by
  refine Met.ofW hy hw ?_
  intro p e s m args below meth c s₁ B hml hv
  obtain ⟨rfl, hsz, hP, hG, hZ⟩ := hv
  subst hsz
  rw [lg_entry_eq]
  have hin : meth.name = "<init>" := by rw [← hi]; exact (name_of_methodNamed B.named B.method).1
  have hD : va_D (va_A [(h0, e0)] s.heap.size) [(h0, e0)] := ⟨fun i j x w h1 h2 _ => by
      have := (List.getElem?_eq_some_iff.mp h1).1
      have := (List.getElem?_eq_some_iff.mp h2).1
      simp only [List.length_cons, List.length_nil] at *
      omega, fun k x hk => va_A.in hk⟩
  exact body p e s m below meth c _ _ B.exec B.bytes B.returns B.notSynchronized hml (findClass_of_methodNamed B.named) (atoms_spec (ws := ws) B.pre) hin hP hD hG rfl (fun q h => Or.inr h) hZ (lv_entry _ hlen)
end MK
section MKV
variable {p : Program} {l : Launch} {e : Env} {R : Room} {s : State} {m : MethodId} {args : Array Value} {below : List Frame} {meth : Method} {c : Code} {cc : ByteArray} {pc : Nat} {ls : Array Slot} {H : Heap} {locs : List Loc} {D : va_G} {A : Nat → Prop} {h0 mc ms : Nat} {e0 : va_E} {Pz : va_W → Prop} {w : va_W}
theorem mk_vret (hx : p.tables.exec = Jvm.exec) (hb : c.code = cc) (hr : meth.sig.returnType = none) (hk : meth.locks = false) (hA : A = va_A [(h0, e0)] s.heap.size) (hS : va_S A s.heap H locs) (hP : va_P D vwCl w H) (hD : va_D A w) (hz : Pz w) (hdg : decode cc pc = .ok (.return_, 1)) : W p l e R s m args below meth c H locs mc ms (MQ below (mkQ D h0 e0 s.heap.size Pz) args s mc ms (va_A [(h0, e0)] s.heap.size)) (F0 m pc ls []) := by
  subst hA
  exact W.vret hx hb hr (fun t ht hW => ⟨⟨w, rfl, hz, by rw [ht]; exact hP, hD⟩, hS.F ht⟩) hS.2.2 hdg hk
end MKV
theorem samI {D : va_G} {q : Nat → ClassId} {cA : ClassId} {s : State} (h : va_K D vwCl (tyq q ++ [(cA, .int)]) s) : cA = q 0 := by
  have h1 : s.vm.findClass ("[" ++ FieldType.int.toString) = some (q 0) := (h.2 0 (q 0, .int) rfl).2
  have h2 : s.vm.findClass ("[" ++ FieldType.int.toString) = some cA := (h.2 3 (cA, .int) rfl).2
  exact Option.some.inj (h2.symm.trans h1)
theorem samC {D : va_G} {q : Nat → ClassId} {cA : ClassId} {s : State} (h : va_K D vwCl (tyq q ++ [(cA, .char)]) s) : cA = q 1 := by
  have h1 : s.vm.findClass ("[" ++ FieldType.char.toString) = some (q 1) := (h.2 1 (q 1, .char) rfl).2
  have h2 : s.vm.findClass ("[" ++ FieldType.char.toString) = some cA := (h.2 3 (cA, .char) rfl).2
  exact Option.some.inj (h2.symm.trans h1)
theorem samO {D : va_G} {q : Nat → ClassId} {cA : ClassId} {s : State} (h : va_K D vwCl (tyq q ++ [(cA, .object RX4)]) s) : cA = q 2 := by
  obtain ⟨k1, c1, a1, a2, a3, a4⟩ := (h.2 2 (q 2, .object RX4) rfl).2
  obtain ⟨k2, c2, b1, b2, b3, b4⟩ := (h.2 3 (cA, .object RX4) rfl).2
  exact Option.some.inj (b4.symm.trans a4)
/-- a row that is the same as far as it goes -/
theorem row_1 {D : va_G} {q : Nat → ClassId} {ws : va_W} {H : Heap} (hP : va_P D vwCl ws H) (k : Nat) {a n : Nat} {f g : Nat → Int32} (he : ws[k]? = some (a, .inl (q 0, n, .inl f))) (hf : ∀ j, j < n → f j = g j) : va_P D vwCl (ws.set k (a, .inl (q 0, n, .inl g))) H := by
  intro i x hi
  rw [List.getElem?_set] at hi
  by_cases c : k = i
  · subst c
    rw [if_pos rfl] at hi
    by_cases c2 : k < ws.length
    · rw [if_pos c2] at hi
      cases hi
      have h0 : H[a]? = some (vp_cell (q 0) (n, .inl f)) := hP k _ he
      show H[a]? = some (vp_cell (q 0) (n, .inl g))
      have e1 : vp_cell (q 0) (n, .inl f) = vp_cell (q 0) (n, .inl g) := by
        rw [vp_cell_i, vp_cell_i]
        exact arrV_congr (fun j hj => by rw [hf j hj])
      rw [h0, e1]
    · rw [if_neg c2] at hi; cases hi
  · rw [if_neg c] at hi
    exact hP i x hi
/-- a new village -/
def vI : Nat → Nat → Int32 := fun r => match r with | 0 => fun _ => 3 | 1 => setF 0 | _ => fun _ => 0
/-! a row that is copied out of the static table -/
def muMT (l : Launch) (D : va_G) (q : Nat → ClassId) (z : Nat) (y : MethodName) (ws : List Cond) (rm : Room) (av : List Value) (world world' : va_W) : Prop := Met l y ws rm (fun a U => stP D (tyq q) av world a U ∧ va_T .int z 4 (fun j => .int (setF 0 j)) (wAt world) U U.heap) (muQ D none world world') 0 0 (wAt world)
set_option maxHeartbeats 4000000 in
set_option maxRecDepth 100000 in
theorem MX5_copyRowT (l : Launch) (D : va_G) (q : Nat → ClassId) (a b : Nat) (g : Nat → Int32) : muMT l D q a yX5_copyRow wsX5_copyRow ({ frames := 0, cells := 0, slots := 0, locals := 0 } : Room) [.ref a, .ref b] (wR q b 4 g) (wR q b 4 (setF 0)) := by
  refine Met.ofW (cc := cX5_copyRow) (maxL := 3) (ret := none) (by decide) rfl ?_
  intro p e s m args below meth c s₁ B hml hv
  obtain ⟨⟨rfl, hP, hD, hG⟩, hT⟩ := hv
  rw [lg_entry_eq]
  have hx := B.exec
  have hb := B.bytes
  have hr := B.returns
  have hk := B.notSynchronized
  have hl := lv_entry [.ref a, .ref b] (n := 3) (Nat.le_of_ble_eq_true rfl)
  generalize (lg_sl ([.ref a, .ref b]) ++ List.replicate (3 - (lg_sl ([.ref a, .ref b])).length) Slot.unset).toArray = ls at hl ⊢
  have hl : lv_has ls 3 [(0, .ref a), (1, .ref b)] := hl
  obtain ⟨A, hA⟩ : ∃ A, A = wAt (wR q b 4 g) := ⟨_, rfl⟩
  rw [← hA] at hT
  have hD : va_D A (wR q b 4 g) := ⟨hD.1, fun k q hk => by rw [hA]; exact ⟨k, q.2, hk⟩⟩
  have hS : va_S A s.heap s.heap [] := va_S.rf
  refine lv_iconst (v := 0) hx hb dX5_copyRow_0 (by decide) ?_
  refine lv_istore_n (lv' := [(2, .int 0), (0, .ref a), (1, .ref b)]) hx hb dX5_copyRow_1 rfl hl (by decide) rfl (fun ls hl => ?_)
  have key : ∀ (z k : Nat) (gk : Nat → Int32) (H : Heap) (locs : List Loc), k + z = 4 → (∀ j, j < k → gk j = setF 0 j) → va_P D vwCl (wR q b 4 gk) H → va_D A (wR q b 4 gk) → va_S A s.heap H locs → ∀ ls : Array Slot, lv_has ls 3 [(2, .int (nI k)), (0, .ref a), (1, .ref b)] → W p l e ({ frames := 0, cells := 0, slots := 0, locals := 0 } : Room) s m ([.ref a, .ref b] : List Value).toArray below meth c H locs 0 0 (MQ below (muQ D none (wR q b 4 g) (wR q b 4 (setF 0))) ([.ref a, .ref b] : List Value).toArray s 0 0 (wAt (wR q b 4 g))) (F0 m 2 ls []) := by
    intro z
    induction z with
    | zero =>
      intro k gk H locs hkz hgk hP hD hS ls hl
      refine lv_iload_n hx hb dX5_copyRow_2 rfl (lv_at hl 0 rfl) ?_
      refine lv_aload_n hx hb dX5_copyRow_3 rfl (lv_at hl 1 rfl) ?_
      refine va_tlen (v := nI 4) hx hb hT hS rfl dX5_copyRow_4 ?_
      refine lv_icmp_ge (tgt := 26) hx hb dX5_copyRow_5 (by decide) (fun c_1 => ?_) (fun c_1 => absurd (nI_le (by omega) (by omega)) c_1)
      exact mu_vret hx hb hr hk hA hS (row_1 hP 0 (q := q) rfl (g := setF 0) (fun j hj => hgk j (by omega))) dX5_copyRow_26
    | succ z ih =>
      intro k gk H locs hkz hgk hP hD hS ls hl
      have hkn : ¬ nI 4 ≤ nI k := by rw [i_le, nI_toInt (by omega), nI_toInt (by omega)]; omega
      have hin : vp_in (nI k) 4 := vp_in_nI (by omega) (by omega)
      refine lv_iload_n hx hb dX5_copyRow_2 rfl (lv_at hl 0 rfl) ?_
      refine lv_aload_n hx hb dX5_copyRow_3 rfl (lv_at hl 1 rfl) ?_
      refine va_tlen (v := nI 4) hx hb hT hS rfl dX5_copyRow_4 ?_
      refine lv_icmp_ge (tgt := 26) hx hb dX5_copyRow_5 (by decide) (fun c_1 => absurd c_1 hkn) (fun c_1 => ?_)
      refine lv_iload_n hx hb dX5_copyRow_8 rfl (lv_at hl 0 rfl) ?_
      refine lv_aload_n hx hb dX5_copyRow_9 rfl (lv_at hl 2 rfl) ?_
      refine va_alen (v := nI 4) hx hb hG.1 hP 0 0 rfl rfl rfl dX5_copyRow_10 ?_
      refine lv_icmp_ge (tgt := 26) hx hb dX5_copyRow_11 (by decide) (fun c_1 => absurd c_1 hkn) (fun c_1 => ?_)
      refine lv_aload_n hx hb dX5_copyRow_14 rfl (lv_at hl 2 rfl) ?_
      refine lv_iload_n hx hb dX5_copyRow_15 rfl (lv_at hl 0 rfl) ?_
      refine lv_aload_n hx hb dX5_copyRow_16 rfl (lv_at hl 1 rfl) ?_
      refine lv_iload_n hx hb dX5_copyRow_17 rfl (lv_at hl 0 rfl) ?_
      refine va_ti (v := .int (setF 0 (nI k).toNatClampNeg)) hx hb hT hS hin rfl dX5_copyRow_18 ?_
      refine va_iast hx hb hG.1 hP hD hS 0 0 rfl rfl hin dX5_copyRow_19 (fun H locs hP hD hS => ?_)
      refine lv_iinc (v := nI (k + 1)) (lv' := [(2, .int (nI (k + 1))), (0, .ref a), (1, .ref b)]) hx hb dX5_copyRow_20 hl (k := 0) rfl (nI_1 k) (by decide) rfl (fun ls hl => ?_)
      refine lv_goto (tgt := 2) hx hb dX5_copyRow_23 (by decide) ?_
      refine ih (k + 1) (upd gk (nI k).toNatClampNeg (setF 0 (nI k).toNatClampNeg)) _ _ (by omega) (fun j hj => ?_) hP hD hS ls hl
      rw [nI_clamp (by omega)]
      by_cases hjk : j = k
      · subst hjk; exact pk_us
      · rw [pk_un hjk]; exact hgk j (by omega)
  exact key 4 0 g _ _ (by omega) (fun j hj => absurd hj (Nat.not_lt_zero _)) hP hD hS ls hl
section SNT
variable {p : Program} {l : Launch} {e : Env} {R : Room} {s : State} {m : MethodId} {args : Array Value} {below : List Frame} {meth : Method} {c : Code} {H : Heap} {locs : List Loc} {cells slots : Nat} {Q : State → Prop}
variable {pc : Nat} {ls : Array Slot} {rest st0 : List Value} {A0 : Nat → Prop} {D : va_G} {q : Nat → ClassId} {ws ws' : va_W} {z b nT : Nat} {f g : Nat → Int32}
variable {y : MethodName} {Ts wsc wsc' : List Cond} {rmc : Room} {cc bytes : ByteArray} {maxL nL n index : Nat} {ret : Option FieldType} {own host : String} {lv : List (Nat × Value)}
theorem stI_T (hZ : stI z A0 s s.heap) (hS : va_S A0 s.heap H locs) (hD : va_D A0 ws) (k : Nat) {e0 : va_E} (he : ws[k]? = some (b, e0)) : va_T .int z 4 (fun j => .int (setF 0 j)) (wAt [(b, e0)]) s H := by
  refine (hZ.2.1.kept hS.2.1).narrow (fun q hq => ?_)
  obtain ⟨k2, e2, h⟩ := hq
  have hz : k2 < 1 := (List.getElem?_eq_some_iff.mp h).1
  rw [show k2 = 0 by omega] at h
  cases h
  exact hD.2 k _ he
theorem mu_SNT (hx : p.tables.exec = Jvm.exec) (hb : c.code = cc) (hml : c.maxLocals = nL) (hown : s.vm.findClass own = some m.cls) (hts : ∀ w ∈ Ts, w.before args s = true) (hl : lv_has ls nL lv)
    (hM : muMT l D q z y wsc rmc [.ref z, .ref b] (wR q b nT f) (wR q b nT g)) (hT : GoodIn Ts wsc) (hw : wsc = Cond.code y bytes maxL ret :: wsc') (hd : y.cls ≠ "java/lang/invoke/MethodHandle" ∧ y.cls ≠ "java/lang/invoke/VarHandle" ∧ (parseMethodDescriptor y.desc).map (fun d => d.parameters.length) = some n) (hR : rmc.frames + 1 ≤ R.frames ∧ 8 + (maxL + 11) + rmc.locals ≤ R.locals) (hrc : rmc.cells = 0) (hrs : rmc.slots = 0)
    (hnw : va_Nw (.methodLinkNest own index y host) s) (hini : Cond.initialized y.cls ∈ Ts) (hsta : Cond.static y ∈ Ts) (hZT : va_T .int z 4 (fun j => .int (setF 0 j)) (wAt (wR q b nT f)) s H)
    (hP : va_P D vwCl ws H) (hD : va_D A0 ws) (hS : va_S A0 s.heap H locs) (hG : gxO D (tyq q) s) (isC : List Nat) (hPs : isC.filterMap (fun i => ws[i]?) = wR q b nT f) (hC : isC.map (fun i => ws[i]?) = (wR q b nT f).map some) (hnd : va_nd isC = true) (js : List Nat) (hj : js.map (fun j => (ws ++ wR q b nT g)[j]?) = ws'.map some) (hjs : js.all (fun j => decide (j ∉ isC)) = true) (had : ws'.map Prod.fst = ws.map Prod.fst)
    (hn : 2 = n) (hst : st0 = [Value.ref b, .ref z] ++ rest) (hroom : (rest.map fun v => v.category).sum ≤ 8) (hdg : decode cc pc = .ok (.invokestatic index, 3)) (hf : cells ≤ R.cells ∧ slots ≤ R.slots)
    (kk : ∀ (H1 : Heap) (locs1 : List Loc), va_P D vwCl ws' H1 → va_D A0 ws' → va_S A0 s.heap H1 locs1 → W p l e R s m args below meth c H1 locs1 cells slots Q (F0 m (pc + 3) ls rest)) : W p l e R s m args below meth c H locs cells slots Q (F0 m pc ls st0) := by
  have hPc : va_P D vwCl (wR q b nT f) H := hP.sub isC hPs
  have hDc : va_D A0 (wR q b nT f) := hD.sub isC hnd hC
  exact mu_run (o := none) (va_runSN (As := [.ref z, .ref b]) (rest := rest) ⟨hx, hb, hml, hown, hts⟩ hM ⟨va_cnB n hts hT hw hrc hrs hnw (hts _ hini) hd hR, hts _ hsta, trivial⟩ ⟨fun a U g mk q => ⟨stP.blind a U g mk q.1, va_T.moved (u := U) (U := U.calling g mk a) (Vm.Alike.refl U.vm) q.2⟩, fun U hU hW => ⟨st_pre hPc (dT hDc) hG U hU hW, by show va_T _ _ _ _ _ U U.heap; rw [hU]; exact hZT.moved hW.alike⟩⟩ rfl hn hl.1 hst (lv_room hroom) hdg hf) hP hD hS isC hC js hj hjs had kk
end SNT
set_option maxHeartbeats 4000000 in
set_option maxRecDepth 100000 in
theorem MX4_init (l : Launch) (D : va_G) (q : Nat → ClassId) (h0 sz z : Nat) : mkM l D q yX4_init wsX4_init ({ frames := 1, cells := 9, slots := 146, locals := 22 } : Room) h0 (.inr (2, [.null, .null, .null, .int 0, .null, .null, .null, .int 0, .null, .null, .null])) sz z 9 146 (fun w => ∃ h : Nat → Nat, h 0 = h0 ∧ w = wV q h vI) := by
  refine mkM.of (cc := cX4_init) (maxL := 2) (by decide) rfl (Nat.le_of_ble_eq_true rfl) rfl ?_
  intro p e s m below meth c ls A hx hb hr hk hml hown hts hin hP hD hG hAe hA hZ hl
  have hS : va_S A s.heap s.heap [] := va_S.rf
  have hl : lv_has ls 2 [(0, .ref h0)] := hl
  refine lv_aload_n hx hb dX4_init_0 rfl (lv_at hl 0 rfl) ?_
  refine W.objInit hx hb hown (hts (.methodLink RX4 3 objectInit) (List.mem_of_getElem? (i := 1) rfl)) (hts (.instanceMethod objectInit) (List.mem_of_getElem? (i := 2) rfl)) (hts (.code objectInit ⟨#[0xb1]⟩ 1 none) (List.mem_of_getElem? (i := 3) rfl)) rfl (by rw [hml]; exact hl.1) rfl dX4_init_1 (Nat.le_of_ble_eq_true rfl) (Nat.le_of_ble_eq_true rfl) ?_
  refine W.eq (g2 := F0 m 4 ls []) rfl ?_
  refine lv_aload_n hx hb dX4_init_4 rfl (lv_at hl 0 rfl) ?_
  refine lv_bipush (v := 24) hx hb dX4_init_5 (by decide) ?_
  refine va_newa (atype := .int) (ty := .int) (a0 := (24, .inl (fun _ => 0))) hx hb (hts (.arrayClass .int) (List.mem_of_getElem? (i := 4) rfl)) rfl hG.1 hP hD hS hA (fun cA => rfl) (by decide) rfl (Nat.le_of_ble_eq_true rfl) (Nat.le_of_ble_eq_true rfl) (Nat.le_of_ble_eq_true rfl) dX4_init_7 (fun q1 cA H hK hP hD hS => ?_)
  obtain rfl : cA = q 0 := samI hK
  have hP : va_P D vwCl [(h0, .inr (2, [.null, .null, .null, .int 0, .null, .null, .null, .int 0, .null, .null, .null])), (q1, .inl (q 0, 24, .inl (fun _ => 0)))] H := hP
  have hD : va_D A [(h0, .inr (2, [.null, .null, .null, .int 0, .null, .null, .null, .int 0, .null, .null, .null])), (q1, .inl (q 0, 24, .inl (fun _ => 0)))] := hD
  refine va_putF (D := D) (ci := 2) (v := .ref q1) (ty := .array .int) (C := RX4) (T := TX4) (N := 11) hx hb hts (fun w h => List.mem_cons_of_mem _ (List.mem_append_right _ h)) tyX4 tyX4_ok nmX4 hown hG.1 hP hD hS 0 rfl rfl 0 (by decide) (hts (.fieldLink RX4 9 "MillComplaints$Village" "winds" "[I") (List.mem_of_getElem? (i := 5) rfl)) (fun _ h9 => h9) rfl hin rfl (by decide +kernel) rfl rfl (Nat.le_of_ble_eq_true rfl) dX4_init_9 (fun H locs hP hD hS => ?_)
  have hP : va_P D vwCl [(h0, .inr (2, [.ref q1, .null, .null, .int 0, .null, .null, .null, .int 0, .null, .null, .null])), (q1, .inl (q 0, 24, .inl (fun _ => 0)))] H := hP
  have hD : va_D A [(h0, .inr (2, [.ref q1, .null, .null, .int 0, .null, .null, .null, .int 0, .null, .null, .null])), (q1, .inl (q 0, 24, .inl (fun _ => 0)))] := hD
  refine lv_aload_n hx hb dX4_init_12 rfl (lv_at hl 0 rfl) ?_
  refine va_getsN hx hb hZ.1 hS hown (nwf_0 hG) (fun _ h9 => h9) dX4_init_13 ?_
  refine va_tlen (v := nI 4) hx hb hZ.2.1 hS rfl dX4_init_16 ?_
  refine va_newa (atype := .int) (ty := .int) (a0 := (4, .inl (fun _ => 0))) hx hb (hts (.arrayClass .int) (List.mem_of_getElem? (i := 4) rfl)) rfl hG.1 hP hD hS hA (fun cA => rfl) (by decide) rfl (Nat.le_of_ble_eq_true rfl) (Nat.le_of_ble_eq_true rfl) (Nat.le_of_ble_eq_true rfl) dX4_init_17 (fun q2 cA H hK hP hD hS => ?_)
  obtain rfl : cA = q 0 := samI hK
  have hP : va_P D vwCl [(h0, .inr (2, [.ref q1, .null, .null, .int 0, .null, .null, .null, .int 0, .null, .null, .null])), (q1, .inl (q 0, 24, .inl (fun _ => 0))), (q2, .inl (q 0, 4, .inl (fun _ => 0)))] H := hP
  have hD : va_D A [(h0, .inr (2, [.ref q1, .null, .null, .int 0, .null, .null, .null, .int 0, .null, .null, .null])), (q1, .inl (q 0, 24, .inl (fun _ => 0))), (q2, .inl (q 0, 4, .inl (fun _ => 0)))] := hD
  refine va_putF (D := D) (ci := 2) (v := .ref q2) (ty := .array .int) (C := RX4) (T := TX4) (N := 11) hx hb hts (fun w h => List.mem_cons_of_mem _ (List.mem_append_right _ h)) tyX4 tyX4_ok nmX4 hown hG.1 hP hD hS 0 rfl rfl 1 (by decide) (hts (.fieldLink RX4 18 "MillComplaints$Village" "settings" "[I") (List.mem_of_getElem? (i := 6) rfl)) (fun _ h9 => h9) rfl hin rfl (by decide +kernel) rfl rfl (Nat.le_of_ble_eq_true rfl) dX4_init_19 (fun H locs hP hD hS => ?_)
  have hP : va_P D vwCl [(h0, .inr (2, [.ref q1, .ref q2, .null, .int 0, .null, .null, .null, .int 0, .null, .null, .null])), (q1, .inl (q 0, 24, .inl (fun _ => 0))), (q2, .inl (q 0, 4, .inl (fun _ => 0)))] H := hP
  have hD : va_D A [(h0, .inr (2, [.ref q1, .ref q2, .null, .int 0, .null, .null, .null, .int 0, .null, .null, .null])), (q1, .inl (q 0, 24, .inl (fun _ => 0))), (q2, .inl (q 0, 4, .inl (fun _ => 0)))] := hD
  refine lv_aload_n hx hb dX4_init_22 rfl (lv_at hl 0 rfl) ?_
  refine lv_bipush (v := 6) hx hb dX4_init_23 (by decide) ?_
  refine va_newa (atype := .int) (ty := .int) (a0 := (6, .inl (fun _ => 0))) hx hb (hts (.arrayClass .int) (List.mem_of_getElem? (i := 4) rfl)) rfl hG.1 hP hD hS hA (fun cA => rfl) (by decide) rfl (Nat.le_of_ble_eq_true rfl) (Nat.le_of_ble_eq_true rfl) (Nat.le_of_ble_eq_true rfl) dX4_init_25 (fun q3 cA H hK hP hD hS => ?_)
  obtain rfl : cA = q 0 := samI hK
  have hP : va_P D vwCl [(h0, .inr (2, [.ref q1, .ref q2, .null, .int 0, .null, .null, .null, .int 0, .null, .null, .null])), (q1, .inl (q 0, 24, .inl (fun _ => 0))), (q2, .inl (q 0, 4, .inl (fun _ => 0))), (q3, .inl (q 0, 6, .inl (fun _ => 0)))] H := hP
  have hD : va_D A [(h0, .inr (2, [.ref q1, .ref q2, .null, .int 0, .null, .null, .null, .int 0, .null, .null, .null])), (q1, .inl (q 0, 24, .inl (fun _ => 0))), (q2, .inl (q 0, 4, .inl (fun _ => 0))), (q3, .inl (q 0, 6, .inl (fun _ => 0)))] := hD
  refine va_putF (D := D) (ci := 2) (v := .ref q3) (ty := .array .int) (C := RX4) (T := TX4) (N := 11) hx hb hts (fun w h => List.mem_cons_of_mem _ (List.mem_append_right _ h)) tyX4 tyX4_ok nmX4 hown hG.1 hP hD hS 0 rfl rfl 2 (by decide) (hts (.fieldLink RX4 21 "MillComplaints$Village" "tallies" "[I") (List.mem_of_getElem? (i := 7) rfl)) (fun _ h9 => h9) rfl hin rfl (by decide +kernel) rfl rfl (Nat.le_of_ble_eq_true rfl) dX4_init_27 (fun H locs hP hD hS => ?_)
  have hP : va_P D vwCl [(h0, .inr (2, [.ref q1, .ref q2, .ref q3, .int 0, .null, .null, .null, .int 0, .null, .null, .null])), (q1, .inl (q 0, 24, .inl (fun _ => 0))), (q2, .inl (q 0, 4, .inl (fun _ => 0))), (q3, .inl (q 0, 6, .inl (fun _ => 0)))] H := hP
  have hD : va_D A [(h0, .inr (2, [.ref q1, .ref q2, .ref q3, .int 0, .null, .null, .null, .int 0, .null, .null, .null])), (q1, .inl (q 0, 24, .inl (fun _ => 0))), (q2, .inl (q 0, 4, .inl (fun _ => 0))), (q3, .inl (q 0, 6, .inl (fun _ => 0)))] := hD
  refine lv_aload_n hx hb dX4_init_30 rfl (lv_at hl 0 rfl) ?_
  refine lv_iconst (v := 0) hx hb dX4_init_31 (by decide) ?_
  refine va_put (D := D) (ci := 2) (v := .int 0) (ty := .int) (C := RX4) (T := TX4) (N := 11) hx hb hts (fun w h => List.mem_cons_of_mem _ (List.mem_append_right _ h)) tyX4 tyX4_ok nmX4 hown hG.1 hP hD hS 0 rfl rfl 3 (by decide) (hts (.fieldLink RX4 24 "MillComplaints$Village" "mills" "I") (List.mem_of_getElem? (i := 8) rfl)) (fun _ h9 => h9) rfl (by decide +kernel) rfl rfl (Nat.le_of_ble_eq_true rfl) dX4_init_32 (fun H locs hP hD hS => ?_)
  have hP : va_P D vwCl [(h0, .inr (2, [.ref q1, .ref q2, .ref q3, .int 0, .null, .null, .null, .int 0, .null, .null, .null])), (q1, .inl (q 0, 24, .inl (fun _ => 0))), (q2, .inl (q 0, 4, .inl (fun _ => 0))), (q3, .inl (q 0, 6, .inl (fun _ => 0)))] H := hP
  have hD : va_D A [(h0, .inr (2, [.ref q1, .ref q2, .ref q3, .int 0, .null, .null, .null, .int 0, .null, .null, .null])), (q1, .inl (q 0, 24, .inl (fun _ => 0))), (q2, .inl (q 0, 4, .inl (fun _ => 0))), (q3, .inl (q 0, 6, .inl (fun _ => 0)))] := hD
  refine lv_aload_n hx hb dX4_init_35 rfl (lv_at hl 0 rfl) ?_
  refine lv_iconst (v := 4) hx hb dX4_init_36 (by decide) ?_
  refine va_newa (atype := .int) (ty := .int) (a0 := (4, .inl (fun _ => 0))) hx hb (hts (.arrayClass .int) (List.mem_of_getElem? (i := 4) rfl)) rfl hG.1 hP hD hS hA (fun cA => rfl) (by decide) rfl (Nat.le_of_ble_eq_true rfl) (Nat.le_of_ble_eq_true rfl) (Nat.le_of_ble_eq_true rfl) dX4_init_37 (fun q4 cA H hK hP hD hS => ?_)
  obtain rfl : cA = q 0 := samI hK
  have hP : va_P D vwCl [(h0, .inr (2, [.ref q1, .ref q2, .ref q3, .int 0, .null, .null, .null, .int 0, .null, .null, .null])), (q1, .inl (q 0, 24, .inl (fun _ => 0))), (q2, .inl (q 0, 4, .inl (fun _ => 0))), (q3, .inl (q 0, 6, .inl (fun _ => 0))), (q4, .inl (q 0, 4, .inl (fun _ => 0)))] H := hP
  have hD : va_D A [(h0, .inr (2, [.ref q1, .ref q2, .ref q3, .int 0, .null, .null, .null, .int 0, .null, .null, .null])), (q1, .inl (q 0, 24, .inl (fun _ => 0))), (q2, .inl (q 0, 4, .inl (fun _ => 0))), (q3, .inl (q 0, 6, .inl (fun _ => 0))), (q4, .inl (q 0, 4, .inl (fun _ => 0)))] := hD
  refine va_putF (D := D) (ci := 2) (v := .ref q4) (ty := .array .int) (C := RX4) (T := TX4) (N := 11) hx hb hts (fun w h => List.mem_cons_of_mem _ (List.mem_append_right _ h)) tyX4 tyX4_ok nmX4 hown hG.1 hP hD hS 0 rfl rfl 4 (by decide) (hts (.fieldLink RX4 28 "MillComplaints$Village" "heights" "[I") (List.mem_of_getElem? (i := 9) rfl)) (fun _ h9 => h9) rfl hin rfl (by decide +kernel) rfl rfl (Nat.le_of_ble_eq_true rfl) dX4_init_39 (fun H locs hP hD hS => ?_)
  have hP : va_P D vwCl [(h0, .inr (2, [.ref q1, .ref q2, .ref q3, .int 0, .ref q4, .null, .null, .int 0, .null, .null, .null])), (q1, .inl (q 0, 24, .inl (fun _ => 0))), (q2, .inl (q 0, 4, .inl (fun _ => 0))), (q3, .inl (q 0, 6, .inl (fun _ => 0))), (q4, .inl (q 0, 4, .inl (fun _ => 0)))] H := hP
  have hD : va_D A [(h0, .inr (2, [.ref q1, .ref q2, .ref q3, .int 0, .ref q4, .null, .null, .int 0, .null, .null, .null])), (q1, .inl (q 0, 24, .inl (fun _ => 0))), (q2, .inl (q 0, 4, .inl (fun _ => 0))), (q3, .inl (q 0, 6, .inl (fun _ => 0))), (q4, .inl (q 0, 4, .inl (fun _ => 0)))] := hD
  refine lv_aload_n hx hb dX4_init_42 rfl (lv_at hl 0 rfl) ?_
  refine lv_iconst (v := 4) hx hb dX4_init_43 (by decide) ?_
  refine va_newa (atype := .int) (ty := .int) (a0 := (4, .inl (fun _ => 0))) hx hb (hts (.arrayClass .int) (List.mem_of_getElem? (i := 4) rfl)) rfl hG.1 hP hD hS hA (fun cA => rfl) (by decide) rfl (Nat.le_of_ble_eq_true rfl) (Nat.le_of_ble_eq_true rfl) (Nat.le_of_ble_eq_true rfl) dX4_init_44 (fun q5 cA H hK hP hD hS => ?_)
  obtain rfl : cA = q 0 := samI hK
  have hP : va_P D vwCl [(h0, .inr (2, [.ref q1, .ref q2, .ref q3, .int 0, .ref q4, .null, .null, .int 0, .null, .null, .null])), (q1, .inl (q 0, 24, .inl (fun _ => 0))), (q2, .inl (q 0, 4, .inl (fun _ => 0))), (q3, .inl (q 0, 6, .inl (fun _ => 0))), (q4, .inl (q 0, 4, .inl (fun _ => 0))), (q5, .inl (q 0, 4, .inl (fun _ => 0)))] H := hP
  have hD : va_D A [(h0, .inr (2, [.ref q1, .ref q2, .ref q3, .int 0, .ref q4, .null, .null, .int 0, .null, .null, .null])), (q1, .inl (q 0, 24, .inl (fun _ => 0))), (q2, .inl (q 0, 4, .inl (fun _ => 0))), (q3, .inl (q 0, 6, .inl (fun _ => 0))), (q4, .inl (q 0, 4, .inl (fun _ => 0))), (q5, .inl (q 0, 4, .inl (fun _ => 0)))] := hD
  refine va_putF (D := D) (ci := 2) (v := .ref q5) (ty := .array .int) (C := RX4) (T := TX4) (N := 11) hx hb hts (fun w h => List.mem_cons_of_mem _ (List.mem_append_right _ h)) tyX4 tyX4_ok nmX4 hown hG.1 hP hD hS 0 rfl rfl 5 (by decide) (hts (.fieldLink RX4 31 "MillComplaints$Village" "millYards" "[I") (List.mem_of_getElem? (i := 10) rfl)) (fun _ h9 => h9) rfl hin rfl (by decide +kernel) rfl rfl (Nat.le_of_ble_eq_true rfl) dX4_init_46 (fun H locs hP hD hS => ?_)
  have hP : va_P D vwCl [(h0, .inr (2, [.ref q1, .ref q2, .ref q3, .int 0, .ref q4, .ref q5, .null, .int 0, .null, .null, .null])), (q1, .inl (q 0, 24, .inl (fun _ => 0))), (q2, .inl (q 0, 4, .inl (fun _ => 0))), (q3, .inl (q 0, 6, .inl (fun _ => 0))), (q4, .inl (q 0, 4, .inl (fun _ => 0))), (q5, .inl (q 0, 4, .inl (fun _ => 0)))] H := hP
  have hD : va_D A [(h0, .inr (2, [.ref q1, .ref q2, .ref q3, .int 0, .ref q4, .ref q5, .null, .int 0, .null, .null, .null])), (q1, .inl (q 0, 24, .inl (fun _ => 0))), (q2, .inl (q 0, 4, .inl (fun _ => 0))), (q3, .inl (q 0, 6, .inl (fun _ => 0))), (q4, .inl (q 0, 4, .inl (fun _ => 0))), (q5, .inl (q 0, 4, .inl (fun _ => 0)))] := hD
  refine lv_aload_n hx hb dX4_init_49 rfl (lv_at hl 0 rfl) ?_
  refine lv_iconst (v := 4) hx hb dX4_init_50 (by decide) ?_
  refine va_newa (atype := .int) (ty := .int) (a0 := (4, .inl (fun _ => 0))) hx hb (hts (.arrayClass .int) (List.mem_of_getElem? (i := 4) rfl)) rfl hG.1 hP hD hS hA (fun cA => rfl) (by decide) rfl (Nat.le_of_ble_eq_true rfl) (Nat.le_of_ble_eq_true rfl) (Nat.le_of_ble_eq_true rfl) dX4_init_51 (fun q6 cA H hK hP hD hS => ?_)
  obtain rfl : cA = q 0 := samI hK
  have hP : va_P D vwCl [(h0, .inr (2, [.ref q1, .ref q2, .ref q3, .int 0, .ref q4, .ref q5, .null, .int 0, .null, .null, .null])), (q1, .inl (q 0, 24, .inl (fun _ => 0))), (q2, .inl (q 0, 4, .inl (fun _ => 0))), (q3, .inl (q 0, 6, .inl (fun _ => 0))), (q4, .inl (q 0, 4, .inl (fun _ => 0))), (q5, .inl (q 0, 4, .inl (fun _ => 0))), (q6, .inl (q 0, 4, .inl (fun _ => 0)))] H := hP
  have hD : va_D A [(h0, .inr (2, [.ref q1, .ref q2, .ref q3, .int 0, .ref q4, .ref q5, .null, .int 0, .null, .null, .null])), (q1, .inl (q 0, 24, .inl (fun _ => 0))), (q2, .inl (q 0, 4, .inl (fun _ => 0))), (q3, .inl (q 0, 6, .inl (fun _ => 0))), (q4, .inl (q 0, 4, .inl (fun _ => 0))), (q5, .inl (q 0, 4, .inl (fun _ => 0))), (q6, .inl (q 0, 4, .inl (fun _ => 0)))] := hD
  refine va_putF (D := D) (ci := 2) (v := .ref q6) (ty := .array .int) (C := RX4) (T := TX4) (N := 11) hx hb hts (fun w h => List.mem_cons_of_mem _ (List.mem_append_right _ h)) tyX4 tyX4_ok nmX4 hown hG.1 hP hD hS 0 rfl rfl 6 (by decide) (hts (.fieldLink RX4 34 "MillComplaints$Village" "tied" "[I") (List.mem_of_getElem? (i := 11) rfl)) (fun _ h9 => h9) rfl hin rfl (by decide +kernel) rfl rfl (Nat.le_of_ble_eq_true rfl) dX4_init_53 (fun H locs hP hD hS => ?_)
  have hP : va_P D vwCl [(h0, .inr (2, [.ref q1, .ref q2, .ref q3, .int 0, .ref q4, .ref q5, .ref q6, .int 0, .null, .null, .null])), (q1, .inl (q 0, 24, .inl (fun _ => 0))), (q2, .inl (q 0, 4, .inl (fun _ => 0))), (q3, .inl (q 0, 6, .inl (fun _ => 0))), (q4, .inl (q 0, 4, .inl (fun _ => 0))), (q5, .inl (q 0, 4, .inl (fun _ => 0))), (q6, .inl (q 0, 4, .inl (fun _ => 0)))] H := hP
  have hD : va_D A [(h0, .inr (2, [.ref q1, .ref q2, .ref q3, .int 0, .ref q4, .ref q5, .ref q6, .int 0, .null, .null, .null])), (q1, .inl (q 0, 24, .inl (fun _ => 0))), (q2, .inl (q 0, 4, .inl (fun _ => 0))), (q3, .inl (q 0, 6, .inl (fun _ => 0))), (q4, .inl (q 0, 4, .inl (fun _ => 0))), (q5, .inl (q 0, 4, .inl (fun _ => 0))), (q6, .inl (q 0, 4, .inl (fun _ => 0)))] := hD
  refine lv_aload_n hx hb dX4_init_56 rfl (lv_at hl 0 rfl) ?_
  refine lv_iconst (v := 0) hx hb dX4_init_57 (by decide) ?_
  refine va_put (D := D) (ci := 2) (v := .int 0) (ty := .int) (C := RX4) (T := TX4) (N := 11) hx hb hts (fun w h => List.mem_cons_of_mem _ (List.mem_append_right _ h)) tyX4 tyX4_ok nmX4 hown hG.1 hP hD hS 0 rfl rfl 7 (by decide) (hts (.fieldLink RX4 37 "MillComplaints$Village" "houses" "I") (List.mem_of_getElem? (i := 12) rfl)) (fun _ h9 => h9) rfl (by decide +kernel) rfl rfl (Nat.le_of_ble_eq_true rfl) dX4_init_58 (fun H locs hP hD hS => ?_)
  have hP : va_P D vwCl [(h0, .inr (2, [.ref q1, .ref q2, .ref q3, .int 0, .ref q4, .ref q5, .ref q6, .int 0, .null, .null, .null])), (q1, .inl (q 0, 24, .inl (fun _ => 0))), (q2, .inl (q 0, 4, .inl (fun _ => 0))), (q3, .inl (q 0, 6, .inl (fun _ => 0))), (q4, .inl (q 0, 4, .inl (fun _ => 0))), (q5, .inl (q 0, 4, .inl (fun _ => 0))), (q6, .inl (q 0, 4, .inl (fun _ => 0)))] H := hP
  have hD : va_D A [(h0, .inr (2, [.ref q1, .ref q2, .ref q3, .int 0, .ref q4, .ref q5, .ref q6, .int 0, .null, .null, .null])), (q1, .inl (q 0, 24, .inl (fun _ => 0))), (q2, .inl (q 0, 4, .inl (fun _ => 0))), (q3, .inl (q 0, 6, .inl (fun _ => 0))), (q4, .inl (q 0, 4, .inl (fun _ => 0))), (q5, .inl (q 0, 4, .inl (fun _ => 0))), (q6, .inl (q 0, 4, .inl (fun _ => 0)))] := hD
  refine lv_aload_n hx hb dX4_init_61 rfl (lv_at hl 0 rfl) ?_
  refine lv_bipush (v := 10) hx hb dX4_init_62 (by decide) ?_
  refine va_newa (atype := .int) (ty := .int) (a0 := (10, .inl (fun _ => 0))) hx hb (hts (.arrayClass .int) (List.mem_of_getElem? (i := 4) rfl)) rfl hG.1 hP hD hS hA (fun cA => rfl) (by decide) rfl (Nat.le_of_ble_eq_true rfl) (Nat.le_of_ble_eq_true rfl) (Nat.le_of_ble_eq_true rfl) dX4_init_64 (fun q7 cA H hK hP hD hS => ?_)
  obtain rfl : cA = q 0 := samI hK
  have hP : va_P D vwCl [(h0, .inr (2, [.ref q1, .ref q2, .ref q3, .int 0, .ref q4, .ref q5, .ref q6, .int 0, .null, .null, .null])), (q1, .inl (q 0, 24, .inl (fun _ => 0))), (q2, .inl (q 0, 4, .inl (fun _ => 0))), (q3, .inl (q 0, 6, .inl (fun _ => 0))), (q4, .inl (q 0, 4, .inl (fun _ => 0))), (q5, .inl (q 0, 4, .inl (fun _ => 0))), (q6, .inl (q 0, 4, .inl (fun _ => 0))), (q7, .inl (q 0, 10, .inl (fun _ => 0)))] H := hP
  have hD : va_D A [(h0, .inr (2, [.ref q1, .ref q2, .ref q3, .int 0, .ref q4, .ref q5, .ref q6, .int 0, .null, .null, .null])), (q1, .inl (q 0, 24, .inl (fun _ => 0))), (q2, .inl (q 0, 4, .inl (fun _ => 0))), (q3, .inl (q 0, 6, .inl (fun _ => 0))), (q4, .inl (q 0, 4, .inl (fun _ => 0))), (q5, .inl (q 0, 4, .inl (fun _ => 0))), (q6, .inl (q 0, 4, .inl (fun _ => 0))), (q7, .inl (q 0, 10, .inl (fun _ => 0)))] := hD
  refine va_putF (D := D) (ci := 2) (v := .ref q7) (ty := .array .int) (C := RX4) (T := TX4) (N := 11) hx hb hts (fun w h => List.mem_cons_of_mem _ (List.mem_append_right _ h)) tyX4 tyX4_ok nmX4 hown hG.1 hP hD hS 0 rfl rfl 8 (by decide) (hts (.fieldLink RX4 40 "MillComplaints$Village" "houseYards" "[I") (List.mem_of_getElem? (i := 13) rfl)) (fun _ h9 => h9) rfl hin rfl (by decide +kernel) rfl rfl (Nat.le_of_ble_eq_true rfl) dX4_init_66 (fun H locs hP hD hS => ?_)
  have hP : va_P D vwCl [(h0, .inr (2, [.ref q1, .ref q2, .ref q3, .int 0, .ref q4, .ref q5, .ref q6, .int 0, .ref q7, .null, .null])), (q1, .inl (q 0, 24, .inl (fun _ => 0))), (q2, .inl (q 0, 4, .inl (fun _ => 0))), (q3, .inl (q 0, 6, .inl (fun _ => 0))), (q4, .inl (q 0, 4, .inl (fun _ => 0))), (q5, .inl (q 0, 4, .inl (fun _ => 0))), (q6, .inl (q 0, 4, .inl (fun _ => 0))), (q7, .inl (q 0, 10, .inl (fun _ => 0)))] H := hP
  have hD : va_D A [(h0, .inr (2, [.ref q1, .ref q2, .ref q3, .int 0, .ref q4, .ref q5, .ref q6, .int 0, .ref q7, .null, .null])), (q1, .inl (q 0, 24, .inl (fun _ => 0))), (q2, .inl (q 0, 4, .inl (fun _ => 0))), (q3, .inl (q 0, 6, .inl (fun _ => 0))), (q4, .inl (q 0, 4, .inl (fun _ => 0))), (q5, .inl (q 0, 4, .inl (fun _ => 0))), (q6, .inl (q 0, 4, .inl (fun _ => 0))), (q7, .inl (q 0, 10, .inl (fun _ => 0)))] := hD
  refine lv_aload_n hx hb dX4_init_69 rfl (lv_at hl 0 rfl) ?_
  refine lv_bipush (v := 10) hx hb dX4_init_70 (by decide) ?_
  refine va_newa (atype := .int) (ty := .int) (a0 := (10, .inl (fun _ => 0))) hx hb (hts (.arrayClass .int) (List.mem_of_getElem? (i := 4) rfl)) rfl hG.1 hP hD hS hA (fun cA => rfl) (by decide) rfl (Nat.le_of_ble_eq_true rfl) (Nat.le_of_ble_eq_true rfl) (Nat.le_of_ble_eq_true rfl) dX4_init_72 (fun q8 cA H hK hP hD hS => ?_)
  obtain rfl : cA = q 0 := samI hK
  have hP : va_P D vwCl [(h0, .inr (2, [.ref q1, .ref q2, .ref q3, .int 0, .ref q4, .ref q5, .ref q6, .int 0, .ref q7, .null, .null])), (q1, .inl (q 0, 24, .inl (fun _ => 0))), (q2, .inl (q 0, 4, .inl (fun _ => 0))), (q3, .inl (q 0, 6, .inl (fun _ => 0))), (q4, .inl (q 0, 4, .inl (fun _ => 0))), (q5, .inl (q 0, 4, .inl (fun _ => 0))), (q6, .inl (q 0, 4, .inl (fun _ => 0))), (q7, .inl (q 0, 10, .inl (fun _ => 0))), (q8, .inl (q 0, 10, .inl (fun _ => 0)))] H := hP
  have hD : va_D A [(h0, .inr (2, [.ref q1, .ref q2, .ref q3, .int 0, .ref q4, .ref q5, .ref q6, .int 0, .ref q7, .null, .null])), (q1, .inl (q 0, 24, .inl (fun _ => 0))), (q2, .inl (q 0, 4, .inl (fun _ => 0))), (q3, .inl (q 0, 6, .inl (fun _ => 0))), (q4, .inl (q 0, 4, .inl (fun _ => 0))), (q5, .inl (q 0, 4, .inl (fun _ => 0))), (q6, .inl (q 0, 4, .inl (fun _ => 0))), (q7, .inl (q 0, 10, .inl (fun _ => 0))), (q8, .inl (q 0, 10, .inl (fun _ => 0)))] := hD
  refine va_putF (D := D) (ci := 2) (v := .ref q8) (ty := .array .int) (C := RX4) (T := TX4) (N := 11) hx hb hts (fun w h => List.mem_cons_of_mem _ (List.mem_append_right _ h)) tyX4 tyX4_ok nmX4 hown hG.1 hP hD hS 0 rfl rfl 9 (by decide) (hts (.fieldLink RX4 43 "MillComplaints$Village" "vain" "[I") (List.mem_of_getElem? (i := 14) rfl)) (fun _ h9 => h9) rfl hin rfl (by decide +kernel) rfl rfl (Nat.le_of_ble_eq_true rfl) dX4_init_74 (fun H locs hP hD hS => ?_)
  have hP : va_P D vwCl [(h0, .inr (2, [.ref q1, .ref q2, .ref q3, .int 0, .ref q4, .ref q5, .ref q6, .int 0, .ref q7, .ref q8, .null])), (q1, .inl (q 0, 24, .inl (fun _ => 0))), (q2, .inl (q 0, 4, .inl (fun _ => 0))), (q3, .inl (q 0, 6, .inl (fun _ => 0))), (q4, .inl (q 0, 4, .inl (fun _ => 0))), (q5, .inl (q 0, 4, .inl (fun _ => 0))), (q6, .inl (q 0, 4, .inl (fun _ => 0))), (q7, .inl (q 0, 10, .inl (fun _ => 0))), (q8, .inl (q 0, 10, .inl (fun _ => 0)))] H := hP
  have hD : va_D A [(h0, .inr (2, [.ref q1, .ref q2, .ref q3, .int 0, .ref q4, .ref q5, .ref q6, .int 0, .ref q7, .ref q8, .null])), (q1, .inl (q 0, 24, .inl (fun _ => 0))), (q2, .inl (q 0, 4, .inl (fun _ => 0))), (q3, .inl (q 0, 6, .inl (fun _ => 0))), (q4, .inl (q 0, 4, .inl (fun _ => 0))), (q5, .inl (q 0, 4, .inl (fun _ => 0))), (q6, .inl (q 0, 4, .inl (fun _ => 0))), (q7, .inl (q 0, 10, .inl (fun _ => 0))), (q8, .inl (q 0, 10, .inl (fun _ => 0)))] := hD
  refine lv_aload_n hx hb dX4_init_77 rfl (lv_at hl 0 rfl) ?_
  refine lv_bipush (v := 80) hx hb dX4_init_78 (by decide) ?_
  refine va_newa (atype := .int) (ty := .int) (a0 := (80, .inl (fun _ => 0))) hx hb (hts (.arrayClass .int) (List.mem_of_getElem? (i := 4) rfl)) rfl hG.1 hP hD hS hA (fun cA => rfl) (by decide) rfl (Nat.le_of_ble_eq_true rfl) (Nat.le_of_ble_eq_true rfl) (Nat.le_of_ble_eq_true rfl) dX4_init_80 (fun q9 cA H hK hP hD hS => ?_)
  obtain rfl : cA = q 0 := samI hK
  have hP : va_P D vwCl [(h0, .inr (2, [.ref q1, .ref q2, .ref q3, .int 0, .ref q4, .ref q5, .ref q6, .int 0, .ref q7, .ref q8, .null])), (q1, .inl (q 0, 24, .inl (fun _ => 0))), (q2, .inl (q 0, 4, .inl (fun _ => 0))), (q3, .inl (q 0, 6, .inl (fun _ => 0))), (q4, .inl (q 0, 4, .inl (fun _ => 0))), (q5, .inl (q 0, 4, .inl (fun _ => 0))), (q6, .inl (q 0, 4, .inl (fun _ => 0))), (q7, .inl (q 0, 10, .inl (fun _ => 0))), (q8, .inl (q 0, 10, .inl (fun _ => 0))), (q9, .inl (q 0, 80, .inl (fun _ => 0)))] H := hP
  have hD : va_D A [(h0, .inr (2, [.ref q1, .ref q2, .ref q3, .int 0, .ref q4, .ref q5, .ref q6, .int 0, .ref q7, .ref q8, .null])), (q1, .inl (q 0, 24, .inl (fun _ => 0))), (q2, .inl (q 0, 4, .inl (fun _ => 0))), (q3, .inl (q 0, 6, .inl (fun _ => 0))), (q4, .inl (q 0, 4, .inl (fun _ => 0))), (q5, .inl (q 0, 4, .inl (fun _ => 0))), (q6, .inl (q 0, 4, .inl (fun _ => 0))), (q7, .inl (q 0, 10, .inl (fun _ => 0))), (q8, .inl (q 0, 10, .inl (fun _ => 0))), (q9, .inl (q 0, 80, .inl (fun _ => 0)))] := hD
  refine va_putF (D := D) (ci := 2) (v := .ref q9) (ty := .array .int) (C := RX4) (T := TX4) (N := 11) hx hb hts (fun w h => List.mem_cons_of_mem _ (List.mem_append_right _ h)) tyX4 tyX4_ok nmX4 hown hG.1 hP hD hS 0 rfl rfl 10 (by decide) (hts (.fieldLink RX4 46 "MillComplaints$Village" "standing" "[I") (List.mem_of_getElem? (i := 15) rfl)) (fun _ h9 => h9) rfl hin rfl (by decide +kernel) rfl rfl (Nat.le_of_ble_eq_true rfl) dX4_init_82 (fun H locs hP hD hS => ?_)
  have hP : va_P D vwCl [(h0, .inr (2, [.ref q1, .ref q2, .ref q3, .int 0, .ref q4, .ref q5, .ref q6, .int 0, .ref q7, .ref q8, .ref q9])), (q1, .inl (q 0, 24, .inl (fun _ => 0))), (q2, .inl (q 0, 4, .inl (fun _ => 0))), (q3, .inl (q 0, 6, .inl (fun _ => 0))), (q4, .inl (q 0, 4, .inl (fun _ => 0))), (q5, .inl (q 0, 4, .inl (fun _ => 0))), (q6, .inl (q 0, 4, .inl (fun _ => 0))), (q7, .inl (q 0, 10, .inl (fun _ => 0))), (q8, .inl (q 0, 10, .inl (fun _ => 0))), (q9, .inl (q 0, 80, .inl (fun _ => 0)))] H := hP
  have hD : va_D A [(h0, .inr (2, [.ref q1, .ref q2, .ref q3, .int 0, .ref q4, .ref q5, .ref q6, .int 0, .ref q7, .ref q8, .ref q9])), (q1, .inl (q 0, 24, .inl (fun _ => 0))), (q2, .inl (q 0, 4, .inl (fun _ => 0))), (q3, .inl (q 0, 6, .inl (fun _ => 0))), (q4, .inl (q 0, 4, .inl (fun _ => 0))), (q5, .inl (q 0, 4, .inl (fun _ => 0))), (q6, .inl (q 0, 4, .inl (fun _ => 0))), (q7, .inl (q 0, 10, .inl (fun _ => 0))), (q8, .inl (q 0, 10, .inl (fun _ => 0))), (q9, .inl (q 0, 80, .inl (fun _ => 0)))] := hD
  refine va_getsN hx hb hZ.1 hS hown (nwf_0 hG) (fun _ h9 => h9) dX4_init_85 ?_
  refine lv_aload_n hx hb dX4_init_88 rfl (lv_at hl 0 rfl) ?_
  refine va_get (D := D) (ci := 2) (v := .ref q2) (C := RX4) (T := TX4) (N := 11) hx hb hts (fun w h => List.mem_cons_of_mem _ (List.mem_append_right _ h)) hown hG.1 hP 0 rfl rfl 1 (by decide) (hts (.fieldLink RX4 18 "MillComplaints$Village" "settings" "[I") (List.mem_of_getElem? (i := 6) rfl)) (fun _ h9 => h9) rfl dX4_init_89 ?_
  refine mu_SNT (D := D) (ws := [(h0, .inr (2, [.ref q1, .ref q2, .ref q3, .int 0, .ref q4, .ref q5, .ref q6, .int 0, .ref q7, .ref q8, .ref q9])), (q1, .inl (q 0, 24, .inl (fun _ => 0))), (q2, .inl (q 0, 4, .inl (fun _ => 0))), (q3, .inl (q 0, 6, .inl (fun _ => 0))), (q4, .inl (q 0, 4, .inl (fun _ => 0))), (q5, .inl (q 0, 4, .inl (fun _ => 0))), (q6, .inl (q 0, 4, .inl (fun _ => 0))), (q7, .inl (q 0, 10, .inl (fun _ => 0))), (q8, .inl (q 0, 10, .inl (fun _ => 0))), (q9, .inl (q 0, 80, .inl (fun _ => 0)))]) (ws' := [(h0, .inr (2, [.ref q1, .ref q2, .ref q3, .int 0, .ref q4, .ref q5, .ref q6, .int 0, .ref q7, .ref q8, .ref q9])), (q1, .inl (q 0, 24, .inl (fun _ => 0))), (q2, .inl (q 0, 4, .inl (setF 0))), (q3, .inl (q 0, 6, .inl (fun _ => 0))), (q4, .inl (q 0, 4, .inl (fun _ => 0))), (q5, .inl (q 0, 4, .inl (fun _ => 0))), (q6, .inl (q 0, 4, .inl (fun _ => 0))), (q7, .inl (q 0, 10, .inl (fun _ => 0))), (q8, .inl (q 0, 10, .inl (fun _ => 0))), (q9, .inl (q 0, 80, .inl (fun _ => 0)))]) (rest := []) (b := q2) (f := fun _ => 0) hx hb hml hown hts hl (MX5_copyRowT l D q z q2 (fun _ => 0)) ggX4_init_X5_copyRow rfl kX5_copyRow ⟨Nat.le_of_ble_eq_true rfl, Nat.le_of_ble_eq_true rfl⟩ rfl rfl (nwm_0 hG) (List.mem_of_getElem? (i := 17) rfl) (List.mem_of_getElem? (i := 16) rfl) (stI_T hZ hS hD 2 rfl) hP hD hS hG [2] rfl rfl (by decide) [0, 1, 10, 3, 4, 5, 6, 7, 8, 9] rfl (by decide) rfl rfl rfl (Nat.le_of_ble_eq_true rfl) dX4_init_92 ⟨Nat.le_of_ble_eq_true rfl, Nat.le_of_ble_eq_true rfl⟩ (fun H locs hP hD hS => ?_)
  refine lv_iconst (v := 0) hx hb dX4_init_95 (by decide) ?_
  refine lv_istore_n (lv' := [(1, .int 0), (0, .ref h0)]) hx hb dX4_init_96 rfl hl (by decide) rfl (fun ls hl => ?_)
  have key : ∀ (y k : Nat) (gk : Nat → Int32) (H : Heap) (locs : List Loc), k + y = 24 → (∀ j, j < k → gk j = 3) → va_P D vwCl [(h0, .inr (2, [.ref q1, .ref q2, .ref q3, .int 0, .ref q4, .ref q5, .ref q6, .int 0, .ref q7, .ref q8, .ref q9])), (q1, .inl (q 0, 24, .inl gk)), (q2, .inl (q 0, 4, .inl (setF 0))), (q3, .inl (q 0, 6, .inl (fun _ => 0))), (q4, .inl (q 0, 4, .inl (fun _ => 0))), (q5, .inl (q 0, 4, .inl (fun _ => 0))), (q6, .inl (q 0, 4, .inl (fun _ => 0))), (q7, .inl (q 0, 10, .inl (fun _ => 0))), (q8, .inl (q 0, 10, .inl (fun _ => 0))), (q9, .inl (q 0, 80, .inl (fun _ => 0)))] H → va_D A [(h0, .inr (2, [.ref q1, .ref q2, .ref q3, .int 0, .ref q4, .ref q5, .ref q6, .int 0, .ref q7, .ref q8, .ref q9])), (q1, .inl (q 0, 24, .inl gk)), (q2, .inl (q 0, 4, .inl (setF 0))), (q3, .inl (q 0, 6, .inl (fun _ => 0))), (q4, .inl (q 0, 4, .inl (fun _ => 0))), (q5, .inl (q 0, 4, .inl (fun _ => 0))), (q6, .inl (q 0, 4, .inl (fun _ => 0))), (q7, .inl (q 0, 10, .inl (fun _ => 0))), (q8, .inl (q 0, 10, .inl (fun _ => 0))), (q9, .inl (q 0, 80, .inl (fun _ => 0)))] → va_S A s.heap H locs → ∀ ls : Array Slot, lv_has ls 2 [(1, .int (nI k)), (0, .ref h0)] → W p l e ({ frames := 1, cells := 9, slots := 146, locals := 22 } : Room) s m ([.ref h0] : List Value).toArray below meth c H locs 9 146 (MQ below (mkQ D h0 (.inr (2, [.null, .null, .null, .int 0, .null, .null, .null, .int 0, .null, .null, .null])) s.heap.size (fun w => ∃ h : Nat → Nat, h 0 = h0 ∧ w = wV q h vI)) ([.ref h0] : List Value).toArray s 9 146 (va_A [(h0, .inr (2, [.null, .null, .null, .int 0, .null, .null, .null, .int 0, .null, .null, .null]))] s.heap.size)) (F0 m 97 ls []) := by
    intro y
    induction y with
    | zero =>
      intro k gk H locs hk2 hg hP hD hS ls hl
      refine lv_iload_n hx hb dX4_init_97 rfl (lv_at hl 0 rfl) ?_
      refine lv_aload_n hx hb dX4_init_98 rfl (lv_at hl 1 rfl) ?_
      refine va_get (D := D) (ci := 2) (v := .ref q1) (C := RX4) (T := TX4) (N := 11) hx hb hts (fun w h => List.mem_cons_of_mem _ (List.mem_append_right _ h)) hown hG.1 hP 0 rfl rfl 0 (by decide) (hts (.fieldLink RX4 9 "MillComplaints$Village" "winds" "[I") (List.mem_of_getElem? (i := 5) rfl)) (fun _ h9 => h9) rfl dX4_init_99 ?_
      refine va_alen (v := nI 24) hx hb hG.1 hP 1 0 rfl rfl rfl dX4_init_102 ?_
      refine lv_icmp_ge (tgt := 119) hx hb dX4_init_103 (by decide) (fun c_1 => ?_) (fun c_1 => absurd (nI_le (by omega) (by omega)) c_1)
      exact mk_vret (w := wV q (fun j => match j with | 0 => h0 | 1 => q1 | 2 => q2 | 3 => q3 | 4 => q4 | 5 => q5 | 6 => q6 | 7 => q7 | 8 => q8 | _ => q9) vI) hx hb hr hk hAe hS (row_1 hP 1 (q := q) rfl (g := fun _ => 3) (fun j hj => hg j (by omega))) (hD.set (p := 1) rfl) ⟨_, rfl, rfl⟩ dX4_init_119
    | succ y ih =>
      intro k gk H locs hk2 hg hP hD hS ls hl
      refine lv_iload_n hx hb dX4_init_97 rfl (lv_at hl 0 rfl) ?_
      refine lv_aload_n hx hb dX4_init_98 rfl (lv_at hl 1 rfl) ?_
      refine va_get (D := D) (ci := 2) (v := .ref q1) (C := RX4) (T := TX4) (N := 11) hx hb hts (fun w h => List.mem_cons_of_mem _ (List.mem_append_right _ h)) hown hG.1 hP 0 rfl rfl 0 (by decide) (hts (.fieldLink RX4 9 "MillComplaints$Village" "winds" "[I") (List.mem_of_getElem? (i := 5) rfl)) (fun _ h9 => h9) rfl dX4_init_99 ?_
      refine va_alen (v := nI 24) hx hb hG.1 hP 1 0 rfl rfl rfl dX4_init_102 ?_
      have hkn : ¬ nI 24 ≤ nI k := by rw [nJ_le (by omega) (by omega)]; omega
      refine lv_icmp_ge (tgt := 119) hx hb dX4_init_103 (by decide) (fun c_1 => absurd c_1 hkn) (fun c_1 => ?_)
      refine lv_aload_n hx hb dX4_init_106 rfl (lv_at hl 1 rfl) ?_
      refine va_get (D := D) (ci := 2) (v := .ref q1) (C := RX4) (T := TX4) (N := 11) hx hb hts (fun w h => List.mem_cons_of_mem _ (List.mem_append_right _ h)) hown hG.1 hP 0 rfl rfl 0 (by decide) (hts (.fieldLink RX4 9 "MillComplaints$Village" "winds" "[I") (List.mem_of_getElem? (i := 5) rfl)) (fun _ h9 => h9) rfl dX4_init_107 ?_
      refine lv_iload_n hx hb dX4_init_110 rfl (lv_at hl 0 rfl) ?_
      refine lv_iconst (v := 3) hx hb dX4_init_111 (by decide) ?_
      refine va_iast hx hb hG.1 hP hD hS 1 0 rfl rfl (vp_in_nI (by omega) (by omega)) dX4_init_112 (fun H locs hP hD hS => ?_)
      refine lv_iinc (v := nI (k + 1)) (lv' := [(1, .int (nI (k + 1))), (0, .ref h0)]) hx hb dX4_init_113 hl (k := 0) rfl (nI_1 k) (by decide) rfl (fun ls hl => ?_)
      refine lv_goto (tgt := 97) hx hb dX4_init_116 (by decide) ?_
      refine ih (k + 1) (upd gk (nI k).toNatClampNeg 3) _ _ (by omega) (fun j hj => ?_) hP hD hS ls hl
      rw [nI_clamp (by omega)]
      by_cases hjk : j = k
      · subst hjk; exact pk_us
      · rw [pk_un hjk]; exact hg j (by omega)
  exact key 24 0 _ _ _ (by omega) (fun j hj => absurd hj (Nat.not_lt_zero _)) hP hD hS ls hl
