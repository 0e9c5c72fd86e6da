/-! P29: what the law's methods want besides: their world, names for what a branch chose, the end of a boolean method that writes, a call of set. -/
abbrev wXW (q : Nat → ClassId) (ad : Nat → Nat → Nat) (xx : Nat → Nat → Nat → Int32) : va_W := wX q ad xx ++ wR q (ad 10 0) 24 (xx 10 0)
def lt2 {α β γ : Type} (a : α) (b : β) (f : α → β → γ) : γ := f a b
def lt3 {α β γ δ : Type} (a : α) (b : β) (c : γ) (f : α → β → γ → δ) : δ := f a b c
theorem jn_1 {α β : Type} {a : α} {f : α → β} {R : β} {P : Prop} (hR : lt a f = R) (k : ∀ F : α → β, F = f → lt a F = R → P) : P := k f rfl hR
theorem jn_2 {α β γ : Type} {a : α} {b : β} {f : α → β → γ} {R : γ} {P : Prop} (hR : lt2 a b f = R) (k : ∀ F : α → β → γ, F = f → lt2 a b F = R → P) : P := k f rfl hR
theorem jn_3 {α β γ δ : Type} {a : α} {b : β} {c : γ} {f : α → β → γ → δ} {R : δ} {P : Prop} (hR : lt3 a b c f = R) (k : ∀ F : α → β → γ → δ, F = f → lt3 a b c F = R → P) : P := k f rfl hR
theorem jn_e1 {α β : Type} {a : α} {f : α → β} {R : β} (h : lt a f = R) : f a = R := h
theorem jn_e2 {α β γ : Type} {a : α} {b : β} {f : α → β → γ} {R : γ} (h : lt2 a b f = R) : f a b = R := h
theorem jn_e3 {α β γ δ : Type} {a : α} {b : β} {c : γ} {f : α → β → γ → δ} {R : δ} (h : lt3 a b c f = R) : f a b c = R := h
theorem cx_2 {α β R : Type} {C f : α → β → R} (e : C = f) {a : α} {b : β} {r : R} (h : C a b = r) : f a b = r := by subst e; exact h
theorem cx_5 {α β γ δ ε R : Type} {C f : α → β → γ → δ → ε → R} (e : C = f) {a : α} {b : β} {c : γ} {d : δ} {x : ε} {r : R} (h : C a b c d x = r) : f a b c d x = r := by subst e; exact h
section LK
variable {p : Program} {l : Launch} {e : Env} {R : Room} {s : State} {m : MethodId} {args : Array Value} {below : List Frame} {meth : Method} {c : Code} {H : Heap} {locs : List Loc} {cells slots : Nat} {Q : State → Prop}
variable {pc : Nat} {ls : Array Slot} {rest st0 As : List Value} {A0 : Nat → Prop} {H0 : Heap} {D : va_G} {TY : List (ClassId × FieldType)} {world world' wc wc' ws ws' : va_W} {o : Option Value} {v : Value}
variable {y : MethodName} {Ts wsc wsc' : List Cond} {rmc : Room} {cc bytes : ByteArray} {maxL nL n index ci N : Nat} {ret : Option FieldType} {own C host : String} {T : u_T} {b : Addr} {lv : List (Nat × Value)} {fs : List Value}
theorem mu_zret {A : Nat → Prop} {v r : Int32} (hx : p.tables.exec = Jvm.exec) (hb : c.code = cc) (hr : meth.sig.returnType = some .boolean) (hk : meth.locks = false) (h01 : v = 0 ∨ v = 1) (hA : A = wAt world) (hS : va_S A s.heap H locs) (hP : va_P D vwCl world' H) (hv : v = r) (hdg : decode cc pc = .ok (.ireturn, 1)) : W p l e R s m args below meth c H locs 0 0 (MQ below (muQ D (some (.int r)) world world') args s 0 0 (wAt world)) (F0 m pc ls [.int v]) := by
  subst hv
  subst hA
  exact W.zret hx hb hr (b01n h01) (fun t ht hW => ⟨rfl, by rw [ht]; exact hP, hS.F ht⟩) hS.2.2 hdg hk
theorem mu_VK {z : Nat → Nat} (hx : p.tables.exec = Jvm.exec) (hb : c.code = cc) (hml : c.maxLocals = nL) (hown : s.vm.findClass own = some m.cls) (hts : ∀ w ∈ Ts, w.before args s = true) (hl : lv_has ls nL lv)
    (hM : muMK l D TY y wsc rmc (.ref b :: As) wc z o wc') (hT : GoodIn Ts (wsV own index C y wsc)) (hw : wsc = Cond.code y bytes maxL ret :: wsc') (hd : y.cls = C ∧ y.cls ≠ "java/lang/invoke/MethodHandle" ∧ y.cls ≠ "java/lang/invoke/VarHandle" ∧ (parseMethodDescriptor y.desc).map (fun d => d.parameters.length) = some n) (hR : rmc.frames + 1 ≤ R.frames ∧ 8 + (maxL + 11) + rmc.locals ≤ R.locals) (hrc : rmc.cells = 0) (hrs : rmc.slots = 0)
    (hP : va_P D vwCl ws H) (hD : va_D A0 ws) (hS : va_S A0 H0 H locs) (hG : gxO D TY s) (hK : stKH z s H) (isC : List Nat) (hPs : isC.filterMap (fun i => ws[i]?) = wc) (hC : isC.map (fun i => ws[i]?) = wc.map some) (hnd : va_nd isC = true) (js : List Nat) (hj : js.map (fun j => (ws ++ wc')[j]?) = ws'.map some) (hjs : js.all (fun j => decide (j ∉ isC)) = true) (had : ws'.map Prod.fst = ws.map Prod.fst)
    (hc : vwCl[ci]? = some (C, T, N)) (he : wc[0]? = some (b, .inr (ci, fs))) (hn : As.length = n) (hst : st0 = As.reverse ++ .ref b :: rest) (hroom : (rest.map fun v => v.category).sum ≤ 8) (hdg : decode cc pc = .ok (.invokevirtual index, 3)) (hf : cells ≤ R.cells ∧ slots ≤ R.slots)
    (kk : ∀ (H1 : Heap) (locs1 : List Loc), va_P D vwCl ws' H1 → va_D A0 ws' → va_S A0 H0 H1 locs1 → W p l e R s m args below meth c H1 locs1 cells slots Q (F0 m (pc + 3) ls (o.toList ++ rest))) : W p l e R s m args below meth c H locs cells slots Q (F0 m pc ls st0) := by
  have hPc : va_P D vwCl wc H := hP.sub isC hPs
  have hDc : va_D A0 wc := hD.sub isC hnd hC
  exact mu_run (va_runV (As := As) (rest := rest) ⟨hx, hb, hml, hown, hts⟩ hM (cwV n hts hT hw hrc hrs hd hR) ⟨fun a U g mk r => ⟨stP.blind a U g mk r.1, r.2.moved (u := U) (U := U.calling g mk a) (Vm.Alike.refl U.vm)⟩, va_recv hG.1 hPc hc he, fun U hU hW => ⟨st_pre hPc (dT hDc) hG U hU hW, by show stKH z U U.heap; rw [hU]; exact hK.moved hW.alike⟩⟩ rfl hn hl.1 hst (lv_room hroom) hdg hf) hP hD hS isC hC js hj hjs had kk
theorem mu_SK {z : Nat → Nat} (hx : p.tables.exec = Jvm.exec) (hb : c.code = cc) (hml : c.maxLocals = nL) (hown : s.vm.findClass own = some m.cls) (hts : ∀ w ∈ Ts, w.before args s = true) (hl : lv_has ls nL lv)
    (hM : muMK l D TY y wsc rmc As wc z o wc') (hT : GoodIn Ts (va_wsS own index y wsc)) (hw : wsc = Cond.code y bytes maxL ret :: wsc') (hd : y.cls ≠ "java/lang/invoke/MethodHandle" ∧ y.cls ≠ "java/lang/invoke/VarHandle" ∧ (parseMethodDescriptor y.desc).map (fun d => d.parameters.length) = some n) (hR : rmc.frames + 1 ≤ R.frames ∧ 8 + (maxL + 11) + rmc.locals ≤ R.locals) (hrc : rmc.cells = 0) (hrs : rmc.slots = 0)
    (hP : va_P D vwCl ws H) (hD : va_D A0 ws) (hS : va_S A0 H0 H locs) (hG : gxO D TY s) (hK : stKH z s H) (isC : List Nat) (hPs : isC.filterMap (fun i => ws[i]?) = wc) (hC : isC.map (fun i => ws[i]?) = wc.map some) (hnd : va_nd isC = true) (js : List Nat) (hj : js.map (fun j => (ws ++ wc')[j]?) = ws'.map some) (hjs : js.all (fun j => decide (j ∉ isC)) = true) (had : ws'.map Prod.fst = ws.map Prod.fst)
    (hn : As.length = n) (hst : st0 = As.reverse ++ rest) (hroom : (rest.map fun v => v.category).sum ≤ 8) (hdg : decode cc pc = .ok (.invokestatic index, 3)) (hf : cells ≤ R.cells ∧ slots ≤ R.slots)
    (kk : ∀ (H1 : Heap) (locs1 : List Loc), va_P D vwCl ws' H1 → va_D A0 ws' → va_S A0 H0 H1 locs1 → W p l e R s m args below meth c H1 locs1 cells slots Q (F0 m (pc + 3) ls (o.toList ++ rest))) : W p l e R s m args below meth c H locs cells slots Q (F0 m pc ls st0) := by
  have hPc : va_P D vwCl wc H := hP.sub isC hPs
  have hDc : va_D A0 wc := hD.sub isC hnd hC
  exact mu_run (va_runS (As := As) (rest := rest) ⟨hx, hb, hml, hown, hts⟩ hM (va_cwS n hts hT hw hrc hrs hd hR) ⟨fun a U g mk r => ⟨stP.blind a U g mk r.1, r.2.moved (u := U) (U := U.calling g mk a) (Vm.Alike.refl U.vm)⟩, fun U hU hW => ⟨st_pre hPc (dT hDc) hG U hU hW, by show stKH z U U.heap; rw [hU]; exact hK.moved hW.alike⟩⟩ rfl hn hl.1 hst (lv_room hroom) hdg hf) hP hD hS isC hC js hj hjs had kk
end LK
theorem lw_ne {n : Int32} {k : Int} (h : n.toInt = k) (hk : k ≠ 0) : ¬ n = 0 := by
  intro e
  rw [e] at h
  exact hk h.symm
theorem and_pos (a : Int32) : 0 ≤ (a &&& 2147483647).toInt := by
  have h : (a &&& 2147483647).toBitVec.toNat ≤ 2147483647 := by
    rw [Int32.toBitVec_and, BitVec.toNat_and]
    exact Nat.and_le_right
  rw [← Int32.toInt_toBitVec, BitVec.toInt_eq_toNat_cond]
  split <;> omega
theorem k_lt {k N : Int32} (c : ¬ N ≤ k) : k.toInt < N.toInt := by
  rw [i_le] at c; omega
theorem k_up {k N : Int32} (h : 0 ≤ k.toInt) (c : ¬ N ≤ k) : 0 ≤ (k + 1).toInt := by
  have h1 := k_lt c
  have h2 := i_rng N
  rw [ti_add (a := k) (b := 1) rfl (show (1 : Int32).toInt = 1 from rfl) (by omega)]
  omega
theorem kq_up {k N : Int32} (c : ¬ N < k) (hN : N.toInt < 2147483647) : (k + 1).toInt = k.toInt + 1 := by
  rw [i_lt] at c
  have h2 := i_rng k
  exact ti_add (a := k) (b := 1) rfl (show (1 : Int32).toInt = 1 from rfl) (by omega)
theorem kq_le {k N : Int32} (c : ¬ N < k) : k.toInt ≤ N.toInt := by
  rw [i_lt] at c; omega
