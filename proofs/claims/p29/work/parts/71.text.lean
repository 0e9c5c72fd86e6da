/-! LAYER 3, 2: constructors that are called; the text, the model. -/
/-- a new text's, a new desk's, a new model's numbers -/
def xI : Nat → Nat → Nat → Int32
  | 0 => vI
  | 1 => vI
  | 2 => vI
  | 3 => vI
  | 4 => vI
  | 5 => vI
  | 6 => vI
  | _ => fun _ _ => 0
def rK (k : Nat) : Nat → Int32 := fun j => if 34 ≤ j ∧ j < 34 + k then 3 else 0
theorem rK_0 (j : Nat) : rK 0 j = 0 := by unfold rK; rw [if_neg (by omega)]
theorem rK_s (k : Nat) : upd (rK k) (34 + k) 3 = rK (k + 1) := by
  funext j
  by_cases e : j = 34 + k
  · subst e; rw [upd_same]; unfold rK; rw [if_pos (by omega)]
  · rw [upd_ne _ _ e]
    unfold rK
    by_cases c : 34 ≤ j ∧ j < 34 + k
    · rw [if_pos c, if_pos (by omega)]
    · rw [if_neg c, if_neg (by omega)]
def rI : Nat → Int32 := upd (upd (upd (upd (rK 24) 58 6) 59 3) 60 2) 61 8
def mI : Nat → Nat → Int32
  | 0 => rI
  | _ => fun _ => 0
/-- a row of references that is the same as far as it goes -/
theorem row_q {D : va_G} {cA : ClassId} {ws : va_W} {H : Heap} (hP : va_P D vwCl ws H) (k : Nat) {a n : Nat} {f g : Nat → Option Nat} (he : ws[k]? = some (a, .inl (cA, n, .inr (.inr (.inr (.inr f)))))) (hf : ∀ j, j < n → f j = g j) : va_P D vwCl (ws.set k (a, .inl (cA, n, .inr (.inr (.inr (.inr g)))))) H := by
  intro i x hi
  rw [List.getElem?_set] at hi
  by_cases c : k = i
  · subst c
    rw [if_pos rfl] at hi
    by_cases c2 : k < ws.length
    · rw [if_pos c2] at hi
      cases hi
      have h0 : H[a]? = some (vp_cell cA (n, .inr (.inr (.inr (.inr f))))) := hP k _ he
      show H[a]? = some (vp_cell cA (n, .inr (.inr (.inr (.inr g)))))
      have e1 : vp_cell cA (n, .inr (.inr (.inr (.inr f)))) = vp_cell cA (n, .inr (.inr (.inr (.inr g)))) := by
        rw [vp_cell_q, vp_cell_q]
        exact arrV_congr (fun j hj => by rw [hf j hj])
      rw [h0, e1]
    · rw [if_neg c2] at hi; cases hi
  · rw [if_neg c] at hi
    exact hP i x hi
section MKI
variable {p : Program} {l : Launch} {e : Env} {R : Room} {s : State} {m : MethodId} {args : Array Value} {below : List Frame} {meth : Method} {c : Code} {H : Heap} {locs : List Loc} {cells slots : Nat} {Q : State → Prop}
variable {pc : Nat} {ls : Array Slot} {rest : List Value} {A0 : Nat → Prop} {D : va_G} {q : Nat → ClassId} {ws wr : va_W} {z b mc ms : Nat} {e0 : va_E} {Pz : va_W → Prop}
variable {y : MethodName} {Ts wsc wsc' : List Cond} {rmc : Room} {cc bytes : ByteArray} {maxL nL n index : Nat} {own : String} {lv : List (Nat × Value)}
theorem mk_I (hx : p.tables.exec = Jvm.exec) (hb : c.code = cc) (hml : c.maxLocals = nL) (hown : s.vm.findClass own = some m.cls) (hts : ∀ w ∈ Ts, w.before args s = true) (hl : lv_has ls nL lv)
    (hM : mkM l D q y wsc rmc b e0 H.size z mc ms Pz) (hT : GoodIn Ts wsc) (hw : wsc = Cond.code y bytes maxL none :: wsc') (hini : (Cond.initialized y.cls).before args s = true) (hlink : (Cond.methodLink own index y).before args s = true) (hinst : (Cond.instanceMethod y).before args s = true) (hy1 : y.name = "<init>") (hd : y.cls ≠ "java/lang/invoke/MethodHandle" ∧ y.cls ≠ "java/lang/invoke/VarHandle" ∧ (parseMethodDescriptor y.desc).map (fun d => d.parameters.length) = some 0) (hR : rmc.frames + 1 ≤ R.frames ∧ 8 + (maxL + 11) + rmc.locals ≤ R.locals) (hrc : rmc.cells = mc) (hrs : rmc.slots = ms)
    (hP : va_P D vwCl ws H) (hD : va_D A0 ws) (hS : va_S A0 s.heap H locs) (hA : ∀ q, s.heap.size ≤ q → A0 q) (hG : gxO D (tyq q) s) (hZ : stI z A0 s s.heap) (k0 : Nat) (hk0 : ws[k0]? = some (b, e0)) (isR : List Nat) (hRs : isR.map (fun i => ws[i]?) = wr.map some) (hn : va_nd isR = true) (hdis : ∀ i ∈ isR, i ∉ [k0])
    (hroom : (rest.map fun v => v.category).sum ≤ 8) (hdg : decode cc pc = .ok (.invokespecial index, 3)) (hf : cells + mc ≤ R.cells ∧ slots + ms ≤ R.slots)
    (kk : ∀ (u : va_W) (H1 : Heap) (locs1 : List Loc), Pz u → va_P D vwCl (wr ++ u) H1 → va_D A0 (wr ++ u) → va_S A0 s.heap H1 locs1 → W p l e R s m args below meth c H1 locs1 (cells + mc) (slots + ms) Q (F0 m (pc + 3) ls rest)) : W p l e R s m args below meth c H locs cells slots Q (F0 m pc ls (.ref b :: rest)) := by
  have hC : [k0].map (fun i => ws[i]?) = [(b, e0)].map some := by
    show [ws[k0]?] = [some (b, e0)]
    rw [hk0]
  have hPc : va_P D vwCl [(b, e0)] H := hP.sub [k0] (by show List.filterMap (fun i => ws[i]?) [k0] = _; rw [List.filterMap_cons, hk0]; rfl)
  have hFc := va_free (wc := [(b, e0)]) hD hS hA [k0] hC
  refine va_callv (va_runI (As := []) (rest := rest) ⟨hx, hb, hml, hown, hts⟩ hM (cwI 0 hts hT hw hrc hrs hini hlink hinst hy1 hd hR) ⟨fun a U g mk q => ?_, fun U hU hW => ?_⟩ rfl rfl hl.1 rfl (lv_room hroom) hdg hf) hS (fun q _ h => hFc q h) hFc (fun u t H1 locs1 ht hvm hw1 hB hz1 hk1 hS1 => ?_)
  · obtain ⟨q0, q1, qP, qG, qZ⟩ := q
    exact ⟨q0, q1, qP, qG.same rfl, qZ.moved (u := U) (U := U.calling g mk a) (Vm.Alike.refl U.vm)⟩
  · refine ⟨rfl, by rw [hU], by rw [hU]; exact hPc, hG.warm hW, ?_⟩
    rw [hU]
    exact ((hZ.kept hS.2.1).narrow hFc).moved hW.alike
  · obtain ⟨hP1, hD1⟩ := hB
    rw [ht] at hP1
    obtain ⟨hP2, hD2⟩ := va_join (wr := wr) (w1 := u) hP hD [k0] isR hC hRs hn hdis hk1 hFc hP1 hD1
    exact kk u H1 locs1 hw1 hP2 hD2 hS1
end MKI
set_option maxHeartbeats 4000000 in
set_option maxRecDepth 100000 in
theorem MX3_init (l : Launch) (D : va_G) (q : Nat → ClassId) (h0 sz z : Nat) : mkM l D q yX3_init wsX3_init ({ frames := 1, cells := 1, slots := 60, locals := 12 } : Room) h0 (.inr (1, [.null, .int 0])) sz z 1 60 (fun w => ∃ h : Nat → Nat, h 0 = h0 ∧ w = wT q h (fun _ _ => 0)) := by
  refine mkM.of (cc := cX3_init) (maxL := 1) (by decide) rfl (Nat.le_of_ble_eq_true rfl) rfl ?_
  intro p e s m below meth c ls A hx hb hr hk hml hown hts hin hP hD hG hAe hA hZ hl
  have hS : va_S A s.heap s.heap [] := va_S.rf
  have hl : lv_has ls 1 [(0, .ref h0)] := hl
  refine lv_aload_n hx hb dX3_init_0 rfl (lv_at hl 0 rfl) ?_
  refine W.objInit hx hb hown (hts (.methodLink RX3 3 objectInit) (List.mem_of_getElem? (i := 1) rfl)) (hts (.instanceMethod objectInit) (List.mem_of_getElem? (i := 2) rfl)) (hts (.code objectInit ⟨#[0xb1]⟩ 1 none) (List.mem_of_getElem? (i := 3) rfl)) rfl (by rw [hml]; exact hl.1) rfl dX3_init_1 (Nat.le_of_ble_eq_true rfl) (Nat.le_of_ble_eq_true rfl) ?_
  refine W.eq (g2 := F0 m 4 ls []) rfl ?_
  refine lv_aload_n hx hb dX3_init_4 rfl (lv_at hl 0 rfl) ?_
  refine lv_bipush (v := 60) hx hb dX3_init_5 (by decide) ?_
  refine va_newa (atype := .char) (ty := .char) (a0 := (60, .inl (fun _ => 0))) hx hb (hts (.arrayClass .char) (List.mem_of_getElem? (i := 4) rfl)) rfl hG.1 hP hD hS hA (fun cA => rfl) (by decide) rfl (Nat.le_of_ble_eq_true rfl) (Nat.le_of_ble_eq_true rfl) (Nat.le_of_ble_eq_true rfl) dX3_init_7 (fun q1 cA H hK hP hD hS => ?_)
  obtain rfl : cA = q 1 := samC hK
  have hP : va_P D vwCl [(h0, .inr (1, [.null, .int 0])), (q1, .inl (q 1, 60, .inl (fun _ => 0)))] H := hP
  have hD : va_D A [(h0, .inr (1, [.null, .int 0])), (q1, .inl (q 1, 60, .inl (fun _ => 0)))] := hD
  refine va_putF (D := D) (ci := 1) (v := .ref q1) (ty := .array .char) (C := RX3) (T := TX3) (N := 2) hx hb hts (fun w h => List.mem_cons_of_mem _ (List.mem_append_right _ h)) tyX3 tyX3_ok nmX3 hown hG.1 hP hD hS 0 rfl rfl 0 (by decide) (hts (.fieldLink RX3 9 "MillComplaints$Text" "signs" "[C") (List.mem_of_getElem? (i := 5) rfl)) (fun _ h9 => h9) rfl hin rfl (by decide +kernel) rfl rfl (Nat.le_of_ble_eq_true rfl) dX3_init_9 (fun H locs hP hD hS => ?_)
  have hP : va_P D vwCl [(h0, .inr (1, [.ref q1, .int 0])), (q1, .inl (q 1, 60, .inl (fun _ => 0)))] H := hP
  have hD : va_D A [(h0, .inr (1, [.ref q1, .int 0])), (q1, .inl (q 1, 60, .inl (fun _ => 0)))] := hD
  refine lv_aload_n hx hb dX3_init_12 rfl (lv_at hl 0 rfl) ?_
  refine lv_iconst (v := 0) hx hb dX3_init_13 (by decide) ?_
  refine va_put (D := D) (ci := 1) (v := .int 0) (ty := .int) (C := RX3) (T := TX3) (N := 2) hx hb hts (fun w h => List.mem_cons_of_mem _ (List.mem_append_right _ h)) tyX3 tyX3_ok nmX3 hown hG.1 hP hD hS 0 rfl rfl 1 (by decide) (hts (.fieldLink RX3 15 "MillComplaints$Text" "length" "I") (List.mem_of_getElem? (i := 6) rfl)) (fun _ h9 => h9) rfl (by decide +kernel) rfl rfl (Nat.le_of_ble_eq_true rfl) dX3_init_14 (fun H locs hP hD hS => ?_)
  have hP : va_P D vwCl [(h0, .inr (1, [.ref q1, .int 0])), (q1, .inl (q 1, 60, .inl (fun _ => 0)))] H := hP
  have hD : va_D A [(h0, .inr (1, [.ref q1, .int 0])), (q1, .inl (q 1, 60, .inl (fun _ => 0)))] := hD
  exact mk_vret (w := wT q (fun j => match j with | 0 => h0 | _ => q1) (fun _ _ => 0)) hx hb hr hk hAe hS hP hD ⟨_, rfl, rfl⟩ dX3_init_17
