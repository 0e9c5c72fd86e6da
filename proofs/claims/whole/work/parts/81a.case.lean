/-! LAYER 3, 6a: the law, case by case. -/
set_option maxHeartbeats 4000000 in
set_option maxRecDepth 100000 in
theorem law_mill {p : Program} {l : Launch} {e : Env} {s : State} {m : MethodId} {below : List Frame} {meth : Method} {c : Code} {A : Nat → Prop} {b L i : Nat} {xs : Nat → Int32} {D : va_G} {q z h : Nat → Nat} {ad : Nat → Nat → Nat} {Z : State → Prop} (C0 : lwX p l s m meth c A b L i xs D q z) (hB : lwG p l e s m below meth c A b i D q ad h Z 932) : lwG p l e s m below meth c A b i D q ad h Z 152 := by
  obtain ⟨hx, hb, hml, hown, hts, hX, hbl, hbA, hL, hi, hG, hZ⟩ := C0
  intro xx x H locs hR hP hD hS ls hl
  refine lv_aload_n hx hb dL_law_152 rfl (lv_at hl 1 rfl) ?_
  refine lw_rd (k := 1) (b := b) (o1 := ad 9 0) (o2 := h 0) hx hb hX hbl hbA hL hl hS (by decide) (by omega) dL_law_153 dL_law_154 dL_law_155 dL_law_156 dL_law_157 ?_
  refine lw_rd (k := 2) (b := b) (o1 := ad 9 0) (o2 := h 0) hx hb hX hbl hbA hL hl hS (by decide) (by omega) dL_law_158 dL_law_159 dL_law_160 dL_law_161 dL_law_162 ?_
  refine law_mX (v := .int (mX5_mill xx (xs (i + 1)) (xs (i + 2))).1) (xx' := (mX5_mill xx (xs (i + 1)) (xs (i + 2))).2) (rest := []) (As := [.int (xs (i + 1)), .int (xs (i + 2))]) hx hb hml hown hts hl (MX5_mill l D q ad xx (xs (i + 1)) (xs (i + 2)) (rr_rg hR)) gL_law_X5_mill rfl kX5_mill ⟨Nat.le_of_ble_eq_true rfl, Nat.le_of_ble_eq_true rfl⟩ rfl rfl hP hD hS hG rfl rfl (Nat.le_of_ble_eq_true rfl) dL_law_163 ⟨Nat.le_of_ble_eq_true rfl, Nat.le_of_ble_eq_true rfl⟩ (fun H locs hP hD hS => ?_)
  refine lv_aload_n hx hb dL_law_166 rfl (lv_at hl 2 rfl) ?_
  refine lw_rd (k := 1) (b := b) (o1 := ad 9 0) (o2 := h 0) hx hb hX hbl hbA hL hl hS (by decide) (by omega) dL_law_167 dL_law_168 dL_law_169 dL_law_170 dL_law_171 ?_
  refine lw_rd (k := 2) (b := b) (o1 := ad 9 0) (o2 := h 0) hx hb hX hbl hbA hL hl hS (by decide) (by omega) dL_law_172 dL_law_173 dL_law_174 dL_law_175 dL_law_176 ?_
  refine law_mM (v := .int (mX6_mill x (xs (i + 1)) (xs (i + 2))).1) (x' := (mX6_mill x (xs (i + 1)) (xs (i + 2))).2) (rest := [.int (mX5_mill xx (xs (i + 1)) (xs (i + 2))).1]) (As := [.int (xs (i + 1)), .int (xs (i + 2))]) hx hb hml hown hts hl (MX6_mill l D q h x (xs (i + 1)) (xs (i + 2)) (rr_cnt hR) (rr_kn hR)) gL_law_X6_mill rfl kX6_mill ⟨Nat.le_of_ble_eq_true rfl, Nat.le_of_ble_eq_true rfl⟩ rfl rfl hP hD hS hG rfl rfl (Nat.le_of_ble_eq_true rfl) dL_law_177 ⟨Nat.le_of_ble_eq_true rfl, Nat.le_of_ble_eq_true rfl⟩ (fun H locs hP hD hS => ?_)
  have E := a_mill hR (xs (i + 1)) (xs (i + 2))
  exact lv_icmp_eq (tgt := 932) hx hb dL_law_180 (by decide) (fun _ => hB _ _ H locs E.2 hP hD hS ls hl) (fun c0 => absurd E.1 c0)
set_option maxHeartbeats 4000000 in
set_option maxRecDepth 100000 in
theorem law_house {p : Program} {l : Launch} {e : Env} {s : State} {m : MethodId} {below : List Frame} {meth : Method} {c : Code} {A : Nat → Prop} {b L i : Nat} {xs : Nat → Int32} {D : va_G} {q z h : Nat → Nat} {ad : Nat → Nat → Nat} {Z : State → Prop} (C0 : lwX p l s m meth c A b L i xs D q z) (hB : lwG p l e s m below meth c A b i D q ad h Z 932) : lwG p l e s m below meth c A b i D q ad h Z 185 := by
  obtain ⟨hx, hb, hml, hown, hts, hX, hbl, hbA, hL, hi, hG, hZ⟩ := C0
  intro xx x H locs hR hP hD hS ls hl
  refine lv_aload_n hx hb dL_law_185 rfl (lv_at hl 1 rfl) ?_
  refine lw_rd (k := 1) (b := b) (o1 := ad 9 0) (o2 := h 0) hx hb hX hbl hbA hL hl hS (by decide) (by omega) dL_law_186 dL_law_187 dL_law_188 dL_law_189 dL_law_190 ?_
  refine law_mX (v := .int (mX5_house xx (xs (i + 1))).1) (xx' := (mX5_house xx (xs (i + 1))).2) (rest := []) (As := [.int (xs (i + 1))]) hx hb hml hown hts hl (MX5_house l D q ad xx (xs (i + 1)) (rr_rg hR)) gL_law_X5_house rfl kX5_house ⟨Nat.le_of_ble_eq_true rfl, Nat.le_of_ble_eq_true rfl⟩ rfl rfl hP hD hS hG rfl rfl (Nat.le_of_ble_eq_true rfl) dL_law_191 ⟨Nat.le_of_ble_eq_true rfl, Nat.le_of_ble_eq_true rfl⟩ (fun H locs hP hD hS => ?_)
  refine lv_aload_n hx hb dL_law_194 rfl (lv_at hl 2 rfl) ?_
  refine lw_rd (k := 1) (b := b) (o1 := ad 9 0) (o2 := h 0) hx hb hX hbl hbA hL hl hS (by decide) (by omega) dL_law_195 dL_law_196 dL_law_197 dL_law_198 dL_law_199 ?_
  refine law_mM (v := .int (mX6_house x (xs (i + 1))).1) (x' := (mX6_house x (xs (i + 1))).2) (rest := [.int (mX5_house xx (xs (i + 1))).1]) (As := [.int (xs (i + 1))]) hx hb hml hown hts hl (MX6_house l D q h x (xs (i + 1)) (rr_cnt hR) (rr_kn hR)) gL_law_X6_house rfl kX6_house ⟨Nat.le_of_ble_eq_true rfl, Nat.le_of_ble_eq_true rfl⟩ rfl rfl hP hD hS hG rfl rfl (Nat.le_of_ble_eq_true rfl) dL_law_200 ⟨Nat.le_of_ble_eq_true rfl, Nat.le_of_ble_eq_true rfl⟩ (fun H locs hP hD hS => ?_)
  have E := a_house hR (xs (i + 1))
  exact lv_icmp_eq (tgt := 932) hx hb dL_law_203 (by decide) (fun _ => hB _ _ H locs E.2 hP hD hS ls hl) (fun c0 => absurd E.1 c0)
set_option maxHeartbeats 4000000 in
set_option maxRecDepth 100000 in
theorem law_wind {p : Program} {l : Launch} {e : Env} {s : State} {m : MethodId} {below : List Frame} {meth : Method} {c : Code} {A : Nat → Prop} {b L i : Nat} {xs : Nat → Int32} {D : va_G} {q z h : Nat → Nat} {ad : Nat → Nat → Nat} {Z : State → Prop} (C0 : lwX p l s m meth c A b L i xs D q z) (hB : lwG p l e s m below meth c A b i D q ad h Z 932) : lwG p l e s m below meth c A b i D q ad h Z 208 := by
  obtain ⟨hx, hb, hml, hown, hts, hX, hbl, hbA, hL, hi, hG, hZ⟩ := C0
  intro xx x H locs hR hP hD hS ls hl
  refine lv_aload_n hx hb dL_law_208 rfl (lv_at hl 1 rfl) ?_
  refine lw_rd (k := 1) (b := b) (o1 := ad 9 0) (o2 := h 0) hx hb hX hbl hbA hL hl hS (by decide) (by omega) dL_law_209 dL_law_210 dL_law_211 dL_law_212 dL_law_213 ?_
  refine lw_rd (k := 2) (b := b) (o1 := ad 9 0) (o2 := h 0) hx hb hX hbl hbA hL hl hS (by decide) (by omega) dL_law_214 dL_law_215 dL_law_216 dL_law_217 dL_law_218 ?_
  refine lw_rd (k := 3) (b := b) (o1 := ad 9 0) (o2 := h 0) hx hb hX hbl hbA hL hl hS (by decide) (by omega) dL_law_219 dL_law_220 dL_law_221 dL_law_222 dL_law_223 ?_
  refine law_mX (v := .int (mX5_wind xx (xs (i + 1)) (xs (i + 2)) (xs (i + 3))).1) (xx' := (mX5_wind xx (xs (i + 1)) (xs (i + 2)) (xs (i + 3))).2) (rest := []) (As := [.int (xs (i + 1)), .int (xs (i + 2)), .int (xs (i + 3))]) hx hb hml hown hts hl (MX5_wind l D q ad xx (xs (i + 1)) (xs (i + 2)) (xs (i + 3)) (rr_rg hR)) gL_law_X5_wind rfl kX5_wind ⟨Nat.le_of_ble_eq_true rfl, Nat.le_of_ble_eq_true rfl⟩ rfl rfl hP hD hS hG rfl rfl (Nat.le_of_ble_eq_true rfl) dL_law_224 ⟨Nat.le_of_ble_eq_true rfl, Nat.le_of_ble_eq_true rfl⟩ (fun H locs hP hD hS => ?_)
  refine lv_aload_n hx hb dL_law_227 rfl (lv_at hl 2 rfl) ?_
  refine lw_rd (k := 1) (b := b) (o1 := ad 9 0) (o2 := h 0) hx hb hX hbl hbA hL hl hS (by decide) (by omega) dL_law_228 dL_law_229 dL_law_230 dL_law_231 dL_law_232 ?_
  refine lw_rd (k := 2) (b := b) (o1 := ad 9 0) (o2 := h 0) hx hb hX hbl hbA hL hl hS (by decide) (by omega) dL_law_233 dL_law_234 dL_law_235 dL_law_236 dL_law_237 ?_
  refine lw_rd (k := 3) (b := b) (o1 := ad 9 0) (o2 := h 0) hx hb hX hbl hbA hL hl hS (by decide) (by omega) dL_law_238 dL_law_239 dL_law_240 dL_law_241 dL_law_242 ?_
  refine law_mM (v := .int (mX6_wind x (xs (i + 1)) (xs (i + 2)) (xs (i + 3))).1) (x' := (mX6_wind x (xs (i + 1)) (xs (i + 2)) (xs (i + 3))).2) (rest := [.int (mX5_wind xx (xs (i + 1)) (xs (i + 2)) (xs (i + 3))).1]) (As := [.int (xs (i + 1)), .int (xs (i + 2)), .int (xs (i + 3))]) hx hb hml hown hts hl (MX6_wind l D q h x (xs (i + 1)) (xs (i + 2)) (xs (i + 3)) (rr_kn hR)) gL_law_X6_wind rfl kX6_wind ⟨Nat.le_of_ble_eq_true rfl, Nat.le_of_ble_eq_true rfl⟩ rfl rfl hP hD hS hG rfl rfl (Nat.le_of_ble_eq_true rfl) dL_law_243 ⟨Nat.le_of_ble_eq_true rfl, Nat.le_of_ble_eq_true rfl⟩ (fun H locs hP hD hS => ?_)
  have E := a_wind hR (xs (i + 1)) (xs (i + 2)) (xs (i + 3))
  exact lv_icmp_eq (tgt := 932) hx hb dL_law_246 (by decide) (fun _ => hB _ _ H locs E.2 hP hD hS ls hl) (fun c0 => absurd E.1 c0)
set_option maxHeartbeats 4000000 in
set_option maxRecDepth 100000 in
theorem law_set {p : Program} {l : Launch} {e : Env} {s : State} {m : MethodId} {below : List Frame} {meth : Method} {c : Code} {A : Nat → Prop} {b L i : Nat} {xs : Nat → Int32} {D : va_G} {q z h : Nat → Nat} {ad : Nat → Nat → Nat} {Z : State → Prop} (C0 : lwX p l s m meth c A b L i xs D q z) (hB : lwG p l e s m below meth c A b i D q ad h Z 932) : lwG p l e s m below meth c A b i D q ad h Z 251 := by
  obtain ⟨hx, hb, hml, hown, hts, hX, hbl, hbA, hL, hi, hG, hZ⟩ := C0
  intro xx x H locs hR hP hD hS ls hl
  refine lv_aload_n hx hb dL_law_251 rfl (lv_at hl 1 rfl) ?_
  refine lw_rd (k := 1) (b := b) (o1 := ad 9 0) (o2 := h 0) hx hb hX hbl hbA hL hl hS (by decide) (by omega) dL_law_252 dL_law_253 dL_law_254 dL_law_255 dL_law_256 ?_
  refine lw_rd (k := 2) (b := b) (o1 := ad 9 0) (o2 := h 0) hx hb hX hbl hbA hL hl hS (by decide) (by omega) dL_law_257 dL_law_258 dL_law_259 dL_law_260 dL_law_261 ?_
  refine law_kX (v := .int (mX5_set xx (xs (i + 1)) (xs (i + 2))).1) (xx' := (mX5_set xx (xs (i + 1)) (xs (i + 2))).2) (rest := []) (As := [.int (xs (i + 1)), .int (xs (i + 2))]) hx hb hml hown hts hl (MX5_set l D q ad xx (xs (i + 1)) (xs (i + 2)) z (rr_rg hR)) gL_law_X5_set rfl kX5_set ⟨Nat.le_of_ble_eq_true rfl, Nat.le_of_ble_eq_true rfl⟩ rfl rfl hZ hP hD hS hG rfl rfl (Nat.le_of_ble_eq_true rfl) dL_law_262 ⟨Nat.le_of_ble_eq_true rfl, Nat.le_of_ble_eq_true rfl⟩ (fun H locs hP hD hS => ?_)
  refine lv_aload_n hx hb dL_law_265 rfl (lv_at hl 2 rfl) ?_
  refine lw_rd (k := 1) (b := b) (o1 := ad 9 0) (o2 := h 0) hx hb hX hbl hbA hL hl hS (by decide) (by omega) dL_law_266 dL_law_267 dL_law_268 dL_law_269 dL_law_270 ?_
  refine lw_rd (k := 2) (b := b) (o1 := ad 9 0) (o2 := h 0) hx hb hX hbl hbA hL hl hS (by decide) (by omega) dL_law_271 dL_law_272 dL_law_273 dL_law_274 dL_law_275 ?_
  refine law_mM (v := .int (mX6_set x (xs (i + 1)) (xs (i + 2))).1) (x' := (mX6_set x (xs (i + 1)) (xs (i + 2))).2) (rest := [.int (mX5_set xx (xs (i + 1)) (xs (i + 2))).1]) (As := [.int (xs (i + 1)), .int (xs (i + 2))]) hx hb hml hown hts hl (MX6_set l D q h x (xs (i + 1)) (xs (i + 2)) (rr_kn hR)) gL_law_X6_set rfl kX6_set ⟨Nat.le_of_ble_eq_true rfl, Nat.le_of_ble_eq_true rfl⟩ rfl rfl hP hD hS hG rfl rfl (Nat.le_of_ble_eq_true rfl) dL_law_276 ⟨Nat.le_of_ble_eq_true rfl, Nat.le_of_ble_eq_true rfl⟩ (fun H locs hP hD hS => ?_)
  have E := a_set hR (xs (i + 1)) (xs (i + 2))
  exact lv_icmp_eq (tgt := 932) hx hb dL_law_279 (by decide) (fun _ => hB _ _ H locs E.2 hP hD hS ls hl) (fun c0 => absurd E.1 c0)
set_option maxHeartbeats 4000000 in
set_option maxRecDepth 100000 in
theorem law_doAll {p : Program} {l : Launch} {e : Env} {s : State} {m : MethodId} {below : List Frame} {meth : Method} {c : Code} {A : Nat → Prop} {b L i : Nat} {xs : Nat → Int32} {D : va_G} {q z h : Nat → Nat} {ad : Nat → Nat → Nat} {Z : State → Prop} (C0 : lwX p l s m meth c A b L i xs D q z) (hB : lwG p l e s m below meth c A b i D q ad h Z 932) : lwG p l e s m below meth c A b i D q ad h Z 284 := by
  obtain ⟨hx, hb, hml, hown, hts, hX, hbl, hbA, hL, hi, hG, hZ⟩ := C0
  intro xx x H locs hR hP hD hS ls hl
  refine lv_aload_n hx hb dL_law_284 rfl (lv_at hl 1 rfl) ?_
  refine law_mX (v := .int (mX5_doAll xx ).1) (xx' := (mX5_doAll xx ).2) (rest := []) (As := []) hx hb hml hown hts hl (MX5_doAll l D q ad xx  (rr_rg hR) (rr_ch hR) (rr_l7 hR)) gL_law_X5_doAll rfl kX5_doAll ⟨Nat.le_of_ble_eq_true rfl, Nat.le_of_ble_eq_true rfl⟩ rfl rfl hP hD hS hG rfl rfl (Nat.le_of_ble_eq_true rfl) dL_law_285 ⟨Nat.le_of_ble_eq_true rfl, Nat.le_of_ble_eq_true rfl⟩ (fun H locs hP hD hS => ?_)
  refine lv_aload_n hx hb dL_law_288 rfl (lv_at hl 2 rfl) ?_
  refine law_mM (v := .int (mX6_doAll x ).1) (x' := (mX6_doAll x ).2) (rest := [.int (mX5_doAll xx ).1]) (As := []) hx hb hml hown hts hl (MX6_doAll l D q h x  (rr_cnt hR) (rr_kn hR) (rr_len hR)) gL_law_X6_doAll rfl kX6_doAll ⟨Nat.le_of_ble_eq_true rfl, Nat.le_of_ble_eq_true rfl⟩ rfl rfl hP hD hS hG rfl rfl (Nat.le_of_ble_eq_true rfl) dL_law_289 ⟨Nat.le_of_ble_eq_true rfl, Nat.le_of_ble_eq_true rfl⟩ (fun H locs hP hD hS => ?_)
  have E := a_doAll hR
  exact lv_icmp_eq (tgt := 932) hx hb dL_law_292 (by decide) (fun _ => hB _ _ H locs E.2 hP hD hS ls hl) (fun c0 => absurd E.1 c0)
set_option maxHeartbeats 4000000 in
set_option maxRecDepth 100000 in
theorem law_complain {p : Program} {l : Launch} {e : Env} {s : State} {m : MethodId} {below : List Frame} {meth : Method} {c : Code} {A : Nat → Prop} {b L i : Nat} {xs : Nat → Int32} {D : va_G} {q z h : Nat → Nat} {ad : Nat → Nat → Nat} {Z : State → Prop} (C0 : lwX p l s m meth c A b L i xs D q z) (hB : lwG p l e s m below meth c A b i D q ad h Z 932) : lwG p l e s m below meth c A b i D q ad h Z 297 := by
  obtain ⟨hx, hb, hml, hown, hts, hX, hbl, hbA, hL, hi, hG, hZ⟩ := C0
  intro xx x H locs hR hP hD hS ls hl
  refine lv_aload_n hx hb dL_law_297 rfl (lv_at hl 1 rfl) ?_
  refine lw_rd (k := 1) (b := b) (o1 := ad 9 0) (o2 := h 0) hx hb hX hbl hbA hL hl hS (by decide) (by omega) dL_law_298 dL_law_299 dL_law_300 dL_law_301 dL_law_302 ?_
  refine lw_rd (k := 2) (b := b) (o1 := ad 9 0) (o2 := h 0) hx hb hX hbl hbA hL hl hS (by decide) (by omega) dL_law_303 dL_law_304 dL_law_305 dL_law_306 dL_law_307 ?_
  refine lw_rd (k := 3) (b := b) (o1 := ad 9 0) (o2 := h 0) hx hb hX hbl hbA hL hl hS (by decide) (by omega) dL_law_308 dL_law_309 dL_law_310 dL_law_311 dL_law_312 ?_
  refine lw_rd (k := 4) (b := b) (o1 := ad 9 0) (o2 := h 0) hx hb hX hbl hbA hL hl hS (by decide) (by omega) dL_law_313 dL_law_314 dL_law_315 dL_law_316 dL_law_317 ?_
  refine law_mX (v := .int (mX5_complain xx (xs (i + 1)) (xs (i + 2)) (xs (i + 3)) (xs (i + 4))).1) (xx' := (mX5_complain xx (xs (i + 1)) (xs (i + 2)) (xs (i + 3)) (xs (i + 4))).2) (rest := []) (As := [.int (xs (i + 1)), .int (xs (i + 2)), .int (xs (i + 3)), .int (xs (i + 4))]) hx hb hml hown hts hl (MX5_complain l D q ad xx (xs (i + 1)) (xs (i + 2)) (xs (i + 3)) (xs (i + 4)) (rr_rg hR)) gL_law_X5_complain rfl kX5_complain ⟨Nat.le_of_ble_eq_true rfl, Nat.le_of_ble_eq_true rfl⟩ rfl rfl hP hD hS hG rfl rfl (Nat.le_of_ble_eq_true rfl) dL_law_318 ⟨Nat.le_of_ble_eq_true rfl, Nat.le_of_ble_eq_true rfl⟩ (fun H locs hP hD hS => ?_)
  refine lv_aload_n hx hb dL_law_321 rfl (lv_at hl 2 rfl) ?_
  refine lw_rd (k := 1) (b := b) (o1 := ad 9 0) (o2 := h 0) hx hb hX hbl hbA hL hl hS (by decide) (by omega) dL_law_322 dL_law_323 dL_law_324 dL_law_325 dL_law_326 ?_
  refine lw_rd (k := 2) (b := b) (o1 := ad 9 0) (o2 := h 0) hx hb hX hbl hbA hL hl hS (by decide) (by omega) dL_law_327 dL_law_328 dL_law_329 dL_law_330 dL_law_331 ?_
  refine lw_rd (k := 3) (b := b) (o1 := ad 9 0) (o2 := h 0) hx hb hX hbl hbA hL hl hS (by decide) (by omega) dL_law_332 dL_law_333 dL_law_334 dL_law_335 dL_law_336 ?_
  refine lw_rd (k := 4) (b := b) (o1 := ad 9 0) (o2 := h 0) hx hb hX hbl hbA hL hl hS (by decide) (by omega) dL_law_337 dL_law_338 dL_law_339 dL_law_340 dL_law_341 ?_
  refine law_mM (v := .int (mX6_complain x (xs (i + 1)) (xs (i + 2)) (xs (i + 3)) (xs (i + 4))).1) (x' := (mX6_complain x (xs (i + 1)) (xs (i + 2)) (xs (i + 3)) (xs (i + 4))).2) (rest := [.int (mX5_complain xx (xs (i + 1)) (xs (i + 2)) (xs (i + 3)) (xs (i + 4))).1]) (As := [.int (xs (i + 1)), .int (xs (i + 2)), .int (xs (i + 3)), .int (xs (i + 4))]) hx hb hml hown hts hl (MX6_complain l D q h x (xs (i + 1)) (xs (i + 2)) (xs (i + 3)) (xs (i + 4)) (rr_cnt hR) (rr_kn hR)) gL_law_X6_complain rfl kX6_complain ⟨Nat.le_of_ble_eq_true rfl, Nat.le_of_ble_eq_true rfl⟩ rfl rfl hP hD hS hG rfl rfl (Nat.le_of_ble_eq_true rfl) dL_law_342 ⟨Nat.le_of_ble_eq_true rfl, Nat.le_of_ble_eq_true rfl⟩ (fun H locs hP hD hS => ?_)
  have E := a_complain hR (xs (i + 1)) (xs (i + 2)) (xs (i + 3)) (xs (i + 4))
  exact lv_icmp_eq (tgt := 932) hx hb dL_law_345 (by decide) (fun _ => hB _ _ H locs E.2 hP hD hS ls hl) (fun c0 => absurd E.1 c0)
set_option maxHeartbeats 4000000 in
set_option maxRecDepth 100000 in
theorem law_sue {p : Program} {l : Launch} {e : Env} {s : State} {m : MethodId} {below : List Frame} {meth : Method} {c : Code} {A : Nat → Prop} {b L i : Nat} {xs : Nat → Int32} {D : va_G} {q z h : Nat → Nat} {ad : Nat → Nat → Nat} {Z : State → Prop} (C0 : lwX p l s m meth c A b L i xs D q z) (hB : lwG p l e s m below meth c A b i D q ad h Z 932) : lwG p l e s m below meth c A b i D q ad h Z 350 := by
  obtain ⟨hx, hb, hml, hown, hts, hX, hbl, hbA, hL, hi, hG, hZ⟩ := C0
  intro xx x H locs hR hP hD hS ls hl
  refine lv_aload_n hx hb dL_law_350 rfl (lv_at hl 1 rfl) ?_
  refine lw_rd (k := 1) (b := b) (o1 := ad 9 0) (o2 := h 0) hx hb hX hbl hbA hL hl hS (by decide) (by omega) dL_law_351 dL_law_352 dL_law_353 dL_law_354 dL_law_355 ?_
  refine lw_rd (k := 2) (b := b) (o1 := ad 9 0) (o2 := h 0) hx hb hX hbl hbA hL hl hS (by decide) (by omega) dL_law_356 dL_law_357 dL_law_358 dL_law_359 dL_law_360 ?_
  refine lw_rd (k := 3) (b := b) (o1 := ad 9 0) (o2 := h 0) hx hb hX hbl hbA hL hl hS (by decide) (by omega) dL_law_361 dL_law_362 dL_law_363 dL_law_364 dL_law_365 ?_
  refine law_mX (v := .int (mX5_sue xx (xs (i + 1)) (xs (i + 2)) (xs (i + 3))).1) (xx' := (mX5_sue xx (xs (i + 1)) (xs (i + 2)) (xs (i + 3))).2) (rest := []) (As := [.int (xs (i + 1)), .int (xs (i + 2)), .int (xs (i + 3))]) hx hb hml hown hts hl (MX5_sue l D q ad xx (xs (i + 1)) (xs (i + 2)) (xs (i + 3)) (rr_rg hR)) gL_law_X5_sue rfl kX5_sue ⟨Nat.le_of_ble_eq_true rfl, Nat.le_of_ble_eq_true rfl⟩ rfl rfl hP hD hS hG rfl rfl (Nat.le_of_ble_eq_true rfl) dL_law_366 ⟨Nat.le_of_ble_eq_true rfl, Nat.le_of_ble_eq_true rfl⟩ (fun H locs hP hD hS => ?_)
  refine lv_aload_n hx hb dL_law_369 rfl (lv_at hl 2 rfl) ?_
  refine lw_rd (k := 1) (b := b) (o1 := ad 9 0) (o2 := h 0) hx hb hX hbl hbA hL hl hS (by decide) (by omega) dL_law_370 dL_law_371 dL_law_372 dL_law_373 dL_law_374 ?_
  refine lw_rd (k := 2) (b := b) (o1 := ad 9 0) (o2 := h 0) hx hb hX hbl hbA hL hl hS (by decide) (by omega) dL_law_375 dL_law_376 dL_law_377 dL_law_378 dL_law_379 ?_
  refine lw_rd (k := 3) (b := b) (o1 := ad 9 0) (o2 := h 0) hx hb hX hbl hbA hL hl hS (by decide) (by omega) dL_law_380 dL_law_381 dL_law_382 dL_law_383 dL_law_384 ?_
  refine law_mM (v := .int (mX6_sue x (xs (i + 1)) (xs (i + 2)) (xs (i + 3))).1) (x' := (mX6_sue x (xs (i + 1)) (xs (i + 2)) (xs (i + 3))).2) (rest := [.int (mX5_sue xx (xs (i + 1)) (xs (i + 2)) (xs (i + 3))).1]) (As := [.int (xs (i + 1)), .int (xs (i + 2)), .int (xs (i + 3))]) hx hb hml hown hts hl (MX6_sue l D q h x (xs (i + 1)) (xs (i + 2)) (xs (i + 3)) (rr_cnt hR) (rr_kn hR)) gL_law_X6_sue rfl kX6_sue ⟨Nat.le_of_ble_eq_true rfl, Nat.le_of_ble_eq_true rfl⟩ rfl rfl hP hD hS hG rfl rfl (Nat.le_of_ble_eq_true rfl) dL_law_385 ⟨Nat.le_of_ble_eq_true rfl, Nat.le_of_ble_eq_true rfl⟩ (fun H locs hP hD hS => ?_)
  have E := a_sue hR (xs (i + 1)) (xs (i + 2)) (xs (i + 3))
  exact lv_icmp_eq (tgt := 932) hx hb dL_law_388 (by decide) (fun _ => hB _ _ H locs E.2 hP hD hS ls hl) (fun c0 => absurd E.1 c0)
