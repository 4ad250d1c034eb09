set_option maxHeartbeats 2000000 in
set_option maxRecDepth 100000 in
theorem lc_0 {D : va_G} {cI cZ cO : ClassId} {ad : Nat → Nat} {p : Program} {l : Launch} {e : Env} {s : State} {m : MethodId} {below : List Frame} {meth : Method} {c : Code} {Q : State → Prop} {b L : Nat} {xs : Nat → Int32} {H : Heap} {locs : List Loc} {ls : Array Slot} {h : mn_H} {i : Nat} (X : lwC D cI cZ cO ad p s m meth c b L xs) (hi : i + 5 ≤ L) (hL : L ≤ 320) (hl : lv_has ls 4 [(0, .ref b), (1, .ref (ad 0)), (2, .ref (ad 63)), (3, .int (nI i))]) (hI : INV h) (S : lwS D cI cZ cO ad s H locs h)
    (kk : ∀ (h2 : mn_H) (H1 : Heap) (locs1 : List Loc), INV h2 → lwS D cI cZ cO ad s H1 locs1 h2 → W p l e room_1 s m #[Value.ref b] below meth c H1 locs1 600000 7302250 Q (F0 m 1044 ls [])) : W p l e room_1 s m #[Value.ref b] below meth c H locs 600000 7302250 Q (F0 m 176 ls []) := by
  have hx := X.1.1
  have hb := X.1.2.1
  obtain ⟨r, h1, h2, e1, e2, hI2⟩ := p_feed (xs (i + 1)) h hI
  refine lv_aload_n hx hb dl_176 rfl (lv_at hl 1 rfl) ?_
  refine k_arg X S hl (k := 1) hi hL (by decide) (by decide) dl_177 dl_178 dl_179 dl_180 dl_181 ?_
  refine k_lc X S hl.1 (C := 64) (i := 13) (a := 0) (vs := [.int (xs (i + 1))]) (rest := []) e1 ⟨by decide, rfl, rfl, Nat.le_of_ble_eq_true rfl, Nat.le_of_ble_eq_true rfl⟩ (by decide +kernel) (Nat.le_of_ble_eq_true rfl) rfl (kLl X.1.2.2.2.2.2.1 (by decide +kernel)) (Nat.le_of_ble_eq_true rfl) rfl dl_182 (fun H locs S => ?_)
  refine lv_aload_n hx hb dl_185 rfl (lv_at hl 2 rfl) ?_
  refine k_arg X S hl (k := 1) hi hL (by decide) (by decide) dl_186 dl_187 dl_188 dl_189 dl_190 ?_
  refine k_lc X S hl.1 (C := 119) (i := 17) (a := 63) (vs := [.int (xs (i + 1))]) (rest := [.int r]) e2 ⟨by decide, rfl, rfl, Nat.le_of_ble_eq_true rfl, Nat.le_of_ble_eq_true rfl⟩ (by decide +kernel) (Nat.le_of_ble_eq_true rfl) rfl (kLl X.1.2.2.2.2.2.1 (by decide +kernel)) (Nat.le_of_ble_eq_true rfl) rfl dl_191 (fun H locs S => ?_)
  exact lv_icmp_eq (tgt := 1044) hx hb dl_194 (by decide) (fun _ => kk h2 H locs hI2 S) (fun cc => absurd rfl cc)
set_option maxHeartbeats 2000000 in
set_option maxRecDepth 100000 in
theorem lc_1 {D : va_G} {cI cZ cO : ClassId} {ad : Nat → Nat} {p : Program} {l : Launch} {e : Env} {s : State} {m : MethodId} {below : List Frame} {meth : Method} {c : Code} {Q : State → Prop} {b L : Nat} {xs : Nat → Int32} {H : Heap} {locs : List Loc} {ls : Array Slot} {h : mn_H} {i : Nat} (X : lwC D cI cZ cO ad p s m meth c b L xs) (hi : i + 5 ≤ L) (hL : L ≤ 320) (hl : lv_has ls 4 [(0, .ref b), (1, .ref (ad 0)), (2, .ref (ad 63)), (3, .int (nI i))]) (hI : INV h) (S : lwS D cI cZ cO ad s H locs h)
    (kk : ∀ (h2 : mn_H) (H1 : Heap) (locs1 : List Loc), INV h2 → lwS D cI cZ cO ad s H1 locs1 h2 → W p l e room_1 s m #[Value.ref b] below meth c H1 locs1 600000 7302250 Q (F0 m 1044 ls [])) : W p l e room_1 s m #[Value.ref b] below meth c H locs 600000 7302250 Q (F0 m 199 ls []) := by
  have hx := X.1.1
  have hb := X.1.2.1
  obtain ⟨r, h1, h2, e1, e2, hI2⟩ := p_town h hI
  refine lv_aload_n hx hb dl_199 rfl (lv_at hl 1 rfl) ?_
  refine k_lc X S hl.1 (C := 65) (i := 18) (a := 0) (vs := []) (rest := []) e1 ⟨by decide, rfl, rfl, Nat.le_of_ble_eq_true rfl, Nat.le_of_ble_eq_true rfl⟩ (by decide +kernel) (Nat.le_of_ble_eq_true rfl) rfl (kLl X.1.2.2.2.2.2.1 (by decide +kernel)) (Nat.le_of_ble_eq_true rfl) rfl dl_200 (fun H locs S => ?_)
  refine lv_aload_n hx hb dl_203 rfl (lv_at hl 2 rfl) ?_
  refine k_lc X S hl.1 (C := 132) (i := 22) (a := 63) (vs := []) (rest := [.int r]) e2 ⟨by decide, rfl, rfl, Nat.le_of_ble_eq_true rfl, Nat.le_of_ble_eq_true rfl⟩ (by decide +kernel) (Nat.le_of_ble_eq_true rfl) rfl (kLl X.1.2.2.2.2.2.1 (by decide +kernel)) (Nat.le_of_ble_eq_true rfl) rfl dl_204 (fun H locs S => ?_)
  exact lv_icmp_eq (tgt := 1044) hx hb dl_207 (by decide) (fun _ => kk h2 H locs hI2 S) (fun cc => absurd rfl cc)
set_option maxHeartbeats 2000000 in
set_option maxRecDepth 100000 in
theorem lc_2 {D : va_G} {cI cZ cO : ClassId} {ad : Nat → Nat} {p : Program} {l : Launch} {e : Env} {s : State} {m : MethodId} {below : List Frame} {meth : Method} {c : Code} {Q : State → Prop} {b L : Nat} {xs : Nat → Int32} {H : Heap} {locs : List Loc} {ls : Array Slot} {h : mn_H} {i : Nat} (X : lwC D cI cZ cO ad p s m meth c b L xs) (hi : i + 5 ≤ L) (hL : L ≤ 320) (hl : lv_has ls 4 [(0, .ref b), (1, .ref (ad 0)), (2, .ref (ad 63)), (3, .int (nI i))]) (hI : INV h) (S : lwS D cI cZ cO ad s H locs h)
    (kk : ∀ (h2 : mn_H) (H1 : Heap) (locs1 : List Loc), INV h2 → lwS D cI cZ cO ad s H1 locs1 h2 → W p l e room_1 s m #[Value.ref b] below meth c H1 locs1 600000 7302250 Q (F0 m 1044 ls [])) : W p l e room_1 s m #[Value.ref b] below meth c H locs 600000 7302250 Q (F0 m 212 ls []) := by
  have hx := X.1.1
  have hb := X.1.2.1
  obtain ⟨r, h1, h2, e1, e2, hI2⟩ := p_fault h hI
  refine lv_aload_n hx hb dl_212 rfl (lv_at hl 1 rfl) ?_
  refine k_lc X S hl.1 (C := 66) (i := 23) (a := 0) (vs := []) (rest := []) e1 ⟨by decide, rfl, rfl, Nat.le_of_ble_eq_true rfl, Nat.le_of_ble_eq_true rfl⟩ (by decide +kernel) (Nat.le_of_ble_eq_true rfl) rfl (kLl X.1.2.2.2.2.2.1 (by decide +kernel)) (Nat.le_of_ble_eq_true rfl) rfl dl_213 (fun H locs S => ?_)
  refine lv_aload_n hx hb dl_216 rfl (lv_at hl 2 rfl) ?_
  refine k_lc X S hl.1 (C := 133) (i := 26) (a := 63) (vs := []) (rest := [.int r]) e2 ⟨by decide, rfl, rfl, Nat.le_of_ble_eq_true rfl, Nat.le_of_ble_eq_true rfl⟩ (by decide +kernel) (Nat.le_of_ble_eq_true rfl) rfl (kLl X.1.2.2.2.2.2.1 (by decide +kernel)) (Nat.le_of_ble_eq_true rfl) rfl dl_217 (fun H locs S => ?_)
  exact lv_icmp_eq (tgt := 1044) hx hb dl_220 (by decide) (fun _ => kk h2 H locs hI2 S) (fun cc => absurd rfl cc)
set_option maxHeartbeats 2000000 in
set_option maxRecDepth 100000 in
theorem lc_3 {D : va_G} {cI cZ cO : ClassId} {ad : Nat → Nat} {p : Program} {l : Launch} {e : Env} {s : State} {m : MethodId} {below : List Frame} {meth : Method} {c : Code} {Q : State → Prop} {b L : Nat} {xs : Nat → Int32} {H : Heap} {locs : List Loc} {ls : Array Slot} {h : mn_H} {i : Nat} (X : lwC D cI cZ cO ad p s m meth c b L xs) (hi : i + 5 ≤ L) (hL : L ≤ 320) (hl : lv_has ls 4 [(0, .ref b), (1, .ref (ad 0)), (2, .ref (ad 63)), (3, .int (nI i))]) (hI : INV h) (S : lwS D cI cZ cO ad s H locs h)
    (kk : ∀ (h2 : mn_H) (H1 : Heap) (locs1 : List Loc), INV h2 → lwS D cI cZ cO ad s H1 locs1 h2 → W p l e room_1 s m #[Value.ref b] below meth c H1 locs1 600000 7302250 Q (F0 m 1044 ls [])) : W p l e room_1 s m #[Value.ref b] below meth c H locs 600000 7302250 Q (F0 m 225 ls []) := by
  have hx := X.1.1
  have hb := X.1.2.1
  obtain ⟨r, h1, h2, e1, e2, hI2⟩ := p_told (xs (i + 1)) h hI
  refine lv_aload_n hx hb dl_225 rfl (lv_at hl 1 rfl) ?_
  refine k_arg X S hl (k := 1) hi hL (by decide) (by decide) dl_226 dl_227 dl_228 dl_229 dl_230 ?_
  refine k_lc X S hl.1 (C := 67) (i := 27) (a := 0) (vs := [.int (xs (i + 1))]) (rest := []) e1 ⟨by decide, rfl, rfl, Nat.le_of_ble_eq_true rfl, Nat.le_of_ble_eq_true rfl⟩ (by decide +kernel) (Nat.le_of_ble_eq_true rfl) rfl (kLl X.1.2.2.2.2.2.1 (by decide +kernel)) (Nat.le_of_ble_eq_true rfl) rfl dl_231 (fun H locs S => ?_)
  refine lv_aload_n hx hb dl_234 rfl (lv_at hl 2 rfl) ?_
  refine k_arg X S hl (k := 1) hi hL (by decide) (by decide) dl_235 dl_236 dl_237 dl_238 dl_239 ?_
  refine k_lc X S hl.1 (C := 136) (i := 30) (a := 63) (vs := [.int (xs (i + 1))]) (rest := [.int r]) e2 ⟨by decide, rfl, rfl, Nat.le_of_ble_eq_true rfl, Nat.le_of_ble_eq_true rfl⟩ (by decide +kernel) (Nat.le_of_ble_eq_true rfl) rfl (kLl X.1.2.2.2.2.2.1 (by decide +kernel)) (Nat.le_of_ble_eq_true rfl) rfl dl_240 (fun H locs S => ?_)
  exact lv_icmp_eq (tgt := 1044) hx hb dl_243 (by decide) (fun _ => kk h2 H locs hI2 S) (fun cc => absurd rfl cc)
set_option maxHeartbeats 2000000 in
set_option maxRecDepth 100000 in
theorem lc_4 {D : va_G} {cI cZ cO : ClassId} {ad : Nat → Nat} {p : Program} {l : Launch} {e : Env} {s : State} {m : MethodId} {below : List Frame} {meth : Method} {c : Code} {Q : State → Prop} {b L : Nat} {xs : Nat → Int32} {H : Heap} {locs : List Loc} {ls : Array Slot} {h : mn_H} {i : Nat} (X : lwC D cI cZ cO ad p s m meth c b L xs) (hi : i + 5 ≤ L) (hL : L ≤ 320) (hl : lv_has ls 4 [(0, .ref b), (1, .ref (ad 0)), (2, .ref (ad 63)), (3, .int (nI i))]) (hI : INV h) (S : lwS D cI cZ cO ad s H locs h)
    (kk : ∀ (h2 : mn_H) (H1 : Heap) (locs1 : List Loc), INV h2 → lwS D cI cZ cO ad s H1 locs1 h2 → W p l e room_1 s m #[Value.ref b] below meth c H1 locs1 600000 7302250 Q (F0 m 1044 ls [])) : W p l e room_1 s m #[Value.ref b] below meth c H locs 600000 7302250 Q (F0 m 248 ls []) := by
  have hx := X.1.1
  have hb := X.1.2.1
  obtain ⟨r, h1, h2, e1, e2, hI2⟩ := p_bell (xs (i + 1)) (xs (i + 2)) h hI
  refine lv_aload_n hx hb dl_248 rfl (lv_at hl 1 rfl) ?_
  refine k_arg X S hl (k := 1) hi hL (by decide) (by decide) dl_249 dl_250 dl_251 dl_252 dl_253 ?_
  refine k_arg X S hl (k := 2) hi hL (by decide) (by decide) dl_254 dl_255 dl_256 dl_257 dl_258 ?_
  refine k_lc X S hl.1 (C := 68) (i := 31) (a := 0) (vs := [.int (xs (i + 1)), .int (xs (i + 2))]) (rest := []) e1 ⟨by decide, rfl, rfl, Nat.le_of_ble_eq_true rfl, Nat.le_of_ble_eq_true rfl⟩ (by decide +kernel) (Nat.le_of_ble_eq_true rfl) rfl (kLl X.1.2.2.2.2.2.1 (by decide +kernel)) (Nat.le_of_ble_eq_true rfl) rfl dl_259 (fun H locs S => ?_)
  refine lv_aload_n hx hb dl_262 rfl (lv_at hl 2 rfl) ?_
  refine k_arg X S hl (k := 1) hi hL (by decide) (by decide) dl_263 dl_264 dl_265 dl_266 dl_267 ?_
  refine k_arg X S hl (k := 2) hi hL (by decide) (by decide) dl_268 dl_269 dl_270 dl_271 dl_272 ?_
  refine k_lc X S hl.1 (C := 137) (i := 35) (a := 63) (vs := [.int (xs (i + 1)), .int (xs (i + 2))]) (rest := [.int r]) e2 ⟨by decide, rfl, rfl, Nat.le_of_ble_eq_true rfl, Nat.le_of_ble_eq_true rfl⟩ (by decide +kernel) (Nat.le_of_ble_eq_true rfl) rfl (kLl X.1.2.2.2.2.2.1 (by decide +kernel)) (Nat.le_of_ble_eq_true rfl) rfl dl_273 (fun H locs S => ?_)
  exact lv_icmp_eq (tgt := 1044) hx hb dl_276 (by decide) (fun _ => kk h2 H locs hI2 S) (fun cc => absurd rfl cc)
set_option maxHeartbeats 2000000 in
set_option maxRecDepth 100000 in
theorem lc_5 {D : va_G} {cI cZ cO : ClassId} {ad : Nat → Nat} {p : Program} {l : Launch} {e : Env} {s : State} {m : MethodId} {below : List Frame} {meth : Method} {c : Code} {Q : State → Prop} {b L : Nat} {xs : Nat → Int32} {H : Heap} {locs : List Loc} {ls : Array Slot} {h : mn_H} {i : Nat} (X : lwC D cI cZ cO ad p s m meth c b L xs) (hi : i + 5 ≤ L) (hL : L ≤ 320) (hl : lv_has ls 4 [(0, .ref b), (1, .ref (ad 0)), (2, .ref (ad 63)), (3, .int (nI i))]) (hI : INV h) (S : lwS D cI cZ cO ad s H locs h)
    (kk : ∀ (h2 : mn_H) (H1 : Heap) (locs1 : List Loc), INV h2 → lwS D cI cZ cO ad s H1 locs1 h2 → W p l e room_1 s m #[Value.ref b] below meth c H1 locs1 600000 7302250 Q (F0 m 1044 ls [])) : W p l e room_1 s m #[Value.ref b] below meth c H locs 600000 7302250 Q (F0 m 281 ls []) := by
  have hx := X.1.1
  have hb := X.1.2.1
  obtain ⟨r, h1, h2, e1, e2, hI2⟩ := p_group (xs (i + 1)) (xs (i + 2)) h hI
  refine lv_aload_n hx hb dl_281 rfl (lv_at hl 1 rfl) ?_
  refine k_arg X S hl (k := 1) hi hL (by decide) (by decide) dl_282 dl_283 dl_284 dl_285 dl_286 ?_
  refine k_arg X S hl (k := 2) hi hL (by decide) (by decide) dl_287 dl_288 dl_289 dl_290 dl_291 ?_
  refine k_lc X S hl.1 (C := 69) (i := 36) (a := 0) (vs := [.int (xs (i + 1)), .int (xs (i + 2))]) (rest := []) e1 ⟨by decide, rfl, rfl, Nat.le_of_ble_eq_true rfl, Nat.le_of_ble_eq_true rfl⟩ (by decide +kernel) (Nat.le_of_ble_eq_true rfl) rfl (kLl X.1.2.2.2.2.2.1 (by decide +kernel)) (Nat.le_of_ble_eq_true rfl) rfl dl_292 (fun H locs S => ?_)
  refine lv_aload_n hx hb dl_295 rfl (lv_at hl 2 rfl) ?_
  refine k_arg X S hl (k := 1) hi hL (by decide) (by decide) dl_296 dl_297 dl_298 dl_299 dl_300 ?_
  refine k_arg X S hl (k := 2) hi hL (by decide) (by decide) dl_301 dl_302 dl_303 dl_304 dl_305 ?_
  refine k_lc X S hl.1 (C := 138) (i := 39) (a := 63) (vs := [.int (xs (i + 1)), .int (xs (i + 2))]) (rest := [.int r]) e2 ⟨by decide, rfl, rfl, Nat.le_of_ble_eq_true rfl, Nat.le_of_ble_eq_true rfl⟩ (by decide +kernel) (Nat.le_of_ble_eq_true rfl) rfl (kLl X.1.2.2.2.2.2.1 (by decide +kernel)) (Nat.le_of_ble_eq_true rfl) rfl dl_306 (fun H locs S => ?_)
  exact lv_icmp_eq (tgt := 1044) hx hb dl_309 (by decide) (fun _ => kk h2 H locs hI2 S) (fun cc => absurd rfl cc)
set_option maxHeartbeats 2000000 in
set_option maxRecDepth 100000 in
theorem lc_6 {D : va_G} {cI cZ cO : ClassId} {ad : Nat → Nat} {p : Program} {l : Launch} {e : Env} {s : State} {m : MethodId} {below : List Frame} {meth : Method} {c : Code} {Q : State → Prop} {b L : Nat} {xs : Nat → Int32} {H : Heap} {locs : List Loc} {ls : Array Slot} {h : mn_H} {i : Nat} (X : lwC D cI cZ cO ad p s m meth c b L xs) (hi : i + 5 ≤ L) (hL : L ≤ 320) (hl : lv_has ls 4 [(0, .ref b), (1, .ref (ad 0)), (2, .ref (ad 63)), (3, .int (nI i))]) (hI : INV h) (S : lwS D cI cZ cO ad s H locs h)
    (kk : ∀ (h2 : mn_H) (H1 : Heap) (locs1 : List Loc), INV h2 → lwS D cI cZ cO ad s H1 locs1 h2 → W p l e room_1 s m #[Value.ref b] below meth c H1 locs1 600000 7302250 Q (F0 m 1044 ls [])) : W p l e room_1 s m #[Value.ref b] below meth c H locs 600000 7302250 Q (F0 m 314 ls []) := by
  have hx := X.1.1
  have hb := X.1.2.1
  obtain ⟨r, h1, h2, e1, e2, hI2⟩ := p_harm (xs (i + 1)) h hI
  refine lv_aload_n hx hb dl_314 rfl (lv_at hl 1 rfl) ?_
  refine k_arg X S hl (k := 1) hi hL (by decide) (by decide) dl_315 dl_316 dl_317 dl_318 dl_319 ?_
  refine k_lc X S hl.1 (C := 70) (i := 40) (a := 0) (vs := [.int (xs (i + 1))]) (rest := []) e1 ⟨by decide, rfl, rfl, Nat.le_of_ble_eq_true rfl, Nat.le_of_ble_eq_true rfl⟩ (by decide +kernel) (Nat.le_of_ble_eq_true rfl) rfl (kLl X.1.2.2.2.2.2.1 (by decide +kernel)) (Nat.le_of_ble_eq_true rfl) rfl dl_320 (fun H locs S => ?_)
  refine lv_aload_n hx hb dl_323 rfl (lv_at hl 2 rfl) ?_
  refine k_arg X S hl (k := 1) hi hL (by decide) (by decide) dl_324 dl_325 dl_326 dl_327 dl_328 ?_
  refine k_lc X S hl.1 (C := 140) (i := 43) (a := 63) (vs := [.int (xs (i + 1))]) (rest := [.int r]) e2 ⟨by decide, rfl, rfl, Nat.le_of_ble_eq_true rfl, Nat.le_of_ble_eq_true rfl⟩ (by decide +kernel) (Nat.le_of_ble_eq_true rfl) rfl (kLl X.1.2.2.2.2.2.1 (by decide +kernel)) (Nat.le_of_ble_eq_true rfl) rfl dl_329 (fun H locs S => ?_)
  exact lv_icmp_eq (tgt := 1044) hx hb dl_332 (by decide) (fun _ => kk h2 H locs hI2 S) (fun cc => absurd rfl cc)
set_option maxHeartbeats 2000000 in
set_option maxRecDepth 100000 in
theorem lc_7 {D : va_G} {cI cZ cO : ClassId} {ad : Nat → Nat} {p : Program} {l : Launch} {e : Env} {s : State} {m : MethodId} {below : List Frame} {meth : Method} {c : Code} {Q : State → Prop} {b L : Nat} {xs : Nat → Int32} {H : Heap} {locs : List Loc} {ls : Array Slot} {h : mn_H} {i : Nat} (X : lwC D cI cZ cO ad p s m meth c b L xs) (hi : i + 5 ≤ L) (hL : L ≤ 320) (hl : lv_has ls 4 [(0, .ref b), (1, .ref (ad 0)), (2, .ref (ad 63)), (3, .int (nI i))]) (hI : INV h) (S : lwS D cI cZ cO ad s H locs h)
    (kk : ∀ (h2 : mn_H) (H1 : Heap) (locs1 : List Loc), INV h2 → lwS D cI cZ cO ad s H1 locs1 h2 → W p l e room_1 s m #[Value.ref b] below meth c H1 locs1 600000 7302250 Q (F0 m 1044 ls [])) : W p l e room_1 s m #[Value.ref b] below meth c H locs 600000 7302250 Q (F0 m 337 ls []) := by
  have hx := X.1.1
  have hb := X.1.2.1
  obtain ⟨r, h1, h2, e1, e2, hI2⟩ := p_ring (xs (i + 1)) h hI
  refine lv_aload_n hx hb dl_337 rfl (lv_at hl 1 rfl) ?_
  refine k_arg X S hl (k := 1) hi hL (by decide) (by decide) dl_338 dl_339 dl_340 dl_341 dl_342 ?_
  refine k_lc X S hl.1 (C := 71) (i := 44) (a := 0) (vs := [.int (xs (i + 1))]) (rest := []) e1 ⟨by decide, rfl, rfl, Nat.le_of_ble_eq_true rfl, Nat.le_of_ble_eq_true rfl⟩ (by decide +kernel) (Nat.le_of_ble_eq_true rfl) rfl (kLl X.1.2.2.2.2.2.1 (by decide +kernel)) (Nat.le_of_ble_eq_true rfl) rfl dl_343 (fun H locs S => ?_)
  refine lv_aload_n hx hb dl_346 rfl (lv_at hl 2 rfl) ?_
  refine k_arg X S hl (k := 1) hi hL (by decide) (by decide) dl_347 dl_348 dl_349 dl_350 dl_351 ?_
  refine k_lc X S hl.1 (C := 148) (i := 47) (a := 63) (vs := [.int (xs (i + 1))]) (rest := [.int r]) e2 ⟨by decide, rfl, rfl, Nat.le_of_ble_eq_true rfl, Nat.le_of_ble_eq_true rfl⟩ (by decide +kernel) (Nat.le_of_ble_eq_true rfl) rfl (kLl X.1.2.2.2.2.2.1 (by decide +kernel)) (Nat.le_of_ble_eq_true rfl) rfl dl_352 (fun H locs S => ?_)
  exact lv_icmp_eq (tgt := 1044) hx hb dl_355 (by decide) (fun _ => kk h2 H locs hI2 S) (fun cc => absurd rfl cc)
set_option maxHeartbeats 2000000 in
set_option maxRecDepth 100000 in
theorem lc_8 {D : va_G} {cI cZ cO : ClassId} {ad : Nat → Nat} {p : Program} {l : Launch} {e : Env} {s : State} {m : MethodId} {below : List Frame} {meth : Method} {c : Code} {Q : State → Prop} {b L : Nat} {xs : Nat → Int32} {H : Heap} {locs : List Loc} {ls : Array Slot} {h : mn_H} {i : Nat} (X : lwC D cI cZ cO ad p s m meth c b L xs) (hi : i + 5 ≤ L) (hL : L ≤ 320) (hl : lv_has ls 4 [(0, .ref b), (1, .ref (ad 0)), (2, .ref (ad 63)), (3, .int (nI i))]) (hI : INV h) (S : lwS D cI cZ cO ad s H locs h)
    (kk : ∀ (h2 : mn_H) (H1 : Heap) (locs1 : List Loc), INV h2 → lwS D cI cZ cO ad s H1 locs1 h2 → W p l e room_1 s m #[Value.ref b] below meth c H1 locs1 600000 7302250 Q (F0 m 1044 ls [])) : W p l e room_1 s m #[Value.ref b] below meth c H locs 600000 7302250 Q (F0 m 360 ls []) := by
  have hx := X.1.1
  have hb := X.1.2.1
  obtain ⟨r, h1, h2, e1, e2, hI2⟩ := p_done (xs (i + 1)) (xs (i + 2)) h hI
  refine lv_aload_n hx hb dl_360 rfl (lv_at hl 1 rfl) ?_
  refine k_arg X S hl (k := 1) hi hL (by decide) (by decide) dl_361 dl_362 dl_363 dl_364 dl_365 ?_
  refine k_arg X S hl (k := 2) hi hL (by decide) (by decide) dl_366 dl_367 dl_368 dl_369 dl_370 ?_
  refine k_lc X S hl.1 (C := 72) (i := 48) (a := 0) (vs := [.int (xs (i + 1)), .int (xs (i + 2))]) (rest := []) e1 ⟨by decide, rfl, rfl, Nat.le_of_ble_eq_true rfl, Nat.le_of_ble_eq_true rfl⟩ (by decide +kernel) (Nat.le_of_ble_eq_true rfl) rfl (kLl X.1.2.2.2.2.2.1 (by decide +kernel)) (Nat.le_of_ble_eq_true rfl) rfl dl_371 (fun H locs S => ?_)
  refine lv_aload_n hx hb dl_374 rfl (lv_at hl 2 rfl) ?_
  refine k_arg X S hl (k := 1) hi hL (by decide) (by decide) dl_375 dl_376 dl_377 dl_378 dl_379 ?_
  refine k_arg X S hl (k := 2) hi hL (by decide) (by decide) dl_380 dl_381 dl_382 dl_383 dl_384 ?_
  refine k_lc X S hl.1 (C := 150) (i := 51) (a := 63) (vs := [.int (xs (i + 1)), .int (xs (i + 2))]) (rest := [.int r]) e2 ⟨by decide, rfl, rfl, Nat.le_of_ble_eq_true rfl, Nat.le_of_ble_eq_true rfl⟩ (by decide +kernel) (Nat.le_of_ble_eq_true rfl) rfl (kLl X.1.2.2.2.2.2.1 (by decide +kernel)) (Nat.le_of_ble_eq_true rfl) rfl dl_385 (fun H locs S => ?_)
  exact lv_icmp_eq (tgt := 1044) hx hb dl_388 (by decide) (fun _ => kk h2 H locs hI2 S) (fun cc => absurd rfl cc)
set_option maxHeartbeats 2000000 in
set_option maxRecDepth 100000 in
theorem lc_9 {D : va_G} {cI cZ cO : ClassId} {ad : Nat → Nat} {p : Program} {l : Launch} {e : Env} {s : State} {m : MethodId} {below : List Frame} {meth : Method} {c : Code} {Q : State → Prop} {b L : Nat} {xs : Nat → Int32} {H : Heap} {locs : List Loc} {ls : Array Slot} {h : mn_H} {i : Nat} (X : lwC D cI cZ cO ad p s m meth c b L xs) (hi : i + 5 ≤ L) (hL : L ≤ 320) (hl : lv_has ls 4 [(0, .ref b), (1, .ref (ad 0)), (2, .ref (ad 63)), (3, .int (nI i))]) (hI : INV h) (S : lwS D cI cZ cO ad s H locs h)
    (kk : ∀ (h2 : mn_H) (H1 : Heap) (locs1 : List Loc), INV h2 → lwS D cI cZ cO ad s H1 locs1 h2 → W p l e room_1 s m #[Value.ref b] below meth c H1 locs1 600000 7302250 Q (F0 m 1044 ls [])) : W p l e room_1 s m #[Value.ref b] below meth c H locs 600000 7302250 Q (F0 m 393 ls []) := by
  have hx := X.1.1
  have hb := X.1.2.1
  obtain ⟨r, h1, h2, e1, e2, hI2⟩ := p_comes (xs (i + 1)) h hI
  refine lv_aload_n hx hb dl_393 rfl (lv_at hl 1 rfl) ?_
  refine k_arg X S hl (k := 1) hi hL (by decide) (by decide) dl_394 dl_395 dl_396 dl_397 dl_398 ?_
  refine k_lc X S hl.1 (C := 73) (i := 52) (a := 0) (vs := [.int (xs (i + 1))]) (rest := []) e1 ⟨by decide, rfl, rfl, Nat.le_of_ble_eq_true rfl, Nat.le_of_ble_eq_true rfl⟩ (by decide +kernel) (Nat.le_of_ble_eq_true rfl) rfl (kLl X.1.2.2.2.2.2.1 (by decide +kernel)) (Nat.le_of_ble_eq_true rfl) rfl dl_399 (fun H locs S => ?_)
  refine lv_aload_n hx hb dl_402 rfl (lv_at hl 2 rfl) ?_
  refine k_arg X S hl (k := 1) hi hL (by decide) (by decide) dl_403 dl_404 dl_405 dl_406 dl_407 ?_
  refine k_lc X S hl.1 (C := 151) (i := 55) (a := 63) (vs := [.int (xs (i + 1))]) (rest := [.int r]) e2 ⟨by decide, rfl, rfl, Nat.le_of_ble_eq_true rfl, Nat.le_of_ble_eq_true rfl⟩ (by decide +kernel) (Nat.le_of_ble_eq_true rfl) rfl (kLl X.1.2.2.2.2.2.1 (by decide +kernel)) (Nat.le_of_ble_eq_true rfl) rfl dl_408 (fun H locs S => ?_)
  exact lv_icmp_eq (tgt := 1044) hx hb dl_411 (by decide) (fun _ => kk h2 H locs hI2 S) (fun cc => absurd rfl cc)
set_option maxHeartbeats 2000000 in
set_option maxRecDepth 100000 in
theorem lc_10 {D : va_G} {cI cZ cO : ClassId} {ad : Nat → Nat} {p : Program} {l : Launch} {e : Env} {s : State} {m : MethodId} {below : List Frame} {meth : Method} {c : Code} {Q : State → Prop} {b L : Nat} {xs : Nat → Int32} {H : Heap} {locs : List Loc} {ls : Array Slot} {h : mn_H} {i : Nat} (X : lwC D cI cZ cO ad p s m meth c b L xs) (hi : i + 5 ≤ L) (hL : L ≤ 320) (hl : lv_has ls 4 [(0, .ref b), (1, .ref (ad 0)), (2, .ref (ad 63)), (3, .int (nI i))]) (hI : INV h) (S : lwS D cI cZ cO ad s H locs h)
    (kk : ∀ (h2 : mn_H) (H1 : Heap) (locs1 : List Loc), INV h2 → lwS D cI cZ cO ad s H1 locs1 h2 → W p l e room_1 s m #[Value.ref b] below meth c H1 locs1 600000 7302250 Q (F0 m 1044 ls [])) : W p l e room_1 s m #[Value.ref b] below meth c H locs 600000 7302250 Q (F0 m 416 ls []) := by
  have hx := X.1.1
  have hb := X.1.2.1
  obtain ⟨r, h1, h2, e1, e2, hI2⟩ := p_could (xs (i + 1)) h hI
  refine lv_aload_n hx hb dl_416 rfl (lv_at hl 1 rfl) ?_
  refine k_arg X S hl (k := 1) hi hL (by decide) (by decide) dl_417 dl_418 dl_419 dl_420 dl_421 ?_
  refine k_lc X S hl.1 (C := 74) (i := 56) (a := 0) (vs := [.int (xs (i + 1))]) (rest := []) e1 ⟨by decide, rfl, rfl, Nat.le_of_ble_eq_true rfl, Nat.le_of_ble_eq_true rfl⟩ (by decide +kernel) (Nat.le_of_ble_eq_true rfl) rfl (kLl X.1.2.2.2.2.2.1 (by decide +kernel)) (Nat.le_of_ble_eq_true rfl) rfl dl_422 (fun H locs S => ?_)
  refine lv_aload_n hx hb dl_425 rfl (lv_at hl 2 rfl) ?_
  refine k_arg X S hl (k := 1) hi hL (by decide) (by decide) dl_426 dl_427 dl_428 dl_429 dl_430 ?_
  refine k_lc X S hl.1 (C := 152) (i := 59) (a := 63) (vs := [.int (xs (i + 1))]) (rest := [.int r]) e2 ⟨by decide, rfl, rfl, Nat.le_of_ble_eq_true rfl, Nat.le_of_ble_eq_true rfl⟩ (by decide +kernel) (Nat.le_of_ble_eq_true rfl) rfl (kLl X.1.2.2.2.2.2.1 (by decide +kernel)) (Nat.le_of_ble_eq_true rfl) rfl dl_431 (fun H locs S => ?_)
  exact lv_icmp_eq (tgt := 1044) hx hb dl_434 (by decide) (fun _ => kk h2 H locs hI2 S) (fun cc => absurd rfl cc)
set_option maxHeartbeats 2000000 in
set_option maxRecDepth 100000 in
theorem lc_11 {D : va_G} {cI cZ cO : ClassId} {ad : Nat → Nat} {p : Program} {l : Launch} {e : Env} {s : State} {m : MethodId} {below : List Frame} {meth : Method} {c : Code} {Q : State → Prop} {b L : Nat} {xs : Nat → Int32} {H : Heap} {locs : List Loc} {ls : Array Slot} {h : mn_H} {i : Nat} (X : lwC D cI cZ cO ad p s m meth c b L xs) (hi : i + 5 ≤ L) (hL : L ≤ 320) (hl : lv_has ls 4 [(0, .ref b), (1, .ref (ad 0)), (2, .ref (ad 63)), (3, .int (nI i))]) (hI : INV h) (S : lwS D cI cZ cO ad s H locs h)
    (kk : ∀ (h2 : mn_H) (H1 : Heap) (locs1 : List Loc), INV h2 → lwS D cI cZ cO ad s H1 locs1 h2 → W p l e room_1 s m #[Value.ref b] below meth c H1 locs1 600000 7302250 Q (F0 m 1044 ls [])) : W p l e room_1 s m #[Value.ref b] below meth c H locs 600000 7302250 Q (F0 m 439 ls []) := by
  have hx := X.1.1
  have hb := X.1.2.1
  obtain ⟨r, h1, h2, e1, e2, hI2⟩ := p_sure (xs (i + 1)) h hI
  refine lv_aload_n hx hb dl_439 rfl (lv_at hl 1 rfl) ?_
  refine k_arg X S hl (k := 1) hi hL (by decide) (by decide) dl_440 dl_441 dl_442 dl_443 dl_444 ?_
  refine k_lc X S hl.1 (C := 75) (i := 60) (a := 0) (vs := [.int (xs (i + 1))]) (rest := []) e1 ⟨by decide, rfl, rfl, Nat.le_of_ble_eq_true rfl, Nat.le_of_ble_eq_true rfl⟩ (by decide +kernel) (Nat.le_of_ble_eq_true rfl) rfl (kLl X.1.2.2.2.2.2.1 (by decide +kernel)) (Nat.le_of_ble_eq_true rfl) rfl dl_445 (fun H locs S => ?_)
  refine lv_aload_n hx hb dl_448 rfl (lv_at hl 2 rfl) ?_
  refine k_arg X S hl (k := 1) hi hL (by decide) (by decide) dl_449 dl_450 dl_451 dl_452 dl_453 ?_
  refine k_lc X S hl.1 (C := 154) (i := 63) (a := 63) (vs := [.int (xs (i + 1))]) (rest := [.int r]) e2 ⟨by decide, rfl, rfl, Nat.le_of_ble_eq_true rfl, Nat.le_of_ble_eq_true rfl⟩ (by decide +kernel) (Nat.le_of_ble_eq_true rfl) rfl (kLl X.1.2.2.2.2.2.1 (by decide +kernel)) (Nat.le_of_ble_eq_true rfl) rfl dl_454 (fun H locs S => ?_)
  exact lv_icmp_eq (tgt := 1044) hx hb dl_457 (by decide) (fun _ => kk h2 H locs hI2 S) (fun cc => absurd rfl cc)
set_option maxHeartbeats 2000000 in
set_option maxRecDepth 100000 in
theorem lc_12 {D : va_G} {cI cZ cO : ClassId} {ad : Nat → Nat} {p : Program} {l : Launch} {e : Env} {s : State} {m : MethodId} {below : List Frame} {meth : Method} {c : Code} {Q : State → Prop} {b L : Nat} {xs : Nat → Int32} {H : Heap} {locs : List Loc} {ls : Array Slot} {h : mn_H} {i : Nat} (X : lwC D cI cZ cO ad p s m meth c b L xs) (hi : i + 5 ≤ L) (hL : L ≤ 320) (hl : lv_has ls 4 [(0, .ref b), (1, .ref (ad 0)), (2, .ref (ad 63)), (3, .int (nI i))]) (hI : INV h) (S : lwS D cI cZ cO ad s H locs h)
    (kk : ∀ (h2 : mn_H) (H1 : Heap) (locs1 : List Loc), INV h2 → lwS D cI cZ cO ad s H1 locs1 h2 → W p l e room_1 s m #[Value.ref b] below meth c H1 locs1 600000 7302250 Q (F0 m 1044 ls [])) : W p l e room_1 s m #[Value.ref b] below meth c H locs 600000 7302250 Q (F0 m 462 ls []) := by
  have hx := X.1.1
  have hb := X.1.2.1
  obtain ⟨r, h1, h2, e1, e2, hI2⟩ := p_live (xs (i + 1)) h hI
  refine lv_aload_n hx hb dl_462 rfl (lv_at hl 1 rfl) ?_
  refine k_arg X S hl (k := 1) hi hL (by decide) (by decide) dl_463 dl_464 dl_465 dl_466 dl_467 ?_
  refine k_lc X S hl.1 (C := 76) (i := 64) (a := 0) (vs := [.int (xs (i + 1))]) (rest := []) e1 ⟨by decide, rfl, rfl, Nat.le_of_ble_eq_true rfl, Nat.le_of_ble_eq_true rfl⟩ (by decide +kernel) (Nat.le_of_ble_eq_true rfl) rfl (kLl X.1.2.2.2.2.2.1 (by decide +kernel)) (Nat.le_of_ble_eq_true rfl) rfl dl_468 (fun H locs S => ?_)
  refine lv_aload_n hx hb dl_471 rfl (lv_at hl 2 rfl) ?_
  refine k_arg X S hl (k := 1) hi hL (by decide) (by decide) dl_472 dl_473 dl_474 dl_475 dl_476 ?_
  refine k_lc X S hl.1 (C := 155) (i := 67) (a := 63) (vs := [.int (xs (i + 1))]) (rest := [.int r]) e2 ⟨by decide, rfl, rfl, Nat.le_of_ble_eq_true rfl, Nat.le_of_ble_eq_true rfl⟩ (by decide +kernel) (Nat.le_of_ble_eq_true rfl) rfl (kLl X.1.2.2.2.2.2.1 (by decide +kernel)) (Nat.le_of_ble_eq_true rfl) rfl dl_477 (fun H locs S => ?_)
  exact lv_icmp_eq (tgt := 1044) hx hb dl_480 (by decide) (fun _ => kk h2 H locs hI2 S) (fun cc => absurd rfl cc)
set_option maxHeartbeats 2000000 in
set_option maxRecDepth 100000 in
theorem lc_13 {D : va_G} {cI cZ cO : ClassId} {ad : Nat → Nat} {p : Program} {l : Launch} {e : Env} {s : State} {m : MethodId} {below : List Frame} {meth : Method} {c : Code} {Q : State → Prop} {b L : Nat} {xs : Nat → Int32} {H : Heap} {locs : List Loc} {ls : Array Slot} {h : mn_H} {i : Nat} (X : lwC D cI cZ cO ad p s m meth c b L xs) (hi : i + 5 ≤ L) (hL : L ≤ 320) (hl : lv_has ls 4 [(0, .ref b), (1, .ref (ad 0)), (2, .ref (ad 63)), (3, .int (nI i))]) (hI : INV h) (S : lwS D cI cZ cO ad s H locs h)
    (kk : ∀ (h2 : mn_H) (H1 : Heap) (locs1 : List Loc), INV h2 → lwS D cI cZ cO ad s H1 locs1 h2 → W p l e room_1 s m #[Value.ref b] below meth c H1 locs1 600000 7302250 Q (F0 m 1044 ls [])) : W p l e room_1 s m #[Value.ref b] below meth c H locs 600000 7302250 Q (F0 m 485 ls []) := by
  have hx := X.1.1
  have hb := X.1.2.1
  obtain ⟨r, h1, h2, e1, e2, hI2⟩ := p_undo (xs (i + 1)) h hI
  refine lv_aload_n hx hb dl_485 rfl (lv_at hl 1 rfl) ?_
  refine k_arg X S hl (k := 1) hi hL (by decide) (by decide) dl_486 dl_487 dl_488 dl_489 dl_490 ?_
  refine k_lc X S hl.1 (C := 77) (i := 68) (a := 0) (vs := [.int (xs (i + 1))]) (rest := []) e1 ⟨by decide, rfl, rfl, Nat.le_of_ble_eq_true rfl, Nat.le_of_ble_eq_true rfl⟩ (by decide +kernel) (Nat.le_of_ble_eq_true rfl) rfl (kLl X.1.2.2.2.2.2.1 (by decide +kernel)) (Nat.le_of_ble_eq_true rfl) rfl dl_491 (fun H locs S => ?_)
  refine lv_aload_n hx hb dl_494 rfl (lv_at hl 2 rfl) ?_
  refine k_arg X S hl (k := 1) hi hL (by decide) (by decide) dl_495 dl_496 dl_497 dl_498 dl_499 ?_
  refine k_lc X S hl.1 (C := 156) (i := 71) (a := 63) (vs := [.int (xs (i + 1))]) (rest := [.int r]) e2 ⟨by decide, rfl, rfl, Nat.le_of_ble_eq_true rfl, Nat.le_of_ble_eq_true rfl⟩ (by decide +kernel) (Nat.le_of_ble_eq_true rfl) rfl (kLl X.1.2.2.2.2.2.1 (by decide +kernel)) (Nat.le_of_ble_eq_true rfl) rfl dl_500 (fun H locs S => ?_)
  exact lv_icmp_eq (tgt := 1044) hx hb dl_503 (by decide) (fun _ => kk h2 H locs hI2 S) (fun cc => absurd rfl cc)
set_option maxHeartbeats 2000000 in
set_option maxRecDepth 100000 in
theorem lc_14 {D : va_G} {cI cZ cO : ClassId} {ad : Nat → Nat} {p : Program} {l : Launch} {e : Env} {s : State} {m : MethodId} {below : List Frame} {meth : Method} {c : Code} {Q : State → Prop} {b L : Nat} {xs : Nat → Int32} {H : Heap} {locs : List Loc} {ls : Array Slot} {h : mn_H} {i : Nat} (X : lwC D cI cZ cO ad p s m meth c b L xs) (hi : i + 5 ≤ L) (hL : L ≤ 320) (hl : lv_has ls 4 [(0, .ref b), (1, .ref (ad 0)), (2, .ref (ad 63)), (3, .int (nI i))]) (hI : INV h) (S : lwS D cI cZ cO ad s H locs h)
    (kk : ∀ (h2 : mn_H) (H1 : Heap) (locs1 : List Loc), INV h2 → lwS D cI cZ cO ad s H1 locs1 h2 → W p l e room_1 s m #[Value.ref b] below meth c H1 locs1 600000 7302250 Q (F0 m 1044 ls [])) : W p l e room_1 s m #[Value.ref b] below meth c H locs 600000 7302250 Q (F0 m 508 ls []) := by
  have hx := X.1.1
  have hb := X.1.2.1
  obtain ⟨r, h1, h2, e1, e2, hI2⟩ := p_yesterday (xs (i + 1)) h hI
  refine lv_aload_n hx hb dl_508 rfl (lv_at hl 1 rfl) ?_
  refine k_arg X S hl (k := 1) hi hL (by decide) (by decide) dl_509 dl_510 dl_511 dl_512 dl_513 ?_
  refine k_lc X S hl.1 (C := 78) (i := 72) (a := 0) (vs := [.int (xs (i + 1))]) (rest := []) e1 ⟨by decide, rfl, rfl, Nat.le_of_ble_eq_true rfl, Nat.le_of_ble_eq_true rfl⟩ (by decide +kernel) (Nat.le_of_ble_eq_true rfl) rfl (kLl X.1.2.2.2.2.2.1 (by decide +kernel)) (Nat.le_of_ble_eq_true rfl) rfl dl_514 (fun H locs S => ?_)
  refine lv_aload_n hx hb dl_517 rfl (lv_at hl 2 rfl) ?_
  refine k_arg X S hl (k := 1) hi hL (by decide) (by decide) dl_518 dl_519 dl_520 dl_521 dl_522 ?_
  refine k_lc X S hl.1 (C := 157) (i := 75) (a := 63) (vs := [.int (xs (i + 1))]) (rest := [.int r]) e2 ⟨by decide, rfl, rfl, Nat.le_of_ble_eq_true rfl, Nat.le_of_ble_eq_true rfl⟩ (by decide +kernel) (Nat.le_of_ble_eq_true rfl) rfl (kLl X.1.2.2.2.2.2.1 (by decide +kernel)) (Nat.le_of_ble_eq_true rfl) rfl dl_523 (fun H locs S => ?_)
  exact lv_icmp_eq (tgt := 1044) hx hb dl_526 (by decide) (fun _ => kk h2 H locs hI2 S) (fun cc => absurd rfl cc)
set_option maxHeartbeats 2000000 in
set_option maxRecDepth 100000 in
theorem lc_15 {D : va_G} {cI cZ cO : ClassId} {ad : Nat → Nat} {p : Program} {l : Launch} {e : Env} {s : State} {m : MethodId} {below : List Frame} {meth : Method} {c : Code} {Q : State → Prop} {b L : Nat} {xs : Nat → Int32} {H : Heap} {locs : List Loc} {ls : Array Slot} {h : mn_H} {i : Nat} (X : lwC D cI cZ cO ad p s m meth c b L xs) (hi : i + 5 ≤ L) (hL : L ≤ 320) (hl : lv_has ls 4 [(0, .ref b), (1, .ref (ad 0)), (2, .ref (ad 63)), (3, .int (nI i))]) (hI : INV h) (S : lwS D cI cZ cO ad s H locs h)
    (kk : ∀ (h2 : mn_H) (H1 : Heap) (locs1 : List Loc), INV h2 → lwS D cI cZ cO ad s H1 locs1 h2 → W p l e room_1 s m #[Value.ref b] below meth c H1 locs1 600000 7302250 Q (F0 m 1044 ls [])) : W p l e room_1 s m #[Value.ref b] below meth c H locs 600000 7302250 Q (F0 m 531 ls []) := by
  have hx := X.1.1
  have hb := X.1.2.1
  by_cases hz : xs (i + 2) = 0
  · obtain ⟨r, h1, h2, e1, e2, hI2⟩ := p_deaf (xs (i + 1)) (0) h hI
    refine lv_aload_n hx hb dl_531 rfl (lv_at hl 1 rfl) ?_
    refine k_arg X S hl (k := 1) hi hL (by decide) (by decide) dl_532 dl_533 dl_534 dl_535 dl_536 ?_
    refine k_arg X S hl (k := 2) hi hL (by decide) (by decide) dl_537 dl_538 dl_539 dl_540 dl_541 ?_
    refine lv_if_eq (tgt := 549) hx hb dl_542 (by decide) (fun _ => ?_) (fun cc => absurd hz cc)
    refine lv_iconst (v := 0) hx hb dl_549 (by decide) ?_
    refine k_lc X S hl.1 (C := 79) (i := 76) (a := 0) (vs := [.int (xs (i + 1)), .int (0)]) (rest := []) e1 ⟨by decide, rfl, rfl, Nat.le_of_ble_eq_true rfl, Nat.le_of_ble_eq_true rfl⟩ (by decide +kernel) (Nat.le_of_ble_eq_true rfl) rfl (kLl X.1.2.2.2.2.2.1 (by decide +kernel)) (Nat.le_of_ble_eq_true rfl) rfl dl_550 (fun H locs S => ?_)
    refine lv_aload_n hx hb dl_553 rfl (lv_at hl 2 rfl) ?_
    refine k_arg X S hl (k := 1) hi hL (by decide) (by decide) dl_554 dl_555 dl_556 dl_557 dl_558 ?_
    refine k_arg X S hl (k := 2) hi hL (by decide) (by decide) dl_559 dl_560 dl_561 dl_562 dl_563 ?_
    refine lv_if_eq (tgt := 571) hx hb dl_564 (by decide) (fun _ => ?_) (fun cc => absurd hz cc)
    refine lv_iconst (v := 0) hx hb dl_571 (by decide) ?_
    refine k_lc X S hl.1 (C := 158) (i := 80) (a := 63) (vs := [.int (xs (i + 1)), .int (0)]) (rest := [.int r]) e2 ⟨by decide, rfl, rfl, Nat.le_of_ble_eq_true rfl, Nat.le_of_ble_eq_true rfl⟩ (by decide +kernel) (Nat.le_of_ble_eq_true rfl) rfl (kLl X.1.2.2.2.2.2.1 (by decide +kernel)) (Nat.le_of_ble_eq_true rfl) rfl dl_572 (fun H locs S => ?_)
    exact lv_icmp_eq (tgt := 1044) hx hb dl_575 (by decide) (fun _ => kk h2 H locs hI2 S) (fun cc => absurd rfl cc)
  · obtain ⟨r, h1, h2, e1, e2, hI2⟩ := p_deaf (xs (i + 1)) (1) h hI
    refine lv_aload_n hx hb dl_531 rfl (lv_at hl 1 rfl) ?_
    refine k_arg X S hl (k := 1) hi hL (by decide) (by decide) dl_532 dl_533 dl_534 dl_535 dl_536 ?_
    refine k_arg X S hl (k := 2) hi hL (by decide) (by decide) dl_537 dl_538 dl_539 dl_540 dl_541 ?_
    refine lv_if_eq (tgt := 549) hx hb dl_542 (by decide) (fun cc => absurd cc hz) (fun _ => ?_)
    refine lv_iconst (v := 1) hx hb dl_545 (by decide) ?_
    refine lv_goto (tgt := 550) hx hb dl_546 (by decide) ?_
    refine k_lc X S hl.1 (C := 79) (i := 76) (a := 0) (vs := [.int (xs (i + 1)), .int (1)]) (rest := []) e1 ⟨by decide, rfl, rfl, Nat.le_of_ble_eq_true rfl, Nat.le_of_ble_eq_true rfl⟩ (by decide +kernel) (Nat.le_of_ble_eq_true rfl) rfl (kLl X.1.2.2.2.2.2.1 (by decide +kernel)) (Nat.le_of_ble_eq_true rfl) rfl dl_550 (fun H locs S => ?_)
    refine lv_aload_n hx hb dl_553 rfl (lv_at hl 2 rfl) ?_
    refine k_arg X S hl (k := 1) hi hL (by decide) (by decide) dl_554 dl_555 dl_556 dl_557 dl_558 ?_
    refine k_arg X S hl (k := 2) hi hL (by decide) (by decide) dl_559 dl_560 dl_561 dl_562 dl_563 ?_
    refine lv_if_eq (tgt := 571) hx hb dl_564 (by decide) (fun cc => absurd cc hz) (fun _ => ?_)
    refine lv_iconst (v := 1) hx hb dl_567 (by decide) ?_
    refine lv_goto (tgt := 572) hx hb dl_568 (by decide) ?_
    refine k_lc X S hl.1 (C := 158) (i := 80) (a := 63) (vs := [.int (xs (i + 1)), .int (1)]) (rest := [.int r]) e2 ⟨by decide, rfl, rfl, Nat.le_of_ble_eq_true rfl, Nat.le_of_ble_eq_true rfl⟩ (by decide +kernel) (Nat.le_of_ble_eq_true rfl) rfl (kLl X.1.2.2.2.2.2.1 (by decide +kernel)) (Nat.le_of_ble_eq_true rfl) rfl dl_572 (fun H locs S => ?_)
    exact lv_icmp_eq (tgt := 1044) hx hb dl_575 (by decide) (fun _ => kk h2 H locs hI2 S) (fun cc => absurd rfl cc)
set_option maxHeartbeats 2000000 in
set_option maxRecDepth 100000 in
theorem lc_16 {D : va_G} {cI cZ cO : ClassId} {ad : Nat → Nat} {p : Program} {l : Launch} {e : Env} {s : State} {m : MethodId} {below : List Frame} {meth : Method} {c : Code} {Q : State → Prop} {b L : Nat} {xs : Nat → Int32} {H : Heap} {locs : List Loc} {ls : Array Slot} {h : mn_H} {i : Nat} (X : lwC D cI cZ cO ad p s m meth c b L xs) (hi : i + 5 ≤ L) (hL : L ≤ 320) (hl : lv_has ls 4 [(0, .ref b), (1, .ref (ad 0)), (2, .ref (ad 63)), (3, .int (nI i))]) (hI : INV h) (S : lwS D cI cZ cO ad s H locs h)
    (kk : ∀ (h2 : mn_H) (H1 : Heap) (locs1 : List Loc), INV h2 → lwS D cI cZ cO ad s H1 locs1 h2 → W p l e room_1 s m #[Value.ref b] below meth c H1 locs1 600000 7302250 Q (F0 m 1044 ls [])) : W p l e room_1 s m #[Value.ref b] below meth c H locs 600000 7302250 Q (F0 m 580 ls []) := by
  have hx := X.1.1
  have hb := X.1.2.1
  obtain ⟨r, h1, h2, e1, e2, hI2⟩ := p_may (xs (i + 1)) h hI
  refine lv_aload_n hx hb dl_580 rfl (lv_at hl 1 rfl) ?_
  refine k_arg X S hl (k := 1) hi hL (by decide) (by decide) dl_581 dl_582 dl_583 dl_584 dl_585 ?_
  refine k_lc X S hl.1 (C := 80) (i := 81) (a := 0) (vs := [.int (xs (i + 1))]) (rest := []) e1 ⟨by decide, rfl, rfl, Nat.le_of_ble_eq_true rfl, Nat.le_of_ble_eq_true rfl⟩ (by decide +kernel) (Nat.le_of_ble_eq_true rfl) rfl (kLl X.1.2.2.2.2.2.1 (by decide +kernel)) (Nat.le_of_ble_eq_true rfl) rfl dl_586 (fun H locs S => ?_)
  refine lv_aload_n hx hb dl_589 rfl (lv_at hl 2 rfl) ?_
  refine k_arg X S hl (k := 1) hi hL (by decide) (by decide) dl_590 dl_591 dl_592 dl_593 dl_594 ?_
  refine k_lc X S hl.1 (C := 160) (i := 84) (a := 63) (vs := [.int (xs (i + 1))]) (rest := [.int r]) e2 ⟨by decide, rfl, rfl, Nat.le_of_ble_eq_true rfl, Nat.le_of_ble_eq_true rfl⟩ (by decide +kernel) (Nat.le_of_ble_eq_true rfl) rfl (kLl X.1.2.2.2.2.2.1 (by decide +kernel)) (Nat.le_of_ble_eq_true rfl) rfl dl_595 (fun H locs S => ?_)
  exact lv_icmp_eq (tgt := 1044) hx hb dl_598 (by decide) (fun _ => kk h2 H locs hI2 S) (fun cc => absurd rfl cc)
set_option maxHeartbeats 2000000 in
set_option maxRecDepth 100000 in
theorem lc_17 {D : va_G} {cI cZ cO : ClassId} {ad : Nat → Nat} {p : Program} {l : Launch} {e : Env} {s : State} {m : MethodId} {below : List Frame} {meth : Method} {c : Code} {Q : State → Prop} {b L : Nat} {xs : Nat → Int32} {H : Heap} {locs : List Loc} {ls : Array Slot} {h : mn_H} {i : Nat} (X : lwC D cI cZ cO ad p s m meth c b L xs) (hi : i + 5 ≤ L) (hL : L ≤ 320) (hl : lv_has ls 4 [(0, .ref b), (1, .ref (ad 0)), (2, .ref (ad 63)), (3, .int (nI i))]) (hI : INV h) (S : lwS D cI cZ cO ad s H locs h)
    (kk : ∀ (h2 : mn_H) (H1 : Heap) (locs1 : List Loc), INV h2 → lwS D cI cZ cO ad s H1 locs1 h2 → W p l e room_1 s m #[Value.ref b] below meth c H1 locs1 600000 7302250 Q (F0 m 1044 ls [])) : W p l e room_1 s m #[Value.ref b] below meth c H locs 600000 7302250 Q (F0 m 603 ls []) := by
  have hx := X.1.1
  have hb := X.1.2.1
  obtain ⟨r, h1, h2, e1, e2, hI2⟩ := p_drift (xs (i + 1)) h hI
  refine lv_aload_n hx hb dl_603 rfl (lv_at hl 1 rfl) ?_
  refine k_arg X S hl (k := 1) hi hL (by decide) (by decide) dl_604 dl_605 dl_606 dl_607 dl_608 ?_
  refine k_lc X S hl.1 (C := 81) (i := 85) (a := 0) (vs := [.int (xs (i + 1))]) (rest := []) e1 ⟨by decide, rfl, rfl, Nat.le_of_ble_eq_true rfl, Nat.le_of_ble_eq_true rfl⟩ (by decide +kernel) (Nat.le_of_ble_eq_true rfl) rfl (kLl X.1.2.2.2.2.2.1 (by decide +kernel)) (Nat.le_of_ble_eq_true rfl) rfl dl_609 (fun H locs S => ?_)
  refine lv_aload_n hx hb dl_612 rfl (lv_at hl 2 rfl) ?_
  refine k_arg X S hl (k := 1) hi hL (by decide) (by decide) dl_613 dl_614 dl_615 dl_616 dl_617 ?_
  refine k_lc X S hl.1 (C := 162) (i := 88) (a := 63) (vs := [.int (xs (i + 1))]) (rest := [.int r]) e2 ⟨by decide, rfl, rfl, Nat.le_of_ble_eq_true rfl, Nat.le_of_ble_eq_true rfl⟩ (by decide +kernel) (Nat.le_of_ble_eq_true rfl) rfl (kLl X.1.2.2.2.2.2.1 (by decide +kernel)) (Nat.le_of_ble_eq_true rfl) rfl dl_618 (fun H locs S => ?_)
  exact lv_icmp_eq (tgt := 1044) hx hb dl_621 (by decide) (fun _ => kk h2 H locs hI2 S) (fun cc => absurd rfl cc)
set_option maxHeartbeats 2000000 in
set_option maxRecDepth 100000 in
theorem lc_18 {D : va_G} {cI cZ cO : ClassId} {ad : Nat → Nat} {p : Program} {l : Launch} {e : Env} {s : State} {m : MethodId} {below : List Frame} {meth : Method} {c : Code} {Q : State → Prop} {b L : Nat} {xs : Nat → Int32} {H : Heap} {locs : List Loc} {ls : Array Slot} {h : mn_H} {i : Nat} (X : lwC D cI cZ cO ad p s m meth c b L xs) (hi : i + 5 ≤ L) (hL : L ≤ 320) (hl : lv_has ls 4 [(0, .ref b), (1, .ref (ad 0)), (2, .ref (ad 63)), (3, .int (nI i))]) (hI : INV h) (S : lwS D cI cZ cO ad s H locs h)
    (kk : ∀ (h2 : mn_H) (H1 : Heap) (locs1 : List Loc), INV h2 → lwS D cI cZ cO ad s H1 locs1 h2 → W p l e room_1 s m #[Value.ref b] below meth c H1 locs1 600000 7302250 Q (F0 m 1044 ls [])) : W p l e room_1 s m #[Value.ref b] below meth c H locs 600000 7302250 Q (F0 m 626 ls []) := by
  have hx := X.1.1
  have hb := X.1.2.1
  obtain ⟨r, h1, h2, e1, e2, hI2⟩ := p_rule (xs (i + 1)) (xs (i + 2)) h hI
  refine lv_aload_n hx hb dl_626 rfl (lv_at hl 1 rfl) ?_
  refine k_arg X S hl (k := 1) hi hL (by decide) (by decide) dl_627 dl_628 dl_629 dl_630 dl_631 ?_
  refine k_arg X S hl (k := 2) hi hL (by decide) (by decide) dl_632 dl_633 dl_634 dl_635 dl_636 ?_
  refine k_lc X S hl.1 (C := 82) (i := 89) (a := 0) (vs := [.int (xs (i + 1)), .int (xs (i + 2))]) (rest := []) e1 ⟨by decide, rfl, rfl, Nat.le_of_ble_eq_true rfl, Nat.le_of_ble_eq_true rfl⟩ (by decide +kernel) (Nat.le_of_ble_eq_true rfl) rfl (kLl X.1.2.2.2.2.2.1 (by decide +kernel)) (Nat.le_of_ble_eq_true rfl) rfl dl_637 (fun H locs S => ?_)
  refine lv_aload_n hx hb dl_640 rfl (lv_at hl 2 rfl) ?_
  refine k_arg X S hl (k := 1) hi hL (by decide) (by decide) dl_641 dl_642 dl_643 dl_644 dl_645 ?_
  refine k_arg X S hl (k := 2) hi hL (by decide) (by decide) dl_646 dl_647 dl_648 dl_649 dl_650 ?_
  refine k_lc X S hl.1 (C := 164) (i := 92) (a := 63) (vs := [.int (xs (i + 1)), .int (xs (i + 2))]) (rest := [.int r]) e2 ⟨by decide, rfl, rfl, Nat.le_of_ble_eq_true rfl, Nat.le_of_ble_eq_true rfl⟩ (by decide +kernel) (Nat.le_of_ble_eq_true rfl) rfl (kLl X.1.2.2.2.2.2.1 (by decide +kernel)) (Nat.le_of_ble_eq_true rfl) rfl dl_651 (fun H locs S => ?_)
  exact lv_icmp_eq (tgt := 1044) hx hb dl_654 (by decide) (fun _ => kk h2 H locs hI2 S) (fun cc => absurd rfl cc)
set_option maxHeartbeats 2000000 in
set_option maxRecDepth 100000 in
theorem lc_19 {D : va_G} {cI cZ cO : ClassId} {ad : Nat → Nat} {p : Program} {l : Launch} {e : Env} {s : State} {m : MethodId} {below : List Frame} {meth : Method} {c : Code} {Q : State → Prop} {b L : Nat} {xs : Nat → Int32} {H : Heap} {locs : List Loc} {ls : Array Slot} {h : mn_H} {i : Nat} (X : lwC D cI cZ cO ad p s m meth c b L xs) (hi : i + 5 ≤ L) (hL : L ≤ 320) (hl : lv_has ls 4 [(0, .ref b), (1, .ref (ad 0)), (2, .ref (ad 63)), (3, .int (nI i))]) (hI : INV h) (S : lwS D cI cZ cO ad s H locs h)
    (kk : ∀ (h2 : mn_H) (H1 : Heap) (locs1 : List Loc), INV h2 → lwS D cI cZ cO ad s H1 locs1 h2 → W p l e room_1 s m #[Value.ref b] below meth c H1 locs1 600000 7302250 Q (F0 m 1044 ls [])) : W p l e room_1 s m #[Value.ref b] below meth c H locs 600000 7302250 Q (F0 m 659 ls []) := by
  have hx := X.1.1
  have hb := X.1.2.1
  obtain ⟨r, h1, h2, e1, e2, hI2⟩ := p_hush (xs (i + 1)) (xs (i + 2)) h hI
  refine lv_aload_n hx hb dl_659 rfl (lv_at hl 1 rfl) ?_
  refine k_arg X S hl (k := 1) hi hL (by decide) (by decide) dl_660 dl_661 dl_662 dl_663 dl_664 ?_
  refine k_arg X S hl (k := 2) hi hL (by decide) (by decide) dl_665 dl_666 dl_667 dl_668 dl_669 ?_
  refine k_lc X S hl.1 (C := 83) (i := 93) (a := 0) (vs := [.int (xs (i + 1)), .int (xs (i + 2))]) (rest := []) e1 ⟨by decide, rfl, rfl, Nat.le_of_ble_eq_true rfl, Nat.le_of_ble_eq_true rfl⟩ (by decide +kernel) (Nat.le_of_ble_eq_true rfl) rfl (kLl X.1.2.2.2.2.2.1 (by decide +kernel)) (Nat.le_of_ble_eq_true rfl) rfl dl_670 (fun H locs S => ?_)
  refine lv_aload_n hx hb dl_673 rfl (lv_at hl 2 rfl) ?_
  refine k_arg X S hl (k := 1) hi hL (by decide) (by decide) dl_674 dl_675 dl_676 dl_677 dl_678 ?_
  refine k_arg X S hl (k := 2) hi hL (by decide) (by decide) dl_679 dl_680 dl_681 dl_682 dl_683 ?_
  refine k_lc X S hl.1 (C := 165) (i := 96) (a := 63) (vs := [.int (xs (i + 1)), .int (xs (i + 2))]) (rest := [.int r]) e2 ⟨by decide, rfl, rfl, Nat.le_of_ble_eq_true rfl, Nat.le_of_ble_eq_true rfl⟩ (by decide +kernel) (Nat.le_of_ble_eq_true rfl) rfl (kLl X.1.2.2.2.2.2.1 (by decide +kernel)) (Nat.le_of_ble_eq_true rfl) rfl dl_684 (fun H locs S => ?_)
  exact lv_icmp_eq (tgt := 1044) hx hb dl_687 (by decide) (fun _ => kk h2 H locs hI2 S) (fun cc => absurd rfl cc)
set_option maxHeartbeats 2000000 in
set_option maxRecDepth 100000 in
theorem lc_20 {D : va_G} {cI cZ cO : ClassId} {ad : Nat → Nat} {p : Program} {l : Launch} {e : Env} {s : State} {m : MethodId} {below : List Frame} {meth : Method} {c : Code} {Q : State → Prop} {b L : Nat} {xs : Nat → Int32} {H : Heap} {locs : List Loc} {ls : Array Slot} {h : mn_H} {i : Nat} (X : lwC D cI cZ cO ad p s m meth c b L xs) (hi : i + 5 ≤ L) (hL : L ≤ 320) (hl : lv_has ls 4 [(0, .ref b), (1, .ref (ad 0)), (2, .ref (ad 63)), (3, .int (nI i))]) (hI : INV h) (S : lwS D cI cZ cO ad s H locs h)
    (kk : ∀ (h2 : mn_H) (H1 : Heap) (locs1 : List Loc), INV h2 → lwS D cI cZ cO ad s H1 locs1 h2 → W p l e room_1 s m #[Value.ref b] below meth c H1 locs1 600000 7302250 Q (F0 m 1044 ls [])) : W p l e room_1 s m #[Value.ref b] below meth c H locs 600000 7302250 Q (F0 m 692 ls []) := by
  have hx := X.1.1
  have hb := X.1.2.1
  obtain ⟨r, h1, h2, e1, e2, hI2⟩ := p_run (xs (i + 1)) (xs (i + 2)) h hI
  refine lv_aload_n hx hb dl_692 rfl (lv_at hl 1 rfl) ?_
  refine k_arg X S hl (k := 1) hi hL (by decide) (by decide) dl_693 dl_694 dl_695 dl_696 dl_697 ?_
  refine k_arg X S hl (k := 2) hi hL (by decide) (by decide) dl_698 dl_699 dl_700 dl_701 dl_702 ?_
  refine k_lc X S hl.1 (C := 84) (i := 97) (a := 0) (vs := [.int (xs (i + 1)), .int (xs (i + 2))]) (rest := []) e1 ⟨by decide, rfl, rfl, Nat.le_of_ble_eq_true rfl, Nat.le_of_ble_eq_true rfl⟩ (by decide +kernel) (Nat.le_of_ble_eq_true rfl) rfl (kLl X.1.2.2.2.2.2.1 (by decide +kernel)) (Nat.le_of_ble_eq_true rfl) rfl dl_703 (fun H locs S => ?_)
  refine lv_aload_n hx hb dl_706 rfl (lv_at hl 2 rfl) ?_
  refine k_arg X S hl (k := 1) hi hL (by decide) (by decide) dl_707 dl_708 dl_709 dl_710 dl_711 ?_
  refine k_arg X S hl (k := 2) hi hL (by decide) (by decide) dl_712 dl_713 dl_714 dl_715 dl_716 ?_
  refine k_lc X S hl.1 (C := 166) (i := 100) (a := 63) (vs := [.int (xs (i + 1)), .int (xs (i + 2))]) (rest := [.int r]) e2 ⟨by decide, rfl, rfl, Nat.le_of_ble_eq_true rfl, Nat.le_of_ble_eq_true rfl⟩ (by decide +kernel) (Nat.le_of_ble_eq_true rfl) rfl (kLl X.1.2.2.2.2.2.1 (by decide +kernel)) (Nat.le_of_ble_eq_true rfl) rfl dl_717 (fun H locs S => ?_)
  exact lv_icmp_eq (tgt := 1044) hx hb dl_720 (by decide) (fun _ => kk h2 H locs hI2 S) (fun cc => absurd rfl cc)
set_option maxHeartbeats 2000000 in
set_option maxRecDepth 100000 in
theorem lc_21 {D : va_G} {cI cZ cO : ClassId} {ad : Nat → Nat} {p : Program} {l : Launch} {e : Env} {s : State} {m : MethodId} {below : List Frame} {meth : Method} {c : Code} {Q : State → Prop} {b L : Nat} {xs : Nat → Int32} {H : Heap} {locs : List Loc} {ls : Array Slot} {h : mn_H} {i : Nat} (X : lwC D cI cZ cO ad p s m meth c b L xs) (hi : i + 5 ≤ L) (hL : L ≤ 320) (hl : lv_has ls 4 [(0, .ref b), (1, .ref (ad 0)), (2, .ref (ad 63)), (3, .int (nI i))]) (hI : INV h) (S : lwS D cI cZ cO ad s H locs h)
    (kk : ∀ (h2 : mn_H) (H1 : Heap) (locs1 : List Loc), INV h2 → lwS D cI cZ cO ad s H1 locs1 h2 → W p l e room_1 s m #[Value.ref b] below meth c H1 locs1 600000 7302250 Q (F0 m 1044 ls [])) : W p l e room_1 s m #[Value.ref b] below meth c H locs 600000 7302250 Q (F0 m 725 ls []) := by
  have hx := X.1.1
  have hb := X.1.2.1
  obtain ⟨r, h1, h2, e1, e2, hI2⟩ := p_takes (xs (i + 1)) h hI
  refine lv_aload_n hx hb dl_725 rfl (lv_at hl 1 rfl) ?_
  refine k_arg X S hl (k := 1) hi hL (by decide) (by decide) dl_726 dl_727 dl_728 dl_729 dl_730 ?_
  refine k_lc X S hl.1 (C := 85) (i := 101) (a := 0) (vs := [.int (xs (i + 1))]) (rest := []) e1 ⟨by decide, rfl, rfl, Nat.le_of_ble_eq_true rfl, Nat.le_of_ble_eq_true rfl⟩ (by decide +kernel) (Nat.le_of_ble_eq_true rfl) rfl (kLl X.1.2.2.2.2.2.1 (by decide +kernel)) (Nat.le_of_ble_eq_true rfl) rfl dl_731 (fun H locs S => ?_)
  refine lv_aload_n hx hb dl_734 rfl (lv_at hl 2 rfl) ?_
  refine k_arg X S hl (k := 1) hi hL (by decide) (by decide) dl_735 dl_736 dl_737 dl_738 dl_739 ?_
  refine k_lc X S hl.1 (C := 167) (i := 104) (a := 63) (vs := [.int (xs (i + 1))]) (rest := [.int r]) e2 ⟨by decide, rfl, rfl, Nat.le_of_ble_eq_true rfl, Nat.le_of_ble_eq_true rfl⟩ (by decide +kernel) (Nat.le_of_ble_eq_true rfl) rfl (kLl X.1.2.2.2.2.2.1 (by decide +kernel)) (Nat.le_of_ble_eq_true rfl) rfl dl_740 (fun H locs S => ?_)
  exact lv_icmp_eq (tgt := 1044) hx hb dl_743 (by decide) (fun _ => kk h2 H locs hI2 S) (fun cc => absurd rfl cc)
set_option maxHeartbeats 2000000 in
set_option maxRecDepth 100000 in
theorem lc_22 {D : va_G} {cI cZ cO : ClassId} {ad : Nat → Nat} {p : Program} {l : Launch} {e : Env} {s : State} {m : MethodId} {below : List Frame} {meth : Method} {c : Code} {Q : State → Prop} {b L : Nat} {xs : Nat → Int32} {H : Heap} {locs : List Loc} {ls : Array Slot} {h : mn_H} {i : Nat} (X : lwC D cI cZ cO ad p s m meth c b L xs) (hi : i + 5 ≤ L) (hL : L ≤ 320) (hl : lv_has ls 4 [(0, .ref b), (1, .ref (ad 0)), (2, .ref (ad 63)), (3, .int (nI i))]) (hI : INV h) (S : lwS D cI cZ cO ad s H locs h)
    (kk : ∀ (h2 : mn_H) (H1 : Heap) (locs1 : List Loc), INV h2 → lwS D cI cZ cO ad s H1 locs1 h2 → W p l e room_1 s m #[Value.ref b] below meth c H1 locs1 600000 7302250 Q (F0 m 1044 ls [])) : W p l e room_1 s m #[Value.ref b] below meth c H locs 600000 7302250 Q (F0 m 748 ls []) := by
  have hx := X.1.1
  have hb := X.1.2.1
  obtain ⟨r, h1, h2, e1, e2, hI2⟩ := p_wire (xs (i + 1)) (xs (i + 2)) h hI
  refine lv_aload_n hx hb dl_748 rfl (lv_at hl 1 rfl) ?_
  refine k_arg X S hl (k := 1) hi hL (by decide) (by decide) dl_749 dl_750 dl_751 dl_752 dl_753 ?_
  refine k_arg X S hl (k := 2) hi hL (by decide) (by decide) dl_754 dl_755 dl_756 dl_757 dl_758 ?_
  refine k_lc X S hl.1 (C := 86) (i := 105) (a := 0) (vs := [.int (xs (i + 1)), .int (xs (i + 2))]) (rest := []) e1 ⟨by decide, rfl, rfl, Nat.le_of_ble_eq_true rfl, Nat.le_of_ble_eq_true rfl⟩ (by decide +kernel) (Nat.le_of_ble_eq_true rfl) rfl (kLl X.1.2.2.2.2.2.1 (by decide +kernel)) (Nat.le_of_ble_eq_true rfl) rfl dl_759 (fun H locs S => ?_)
  refine lv_aload_n hx hb dl_762 rfl (lv_at hl 2 rfl) ?_
  refine k_arg X S hl (k := 1) hi hL (by decide) (by decide) dl_763 dl_764 dl_765 dl_766 dl_767 ?_
  refine k_arg X S hl (k := 2) hi hL (by decide) (by decide) dl_768 dl_769 dl_770 dl_771 dl_772 ?_
  refine k_lc X S hl.1 (C := 168) (i := 108) (a := 63) (vs := [.int (xs (i + 1)), .int (xs (i + 2))]) (rest := [.int r]) e2 ⟨by decide, rfl, rfl, Nat.le_of_ble_eq_true rfl, Nat.le_of_ble_eq_true rfl⟩ (by decide +kernel) (Nat.le_of_ble_eq_true rfl) rfl (kLl X.1.2.2.2.2.2.1 (by decide +kernel)) (Nat.le_of_ble_eq_true rfl) rfl dl_773 (fun H locs S => ?_)
  exact lv_icmp_eq (tgt := 1044) hx hb dl_776 (by decide) (fun _ => kk h2 H locs hI2 S) (fun cc => absurd rfl cc)
set_option maxHeartbeats 2000000 in
set_option maxRecDepth 100000 in
theorem lc_23 {D : va_G} {cI cZ cO : ClassId} {ad : Nat → Nat} {p : Program} {l : Launch} {e : Env} {s : State} {m : MethodId} {below : List Frame} {meth : Method} {c : Code} {Q : State → Prop} {b L : Nat} {xs : Nat → Int32} {H : Heap} {locs : List Loc} {ls : Array Slot} {h : mn_H} {i : Nat} (X : lwC D cI cZ cO ad p s m meth c b L xs) (hi : i + 5 ≤ L) (hL : L ≤ 320) (hl : lv_has ls 4 [(0, .ref b), (1, .ref (ad 0)), (2, .ref (ad 63)), (3, .int (nI i))]) (hI : INV h) (S : lwS D cI cZ cO ad s H locs h)
    (kk : ∀ (h2 : mn_H) (H1 : Heap) (locs1 : List Loc), INV h2 → lwS D cI cZ cO ad s H1 locs1 h2 → W p l e room_1 s m #[Value.ref b] below meth c H1 locs1 600000 7302250 Q (F0 m 1044 ls [])) : W p l e room_1 s m #[Value.ref b] below meth c H locs 600000 7302250 Q (F0 m 781 ls []) := by
  have hx := X.1.1
  have hb := X.1.2.1
  obtain ⟨r, h1, h2, e1, e2, hI2⟩ := p_answers (xs (i + 1)) h hI
  refine lv_aload_n hx hb dl_781 rfl (lv_at hl 1 rfl) ?_
  refine k_arg X S hl (k := 1) hi hL (by decide) (by decide) dl_782 dl_783 dl_784 dl_785 dl_786 ?_
  refine k_lc X S hl.1 (C := 87) (i := 109) (a := 0) (vs := [.int (xs (i + 1))]) (rest := []) e1 ⟨by decide, rfl, rfl, Nat.le_of_ble_eq_true rfl, Nat.le_of_ble_eq_true rfl⟩ (by decide +kernel) (Nat.le_of_ble_eq_true rfl) rfl (kLl X.1.2.2.2.2.2.1 (by decide +kernel)) (Nat.le_of_ble_eq_true rfl) rfl dl_787 (fun H locs S => ?_)
  refine lv_aload_n hx hb dl_790 rfl (lv_at hl 2 rfl) ?_
  refine k_arg X S hl (k := 1) hi hL (by decide) (by decide) dl_791 dl_792 dl_793 dl_794 dl_795 ?_
  refine k_lc X S hl.1 (C := 170) (i := 112) (a := 63) (vs := [.int (xs (i + 1))]) (rest := [.int r]) e2 ⟨by decide, rfl, rfl, Nat.le_of_ble_eq_true rfl, Nat.le_of_ble_eq_true rfl⟩ (by decide +kernel) (Nat.le_of_ble_eq_true rfl) rfl (kLl X.1.2.2.2.2.2.1 (by decide +kernel)) (Nat.le_of_ble_eq_true rfl) rfl dl_796 (fun H locs S => ?_)
  exact lv_icmp_eq (tgt := 1044) hx hb dl_799 (by decide) (fun _ => kk h2 H locs hI2 S) (fun cc => absurd rfl cc)
set_option maxHeartbeats 2000000 in
set_option maxRecDepth 100000 in
theorem lc_24 {D : va_G} {cI cZ cO : ClassId} {ad : Nat → Nat} {p : Program} {l : Launch} {e : Env} {s : State} {m : MethodId} {below : List Frame} {meth : Method} {c : Code} {Q : State → Prop} {b L : Nat} {xs : Nat → Int32} {H : Heap} {locs : List Loc} {ls : Array Slot} {h : mn_H} {i : Nat} (X : lwC D cI cZ cO ad p s m meth c b L xs) (hi : i + 5 ≤ L) (hL : L ≤ 320) (hl : lv_has ls 4 [(0, .ref b), (1, .ref (ad 0)), (2, .ref (ad 63)), (3, .int (nI i))]) (hI : INV h) (S : lwS D cI cZ cO ad s H locs h)
    (kk : ∀ (h2 : mn_H) (H1 : Heap) (locs1 : List Loc), INV h2 → lwS D cI cZ cO ad s H1 locs1 h2 → W p l e room_1 s m #[Value.ref b] below meth c H1 locs1 600000 7302250 Q (F0 m 1044 ls [])) : W p l e room_1 s m #[Value.ref b] below meth c H locs 600000 7302250 Q (F0 m 804 ls []) := by
  have hx := X.1.1
  have hb := X.1.2.1
  obtain ⟨r, h1, h2, e1, e2, hI2⟩ := p_send (xs (i + 1)) (xs (i + 2)) h hI
  refine lv_aload_n hx hb dl_804 rfl (lv_at hl 1 rfl) ?_
  refine k_arg X S hl (k := 1) hi hL (by decide) (by decide) dl_805 dl_806 dl_807 dl_808 dl_809 ?_
  refine k_arg X S hl (k := 2) hi hL (by decide) (by decide) dl_810 dl_811 dl_812 dl_813 dl_814 ?_
  refine k_lc X S hl.1 (C := 88) (i := 113) (a := 0) (vs := [.int (xs (i + 1)), .int (xs (i + 2))]) (rest := []) e1 ⟨by decide, rfl, rfl, Nat.le_of_ble_eq_true rfl, Nat.le_of_ble_eq_true rfl⟩ (by decide +kernel) (Nat.le_of_ble_eq_true rfl) rfl (kLl X.1.2.2.2.2.2.1 (by decide +kernel)) (Nat.le_of_ble_eq_true rfl) rfl dl_815 (fun H locs S => ?_)
  refine lv_aload_n hx hb dl_818 rfl (lv_at hl 2 rfl) ?_
  refine k_arg X S hl (k := 1) hi hL (by decide) (by decide) dl_819 dl_820 dl_821 dl_822 dl_823 ?_
  refine k_arg X S hl (k := 2) hi hL (by decide) (by decide) dl_824 dl_825 dl_826 dl_827 dl_828 ?_
  refine k_lc X S hl.1 (C := 171) (i := 116) (a := 63) (vs := [.int (xs (i + 1)), .int (xs (i + 2))]) (rest := [.int r]) e2 ⟨by decide, rfl, rfl, Nat.le_of_ble_eq_true rfl, Nat.le_of_ble_eq_true rfl⟩ (by decide +kernel) (Nat.le_of_ble_eq_true rfl) rfl (kLl X.1.2.2.2.2.2.1 (by decide +kernel)) (Nat.le_of_ble_eq_true rfl) rfl dl_829 (fun H locs S => ?_)
  exact lv_icmp_eq (tgt := 1044) hx hb dl_832 (by decide) (fun _ => kk h2 H locs hI2 S) (fun cc => absurd rfl cc)
set_option maxHeartbeats 2000000 in
set_option maxRecDepth 100000 in
theorem lc_25 {D : va_G} {cI cZ cO : ClassId} {ad : Nat → Nat} {p : Program} {l : Launch} {e : Env} {s : State} {m : MethodId} {below : List Frame} {meth : Method} {c : Code} {Q : State → Prop} {b L : Nat} {xs : Nat → Int32} {H : Heap} {locs : List Loc} {ls : Array Slot} {h : mn_H} {i : Nat} (X : lwC D cI cZ cO ad p s m meth c b L xs) (hi : i + 5 ≤ L) (hL : L ≤ 320) (hl : lv_has ls 4 [(0, .ref b), (1, .ref (ad 0)), (2, .ref (ad 63)), (3, .int (nI i))]) (hI : INV h) (S : lwS D cI cZ cO ad s H locs h)
    (kk : ∀ (h2 : mn_H) (H1 : Heap) (locs1 : List Loc), INV h2 → lwS D cI cZ cO ad s H1 locs1 h2 → W p l e room_1 s m #[Value.ref b] below meth c H1 locs1 600000 7302250 Q (F0 m 1044 ls [])) : W p l e room_1 s m #[Value.ref b] below meth c H locs 600000 7302250 Q (F0 m 837 ls []) := by
  have hx := X.1.1
  have hb := X.1.2.1
  by_cases hz : xs (i + 2) = 0
  · obtain ⟨r, h1, h2, e1, e2, hI2⟩ := p_see (xs (i + 1)) (false) (xs (i + 3)) (xs (i + 4)) h hI
    refine lv_aload_n hx hb dl_837 rfl (lv_at hl 1 rfl) ?_
    refine k_arg X S hl (k := 1) hi hL (by decide) (by decide) dl_838 dl_839 dl_840 dl_841 dl_842 ?_
    refine k_arg X S hl (k := 2) hi hL (by decide) (by decide) dl_843 dl_844 dl_845 dl_846 dl_847 ?_
    refine lv_if_eq (tgt := 855) hx hb dl_848 (by decide) (fun _ => ?_) (fun cc => absurd hz cc)
    refine lv_iconst (v := 0) hx hb dl_855 (by decide) ?_
    refine k_arg X S hl (k := 3) hi hL (by decide) (by decide) dl_856 dl_857 dl_858 dl_859 dl_860 ?_
    refine k_arg X S hl (k := 4) hi hL (by decide) (by decide) dl_861 dl_862 dl_863 dl_864 dl_865 ?_
    refine k_lc X S hl.1 (C := 89) (i := 117) (a := 0) (vs := [.int (xs (i + 1)), .int (0), .int (xs (i + 3)), .int (xs (i + 4))]) (rest := []) e1 ⟨by decide, rfl, rfl, Nat.le_of_ble_eq_true rfl, Nat.le_of_ble_eq_true rfl⟩ (by decide +kernel) (Nat.le_of_ble_eq_true rfl) rfl (kLl X.1.2.2.2.2.2.1 (by decide +kernel)) (Nat.le_of_ble_eq_true rfl) rfl dl_866 (fun H locs S => ?_)
    refine lv_aload_n hx hb dl_869 rfl (lv_at hl 2 rfl) ?_
    refine k_arg X S hl (k := 1) hi hL (by decide) (by decide) dl_870 dl_871 dl_872 dl_873 dl_874 ?_
    refine k_arg X S hl (k := 2) hi hL (by decide) (by decide) dl_875 dl_876 dl_877 dl_878 dl_879 ?_
    refine lv_if_eq (tgt := 887) hx hb dl_880 (by decide) (fun _ => ?_) (fun cc => absurd hz cc)
    refine lv_iconst (v := 0) hx hb dl_887 (by decide) ?_
    refine k_arg X S hl (k := 3) hi hL (by decide) (by decide) dl_888 dl_889 dl_890 dl_891 dl_892 ?_
    refine k_arg X S hl (k := 4) hi hL (by decide) (by decide) dl_893 dl_894 dl_895 dl_896 dl_897 ?_
    refine k_lc X S hl.1 (C := 173) (i := 121) (a := 63) (vs := [.int (xs (i + 1)), .int (0), .int (xs (i + 3)), .int (xs (i + 4))]) (rest := [.int r]) e2 ⟨by decide, rfl, rfl, Nat.le_of_ble_eq_true rfl, Nat.le_of_ble_eq_true rfl⟩ (by decide +kernel) (Nat.le_of_ble_eq_true rfl) rfl (kLl X.1.2.2.2.2.2.1 (by decide +kernel)) (Nat.le_of_ble_eq_true rfl) rfl dl_898 (fun H locs S => ?_)
    exact lv_icmp_eq (tgt := 1044) hx hb dl_901 (by decide) (fun _ => kk h2 H locs hI2 S) (fun cc => absurd rfl cc)
  · obtain ⟨r, h1, h2, e1, e2, hI2⟩ := p_see (xs (i + 1)) (true) (xs (i + 3)) (xs (i + 4)) h hI
    refine lv_aload_n hx hb dl_837 rfl (lv_at hl 1 rfl) ?_
    refine k_arg X S hl (k := 1) hi hL (by decide) (by decide) dl_838 dl_839 dl_840 dl_841 dl_842 ?_
    refine k_arg X S hl (k := 2) hi hL (by decide) (by decide) dl_843 dl_844 dl_845 dl_846 dl_847 ?_
    refine lv_if_eq (tgt := 855) hx hb dl_848 (by decide) (fun cc => absurd cc hz) (fun _ => ?_)
    refine lv_iconst (v := 1) hx hb dl_851 (by decide) ?_
    refine lv_goto (tgt := 856) hx hb dl_852 (by decide) ?_
    refine k_arg X S hl (k := 3) hi hL (by decide) (by decide) dl_856 dl_857 dl_858 dl_859 dl_860 ?_
    refine k_arg X S hl (k := 4) hi hL (by decide) (by decide) dl_861 dl_862 dl_863 dl_864 dl_865 ?_
    refine k_lc X S hl.1 (C := 89) (i := 117) (a := 0) (vs := [.int (xs (i + 1)), .int (1), .int (xs (i + 3)), .int (xs (i + 4))]) (rest := []) e1 ⟨by decide, rfl, rfl, Nat.le_of_ble_eq_true rfl, Nat.le_of_ble_eq_true rfl⟩ (by decide +kernel) (Nat.le_of_ble_eq_true rfl) rfl (kLl X.1.2.2.2.2.2.1 (by decide +kernel)) (Nat.le_of_ble_eq_true rfl) rfl dl_866 (fun H locs S => ?_)
    refine lv_aload_n hx hb dl_869 rfl (lv_at hl 2 rfl) ?_
    refine k_arg X S hl (k := 1) hi hL (by decide) (by decide) dl_870 dl_871 dl_872 dl_873 dl_874 ?_
    refine k_arg X S hl (k := 2) hi hL (by decide) (by decide) dl_875 dl_876 dl_877 dl_878 dl_879 ?_
    refine lv_if_eq (tgt := 887) hx hb dl_880 (by decide) (fun cc => absurd cc hz) (fun _ => ?_)
    refine lv_iconst (v := 1) hx hb dl_883 (by decide) ?_
    refine lv_goto (tgt := 888) hx hb dl_884 (by decide) ?_
    refine k_arg X S hl (k := 3) hi hL (by decide) (by decide) dl_888 dl_889 dl_890 dl_891 dl_892 ?_
    refine k_arg X S hl (k := 4) hi hL (by decide) (by decide) dl_893 dl_894 dl_895 dl_896 dl_897 ?_
    refine k_lc X S hl.1 (C := 173) (i := 121) (a := 63) (vs := [.int (xs (i + 1)), .int (1), .int (xs (i + 3)), .int (xs (i + 4))]) (rest := [.int r]) e2 ⟨by decide, rfl, rfl, Nat.le_of_ble_eq_true rfl, Nat.le_of_ble_eq_true rfl⟩ (by decide +kernel) (Nat.le_of_ble_eq_true rfl) rfl (kLl X.1.2.2.2.2.2.1 (by decide +kernel)) (Nat.le_of_ble_eq_true rfl) rfl dl_898 (fun H locs S => ?_)
    exact lv_icmp_eq (tgt := 1044) hx hb dl_901 (by decide) (fun _ => kk h2 H locs hI2 S) (fun cc => absurd rfl cc)
set_option maxHeartbeats 2000000 in
set_option maxRecDepth 100000 in
theorem lc_26 {D : va_G} {cI cZ cO : ClassId} {ad : Nat → Nat} {p : Program} {l : Launch} {e : Env} {s : State} {m : MethodId} {below : List Frame} {meth : Method} {c : Code} {Q : State → Prop} {b L : Nat} {xs : Nat → Int32} {H : Heap} {locs : List Loc} {ls : Array Slot} {h : mn_H} {i : Nat} (X : lwC D cI cZ cO ad p s m meth c b L xs) (hi : i + 5 ≤ L) (hL : L ≤ 320) (hl : lv_has ls 4 [(0, .ref b), (1, .ref (ad 0)), (2, .ref (ad 63)), (3, .int (nI i))]) (hI : INV h) (S : lwS D cI cZ cO ad s H locs h)
    (kk : ∀ (h2 : mn_H) (H1 : Heap) (locs1 : List Loc), INV h2 → lwS D cI cZ cO ad s H1 locs1 h2 → W p l e room_1 s m #[Value.ref b] below meth c H1 locs1 600000 7302250 Q (F0 m 1044 ls [])) : W p l e room_1 s m #[Value.ref b] below meth c H locs 600000 7302250 Q (F0 m 906 ls []) := by
  have hx := X.1.1
  have hb := X.1.2.1
  obtain ⟨r, h1, h2, e1, e2, hI2⟩ := p_means (xs (i + 1)) (xs (i + 2)) h hI
  refine lv_aload_n hx hb dl_906 rfl (lv_at hl 1 rfl) ?_
  refine k_arg X S hl (k := 1) hi hL (by decide) (by decide) dl_907 dl_908 dl_909 dl_910 dl_911 ?_
  refine k_arg X S hl (k := 2) hi hL (by decide) (by decide) dl_912 dl_913 dl_914 dl_915 dl_916 ?_
  refine k_lc X S hl.1 (C := 90) (i := 122) (a := 0) (vs := [.int (xs (i + 1)), .int (xs (i + 2))]) (rest := []) e1 ⟨by decide, rfl, rfl, Nat.le_of_ble_eq_true rfl, Nat.le_of_ble_eq_true rfl⟩ (by decide +kernel) (Nat.le_of_ble_eq_true rfl) rfl (kLl X.1.2.2.2.2.2.1 (by decide +kernel)) (Nat.le_of_ble_eq_true rfl) rfl dl_917 (fun H locs S => ?_)
  refine lv_aload_n hx hb dl_920 rfl (lv_at hl 2 rfl) ?_
  refine k_arg X S hl (k := 1) hi hL (by decide) (by decide) dl_921 dl_922 dl_923 dl_924 dl_925 ?_
  refine k_arg X S hl (k := 2) hi hL (by decide) (by decide) dl_926 dl_927 dl_928 dl_929 dl_930 ?_
  refine k_lc X S hl.1 (C := 176) (i := 125) (a := 63) (vs := [.int (xs (i + 1)), .int (xs (i + 2))]) (rest := [.int r]) e2 ⟨by decide, rfl, rfl, Nat.le_of_ble_eq_true rfl, Nat.le_of_ble_eq_true rfl⟩ (by decide +kernel) (Nat.le_of_ble_eq_true rfl) rfl (kLl X.1.2.2.2.2.2.1 (by decide +kernel)) (Nat.le_of_ble_eq_true rfl) rfl dl_931 (fun H locs S => ?_)
  exact lv_icmp_eq (tgt := 1044) hx hb dl_934 (by decide) (fun _ => kk h2 H locs hI2 S) (fun cc => absurd rfl cc)
set_option maxHeartbeats 2000000 in
set_option maxRecDepth 100000 in
theorem lc_27 {D : va_G} {cI cZ cO : ClassId} {ad : Nat → Nat} {p : Program} {l : Launch} {e : Env} {s : State} {m : MethodId} {below : List Frame} {meth : Method} {c : Code} {Q : State → Prop} {b L : Nat} {xs : Nat → Int32} {H : Heap} {locs : List Loc} {ls : Array Slot} {h : mn_H} {i : Nat} (X : lwC D cI cZ cO ad p s m meth c b L xs) (hi : i + 5 ≤ L) (hL : L ≤ 320) (hl : lv_has ls 4 [(0, .ref b), (1, .ref (ad 0)), (2, .ref (ad 63)), (3, .int (nI i))]) (hI : INV h) (S : lwS D cI cZ cO ad s H locs h)
    (kk : ∀ (h2 : mn_H) (H1 : Heap) (locs1 : List Loc), INV h2 → lwS D cI cZ cO ad s H1 locs1 h2 → W p l e room_1 s m #[Value.ref b] below meth c H1 locs1 600000 7302250 Q (F0 m 1044 ls [])) : W p l e room_1 s m #[Value.ref b] below meth c H locs 600000 7302250 Q (F0 m 939 ls []) := by
  have hx := X.1.1
  have hb := X.1.2.1
  obtain ⟨r, h1, h2, e1, e2, hI2⟩ := p_watch (xs (i + 1)) h hI
  refine lv_aload_n hx hb dl_939 rfl (lv_at hl 1 rfl) ?_
  refine k_arg X S hl (k := 1) hi hL (by decide) (by decide) dl_940 dl_941 dl_942 dl_943 dl_944 ?_
  refine k_lc X S hl.1 (C := 91) (i := 126) (a := 0) (vs := [.int (xs (i + 1))]) (rest := []) e1 ⟨by decide, rfl, rfl, Nat.le_of_ble_eq_true rfl, Nat.le_of_ble_eq_true rfl⟩ (by decide +kernel) (Nat.le_of_ble_eq_true rfl) rfl (kLl X.1.2.2.2.2.2.1 (by decide +kernel)) (Nat.le_of_ble_eq_true rfl) rfl dl_945 (fun H locs S => ?_)
  refine lv_aload_n hx hb dl_948 rfl (lv_at hl 2 rfl) ?_
  refine k_arg X S hl (k := 1) hi hL (by decide) (by decide) dl_949 dl_950 dl_951 dl_952 dl_953 ?_
  refine k_lc X S hl.1 (C := 177) (i := 129) (a := 63) (vs := [.int (xs (i + 1))]) (rest := [.int r]) e2 ⟨by decide, rfl, rfl, Nat.le_of_ble_eq_true rfl, Nat.le_of_ble_eq_true rfl⟩ (by decide +kernel) (Nat.le_of_ble_eq_true rfl) rfl (kLl X.1.2.2.2.2.2.1 (by decide +kernel)) (Nat.le_of_ble_eq_true rfl) rfl dl_954 (fun H locs S => ?_)
  exact lv_icmp_eq (tgt := 1044) hx hb dl_957 (by decide) (fun _ => kk h2 H locs hI2 S) (fun cc => absurd rfl cc)
set_option maxHeartbeats 2000000 in
set_option maxRecDepth 100000 in
theorem lc_28 {D : va_G} {cI cZ cO : ClassId} {ad : Nat → Nat} {p : Program} {l : Launch} {e : Env} {s : State} {m : MethodId} {below : List Frame} {meth : Method} {c : Code} {Q : State → Prop} {b L : Nat} {xs : Nat → Int32} {H : Heap} {locs : List Loc} {ls : Array Slot} {h : mn_H} {i : Nat} (X : lwC D cI cZ cO ad p s m meth c b L xs) (hi : i + 5 ≤ L) (hL : L ≤ 320) (hl : lv_has ls 4 [(0, .ref b), (1, .ref (ad 0)), (2, .ref (ad 63)), (3, .int (nI i))]) (hI : INV h) (S : lwS D cI cZ cO ad s H locs h)
    (kk : ∀ (h2 : mn_H) (H1 : Heap) (locs1 : List Loc), INV h2 → lwS D cI cZ cO ad s H1 locs1 h2 → W p l e room_1 s m #[Value.ref b] below meth c H1 locs1 600000 7302250 Q (F0 m 1044 ls [])) : W p l e room_1 s m #[Value.ref b] below meth c H locs 600000 7302250 Q (F0 m 962 ls []) := by
  have hx := X.1.1
  have hb := X.1.2.1
  obtain ⟨r, h1, h2, e1, e2, hI2⟩ := p_tear h hI
  refine lv_aload_n hx hb dl_962 rfl (lv_at hl 1 rfl) ?_
  refine k_lc X S hl.1 (C := 92) (i := 130) (a := 0) (vs := []) (rest := []) e1 ⟨by decide, rfl, rfl, Nat.le_of_ble_eq_true rfl, Nat.le_of_ble_eq_true rfl⟩ (by decide +kernel) (Nat.le_of_ble_eq_true rfl) rfl (kLl X.1.2.2.2.2.2.1 (by decide +kernel)) (Nat.le_of_ble_eq_true rfl) rfl dl_963 (fun H locs S => ?_)
  refine lv_aload_n hx hb dl_966 rfl (lv_at hl 2 rfl) ?_
  refine k_lc X S hl.1 (C := 178) (i := 133) (a := 63) (vs := []) (rest := [.int r]) e2 ⟨by decide, rfl, rfl, Nat.le_of_ble_eq_true rfl, Nat.le_of_ble_eq_true rfl⟩ (by decide +kernel) (Nat.le_of_ble_eq_true rfl) rfl (kLl X.1.2.2.2.2.2.1 (by decide +kernel)) (Nat.le_of_ble_eq_true rfl) rfl dl_967 (fun H locs S => ?_)
  exact lv_icmp_eq (tgt := 1044) hx hb dl_970 (by decide) (fun _ => kk h2 H locs hI2 S) (fun cc => absurd rfl cc)
set_option maxHeartbeats 2000000 in
set_option maxRecDepth 100000 in
theorem lc_29 {D : va_G} {cI cZ cO : ClassId} {ad : Nat → Nat} {p : Program} {l : Launch} {e : Env} {s : State} {m : MethodId} {below : List Frame} {meth : Method} {c : Code} {Q : State → Prop} {b L : Nat} {xs : Nat → Int32} {H : Heap} {locs : List Loc} {ls : Array Slot} {h : mn_H} {i : Nat} (X : lwC D cI cZ cO ad p s m meth c b L xs) (hi : i + 5 ≤ L) (hL : L ≤ 320) (hl : lv_has ls 4 [(0, .ref b), (1, .ref (ad 0)), (2, .ref (ad 63)), (3, .int (nI i))]) (hI : INV h) (S : lwS D cI cZ cO ad s H locs h)
    (kk : ∀ (h2 : mn_H) (H1 : Heap) (locs1 : List Loc), INV h2 → lwS D cI cZ cO ad s H1 locs1 h2 → W p l e room_1 s m #[Value.ref b] below meth c H1 locs1 600000 7302250 Q (F0 m 1044 ls [])) : W p l e room_1 s m #[Value.ref b] below meth c H locs 600000 7302250 Q (F0 m 975 ls []) := by
  have hx := X.1.1
  have hb := X.1.2.1
  obtain ⟨r, h1, h2, e1, e2, hI2⟩ := p_seed (xs (i + 1)) h hI
  refine lv_aload_n hx hb dl_975 rfl (lv_at hl 1 rfl) ?_
  refine k_arg X S hl (k := 1) hi hL (by decide) (by decide) dl_976 dl_977 dl_978 dl_979 dl_980 ?_
  refine k_lc X S hl.1 (C := 93) (i := 134) (a := 0) (vs := [.int (xs (i + 1))]) (rest := []) e1 ⟨by decide, rfl, rfl, Nat.le_of_ble_eq_true rfl, Nat.le_of_ble_eq_true rfl⟩ (by decide +kernel) (Nat.le_of_ble_eq_true rfl) rfl (kLl X.1.2.2.2.2.2.1 (by decide +kernel)) (Nat.le_of_ble_eq_true rfl) rfl dl_981 (fun H locs S => ?_)
  refine lv_aload_n hx hb dl_984 rfl (lv_at hl 2 rfl) ?_
  refine k_arg X S hl (k := 1) hi hL (by decide) (by decide) dl_985 dl_986 dl_987 dl_988 dl_989 ?_
  refine k_lc X S hl.1 (C := 179) (i := 137) (a := 63) (vs := [.int (xs (i + 1))]) (rest := [.int r]) e2 ⟨by decide, rfl, rfl, Nat.le_of_ble_eq_true rfl, Nat.le_of_ble_eq_true rfl⟩ (by decide +kernel) (Nat.le_of_ble_eq_true rfl) rfl (kLl X.1.2.2.2.2.2.1 (by decide +kernel)) (Nat.le_of_ble_eq_true rfl) rfl dl_990 (fun H locs S => ?_)
  exact lv_icmp_eq (tgt := 1044) hx hb dl_993 (by decide) (fun _ => kk h2 H locs hI2 S) (fun cc => absurd rfl cc)
set_option maxHeartbeats 2000000 in
set_option maxRecDepth 100000 in
theorem lc_30 {D : va_G} {cI cZ cO : ClassId} {ad : Nat → Nat} {p : Program} {l : Launch} {e : Env} {s : State} {m : MethodId} {below : List Frame} {meth : Method} {c : Code} {Q : State → Prop} {b L : Nat} {xs : Nat → Int32} {H : Heap} {locs : List Loc} {ls : Array Slot} {h : mn_H} {i : Nat} (X : lwC D cI cZ cO ad p s m meth c b L xs) (hi : i + 5 ≤ L) (hL : L ≤ 320) (hl : lv_has ls 4 [(0, .ref b), (1, .ref (ad 0)), (2, .ref (ad 63)), (3, .int (nI i))]) (hI : INV h) (S : lwS D cI cZ cO ad s H locs h)
    (kk : ∀ (h2 : mn_H) (H1 : Heap) (locs1 : List Loc), INV h2 → lwS D cI cZ cO ad s H1 locs1 h2 → W p l e room_1 s m #[Value.ref b] below meth c H1 locs1 600000 7302250 Q (F0 m 1044 ls [])) : W p l e room_1 s m #[Value.ref b] below meth c H locs 600000 7302250 Q (F0 m 998 ls []) := by
  have hx := X.1.1
  have hb := X.1.2.1
  obtain ⟨r, h1, h2, e1, e2, hI2⟩ := p_keep (xs (i + 1)) h hI
  refine lv_aload_n hx hb dl_998 rfl (lv_at hl 1 rfl) ?_
  refine k_arg X S hl (k := 1) hi hL (by decide) (by decide) dl_999 dl_1000 dl_1001 dl_1002 dl_1003 ?_
  refine k_lc X S hl.1 (C := 94) (i := 138) (a := 0) (vs := [.int (xs (i + 1))]) (rest := []) e1 ⟨by decide, rfl, rfl, Nat.le_of_ble_eq_true rfl, Nat.le_of_ble_eq_true rfl⟩ (by decide +kernel) (Nat.le_of_ble_eq_true rfl) rfl (kLl X.1.2.2.2.2.2.1 (by decide +kernel)) (Nat.le_of_ble_eq_true rfl) rfl dl_1004 (fun H locs S => ?_)
  refine lv_aload_n hx hb dl_1007 rfl (lv_at hl 2 rfl) ?_
  refine k_arg X S hl (k := 1) hi hL (by decide) (by decide) dl_1008 dl_1009 dl_1010 dl_1011 dl_1012 ?_
  refine k_lc X S hl.1 (C := 180) (i := 141) (a := 63) (vs := [.int (xs (i + 1))]) (rest := [.int r]) e2 ⟨by decide, rfl, rfl, Nat.le_of_ble_eq_true rfl, Nat.le_of_ble_eq_true rfl⟩ (by decide +kernel) (Nat.le_of_ble_eq_true rfl) rfl (kLl X.1.2.2.2.2.2.1 (by decide +kernel)) (Nat.le_of_ble_eq_true rfl) rfl dl_1013 (fun H locs S => ?_)
  exact lv_icmp_eq (tgt := 1044) hx hb dl_1016 (by decide) (fun _ => kk h2 H locs hI2 S) (fun cc => absurd rfl cc)
set_option maxHeartbeats 2000000 in
set_option maxRecDepth 100000 in
theorem lc_31 {D : va_G} {cI cZ cO : ClassId} {ad : Nat → Nat} {p : Program} {l : Launch} {e : Env} {s : State} {m : MethodId} {below : List Frame} {meth : Method} {c : Code} {Q : State → Prop} {b L : Nat} {xs : Nat → Int32} {H : Heap} {locs : List Loc} {ls : Array Slot} {h : mn_H} {i : Nat} (X : lwC D cI cZ cO ad p s m meth c b L xs) (hi : i + 5 ≤ L) (hL : L ≤ 320) (hl : lv_has ls 4 [(0, .ref b), (1, .ref (ad 0)), (2, .ref (ad 63)), (3, .int (nI i))]) (hI : INV h) (S : lwS D cI cZ cO ad s H locs h)
    (kk : ∀ (h2 : mn_H) (H1 : Heap) (locs1 : List Loc), INV h2 → lwS D cI cZ cO ad s H1 locs1 h2 → W p l e room_1 s m #[Value.ref b] below meth c H1 locs1 600000 7302250 Q (F0 m 1044 ls [])) : W p l e room_1 s m #[Value.ref b] below meth c H locs 600000 7302250 Q (F0 m 1021 ls []) := by
  have hx := X.1.1
  have hb := X.1.2.1
  obtain ⟨r, h1, h2, e1, e2, hI2⟩ := p_goBack (xs (i + 1)) h hI
  refine lv_aload_n hx hb dl_1021 rfl (lv_at hl 1 rfl) ?_
  refine k_arg X S hl (k := 1) hi hL (by decide) (by decide) dl_1022 dl_1023 dl_1024 dl_1025 dl_1026 ?_
  refine k_lc X S hl.1 (C := 95) (i := 142) (a := 0) (vs := [.int (xs (i + 1))]) (rest := []) e1 ⟨by decide, rfl, rfl, Nat.le_of_ble_eq_true rfl, Nat.le_of_ble_eq_true rfl⟩ (by decide +kernel) (Nat.le_of_ble_eq_true rfl) rfl (kLl X.1.2.2.2.2.2.1 (by decide +kernel)) (Nat.le_of_ble_eq_true rfl) rfl dl_1027 (fun H locs S => ?_)
  refine lv_aload_n hx hb dl_1030 rfl (lv_at hl 2 rfl) ?_
  refine k_arg X S hl (k := 1) hi hL (by decide) (by decide) dl_1031 dl_1032 dl_1033 dl_1034 dl_1035 ?_
  refine k_lc X S hl.1 (C := 181) (i := 145) (a := 63) (vs := [.int (xs (i + 1))]) (rest := [.int r]) e2 ⟨by decide, rfl, rfl, Nat.le_of_ble_eq_true rfl, Nat.le_of_ble_eq_true rfl⟩ (by decide +kernel) (Nat.le_of_ble_eq_true rfl) rfl (kLl X.1.2.2.2.2.2.1 (by decide +kernel)) (Nat.le_of_ble_eq_true rfl) rfl dl_1036 (fun H locs S => ?_)
  exact lv_icmp_eq (tgt := 1044) hx hb dl_1039 (by decide) (fun _ => kk h2 H locs hI2 S) (fun cc => absurd rfl cc)
