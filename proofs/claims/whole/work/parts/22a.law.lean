/-- what is known at every call of the law -/
def LB (p : Program) (s : State) (m : MethodId) (args : Array Value) (c : Code) (D : va_G) (cI cS : ClassId) (A : Nat → Prop) (b L : Nat) (xs : Nat → Int32) : Prop := LF p s m args c ∧ va_K D vwCl (kT cI cS) s ∧ va_X b L xs s s.heap ∧ b < s.heap.size ∧ ¬ A b ∧ (∀ q, s.heap.size ≤ q → A q) ∧ L ≤ 3584
abbrev lvL (ad bd : Nat → Nat) (b i : Nat) (ls : Array Slot) : Prop := lv_has ls 4 [(0, .ref b), (1, .ref (ad 0)), (2, .ref (bd 0)), (3, .int (nI i))]
/-- the law goes on behind a call: the worlds of both sides still tell the same -/
abbrev LKK (p : Program) (l : Launch) (e : Env) (s : State) (m : MethodId) (args : Array Value) (below : List Frame) (meth : Method) (c : Code) (k n : Nat) (Q : State → Prop) (D : va_G) (cI cS : ClassId) (A : Nat → Prop) (ls : Array Slot) (ad bd : Nat → Nat) : Prop :=
  ∀ (C : Co) (T E : Mv) (rl : Nat → Int32) (ln : Nat → Nat) (cf : Nat → Nat → Int32) (tr ft : Int32) (wX wM : va_W) (H : Heap) (locs : List Loc), okX C T E → RX ad cI cS C T E rl ln cf tr ft wX → RM bd cI C T E rl ln cf tr ft wM → va_P D vwCl (wX ++ wM) H → va_D A (wX ++ wM) → va_S A s.heap H locs → W p l e room_1 s m args below meth c H locs k n Q (F0 m 1347 ls [])

set_option maxHeartbeats 4000000 in
set_option maxRecDepth 100000 in
theorem law_coast {p : Program} {l : Launch} {e : Env} {s : State} {m : MethodId} {args : Array Value} {below : List Frame} {meth : Method} {c : Code} {H : Heap} {locs : List Loc} {Q : State → Prop} {D : va_G} {cI cS : ClassId} {A : Nat → Prop} {ls : Array Slot} {k n : Nat} {ad bd : Nat → Nat} {b L i : Nat} {xs : Nat → Int32} {C : Co} {T E : Mv} {rl : Nat → Int32} {ln : Nat → Nat} {cf : Nat → Nat → Int32} {tr ft : Int32} {wX wM : va_W} (B : LB p s m args c D cI cS A b L xs) (hk : k + 2 ≤ 600000) (hn : n + 18 ≤ 7302250) (hi : i + 7 ≤ L) (hl : lvL ad bd b i ls) (hX : okX C T E) (hRX : RX ad cI cS C T E rl ln cf tr ft wX) (hRM : RM bd cI C T E rl ln cf tr ft wM) (hP : va_P D vwCl (wX ++ wM) H) (hD : va_D A (wX ++ wM)) (hS : va_S A s.heap H locs) (kk : LKK p l e s m args below meth c (k + 1) (n + 9) Q D cI cS A ls ad bd) : W p l e room_1 s m args below meth c H locs k n Q (F0 m 188 ls []) := by
  obtain ⟨F, hK, hXs, hbl, hbA, hA, hL⟩ := B
  obtain ⟨hx, hb, -, -, -, -, -⟩ := id F
  refine lv_aload_n hx hb dL_law_188 rfl (lv_at hl 1 rfl) ?_
  refine lv_aload_n hx hb dL_law_189 rfl (lv_at hl 0 rfl) ?_
  refine lv_iload_n hx hb dL_law_190 rfl (lv_at hl 3 rfl) ?_
  refine lv_iconst (v := nI 1) hx hb dL_law_191 (by decide +kernel) ?_
  refine kk_iadd hx hb dL_law_192 ?_
  refine kk_sld hx hb hXs hbl hbA hS (by omega) hL dL_law_193 ?_
  refine lv_aload_n hx hb dL_law_194 rfl (lv_at hl 0 rfl) ?_
  refine lv_iload_n hx hb dL_law_195 rfl (lv_at hl 3 rfl) ?_
  refine lv_iconst (v := nI 2) hx hb dL_law_196 (by decide +kernel) ?_
  refine kk_iadd hx hb dL_law_197 ?_
  refine kk_sld hx hb hXs hbl hbA hS (by omega) hL dL_law_198 ?_
  refine lv_aload_n hx hb dL_law_199 rfl (lv_at hl 0 rfl) ?_
  refine lv_iload_n hx hb dL_law_200 rfl (lv_at hl 3 rfl) ?_
  refine lv_iconst (v := nI 3) hx hb dL_law_201 (by decide +kernel) ?_
  refine kk_iadd hx hb dL_law_202 ?_
  refine kk_sld hx hb hXs hbl hbA hS (by omega) hL dL_law_203 ?_
  refine lv_aload_n hx hb dL_law_204 rfl (lv_at hl 0 rfl) ?_
  refine lv_iload_n hx hb dL_law_205 rfl (lv_at hl 3 rfl) ?_
  refine lv_iconst (v := nI 4) hx hb dL_law_206 (by decide +kernel) ?_
  refine kk_iadd hx hb dL_law_207 ?_
  refine kk_sld hx hb hXs hbl hbA hS (by omega) hL dL_law_208 ?_
  refine sX9_coast F hK hl.1 (by omega) (by omega) hRX hX hP hD hS hA (xs (i + 1)) (xs (i + 2)) (xs (i + 3)) (xs (i + 4)) (RM_len hRM) rfl (fun wX2 H1 locs1 hRX2 hP hD hS => ?_)
  refine lv_aload_n hx hb dL_law_212 rfl (lv_at hl 2 rfl) ?_
  refine lv_aload_n hx hb dL_law_213 rfl (lv_at hl 0 rfl) ?_
  refine lv_iload_n hx hb dL_law_214 rfl (lv_at hl 3 rfl) ?_
  refine lv_iconst (v := nI 1) hx hb dL_law_215 (by decide +kernel) ?_
  refine kk_iadd hx hb dL_law_216 ?_
  refine kk_sld hx hb hXs hbl hbA hS (by omega) hL dL_law_217 ?_
  refine lv_aload_n hx hb dL_law_218 rfl (lv_at hl 0 rfl) ?_
  refine lv_iload_n hx hb dL_law_219 rfl (lv_at hl 3 rfl) ?_
  refine lv_iconst (v := nI 2) hx hb dL_law_220 (by decide +kernel) ?_
  refine kk_iadd hx hb dL_law_221 ?_
  refine kk_sld hx hb hXs hbl hbA hS (by omega) hL dL_law_222 ?_
  refine lv_aload_n hx hb dL_law_223 rfl (lv_at hl 0 rfl) ?_
  refine lv_iload_n hx hb dL_law_224 rfl (lv_at hl 3 rfl) ?_
  refine lv_iconst (v := nI 3) hx hb dL_law_225 (by decide +kernel) ?_
  refine kk_iadd hx hb dL_law_226 ?_
  refine kk_sld hx hb hXs hbl hbA hS (by omega) hL dL_law_227 ?_
  refine lv_aload_n hx hb dL_law_228 rfl (lv_at hl 0 rfl) ?_
  refine lv_iload_n hx hb dL_law_229 rfl (lv_at hl 3 rfl) ?_
  refine lv_iconst (v := nI 4) hx hb dL_law_230 (by decide +kernel) ?_
  refine kk_iadd hx hb dL_law_231 ?_
  refine kk_sld hx hb hXs hbl hbA hS (by omega) hL dL_law_232 ?_
  refine sX10_coast F hK hl.1 (by omega) (by omega) hRM hX (kk_swP hP) (kk_swD hD) hS hA (xs (i + 1)) (xs (i + 2)) (xs (i + 3)) (xs (i + 4)) rfl (fun wM2 H2 locs2 hRM2 hP hD hS => ?_)
  refine lv_icmp_eq (tgt := 1347) hx hb dL_law_236 (by decide) (fun _ => ?_) (fun c9 => absurd rfl c9)
  exact kk _ _ _ _ _ _ _ _ _ _ _ _ (okX_coast hX) hRX2 hRM2 (kk_swP hP) (kk_swD hD) hS

set_option maxHeartbeats 4000000 in
set_option maxRecDepth 100000 in
theorem law_sky {p : Program} {l : Launch} {e : Env} {s : State} {m : MethodId} {args : Array Value} {below : List Frame} {meth : Method} {c : Code} {H : Heap} {locs : List Loc} {Q : State → Prop} {D : va_G} {cI cS : ClassId} {A : Nat → Prop} {ls : Array Slot} {k n : Nat} {ad bd : Nat → Nat} {b L i : Nat} {xs : Nat → Int32} {C : Co} {T E : Mv} {rl : Nat → Int32} {ln : Nat → Nat} {cf : Nat → Nat → Int32} {tr ft : Int32} {wX wM : va_W} (B : LB p s m args c D cI cS A b L xs) (hk : k + 2 ≤ 600000) (hn : n + 18 ≤ 7302250) (hi : i + 7 ≤ L) (hl : lvL ad bd b i ls) (hX : okX C T E) (hRX : RX ad cI cS C T E rl ln cf tr ft wX) (hRM : RM bd cI C T E rl ln cf tr ft wM) (hP : va_P D vwCl (wX ++ wM) H) (hD : va_D A (wX ++ wM)) (hS : va_S A s.heap H locs) (kk : LKK p l e s m args below meth c (k + 1) (n + 9) Q D cI cS A ls ad bd) : W p l e room_1 s m args below meth c H locs k n Q (F0 m 241 ls []) := by
  obtain ⟨F, hK, hXs, hbl, hbA, hA, hL⟩ := B
  obtain ⟨hx, hb, -, -, -, -, -⟩ := id F
  refine lv_aload_n hx hb dL_law_241 rfl (lv_at hl 1 rfl) ?_
  refine lv_aload_n hx hb dL_law_242 rfl (lv_at hl 0 rfl) ?_
  refine lv_iload_n hx hb dL_law_243 rfl (lv_at hl 3 rfl) ?_
  refine lv_iconst (v := nI 1) hx hb dL_law_244 (by decide +kernel) ?_
  refine kk_iadd hx hb dL_law_245 ?_
  refine kk_sld hx hb hXs hbl hbA hS (by omega) hL dL_law_246 ?_
  refine sX9_sky F hK hl.1 (by omega) (by omega) hRX hX hP hD hS hA (xs (i + 1)) (fun wX2 H1 locs1 hRX2 hP hD hS => ?_)
  refine lv_aload_n hx hb dL_law_250 rfl (lv_at hl 2 rfl) ?_
  refine lv_aload_n hx hb dL_law_251 rfl (lv_at hl 0 rfl) ?_
  refine lv_iload_n hx hb dL_law_252 rfl (lv_at hl 3 rfl) ?_
  refine lv_iconst (v := nI 1) hx hb dL_law_253 (by decide +kernel) ?_
  refine kk_iadd hx hb dL_law_254 ?_
  refine kk_sld hx hb hXs hbl hbA hS (by omega) hL dL_law_255 ?_
  refine sX10_sky F hK hl.1 (by omega) (by omega) hRM hX (kk_swP hP) (kk_swD hD) hS hA (xs (i + 1)) (fun wM2 H2 locs2 hRM2 hP hD hS => ?_)
  refine lv_icmp_eq (tgt := 1347) hx hb dL_law_259 (by decide) (fun _ => ?_) (fun c9 => absurd rfl c9)
  exact kk _ _ _ _ _ _ _ _ _ _ _ _ (hX) hRX2 hRM2 (kk_swP hP) (kk_swD hD) hS

set_option maxHeartbeats 4000000 in
set_option maxRecDepth 100000 in
theorem law_shade {p : Program} {l : Launch} {e : Env} {s : State} {m : MethodId} {args : Array Value} {below : List Frame} {meth : Method} {c : Code} {H : Heap} {locs : List Loc} {Q : State → Prop} {D : va_G} {cI cS : ClassId} {A : Nat → Prop} {ls : Array Slot} {k n : Nat} {ad bd : Nat → Nat} {b L i : Nat} {xs : Nat → Int32} {C : Co} {T E : Mv} {rl : Nat → Int32} {ln : Nat → Nat} {cf : Nat → Nat → Int32} {tr ft : Int32} {wX wM : va_W} (B : LB p s m args c D cI cS A b L xs) (hk : k + 2 ≤ 600000) (hn : n + 18 ≤ 7302250) (hi : i + 7 ≤ L) (hl : lvL ad bd b i ls) (hX : okX C T E) (hRX : RX ad cI cS C T E rl ln cf tr ft wX) (hRM : RM bd cI C T E rl ln cf tr ft wM) (hP : va_P D vwCl (wX ++ wM) H) (hD : va_D A (wX ++ wM)) (hS : va_S A s.heap H locs) (kk : LKK p l e s m args below meth c (k + 1) (n + 9) Q D cI cS A ls ad bd) : W p l e room_1 s m args below meth c H locs k n Q (F0 m 264 ls []) := by
  obtain ⟨F, hK, hXs, hbl, hbA, hA, hL⟩ := B
  obtain ⟨hx, hb, -, -, -, -, -⟩ := id F
  refine lv_aload_n hx hb dL_law_264 rfl (lv_at hl 1 rfl) ?_
  refine lv_aload_n hx hb dL_law_265 rfl (lv_at hl 0 rfl) ?_
  refine lv_iload_n hx hb dL_law_266 rfl (lv_at hl 3 rfl) ?_
  refine lv_iconst (v := nI 1) hx hb dL_law_267 (by decide +kernel) ?_
  refine kk_iadd hx hb dL_law_268 ?_
  refine kk_sld hx hb hXs hbl hbA hS (by omega) hL dL_law_269 ?_
  refine sX9_shade F hK hl.1 (by omega) (by omega) hRX hX hP hD hS hA (xs (i + 1)) (fun wX2 H1 locs1 hRX2 hP hD hS => ?_)
  refine lv_aload_n hx hb dL_law_273 rfl (lv_at hl 2 rfl) ?_
  refine lv_aload_n hx hb dL_law_274 rfl (lv_at hl 0 rfl) ?_
  refine lv_iload_n hx hb dL_law_275 rfl (lv_at hl 3 rfl) ?_
  refine lv_iconst (v := nI 1) hx hb dL_law_276 (by decide +kernel) ?_
  refine kk_iadd hx hb dL_law_277 ?_
  refine kk_sld hx hb hXs hbl hbA hS (by omega) hL dL_law_278 ?_
  refine sX10_shade F hK hl.1 (by omega) (by omega) hRM hX (kk_swP hP) (kk_swD hD) hS hA (xs (i + 1)) (fun wM2 H2 locs2 hRM2 hP hD hS => ?_)
  refine lv_icmp_eq (tgt := 1347) hx hb dL_law_282 (by decide) (fun _ => ?_) (fun c9 => absurd rfl c9)
  exact kk _ _ _ _ _ _ _ _ _ _ _ _ (hX) hRX2 hRM2 (kk_swP hP) (kk_swD hD) hS

set_option maxHeartbeats 4000000 in
set_option maxRecDepth 100000 in
theorem law_ofLamp {p : Program} {l : Launch} {e : Env} {s : State} {m : MethodId} {args : Array Value} {below : List Frame} {meth : Method} {c : Code} {H : Heap} {locs : List Loc} {Q : State → Prop} {D : va_G} {cI cS : ClassId} {A : Nat → Prop} {ls : Array Slot} {k n : Nat} {ad bd : Nat → Nat} {b L i : Nat} {xs : Nat → Int32} {C : Co} {T E : Mv} {rl : Nat → Int32} {ln : Nat → Nat} {cf : Nat → Nat → Int32} {tr ft : Int32} {wX wM : va_W} (B : LB p s m args c D cI cS A b L xs) (hk : k + 2 ≤ 600000) (hn : n + 18 ≤ 7302250) (hi : i + 7 ≤ L) (hl : lvL ad bd b i ls) (hX : okX C T E) (hRX : RX ad cI cS C T E rl ln cf tr ft wX) (hRM : RM bd cI C T E rl ln cf tr ft wM) (hP : va_P D vwCl (wX ++ wM) H) (hD : va_D A (wX ++ wM)) (hS : va_S A s.heap H locs) (kk : LKK p l e s m args below meth c (k + 1) (n + 9) Q D cI cS A ls ad bd) : W p l e room_1 s m args below meth c H locs k n Q (F0 m 287 ls []) := by
  obtain ⟨F, hK, hXs, hbl, hbA, hA, hL⟩ := B
  obtain ⟨hx, hb, -, -, -, -, -⟩ := id F
  refine lv_aload_n hx hb dL_law_287 rfl (lv_at hl 1 rfl) ?_
  refine lv_aload_n hx hb dL_law_288 rfl (lv_at hl 0 rfl) ?_
  refine lv_iload_n hx hb dL_law_289 rfl (lv_at hl 3 rfl) ?_
  refine lv_iconst (v := nI 1) hx hb dL_law_290 (by decide +kernel) ?_
  refine kk_iadd hx hb dL_law_291 ?_
  refine kk_sld hx hb hXs hbl hbA hS (by omega) hL dL_law_292 ?_
  refine lv_aload_n hx hb dL_law_293 rfl (lv_at hl 0 rfl) ?_
  refine lv_iload_n hx hb dL_law_294 rfl (lv_at hl 3 rfl) ?_
  refine lv_iconst (v := nI 2) hx hb dL_law_295 (by decide +kernel) ?_
  refine kk_iadd hx hb dL_law_296 ?_
  refine kk_sld hx hb hXs hbl hbA hS (by omega) hL dL_law_297 ?_
  refine sX9_ofLamp F hK hl.1 (by omega) (by omega) hRX hX hP hD hS hA (xs (i + 1)) (xs (i + 2)) (fun wX2 H1 locs1 hRX2 hP hD hS => ?_)
  refine lv_aload_n hx hb dL_law_301 rfl (lv_at hl 2 rfl) ?_
  refine lv_aload_n hx hb dL_law_302 rfl (lv_at hl 0 rfl) ?_
  refine lv_iload_n hx hb dL_law_303 rfl (lv_at hl 3 rfl) ?_
  refine lv_iconst (v := nI 1) hx hb dL_law_304 (by decide +kernel) ?_
  refine kk_iadd hx hb dL_law_305 ?_
  refine kk_sld hx hb hXs hbl hbA hS (by omega) hL dL_law_306 ?_
  refine lv_aload_n hx hb dL_law_307 rfl (lv_at hl 0 rfl) ?_
  refine lv_iload_n hx hb dL_law_308 rfl (lv_at hl 3 rfl) ?_
  refine lv_iconst (v := nI 2) hx hb dL_law_309 (by decide +kernel) ?_
  refine kk_iadd hx hb dL_law_310 ?_
  refine kk_sld hx hb hXs hbl hbA hS (by omega) hL dL_law_311 ?_
  refine sX10_ofLamp F hK hl.1 (by omega) (by omega) hRM hX (kk_swP hP) (kk_swD hD) hS hA (xs (i + 1)) (xs (i + 2)) (fun wM2 H2 locs2 hRM2 hP hD hS => ?_)
  refine lv_icmp_eq (tgt := 1347) hx hb dL_law_315 (by decide) (fun _ => ?_) (fun c9 => absurd rfl c9)
  exact kk _ _ _ _ _ _ _ _ _ _ _ _ (hX) hRX2 hRM2 (kk_swP hP) (kk_swD hD) hS

set_option maxHeartbeats 4000000 in
set_option maxRecDepth 100000 in
theorem law_cloud {p : Program} {l : Launch} {e : Env} {s : State} {m : MethodId} {args : Array Value} {below : List Frame} {meth : Method} {c : Code} {H : Heap} {locs : List Loc} {Q : State → Prop} {D : va_G} {cI cS : ClassId} {A : Nat → Prop} {ls : Array Slot} {k n : Nat} {ad bd : Nat → Nat} {b L i : Nat} {xs : Nat → Int32} {C : Co} {T E : Mv} {rl : Nat → Int32} {ln : Nat → Nat} {cf : Nat → Nat → Int32} {tr ft : Int32} {wX wM : va_W} (B : LB p s m args c D cI cS A b L xs) (hk : k + 2 ≤ 600000) (hn : n + 18 ≤ 7302250) (hi : i + 7 ≤ L) (hl : lvL ad bd b i ls) (hX : okX C T E) (hRX : RX ad cI cS C T E rl ln cf tr ft wX) (hRM : RM bd cI C T E rl ln cf tr ft wM) (hP : va_P D vwCl (wX ++ wM) H) (hD : va_D A (wX ++ wM)) (hS : va_S A s.heap H locs) (kk : LKK p l e s m args below meth c (k + 1) (n + 9) Q D cI cS A ls ad bd) : W p l e room_1 s m args below meth c H locs k n Q (F0 m 320 ls []) := by
  obtain ⟨F, hK, hXs, hbl, hbA, hA, hL⟩ := B
  obtain ⟨hx, hb, -, -, -, -, -⟩ := id F
  refine lv_aload_n hx hb dL_law_320 rfl (lv_at hl 1 rfl) ?_
  refine lv_aload_n hx hb dL_law_321 rfl (lv_at hl 0 rfl) ?_
  refine lv_iload_n hx hb dL_law_322 rfl (lv_at hl 3 rfl) ?_
  refine lv_iconst (v := nI 1) hx hb dL_law_323 (by decide +kernel) ?_
  refine kk_iadd hx hb dL_law_324 ?_
  refine kk_sld hx hb hXs hbl hbA hS (by omega) hL dL_law_325 ?_
  refine lv_aload_n hx hb dL_law_326 rfl (lv_at hl 0 rfl) ?_
  refine lv_iload_n hx hb dL_law_327 rfl (lv_at hl 3 rfl) ?_
  refine lv_iconst (v := nI 2) hx hb dL_law_328 (by decide +kernel) ?_
  refine kk_iadd hx hb dL_law_329 ?_
  refine kk_sld hx hb hXs hbl hbA hS (by omega) hL dL_law_330 ?_
  refine sX9_cloud F hK hl.1 (by omega) (by omega) hRX hX hP hD hS hA (xs (i + 1)) (xs (i + 2)) (fun wX2 H1 locs1 hRX2 hP hD hS => ?_)
  refine lv_aload_n hx hb dL_law_334 rfl (lv_at hl 2 rfl) ?_
  refine lv_aload_n hx hb dL_law_335 rfl (lv_at hl 0 rfl) ?_
  refine lv_iload_n hx hb dL_law_336 rfl (lv_at hl 3 rfl) ?_
  refine lv_iconst (v := nI 1) hx hb dL_law_337 (by decide +kernel) ?_
  refine kk_iadd hx hb dL_law_338 ?_
  refine kk_sld hx hb hXs hbl hbA hS (by omega) hL dL_law_339 ?_
  refine lv_aload_n hx hb dL_law_340 rfl (lv_at hl 0 rfl) ?_
  refine lv_iload_n hx hb dL_law_341 rfl (lv_at hl 3 rfl) ?_
  refine lv_iconst (v := nI 2) hx hb dL_law_342 (by decide +kernel) ?_
  refine kk_iadd hx hb dL_law_343 ?_
  refine kk_sld hx hb hXs hbl hbA hS (by omega) hL dL_law_344 ?_
  refine sX10_cloud F hK hl.1 (by omega) (by omega) hRM hX (kk_swP hP) (kk_swD hD) hS hA (xs (i + 1)) (xs (i + 2)) (fun wM2 H2 locs2 hRM2 hP hD hS => ?_)
  refine lv_icmp_eq (tgt := 1347) hx hb dL_law_348 (by decide) (fun _ => ?_) (fun c9 => absurd rfl c9)
  exact kk _ _ _ _ _ _ _ _ _ _ _ _ (okX_cloud hX _ _) hRX2 hRM2 (kk_swP hP) (kk_swD hD) hS

set_option maxHeartbeats 4000000 in
set_option maxRecDepth 100000 in
theorem law_age {p : Program} {l : Launch} {e : Env} {s : State} {m : MethodId} {args : Array Value} {below : List Frame} {meth : Method} {c : Code} {H : Heap} {locs : List Loc} {Q : State → Prop} {D : va_G} {cI cS : ClassId} {A : Nat → Prop} {ls : Array Slot} {k n : Nat} {ad bd : Nat → Nat} {b L i : Nat} {xs : Nat → Int32} {C : Co} {T E : Mv} {rl : Nat → Int32} {ln : Nat → Nat} {cf : Nat → Nat → Int32} {tr ft : Int32} {wX wM : va_W} (B : LB p s m args c D cI cS A b L xs) (hk : k + 2 ≤ 600000) (hn : n + 18 ≤ 7302250) (hi : i + 7 ≤ L) (hl : lvL ad bd b i ls) (hX : okX C T E) (hRX : RX ad cI cS C T E rl ln cf tr ft wX) (hRM : RM bd cI C T E rl ln cf tr ft wM) (hP : va_P D vwCl (wX ++ wM) H) (hD : va_D A (wX ++ wM)) (hS : va_S A s.heap H locs) (kk : LKK p l e s m args below meth c (k + 1) (n + 9) Q D cI cS A ls ad bd) : W p l e room_1 s m args below meth c H locs k n Q (F0 m 353 ls []) := by
  obtain ⟨F, hK, hXs, hbl, hbA, hA, hL⟩ := B
  obtain ⟨hx, hb, -, -, -, -, -⟩ := id F
  refine lv_aload_n hx hb dL_law_353 rfl (lv_at hl 1 rfl) ?_
  refine lv_aload_n hx hb dL_law_354 rfl (lv_at hl 0 rfl) ?_
  refine lv_iload_n hx hb dL_law_355 rfl (lv_at hl 3 rfl) ?_
  refine lv_iconst (v := nI 1) hx hb dL_law_356 (by decide +kernel) ?_
  refine kk_iadd hx hb dL_law_357 ?_
  refine kk_sld hx hb hXs hbl hbA hS (by omega) hL dL_law_358 ?_
  refine sX9_age F hK hl.1 (by omega) (by omega) hRX hX hP hD hS hA (xs (i + 1)) (fun wX2 H1 locs1 hRX2 hP hD hS => ?_)
  refine lv_aload_n hx hb dL_law_362 rfl (lv_at hl 2 rfl) ?_
  refine lv_aload_n hx hb dL_law_363 rfl (lv_at hl 0 rfl) ?_
  refine lv_iload_n hx hb dL_law_364 rfl (lv_at hl 3 rfl) ?_
  refine lv_iconst (v := nI 1) hx hb dL_law_365 (by decide +kernel) ?_
  refine kk_iadd hx hb dL_law_366 ?_
  refine kk_sld hx hb hXs hbl hbA hS (by omega) hL dL_law_367 ?_
  refine sX10_age F hK hl.1 (by omega) (by omega) hRM hX (kk_swP hP) (kk_swD hD) hS hA (xs (i + 1)) (fun wM2 H2 locs2 hRM2 hP hD hS => ?_)
  refine lv_icmp_eq (tgt := 1347) hx hb dL_law_371 (by decide) (fun _ => ?_) (fun c9 => absurd rfl c9)
  exact kk _ _ _ _ _ _ _ _ _ _ _ _ (okX_age hX _) hRX2 hRM2 (kk_swP hP) (kk_swD hD) hS

set_option maxHeartbeats 4000000 in
set_option maxRecDepth 100000 in
theorem law_move {p : Program} {l : Launch} {e : Env} {s : State} {m : MethodId} {args : Array Value} {below : List Frame} {meth : Method} {c : Code} {H : Heap} {locs : List Loc} {Q : State → Prop} {D : va_G} {cI cS : ClassId} {A : Nat → Prop} {ls : Array Slot} {k n : Nat} {ad bd : Nat → Nat} {b L i : Nat} {xs : Nat → Int32} {C : Co} {T E : Mv} {rl : Nat → Int32} {ln : Nat → Nat} {cf : Nat → Nat → Int32} {tr ft : Int32} {wX wM : va_W} (B : LB p s m args c D cI cS A b L xs) (hk : k + 2 ≤ 600000) (hn : n + 18 ≤ 7302250) (hi : i + 7 ≤ L) (hl : lvL ad bd b i ls) (hX : okX C T E) (hRX : RX ad cI cS C T E rl ln cf tr ft wX) (hRM : RM bd cI C T E rl ln cf tr ft wM) (hP : va_P D vwCl (wX ++ wM) H) (hD : va_D A (wX ++ wM)) (hS : va_S A s.heap H locs) (kk : LKK p l e s m args below meth c (k + 1) (n + 9) Q D cI cS A ls ad bd) : W p l e room_1 s m args below meth c H locs k n Q (F0 m 376 ls []) := by
  obtain ⟨F, hK, hXs, hbl, hbA, hA, hL⟩ := B
  obtain ⟨hx, hb, -, -, -, -, -⟩ := id F
  refine lv_aload_n hx hb dL_law_376 rfl (lv_at hl 1 rfl) ?_
  refine lv_aload_n hx hb dL_law_377 rfl (lv_at hl 0 rfl) ?_
  refine lv_iload_n hx hb dL_law_378 rfl (lv_at hl 3 rfl) ?_
  refine lv_iconst (v := nI 1) hx hb dL_law_379 (by decide +kernel) ?_
  refine kk_iadd hx hb dL_law_380 ?_
  refine kk_sld hx hb hXs hbl hbA hS (by omega) hL dL_law_381 ?_
  refine lv_aload_n hx hb dL_law_382 rfl (lv_at hl 0 rfl) ?_
  refine lv_iload_n hx hb dL_law_383 rfl (lv_at hl 3 rfl) ?_
  refine lv_iconst (v := nI 2) hx hb dL_law_384 (by decide +kernel) ?_
  refine kk_iadd hx hb dL_law_385 ?_
  refine kk_sld hx hb hXs hbl hbA hS (by omega) hL dL_law_386 ?_
  refine lv_aload_n hx hb dL_law_387 rfl (lv_at hl 0 rfl) ?_
  refine lv_iload_n hx hb dL_law_388 rfl (lv_at hl 3 rfl) ?_
  refine lv_iconst (v := nI 3) hx hb dL_law_389 (by decide +kernel) ?_
  refine kk_iadd hx hb dL_law_390 ?_
  refine kk_sld hx hb hXs hbl hbA hS (by omega) hL dL_law_391 ?_
  refine sX9_move F hK hl.1 (by omega) (by omega) hRX hX hP hD hS hA (xs (i + 1)) (xs (i + 2)) (xs (i + 3)) (fun wX2 H1 locs1 hRX2 hP hD hS => ?_)
  refine lv_aload_n hx hb dL_law_395 rfl (lv_at hl 2 rfl) ?_
  refine lv_aload_n hx hb dL_law_396 rfl (lv_at hl 0 rfl) ?_
  refine lv_iload_n hx hb dL_law_397 rfl (lv_at hl 3 rfl) ?_
  refine lv_iconst (v := nI 1) hx hb dL_law_398 (by decide +kernel) ?_
  refine kk_iadd hx hb dL_law_399 ?_
  refine kk_sld hx hb hXs hbl hbA hS (by omega) hL dL_law_400 ?_
  refine lv_aload_n hx hb dL_law_401 rfl (lv_at hl 0 rfl) ?_
  refine lv_iload_n hx hb dL_law_402 rfl (lv_at hl 3 rfl) ?_
  refine lv_iconst (v := nI 2) hx hb dL_law_403 (by decide +kernel) ?_
  refine kk_iadd hx hb dL_law_404 ?_
  refine kk_sld hx hb hXs hbl hbA hS (by omega) hL dL_law_405 ?_
  refine lv_aload_n hx hb dL_law_406 rfl (lv_at hl 0 rfl) ?_
  refine lv_iload_n hx hb dL_law_407 rfl (lv_at hl 3 rfl) ?_
  refine lv_iconst (v := nI 3) hx hb dL_law_408 (by decide +kernel) ?_
  refine kk_iadd hx hb dL_law_409 ?_
  refine kk_sld hx hb hXs hbl hbA hS (by omega) hL dL_law_410 ?_
  refine sX10_move F hK hl.1 (by omega) (by omega) hRM hX (kk_swP hP) (kk_swD hD) hS hA (xs (i + 1)) (xs (i + 2)) (xs (i + 3)) (fun wM2 H2 locs2 hRM2 hP hD hS => ?_)
  refine lv_icmp_eq (tgt := 1347) hx hb dL_law_414 (by decide) (fun _ => ?_) (fun c9 => absurd rfl c9)
  exact kk _ _ _ _ _ _ _ _ _ _ _ _ (okX_move hX _ _ _) hRX2 hRM2 (kk_swP hP) (kk_swD hD) hS

set_option maxHeartbeats 4000000 in
set_option maxRecDepth 100000 in
theorem law_undo {p : Program} {l : Launch} {e : Env} {s : State} {m : MethodId} {args : Array Value} {below : List Frame} {meth : Method} {c : Code} {H : Heap} {locs : List Loc} {Q : State → Prop} {D : va_G} {cI cS : ClassId} {A : Nat → Prop} {ls : Array Slot} {k n : Nat} {ad bd : Nat → Nat} {b L i : Nat} {xs : Nat → Int32} {C : Co} {T E : Mv} {rl : Nat → Int32} {ln : Nat → Nat} {cf : Nat → Nat → Int32} {tr ft : Int32} {wX wM : va_W} (B : LB p s m args c D cI cS A b L xs) (hk : k + 2 ≤ 600000) (hn : n + 18 ≤ 7302250) (hi : i + 7 ≤ L) (hl : lvL ad bd b i ls) (hX : okX C T E) (hRX : RX ad cI cS C T E rl ln cf tr ft wX) (hRM : RM bd cI C T E rl ln cf tr ft wM) (hP : va_P D vwCl (wX ++ wM) H) (hD : va_D A (wX ++ wM)) (hS : va_S A s.heap H locs) (kk : LKK p l e s m args below meth c (k + 1) (n + 9) Q D cI cS A ls ad bd) : W p l e room_1 s m args below meth c H locs k n Q (F0 m 419 ls []) := by
  obtain ⟨F, hK, hXs, hbl, hbA, hA, hL⟩ := B
  obtain ⟨hx, hb, -, -, -, -, -⟩ := id F
  refine lv_aload_n hx hb dL_law_419 rfl (lv_at hl 1 rfl) ?_
  refine lv_aload_n hx hb dL_law_420 rfl (lv_at hl 0 rfl) ?_
  refine lv_iload_n hx hb dL_law_421 rfl (lv_at hl 3 rfl) ?_
  refine lv_iconst (v := nI 1) hx hb dL_law_422 (by decide +kernel) ?_
  refine kk_iadd hx hb dL_law_423 ?_
  refine kk_sld hx hb hXs hbl hbA hS (by omega) hL dL_law_424 ?_
  refine sX9_undo F hK hl.1 (by omega) (by omega) hRX hX hP hD hS hA (xs (i + 1)) (fun wX2 H1 locs1 hRX2 hP hD hS => ?_)
  refine lv_aload_n hx hb dL_law_428 rfl (lv_at hl 2 rfl) ?_
  refine lv_aload_n hx hb dL_law_429 rfl (lv_at hl 0 rfl) ?_
  refine lv_iload_n hx hb dL_law_430 rfl (lv_at hl 3 rfl) ?_
  refine lv_iconst (v := nI 1) hx hb dL_law_431 (by decide +kernel) ?_
  refine kk_iadd hx hb dL_law_432 ?_
  refine kk_sld hx hb hXs hbl hbA hS (by omega) hL dL_law_433 ?_
  refine sX10_undo F hK hl.1 (by omega) (by omega) hRM hX (kk_swP hP) (kk_swD hD) hS hA (xs (i + 1)) (fun wM2 H2 locs2 hRM2 hP hD hS => ?_)
  refine lv_icmp_eq (tgt := 1347) hx hb dL_law_437 (by decide) (fun _ => ?_) (fun c9 => absurd rfl c9)
  exact kk _ _ _ _ _ _ _ _ _ _ _ _ (okX_undo hX _) hRX2 hRM2 (kk_swP hP) (kk_swD hD) hS

set_option maxHeartbeats 4000000 in
set_option maxRecDepth 100000 in
theorem law_where {p : Program} {l : Launch} {e : Env} {s : State} {m : MethodId} {args : Array Value} {below : List Frame} {meth : Method} {c : Code} {H : Heap} {locs : List Loc} {Q : State → Prop} {D : va_G} {cI cS : ClassId} {A : Nat → Prop} {ls : Array Slot} {k n : Nat} {ad bd : Nat → Nat} {b L i : Nat} {xs : Nat → Int32} {C : Co} {T E : Mv} {rl : Nat → Int32} {ln : Nat → Nat} {cf : Nat → Nat → Int32} {tr ft : Int32} {wX wM : va_W} (B : LB p s m args c D cI cS A b L xs) (hk : k + 2 ≤ 600000) (hn : n + 18 ≤ 7302250) (hi : i + 7 ≤ L) (hl : lvL ad bd b i ls) (hX : okX C T E) (hRX : RX ad cI cS C T E rl ln cf tr ft wX) (hRM : RM bd cI C T E rl ln cf tr ft wM) (hP : va_P D vwCl (wX ++ wM) H) (hD : va_D A (wX ++ wM)) (hS : va_S A s.heap H locs) (kk : LKK p l e s m args below meth c (k + 1) (n + 9) Q D cI cS A ls ad bd) : W p l e room_1 s m args below meth c H locs k n Q (F0 m 442 ls []) := by
  obtain ⟨F, hK, hXs, hbl, hbA, hA, hL⟩ := B
  obtain ⟨hx, hb, -, -, -, -, -⟩ := id F
  refine lv_aload_n hx hb dL_law_442 rfl (lv_at hl 1 rfl) ?_
  refine lv_aload_n hx hb dL_law_443 rfl (lv_at hl 0 rfl) ?_
  refine lv_iload_n hx hb dL_law_444 rfl (lv_at hl 3 rfl) ?_
  refine lv_iconst (v := nI 1) hx hb dL_law_445 (by decide +kernel) ?_
  refine kk_iadd hx hb dL_law_446 ?_
  refine kk_sld hx hb hXs hbl hbA hS (by omega) hL dL_law_447 ?_
  refine lv_aload_n hx hb dL_law_448 rfl (lv_at hl 0 rfl) ?_
  refine lv_iload_n hx hb dL_law_449 rfl (lv_at hl 3 rfl) ?_
  refine lv_iconst (v := nI 2) hx hb dL_law_450 (by decide +kernel) ?_
  refine kk_iadd hx hb dL_law_451 ?_
  refine kk_sld hx hb hXs hbl hbA hS (by omega) hL dL_law_452 ?_
  refine sX9_where F hK hl.1 (by omega) (by omega) hRX hX hP hD hS hA (xs (i + 1)) (xs (i + 2)) (fun wX2 H1 locs1 hRX2 hP hD hS => ?_)
  refine lv_aload_n hx hb dL_law_456 rfl (lv_at hl 2 rfl) ?_
  refine lv_aload_n hx hb dL_law_457 rfl (lv_at hl 0 rfl) ?_
  refine lv_iload_n hx hb dL_law_458 rfl (lv_at hl 3 rfl) ?_
  refine lv_iconst (v := nI 1) hx hb dL_law_459 (by decide +kernel) ?_
  refine kk_iadd hx hb dL_law_460 ?_
  refine kk_sld hx hb hXs hbl hbA hS (by omega) hL dL_law_461 ?_
  refine lv_aload_n hx hb dL_law_462 rfl (lv_at hl 0 rfl) ?_
  refine lv_iload_n hx hb dL_law_463 rfl (lv_at hl 3 rfl) ?_
  refine lv_iconst (v := nI 2) hx hb dL_law_464 (by decide +kernel) ?_
  refine kk_iadd hx hb dL_law_465 ?_
  refine kk_sld hx hb hXs hbl hbA hS (by omega) hL dL_law_466 ?_
  refine sX10_where F hK hl.1 (by omega) (by omega) hRM hX (kk_swP hP) (kk_swD hD) hS hA (xs (i + 1)) (xs (i + 2)) (fun wM2 H2 locs2 hRM2 hP hD hS => ?_)
  refine lv_icmp_eq (tgt := 1347) hx hb dL_law_470 (by decide) (fun _ => ?_) (fun c9 => absurd rfl c9)
  exact kk _ _ _ _ _ _ _ _ _ _ _ _ (hX) hRX2 hRM2 (kk_swP hP) (kk_swD hD) hS

set_option maxHeartbeats 4000000 in
set_option maxRecDepth 100000 in
theorem law_gives {p : Program} {l : Launch} {e : Env} {s : State} {m : MethodId} {args : Array Value} {below : List Frame} {meth : Method} {c : Code} {H : Heap} {locs : List Loc} {Q : State → Prop} {D : va_G} {cI cS : ClassId} {A : Nat → Prop} {ls : Array Slot} {k n : Nat} {ad bd : Nat → Nat} {b L i : Nat} {xs : Nat → Int32} {C : Co} {T E : Mv} {rl : Nat → Int32} {ln : Nat → Nat} {cf : Nat → Nat → Int32} {tr ft : Int32} {wX wM : va_W} (B : LB p s m args c D cI cS A b L xs) (hk : k + 2 ≤ 600000) (hn : n + 18 ≤ 7302250) (hi : i + 7 ≤ L) (hl : lvL ad bd b i ls) (hX : okX C T E) (hRX : RX ad cI cS C T E rl ln cf tr ft wX) (hRM : RM bd cI C T E rl ln cf tr ft wM) (hP : va_P D vwCl (wX ++ wM) H) (hD : va_D A (wX ++ wM)) (hS : va_S A s.heap H locs) (kk : LKK p l e s m args below meth c (k + 1) (n + 9) Q D cI cS A ls ad bd) : W p l e room_1 s m args below meth c H locs k n Q (F0 m 475 ls []) := by
  obtain ⟨F, hK, hXs, hbl, hbA, hA, hL⟩ := B
  obtain ⟨hx, hb, -, -, -, -, -⟩ := id F
  refine lv_aload_n hx hb dL_law_475 rfl (lv_at hl 1 rfl) ?_
  refine lv_aload_n hx hb dL_law_476 rfl (lv_at hl 0 rfl) ?_
  refine lv_iload_n hx hb dL_law_477 rfl (lv_at hl 3 rfl) ?_
  refine lv_iconst (v := nI 1) hx hb dL_law_478 (by decide +kernel) ?_
  refine kk_iadd hx hb dL_law_479 ?_
  refine kk_sld hx hb hXs hbl hbA hS (by omega) hL dL_law_480 ?_
  refine lv_aload_n hx hb dL_law_481 rfl (lv_at hl 0 rfl) ?_
  refine lv_iload_n hx hb dL_law_482 rfl (lv_at hl 3 rfl) ?_
  refine lv_iconst (v := nI 2) hx hb dL_law_483 (by decide +kernel) ?_
  refine kk_iadd hx hb dL_law_484 ?_
  refine kk_sld hx hb hXs hbl hbA hS (by omega) hL dL_law_485 ?_
  refine sX9_gives F hK hl.1 (by omega) (by omega) hRX hX hP hD hS hA (xs (i + 1)) (xs (i + 2)) (fun wX2 H1 locs1 hRX2 hP hD hS => ?_)
  refine lv_aload_n hx hb dL_law_489 rfl (lv_at hl 2 rfl) ?_
  refine lv_aload_n hx hb dL_law_490 rfl (lv_at hl 0 rfl) ?_
  refine lv_iload_n hx hb dL_law_491 rfl (lv_at hl 3 rfl) ?_
  refine lv_iconst (v := nI 1) hx hb dL_law_492 (by decide +kernel) ?_
  refine kk_iadd hx hb dL_law_493 ?_
  refine kk_sld hx hb hXs hbl hbA hS (by omega) hL dL_law_494 ?_
  refine lv_aload_n hx hb dL_law_495 rfl (lv_at hl 0 rfl) ?_
  refine lv_iload_n hx hb dL_law_496 rfl (lv_at hl 3 rfl) ?_
  refine lv_iconst (v := nI 2) hx hb dL_law_497 (by decide +kernel) ?_
  refine kk_iadd hx hb dL_law_498 ?_
  refine kk_sld hx hb hXs hbl hbA hS (by omega) hL dL_law_499 ?_
  refine sX10_gives F hK hl.1 (by omega) (by omega) hRM hX (kk_swP hP) (kk_swD hD) hS hA (xs (i + 1)) (xs (i + 2)) (fun wM2 H2 locs2 hRM2 hP hD hS => ?_)
  refine lv_icmp_eq (tgt := 1347) hx hb dL_law_503 (by decide) (fun _ => ?_) (fun c9 => absurd rfl c9)
  exact kk _ _ _ _ _ _ _ _ _ _ _ _ (hX) hRX2 hRM2 (kk_swP hP) (kk_swD hD) hS

set_option maxHeartbeats 4000000 in
set_option maxRecDepth 100000 in
theorem law_falls {p : Program} {l : Launch} {e : Env} {s : State} {m : MethodId} {args : Array Value} {below : List Frame} {meth : Method} {c : Code} {H : Heap} {locs : List Loc} {Q : State → Prop} {D : va_G} {cI cS : ClassId} {A : Nat → Prop} {ls : Array Slot} {k n : Nat} {ad bd : Nat → Nat} {b L i : Nat} {xs : Nat → Int32} {C : Co} {T E : Mv} {rl : Nat → Int32} {ln : Nat → Nat} {cf : Nat → Nat → Int32} {tr ft : Int32} {wX wM : va_W} (B : LB p s m args c D cI cS A b L xs) (hk : k + 2 ≤ 600000) (hn : n + 18 ≤ 7302250) (hi : i + 7 ≤ L) (hl : lvL ad bd b i ls) (hX : okX C T E) (hRX : RX ad cI cS C T E rl ln cf tr ft wX) (hRM : RM bd cI C T E rl ln cf tr ft wM) (hP : va_P D vwCl (wX ++ wM) H) (hD : va_D A (wX ++ wM)) (hS : va_S A s.heap H locs) (kk : LKK p l e s m args below meth c (k + 1) (n + 9) Q D cI cS A ls ad bd) : W p l e room_1 s m args below meth c H locs k n Q (F0 m 508 ls []) := by
  obtain ⟨F, hK, hXs, hbl, hbA, hA, hL⟩ := B
  obtain ⟨hx, hb, -, -, -, -, -⟩ := id F
  refine lv_aload_n hx hb dL_law_508 rfl (lv_at hl 1 rfl) ?_
  refine lv_aload_n hx hb dL_law_509 rfl (lv_at hl 0 rfl) ?_
  refine lv_iload_n hx hb dL_law_510 rfl (lv_at hl 3 rfl) ?_
  refine lv_iconst (v := nI 1) hx hb dL_law_511 (by decide +kernel) ?_
  refine kk_iadd hx hb dL_law_512 ?_
  refine kk_sld hx hb hXs hbl hbA hS (by omega) hL dL_law_513 ?_
  refine lv_aload_n hx hb dL_law_514 rfl (lv_at hl 0 rfl) ?_
  refine lv_iload_n hx hb dL_law_515 rfl (lv_at hl 3 rfl) ?_
  refine lv_iconst (v := nI 2) hx hb dL_law_516 (by decide +kernel) ?_
  refine kk_iadd hx hb dL_law_517 ?_
  refine kk_sld hx hb hXs hbl hbA hS (by omega) hL dL_law_518 ?_
  refine sX9_falls F hK hl.1 (by omega) (by omega) hRX hX hP hD hS hA (xs (i + 1)) (xs (i + 2)) (fun wX2 H1 locs1 hRX2 hP hD hS => ?_)
  refine lv_aload_n hx hb dL_law_522 rfl (lv_at hl 2 rfl) ?_
  refine lv_aload_n hx hb dL_law_523 rfl (lv_at hl 0 rfl) ?_
  refine lv_iload_n hx hb dL_law_524 rfl (lv_at hl 3 rfl) ?_
  refine lv_iconst (v := nI 1) hx hb dL_law_525 (by decide +kernel) ?_
  refine kk_iadd hx hb dL_law_526 ?_
  refine kk_sld hx hb hXs hbl hbA hS (by omega) hL dL_law_527 ?_
  refine lv_aload_n hx hb dL_law_528 rfl (lv_at hl 0 rfl) ?_
  refine lv_iload_n hx hb dL_law_529 rfl (lv_at hl 3 rfl) ?_
  refine lv_iconst (v := nI 2) hx hb dL_law_530 (by decide +kernel) ?_
  refine kk_iadd hx hb dL_law_531 ?_
  refine kk_sld hx hb hXs hbl hbA hS (by omega) hL dL_law_532 ?_
  refine sX10_falls F hK hl.1 (by omega) (by omega) hRM hX (kk_swP hP) (kk_swD hD) hS hA (xs (i + 1)) (xs (i + 2)) (fun wM2 H2 locs2 hRM2 hP hD hS => ?_)
  refine lv_icmp_eq (tgt := 1347) hx hb dL_law_536 (by decide) (fun _ => ?_) (fun c9 => absurd rfl c9)
  exact kk _ _ _ _ _ _ _ _ _ _ _ _ (hX) hRX2 hRM2 (kk_swP hP) (kk_swD hD) hS

set_option maxHeartbeats 4000000 in
set_option maxRecDepth 100000 in
theorem law_light {p : Program} {l : Launch} {e : Env} {s : State} {m : MethodId} {args : Array Value} {below : List Frame} {meth : Method} {c : Code} {H : Heap} {locs : List Loc} {Q : State → Prop} {D : va_G} {cI cS : ClassId} {A : Nat → Prop} {ls : Array Slot} {k n : Nat} {ad bd : Nat → Nat} {b L i : Nat} {xs : Nat → Int32} {C : Co} {T E : Mv} {rl : Nat → Int32} {ln : Nat → Nat} {cf : Nat → Nat → Int32} {tr ft : Int32} {wX wM : va_W} (B : LB p s m args c D cI cS A b L xs) (hk : k + 2 ≤ 600000) (hn : n + 18 ≤ 7302250) (hi : i + 7 ≤ L) (hl : lvL ad bd b i ls) (hX : okX C T E) (hRX : RX ad cI cS C T E rl ln cf tr ft wX) (hRM : RM bd cI C T E rl ln cf tr ft wM) (hP : va_P D vwCl (wX ++ wM) H) (hD : va_D A (wX ++ wM)) (hS : va_S A s.heap H locs) (kk : LKK p l e s m args below meth c (k + 1) (n + 9) Q D cI cS A ls ad bd) : W p l e room_1 s m args below meth c H locs k n Q (F0 m 541 ls []) := by
  obtain ⟨F, hK, hXs, hbl, hbA, hA, hL⟩ := B
  obtain ⟨hx, hb, -, -, -, -, -⟩ := id F
  refine lv_aload_n hx hb dL_law_541 rfl (lv_at hl 1 rfl) ?_
  refine lv_aload_n hx hb dL_law_542 rfl (lv_at hl 0 rfl) ?_
  refine lv_iload_n hx hb dL_law_543 rfl (lv_at hl 3 rfl) ?_
  refine lv_iconst (v := nI 1) hx hb dL_law_544 (by decide +kernel) ?_
  refine kk_iadd hx hb dL_law_545 ?_
  refine kk_sld hx hb hXs hbl hbA hS (by omega) hL dL_law_546 ?_
  refine lv_aload_n hx hb dL_law_547 rfl (lv_at hl 0 rfl) ?_
  refine lv_iload_n hx hb dL_law_548 rfl (lv_at hl 3 rfl) ?_
  refine lv_iconst (v := nI 2) hx hb dL_law_549 (by decide +kernel) ?_
  refine kk_iadd hx hb dL_law_550 ?_
  refine kk_sld hx hb hXs hbl hbA hS (by omega) hL dL_law_551 ?_
  refine sX9_light F hK hl.1 (by omega) (by omega) hRX hX hP hD hS hA (xs (i + 1)) (xs (i + 2)) (fun wX2 H1 locs1 hRX2 hP hD hS => ?_)
  refine lv_aload_n hx hb dL_law_555 rfl (lv_at hl 2 rfl) ?_
  refine lv_aload_n hx hb dL_law_556 rfl (lv_at hl 0 rfl) ?_
  refine lv_iload_n hx hb dL_law_557 rfl (lv_at hl 3 rfl) ?_
  refine lv_iconst (v := nI 1) hx hb dL_law_558 (by decide +kernel) ?_
  refine kk_iadd hx hb dL_law_559 ?_
  refine kk_sld hx hb hXs hbl hbA hS (by omega) hL dL_law_560 ?_
  refine lv_aload_n hx hb dL_law_561 rfl (lv_at hl 0 rfl) ?_
  refine lv_iload_n hx hb dL_law_562 rfl (lv_at hl 3 rfl) ?_
  refine lv_iconst (v := nI 2) hx hb dL_law_563 (by decide +kernel) ?_
  refine kk_iadd hx hb dL_law_564 ?_
  refine kk_sld hx hb hXs hbl hbA hS (by omega) hL dL_law_565 ?_
  refine sX10_light F hK hl.1 (by omega) (by omega) hRM hX (kk_swP hP) (kk_swD hD) hS hA (xs (i + 1)) (xs (i + 2)) (fun wM2 H2 locs2 hRM2 hP hD hS => ?_)
  refine lv_icmp_eq (tgt := 1347) hx hb dL_law_569 (by decide) (fun _ => ?_) (fun c9 => absurd rfl c9)
  exact kk _ _ _ _ _ _ _ _ _ _ _ _ (hX) hRX2 hRM2 (kk_swP hP) (kk_swD hD) hS

set_option maxHeartbeats 4000000 in
set_option maxRecDepth 100000 in
theorem law_dark {p : Program} {l : Launch} {e : Env} {s : State} {m : MethodId} {args : Array Value} {below : List Frame} {meth : Method} {c : Code} {H : Heap} {locs : List Loc} {Q : State → Prop} {D : va_G} {cI cS : ClassId} {A : Nat → Prop} {ls : Array Slot} {k n : Nat} {ad bd : Nat → Nat} {b L i : Nat} {xs : Nat → Int32} {C : Co} {T E : Mv} {rl : Nat → Int32} {ln : Nat → Nat} {cf : Nat → Nat → Int32} {tr ft : Int32} {wX wM : va_W} (B : LB p s m args c D cI cS A b L xs) (hk : k + 2 ≤ 600000) (hn : n + 18 ≤ 7302250) (hi : i + 7 ≤ L) (hl : lvL ad bd b i ls) (hX : okX C T E) (hRX : RX ad cI cS C T E rl ln cf tr ft wX) (hRM : RM bd cI C T E rl ln cf tr ft wM) (hP : va_P D vwCl (wX ++ wM) H) (hD : va_D A (wX ++ wM)) (hS : va_S A s.heap H locs) (kk : LKK p l e s m args below meth c (k + 1) (n + 9) Q D cI cS A ls ad bd) : W p l e room_1 s m args below meth c H locs k n Q (F0 m 574 ls []) := by
  obtain ⟨F, hK, hXs, hbl, hbA, hA, hL⟩ := B
  obtain ⟨hx, hb, -, -, -, -, -⟩ := id F
  refine lv_aload_n hx hb dL_law_574 rfl (lv_at hl 1 rfl) ?_
  refine lv_aload_n hx hb dL_law_575 rfl (lv_at hl 0 rfl) ?_
  refine lv_iload_n hx hb dL_law_576 rfl (lv_at hl 3 rfl) ?_
  refine lv_iconst (v := nI 1) hx hb dL_law_577 (by decide +kernel) ?_
  refine kk_iadd hx hb dL_law_578 ?_
  refine kk_sld hx hb hXs hbl hbA hS (by omega) hL dL_law_579 ?_
  refine lv_aload_n hx hb dL_law_580 rfl (lv_at hl 0 rfl) ?_
  refine lv_iload_n hx hb dL_law_581 rfl (lv_at hl 3 rfl) ?_
  refine lv_iconst (v := nI 2) hx hb dL_law_582 (by decide +kernel) ?_
  refine kk_iadd hx hb dL_law_583 ?_
  refine kk_sld hx hb hXs hbl hbA hS (by omega) hL dL_law_584 ?_
  refine lv_aload_n hx hb dL_law_585 rfl (lv_at hl 0 rfl) ?_
  refine lv_iload_n hx hb dL_law_586 rfl (lv_at hl 3 rfl) ?_
  refine lv_iconst (v := nI 3) hx hb dL_law_587 (by decide +kernel) ?_
  refine kk_iadd hx hb dL_law_588 ?_
  refine kk_sld hx hb hXs hbl hbA hS (by omega) hL dL_law_589 ?_
  refine sX9_dark F hK hl.1 (by omega) (by omega) hRX hX hP hD hS hA (xs (i + 1)) (xs (i + 2)) (xs (i + 3)) (fun wX2 H1 locs1 hRX2 hP hD hS => ?_)
  refine lv_aload_n hx hb dL_law_593 rfl (lv_at hl 2 rfl) ?_
  refine lv_aload_n hx hb dL_law_594 rfl (lv_at hl 0 rfl) ?_
  refine lv_iload_n hx hb dL_law_595 rfl (lv_at hl 3 rfl) ?_
  refine lv_iconst (v := nI 1) hx hb dL_law_596 (by decide +kernel) ?_
  refine kk_iadd hx hb dL_law_597 ?_
  refine kk_sld hx hb hXs hbl hbA hS (by omega) hL dL_law_598 ?_
  refine lv_aload_n hx hb dL_law_599 rfl (lv_at hl 0 rfl) ?_
  refine lv_iload_n hx hb dL_law_600 rfl (lv_at hl 3 rfl) ?_
  refine lv_iconst (v := nI 2) hx hb dL_law_601 (by decide +kernel) ?_
  refine kk_iadd hx hb dL_law_602 ?_
  refine kk_sld hx hb hXs hbl hbA hS (by omega) hL dL_law_603 ?_
  refine lv_aload_n hx hb dL_law_604 rfl (lv_at hl 0 rfl) ?_
  refine lv_iload_n hx hb dL_law_605 rfl (lv_at hl 3 rfl) ?_
  refine lv_iconst (v := nI 3) hx hb dL_law_606 (by decide +kernel) ?_
  refine kk_iadd hx hb dL_law_607 ?_
  refine kk_sld hx hb hXs hbl hbA hS (by omega) hL dL_law_608 ?_
  refine sX10_dark F hK hl.1 (by omega) (by omega) hRM hX (kk_swP hP) (kk_swD hD) hS hA (xs (i + 1)) (xs (i + 2)) (xs (i + 3)) (fun wM2 H2 locs2 hRM2 hP hD hS => ?_)
  refine lv_icmp_eq (tgt := 1347) hx hb dL_law_612 (by decide) (fun _ => ?_) (fun c9 => absurd rfl c9)
  exact kk _ _ _ _ _ _ _ _ _ _ _ _ (hX) hRX2 hRM2 (kk_swP hP) (kk_swD hD) hS

set_option maxHeartbeats 4000000 in
set_option maxRecDepth 100000 in
theorem law_set {p : Program} {l : Launch} {e : Env} {s : State} {m : MethodId} {args : Array Value} {below : List Frame} {meth : Method} {c : Code} {H : Heap} {locs : List Loc} {Q : State → Prop} {D : va_G} {cI cS : ClassId} {A : Nat → Prop} {ls : Array Slot} {k n : Nat} {ad bd : Nat → Nat} {b L i : Nat} {xs : Nat → Int32} {C : Co} {T E : Mv} {rl : Nat → Int32} {ln : Nat → Nat} {cf : Nat → Nat → Int32} {tr ft : Int32} {wX wM : va_W} (B : LB p s m args c D cI cS A b L xs) (hk : k + 2 ≤ 600000) (hn : n + 18 ≤ 7302250) (hi : i + 7 ≤ L) (hl : lvL ad bd b i ls) (hX : okX C T E) (hRX : RX ad cI cS C T E rl ln cf tr ft wX) (hRM : RM bd cI C T E rl ln cf tr ft wM) (hP : va_P D vwCl (wX ++ wM) H) (hD : va_D A (wX ++ wM)) (hS : va_S A s.heap H locs) (kk : LKK p l e s m args below meth c (k + 1) (n + 9) Q D cI cS A ls ad bd) : W p l e room_1 s m args below meth c H locs k n Q (F0 m 617 ls []) := by
  obtain ⟨F, hK, hXs, hbl, hbA, hA, hL⟩ := B
  obtain ⟨hx, hb, -, -, -, -, -⟩ := id F
  refine lv_aload_n hx hb dL_law_617 rfl (lv_at hl 1 rfl) ?_
  refine lv_aload_n hx hb dL_law_618 rfl (lv_at hl 0 rfl) ?_
  refine lv_iload_n hx hb dL_law_619 rfl (lv_at hl 3 rfl) ?_
  refine lv_iconst (v := nI 1) hx hb dL_law_620 (by decide +kernel) ?_
  refine kk_iadd hx hb dL_law_621 ?_
  refine kk_sld hx hb hXs hbl hbA hS (by omega) hL dL_law_622 ?_
  refine lv_aload_n hx hb dL_law_623 rfl (lv_at hl 0 rfl) ?_
  refine lv_iload_n hx hb dL_law_624 rfl (lv_at hl 3 rfl) ?_
  refine lv_iconst (v := nI 2) hx hb dL_law_625 (by decide +kernel) ?_
  refine kk_iadd hx hb dL_law_626 ?_
  refine kk_sld hx hb hXs hbl hbA hS (by omega) hL dL_law_627 ?_
  refine lv_aload_n hx hb dL_law_628 rfl (lv_at hl 0 rfl) ?_
  refine lv_iload_n hx hb dL_law_629 rfl (lv_at hl 3 rfl) ?_
  refine lv_iconst (v := nI 3) hx hb dL_law_630 (by decide +kernel) ?_
  refine kk_iadd hx hb dL_law_631 ?_
  refine kk_sld hx hb hXs hbl hbA hS (by omega) hL dL_law_632 ?_
  refine sX9_set F hK hl.1 (by omega) (by omega) hRX hX hP hD hS hA (xs (i + 1)) (xs (i + 2)) (xs (i + 3)) (fun wX2 H1 locs1 hRX2 hP hD hS => ?_)
  refine lv_aload_n hx hb dL_law_636 rfl (lv_at hl 2 rfl) ?_
  refine lv_aload_n hx hb dL_law_637 rfl (lv_at hl 0 rfl) ?_
  refine lv_iload_n hx hb dL_law_638 rfl (lv_at hl 3 rfl) ?_
  refine lv_iconst (v := nI 1) hx hb dL_law_639 (by decide +kernel) ?_
  refine kk_iadd hx hb dL_law_640 ?_
  refine kk_sld hx hb hXs hbl hbA hS (by omega) hL dL_law_641 ?_
  refine lv_aload_n hx hb dL_law_642 rfl (lv_at hl 0 rfl) ?_
  refine lv_iload_n hx hb dL_law_643 rfl (lv_at hl 3 rfl) ?_
  refine lv_iconst (v := nI 2) hx hb dL_law_644 (by decide +kernel) ?_
  refine kk_iadd hx hb dL_law_645 ?_
  refine kk_sld hx hb hXs hbl hbA hS (by omega) hL dL_law_646 ?_
  refine lv_aload_n hx hb dL_law_647 rfl (lv_at hl 0 rfl) ?_
  refine lv_iload_n hx hb dL_law_648 rfl (lv_at hl 3 rfl) ?_
  refine lv_iconst (v := nI 3) hx hb dL_law_649 (by decide +kernel) ?_
  refine kk_iadd hx hb dL_law_650 ?_
  refine kk_sld hx hb hXs hbl hbA hS (by omega) hL dL_law_651 ?_
  refine sX10_set F hK hl.1 (by omega) (by omega) hRM hX (kk_swP hP) (kk_swD hD) hS hA (xs (i + 1)) (xs (i + 2)) (xs (i + 3)) (fun wM2 H2 locs2 hRM2 hP hD hS => ?_)
  refine lv_icmp_eq (tgt := 1347) hx hb dL_law_655 (by decide) (fun _ => ?_) (fun c9 => absurd rfl c9)
  exact kk _ _ _ _ _ _ _ _ _ _ _ _ (hX) hRX2 hRM2 (kk_swP hP) (kk_swD hD) hS

set_option maxHeartbeats 4000000 in
set_option maxRecDepth 100000 in
theorem law_show {p : Program} {l : Launch} {e : Env} {s : State} {m : MethodId} {args : Array Value} {below : List Frame} {meth : Method} {c : Code} {H : Heap} {locs : List Loc} {Q : State → Prop} {D : va_G} {cI cS : ClassId} {A : Nat → Prop} {ls : Array Slot} {k n : Nat} {ad bd : Nat → Nat} {b L i : Nat} {xs : Nat → Int32} {C : Co} {T E : Mv} {rl : Nat → Int32} {ln : Nat → Nat} {cf : Nat → Nat → Int32} {tr ft : Int32} {wX wM : va_W} (B : LB p s m args c D cI cS A b L xs) (hk : k + 2 ≤ 600000) (hn : n + 18 ≤ 7302250) (hi : i + 7 ≤ L) (hl : lvL ad bd b i ls) (hX : okX C T E) (hRX : RX ad cI cS C T E rl ln cf tr ft wX) (hRM : RM bd cI C T E rl ln cf tr ft wM) (hP : va_P D vwCl (wX ++ wM) H) (hD : va_D A (wX ++ wM)) (hS : va_S A s.heap H locs) (kk : LKK p l e s m args below meth c (k + 1) (n + 9) Q D cI cS A ls ad bd) : W p l e room_1 s m args below meth c H locs k n Q (F0 m 660 ls []) := by
  obtain ⟨F, hK, hXs, hbl, hbA, hA, hL⟩ := B
  obtain ⟨hx, hb, -, -, -, -, -⟩ := id F
  refine lv_aload_n hx hb dL_law_660 rfl (lv_at hl 1 rfl) ?_
  refine lv_aload_n hx hb dL_law_661 rfl (lv_at hl 0 rfl) ?_
  refine lv_iload_n hx hb dL_law_662 rfl (lv_at hl 3 rfl) ?_
  refine lv_iconst (v := nI 1) hx hb dL_law_663 (by decide +kernel) ?_
  refine kk_iadd hx hb dL_law_664 ?_
  refine kk_sld hx hb hXs hbl hbA hS (by omega) hL dL_law_665 ?_
  refine lv_aload_n hx hb dL_law_666 rfl (lv_at hl 0 rfl) ?_
  refine lv_iload_n hx hb dL_law_667 rfl (lv_at hl 3 rfl) ?_
  refine lv_iconst (v := nI 2) hx hb dL_law_668 (by decide +kernel) ?_
  refine kk_iadd hx hb dL_law_669 ?_
  refine kk_sld hx hb hXs hbl hbA hS (by omega) hL dL_law_670 ?_
  refine lv_aload_n hx hb dL_law_671 rfl (lv_at hl 0 rfl) ?_
  refine lv_iload_n hx hb dL_law_672 rfl (lv_at hl 3 rfl) ?_
  refine lv_iconst (v := nI 3) hx hb dL_law_673 (by decide +kernel) ?_
  refine kk_iadd hx hb dL_law_674 ?_
  refine kk_sld hx hb hXs hbl hbA hS (by omega) hL dL_law_675 ?_
  refine sX9_show F hK hl.1 (by omega) (by omega) hRX hX hP hD hS hA (xs (i + 1)) (xs (i + 2)) (xs (i + 3)) (fun wX2 H1 locs1 hRX2 hP hD hS => ?_)
  refine lv_aload_n hx hb dL_law_679 rfl (lv_at hl 2 rfl) ?_
  refine lv_aload_n hx hb dL_law_680 rfl (lv_at hl 0 rfl) ?_
  refine lv_iload_n hx hb dL_law_681 rfl (lv_at hl 3 rfl) ?_
  refine lv_iconst (v := nI 1) hx hb dL_law_682 (by decide +kernel) ?_
  refine kk_iadd hx hb dL_law_683 ?_
  refine kk_sld hx hb hXs hbl hbA hS (by omega) hL dL_law_684 ?_
  refine lv_aload_n hx hb dL_law_685 rfl (lv_at hl 0 rfl) ?_
  refine lv_iload_n hx hb dL_law_686 rfl (lv_at hl 3 rfl) ?_
  refine lv_iconst (v := nI 2) hx hb dL_law_687 (by decide +kernel) ?_
  refine kk_iadd hx hb dL_law_688 ?_
  refine kk_sld hx hb hXs hbl hbA hS (by omega) hL dL_law_689 ?_
  refine lv_aload_n hx hb dL_law_690 rfl (lv_at hl 0 rfl) ?_
  refine lv_iload_n hx hb dL_law_691 rfl (lv_at hl 3 rfl) ?_
  refine lv_iconst (v := nI 3) hx hb dL_law_692 (by decide +kernel) ?_
  refine kk_iadd hx hb dL_law_693 ?_
  refine kk_sld hx hb hXs hbl hbA hS (by omega) hL dL_law_694 ?_
  refine sX10_show F hK hl.1 (by omega) (by omega) hRM hX (kk_swP hP) (kk_swD hD) hS hA (xs (i + 1)) (xs (i + 2)) (xs (i + 3)) (fun wM2 H2 locs2 hRM2 hP hD hS => ?_)
  refine lv_icmp_eq (tgt := 1347) hx hb dL_law_698 (by decide) (fun _ => ?_) (fun c9 => absurd rfl c9)
  exact kk _ _ _ _ _ _ _ _ _ _ _ _ (hX) hRX2 hRM2 (kk_swP hP) (kk_swD hD) hS

set_option maxHeartbeats 4000000 in
set_option maxRecDepth 100000 in
theorem law_moves {p : Program} {l : Launch} {e : Env} {s : State} {m : MethodId} {args : Array Value} {below : List Frame} {meth : Method} {c : Code} {H : Heap} {locs : List Loc} {Q : State → Prop} {D : va_G} {cI cS : ClassId} {A : Nat → Prop} {ls : Array Slot} {k n : Nat} {ad bd : Nat → Nat} {b L i : Nat} {xs : Nat → Int32} {C : Co} {T E : Mv} {rl : Nat → Int32} {ln : Nat → Nat} {cf : Nat → Nat → Int32} {tr ft : Int32} {wX wM : va_W} (B : LB p s m args c D cI cS A b L xs) (hk : k + 2 ≤ 600000) (hn : n + 18 ≤ 7302250) (hi : i + 7 ≤ L) (hl : lvL ad bd b i ls) (hX : okX C T E) (hRX : RX ad cI cS C T E rl ln cf tr ft wX) (hRM : RM bd cI C T E rl ln cf tr ft wM) (hP : va_P D vwCl (wX ++ wM) H) (hD : va_D A (wX ++ wM)) (hS : va_S A s.heap H locs) (kk : LKK p l e s m args below meth c (k + 1) (n + 9) Q D cI cS A ls ad bd) : W p l e room_1 s m args below meth c H locs k n Q (F0 m 703 ls []) := by
  obtain ⟨F, hK, hXs, hbl, hbA, hA, hL⟩ := B
  obtain ⟨hx, hb, -, -, -, -, -⟩ := id F
  refine lv_aload_n hx hb dL_law_703 rfl (lv_at hl 1 rfl) ?_
  refine lv_aload_n hx hb dL_law_704 rfl (lv_at hl 0 rfl) ?_
  refine lv_iload_n hx hb dL_law_705 rfl (lv_at hl 3 rfl) ?_
  refine lv_iconst (v := nI 1) hx hb dL_law_706 (by decide +kernel) ?_
  refine kk_iadd hx hb dL_law_707 ?_
  refine kk_sld hx hb hXs hbl hbA hS (by omega) hL dL_law_708 ?_
  refine lv_aload_n hx hb dL_law_709 rfl (lv_at hl 0 rfl) ?_
  refine lv_iload_n hx hb dL_law_710 rfl (lv_at hl 3 rfl) ?_
  refine lv_iconst (v := nI 2) hx hb dL_law_711 (by decide +kernel) ?_
  refine kk_iadd hx hb dL_law_712 ?_
  refine kk_sld hx hb hXs hbl hbA hS (by omega) hL dL_law_713 ?_
  refine lv_aload_n hx hb dL_law_714 rfl (lv_at hl 0 rfl) ?_
  refine lv_iload_n hx hb dL_law_715 rfl (lv_at hl 3 rfl) ?_
  refine lv_iconst (v := nI 3) hx hb dL_law_716 (by decide +kernel) ?_
  refine kk_iadd hx hb dL_law_717 ?_
  refine kk_sld hx hb hXs hbl hbA hS (by omega) hL dL_law_718 ?_
  refine lv_aload_n hx hb dL_law_719 rfl (lv_at hl 0 rfl) ?_
  refine lv_iload_n hx hb dL_law_720 rfl (lv_at hl 3 rfl) ?_
  refine lv_iconst (v := nI 4) hx hb dL_law_721 (by decide +kernel) ?_
  refine kk_iadd hx hb dL_law_722 ?_
  refine kk_sld hx hb hXs hbl hbA hS (by omega) hL dL_law_723 ?_
  refine lv_aload_n hx hb dL_law_724 rfl (lv_at hl 0 rfl) ?_
  refine lv_iload_n hx hb dL_law_725 rfl (lv_at hl 3 rfl) ?_
  refine lv_iconst (v := nI 5) hx hb dL_law_726 (by decide +kernel) ?_
  refine kk_iadd hx hb dL_law_727 ?_
  refine kk_sld hx hb hXs hbl hbA hS (by omega) hL dL_law_728 ?_
  refine lv_aload_n hx hb dL_law_729 rfl (lv_at hl 0 rfl) ?_
  refine lv_iload_n hx hb dL_law_730 rfl (lv_at hl 3 rfl) ?_
  refine lv_bipush (v := nI 6) hx hb dL_law_731 (by decide +kernel) ?_
  refine kk_iadd hx hb dL_law_733 ?_
  refine kk_sld hx hb hXs hbl hbA hS (by omega) hL dL_law_734 ?_
  refine sX9_moves F hK hl.1 (by omega) (by omega) hRX hX hP hD hS hA (xs (i + 1)) (xs (i + 2)) (xs (i + 3)) (xs (i + 4)) (xs (i + 5)) (xs (i + 6)) (RM_len hRM) rfl (fun wX2 H1 locs1 hRX2 hP hD hS => ?_)
  refine lv_aload_n hx hb dL_law_738 rfl (lv_at hl 2 rfl) ?_
  refine lv_aload_n hx hb dL_law_739 rfl (lv_at hl 0 rfl) ?_
  refine lv_iload_n hx hb dL_law_740 rfl (lv_at hl 3 rfl) ?_
  refine lv_iconst (v := nI 1) hx hb dL_law_741 (by decide +kernel) ?_
  refine kk_iadd hx hb dL_law_742 ?_
  refine kk_sld hx hb hXs hbl hbA hS (by omega) hL dL_law_743 ?_
  refine lv_aload_n hx hb dL_law_744 rfl (lv_at hl 0 rfl) ?_
  refine lv_iload_n hx hb dL_law_745 rfl (lv_at hl 3 rfl) ?_
  refine lv_iconst (v := nI 2) hx hb dL_law_746 (by decide +kernel) ?_
  refine kk_iadd hx hb dL_law_747 ?_
  refine kk_sld hx hb hXs hbl hbA hS (by omega) hL dL_law_748 ?_
  refine lv_aload_n hx hb dL_law_749 rfl (lv_at hl 0 rfl) ?_
  refine lv_iload_n hx hb dL_law_750 rfl (lv_at hl 3 rfl) ?_
  refine lv_iconst (v := nI 3) hx hb dL_law_751 (by decide +kernel) ?_
  refine kk_iadd hx hb dL_law_752 ?_
  refine kk_sld hx hb hXs hbl hbA hS (by omega) hL dL_law_753 ?_
  refine lv_aload_n hx hb dL_law_754 rfl (lv_at hl 0 rfl) ?_
  refine lv_iload_n hx hb dL_law_755 rfl (lv_at hl 3 rfl) ?_
  refine lv_iconst (v := nI 4) hx hb dL_law_756 (by decide +kernel) ?_
  refine kk_iadd hx hb dL_law_757 ?_
  refine kk_sld hx hb hXs hbl hbA hS (by omega) hL dL_law_758 ?_
  refine lv_aload_n hx hb dL_law_759 rfl (lv_at hl 0 rfl) ?_
  refine lv_iload_n hx hb dL_law_760 rfl (lv_at hl 3 rfl) ?_
  refine lv_iconst (v := nI 5) hx hb dL_law_761 (by decide +kernel) ?_
  refine kk_iadd hx hb dL_law_762 ?_
  refine kk_sld hx hb hXs hbl hbA hS (by omega) hL dL_law_763 ?_
  refine lv_aload_n hx hb dL_law_764 rfl (lv_at hl 0 rfl) ?_
  refine lv_iload_n hx hb dL_law_765 rfl (lv_at hl 3 rfl) ?_
  refine lv_bipush (v := nI 6) hx hb dL_law_766 (by decide +kernel) ?_
  refine kk_iadd hx hb dL_law_768 ?_
  refine kk_sld hx hb hXs hbl hbA hS (by omega) hL dL_law_769 ?_
  refine sX10_moves F hK hl.1 (by omega) (by omega) hRM hX (kk_swP hP) (kk_swD hD) hS hA (xs (i + 1)) (xs (i + 2)) (xs (i + 3)) (xs (i + 4)) (xs (i + 5)) (xs (i + 6)) rfl (fun wM2 H2 locs2 hRM2 hP hD hS => ?_)
  refine lv_icmp_eq (tgt := 1347) hx hb dL_law_773 (by decide) (fun _ => ?_) (fun c9 => absurd rfl c9)
  exact kk _ _ _ _ _ _ _ _ _ _ _ _ (hX) hRX2 hRM2 (kk_swP hP) (kk_swD hD) hS

set_option maxHeartbeats 4000000 in
set_option maxRecDepth 100000 in
theorem law_worth {p : Program} {l : Launch} {e : Env} {s : State} {m : MethodId} {args : Array Value} {below : List Frame} {meth : Method} {c : Code} {H : Heap} {locs : List Loc} {Q : State → Prop} {D : va_G} {cI cS : ClassId} {A : Nat → Prop} {ls : Array Slot} {k n : Nat} {ad bd : Nat → Nat} {b L i : Nat} {xs : Nat → Int32} {C : Co} {T E : Mv} {rl : Nat → Int32} {ln : Nat → Nat} {cf : Nat → Nat → Int32} {tr ft : Int32} {wX wM : va_W} (B : LB p s m args c D cI cS A b L xs) (hk : k + 2 ≤ 600000) (hn : n + 18 ≤ 7302250) (hi : i + 7 ≤ L) (hl : lvL ad bd b i ls) (hX : okX C T E) (hRX : RX ad cI cS C T E rl ln cf tr ft wX) (hRM : RM bd cI C T E rl ln cf tr ft wM) (hP : va_P D vwCl (wX ++ wM) H) (hD : va_D A (wX ++ wM)) (hS : va_S A s.heap H locs) (kk : LKK p l e s m args below meth c (k + 1) (n + 9) Q D cI cS A ls ad bd) : W p l e room_1 s m args below meth c H locs k n Q (F0 m 778 ls []) := by
  obtain ⟨F, hK, hXs, hbl, hbA, hA, hL⟩ := B
  obtain ⟨hx, hb, -, -, -, -, -⟩ := id F
  refine lv_aload_n hx hb dL_law_778 rfl (lv_at hl 1 rfl) ?_
  refine lv_aload_n hx hb dL_law_779 rfl (lv_at hl 0 rfl) ?_
  refine lv_iload_n hx hb dL_law_780 rfl (lv_at hl 3 rfl) ?_
  refine lv_iconst (v := nI 1) hx hb dL_law_781 (by decide +kernel) ?_
  refine kk_iadd hx hb dL_law_782 ?_
  refine kk_sld hx hb hXs hbl hbA hS (by omega) hL dL_law_783 ?_
  refine sX9_worth F hK hl.1 (by omega) (by omega) hRX hX hP hD hS hA (xs (i + 1)) (fun wX2 H1 locs1 hRX2 hP hD hS => ?_)
  refine lv_aload_n hx hb dL_law_787 rfl (lv_at hl 2 rfl) ?_
  refine lv_aload_n hx hb dL_law_788 rfl (lv_at hl 0 rfl) ?_
  refine lv_iload_n hx hb dL_law_789 rfl (lv_at hl 3 rfl) ?_
  refine lv_iconst (v := nI 1) hx hb dL_law_790 (by decide +kernel) ?_
  refine kk_iadd hx hb dL_law_791 ?_
  refine kk_sld hx hb hXs hbl hbA hS (by omega) hL dL_law_792 ?_
  refine sX10_worth F hK hl.1 (by omega) (by omega) hRM hX (kk_swP hP) (kk_swD hD) hS hA (xs (i + 1)) (fun wM2 H2 locs2 hRM2 hP hD hS => ?_)
  refine lv_icmp_eq (tgt := 1347) hx hb dL_law_796 (by decide) (fun _ => ?_) (fun c9 => absurd rfl c9)
  exact kk _ _ _ _ _ _ _ _ _ _ _ _ (hX) hRX2 hRM2 (kk_swP hP) (kk_swD hD) hS

set_option maxHeartbeats 4000000 in
set_option maxRecDepth 100000 in
theorem law_reading {p : Program} {l : Launch} {e : Env} {s : State} {m : MethodId} {args : Array Value} {below : List Frame} {meth : Method} {c : Code} {H : Heap} {locs : List Loc} {Q : State → Prop} {D : va_G} {cI cS : ClassId} {A : Nat → Prop} {ls : Array Slot} {k n : Nat} {ad bd : Nat → Nat} {b L i : Nat} {xs : Nat → Int32} {C : Co} {T E : Mv} {rl : Nat → Int32} {ln : Nat → Nat} {cf : Nat → Nat → Int32} {tr ft : Int32} {wX wM : va_W} (B : LB p s m args c D cI cS A b L xs) (hk : k + 2 ≤ 600000) (hn : n + 18 ≤ 7302250) (hi : i + 7 ≤ L) (hl : lvL ad bd b i ls) (hX : okX C T E) (hRX : RX ad cI cS C T E rl ln cf tr ft wX) (hRM : RM bd cI C T E rl ln cf tr ft wM) (hP : va_P D vwCl (wX ++ wM) H) (hD : va_D A (wX ++ wM)) (hS : va_S A s.heap H locs) (kk : LKK p l e s m args below meth c (k + 1) (n + 9) Q D cI cS A ls ad bd) : W p l e room_1 s m args below meth c H locs k n Q (F0 m 801 ls []) := by
  obtain ⟨F, hK, hXs, hbl, hbA, hA, hL⟩ := B
  obtain ⟨hx, hb, -, -, -, -, -⟩ := id F
  refine lv_aload_n hx hb dL_law_801 rfl (lv_at hl 1 rfl) ?_
  refine lv_aload_n hx hb dL_law_802 rfl (lv_at hl 0 rfl) ?_
  refine lv_iload_n hx hb dL_law_803 rfl (lv_at hl 3 rfl) ?_
  refine lv_iconst (v := nI 1) hx hb dL_law_804 (by decide +kernel) ?_
  refine kk_iadd hx hb dL_law_805 ?_
  refine kk_sld hx hb hXs hbl hbA hS (by omega) hL dL_law_806 ?_
  refine lv_aload_n hx hb dL_law_807 rfl (lv_at hl 0 rfl) ?_
  refine lv_iload_n hx hb dL_law_808 rfl (lv_at hl 3 rfl) ?_
  refine lv_iconst (v := nI 2) hx hb dL_law_809 (by decide +kernel) ?_
  refine kk_iadd hx hb dL_law_810 ?_
  refine kk_sld hx hb hXs hbl hbA hS (by omega) hL dL_law_811 ?_
  refine lv_aload_n hx hb dL_law_812 rfl (lv_at hl 0 rfl) ?_
  refine lv_iload_n hx hb dL_law_813 rfl (lv_at hl 3 rfl) ?_
  refine lv_iconst (v := nI 3) hx hb dL_law_814 (by decide +kernel) ?_
  refine kk_iadd hx hb dL_law_815 ?_
  refine kk_sld hx hb hXs hbl hbA hS (by omega) hL dL_law_816 ?_
  refine sX9_reading F hK hl.1 (by omega) (by omega) hRX hX hP hD hS hA (xs (i + 1)) (xs (i + 2)) (xs (i + 3)) (fun wX2 H1 locs1 hRX2 hP hD hS => ?_)
  refine lv_aload_n hx hb dL_law_820 rfl (lv_at hl 2 rfl) ?_
  refine lv_aload_n hx hb dL_law_821 rfl (lv_at hl 0 rfl) ?_
  refine lv_iload_n hx hb dL_law_822 rfl (lv_at hl 3 rfl) ?_
  refine lv_iconst (v := nI 1) hx hb dL_law_823 (by decide +kernel) ?_
  refine kk_iadd hx hb dL_law_824 ?_
  refine kk_sld hx hb hXs hbl hbA hS (by omega) hL dL_law_825 ?_
  refine lv_aload_n hx hb dL_law_826 rfl (lv_at hl 0 rfl) ?_
  refine lv_iload_n hx hb dL_law_827 rfl (lv_at hl 3 rfl) ?_
  refine lv_iconst (v := nI 2) hx hb dL_law_828 (by decide +kernel) ?_
  refine kk_iadd hx hb dL_law_829 ?_
  refine kk_sld hx hb hXs hbl hbA hS (by omega) hL dL_law_830 ?_
  refine lv_aload_n hx hb dL_law_831 rfl (lv_at hl 0 rfl) ?_
  refine lv_iload_n hx hb dL_law_832 rfl (lv_at hl 3 rfl) ?_
  refine lv_iconst (v := nI 3) hx hb dL_law_833 (by decide +kernel) ?_
  refine kk_iadd hx hb dL_law_834 ?_
  refine kk_sld hx hb hXs hbl hbA hS (by omega) hL dL_law_835 ?_
  refine sX10_reading F hK hl.1 (by omega) (by omega) hRM hX (kk_swP hP) (kk_swD hD) hS hA (xs (i + 1)) (xs (i + 2)) (xs (i + 3)) (fun wM2 H2 locs2 hRM2 hP hD hS => ?_)
  refine lv_icmp_eq (tgt := 1347) hx hb dL_law_839 (by decide) (fun _ => ?_) (fun c9 => absurd rfl c9)
  exact kk _ _ _ _ _ _ _ _ _ _ _ _ (okX_reading hX _ _ _) hRX2 hRM2 (kk_swP hP) (kk_swD hD) hS

set_option maxHeartbeats 4000000 in
set_option maxRecDepth 100000 in
theorem law_back {p : Program} {l : Launch} {e : Env} {s : State} {m : MethodId} {args : Array Value} {below : List Frame} {meth : Method} {c : Code} {H : Heap} {locs : List Loc} {Q : State → Prop} {D : va_G} {cI cS : ClassId} {A : Nat → Prop} {ls : Array Slot} {k n : Nat} {ad bd : Nat → Nat} {b L i : Nat} {xs : Nat → Int32} {C : Co} {T E : Mv} {rl : Nat → Int32} {ln : Nat → Nat} {cf : Nat → Nat → Int32} {tr ft : Int32} {wX wM : va_W} (B : LB p s m args c D cI cS A b L xs) (hk : k + 2 ≤ 600000) (hn : n + 18 ≤ 7302250) (hi : i + 7 ≤ L) (hl : lvL ad bd b i ls) (hX : okX C T E) (hRX : RX ad cI cS C T E rl ln cf tr ft wX) (hRM : RM bd cI C T E rl ln cf tr ft wM) (hP : va_P D vwCl (wX ++ wM) H) (hD : va_D A (wX ++ wM)) (hS : va_S A s.heap H locs) (kk : LKK p l e s m args below meth c (k + 1) (n + 9) Q D cI cS A ls ad bd) : W p l e room_1 s m args below meth c H locs k n Q (F0 m 844 ls []) := by
  obtain ⟨F, hK, hXs, hbl, hbA, hA, hL⟩ := B
  obtain ⟨hx, hb, -, -, -, -, -⟩ := id F
  refine lv_aload_n hx hb dL_law_844 rfl (lv_at hl 1 rfl) ?_
  refine lv_aload_n hx hb dL_law_845 rfl (lv_at hl 0 rfl) ?_
  refine lv_iload_n hx hb dL_law_846 rfl (lv_at hl 3 rfl) ?_
  refine lv_iconst (v := nI 1) hx hb dL_law_847 (by decide +kernel) ?_
  refine kk_iadd hx hb dL_law_848 ?_
  refine kk_sld hx hb hXs hbl hbA hS (by omega) hL dL_law_849 ?_
  refine sX9_back F hK hl.1 (by omega) (by omega) hRX hX hP hD hS hA (xs (i + 1)) (fun wX2 H1 locs1 hRX2 hP hD hS => ?_)
  refine lv_aload_n hx hb dL_law_853 rfl (lv_at hl 2 rfl) ?_
  refine lv_aload_n hx hb dL_law_854 rfl (lv_at hl 0 rfl) ?_
  refine lv_iload_n hx hb dL_law_855 rfl (lv_at hl 3 rfl) ?_
  refine lv_iconst (v := nI 1) hx hb dL_law_856 (by decide +kernel) ?_
  refine kk_iadd hx hb dL_law_857 ?_
  refine kk_sld hx hb hXs hbl hbA hS (by omega) hL dL_law_858 ?_
  refine sX10_back F hK hl.1 (by omega) (by omega) hRM hX (kk_swP hP) (kk_swD hD) hS hA (xs (i + 1)) (fun wM2 H2 locs2 hRM2 hP hD hS => ?_)
  refine lv_icmp_eq (tgt := 1347) hx hb dL_law_862 (by decide) (fun _ => ?_) (fun c9 => absurd rfl c9)
  exact kk _ _ _ _ _ _ _ _ _ _ _ _ (okX_back hX _) hRX2 hRM2 (kk_swP hP) (kk_swD hD) hS

set_option maxHeartbeats 4000000 in
set_option maxRecDepth 100000 in
theorem law_stood {p : Program} {l : Launch} {e : Env} {s : State} {m : MethodId} {args : Array Value} {below : List Frame} {meth : Method} {c : Code} {H : Heap} {locs : List Loc} {Q : State → Prop} {D : va_G} {cI cS : ClassId} {A : Nat → Prop} {ls : Array Slot} {k n : Nat} {ad bd : Nat → Nat} {b L i : Nat} {xs : Nat → Int32} {C : Co} {T E : Mv} {rl : Nat → Int32} {ln : Nat → Nat} {cf : Nat → Nat → Int32} {tr ft : Int32} {wX wM : va_W} (B : LB p s m args c D cI cS A b L xs) (hk : k + 2 ≤ 600000) (hn : n + 18 ≤ 7302250) (hi : i + 7 ≤ L) (hl : lvL ad bd b i ls) (hX : okX C T E) (hRX : RX ad cI cS C T E rl ln cf tr ft wX) (hRM : RM bd cI C T E rl ln cf tr ft wM) (hP : va_P D vwCl (wX ++ wM) H) (hD : va_D A (wX ++ wM)) (hS : va_S A s.heap H locs) (kk : LKK p l e s m args below meth c (k + 1) (n + 9) Q D cI cS A ls ad bd) : W p l e room_1 s m args below meth c H locs k n Q (F0 m 867 ls []) := by
  obtain ⟨F, hK, hXs, hbl, hbA, hA, hL⟩ := B
  obtain ⟨hx, hb, -, -, -, -, -⟩ := id F
  refine lv_aload_n hx hb dL_law_867 rfl (lv_at hl 1 rfl) ?_
  refine lv_aload_n hx hb dL_law_868 rfl (lv_at hl 0 rfl) ?_
  refine lv_iload_n hx hb dL_law_869 rfl (lv_at hl 3 rfl) ?_
  refine lv_iconst (v := nI 1) hx hb dL_law_870 (by decide +kernel) ?_
  refine kk_iadd hx hb dL_law_871 ?_
  refine kk_sld hx hb hXs hbl hbA hS (by omega) hL dL_law_872 ?_
  refine sX9_stood F hK hl.1 (by omega) (by omega) hRX hX hP hD hS hA (xs (i + 1)) (fun wX2 H1 locs1 hRX2 hP hD hS => ?_)
  refine lv_aload_n hx hb dL_law_876 rfl (lv_at hl 2 rfl) ?_
  refine lv_aload_n hx hb dL_law_877 rfl (lv_at hl 0 rfl) ?_
  refine lv_iload_n hx hb dL_law_878 rfl (lv_at hl 3 rfl) ?_
  refine lv_iconst (v := nI 1) hx hb dL_law_879 (by decide +kernel) ?_
  refine kk_iadd hx hb dL_law_880 ?_
  refine kk_sld hx hb hXs hbl hbA hS (by omega) hL dL_law_881 ?_
  refine sX10_stood F hK hl.1 (by omega) (by omega) hRM hX (kk_swP hP) (kk_swD hD) hS hA (xs (i + 1)) (fun wM2 H2 locs2 hRM2 hP hD hS => ?_)
  refine lv_icmp_eq (tgt := 1347) hx hb dL_law_885 (by decide) (fun _ => ?_) (fun c9 => absurd rfl c9)
  exact kk _ _ _ _ _ _ _ _ _ _ _ _ (hX) hRX2 hRM2 (kk_swP hP) (kk_swD hD) hS

set_option maxHeartbeats 4000000 in
set_option maxRecDepth 100000 in
theorem law_kinds {p : Program} {l : Launch} {e : Env} {s : State} {m : MethodId} {args : Array Value} {below : List Frame} {meth : Method} {c : Code} {H : Heap} {locs : List Loc} {Q : State → Prop} {D : va_G} {cI cS : ClassId} {A : Nat → Prop} {ls : Array Slot} {k n : Nat} {ad bd : Nat → Nat} {b L i : Nat} {xs : Nat → Int32} {C : Co} {T E : Mv} {rl : Nat → Int32} {ln : Nat → Nat} {cf : Nat → Nat → Int32} {tr ft : Int32} {wX wM : va_W} (B : LB p s m args c D cI cS A b L xs) (hk : k + 2 ≤ 600000) (hn : n + 18 ≤ 7302250) (hi : i + 7 ≤ L) (hl : lvL ad bd b i ls) (hX : okX C T E) (hRX : RX ad cI cS C T E rl ln cf tr ft wX) (hRM : RM bd cI C T E rl ln cf tr ft wM) (hP : va_P D vwCl (wX ++ wM) H) (hD : va_D A (wX ++ wM)) (hS : va_S A s.heap H locs) (kk : LKK p l e s m args below meth c (k + 1) (n + 9) Q D cI cS A ls ad bd) : W p l e room_1 s m args below meth c H locs k n Q (F0 m 890 ls []) := by
  obtain ⟨F, hK, hXs, hbl, hbA, hA, hL⟩ := B
  obtain ⟨hx, hb, -, -, -, -, -⟩ := id F
  refine lv_aload_n hx hb dL_law_890 rfl (lv_at hl 1 rfl) ?_
  refine lv_aload_n hx hb dL_law_891 rfl (lv_at hl 0 rfl) ?_
  refine lv_iload_n hx hb dL_law_892 rfl (lv_at hl 3 rfl) ?_
  refine lv_iconst (v := nI 1) hx hb dL_law_893 (by decide +kernel) ?_
  refine kk_iadd hx hb dL_law_894 ?_
  refine kk_sld hx hb hXs hbl hbA hS (by omega) hL dL_law_895 ?_
  refine sX9_kinds F hK hl.1 (by omega) (by omega) hRX hX hP hD hS hA (xs (i + 1)) (fun wX2 H1 locs1 hRX2 hP hD hS => ?_)
  refine lv_aload_n hx hb dL_law_899 rfl (lv_at hl 2 rfl) ?_
  refine lv_aload_n hx hb dL_law_900 rfl (lv_at hl 0 rfl) ?_
  refine lv_iload_n hx hb dL_law_901 rfl (lv_at hl 3 rfl) ?_
  refine lv_iconst (v := nI 1) hx hb dL_law_902 (by decide +kernel) ?_
  refine kk_iadd hx hb dL_law_903 ?_
  refine kk_sld hx hb hXs hbl hbA hS (by omega) hL dL_law_904 ?_
  refine sX10_kinds F hK hl.1 (by omega) (by omega) hRM hX (kk_swP hP) (kk_swD hD) hS hA (xs (i + 1)) (fun wM2 H2 locs2 hRM2 hP hD hS => ?_)
  refine lv_icmp_eq (tgt := 1347) hx hb dL_law_908 (by decide) (fun _ => ?_) (fun c9 => absurd rfl c9)
  exact kk _ _ _ _ _ _ _ _ _ _ _ _ (hX) hRX2 hRM2 (kk_swP hP) (kk_swD hD) hS

set_option maxHeartbeats 4000000 in
set_option maxRecDepth 100000 in
theorem law_ages {p : Program} {l : Launch} {e : Env} {s : State} {m : MethodId} {args : Array Value} {below : List Frame} {meth : Method} {c : Code} {H : Heap} {locs : List Loc} {Q : State → Prop} {D : va_G} {cI cS : ClassId} {A : Nat → Prop} {ls : Array Slot} {k n : Nat} {ad bd : Nat → Nat} {b L i : Nat} {xs : Nat → Int32} {C : Co} {T E : Mv} {rl : Nat → Int32} {ln : Nat → Nat} {cf : Nat → Nat → Int32} {tr ft : Int32} {wX wM : va_W} (B : LB p s m args c D cI cS A b L xs) (hk : k + 2 ≤ 600000) (hn : n + 18 ≤ 7302250) (hi : i + 7 ≤ L) (hl : lvL ad bd b i ls) (hX : okX C T E) (hRX : RX ad cI cS C T E rl ln cf tr ft wX) (hRM : RM bd cI C T E rl ln cf tr ft wM) (hP : va_P D vwCl (wX ++ wM) H) (hD : va_D A (wX ++ wM)) (hS : va_S A s.heap H locs) (kk : LKK p l e s m args below meth c (k + 1) (n + 9) Q D cI cS A ls ad bd) : W p l e room_1 s m args below meth c H locs k n Q (F0 m 913 ls []) := by
  obtain ⟨F, hK, hXs, hbl, hbA, hA, hL⟩ := B
  obtain ⟨hx, hb, -, -, -, -, -⟩ := id F
  refine lv_aload_n hx hb dL_law_913 rfl (lv_at hl 1 rfl) ?_
  refine sX9_ages F hK hl.1 (by omega) (by omega) hRX hX hP hD hS hA  (fun wX2 H1 locs1 hRX2 hP hD hS => ?_)
  refine lv_aload_n hx hb dL_law_917 rfl (lv_at hl 2 rfl) ?_
  refine sX10_ages F hK hl.1 (by omega) (by omega) hRM hX (kk_swP hP) (kk_swD hD) hS hA  (fun wM2 H2 locs2 hRM2 hP hD hS => ?_)
  refine lv_icmp_eq (tgt := 1347) hx hb dL_law_921 (by decide) (fun _ => ?_) (fun c9 => absurd rfl c9)
  exact kk _ _ _ _ _ _ _ _ _ _ _ _ (hX) hRX2 hRM2 (kk_swP hP) (kk_swD hD) hS

set_option maxHeartbeats 4000000 in
set_option maxRecDepth 100000 in
theorem law_clouds {p : Program} {l : Launch} {e : Env} {s : State} {m : MethodId} {args : Array Value} {below : List Frame} {meth : Method} {c : Code} {H : Heap} {locs : List Loc} {Q : State → Prop} {D : va_G} {cI cS : ClassId} {A : Nat → Prop} {ls : Array Slot} {k n : Nat} {ad bd : Nat → Nat} {b L i : Nat} {xs : Nat → Int32} {C : Co} {T E : Mv} {rl : Nat → Int32} {ln : Nat → Nat} {cf : Nat → Nat → Int32} {tr ft : Int32} {wX wM : va_W} (B : LB p s m args c D cI cS A b L xs) (hk : k + 2 ≤ 600000) (hn : n + 18 ≤ 7302250) (hi : i + 7 ≤ L) (hl : lvL ad bd b i ls) (hX : okX C T E) (hRX : RX ad cI cS C T E rl ln cf tr ft wX) (hRM : RM bd cI C T E rl ln cf tr ft wM) (hP : va_P D vwCl (wX ++ wM) H) (hD : va_D A (wX ++ wM)) (hS : va_S A s.heap H locs) (kk : LKK p l e s m args below meth c (k + 1) (n + 9) Q D cI cS A ls ad bd) : W p l e room_1 s m args below meth c H locs k n Q (F0 m 926 ls []) := by
  obtain ⟨F, hK, hXs, hbl, hbA, hA, hL⟩ := B
  obtain ⟨hx, hb, -, -, -, -, -⟩ := id F
  refine lv_aload_n hx hb dL_law_926 rfl (lv_at hl 1 rfl) ?_
  refine lv_aload_n hx hb dL_law_927 rfl (lv_at hl 0 rfl) ?_
  refine lv_iload_n hx hb dL_law_928 rfl (lv_at hl 3 rfl) ?_
  refine lv_iconst (v := nI 1) hx hb dL_law_929 (by decide +kernel) ?_
  refine kk_iadd hx hb dL_law_930 ?_
  refine kk_sld hx hb hXs hbl hbA hS (by omega) hL dL_law_931 ?_
  refine sX9_clouds F hK hl.1 (by omega) (by omega) hRX hX hP hD hS hA (xs (i + 1)) (fun wX2 H1 locs1 hRX2 hP hD hS => ?_)
  refine lv_aload_n hx hb dL_law_935 rfl (lv_at hl 2 rfl) ?_
  refine lv_aload_n hx hb dL_law_936 rfl (lv_at hl 0 rfl) ?_
  refine lv_iload_n hx hb dL_law_937 rfl (lv_at hl 3 rfl) ?_
  refine lv_iconst (v := nI 1) hx hb dL_law_938 (by decide +kernel) ?_
  refine kk_iadd hx hb dL_law_939 ?_
  refine kk_sld hx hb hXs hbl hbA hS (by omega) hL dL_law_940 ?_
  refine sX10_clouds F hK hl.1 (by omega) (by omega) hRM hX (kk_swP hP) (kk_swD hD) hS hA (xs (i + 1)) (fun wM2 H2 locs2 hRM2 hP hD hS => ?_)
  refine lv_icmp_eq (tgt := 1347) hx hb dL_law_944 (by decide) (fun _ => ?_) (fun c9 => absurd rfl c9)
  exact kk _ _ _ _ _ _ _ _ _ _ _ _ (hX) hRX2 hRM2 (kk_swP hP) (kk_swD hD) hS

set_option maxHeartbeats 4000000 in
set_option maxRecDepth 100000 in
theorem law_odds {p : Program} {l : Launch} {e : Env} {s : State} {m : MethodId} {args : Array Value} {below : List Frame} {meth : Method} {c : Code} {H : Heap} {locs : List Loc} {Q : State → Prop} {D : va_G} {cI cS : ClassId} {A : Nat → Prop} {ls : Array Slot} {k n : Nat} {ad bd : Nat → Nat} {b L i : Nat} {xs : Nat → Int32} {C : Co} {T E : Mv} {rl : Nat → Int32} {ln : Nat → Nat} {cf : Nat → Nat → Int32} {tr ft : Int32} {wX wM : va_W} (B : LB p s m args c D cI cS A b L xs) (hk : k + 2 ≤ 600000) (hn : n + 18 ≤ 7302250) (hi : i + 7 ≤ L) (hl : lvL ad bd b i ls) (hX : okX C T E) (hRX : RX ad cI cS C T E rl ln cf tr ft wX) (hRM : RM bd cI C T E rl ln cf tr ft wM) (hP : va_P D vwCl (wX ++ wM) H) (hD : va_D A (wX ++ wM)) (hS : va_S A s.heap H locs) (kk : LKK p l e s m args below meth c (k + 1) (n + 9) Q D cI cS A ls ad bd) : W p l e room_1 s m args below meth c H locs k n Q (F0 m 949 ls []) := by
  obtain ⟨F, hK, hXs, hbl, hbA, hA, hL⟩ := B
  obtain ⟨hx, hb, -, -, -, -, -⟩ := id F
  refine lv_aload_n hx hb dL_law_949 rfl (lv_at hl 1 rfl) ?_
  refine lv_aload_n hx hb dL_law_950 rfl (lv_at hl 0 rfl) ?_
  refine lv_iload_n hx hb dL_law_951 rfl (lv_at hl 3 rfl) ?_
  refine lv_iconst (v := nI 1) hx hb dL_law_952 (by decide +kernel) ?_
  refine kk_iadd hx hb dL_law_953 ?_
  refine kk_sld hx hb hXs hbl hbA hS (by omega) hL dL_law_954 ?_
  refine lv_aload_n hx hb dL_law_955 rfl (lv_at hl 0 rfl) ?_
  refine lv_iload_n hx hb dL_law_956 rfl (lv_at hl 3 rfl) ?_
  refine lv_iconst (v := nI 2) hx hb dL_law_957 (by decide +kernel) ?_
  refine kk_iadd hx hb dL_law_958 ?_
  refine kk_sld hx hb hXs hbl hbA hS (by omega) hL dL_law_959 ?_
  refine lv_aload_n hx hb dL_law_960 rfl (lv_at hl 0 rfl) ?_
  refine lv_iload_n hx hb dL_law_961 rfl (lv_at hl 3 rfl) ?_
  refine lv_iconst (v := nI 3) hx hb dL_law_962 (by decide +kernel) ?_
  refine kk_iadd hx hb dL_law_963 ?_
  refine kk_sld hx hb hXs hbl hbA hS (by omega) hL dL_law_964 ?_
  refine lv_aload_n hx hb dL_law_965 rfl (lv_at hl 0 rfl) ?_
  refine lv_iload_n hx hb dL_law_966 rfl (lv_at hl 3 rfl) ?_
  refine lv_iconst (v := nI 4) hx hb dL_law_967 (by decide +kernel) ?_
  refine kk_iadd hx hb dL_law_968 ?_
  refine kk_sld hx hb hXs hbl hbA hS (by omega) hL dL_law_969 ?_
  refine sX9_odds F hK hl.1 (by omega) (by omega) hRX hX hP hD hS hA (xs (i + 1)) (xs (i + 2)) (xs (i + 3)) (xs (i + 4)) (fun wX2 H1 locs1 hRX2 hP hD hS => ?_)
  refine lv_aload_n hx hb dL_law_973 rfl (lv_at hl 2 rfl) ?_
  refine lv_aload_n hx hb dL_law_974 rfl (lv_at hl 0 rfl) ?_
  refine lv_iload_n hx hb dL_law_975 rfl (lv_at hl 3 rfl) ?_
  refine lv_iconst (v := nI 1) hx hb dL_law_976 (by decide +kernel) ?_
  refine kk_iadd hx hb dL_law_977 ?_
  refine kk_sld hx hb hXs hbl hbA hS (by omega) hL dL_law_978 ?_
  refine lv_aload_n hx hb dL_law_979 rfl (lv_at hl 0 rfl) ?_
  refine lv_iload_n hx hb dL_law_980 rfl (lv_at hl 3 rfl) ?_
  refine lv_iconst (v := nI 2) hx hb dL_law_981 (by decide +kernel) ?_
  refine kk_iadd hx hb dL_law_982 ?_
  refine kk_sld hx hb hXs hbl hbA hS (by omega) hL dL_law_983 ?_
  refine lv_aload_n hx hb dL_law_984 rfl (lv_at hl 0 rfl) ?_
  refine lv_iload_n hx hb dL_law_985 rfl (lv_at hl 3 rfl) ?_
  refine lv_iconst (v := nI 3) hx hb dL_law_986 (by decide +kernel) ?_
  refine kk_iadd hx hb dL_law_987 ?_
  refine kk_sld hx hb hXs hbl hbA hS (by omega) hL dL_law_988 ?_
  refine lv_aload_n hx hb dL_law_989 rfl (lv_at hl 0 rfl) ?_
  refine lv_iload_n hx hb dL_law_990 rfl (lv_at hl 3 rfl) ?_
  refine lv_iconst (v := nI 4) hx hb dL_law_991 (by decide +kernel) ?_
  refine kk_iadd hx hb dL_law_992 ?_
  refine kk_sld hx hb hXs hbl hbA hS (by omega) hL dL_law_993 ?_
  refine sX10_odds F hK hl.1 (by omega) (by omega) hRM hX (kk_swP hP) (kk_swD hD) hS hA (xs (i + 1)) (xs (i + 2)) (xs (i + 3)) (xs (i + 4)) (fun wM2 H2 locs2 hRM2 hP hD hS => ?_)
  refine W.lcmp hx hb dL_law_997 ?_
  refine lv_if_eq (tgt := 1347) hx hb dL_law_998 (by decide) (fun _ => ?_) (fun c9 => absurd ((lg_cmp_eq _ _).mpr rfl) c9)
  exact kk _ _ _ _ _ _ _ _ _ _ _ _ (hX) hRX2 hRM2 (kk_swP hP) (kk_swD hD) hS

set_option maxHeartbeats 4000000 in
set_option maxRecDepth 100000 in
theorem law_sheet {p : Program} {l : Launch} {e : Env} {s : State} {m : MethodId} {args : Array Value} {below : List Frame} {meth : Method} {c : Code} {H : Heap} {locs : List Loc} {Q : State → Prop} {D : va_G} {cI cS : ClassId} {A : Nat → Prop} {ls : Array Slot} {k n : Nat} {ad bd : Nat → Nat} {b L i : Nat} {xs : Nat → Int32} {C : Co} {T E : Mv} {rl : Nat → Int32} {ln : Nat → Nat} {cf : Nat → Nat → Int32} {tr ft : Int32} {wX wM : va_W} (B : LB p s m args c D cI cS A b L xs) (hk : k + 2 ≤ 600000) (hn : n + 18 ≤ 7302250) (hi : i + 7 ≤ L) (hl : lvL ad bd b i ls) (hX : okX C T E) (hRX : RX ad cI cS C T E rl ln cf tr ft wX) (hRM : RM bd cI C T E rl ln cf tr ft wM) (hP : va_P D vwCl (wX ++ wM) H) (hD : va_D A (wX ++ wM)) (hS : va_S A s.heap H locs) (kk : LKK p l e s m args below meth c (k + 1) (n + 9) Q D cI cS A ls ad bd) : W p l e room_1 s m args below meth c H locs k n Q (F0 m 1003 ls []) := by
  obtain ⟨F, hK, hXs, hbl, hbA, hA, hL⟩ := B
  obtain ⟨hx, hb, -, -, -, -, -⟩ := id F
  refine lv_aload_n hx hb dL_law_1003 rfl (lv_at hl 1 rfl) ?_
  refine lv_aload_n hx hb dL_law_1004 rfl (lv_at hl 0 rfl) ?_
  refine lv_iload_n hx hb dL_law_1005 rfl (lv_at hl 3 rfl) ?_
  refine lv_iconst (v := nI 1) hx hb dL_law_1006 (by decide +kernel) ?_
  refine kk_iadd hx hb dL_law_1007 ?_
  refine kk_sld hx hb hXs hbl hbA hS (by omega) hL dL_law_1008 ?_
  refine lv_aload_n hx hb dL_law_1009 rfl (lv_at hl 0 rfl) ?_
  refine lv_iload_n hx hb dL_law_1010 rfl (lv_at hl 3 rfl) ?_
  refine lv_iconst (v := nI 2) hx hb dL_law_1011 (by decide +kernel) ?_
  refine kk_iadd hx hb dL_law_1012 ?_
  refine kk_sld hx hb hXs hbl hbA hS (by omega) hL dL_law_1013 ?_
  refine lv_aload_n hx hb dL_law_1014 rfl (lv_at hl 0 rfl) ?_
  refine lv_iload_n hx hb dL_law_1015 rfl (lv_at hl 3 rfl) ?_
  refine lv_iconst (v := nI 3) hx hb dL_law_1016 (by decide +kernel) ?_
  refine kk_iadd hx hb dL_law_1017 ?_
  refine kk_sld hx hb hXs hbl hbA hS (by omega) hL dL_law_1018 ?_
  refine sX9_sheet F hK hl.1 (by omega) (by omega) hRX hX hP hD hS hA (xs (i + 1)) (xs (i + 2)) (xs (i + 3)) (RM_len hRM) rfl (fun cf2 hcf2 wX2 H1 locs1 hRX2 hP hD hS => ?_)
  refine lv_aload_n hx hb dL_law_1022 rfl (lv_at hl 2 rfl) ?_
  refine lv_aload_n hx hb dL_law_1023 rfl (lv_at hl 0 rfl) ?_
  refine lv_iload_n hx hb dL_law_1024 rfl (lv_at hl 3 rfl) ?_
  refine lv_iconst (v := nI 1) hx hb dL_law_1025 (by decide +kernel) ?_
  refine kk_iadd hx hb dL_law_1026 ?_
  refine kk_sld hx hb hXs hbl hbA hS (by omega) hL dL_law_1027 ?_
  refine lv_aload_n hx hb dL_law_1028 rfl (lv_at hl 0 rfl) ?_
  refine lv_iload_n hx hb dL_law_1029 rfl (lv_at hl 3 rfl) ?_
  refine lv_iconst (v := nI 2) hx hb dL_law_1030 (by decide +kernel) ?_
  refine kk_iadd hx hb dL_law_1031 ?_
  refine kk_sld hx hb hXs hbl hbA hS (by omega) hL dL_law_1032 ?_
  refine lv_aload_n hx hb dL_law_1033 rfl (lv_at hl 0 rfl) ?_
  refine lv_iload_n hx hb dL_law_1034 rfl (lv_at hl 3 rfl) ?_
  refine lv_iconst (v := nI 3) hx hb dL_law_1035 (by decide +kernel) ?_
  refine kk_iadd hx hb dL_law_1036 ?_
  refine kk_sld hx hb hXs hbl hbA hS (by omega) hL dL_law_1037 ?_
  refine sX10_sheet F hK hl.1 (by omega) (by omega) hRM hX (kk_swP hP) (kk_swD hD) hS hA (xs (i + 1)) (xs (i + 2)) (xs (i + 3)) rfl cf2 hcf2 (fun wM2 H2 locs2 hRM2 hP hD hS => ?_)
  refine lv_icmp_eq (tgt := 1347) hx hb dL_law_1041 (by decide) (fun _ => ?_) (fun c9 => absurd rfl c9)
  exact kk _ _ _ _ _ _ _ _ _ _ _ _ (hX) hRX2 hRM2 (kk_swP hP) (kk_swD hD) hS

set_option maxHeartbeats 4000000 in
set_option maxRecDepth 100000 in
theorem law_lose {p : Program} {l : Launch} {e : Env} {s : State} {m : MethodId} {args : Array Value} {below : List Frame} {meth : Method} {c : Code} {H : Heap} {locs : List Loc} {Q : State → Prop} {D : va_G} {cI cS : ClassId} {A : Nat → Prop} {ls : Array Slot} {k n : Nat} {ad bd : Nat → Nat} {b L i : Nat} {xs : Nat → Int32} {C : Co} {T E : Mv} {rl : Nat → Int32} {ln : Nat → Nat} {cf : Nat → Nat → Int32} {tr ft : Int32} {wX wM : va_W} (B : LB p s m args c D cI cS A b L xs) (hk : k + 2 ≤ 600000) (hn : n + 18 ≤ 7302250) (hi : i + 7 ≤ L) (hl : lvL ad bd b i ls) (hX : okX C T E) (hRX : RX ad cI cS C T E rl ln cf tr ft wX) (hRM : RM bd cI C T E rl ln cf tr ft wM) (hP : va_P D vwCl (wX ++ wM) H) (hD : va_D A (wX ++ wM)) (hS : va_S A s.heap H locs) (kk : LKK p l e s m args below meth c (k + 1) (n + 9) Q D cI cS A ls ad bd) : W p l e room_1 s m args below meth c H locs k n Q (F0 m 1046 ls []) := by
  obtain ⟨F, hK, hXs, hbl, hbA, hA, hL⟩ := B
  obtain ⟨hx, hb, -, -, -, -, -⟩ := id F
  refine lv_aload_n hx hb dL_law_1046 rfl (lv_at hl 1 rfl) ?_
  refine lv_aload_n hx hb dL_law_1047 rfl (lv_at hl 0 rfl) ?_
  refine lv_iload_n hx hb dL_law_1048 rfl (lv_at hl 3 rfl) ?_
  refine lv_iconst (v := nI 1) hx hb dL_law_1049 (by decide +kernel) ?_
  refine kk_iadd hx hb dL_law_1050 ?_
  refine kk_sld hx hb hXs hbl hbA hS (by omega) hL dL_law_1051 ?_
  refine sX9_lose F hK hl.1 (by omega) (by omega) hRX hX hP hD hS hA (xs (i + 1)) (RM_len hRM) rfl (fun wX2 H1 locs1 hRX2 hP hD hS => ?_)
  refine lv_aload_n hx hb dL_law_1055 rfl (lv_at hl 2 rfl) ?_
  refine lv_aload_n hx hb dL_law_1056 rfl (lv_at hl 0 rfl) ?_
  refine lv_iload_n hx hb dL_law_1057 rfl (lv_at hl 3 rfl) ?_
  refine lv_iconst (v := nI 1) hx hb dL_law_1058 (by decide +kernel) ?_
  refine kk_iadd hx hb dL_law_1059 ?_
  refine kk_sld hx hb hXs hbl hbA hS (by omega) hL dL_law_1060 ?_
  refine sX10_lose F hK hl.1 (by omega) (by omega) hRM hX (kk_swP hP) (kk_swD hD) hS hA (xs (i + 1)) rfl (fun wM2 H2 locs2 hRM2 hP hD hS => ?_)
  refine lv_icmp_eq (tgt := 1347) hx hb dL_law_1064 (by decide) (fun _ => ?_) (fun c9 => absurd rfl c9)
  exact kk _ _ _ _ _ _ _ _ _ _ _ _ (hX) hRX2 hRM2 (kk_swP hP) (kk_swD hD) hS

set_option maxHeartbeats 4000000 in
set_option maxRecDepth 100000 in
theorem law_put {p : Program} {l : Launch} {e : Env} {s : State} {m : MethodId} {args : Array Value} {below : List Frame} {meth : Method} {c : Code} {H : Heap} {locs : List Loc} {Q : State → Prop} {D : va_G} {cI cS : ClassId} {A : Nat → Prop} {ls : Array Slot} {k n : Nat} {ad bd : Nat → Nat} {b L i : Nat} {xs : Nat → Int32} {C : Co} {T E : Mv} {rl : Nat → Int32} {ln : Nat → Nat} {cf : Nat → Nat → Int32} {tr ft : Int32} {wX wM : va_W} (B : LB p s m args c D cI cS A b L xs) (hk : k + 2 ≤ 600000) (hn : n + 18 ≤ 7302250) (hi : i + 7 ≤ L) (hl : lvL ad bd b i ls) (hX : okX C T E) (hRX : RX ad cI cS C T E rl ln cf tr ft wX) (hRM : RM bd cI C T E rl ln cf tr ft wM) (hP : va_P D vwCl (wX ++ wM) H) (hD : va_D A (wX ++ wM)) (hS : va_S A s.heap H locs) (kk : LKK p l e s m args below meth c (k + 1) (n + 9) Q D cI cS A ls ad bd) : W p l e room_1 s m args below meth c H locs k n Q (F0 m 1069 ls []) := by
  obtain ⟨F, hK, hXs, hbl, hbA, hA, hL⟩ := B
  obtain ⟨hx, hb, -, -, -, -, -⟩ := id F
  refine lv_aload_n hx hb dL_law_1069 rfl (lv_at hl 1 rfl) ?_
  refine lv_aload_n hx hb dL_law_1070 rfl (lv_at hl 0 rfl) ?_
  refine lv_iload_n hx hb dL_law_1071 rfl (lv_at hl 3 rfl) ?_
  refine lv_iconst (v := nI 1) hx hb dL_law_1072 (by decide +kernel) ?_
  refine kk_iadd hx hb dL_law_1073 ?_
  refine kk_sld hx hb hXs hbl hbA hS (by omega) hL dL_law_1074 ?_
  refine lv_aload_n hx hb dL_law_1075 rfl (lv_at hl 0 rfl) ?_
  refine lv_iload_n hx hb dL_law_1076 rfl (lv_at hl 3 rfl) ?_
  refine lv_iconst (v := nI 2) hx hb dL_law_1077 (by decide +kernel) ?_
  refine kk_iadd hx hb dL_law_1078 ?_
  refine kk_sld hx hb hXs hbl hbA hS (by omega) hL dL_law_1079 ?_
  refine lv_aload_n hx hb dL_law_1080 rfl (lv_at hl 0 rfl) ?_
  refine lv_iload_n hx hb dL_law_1081 rfl (lv_at hl 3 rfl) ?_
  refine lv_iconst (v := nI 3) hx hb dL_law_1082 (by decide +kernel) ?_
  refine kk_iadd hx hb dL_law_1083 ?_
  refine kk_sld hx hb hXs hbl hbA hS (by omega) hL dL_law_1084 ?_
  refine sX9_put F hK hl.1 (by omega) (by omega) hRX hX hP hD hS hA (xs (i + 1)) (xs (i + 2)) (xs (i + 3)) (RM_len hRM) rfl (fun wX2 H1 locs1 hRX2 hP hD hS => ?_)
  refine lv_aload_n hx hb dL_law_1088 rfl (lv_at hl 2 rfl) ?_
  refine lv_aload_n hx hb dL_law_1089 rfl (lv_at hl 0 rfl) ?_
  refine lv_iload_n hx hb dL_law_1090 rfl (lv_at hl 3 rfl) ?_
  refine lv_iconst (v := nI 1) hx hb dL_law_1091 (by decide +kernel) ?_
  refine kk_iadd hx hb dL_law_1092 ?_
  refine kk_sld hx hb hXs hbl hbA hS (by omega) hL dL_law_1093 ?_
  refine lv_aload_n hx hb dL_law_1094 rfl (lv_at hl 0 rfl) ?_
  refine lv_iload_n hx hb dL_law_1095 rfl (lv_at hl 3 rfl) ?_
  refine lv_iconst (v := nI 2) hx hb dL_law_1096 (by decide +kernel) ?_
  refine kk_iadd hx hb dL_law_1097 ?_
  refine kk_sld hx hb hXs hbl hbA hS (by omega) hL dL_law_1098 ?_
  refine lv_aload_n hx hb dL_law_1099 rfl (lv_at hl 0 rfl) ?_
  refine lv_iload_n hx hb dL_law_1100 rfl (lv_at hl 3 rfl) ?_
  refine lv_iconst (v := nI 3) hx hb dL_law_1101 (by decide +kernel) ?_
  refine kk_iadd hx hb dL_law_1102 ?_
  refine kk_sld hx hb hXs hbl hbA hS (by omega) hL dL_law_1103 ?_
  refine sX10_put F hK hl.1 (by omega) (by omega) hRM hX (kk_swP hP) (kk_swD hD) hS hA (xs (i + 1)) (xs (i + 2)) (xs (i + 3)) rfl (fun wM2 H2 locs2 hRM2 hP hD hS => ?_)
  refine lv_icmp_eq (tgt := 1347) hx hb dL_law_1107 (by decide) (fun _ => ?_) (fun c9 => absurd rfl c9)
  exact kk _ _ _ _ _ _ _ _ _ _ _ _ (hX) hRX2 hRM2 (kk_swP hP) (kk_swD hD) hS

set_option maxHeartbeats 4000000 in
set_option maxRecDepth 100000 in
theorem law_cell {p : Program} {l : Launch} {e : Env} {s : State} {m : MethodId} {args : Array Value} {below : List Frame} {meth : Method} {c : Code} {H : Heap} {locs : List Loc} {Q : State → Prop} {D : va_G} {cI cS : ClassId} {A : Nat → Prop} {ls : Array Slot} {k n : Nat} {ad bd : Nat → Nat} {b L i : Nat} {xs : Nat → Int32} {C : Co} {T E : Mv} {rl : Nat → Int32} {ln : Nat → Nat} {cf : Nat → Nat → Int32} {tr ft : Int32} {wX wM : va_W} (B : LB p s m args c D cI cS A b L xs) (hk : k + 2 ≤ 600000) (hn : n + 18 ≤ 7302250) (hi : i + 7 ≤ L) (hl : lvL ad bd b i ls) (hX : okX C T E) (hRX : RX ad cI cS C T E rl ln cf tr ft wX) (hRM : RM bd cI C T E rl ln cf tr ft wM) (hP : va_P D vwCl (wX ++ wM) H) (hD : va_D A (wX ++ wM)) (hS : va_S A s.heap H locs) (kk : LKK p l e s m args below meth c (k + 1) (n + 9) Q D cI cS A ls ad bd) : W p l e room_1 s m args below meth c H locs k n Q (F0 m 1112 ls []) := by
  obtain ⟨F, hK, hXs, hbl, hbA, hA, hL⟩ := B
  obtain ⟨hx, hb, -, -, -, -, -⟩ := id F
  refine lv_aload_n hx hb dL_law_1112 rfl (lv_at hl 1 rfl) ?_
  refine lv_aload_n hx hb dL_law_1113 rfl (lv_at hl 0 rfl) ?_
  refine lv_iload_n hx hb dL_law_1114 rfl (lv_at hl 3 rfl) ?_
  refine lv_iconst (v := nI 1) hx hb dL_law_1115 (by decide +kernel) ?_
  refine kk_iadd hx hb dL_law_1116 ?_
  refine kk_sld hx hb hXs hbl hbA hS (by omega) hL dL_law_1117 ?_
  refine lv_aload_n hx hb dL_law_1118 rfl (lv_at hl 0 rfl) ?_
  refine lv_iload_n hx hb dL_law_1119 rfl (lv_at hl 3 rfl) ?_
  refine lv_iconst (v := nI 2) hx hb dL_law_1120 (by decide +kernel) ?_
  refine kk_iadd hx hb dL_law_1121 ?_
  refine kk_sld hx hb hXs hbl hbA hS (by omega) hL dL_law_1122 ?_
  refine lv_aload_n hx hb dL_law_1123 rfl (lv_at hl 0 rfl) ?_
  refine lv_iload_n hx hb dL_law_1124 rfl (lv_at hl 3 rfl) ?_
  refine lv_iconst (v := nI 3) hx hb dL_law_1125 (by decide +kernel) ?_
  refine kk_iadd hx hb dL_law_1126 ?_
  refine kk_sld hx hb hXs hbl hbA hS (by omega) hL dL_law_1127 ?_
  refine sX9_cell F hK hl.1 (by omega) (by omega) hRX hX hP hD hS hA (xs (i + 1)) (xs (i + 2)) (xs (i + 3)) (RM_len hRM) rfl (fun wX2 H1 locs1 hRX2 hP hD hS => ?_)
  refine lv_aload_n hx hb dL_law_1131 rfl (lv_at hl 2 rfl) ?_
  refine lv_aload_n hx hb dL_law_1132 rfl (lv_at hl 0 rfl) ?_
  refine lv_iload_n hx hb dL_law_1133 rfl (lv_at hl 3 rfl) ?_
  refine lv_iconst (v := nI 1) hx hb dL_law_1134 (by decide +kernel) ?_
  refine kk_iadd hx hb dL_law_1135 ?_
  refine kk_sld hx hb hXs hbl hbA hS (by omega) hL dL_law_1136 ?_
  refine lv_aload_n hx hb dL_law_1137 rfl (lv_at hl 0 rfl) ?_
  refine lv_iload_n hx hb dL_law_1138 rfl (lv_at hl 3 rfl) ?_
  refine lv_iconst (v := nI 2) hx hb dL_law_1139 (by decide +kernel) ?_
  refine kk_iadd hx hb dL_law_1140 ?_
  refine kk_sld hx hb hXs hbl hbA hS (by omega) hL dL_law_1141 ?_
  refine lv_aload_n hx hb dL_law_1142 rfl (lv_at hl 0 rfl) ?_
  refine lv_iload_n hx hb dL_law_1143 rfl (lv_at hl 3 rfl) ?_
  refine lv_iconst (v := nI 3) hx hb dL_law_1144 (by decide +kernel) ?_
  refine kk_iadd hx hb dL_law_1145 ?_
  refine kk_sld hx hb hXs hbl hbA hS (by omega) hL dL_law_1146 ?_
  refine sX10_cell F hK hl.1 (by omega) (by omega) hRM hX (kk_swP hP) (kk_swD hD) hS hA (xs (i + 1)) (xs (i + 2)) (xs (i + 3)) rfl (fun wM2 H2 locs2 hRM2 hP hD hS => ?_)
  refine W.lcmp hx hb dL_law_1150 ?_
  refine lv_if_eq (tgt := 1347) hx hb dL_law_1151 (by decide) (fun _ => ?_) (fun c9 => absurd ((lg_cmp_eq _ _).mpr rfl) c9)
  exact kk _ _ _ _ _ _ _ _ _ _ _ _ (hX) hRX2 hRM2 (kk_swP hP) (kk_swD hD) hS

set_option maxHeartbeats 4000000 in
set_option maxRecDepth 100000 in
theorem law_copy {p : Program} {l : Launch} {e : Env} {s : State} {m : MethodId} {args : Array Value} {below : List Frame} {meth : Method} {c : Code} {H : Heap} {locs : List Loc} {Q : State → Prop} {D : va_G} {cI cS : ClassId} {A : Nat → Prop} {ls : Array Slot} {k n : Nat} {ad bd : Nat → Nat} {b L i : Nat} {xs : Nat → Int32} {C : Co} {T E : Mv} {rl : Nat → Int32} {ln : Nat → Nat} {cf : Nat → Nat → Int32} {tr ft : Int32} {wX wM : va_W} (B : LB p s m args c D cI cS A b L xs) (hk : k + 2 ≤ 600000) (hn : n + 18 ≤ 7302250) (hi : i + 7 ≤ L) (hl : lvL ad bd b i ls) (hX : okX C T E) (hRX : RX ad cI cS C T E rl ln cf tr ft wX) (hRM : RM bd cI C T E rl ln cf tr ft wM) (hP : va_P D vwCl (wX ++ wM) H) (hD : va_D A (wX ++ wM)) (hS : va_S A s.heap H locs) (kk : LKK p l e s m args below meth c (k + 1) (n + 9) Q D cI cS A ls ad bd) : W p l e room_1 s m args below meth c H locs k n Q (F0 m 1156 ls []) := by
  obtain ⟨F, hK, hXs, hbl, hbA, hA, hL⟩ := B
  obtain ⟨hx, hb, -, -, -, -, -⟩ := id F
  refine lv_aload_n hx hb dL_law_1156 rfl (lv_at hl 1 rfl) ?_
  refine lv_aload_n hx hb dL_law_1157 rfl (lv_at hl 0 rfl) ?_
  refine lv_iload_n hx hb dL_law_1158 rfl (lv_at hl 3 rfl) ?_
  refine lv_iconst (v := nI 1) hx hb dL_law_1159 (by decide +kernel) ?_
  refine kk_iadd hx hb dL_law_1160 ?_
  refine kk_sld hx hb hXs hbl hbA hS (by omega) hL dL_law_1161 ?_
  refine lv_aload_n hx hb dL_law_1162 rfl (lv_at hl 0 rfl) ?_
  refine lv_iload_n hx hb dL_law_1163 rfl (lv_at hl 3 rfl) ?_
  refine lv_iconst (v := nI 2) hx hb dL_law_1164 (by decide +kernel) ?_
  refine kk_iadd hx hb dL_law_1165 ?_
  refine kk_sld hx hb hXs hbl hbA hS (by omega) hL dL_law_1166 ?_
  refine lv_aload_n hx hb dL_law_1167 rfl (lv_at hl 0 rfl) ?_
  refine lv_iload_n hx hb dL_law_1168 rfl (lv_at hl 3 rfl) ?_
  refine lv_iconst (v := nI 3) hx hb dL_law_1169 (by decide +kernel) ?_
  refine kk_iadd hx hb dL_law_1170 ?_
  refine kk_sld hx hb hXs hbl hbA hS (by omega) hL dL_law_1171 ?_
  refine lv_aload_n hx hb dL_law_1172 rfl (lv_at hl 0 rfl) ?_
  refine lv_iload_n hx hb dL_law_1173 rfl (lv_at hl 3 rfl) ?_
  refine lv_iconst (v := nI 4) hx hb dL_law_1174 (by decide +kernel) ?_
  refine kk_iadd hx hb dL_law_1175 ?_
  refine kk_sld hx hb hXs hbl hbA hS (by omega) hL dL_law_1176 ?_
  refine lv_aload_n hx hb dL_law_1177 rfl (lv_at hl 0 rfl) ?_
  refine lv_iload_n hx hb dL_law_1178 rfl (lv_at hl 3 rfl) ?_
  refine lv_iconst (v := nI 5) hx hb dL_law_1179 (by decide +kernel) ?_
  refine kk_iadd hx hb dL_law_1180 ?_
  refine kk_sld hx hb hXs hbl hbA hS (by omega) hL dL_law_1181 ?_
  refine sX9_copy F hK hl.1 (by omega) (by omega) hRX hX hP hD hS hA (xs (i + 1)) (xs (i + 2)) (xs (i + 3)) (xs (i + 4)) (xs (i + 5)) (RM_len hRM) rfl rfl (fun wX2 H1 locs1 hRX2 hP hD hS => ?_)
  refine lv_aload_n hx hb dL_law_1185 rfl (lv_at hl 2 rfl) ?_
  refine lv_aload_n hx hb dL_law_1186 rfl (lv_at hl 0 rfl) ?_
  refine lv_iload_n hx hb dL_law_1187 rfl (lv_at hl 3 rfl) ?_
  refine lv_iconst (v := nI 1) hx hb dL_law_1188 (by decide +kernel) ?_
  refine kk_iadd hx hb dL_law_1189 ?_
  refine kk_sld hx hb hXs hbl hbA hS (by omega) hL dL_law_1190 ?_
  refine lv_aload_n hx hb dL_law_1191 rfl (lv_at hl 0 rfl) ?_
  refine lv_iload_n hx hb dL_law_1192 rfl (lv_at hl 3 rfl) ?_
  refine lv_iconst (v := nI 2) hx hb dL_law_1193 (by decide +kernel) ?_
  refine kk_iadd hx hb dL_law_1194 ?_
  refine kk_sld hx hb hXs hbl hbA hS (by omega) hL dL_law_1195 ?_
  refine lv_aload_n hx hb dL_law_1196 rfl (lv_at hl 0 rfl) ?_
  refine lv_iload_n hx hb dL_law_1197 rfl (lv_at hl 3 rfl) ?_
  refine lv_iconst (v := nI 3) hx hb dL_law_1198 (by decide +kernel) ?_
  refine kk_iadd hx hb dL_law_1199 ?_
  refine kk_sld hx hb hXs hbl hbA hS (by omega) hL dL_law_1200 ?_
  refine lv_aload_n hx hb dL_law_1201 rfl (lv_at hl 0 rfl) ?_
  refine lv_iload_n hx hb dL_law_1202 rfl (lv_at hl 3 rfl) ?_
  refine lv_iconst (v := nI 4) hx hb dL_law_1203 (by decide +kernel) ?_
  refine kk_iadd hx hb dL_law_1204 ?_
  refine kk_sld hx hb hXs hbl hbA hS (by omega) hL dL_law_1205 ?_
  refine lv_aload_n hx hb dL_law_1206 rfl (lv_at hl 0 rfl) ?_
  refine lv_iload_n hx hb dL_law_1207 rfl (lv_at hl 3 rfl) ?_
  refine lv_iconst (v := nI 5) hx hb dL_law_1208 (by decide +kernel) ?_
  refine kk_iadd hx hb dL_law_1209 ?_
  refine kk_sld hx hb hXs hbl hbA hS (by omega) hL dL_law_1210 ?_
  refine sX10_copy F hK hl.1 (by omega) (by omega) hRM hX (kk_swP hP) (kk_swD hD) hS hA (xs (i + 1)) (xs (i + 2)) (xs (i + 3)) (xs (i + 4)) (xs (i + 5)) rfl rfl (fun wM2 H2 locs2 hRM2 hP hD hS => ?_)
  refine lv_icmp_eq (tgt := 1347) hx hb dL_law_1214 (by decide) (fun _ => ?_) (fun c9 => absurd rfl c9)
  exact kk _ _ _ _ _ _ _ _ _ _ _ _ (hX) hRX2 hRM2 (kk_swP hP) (kk_swD hD) hS

set_option maxHeartbeats 4000000 in
set_option maxRecDepth 100000 in
theorem law_tell {p : Program} {l : Launch} {e : Env} {s : State} {m : MethodId} {args : Array Value} {below : List Frame} {meth : Method} {c : Code} {H : Heap} {locs : List Loc} {Q : State → Prop} {D : va_G} {cI cS : ClassId} {A : Nat → Prop} {ls : Array Slot} {k n : Nat} {ad bd : Nat → Nat} {b L i : Nat} {xs : Nat → Int32} {C : Co} {T E : Mv} {rl : Nat → Int32} {ln : Nat → Nat} {cf : Nat → Nat → Int32} {tr ft : Int32} {wX wM : va_W} (B : LB p s m args c D cI cS A b L xs) (hk : k + 2 ≤ 600000) (hn : n + 18 ≤ 7302250) (hi : i + 7 ≤ L) (hl : lvL ad bd b i ls) (hX : okX C T E) (hRX : RX ad cI cS C T E rl ln cf tr ft wX) (hRM : RM bd cI C T E rl ln cf tr ft wM) (hP : va_P D vwCl (wX ++ wM) H) (hD : va_D A (wX ++ wM)) (hS : va_S A s.heap H locs) (kk : LKK p l e s m args below meth c (k + 1) (n + 9) Q D cI cS A ls ad bd) : W p l e room_1 s m args below meth c H locs k n Q (F0 m 1219 ls []) := by
  obtain ⟨F, hK, hXs, hbl, hbA, hA, hL⟩ := B
  obtain ⟨hx, hb, -, -, -, -, -⟩ := id F
  refine lv_aload_n hx hb dL_law_1219 rfl (lv_at hl 1 rfl) ?_
  refine lv_aload_n hx hb dL_law_1220 rfl (lv_at hl 0 rfl) ?_
  refine lv_iload_n hx hb dL_law_1221 rfl (lv_at hl 3 rfl) ?_
  refine lv_iconst (v := nI 1) hx hb dL_law_1222 (by decide +kernel) ?_
  refine kk_iadd hx hb dL_law_1223 ?_
  refine kk_sld hx hb hXs hbl hbA hS (by omega) hL dL_law_1224 ?_
  refine sX9_tell F hK hl.1 (by omega) (by omega) hRX hX hP hD hS hA (xs (i + 1)) (fun wX2 H1 locs1 hRX2 hP hD hS => ?_)
  refine lv_aload_n hx hb dL_law_1228 rfl (lv_at hl 2 rfl) ?_
  refine lv_aload_n hx hb dL_law_1229 rfl (lv_at hl 0 rfl) ?_
  refine lv_iload_n hx hb dL_law_1230 rfl (lv_at hl 3 rfl) ?_
  refine lv_iconst (v := nI 1) hx hb dL_law_1231 (by decide +kernel) ?_
  refine kk_iadd hx hb dL_law_1232 ?_
  refine kk_sld hx hb hXs hbl hbA hS (by omega) hL dL_law_1233 ?_
  refine sX10_tell F hK hl.1 (by omega) (by omega) hRM hX (kk_swP hP) (kk_swD hD) hS hA (xs (i + 1)) (fun wM2 H2 locs2 hRM2 hP hD hS => ?_)
  refine lv_icmp_eq (tgt := 1347) hx hb dL_law_1237 (by decide) (fun _ => ?_) (fun c9 => absurd rfl c9)
  exact kk _ _ _ _ _ _ _ _ _ _ _ _ (hX) hRX2 hRM2 (kk_swP hP) (kk_swD hD) hS

set_option maxHeartbeats 4000000 in
set_option maxRecDepth 100000 in
theorem law_see {p : Program} {l : Launch} {e : Env} {s : State} {m : MethodId} {args : Array Value} {below : List Frame} {meth : Method} {c : Code} {H : Heap} {locs : List Loc} {Q : State → Prop} {D : va_G} {cI cS : ClassId} {A : Nat → Prop} {ls : Array Slot} {k n : Nat} {ad bd : Nat → Nat} {b L i : Nat} {xs : Nat → Int32} {C : Co} {T E : Mv} {rl : Nat → Int32} {ln : Nat → Nat} {cf : Nat → Nat → Int32} {tr ft : Int32} {wX wM : va_W} (B : LB p s m args c D cI cS A b L xs) (hk : k + 2 ≤ 600000) (hn : n + 18 ≤ 7302250) (hi : i + 7 ≤ L) (hl : lvL ad bd b i ls) (hX : okX C T E) (hRX : RX ad cI cS C T E rl ln cf tr ft wX) (hRM : RM bd cI C T E rl ln cf tr ft wM) (hP : va_P D vwCl (wX ++ wM) H) (hD : va_D A (wX ++ wM)) (hS : va_S A s.heap H locs) (kk : LKK p l e s m args below meth c (k + 1) (n + 9) Q D cI cS A ls ad bd) : W p l e room_1 s m args below meth c H locs k n Q (F0 m 1242 ls []) := by
  obtain ⟨F, hK, hXs, hbl, hbA, hA, hL⟩ := B
  obtain ⟨hx, hb, -, -, -, -, -⟩ := id F
  refine lv_aload_n hx hb dL_law_1242 rfl (lv_at hl 1 rfl) ?_
  refine lv_aload_n hx hb dL_law_1243 rfl (lv_at hl 0 rfl) ?_
  refine lv_iload_n hx hb dL_law_1244 rfl (lv_at hl 3 rfl) ?_
  refine lv_iconst (v := nI 1) hx hb dL_law_1245 (by decide +kernel) ?_
  refine kk_iadd hx hb dL_law_1246 ?_
  refine kk_sld hx hb hXs hbl hbA hS (by omega) hL dL_law_1247 ?_
  refine sX9_see F hK hl.1 (by omega) (by omega) hRX hX hP hD hS hA (xs (i + 1)) (fun wX2 H1 locs1 hRX2 hP hD hS => ?_)
  refine lv_aload_n hx hb dL_law_1251 rfl (lv_at hl 2 rfl) ?_
  refine lv_aload_n hx hb dL_law_1252 rfl (lv_at hl 0 rfl) ?_
  refine lv_iload_n hx hb dL_law_1253 rfl (lv_at hl 3 rfl) ?_
  refine lv_iconst (v := nI 1) hx hb dL_law_1254 (by decide +kernel) ?_
  refine kk_iadd hx hb dL_law_1255 ?_
  refine kk_sld hx hb hXs hbl hbA hS (by omega) hL dL_law_1256 ?_
  refine sX10_see F hK hl.1 (by omega) (by omega) hRM hX (kk_swP hP) (kk_swD hD) hS hA (xs (i + 1)) (fun wM2 H2 locs2 hRM2 hP hD hS => ?_)
  refine lv_icmp_eq (tgt := 1347) hx hb dL_law_1260 (by decide) (fun _ => ?_) (fun c9 => absurd rfl c9)
  exact kk _ _ _ _ _ _ _ _ _ _ _ _ (hX) hRX2 hRM2 (kk_swP hP) (kk_swD hD) hS

set_option maxHeartbeats 4000000 in
set_option maxRecDepth 100000 in
theorem law_as {p : Program} {l : Launch} {e : Env} {s : State} {m : MethodId} {args : Array Value} {below : List Frame} {meth : Method} {c : Code} {H : Heap} {locs : List Loc} {Q : State → Prop} {D : va_G} {cI cS : ClassId} {A : Nat → Prop} {ls : Array Slot} {k n : Nat} {ad bd : Nat → Nat} {b L i : Nat} {xs : Nat → Int32} {C : Co} {T E : Mv} {rl : Nat → Int32} {ln : Nat → Nat} {cf : Nat → Nat → Int32} {tr ft : Int32} {wX wM : va_W} (B : LB p s m args c D cI cS A b L xs) (hk : k + 2 ≤ 600000) (hn : n + 18 ≤ 7302250) (hi : i + 7 ≤ L) (hl : lvL ad bd b i ls) (hX : okX C T E) (hRX : RX ad cI cS C T E rl ln cf tr ft wX) (hRM : RM bd cI C T E rl ln cf tr ft wM) (hP : va_P D vwCl (wX ++ wM) H) (hD : va_D A (wX ++ wM)) (hS : va_S A s.heap H locs) (kk : LKK p l e s m args below meth c (k + 1) (n + 9) Q D cI cS A ls ad bd) : W p l e room_1 s m args below meth c H locs k n Q (F0 m 1265 ls []) := by
  obtain ⟨F, hK, hXs, hbl, hbA, hA, hL⟩ := B
  obtain ⟨hx, hb, -, -, -, -, -⟩ := id F
  refine lv_aload_n hx hb dL_law_1265 rfl (lv_at hl 1 rfl) ?_
  refine lv_aload_n hx hb dL_law_1266 rfl (lv_at hl 0 rfl) ?_
  refine lv_iload_n hx hb dL_law_1267 rfl (lv_at hl 3 rfl) ?_
  refine lv_iconst (v := nI 1) hx hb dL_law_1268 (by decide +kernel) ?_
  refine kk_iadd hx hb dL_law_1269 ?_
  refine kk_sld hx hb hXs hbl hbA hS (by omega) hL dL_law_1270 ?_
  refine lv_aload_n hx hb dL_law_1271 rfl (lv_at hl 0 rfl) ?_
  refine lv_iload_n hx hb dL_law_1272 rfl (lv_at hl 3 rfl) ?_
  refine lv_iconst (v := nI 2) hx hb dL_law_1273 (by decide +kernel) ?_
  refine kk_iadd hx hb dL_law_1274 ?_
  refine kk_sld hx hb hXs hbl hbA hS (by omega) hL dL_law_1275 ?_
  refine sX9_as F hK hl.1 (by omega) (by omega) hRX hX hP hD hS hA (xs (i + 1)) (xs (i + 2)) (fun wX2 H1 locs1 hRX2 hP hD hS => ?_)
  refine lv_aload_n hx hb dL_law_1279 rfl (lv_at hl 2 rfl) ?_
  refine lv_aload_n hx hb dL_law_1280 rfl (lv_at hl 0 rfl) ?_
  refine lv_iload_n hx hb dL_law_1281 rfl (lv_at hl 3 rfl) ?_
  refine lv_iconst (v := nI 1) hx hb dL_law_1282 (by decide +kernel) ?_
  refine kk_iadd hx hb dL_law_1283 ?_
  refine kk_sld hx hb hXs hbl hbA hS (by omega) hL dL_law_1284 ?_
  refine lv_aload_n hx hb dL_law_1285 rfl (lv_at hl 0 rfl) ?_
  refine lv_iload_n hx hb dL_law_1286 rfl (lv_at hl 3 rfl) ?_
  refine lv_iconst (v := nI 2) hx hb dL_law_1287 (by decide +kernel) ?_
  refine kk_iadd hx hb dL_law_1288 ?_
  refine kk_sld hx hb hXs hbl hbA hS (by omega) hL dL_law_1289 ?_
  refine sX10_as F hK hl.1 (by omega) (by omega) hRM hX (kk_swP hP) (kk_swD hD) hS hA (xs (i + 1)) (xs (i + 2)) (fun wM2 H2 locs2 hRM2 hP hD hS => ?_)
  refine lv_icmp_eq (tgt := 1347) hx hb dL_law_1293 (by decide) (fun _ => ?_) (fun c9 => absurd rfl c9)
  exact kk _ _ _ _ _ _ _ _ _ _ _ _ (hX) hRX2 hRM2 (kk_swP hP) (kk_swD hD) hS

set_option maxHeartbeats 4000000 in
set_option maxRecDepth 100000 in
theorem law_trace {p : Program} {l : Launch} {e : Env} {s : State} {m : MethodId} {args : Array Value} {below : List Frame} {meth : Method} {c : Code} {H : Heap} {locs : List Loc} {Q : State → Prop} {D : va_G} {cI cS : ClassId} {A : Nat → Prop} {ls : Array Slot} {k n : Nat} {ad bd : Nat → Nat} {b L i : Nat} {xs : Nat → Int32} {C : Co} {T E : Mv} {rl : Nat → Int32} {ln : Nat → Nat} {cf : Nat → Nat → Int32} {tr ft : Int32} {wX wM : va_W} (B : LB p s m args c D cI cS A b L xs) (hk : k + 2 ≤ 600000) (hn : n + 18 ≤ 7302250) (hi : i + 7 ≤ L) (hl : lvL ad bd b i ls) (hX : okX C T E) (hRX : RX ad cI cS C T E rl ln cf tr ft wX) (hRM : RM bd cI C T E rl ln cf tr ft wM) (hP : va_P D vwCl (wX ++ wM) H) (hD : va_D A (wX ++ wM)) (hS : va_S A s.heap H locs) (kk : LKK p l e s m args below meth c (k + 1) (n + 9) Q D cI cS A ls ad bd) : W p l e room_1 s m args below meth c H locs k n Q (F0 m 1298 ls []) := by
  obtain ⟨F, hK, hXs, hbl, hbA, hA, hL⟩ := B
  obtain ⟨hx, hb, -, -, -, -, -⟩ := id F
  refine lv_aload_n hx hb dL_law_1298 rfl (lv_at hl 1 rfl) ?_
  refine sX9_trace F hK hl.1 (by omega) (by omega) hRX hX hP hD hS hA  (fun wX2 H1 locs1 hRX2 hP hD hS => ?_)
  refine lv_aload_n hx hb dL_law_1302 rfl (lv_at hl 2 rfl) ?_
  refine sX10_trace F hK hl.1 (by omega) (by omega) hRM hX (kk_swP hP) (kk_swD hD) hS hA  (fun wM2 H2 locs2 hRM2 hP hD hS => ?_)
  refine lv_icmp_eq (tgt := 1347) hx hb dL_law_1306 (by decide) (fun _ => ?_) (fun c9 => absurd rfl c9)
  exact kk _ _ _ _ _ _ _ _ _ _ _ _ (hX) hRX2 hRM2 (kk_swP hP) (kk_swD hD) hS

set_option maxHeartbeats 4000000 in
set_option maxRecDepth 100000 in
theorem law_fault {p : Program} {l : Launch} {e : Env} {s : State} {m : MethodId} {args : Array Value} {below : List Frame} {meth : Method} {c : Code} {H : Heap} {locs : List Loc} {Q : State → Prop} {D : va_G} {cI cS : ClassId} {A : Nat → Prop} {ls : Array Slot} {k n : Nat} {ad bd : Nat → Nat} {b L i : Nat} {xs : Nat → Int32} {C : Co} {T E : Mv} {rl : Nat → Int32} {ln : Nat → Nat} {cf : Nat → Nat → Int32} {tr ft : Int32} {wX wM : va_W} (B : LB p s m args c D cI cS A b L xs) (hk : k + 2 ≤ 600000) (hn : n + 18 ≤ 7302250) (hi : i + 7 ≤ L) (hl : lvL ad bd b i ls) (hX : okX C T E) (hRX : RX ad cI cS C T E rl ln cf tr ft wX) (hRM : RM bd cI C T E rl ln cf tr ft wM) (hP : va_P D vwCl (wX ++ wM) H) (hD : va_D A (wX ++ wM)) (hS : va_S A s.heap H locs) (kk : LKK p l e s m args below meth c (k + 1) (n + 9) Q D cI cS A ls ad bd) : W p l e room_1 s m args below meth c H locs k n Q (F0 m 1311 ls []) := by
  obtain ⟨F, hK, hXs, hbl, hbA, hA, hL⟩ := B
  obtain ⟨hx, hb, -, -, -, -, -⟩ := id F
  refine lv_aload_n hx hb dL_law_1311 rfl (lv_at hl 1 rfl) ?_
  refine sX9_fault F hK hl.1 (by omega) (by omega) hRX hX hP hD hS hA  (fun wX2 H1 locs1 hRX2 hP hD hS => ?_)
  refine lv_aload_n hx hb dL_law_1315 rfl (lv_at hl 2 rfl) ?_
  refine sX10_fault F hK hl.1 (by omega) (by omega) hRM hX (kk_swP hP) (kk_swD hD) hS hA  (fun wM2 H2 locs2 hRM2 hP hD hS => ?_)
  refine lv_icmp_eq (tgt := 1347) hx hb dL_law_1319 (by decide) (fun _ => ?_) (fun c9 => absurd rfl c9)
  exact kk _ _ _ _ _ _ _ _ _ _ _ _ (hX) hRX2 hRM2 (kk_swP hP) (kk_swD hD) hS

set_option maxHeartbeats 4000000 in
set_option maxRecDepth 100000 in
theorem law_many {p : Program} {l : Launch} {e : Env} {s : State} {m : MethodId} {args : Array Value} {below : List Frame} {meth : Method} {c : Code} {H : Heap} {locs : List Loc} {Q : State → Prop} {D : va_G} {cI cS : ClassId} {A : Nat → Prop} {ls : Array Slot} {k n : Nat} {ad bd : Nat → Nat} {b L i : Nat} {xs : Nat → Int32} {C : Co} {T E : Mv} {rl : Nat → Int32} {ln : Nat → Nat} {cf : Nat → Nat → Int32} {tr ft : Int32} {wX wM : va_W} (B : LB p s m args c D cI cS A b L xs) (hk : k + 2 ≤ 600000) (hn : n + 18 ≤ 7302250) (hi : i + 7 ≤ L) (hl : lvL ad bd b i ls) (hX : okX C T E) (hRX : RX ad cI cS C T E rl ln cf tr ft wX) (hRM : RM bd cI C T E rl ln cf tr ft wM) (hP : va_P D vwCl (wX ++ wM) H) (hD : va_D A (wX ++ wM)) (hS : va_S A s.heap H locs) (kk : LKK p l e s m args below meth c (k + 1) (n + 9) Q D cI cS A ls ad bd) : W p l e room_1 s m args below meth c H locs k n Q (F0 m 1324 ls []) := by
  obtain ⟨F, hK, hXs, hbl, hbA, hA, hL⟩ := B
  obtain ⟨hx, hb, -, -, -, -, -⟩ := id F
  refine lv_aload_n hx hb dL_law_1324 rfl (lv_at hl 1 rfl) ?_
  refine lv_aload_n hx hb dL_law_1325 rfl (lv_at hl 0 rfl) ?_
  refine lv_iload_n hx hb dL_law_1326 rfl (lv_at hl 3 rfl) ?_
  refine lv_iconst (v := nI 1) hx hb dL_law_1327 (by decide +kernel) ?_
  refine kk_iadd hx hb dL_law_1328 ?_
  refine kk_sld hx hb hXs hbl hbA hS (by omega) hL dL_law_1329 ?_
  refine sX9_many F hK hl.1 (by omega) (by omega) hRX hX hP hD hS hA (xs (i + 1)) (fun wX2 H1 locs1 hRX2 hP hD hS => ?_)
  refine lv_aload_n hx hb dL_law_1333 rfl (lv_at hl 2 rfl) ?_
  refine lv_aload_n hx hb dL_law_1334 rfl (lv_at hl 0 rfl) ?_
  refine lv_iload_n hx hb dL_law_1335 rfl (lv_at hl 3 rfl) ?_
  refine lv_iconst (v := nI 1) hx hb dL_law_1336 (by decide +kernel) ?_
  refine kk_iadd hx hb dL_law_1337 ?_
  refine kk_sld hx hb hXs hbl hbA hS (by omega) hL dL_law_1338 ?_
  refine sX10_many F hK hl.1 (by omega) (by omega) hRM hX (kk_swP hP) (kk_swD hD) hS hA (xs (i + 1)) (fun wM2 H2 locs2 hRM2 hP hD hS => ?_)
  refine lv_icmp_eq (tgt := 1347) hx hb dL_law_1342 (by decide) (fun _ => ?_) (fun c9 => absurd rfl c9)
  exact kk _ _ _ _ _ _ _ _ _ _ _ _ (hX) hRX2 hRM2 (kk_swP hP) (kk_swD hD) hS
