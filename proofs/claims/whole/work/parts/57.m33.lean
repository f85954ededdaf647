section LAWC
variable {p : Program} {l : Launch} {e : Env} {R : Room} {s : State} {m : MethodId} {args : Array Value} {below : List Frame} {meth : Method} {c : Code} {H : Heap} {locs : List Loc} {cells slots : Nat} {Q : State → Prop}
variable {ls : Array Slot} {G : va_G} {Y : Nat → Nat} {A : Nat → Prop} {b L i xo h0 h1 hh hb2 sl a0 a1 sv tz az mo tx nw tr dy kp ik td ch ot : Nat} {xs : Nat → Int32}
variable {segs segsC segsM : List va_W} {postC postM : Int32 → List va_W → Prop} {fr lo fr2 lo2 : Nat} {is isM : List Nat}
set_option maxHeartbeats 2000000 in
theorem case_append (E : LE p l R s m args c G Y A b L xs) {c1 : Int32} (h1 : xs (i + 1) = c1) (hi : i + 6 ≤ L) (hC : CtL l yL_append cL_append 4 [(0, 9, 12, 13), (0, 9, 15, 15)] fr lo [.ref xo, .int c1, .ref ot] segsC postC G Y) (hM : CtI l yX6_append cX6_append 2 .int fr2 lo2 [.ref mo, .int c1] segsM postM G Y) (hb4 : fr ≤ 500 ∧ lo ≤ 5000 ∧ fr2 ≤ 500 ∧ lo2 ≤ 5000) (hs : is.map (fun i => segs[i]?) = segsC.map some) (hnd : va_nd is = true) (hndM : va_nd isM = true) (hf : cells + 1 ≤ R.cells ∧ slots + 6 ≤ R.slots) (hw : xW G A s.heap segs H locs) (hl : lv_has ls 7 [(0, .ref b), (1, .ref xo), (2, .ref mo), (3, .ref ot), (4, .int (nI i))])
    (hag : ∀ k sgC, postC k sgC → isM.map (fun i => (xPut segs is sgC)[i]?) = segsM.map some ∧ (∃ fs, (xPut segs is sgC)[12]? = some [(mo, .inr (5, fs))]) ∧ ∀ r sgM, postM r sgM → lawEnd Y mo ot k r (xPut (xPut segs is sgC) isM sgM) ∧ ∀ H locs ls, xW G A s.heap (xPut (xPut segs is sgC) isM sgM) H locs → lv_has ls 7 [(0, .ref b), (1, .ref xo), (2, .ref mo), (3, .ref ot), (4, .int (nI i))] → W p l e R s m args below meth c H locs (cells + 1) (slots + 6) Q (F0 m 2113 ls [])) :
    W p l e R s m args below meth c H locs cells slots Q (F0 m 188 ls []) := by
  obtain ⟨hx, hb, -⟩ := id E.M
  have hRR := E.hR
  have hLL := E.hL
  refine lv_aload_n hx hb dL_law_188 rfl (lv_at hl 1 rfl) ?_
  refine lv_aload_n hx hb dL_law_189 rfl (lv_at hl 0 rfl) ?_
  refine lv_iload hx hb dL_law_190 (lv_at hl 4 rfl) ?_
  refine lv_iconst (v := nI 1) hx hb dL_law_192 (by decide) ?_
  refine x_iadd E.M (n := i + 1) dL_law_193 rfl ?_
  refine law_rd E (A1 := A) (k := i + 1) hw (by omega) h1 dL_law_194 ?_
  refine lv_aload_n hx hb dL_law_195 rfl (lv_at hl 3 rfl) ?_
  refine x_cSL (As := [.ref xo, .int c1, .ref ot]) hC cl_append is E.M E.hK E.hZ E.hN hw hl.1 hs hnd ⟨by omega, by omega⟩ ⟨by omega, by omega⟩ rfl rfl (Nat.le_of_ble_eq_true rfl) dL_law_196 ?_
  intro k sgC hpC H locs hw
  obtain ⟨hsM, ⟨fs, hrc⟩, hag⟩ := hag k sgC hpC
  refine lv_istore (lv' := [(5, .int k), (0, .ref b), (1, .ref xo), (2, .ref mo), (3, .ref ot), (4, .int (nI i))]) hx hb dL_law_199 hl (by decide) rfl (fun ls hl => ?_)
  refine lv_aload_n hx hb dL_law_201 rfl (lv_at hl 3 rfl) ?_
  refine lv_aload_n hx hb dL_law_202 rfl (lv_at hl 1 rfl) ?_
  refine lv_iload hx hb dL_law_203 (lv_at hl 5 rfl) ?_
  refine lv_iconst (v := nI 1) hx hb dL_law_205 (by decide) ?_
  refine x_iadd E.M (n := i + 1) dL_law_206 rfl ?_
  refine law_rd E (A1 := A) (k := i + 1) hw (by omega) h1 dL_law_207 ?_
  refine x_cVI (As := [.int c1]) hM cw_L_115 isM 12 0 E.M E.hK E.hZ hw hl.1 hsM hndM hrc rfl rfl ⟨by omega, by omega⟩ ⟨by omega, by omega⟩ rfl rfl (Nat.le_of_ble_eq_true rfl) dL_law_208 ?_
  intro r sgM hpM H locs hw
  obtain ⟨hend, hK⟩ := hag r sgM hpM
  refine lv_istore (lv' := [(6, .int r), (5, .int k), (0, .ref b), (1, .ref xo), (2, .ref mo), (3, .ref ot), (4, .int (nI i))]) hx hb dL_law_211 hl (by decide) rfl (fun ls hl => ?_)
  exact law_tail E dL_law_213 dL_law_214 dL_law_217 dL_law_219 dL_law_224 dL_law_226 dL_law_229 dL_law_230 dL_law_231 dL_law_232 dL_law_234 dL_law_235 dL_law_236 dL_law_241 (by decide) ⟨by omega, by omega⟩ hw hl hend hK
set_option maxHeartbeats 2000000 in
theorem case_load (E : LE p l R s m args c G Y A b L xs)   (hi : i + 6 ≤ L) (hC : CtL l yL_load cL_load 3 [(0, 8, 11, 15)] fr lo [.ref xo, .ref ot] segsC postC G Y) (hM : CtI l yX6_load cX6_load 1 .int fr2 lo2 [.ref mo] segsM postM G Y) (hb4 : fr ≤ 500 ∧ lo ≤ 5000 ∧ fr2 ≤ 500 ∧ lo2 ≤ 5000) (hs : is.map (fun i => segs[i]?) = segsC.map some) (hnd : va_nd is = true) (hndM : va_nd isM = true) (hf : cells + 1 ≤ R.cells ∧ slots + 6 ≤ R.slots) (hw : xW G A s.heap segs H locs) (hl : lv_has ls 7 [(0, .ref b), (1, .ref xo), (2, .ref mo), (3, .ref ot), (4, .int (nI i))])
    (hag : ∀ k sgC, postC k sgC → isM.map (fun i => (xPut segs is sgC)[i]?) = segsM.map some ∧ (∃ fs, (xPut segs is sgC)[12]? = some [(mo, .inr (5, fs))]) ∧ ∀ r sgM, postM r sgM → lawEnd Y mo ot k r (xPut (xPut segs is sgC) isM sgM) ∧ ∀ H locs ls, xW G A s.heap (xPut (xPut segs is sgC) isM sgM) H locs → lv_has ls 7 [(0, .ref b), (1, .ref xo), (2, .ref mo), (3, .ref ot), (4, .int (nI i))] → W p l e R s m args below meth c H locs (cells + 1) (slots + 6) Q (F0 m 2113 ls [])) :
    W p l e R s m args below meth c H locs cells slots Q (F0 m 270 ls []) := by
  obtain ⟨hx, hb, -⟩ := id E.M
  have hRR := E.hR
  have hLL := E.hL
  refine lv_aload_n hx hb dL_law_270 rfl (lv_at hl 1 rfl) ?_
  refine lv_aload_n hx hb dL_law_271 rfl (lv_at hl 3 rfl) ?_
  refine x_cSL (As := [.ref xo, .ref ot]) hC cl_load is E.M E.hK E.hZ E.hN hw hl.1 hs hnd ⟨by omega, by omega⟩ ⟨by omega, by omega⟩ rfl rfl (Nat.le_of_ble_eq_true rfl) dL_law_272 ?_
  intro k sgC hpC H locs hw
  obtain ⟨hsM, ⟨fs, hrc⟩, hag⟩ := hag k sgC hpC
  refine lv_istore (lv' := [(5, .int k), (0, .ref b), (1, .ref xo), (2, .ref mo), (3, .ref ot), (4, .int (nI i))]) hx hb dL_law_275 hl (by decide) rfl (fun ls hl => ?_)
  refine lv_aload_n hx hb dL_law_277 rfl (lv_at hl 3 rfl) ?_
  refine x_cVI (As := []) hM cw_L_130 isM 12 0 E.M E.hK E.hZ hw hl.1 hsM hndM hrc rfl rfl ⟨by omega, by omega⟩ ⟨by omega, by omega⟩ rfl rfl (Nat.le_of_ble_eq_true rfl) dL_law_278 ?_
  intro r sgM hpM H locs hw
  obtain ⟨hend, hK⟩ := hag r sgM hpM
  refine lv_istore (lv' := [(6, .int r), (5, .int k), (0, .ref b), (1, .ref xo), (2, .ref mo), (3, .ref ot), (4, .int (nI i))]) hx hb dL_law_281 hl (by decide) rfl (fun ls hl => ?_)
  exact law_tail E dL_law_283 dL_law_284 dL_law_287 dL_law_289 dL_law_294 dL_law_296 dL_law_299 dL_law_300 dL_law_301 dL_law_302 dL_law_304 dL_law_305 dL_law_306 dL_law_311 (by decide) ⟨by omega, by omega⟩ hw hl hend hK
set_option maxHeartbeats 2000000 in
theorem case_about (E : LE p l R s m args c G Y A b L xs) {c1 : Int32} (h1 : xs (i + 1) = c1) (hi : i + 6 ≤ L) (hC : CtL l yL_about cL_about 4 [(0, 9, 12, 13)] fr lo [.ref xo, .int c1, .ref ot] segsC postC G Y) (hM : CtI l yX6_about cX6_about 5 .int fr2 lo2 [.ref mo, .int c1] segsM postM G Y) (hb4 : fr ≤ 500 ∧ lo ≤ 5000 ∧ fr2 ≤ 500 ∧ lo2 ≤ 5000) (hs : is.map (fun i => segs[i]?) = segsC.map some) (hnd : va_nd is = true) (hndM : va_nd isM = true) (hf : cells + 1 ≤ R.cells ∧ slots + 6 ≤ R.slots) (hw : xW G A s.heap segs H locs) (hl : lv_has ls 7 [(0, .ref b), (1, .ref xo), (2, .ref mo), (3, .ref ot), (4, .int (nI i))])
    (hag : ∀ k sgC, postC k sgC → isM.map (fun i => (xPut segs is sgC)[i]?) = segsM.map some ∧ (∃ fs, (xPut segs is sgC)[12]? = some [(mo, .inr (5, fs))]) ∧ ∀ r sgM, postM r sgM → lawEnd Y mo ot k r (xPut (xPut segs is sgC) isM sgM) ∧ ∀ H locs ls, xW G A s.heap (xPut (xPut segs is sgC) isM sgM) H locs → lv_has ls 7 [(0, .ref b), (1, .ref xo), (2, .ref mo), (3, .ref ot), (4, .int (nI i))] → W p l e R s m args below meth c H locs (cells + 1) (slots + 6) Q (F0 m 2113 ls [])) :
    W p l e R s m args below meth c H locs cells slots Q (F0 m 314 ls []) := by
  obtain ⟨hx, hb, -⟩ := id E.M
  have hRR := E.hR
  have hLL := E.hL
  refine lv_aload_n hx hb dL_law_314 rfl (lv_at hl 1 rfl) ?_
  refine lv_aload_n hx hb dL_law_315 rfl (lv_at hl 0 rfl) ?_
  refine lv_iload hx hb dL_law_316 (lv_at hl 4 rfl) ?_
  refine lv_iconst (v := nI 1) hx hb dL_law_318 (by decide) ?_
  refine x_iadd E.M (n := i + 1) dL_law_319 rfl ?_
  refine law_rd E (A1 := A) (k := i + 1) hw (by omega) h1 dL_law_320 ?_
  refine lv_aload_n hx hb dL_law_321 rfl (lv_at hl 3 rfl) ?_
  refine x_cSL (As := [.ref xo, .int c1, .ref ot]) hC cl_about is E.M E.hK E.hZ E.hN hw hl.1 hs hnd ⟨by omega, by omega⟩ ⟨by omega, by omega⟩ rfl rfl (Nat.le_of_ble_eq_true rfl) dL_law_322 ?_
  intro k sgC hpC H locs hw
  obtain ⟨hsM, ⟨fs, hrc⟩, hag⟩ := hag k sgC hpC
  refine lv_istore (lv' := [(5, .int k), (0, .ref b), (1, .ref xo), (2, .ref mo), (3, .ref ot), (4, .int (nI i))]) hx hb dL_law_325 hl (by decide) rfl (fun ls hl => ?_)
  refine lv_aload_n hx hb dL_law_327 rfl (lv_at hl 3 rfl) ?_
  refine lv_aload_n hx hb dL_law_328 rfl (lv_at hl 1 rfl) ?_
  refine lv_iload hx hb dL_law_329 (lv_at hl 5 rfl) ?_
  refine lv_iconst (v := nI 1) hx hb dL_law_331 (by decide) ?_
  refine x_iadd E.M (n := i + 1) dL_law_332 rfl ?_
  refine law_rd E (A1 := A) (k := i + 1) hw (by omega) h1 dL_law_333 ?_
  refine x_cVI (As := [.int c1]) hM cw_L_133 isM 12 0 E.M E.hK E.hZ hw hl.1 hsM hndM hrc rfl rfl ⟨by omega, by omega⟩ ⟨by omega, by omega⟩ rfl rfl (Nat.le_of_ble_eq_true rfl) dL_law_334 ?_
  intro r sgM hpM H locs hw
  obtain ⟨hend, hK⟩ := hag r sgM hpM
  refine lv_istore (lv' := [(6, .int r), (5, .int k), (0, .ref b), (1, .ref xo), (2, .ref mo), (3, .ref ot), (4, .int (nI i))]) hx hb dL_law_337 hl (by decide) rfl (fun ls hl => ?_)
  exact law_tail E dL_law_339 dL_law_340 dL_law_343 dL_law_345 dL_law_350 dL_law_352 dL_law_355 dL_law_356 dL_law_357 dL_law_358 dL_law_360 dL_law_361 dL_law_362 dL_law_367 (by decide) ⟨by omega, by omega⟩ hw hl hend hK
set_option maxHeartbeats 2000000 in
theorem case_kind (E : LE p l R s m args c G Y A b L xs) {c1 : Int32} {c2 : Int32} (h1 : xs (i + 1) = c1) (h2 : xs (i + 2) = c2) (hi : i + 6 ≤ L) (hC : CtL l yL_kind cL_kind 5 [(0, 10, 13, 28), (0, 10, 17, 13)] fr lo [.ref xo, .int c1, .int c2, .ref ot] segsC postC G Y) (hM : CtI l yX6_kind cX6_kind 3 .int fr2 lo2 [.ref mo, .int c1, .int c2] segsM postM G Y) (hb4 : fr ≤ 500 ∧ lo ≤ 5000 ∧ fr2 ≤ 500 ∧ lo2 ≤ 5000) (hs : is.map (fun i => segs[i]?) = segsC.map some) (hnd : va_nd is = true) (hndM : va_nd isM = true) (hf : cells + 1 ≤ R.cells ∧ slots + 6 ≤ R.slots) (hw : xW G A s.heap segs H locs) (hl : lv_has ls 7 [(0, .ref b), (1, .ref xo), (2, .ref mo), (3, .ref ot), (4, .int (nI i))])
    (hag : ∀ k sgC, postC k sgC → isM.map (fun i => (xPut segs is sgC)[i]?) = segsM.map some ∧ (∃ fs, (xPut segs is sgC)[12]? = some [(mo, .inr (5, fs))]) ∧ ∀ r sgM, postM r sgM → lawEnd Y mo ot k r (xPut (xPut segs is sgC) isM sgM) ∧ ∀ H locs ls, xW G A s.heap (xPut (xPut segs is sgC) isM sgM) H locs → lv_has ls 7 [(0, .ref b), (1, .ref xo), (2, .ref mo), (3, .ref ot), (4, .int (nI i))] → W p l e R s m args below meth c H locs (cells + 1) (slots + 6) Q (F0 m 2113 ls [])) :
    W p l e R s m args below meth c H locs cells slots Q (F0 m 370 ls []) := by
  obtain ⟨hx, hb, -⟩ := id E.M
  have hRR := E.hR
  have hLL := E.hL
  refine lv_aload_n hx hb dL_law_370 rfl (lv_at hl 1 rfl) ?_
  refine lv_aload_n hx hb dL_law_371 rfl (lv_at hl 0 rfl) ?_
  refine lv_iload hx hb dL_law_372 (lv_at hl 4 rfl) ?_
  refine lv_iconst (v := nI 1) hx hb dL_law_374 (by decide) ?_
  refine x_iadd E.M (n := i + 1) dL_law_375 rfl ?_
  refine law_rd E (A1 := A) (k := i + 1) hw (by omega) h1 dL_law_376 ?_
  refine lv_aload_n hx hb dL_law_377 rfl (lv_at hl 0 rfl) ?_
  refine lv_iload hx hb dL_law_378 (lv_at hl 4 rfl) ?_
  refine lv_iconst (v := nI 2) hx hb dL_law_380 (by decide) ?_
  refine x_iadd E.M (n := i + 2) dL_law_381 rfl ?_
  refine law_rd E (A1 := A) (k := i + 2) hw (by omega) h2 dL_law_382 ?_
  refine lv_aload_n hx hb dL_law_383 rfl (lv_at hl 3 rfl) ?_
  refine x_cSL (As := [.ref xo, .int c1, .int c2, .ref ot]) hC cl_kind is E.M E.hK E.hZ E.hN hw hl.1 hs hnd ⟨by omega, by omega⟩ ⟨by omega, by omega⟩ rfl rfl (Nat.le_of_ble_eq_true rfl) dL_law_384 ?_
  intro k sgC hpC H locs hw
  obtain ⟨hsM, ⟨fs, hrc⟩, hag⟩ := hag k sgC hpC
  refine lv_istore (lv' := [(5, .int k), (0, .ref b), (1, .ref xo), (2, .ref mo), (3, .ref ot), (4, .int (nI i))]) hx hb dL_law_387 hl (by decide) rfl (fun ls hl => ?_)
  refine lv_aload_n hx hb dL_law_389 rfl (lv_at hl 3 rfl) ?_
  refine lv_aload_n hx hb dL_law_390 rfl (lv_at hl 1 rfl) ?_
  refine lv_iload hx hb dL_law_391 (lv_at hl 5 rfl) ?_
  refine lv_iconst (v := nI 1) hx hb dL_law_393 (by decide) ?_
  refine x_iadd E.M (n := i + 1) dL_law_394 rfl ?_
  refine law_rd E (A1 := A) (k := i + 1) hw (by omega) h1 dL_law_395 ?_
  refine lv_aload_n hx hb dL_law_396 rfl (lv_at hl 1 rfl) ?_
  refine lv_iload hx hb dL_law_397 (lv_at hl 5 rfl) ?_
  refine lv_iconst (v := nI 2) hx hb dL_law_399 (by decide) ?_
  refine x_iadd E.M (n := i + 2) dL_law_400 rfl ?_
  refine law_rd E (A1 := A) (k := i + 2) hw (by omega) h2 dL_law_401 ?_
  refine x_cVI (As := [.int c1, .int c2]) hM cw_L_137 isM 12 0 E.M E.hK E.hZ hw hl.1 hsM hndM hrc rfl rfl ⟨by omega, by omega⟩ ⟨by omega, by omega⟩ rfl rfl (Nat.le_of_ble_eq_true rfl) dL_law_402 ?_
  intro r sgM hpM H locs hw
  obtain ⟨hend, hK⟩ := hag r sgM hpM
  refine lv_istore (lv' := [(6, .int r), (5, .int k), (0, .ref b), (1, .ref xo), (2, .ref mo), (3, .ref ot), (4, .int (nI i))]) hx hb dL_law_405 hl (by decide) rfl (fun ls hl => ?_)
  exact law_tail E dL_law_407 dL_law_408 dL_law_411 dL_law_413 dL_law_418 dL_law_420 dL_law_423 dL_law_424 dL_law_425 dL_law_426 dL_law_428 dL_law_429 dL_law_430 dL_law_435 (by decide) ⟨by omega, by omega⟩ hw hl hend hK
set_option maxHeartbeats 2000000 in
theorem case_bidder (E : LE p l R s m args c G Y A b L xs) {c1 : Int32} {c2 : Int32} (h1 : xs (i + 1) = c1) (h2 : xs (i + 2) = c2) (hi : i + 6 ≤ L) (hC : CtL l yL_bidder cL_bidder 5 [(0, 10, 13, 28), (0, 10, 17, 13)] fr lo [.ref xo, .int c1, .int c2, .ref ot] segsC postC G Y) (hM : CtI l yX6_bidder cX6_bidder 3 .int fr2 lo2 [.ref mo, .int c1, .int c2] segsM postM G Y) (hb4 : fr ≤ 500 ∧ lo ≤ 5000 ∧ fr2 ≤ 500 ∧ lo2 ≤ 5000) (hs : is.map (fun i => segs[i]?) = segsC.map some) (hnd : va_nd is = true) (hndM : va_nd isM = true) (hf : cells + 1 ≤ R.cells ∧ slots + 6 ≤ R.slots) (hw : xW G A s.heap segs H locs) (hl : lv_has ls 7 [(0, .ref b), (1, .ref xo), (2, .ref mo), (3, .ref ot), (4, .int (nI i))])
    (hag : ∀ k sgC, postC k sgC → isM.map (fun i => (xPut segs is sgC)[i]?) = segsM.map some ∧ (∃ fs, (xPut segs is sgC)[12]? = some [(mo, .inr (5, fs))]) ∧ ∀ r sgM, postM r sgM → lawEnd Y mo ot k r (xPut (xPut segs is sgC) isM sgM) ∧ ∀ H locs ls, xW G A s.heap (xPut (xPut segs is sgC) isM sgM) H locs → lv_has ls 7 [(0, .ref b), (1, .ref xo), (2, .ref mo), (3, .ref ot), (4, .int (nI i))] → W p l e R s m args below meth c H locs (cells + 1) (slots + 6) Q (F0 m 2113 ls [])) :
    W p l e R s m args below meth c H locs cells slots Q (F0 m 438 ls []) := by
  obtain ⟨hx, hb, -⟩ := id E.M
  have hRR := E.hR
  have hLL := E.hL
  refine lv_aload_n hx hb dL_law_438 rfl (lv_at hl 1 rfl) ?_
  refine lv_aload_n hx hb dL_law_439 rfl (lv_at hl 0 rfl) ?_
  refine lv_iload hx hb dL_law_440 (lv_at hl 4 rfl) ?_
  refine lv_iconst (v := nI 1) hx hb dL_law_442 (by decide) ?_
  refine x_iadd E.M (n := i + 1) dL_law_443 rfl ?_
  refine law_rd E (A1 := A) (k := i + 1) hw (by omega) h1 dL_law_444 ?_
  refine lv_aload_n hx hb dL_law_445 rfl (lv_at hl 0 rfl) ?_
  refine lv_iload hx hb dL_law_446 (lv_at hl 4 rfl) ?_
  refine lv_iconst (v := nI 2) hx hb dL_law_448 (by decide) ?_
  refine x_iadd E.M (n := i + 2) dL_law_449 rfl ?_
  refine law_rd E (A1 := A) (k := i + 2) hw (by omega) h2 dL_law_450 ?_
  refine lv_aload_n hx hb dL_law_451 rfl (lv_at hl 3 rfl) ?_
  refine x_cSL (As := [.ref xo, .int c1, .int c2, .ref ot]) hC cl_bidder is E.M E.hK E.hZ E.hN hw hl.1 hs hnd ⟨by omega, by omega⟩ ⟨by omega, by omega⟩ rfl rfl (Nat.le_of_ble_eq_true rfl) dL_law_452 ?_
  intro k sgC hpC H locs hw
  obtain ⟨hsM, ⟨fs, hrc⟩, hag⟩ := hag k sgC hpC
  refine lv_istore (lv' := [(5, .int k), (0, .ref b), (1, .ref xo), (2, .ref mo), (3, .ref ot), (4, .int (nI i))]) hx hb dL_law_455 hl (by decide) rfl (fun ls hl => ?_)
  refine lv_aload_n hx hb dL_law_457 rfl (lv_at hl 3 rfl) ?_
  refine lv_aload_n hx hb dL_law_458 rfl (lv_at hl 1 rfl) ?_
  refine lv_iload hx hb dL_law_459 (lv_at hl 5 rfl) ?_
  refine lv_iconst (v := nI 1) hx hb dL_law_461 (by decide) ?_
  refine x_iadd E.M (n := i + 1) dL_law_462 rfl ?_
  refine law_rd E (A1 := A) (k := i + 1) hw (by omega) h1 dL_law_463 ?_
  refine lv_aload_n hx hb dL_law_464 rfl (lv_at hl 1 rfl) ?_
  refine lv_iload hx hb dL_law_465 (lv_at hl 5 rfl) ?_
  refine lv_iconst (v := nI 2) hx hb dL_law_467 (by decide) ?_
  refine x_iadd E.M (n := i + 2) dL_law_468 rfl ?_
  refine law_rd E (A1 := A) (k := i + 2) hw (by omega) h2 dL_law_469 ?_
  refine x_cVI (As := [.int c1, .int c2]) hM cw_L_140 isM 12 0 E.M E.hK E.hZ hw hl.1 hsM hndM hrc rfl rfl ⟨by omega, by omega⟩ ⟨by omega, by omega⟩ rfl rfl (Nat.le_of_ble_eq_true rfl) dL_law_470 ?_
  intro r sgM hpM H locs hw
  obtain ⟨hend, hK⟩ := hag r sgM hpM
  refine lv_istore (lv' := [(6, .int r), (5, .int k), (0, .ref b), (1, .ref xo), (2, .ref mo), (3, .ref ot), (4, .int (nI i))]) hx hb dL_law_473 hl (by decide) rfl (fun ls hl => ?_)
  exact law_tail E dL_law_475 dL_law_476 dL_law_479 dL_law_481 dL_law_486 dL_law_488 dL_law_491 dL_law_492 dL_law_493 dL_law_494 dL_law_496 dL_law_497 dL_law_498 dL_law_503 (by decide) ⟨by omega, by omega⟩ hw hl hend hK
set_option maxHeartbeats 2000000 in
theorem case_demand (E : LE p l R s m args c G Y A b L xs) {c1 : Int32} {c2 : Int32} (h1 : xs (i + 1) = c1) (h2 : xs (i + 2) = c2) (hi : i + 6 ≤ L) (hC : CtL l yL_demand cL_demand 5 [(0, 10, 13, 28)] fr lo [.ref xo, .int c1, .int c2, .ref ot] segsC postC G Y) (hM : CtI l yX6_demand cX6_demand 3 .int fr2 lo2 [.ref mo, .int c1, .int c2] segsM postM G Y) (hb4 : fr ≤ 500 ∧ lo ≤ 5000 ∧ fr2 ≤ 500 ∧ lo2 ≤ 5000) (hs : is.map (fun i => segs[i]?) = segsC.map some) (hnd : va_nd is = true) (hndM : va_nd isM = true) (hf : cells + 1 ≤ R.cells ∧ slots + 6 ≤ R.slots) (hw : xW G A s.heap segs H locs) (hl : lv_has ls 7 [(0, .ref b), (1, .ref xo), (2, .ref mo), (3, .ref ot), (4, .int (nI i))])
    (hag : ∀ k sgC, postC k sgC → isM.map (fun i => (xPut segs is sgC)[i]?) = segsM.map some ∧ (∃ fs, (xPut segs is sgC)[12]? = some [(mo, .inr (5, fs))]) ∧ ∀ r sgM, postM r sgM → lawEnd Y mo ot k r (xPut (xPut segs is sgC) isM sgM) ∧ ∀ H locs ls, xW G A s.heap (xPut (xPut segs is sgC) isM sgM) H locs → lv_has ls 7 [(0, .ref b), (1, .ref xo), (2, .ref mo), (3, .ref ot), (4, .int (nI i))] → W p l e R s m args below meth c H locs (cells + 1) (slots + 6) Q (F0 m 2113 ls [])) :
    W p l e R s m args below meth c H locs cells slots Q (F0 m 506 ls []) := by
  obtain ⟨hx, hb, -⟩ := id E.M
  have hRR := E.hR
  have hLL := E.hL
  refine lv_aload_n hx hb dL_law_506 rfl (lv_at hl 1 rfl) ?_
  refine lv_aload_n hx hb dL_law_507 rfl (lv_at hl 0 rfl) ?_
  refine lv_iload hx hb dL_law_508 (lv_at hl 4 rfl) ?_
  refine lv_iconst (v := nI 1) hx hb dL_law_510 (by decide) ?_
  refine x_iadd E.M (n := i + 1) dL_law_511 rfl ?_
  refine law_rd E (A1 := A) (k := i + 1) hw (by omega) h1 dL_law_512 ?_
  refine lv_aload_n hx hb dL_law_513 rfl (lv_at hl 0 rfl) ?_
  refine lv_iload hx hb dL_law_514 (lv_at hl 4 rfl) ?_
  refine lv_iconst (v := nI 2) hx hb dL_law_516 (by decide) ?_
  refine x_iadd E.M (n := i + 2) dL_law_517 rfl ?_
  refine law_rd E (A1 := A) (k := i + 2) hw (by omega) h2 dL_law_518 ?_
  refine lv_aload_n hx hb dL_law_519 rfl (lv_at hl 3 rfl) ?_
  refine x_cSL (As := [.ref xo, .int c1, .int c2, .ref ot]) hC cl_demand is E.M E.hK E.hZ E.hN hw hl.1 hs hnd ⟨by omega, by omega⟩ ⟨by omega, by omega⟩ rfl rfl (Nat.le_of_ble_eq_true rfl) dL_law_520 ?_
  intro k sgC hpC H locs hw
  obtain ⟨hsM, ⟨fs, hrc⟩, hag⟩ := hag k sgC hpC
  refine lv_istore (lv' := [(5, .int k), (0, .ref b), (1, .ref xo), (2, .ref mo), (3, .ref ot), (4, .int (nI i))]) hx hb dL_law_523 hl (by decide) rfl (fun ls hl => ?_)
  refine lv_aload_n hx hb dL_law_525 rfl (lv_at hl 3 rfl) ?_
  refine lv_aload_n hx hb dL_law_526 rfl (lv_at hl 1 rfl) ?_
  refine lv_iload hx hb dL_law_527 (lv_at hl 5 rfl) ?_
  refine lv_iconst (v := nI 1) hx hb dL_law_529 (by decide) ?_
  refine x_iadd E.M (n := i + 1) dL_law_530 rfl ?_
  refine law_rd E (A1 := A) (k := i + 1) hw (by omega) h1 dL_law_531 ?_
  refine lv_aload_n hx hb dL_law_532 rfl (lv_at hl 1 rfl) ?_
  refine lv_iload hx hb dL_law_533 (lv_at hl 5 rfl) ?_
  refine lv_iconst (v := nI 2) hx hb dL_law_535 (by decide) ?_
  refine x_iadd E.M (n := i + 2) dL_law_536 rfl ?_
  refine law_rd E (A1 := A) (k := i + 2) hw (by omega) h2 dL_law_537 ?_
  refine x_cVI (As := [.int c1, .int c2]) hM cw_L_143 isM 12 0 E.M E.hK E.hZ hw hl.1 hsM hndM hrc rfl rfl ⟨by omega, by omega⟩ ⟨by omega, by omega⟩ rfl rfl (Nat.le_of_ble_eq_true rfl) dL_law_538 ?_
  intro r sgM hpM H locs hw
  obtain ⟨hend, hK⟩ := hag r sgM hpM
  refine lv_istore (lv' := [(6, .int r), (5, .int k), (0, .ref b), (1, .ref xo), (2, .ref mo), (3, .ref ot), (4, .int (nI i))]) hx hb dL_law_541 hl (by decide) rfl (fun ls hl => ?_)
  exact law_tail E dL_law_543 dL_law_544 dL_law_547 dL_law_549 dL_law_554 dL_law_556 dL_law_559 dL_law_560 dL_law_561 dL_law_562 dL_law_564 dL_law_565 dL_law_566 dL_law_571 (by decide) ⟨by omega, by omega⟩ hw hl hend hK
set_option maxHeartbeats 2000000 in
theorem case_pack (E : LE p l R s m args c G Y A b L xs) {c1 : Int32} {c2 : Int32} {c3 : Int32} (h1 : xs (i + 1) = c1) (h2 : xs (i + 2) = c2) (h3 : xs (i + 3) = c3) (hi : i + 6 ≤ L) (hC : CtL l yL_pack cL_pack 6 [(0, 12, 15, 28), (0, 12, 19, 13)] fr lo [.ref xo, .int c1, .int c2, .int c3, .ref ot] segsC postC G Y) (hM : CtI l yX6_pack cX6_pack 4 .int fr2 lo2 [.ref mo, .int c1, .int c2, .int c3] segsM postM G Y) (hb4 : fr ≤ 500 ∧ lo ≤ 5000 ∧ fr2 ≤ 500 ∧ lo2 ≤ 5000) (hs : is.map (fun i => segs[i]?) = segsC.map some) (hnd : va_nd is = true) (hndM : va_nd isM = true) (hf : cells + 1 ≤ R.cells ∧ slots + 6 ≤ R.slots) (hw : xW G A s.heap segs H locs) (hl : lv_has ls 7 [(0, .ref b), (1, .ref xo), (2, .ref mo), (3, .ref ot), (4, .int (nI i))])
    (hag : ∀ k sgC, postC k sgC → isM.map (fun i => (xPut segs is sgC)[i]?) = segsM.map some ∧ (∃ fs, (xPut segs is sgC)[12]? = some [(mo, .inr (5, fs))]) ∧ ∀ r sgM, postM r sgM → lawEnd Y mo ot k r (xPut (xPut segs is sgC) isM sgM) ∧ ∀ H locs ls, xW G A s.heap (xPut (xPut segs is sgC) isM sgM) H locs → lv_has ls 7 [(0, .ref b), (1, .ref xo), (2, .ref mo), (3, .ref ot), (4, .int (nI i))] → W p l e R s m args below meth c H locs (cells + 1) (slots + 6) Q (F0 m 2113 ls [])) :
    W p l e R s m args below meth c H locs cells slots Q (F0 m 574 ls []) := by
  obtain ⟨hx, hb, -⟩ := id E.M
  have hRR := E.hR
  have hLL := E.hL
  refine lv_aload_n hx hb dL_law_574 rfl (lv_at hl 1 rfl) ?_
  refine lv_aload_n hx hb dL_law_575 rfl (lv_at hl 0 rfl) ?_
  refine lv_iload hx hb dL_law_576 (lv_at hl 4 rfl) ?_
  refine lv_iconst (v := nI 1) hx hb dL_law_578 (by decide) ?_
  refine x_iadd E.M (n := i + 1) dL_law_579 rfl ?_
  refine law_rd E (A1 := A) (k := i + 1) hw (by omega) h1 dL_law_580 ?_
  refine lv_aload_n hx hb dL_law_581 rfl (lv_at hl 0 rfl) ?_
  refine lv_iload hx hb dL_law_582 (lv_at hl 4 rfl) ?_
  refine lv_iconst (v := nI 2) hx hb dL_law_584 (by decide) ?_
  refine x_iadd E.M (n := i + 2) dL_law_585 rfl ?_
  refine law_rd E (A1 := A) (k := i + 2) hw (by omega) h2 dL_law_586 ?_
  refine lv_aload_n hx hb dL_law_587 rfl (lv_at hl 0 rfl) ?_
  refine lv_iload hx hb dL_law_588 (lv_at hl 4 rfl) ?_
  refine lv_iconst (v := nI 3) hx hb dL_law_590 (by decide) ?_
  refine x_iadd E.M (n := i + 3) dL_law_591 rfl ?_
  refine law_rd E (A1 := A) (k := i + 3) hw (by omega) h3 dL_law_592 ?_
  refine lv_aload_n hx hb dL_law_593 rfl (lv_at hl 3 rfl) ?_
  refine x_cSL (As := [.ref xo, .int c1, .int c2, .int c3, .ref ot]) hC cl_pack is E.M E.hK E.hZ E.hN hw hl.1 hs hnd ⟨by omega, by omega⟩ ⟨by omega, by omega⟩ rfl rfl (Nat.le_of_ble_eq_true rfl) dL_law_594 ?_
  intro k sgC hpC H locs hw
  obtain ⟨hsM, ⟨fs, hrc⟩, hag⟩ := hag k sgC hpC
  refine lv_istore (lv' := [(5, .int k), (0, .ref b), (1, .ref xo), (2, .ref mo), (3, .ref ot), (4, .int (nI i))]) hx hb dL_law_597 hl (by decide) rfl (fun ls hl => ?_)
  refine lv_aload_n hx hb dL_law_599 rfl (lv_at hl 3 rfl) ?_
  refine lv_aload_n hx hb dL_law_600 rfl (lv_at hl 1 rfl) ?_
  refine lv_iload hx hb dL_law_601 (lv_at hl 5 rfl) ?_
  refine lv_iconst (v := nI 1) hx hb dL_law_603 (by decide) ?_
  refine x_iadd E.M (n := i + 1) dL_law_604 rfl ?_
  refine law_rd E (A1 := A) (k := i + 1) hw (by omega) h1 dL_law_605 ?_
  refine lv_aload_n hx hb dL_law_606 rfl (lv_at hl 1 rfl) ?_
  refine lv_iload hx hb dL_law_607 (lv_at hl 5 rfl) ?_
  refine lv_iconst (v := nI 2) hx hb dL_law_609 (by decide) ?_
  refine x_iadd E.M (n := i + 2) dL_law_610 rfl ?_
  refine law_rd E (A1 := A) (k := i + 2) hw (by omega) h2 dL_law_611 ?_
  refine lv_aload_n hx hb dL_law_612 rfl (lv_at hl 1 rfl) ?_
  refine lv_iload hx hb dL_law_613 (lv_at hl 5 rfl) ?_
  refine lv_iconst (v := nI 3) hx hb dL_law_615 (by decide) ?_
  refine x_iadd E.M (n := i + 3) dL_law_616 rfl ?_
  refine law_rd E (A1 := A) (k := i + 3) hw (by omega) h3 dL_law_617 ?_
  refine x_cVI (As := [.int c1, .int c2, .int c3]) hM cw_L_147 isM 12 0 E.M E.hK E.hZ hw hl.1 hsM hndM hrc rfl rfl ⟨by omega, by omega⟩ ⟨by omega, by omega⟩ rfl rfl (Nat.le_of_ble_eq_true rfl) dL_law_618 ?_
  intro r sgM hpM H locs hw
  obtain ⟨hend, hK⟩ := hag r sgM hpM
  refine lv_istore (lv' := [(6, .int r), (5, .int k), (0, .ref b), (1, .ref xo), (2, .ref mo), (3, .ref ot), (4, .int (nI i))]) hx hb dL_law_621 hl (by decide) rfl (fun ls hl => ?_)
  exact law_tail E dL_law_623 dL_law_624 dL_law_627 dL_law_629 dL_law_634 dL_law_636 dL_law_639 dL_law_640 dL_law_641 dL_law_642 dL_law_644 dL_law_645 dL_law_646 dL_law_651 (by decide) ⟨by omega, by omega⟩ hw hl hend hK
set_option maxHeartbeats 2000000 in
theorem case_setting (E : LE p l R s m args c G Y A b L xs) {c1 : Int32} (h1 : xs (i + 1) = c1) (hi : i + 6 ≤ L) (hC : CtL l yL_setting cL_setting 4 [(0, 9, 12, 13)] fr lo [.ref xo, .int c1, .ref ot] segsC postC G Y) (hM : CtI l yX6_setting cX6_setting 2 .int fr2 lo2 [.ref mo, .int c1] segsM postM G Y) (hb4 : fr ≤ 500 ∧ lo ≤ 5000 ∧ fr2 ≤ 500 ∧ lo2 ≤ 5000) (hs : is.map (fun i => segs[i]?) = segsC.map some) (hnd : va_nd is = true) (hndM : va_nd isM = true) (hf : cells + 1 ≤ R.cells ∧ slots + 6 ≤ R.slots) (hw : xW G A s.heap segs H locs) (hl : lv_has ls 7 [(0, .ref b), (1, .ref xo), (2, .ref mo), (3, .ref ot), (4, .int (nI i))])
    (hag : ∀ k sgC, postC k sgC → isM.map (fun i => (xPut segs is sgC)[i]?) = segsM.map some ∧ (∃ fs, (xPut segs is sgC)[12]? = some [(mo, .inr (5, fs))]) ∧ ∀ r sgM, postM r sgM → lawEnd Y mo ot k r (xPut (xPut segs is sgC) isM sgM) ∧ ∀ H locs ls, xW G A s.heap (xPut (xPut segs is sgC) isM sgM) H locs → lv_has ls 7 [(0, .ref b), (1, .ref xo), (2, .ref mo), (3, .ref ot), (4, .int (nI i))] → W p l e R s m args below meth c H locs (cells + 1) (slots + 6) Q (F0 m 2113 ls [])) :
    W p l e R s m args below meth c H locs cells slots Q (F0 m 654 ls []) := by
  obtain ⟨hx, hb, -⟩ := id E.M
  have hRR := E.hR
  have hLL := E.hL
  refine lv_aload_n hx hb dL_law_654 rfl (lv_at hl 1 rfl) ?_
  refine lv_aload_n hx hb dL_law_655 rfl (lv_at hl 0 rfl) ?_
  refine lv_iload hx hb dL_law_656 (lv_at hl 4 rfl) ?_
  refine lv_iconst (v := nI 1) hx hb dL_law_658 (by decide) ?_
  refine x_iadd E.M (n := i + 1) dL_law_659 rfl ?_
  refine law_rd E (A1 := A) (k := i + 1) hw (by omega) h1 dL_law_660 ?_
  refine lv_aload_n hx hb dL_law_661 rfl (lv_at hl 3 rfl) ?_
  refine x_cSL (As := [.ref xo, .int c1, .ref ot]) hC cl_setting is E.M E.hK E.hZ E.hN hw hl.1 hs hnd ⟨by omega, by omega⟩ ⟨by omega, by omega⟩ rfl rfl (Nat.le_of_ble_eq_true rfl) dL_law_662 ?_
  intro k sgC hpC H locs hw
  obtain ⟨hsM, ⟨fs, hrc⟩, hag⟩ := hag k sgC hpC
  refine lv_istore (lv' := [(5, .int k), (0, .ref b), (1, .ref xo), (2, .ref mo), (3, .ref ot), (4, .int (nI i))]) hx hb dL_law_665 hl (by decide) rfl (fun ls hl => ?_)
  refine lv_aload_n hx hb dL_law_667 rfl (lv_at hl 3 rfl) ?_
  refine lv_aload_n hx hb dL_law_668 rfl (lv_at hl 1 rfl) ?_
  refine lv_iload hx hb dL_law_669 (lv_at hl 5 rfl) ?_
  refine lv_iconst (v := nI 1) hx hb dL_law_671 (by decide) ?_
  refine x_iadd E.M (n := i + 1) dL_law_672 rfl ?_
  refine law_rd E (A1 := A) (k := i + 1) hw (by omega) h1 dL_law_673 ?_
  refine x_cVI (As := [.int c1]) hM cw_L_150 isM 12 0 E.M E.hK E.hZ hw hl.1 hsM hndM hrc rfl rfl ⟨by omega, by omega⟩ ⟨by omega, by omega⟩ rfl rfl (Nat.le_of_ble_eq_true rfl) dL_law_674 ?_
  intro r sgM hpM H locs hw
  obtain ⟨hend, hK⟩ := hag r sgM hpM
  refine lv_istore (lv' := [(6, .int r), (5, .int k), (0, .ref b), (1, .ref xo), (2, .ref mo), (3, .ref ot), (4, .int (nI i))]) hx hb dL_law_677 hl (by decide) rfl (fun ls hl => ?_)
  exact law_tail E dL_law_679 dL_law_680 dL_law_683 dL_law_685 dL_law_690 dL_law_692 dL_law_695 dL_law_696 dL_law_697 dL_law_698 dL_law_700 dL_law_701 dL_law_702 dL_law_707 (by decide) ⟨by omega, by omega⟩ hw hl hend hK
set_option maxHeartbeats 2000000 in
theorem case_offer (E : LE p l R s m args c G Y A b L xs) {c1 : Int32} {c2 : Int32} {c3 : Int32} (h1 : xs (i + 1) = c1) (h2 : xs (i + 2) = c2) (h3 : xs (i + 3) = c3) (hi : i + 6 ≤ L) (hC : CtL l yL_offer cL_offer 6 [(0, 12, 15, 28), (0, 12, 19, 13), (0, 12, 23, 15)] fr lo [.ref xo, .int c1, .int c2, .int c3, .ref ot] segsC postC G Y) (hM : CtI l yX6_offer cX6_offer 5 .int fr2 lo2 [.ref mo, .int c1, .int c2, .int c3] segsM postM G Y) (hb4 : fr ≤ 500 ∧ lo ≤ 5000 ∧ fr2 ≤ 500 ∧ lo2 ≤ 5000) (hs : is.map (fun i => segs[i]?) = segsC.map some) (hnd : va_nd is = true) (hndM : va_nd isM = true) (hf : cells + 1 ≤ R.cells ∧ slots + 6 ≤ R.slots) (hw : xW G A s.heap segs H locs) (hl : lv_has ls 7 [(0, .ref b), (1, .ref xo), (2, .ref mo), (3, .ref ot), (4, .int (nI i))])
    (hag : ∀ k sgC, postC k sgC → isM.map (fun i => (xPut segs is sgC)[i]?) = segsM.map some ∧ (∃ fs, (xPut segs is sgC)[12]? = some [(mo, .inr (5, fs))]) ∧ ∀ r sgM, postM r sgM → lawEnd Y mo ot k r (xPut (xPut segs is sgC) isM sgM) ∧ ∀ H locs ls, xW G A s.heap (xPut (xPut segs is sgC) isM sgM) H locs → lv_has ls 7 [(0, .ref b), (1, .ref xo), (2, .ref mo), (3, .ref ot), (4, .int (nI i))] → W p l e R s m args below meth c H locs (cells + 1) (slots + 6) Q (F0 m 2113 ls [])) :
    W p l e R s m args below meth c H locs cells slots Q (F0 m 710 ls []) := by
  obtain ⟨hx, hb, -⟩ := id E.M
  have hRR := E.hR
  have hLL := E.hL
  refine lv_aload_n hx hb dL_law_710 rfl (lv_at hl 1 rfl) ?_
  refine lv_aload_n hx hb dL_law_711 rfl (lv_at hl 0 rfl) ?_
  refine lv_iload hx hb dL_law_712 (lv_at hl 4 rfl) ?_
  refine lv_iconst (v := nI 1) hx hb dL_law_714 (by decide) ?_
  refine x_iadd E.M (n := i + 1) dL_law_715 rfl ?_
  refine law_rd E (A1 := A) (k := i + 1) hw (by omega) h1 dL_law_716 ?_
  refine lv_aload_n hx hb dL_law_717 rfl (lv_at hl 0 rfl) ?_
  refine lv_iload hx hb dL_law_718 (lv_at hl 4 rfl) ?_
  refine lv_iconst (v := nI 2) hx hb dL_law_720 (by decide) ?_
  refine x_iadd E.M (n := i + 2) dL_law_721 rfl ?_
  refine law_rd E (A1 := A) (k := i + 2) hw (by omega) h2 dL_law_722 ?_
  refine lv_aload_n hx hb dL_law_723 rfl (lv_at hl 0 rfl) ?_
  refine lv_iload hx hb dL_law_724 (lv_at hl 4 rfl) ?_
  refine lv_iconst (v := nI 3) hx hb dL_law_726 (by decide) ?_
  refine x_iadd E.M (n := i + 3) dL_law_727 rfl ?_
  refine law_rd E (A1 := A) (k := i + 3) hw (by omega) h3 dL_law_728 ?_
  refine lv_aload_n hx hb dL_law_729 rfl (lv_at hl 3 rfl) ?_
  refine x_cSL (As := [.ref xo, .int c1, .int c2, .int c3, .ref ot]) hC cl_offer is E.M E.hK E.hZ E.hN hw hl.1 hs hnd ⟨by omega, by omega⟩ ⟨by omega, by omega⟩ rfl rfl (Nat.le_of_ble_eq_true rfl) dL_law_730 ?_
  intro k sgC hpC H locs hw
  obtain ⟨hsM, ⟨fs, hrc⟩, hag⟩ := hag k sgC hpC
  refine lv_istore (lv' := [(5, .int k), (0, .ref b), (1, .ref xo), (2, .ref mo), (3, .ref ot), (4, .int (nI i))]) hx hb dL_law_733 hl (by decide) rfl (fun ls hl => ?_)
  refine lv_aload_n hx hb dL_law_735 rfl (lv_at hl 3 rfl) ?_
  refine lv_aload_n hx hb dL_law_736 rfl (lv_at hl 1 rfl) ?_
  refine lv_iload hx hb dL_law_737 (lv_at hl 5 rfl) ?_
  refine lv_iconst (v := nI 1) hx hb dL_law_739 (by decide) ?_
  refine x_iadd E.M (n := i + 1) dL_law_740 rfl ?_
  refine law_rd E (A1 := A) (k := i + 1) hw (by omega) h1 dL_law_741 ?_
  refine lv_aload_n hx hb dL_law_742 rfl (lv_at hl 1 rfl) ?_
  refine lv_iload hx hb dL_law_743 (lv_at hl 5 rfl) ?_
  refine lv_iconst (v := nI 2) hx hb dL_law_745 (by decide) ?_
  refine x_iadd E.M (n := i + 2) dL_law_746 rfl ?_
  refine law_rd E (A1 := A) (k := i + 2) hw (by omega) h2 dL_law_747 ?_
  refine lv_aload_n hx hb dL_law_748 rfl (lv_at hl 1 rfl) ?_
  refine lv_iload hx hb dL_law_749 (lv_at hl 5 rfl) ?_
  refine lv_iconst (v := nI 3) hx hb dL_law_751 (by decide) ?_
  refine x_iadd E.M (n := i + 3) dL_law_752 rfl ?_
  refine law_rd E (A1 := A) (k := i + 3) hw (by omega) h3 dL_law_753 ?_
  refine x_cVI (As := [.int c1, .int c2, .int c3]) hM cw_L_153 isM 12 0 E.M E.hK E.hZ hw hl.1 hsM hndM hrc rfl rfl ⟨by omega, by omega⟩ ⟨by omega, by omega⟩ rfl rfl (Nat.le_of_ble_eq_true rfl) dL_law_754 ?_
  intro r sgM hpM H locs hw
  obtain ⟨hend, hK⟩ := hag r sgM hpM
  refine lv_istore (lv' := [(6, .int r), (5, .int k), (0, .ref b), (1, .ref xo), (2, .ref mo), (3, .ref ot), (4, .int (nI i))]) hx hb dL_law_757 hl (by decide) rfl (fun ls hl => ?_)
  exact law_tail E dL_law_759 dL_law_760 dL_law_763 dL_law_765 dL_law_770 dL_law_772 dL_law_775 dL_law_776 dL_law_777 dL_law_778 dL_law_780 dL_law_781 dL_law_782 dL_law_787 (by decide) ⟨by omega, by omega⟩ hw hl hend hK
set_option maxHeartbeats 2000000 in
theorem case_price (E : LE p l R s m args c G Y A b L xs) {c1 : Int32} {c2 : Int32} (h1 : xs (i + 1) = c1) (h2 : xs (i + 2) = c2) (hi : i + 6 ≤ L) (hC : CtL l yL_price cL_price 5 [(0, 10, 13, 28), (0, 10, 17, 13), (0, 10, 21, 15)] fr lo [.ref xo, .int c1, .int c2, .ref ot] segsC postC G Y) (hM : CtI l yX6_price cX6_price 4 .int fr2 lo2 [.ref mo, .int c1, .int c2] segsM postM G Y) (hb4 : fr ≤ 500 ∧ lo ≤ 5000 ∧ fr2 ≤ 500 ∧ lo2 ≤ 5000) (hs : is.map (fun i => segs[i]?) = segsC.map some) (hnd : va_nd is = true) (hndM : va_nd isM = true) (hf : cells + 1 ≤ R.cells ∧ slots + 6 ≤ R.slots) (hw : xW G A s.heap segs H locs) (hl : lv_has ls 7 [(0, .ref b), (1, .ref xo), (2, .ref mo), (3, .ref ot), (4, .int (nI i))])
    (hag : ∀ k sgC, postC k sgC → isM.map (fun i => (xPut segs is sgC)[i]?) = segsM.map some ∧ (∃ fs, (xPut segs is sgC)[12]? = some [(mo, .inr (5, fs))]) ∧ ∀ r sgM, postM r sgM → lawEnd Y mo ot k r (xPut (xPut segs is sgC) isM sgM) ∧ ∀ H locs ls, xW G A s.heap (xPut (xPut segs is sgC) isM sgM) H locs → lv_has ls 7 [(0, .ref b), (1, .ref xo), (2, .ref mo), (3, .ref ot), (4, .int (nI i))] → W p l e R s m args below meth c H locs (cells + 1) (slots + 6) Q (F0 m 2113 ls [])) :
    W p l e R s m args below meth c H locs cells slots Q (F0 m 790 ls []) := by
  obtain ⟨hx, hb, -⟩ := id E.M
  have hRR := E.hR
  have hLL := E.hL
  refine lv_aload_n hx hb dL_law_790 rfl (lv_at hl 1 rfl) ?_
  refine lv_aload_n hx hb dL_law_791 rfl (lv_at hl 0 rfl) ?_
  refine lv_iload hx hb dL_law_792 (lv_at hl 4 rfl) ?_
  refine lv_iconst (v := nI 1) hx hb dL_law_794 (by decide) ?_
  refine x_iadd E.M (n := i + 1) dL_law_795 rfl ?_
  refine law_rd E (A1 := A) (k := i + 1) hw (by omega) h1 dL_law_796 ?_
  refine lv_aload_n hx hb dL_law_797 rfl (lv_at hl 0 rfl) ?_
  refine lv_iload hx hb dL_law_798 (lv_at hl 4 rfl) ?_
  refine lv_iconst (v := nI 2) hx hb dL_law_800 (by decide) ?_
  refine x_iadd E.M (n := i + 2) dL_law_801 rfl ?_
  refine law_rd E (A1 := A) (k := i + 2) hw (by omega) h2 dL_law_802 ?_
  refine lv_aload_n hx hb dL_law_803 rfl (lv_at hl 3 rfl) ?_
  refine x_cSL (As := [.ref xo, .int c1, .int c2, .ref ot]) hC cl_price is E.M E.hK E.hZ E.hN hw hl.1 hs hnd ⟨by omega, by omega⟩ ⟨by omega, by omega⟩ rfl rfl (Nat.le_of_ble_eq_true rfl) dL_law_804 ?_
  intro k sgC hpC H locs hw
  obtain ⟨hsM, ⟨fs, hrc⟩, hag⟩ := hag k sgC hpC
  refine lv_istore (lv' := [(5, .int k), (0, .ref b), (1, .ref xo), (2, .ref mo), (3, .ref ot), (4, .int (nI i))]) hx hb dL_law_807 hl (by decide) rfl (fun ls hl => ?_)
  refine lv_aload_n hx hb dL_law_809 rfl (lv_at hl 3 rfl) ?_
  refine lv_aload_n hx hb dL_law_810 rfl (lv_at hl 1 rfl) ?_
  refine lv_iload hx hb dL_law_811 (lv_at hl 5 rfl) ?_
  refine lv_iconst (v := nI 1) hx hb dL_law_813 (by decide) ?_
  refine x_iadd E.M (n := i + 1) dL_law_814 rfl ?_
  refine law_rd E (A1 := A) (k := i + 1) hw (by omega) h1 dL_law_815 ?_
  refine lv_aload_n hx hb dL_law_816 rfl (lv_at hl 1 rfl) ?_
  refine lv_iload hx hb dL_law_817 (lv_at hl 5 rfl) ?_
  refine lv_iconst (v := nI 2) hx hb dL_law_819 (by decide) ?_
  refine x_iadd E.M (n := i + 2) dL_law_820 rfl ?_
  refine law_rd E (A1 := A) (k := i + 2) hw (by omega) h2 dL_law_821 ?_
  refine x_cVI (As := [.int c1, .int c2]) hM cw_L_156 isM 12 0 E.M E.hK E.hZ hw hl.1 hsM hndM hrc rfl rfl ⟨by omega, by omega⟩ ⟨by omega, by omega⟩ rfl rfl (Nat.le_of_ble_eq_true rfl) dL_law_822 ?_
  intro r sgM hpM H locs hw
  obtain ⟨hend, hK⟩ := hag r sgM hpM
  refine lv_istore (lv' := [(6, .int r), (5, .int k), (0, .ref b), (1, .ref xo), (2, .ref mo), (3, .ref ot), (4, .int (nI i))]) hx hb dL_law_825 hl (by decide) rfl (fun ls hl => ?_)
  exact law_tail E dL_law_827 dL_law_828 dL_law_831 dL_law_833 dL_law_838 dL_law_840 dL_law_843 dL_law_844 dL_law_845 dL_law_846 dL_law_848 dL_law_849 dL_law_850 dL_law_855 (by decide) ⟨by omega, by omega⟩ hw hl hend hK
set_option maxHeartbeats 2000000 in
theorem case_join (E : LE p l R s m args c G Y A b L xs) {c1 : Int32} {c2 : Int32} (h1 : xs (i + 1) = c1) (h2 : xs (i + 2) = c2) (hi : i + 6 ≤ L) (hC : CtL l yL_join cL_join 5 [(0, 10, 13, 13), (0, 10, 17, 15)] fr lo [.ref xo, .int c1, .int c2, .ref ot] segsC postC G Y) (hM : CtI l yX6_join cX6_join 3 .int fr2 lo2 [.ref mo, .int c1, .int c2] segsM postM G Y) (hb4 : fr ≤ 500 ∧ lo ≤ 5000 ∧ fr2 ≤ 500 ∧ lo2 ≤ 5000) (hs : is.map (fun i => segs[i]?) = segsC.map some) (hnd : va_nd is = true) (hndM : va_nd isM = true) (hf : cells + 1 ≤ R.cells ∧ slots + 6 ≤ R.slots) (hw : xW G A s.heap segs H locs) (hl : lv_has ls 7 [(0, .ref b), (1, .ref xo), (2, .ref mo), (3, .ref ot), (4, .int (nI i))])
    (hag : ∀ k sgC, postC k sgC → isM.map (fun i => (xPut segs is sgC)[i]?) = segsM.map some ∧ (∃ fs, (xPut segs is sgC)[12]? = some [(mo, .inr (5, fs))]) ∧ ∀ r sgM, postM r sgM → lawEnd Y mo ot k r (xPut (xPut segs is sgC) isM sgM) ∧ ∀ H locs ls, xW G A s.heap (xPut (xPut segs is sgC) isM sgM) H locs → lv_has ls 7 [(0, .ref b), (1, .ref xo), (2, .ref mo), (3, .ref ot), (4, .int (nI i))] → W p l e R s m args below meth c H locs (cells + 1) (slots + 6) Q (F0 m 2113 ls [])) :
    W p l e R s m args below meth c H locs cells slots Q (F0 m 858 ls []) := by
  obtain ⟨hx, hb, -⟩ := id E.M
  have hRR := E.hR
  have hLL := E.hL
  refine lv_aload_n hx hb dL_law_858 rfl (lv_at hl 1 rfl) ?_
  refine lv_aload_n hx hb dL_law_859 rfl (lv_at hl 0 rfl) ?_
  refine lv_iload hx hb dL_law_860 (lv_at hl 4 rfl) ?_
  refine lv_iconst (v := nI 1) hx hb dL_law_862 (by decide) ?_
  refine x_iadd E.M (n := i + 1) dL_law_863 rfl ?_
  refine law_rd E (A1 := A) (k := i + 1) hw (by omega) h1 dL_law_864 ?_
  refine lv_aload_n hx hb dL_law_865 rfl (lv_at hl 0 rfl) ?_
  refine lv_iload hx hb dL_law_866 (lv_at hl 4 rfl) ?_
  refine lv_iconst (v := nI 2) hx hb dL_law_868 (by decide) ?_
  refine x_iadd E.M (n := i + 2) dL_law_869 rfl ?_
  refine law_rd E (A1 := A) (k := i + 2) hw (by omega) h2 dL_law_870 ?_
  refine lv_aload_n hx hb dL_law_871 rfl (lv_at hl 3 rfl) ?_
  refine x_cSL (As := [.ref xo, .int c1, .int c2, .ref ot]) hC cl_join is E.M E.hK E.hZ E.hN hw hl.1 hs hnd ⟨by omega, by omega⟩ ⟨by omega, by omega⟩ rfl rfl (Nat.le_of_ble_eq_true rfl) dL_law_872 ?_
  intro k sgC hpC H locs hw
  obtain ⟨hsM, ⟨fs, hrc⟩, hag⟩ := hag k sgC hpC
  refine lv_istore (lv' := [(5, .int k), (0, .ref b), (1, .ref xo), (2, .ref mo), (3, .ref ot), (4, .int (nI i))]) hx hb dL_law_875 hl (by decide) rfl (fun ls hl => ?_)
  refine lv_aload_n hx hb dL_law_877 rfl (lv_at hl 3 rfl) ?_
  refine lv_aload_n hx hb dL_law_878 rfl (lv_at hl 1 rfl) ?_
  refine lv_iload hx hb dL_law_879 (lv_at hl 5 rfl) ?_
  refine lv_iconst (v := nI 1) hx hb dL_law_881 (by decide) ?_
  refine x_iadd E.M (n := i + 1) dL_law_882 rfl ?_
  refine law_rd E (A1 := A) (k := i + 1) hw (by omega) h1 dL_law_883 ?_
  refine lv_aload_n hx hb dL_law_884 rfl (lv_at hl 1 rfl) ?_
  refine lv_iload hx hb dL_law_885 (lv_at hl 5 rfl) ?_
  refine lv_iconst (v := nI 2) hx hb dL_law_887 (by decide) ?_
  refine x_iadd E.M (n := i + 2) dL_law_888 rfl ?_
  refine law_rd E (A1 := A) (k := i + 2) hw (by omega) h2 dL_law_889 ?_
  refine x_cVI (As := [.int c1, .int c2]) hM cw_L_159 isM 12 0 E.M E.hK E.hZ hw hl.1 hsM hndM hrc rfl rfl ⟨by omega, by omega⟩ ⟨by omega, by omega⟩ rfl rfl (Nat.le_of_ble_eq_true rfl) dL_law_890 ?_
  intro r sgM hpM H locs hw
  obtain ⟨hend, hK⟩ := hag r sgM hpM
  refine lv_istore (lv' := [(6, .int r), (5, .int k), (0, .ref b), (1, .ref xo), (2, .ref mo), (3, .ref ot), (4, .int (nI i))]) hx hb dL_law_893 hl (by decide) rfl (fun ls hl => ?_)
  exact law_tail E dL_law_895 dL_law_896 dL_law_899 dL_law_901 dL_law_906 dL_law_908 dL_law_911 dL_law_912 dL_law_913 dL_law_914 dL_law_916 dL_law_917 dL_law_918 dL_law_923 (by decide) ⟨by omega, by omega⟩ hw hl hend hK
set_option maxHeartbeats 2000000 in
theorem case_value (E : LE p l R s m args c G Y A b L xs) {c1 : Int32} {c2 : Int32} {c3 : Int32} (h1 : xs (i + 1) = c1) (h2 : xs (i + 2) = c2) (h3 : xs (i + 3) = c3) (hi : i + 6 ≤ L) (hC : CtL l yL_value cL_value 6 [(0, 12, 15, 28), (0, 12, 19, 13)] fr lo [.ref xo, .int c1, .int c2, .int c3, .ref ot] segsC postC G Y) (hM : CtI l yX6_value cX6_value 4 .int fr2 lo2 [.ref mo, .int c1, .int c2, .int c3] segsM postM G Y) (hb4 : fr ≤ 500 ∧ lo ≤ 5000 ∧ fr2 ≤ 500 ∧ lo2 ≤ 5000) (hs : is.map (fun i => segs[i]?) = segsC.map some) (hnd : va_nd is = true) (hndM : va_nd isM = true) (hf : cells + 1 ≤ R.cells ∧ slots + 6 ≤ R.slots) (hw : xW G A s.heap segs H locs) (hl : lv_has ls 7 [(0, .ref b), (1, .ref xo), (2, .ref mo), (3, .ref ot), (4, .int (nI i))])
    (hag : ∀ k sgC, postC k sgC → isM.map (fun i => (xPut segs is sgC)[i]?) = segsM.map some ∧ (∃ fs, (xPut segs is sgC)[12]? = some [(mo, .inr (5, fs))]) ∧ ∀ r sgM, postM r sgM → lawEnd Y mo ot k r (xPut (xPut segs is sgC) isM sgM) ∧ ∀ H locs ls, xW G A s.heap (xPut (xPut segs is sgC) isM sgM) H locs → lv_has ls 7 [(0, .ref b), (1, .ref xo), (2, .ref mo), (3, .ref ot), (4, .int (nI i))] → W p l e R s m args below meth c H locs (cells + 1) (slots + 6) Q (F0 m 2113 ls [])) :
    W p l e R s m args below meth c H locs cells slots Q (F0 m 926 ls []) := by
  obtain ⟨hx, hb, -⟩ := id E.M
  have hRR := E.hR
  have hLL := E.hL
  refine lv_aload_n hx hb dL_law_926 rfl (lv_at hl 1 rfl) ?_
  refine lv_aload_n hx hb dL_law_927 rfl (lv_at hl 0 rfl) ?_
  refine lv_iload hx hb dL_law_928 (lv_at hl 4 rfl) ?_
  refine lv_iconst (v := nI 1) hx hb dL_law_930 (by decide) ?_
  refine x_iadd E.M (n := i + 1) dL_law_931 rfl ?_
  refine law_rd E (A1 := A) (k := i + 1) hw (by omega) h1 dL_law_932 ?_
  refine lv_aload_n hx hb dL_law_933 rfl (lv_at hl 0 rfl) ?_
  refine lv_iload hx hb dL_law_934 (lv_at hl 4 rfl) ?_
  refine lv_iconst (v := nI 2) hx hb dL_law_936 (by decide) ?_
  refine x_iadd E.M (n := i + 2) dL_law_937 rfl ?_
  refine law_rd E (A1 := A) (k := i + 2) hw (by omega) h2 dL_law_938 ?_
  refine lv_aload_n hx hb dL_law_939 rfl (lv_at hl 0 rfl) ?_
  refine lv_iload hx hb dL_law_940 (lv_at hl 4 rfl) ?_
  refine lv_iconst (v := nI 3) hx hb dL_law_942 (by decide) ?_
  refine x_iadd E.M (n := i + 3) dL_law_943 rfl ?_
  refine law_rd E (A1 := A) (k := i + 3) hw (by omega) h3 dL_law_944 ?_
  refine lv_aload_n hx hb dL_law_945 rfl (lv_at hl 3 rfl) ?_
  refine x_cSL (As := [.ref xo, .int c1, .int c2, .int c3, .ref ot]) hC cl_value is E.M E.hK E.hZ E.hN hw hl.1 hs hnd ⟨by omega, by omega⟩ ⟨by omega, by omega⟩ rfl rfl (Nat.le_of_ble_eq_true rfl) dL_law_946 ?_
  intro k sgC hpC H locs hw
  obtain ⟨hsM, ⟨fs, hrc⟩, hag⟩ := hag k sgC hpC
  refine lv_istore (lv' := [(5, .int k), (0, .ref b), (1, .ref xo), (2, .ref mo), (3, .ref ot), (4, .int (nI i))]) hx hb dL_law_949 hl (by decide) rfl (fun ls hl => ?_)
  refine lv_aload_n hx hb dL_law_951 rfl (lv_at hl 3 rfl) ?_
  refine lv_aload_n hx hb dL_law_952 rfl (lv_at hl 1 rfl) ?_
  refine lv_iload hx hb dL_law_953 (lv_at hl 5 rfl) ?_
  refine lv_iconst (v := nI 1) hx hb dL_law_955 (by decide) ?_
  refine x_iadd E.M (n := i + 1) dL_law_956 rfl ?_
  refine law_rd E (A1 := A) (k := i + 1) hw (by omega) h1 dL_law_957 ?_
  refine lv_aload_n hx hb dL_law_958 rfl (lv_at hl 1 rfl) ?_
  refine lv_iload hx hb dL_law_959 (lv_at hl 5 rfl) ?_
  refine lv_iconst (v := nI 2) hx hb dL_law_961 (by decide) ?_
  refine x_iadd E.M (n := i + 2) dL_law_962 rfl ?_
  refine law_rd E (A1 := A) (k := i + 2) hw (by omega) h2 dL_law_963 ?_
  refine lv_aload_n hx hb dL_law_964 rfl (lv_at hl 1 rfl) ?_
  refine lv_iload hx hb dL_law_965 (lv_at hl 5 rfl) ?_
  refine lv_iconst (v := nI 3) hx hb dL_law_967 (by decide) ?_
  refine x_iadd E.M (n := i + 3) dL_law_968 rfl ?_
  refine law_rd E (A1 := A) (k := i + 3) hw (by omega) h3 dL_law_969 ?_
  refine x_cVI (As := [.int c1, .int c2, .int c3]) hM cw_L_162 isM 12 0 E.M E.hK E.hZ hw hl.1 hsM hndM hrc rfl rfl ⟨by omega, by omega⟩ ⟨by omega, by omega⟩ rfl rfl (Nat.le_of_ble_eq_true rfl) dL_law_970 ?_
  intro r sgM hpM H locs hw
  obtain ⟨hend, hK⟩ := hag r sgM hpM
  refine lv_istore (lv' := [(6, .int r), (5, .int k), (0, .ref b), (1, .ref xo), (2, .ref mo), (3, .ref ot), (4, .int (nI i))]) hx hb dL_law_973 hl (by decide) rfl (fun ls hl => ?_)
  exact law_tail E dL_law_975 dL_law_976 dL_law_979 dL_law_981 dL_law_986 dL_law_988 dL_law_991 dL_law_992 dL_law_993 dL_law_994 dL_law_996 dL_law_997 dL_law_998 dL_law_1003 (by decide) ⟨by omega, by omega⟩ hw hl hend hK
set_option maxHeartbeats 2000000 in
theorem case_ask (E : LE p l R s m args c G Y A b L xs) {c1 : Int32} {c2 : Int32} {c3 : Int32} (h1 : xs (i + 1) = c1) (h2 : xs (i + 2) = c2) (h3 : xs (i + 3) = c3) (hi : i + 6 ≤ L) (hC : CtL l yL_ask cL_ask 6 [(0, 12, 15, 28), (0, 12, 19, 13), (0, 12, 23, 15)] fr lo [.ref xo, .int c1, .int c2, .int c3, .ref ot] segsC postC G Y) (hM : CtI l yX6_ask cX6_ask 4 .int fr2 lo2 [.ref mo, .int c1, .int c2, .int c3] segsM postM G Y) (hb4 : fr ≤ 500 ∧ lo ≤ 5000 ∧ fr2 ≤ 500 ∧ lo2 ≤ 5000) (hs : is.map (fun i => segs[i]?) = segsC.map some) (hnd : va_nd is = true) (hndM : va_nd isM = true) (hf : cells + 1 ≤ R.cells ∧ slots + 6 ≤ R.slots) (hw : xW G A s.heap segs H locs) (hl : lv_has ls 7 [(0, .ref b), (1, .ref xo), (2, .ref mo), (3, .ref ot), (4, .int (nI i))])
    (hag : ∀ k sgC, postC k sgC → isM.map (fun i => (xPut segs is sgC)[i]?) = segsM.map some ∧ (∃ fs, (xPut segs is sgC)[12]? = some [(mo, .inr (5, fs))]) ∧ ∀ r sgM, postM r sgM → lawEnd Y mo ot k r (xPut (xPut segs is sgC) isM sgM) ∧ ∀ H locs ls, xW G A s.heap (xPut (xPut segs is sgC) isM sgM) H locs → lv_has ls 7 [(0, .ref b), (1, .ref xo), (2, .ref mo), (3, .ref ot), (4, .int (nI i))] → W p l e R s m args below meth c H locs (cells + 1) (slots + 6) Q (F0 m 2113 ls [])) :
    W p l e R s m args below meth c H locs cells slots Q (F0 m 1006 ls []) := by
  obtain ⟨hx, hb, -⟩ := id E.M
  have hRR := E.hR
  have hLL := E.hL
  refine lv_aload_n hx hb dL_law_1006 rfl (lv_at hl 1 rfl) ?_
  refine lv_aload_n hx hb dL_law_1007 rfl (lv_at hl 0 rfl) ?_
  refine lv_iload hx hb dL_law_1008 (lv_at hl 4 rfl) ?_
  refine lv_iconst (v := nI 1) hx hb dL_law_1010 (by decide) ?_
  refine x_iadd E.M (n := i + 1) dL_law_1011 rfl ?_
  refine law_rd E (A1 := A) (k := i + 1) hw (by omega) h1 dL_law_1012 ?_
  refine lv_aload_n hx hb dL_law_1013 rfl (lv_at hl 0 rfl) ?_
  refine lv_iload hx hb dL_law_1014 (lv_at hl 4 rfl) ?_
  refine lv_iconst (v := nI 2) hx hb dL_law_1016 (by decide) ?_
  refine x_iadd E.M (n := i + 2) dL_law_1017 rfl ?_
  refine law_rd E (A1 := A) (k := i + 2) hw (by omega) h2 dL_law_1018 ?_
  refine lv_aload_n hx hb dL_law_1019 rfl (lv_at hl 0 rfl) ?_
  refine lv_iload hx hb dL_law_1020 (lv_at hl 4 rfl) ?_
  refine lv_iconst (v := nI 3) hx hb dL_law_1022 (by decide) ?_
  refine x_iadd E.M (n := i + 3) dL_law_1023 rfl ?_
  refine law_rd E (A1 := A) (k := i + 3) hw (by omega) h3 dL_law_1024 ?_
  refine lv_aload_n hx hb dL_law_1025 rfl (lv_at hl 3 rfl) ?_
  refine x_cSL (As := [.ref xo, .int c1, .int c2, .int c3, .ref ot]) hC cl_ask is E.M E.hK E.hZ E.hN hw hl.1 hs hnd ⟨by omega, by omega⟩ ⟨by omega, by omega⟩ rfl rfl (Nat.le_of_ble_eq_true rfl) dL_law_1026 ?_
  intro k sgC hpC H locs hw
  obtain ⟨hsM, ⟨fs, hrc⟩, hag⟩ := hag k sgC hpC
  refine lv_istore (lv' := [(5, .int k), (0, .ref b), (1, .ref xo), (2, .ref mo), (3, .ref ot), (4, .int (nI i))]) hx hb dL_law_1029 hl (by decide) rfl (fun ls hl => ?_)
  refine lv_aload_n hx hb dL_law_1031 rfl (lv_at hl 3 rfl) ?_
  refine lv_aload_n hx hb dL_law_1032 rfl (lv_at hl 1 rfl) ?_
  refine lv_iload hx hb dL_law_1033 (lv_at hl 5 rfl) ?_
  refine lv_iconst (v := nI 1) hx hb dL_law_1035 (by decide) ?_
  refine x_iadd E.M (n := i + 1) dL_law_1036 rfl ?_
  refine law_rd E (A1 := A) (k := i + 1) hw (by omega) h1 dL_law_1037 ?_
  refine lv_aload_n hx hb dL_law_1038 rfl (lv_at hl 1 rfl) ?_
  refine lv_iload hx hb dL_law_1039 (lv_at hl 5 rfl) ?_
  refine lv_iconst (v := nI 2) hx hb dL_law_1041 (by decide) ?_
  refine x_iadd E.M (n := i + 2) dL_law_1042 rfl ?_
  refine law_rd E (A1 := A) (k := i + 2) hw (by omega) h2 dL_law_1043 ?_
  refine lv_aload_n hx hb dL_law_1044 rfl (lv_at hl 1 rfl) ?_
  refine lv_iload hx hb dL_law_1045 (lv_at hl 5 rfl) ?_
  refine lv_iconst (v := nI 3) hx hb dL_law_1047 (by decide) ?_
  refine x_iadd E.M (n := i + 3) dL_law_1048 rfl ?_
  refine law_rd E (A1 := A) (k := i + 3) hw (by omega) h3 dL_law_1049 ?_
  refine x_cVI (As := [.int c1, .int c2, .int c3]) hM cw_L_165 isM 12 0 E.M E.hK E.hZ hw hl.1 hsM hndM hrc rfl rfl ⟨by omega, by omega⟩ ⟨by omega, by omega⟩ rfl rfl (Nat.le_of_ble_eq_true rfl) dL_law_1050 ?_
  intro r sgM hpM H locs hw
  obtain ⟨hend, hK⟩ := hag r sgM hpM
  refine lv_istore (lv' := [(6, .int r), (5, .int k), (0, .ref b), (1, .ref xo), (2, .ref mo), (3, .ref ot), (4, .int (nI i))]) hx hb dL_law_1053 hl (by decide) rfl (fun ls hl => ?_)
  exact law_tail E dL_law_1055 dL_law_1056 dL_law_1059 dL_law_1061 dL_law_1066 dL_law_1068 dL_law_1071 dL_law_1072 dL_law_1073 dL_law_1074 dL_law_1076 dL_law_1077 dL_law_1078 dL_law_1083 (by decide) ⟨by omega, by omega⟩ hw hl hend hK
set_option maxHeartbeats 2000000 in
theorem case_bid (E : LE p l R s m args c G Y A b L xs) {c1 : Int32} (h1 : xs (i + 1) = c1) (hi : i + 6 ≤ L) (hC : CtL l yL_bid cL_bid 4 [(0, 9, 12, 28), (0, 9, 15, 15)] fr lo [.ref xo, .int c1, .ref ot] segsC postC G Y) (hM : CtI l yX6_bid cX6_bid 2 .int fr2 lo2 [.ref mo, .int c1] segsM postM G Y) (hb4 : fr ≤ 500 ∧ lo ≤ 5000 ∧ fr2 ≤ 500 ∧ lo2 ≤ 5000) (hs : is.map (fun i => segs[i]?) = segsC.map some) (hnd : va_nd is = true) (hndM : va_nd isM = true) (hf : cells + 1 ≤ R.cells ∧ slots + 6 ≤ R.slots) (hw : xW G A s.heap segs H locs) (hl : lv_has ls 7 [(0, .ref b), (1, .ref xo), (2, .ref mo), (3, .ref ot), (4, .int (nI i))])
    (hag : ∀ k sgC, postC k sgC → isM.map (fun i => (xPut segs is sgC)[i]?) = segsM.map some ∧ (∃ fs, (xPut segs is sgC)[12]? = some [(mo, .inr (5, fs))]) ∧ ∀ r sgM, postM r sgM → lawEnd Y mo ot k r (xPut (xPut segs is sgC) isM sgM) ∧ ∀ H locs ls, xW G A s.heap (xPut (xPut segs is sgC) isM sgM) H locs → lv_has ls 7 [(0, .ref b), (1, .ref xo), (2, .ref mo), (3, .ref ot), (4, .int (nI i))] → W p l e R s m args below meth c H locs (cells + 1) (slots + 6) Q (F0 m 2113 ls [])) :
    W p l e R s m args below meth c H locs cells slots Q (F0 m 1086 ls []) := by
  obtain ⟨hx, hb, -⟩ := id E.M
  have hRR := E.hR
  have hLL := E.hL
  refine lv_aload_n hx hb dL_law_1086 rfl (lv_at hl 1 rfl) ?_
  refine lv_aload_n hx hb dL_law_1087 rfl (lv_at hl 0 rfl) ?_
  refine lv_iload hx hb dL_law_1088 (lv_at hl 4 rfl) ?_
  refine lv_iconst (v := nI 1) hx hb dL_law_1090 (by decide) ?_
  refine x_iadd E.M (n := i + 1) dL_law_1091 rfl ?_
  refine law_rd E (A1 := A) (k := i + 1) hw (by omega) h1 dL_law_1092 ?_
  refine lv_aload_n hx hb dL_law_1093 rfl (lv_at hl 3 rfl) ?_
  refine x_cSL (As := [.ref xo, .int c1, .ref ot]) hC cl_bid is E.M E.hK E.hZ E.hN hw hl.1 hs hnd ⟨by omega, by omega⟩ ⟨by omega, by omega⟩ rfl rfl (Nat.le_of_ble_eq_true rfl) dL_law_1094 ?_
  intro k sgC hpC H locs hw
  obtain ⟨hsM, ⟨fs, hrc⟩, hag⟩ := hag k sgC hpC
  refine lv_istore (lv' := [(5, .int k), (0, .ref b), (1, .ref xo), (2, .ref mo), (3, .ref ot), (4, .int (nI i))]) hx hb dL_law_1097 hl (by decide) rfl (fun ls hl => ?_)
  refine lv_aload_n hx hb dL_law_1099 rfl (lv_at hl 3 rfl) ?_
  refine lv_aload_n hx hb dL_law_1100 rfl (lv_at hl 1 rfl) ?_
  refine lv_iload hx hb dL_law_1101 (lv_at hl 5 rfl) ?_
  refine lv_iconst (v := nI 1) hx hb dL_law_1103 (by decide) ?_
  refine x_iadd E.M (n := i + 1) dL_law_1104 rfl ?_
  refine law_rd E (A1 := A) (k := i + 1) hw (by omega) h1 dL_law_1105 ?_
  refine x_cVI (As := [.int c1]) hM cw_L_168 isM 12 0 E.M E.hK E.hZ hw hl.1 hsM hndM hrc rfl rfl ⟨by omega, by omega⟩ ⟨by omega, by omega⟩ rfl rfl (Nat.le_of_ble_eq_true rfl) dL_law_1106 ?_
  intro r sgM hpM H locs hw
  obtain ⟨hend, hK⟩ := hag r sgM hpM
  refine lv_istore (lv' := [(6, .int r), (5, .int k), (0, .ref b), (1, .ref xo), (2, .ref mo), (3, .ref ot), (4, .int (nI i))]) hx hb dL_law_1109 hl (by decide) rfl (fun ls hl => ?_)
  exact law_tail E dL_law_1111 dL_law_1112 dL_law_1115 dL_law_1117 dL_law_1122 dL_law_1124 dL_law_1127 dL_law_1128 dL_law_1129 dL_law_1130 dL_law_1132 dL_law_1133 dL_law_1134 dL_law_1139 (by decide) ⟨by omega, by omega⟩ hw hl hend hK
set_option maxHeartbeats 2000000 in
theorem case_close (E : LE p l R s m args c G Y A b L xs)   (hi : i + 6 ≤ L) (hC : CtL l yL_close cL_close 3 [(0, 8, 11, 15)] fr lo [.ref xo, .ref ot] segsC postC G Y) (hM : CtI l yX6_close cX6_close 1 .int fr2 lo2 [.ref mo] segsM postM G Y) (hb4 : fr ≤ 500 ∧ lo ≤ 5000 ∧ fr2 ≤ 500 ∧ lo2 ≤ 5000) (hs : is.map (fun i => segs[i]?) = segsC.map some) (hnd : va_nd is = true) (hndM : va_nd isM = true) (hf : cells + 1 ≤ R.cells ∧ slots + 6 ≤ R.slots) (hw : xW G A s.heap segs H locs) (hl : lv_has ls 7 [(0, .ref b), (1, .ref xo), (2, .ref mo), (3, .ref ot), (4, .int (nI i))])
    (hag : ∀ k sgC, postC k sgC → isM.map (fun i => (xPut segs is sgC)[i]?) = segsM.map some ∧ (∃ fs, (xPut segs is sgC)[12]? = some [(mo, .inr (5, fs))]) ∧ ∀ r sgM, postM r sgM → lawEnd Y mo ot k r (xPut (xPut segs is sgC) isM sgM) ∧ ∀ H locs ls, xW G A s.heap (xPut (xPut segs is sgC) isM sgM) H locs → lv_has ls 7 [(0, .ref b), (1, .ref xo), (2, .ref mo), (3, .ref ot), (4, .int (nI i))] → W p l e R s m args below meth c H locs (cells + 1) (slots + 6) Q (F0 m 2113 ls [])) :
    W p l e R s m args below meth c H locs cells slots Q (F0 m 1142 ls []) := by
  obtain ⟨hx, hb, -⟩ := id E.M
  have hRR := E.hR
  have hLL := E.hL
  refine lv_aload_n hx hb dL_law_1142 rfl (lv_at hl 1 rfl) ?_
  refine lv_aload_n hx hb dL_law_1143 rfl (lv_at hl 3 rfl) ?_
  refine x_cSL (As := [.ref xo, .ref ot]) hC cl_close is E.M E.hK E.hZ E.hN hw hl.1 hs hnd ⟨by omega, by omega⟩ ⟨by omega, by omega⟩ rfl rfl (Nat.le_of_ble_eq_true rfl) dL_law_1144 ?_
  intro k sgC hpC H locs hw
  obtain ⟨hsM, ⟨fs, hrc⟩, hag⟩ := hag k sgC hpC
  refine lv_istore (lv' := [(5, .int k), (0, .ref b), (1, .ref xo), (2, .ref mo), (3, .ref ot), (4, .int (nI i))]) hx hb dL_law_1147 hl (by decide) rfl (fun ls hl => ?_)
  refine lv_aload_n hx hb dL_law_1149 rfl (lv_at hl 3 rfl) ?_
  refine x_cVI (As := []) hM cw_L_171 isM 12 0 E.M E.hK E.hZ hw hl.1 hsM hndM hrc rfl rfl ⟨by omega, by omega⟩ ⟨by omega, by omega⟩ rfl rfl (Nat.le_of_ble_eq_true rfl) dL_law_1150 ?_
  intro r sgM hpM H locs hw
  obtain ⟨hend, hK⟩ := hag r sgM hpM
  refine lv_istore (lv' := [(6, .int r), (5, .int k), (0, .ref b), (1, .ref xo), (2, .ref mo), (3, .ref ot), (4, .int (nI i))]) hx hb dL_law_1153 hl (by decide) rfl (fun ls hl => ?_)
  exact law_tail E dL_law_1155 dL_law_1156 dL_law_1159 dL_law_1161 dL_law_1166 dL_law_1168 dL_law_1171 dL_law_1172 dL_law_1173 dL_law_1174 dL_law_1176 dL_law_1177 dL_law_1178 dL_law_1183 (by decide) ⟨by omega, by omega⟩ hw hl hend hK
set_option maxHeartbeats 2000000 in
theorem case_add (E : LE p l R s m args c G Y A b L xs) {c1 : Int32} {c2 : Int32} {c3 : Int32} {c4 : Int32} {c5 : Int32} (h1 : xs (i + 1) = c1) (h2 : xs (i + 2) = c2) (h3 : xs (i + 3) = c3) (h4 : xs (i + 4) = c4) (h5 : xs (i + 5) = c5) (hi : i + 6 ≤ L) (hC : CtL l yL_add cL_add 8 [(0, 16, 19, 28), (0, 16, 23, 13), (0, 16, 27, 15)] fr lo [.ref xo, .int c1, .int c2, .int c3, .int c4, .int c5, .ref ot] segsC postC G Y) (hM : CtI l yX6_add cX6_add 6 .int fr2 lo2 [.ref mo, .int c1, .int c2, .int c3, .int c4, .int c5] segsM postM G Y) (hb4 : fr ≤ 500 ∧ lo ≤ 5000 ∧ fr2 ≤ 500 ∧ lo2 ≤ 5000) (hs : is.map (fun i => segs[i]?) = segsC.map some) (hnd : va_nd is = true) (hndM : va_nd isM = true) (hf : cells + 1 ≤ R.cells ∧ slots + 6 ≤ R.slots) (hw : xW G A s.heap segs H locs) (hl : lv_has ls 7 [(0, .ref b), (1, .ref xo), (2, .ref mo), (3, .ref ot), (4, .int (nI i))])
    (hag : ∀ k sgC, postC k sgC → isM.map (fun i => (xPut segs is sgC)[i]?) = segsM.map some ∧ (∃ fs, (xPut segs is sgC)[12]? = some [(mo, .inr (5, fs))]) ∧ ∀ r sgM, postM r sgM → lawEnd Y mo ot k r (xPut (xPut segs is sgC) isM sgM) ∧ ∀ H locs ls, xW G A s.heap (xPut (xPut segs is sgC) isM sgM) H locs → lv_has ls 7 [(0, .ref b), (1, .ref xo), (2, .ref mo), (3, .ref ot), (4, .int (nI i))] → W p l e R s m args below meth c H locs (cells + 1) (slots + 6) Q (F0 m 2113 ls [])) :
    W p l e R s m args below meth c H locs cells slots Q (F0 m 1186 ls []) := by
  obtain ⟨hx, hb, -⟩ := id E.M
  have hRR := E.hR
  have hLL := E.hL
  refine lv_aload_n hx hb dL_law_1186 rfl (lv_at hl 1 rfl) ?_
  refine lv_aload_n hx hb dL_law_1187 rfl (lv_at hl 0 rfl) ?_
  refine lv_iload hx hb dL_law_1188 (lv_at hl 4 rfl) ?_
  refine lv_iconst (v := nI 1) hx hb dL_law_1190 (by decide) ?_
  refine x_iadd E.M (n := i + 1) dL_law_1191 rfl ?_
  refine law_rd E (A1 := A) (k := i + 1) hw (by omega) h1 dL_law_1192 ?_
  refine lv_aload_n hx hb dL_law_1193 rfl (lv_at hl 0 rfl) ?_
  refine lv_iload hx hb dL_law_1194 (lv_at hl 4 rfl) ?_
  refine lv_iconst (v := nI 2) hx hb dL_law_1196 (by decide) ?_
  refine x_iadd E.M (n := i + 2) dL_law_1197 rfl ?_
  refine law_rd E (A1 := A) (k := i + 2) hw (by omega) h2 dL_law_1198 ?_
  refine lv_aload_n hx hb dL_law_1199 rfl (lv_at hl 0 rfl) ?_
  refine lv_iload hx hb dL_law_1200 (lv_at hl 4 rfl) ?_
  refine lv_iconst (v := nI 3) hx hb dL_law_1202 (by decide) ?_
  refine x_iadd E.M (n := i + 3) dL_law_1203 rfl ?_
  refine law_rd E (A1 := A) (k := i + 3) hw (by omega) h3 dL_law_1204 ?_
  refine lv_aload_n hx hb dL_law_1205 rfl (lv_at hl 0 rfl) ?_
  refine lv_iload hx hb dL_law_1206 (lv_at hl 4 rfl) ?_
  refine lv_iconst (v := nI 4) hx hb dL_law_1208 (by decide) ?_
  refine x_iadd E.M (n := i + 4) dL_law_1209 rfl ?_
  refine law_rd E (A1 := A) (k := i + 4) hw (by omega) h4 dL_law_1210 ?_
  refine lv_aload_n hx hb dL_law_1211 rfl (lv_at hl 0 rfl) ?_
  refine lv_iload hx hb dL_law_1212 (lv_at hl 4 rfl) ?_
  refine lv_iconst (v := nI 5) hx hb dL_law_1214 (by decide) ?_
  refine x_iadd E.M (n := i + 5) dL_law_1215 rfl ?_
  refine law_rd E (A1 := A) (k := i + 5) hw (by omega) h5 dL_law_1216 ?_
  refine lv_aload_n hx hb dL_law_1217 rfl (lv_at hl 3 rfl) ?_
  refine x_cSL (As := [.ref xo, .int c1, .int c2, .int c3, .int c4, .int c5, .ref ot]) hC cl_add is E.M E.hK E.hZ E.hN hw hl.1 hs hnd ⟨by omega, by omega⟩ ⟨by omega, by omega⟩ rfl rfl (Nat.le_of_ble_eq_true rfl) dL_law_1218 ?_
  intro k sgC hpC H locs hw
  obtain ⟨hsM, ⟨fs, hrc⟩, hag⟩ := hag k sgC hpC
  refine lv_istore (lv' := [(5, .int k), (0, .ref b), (1, .ref xo), (2, .ref mo), (3, .ref ot), (4, .int (nI i))]) hx hb dL_law_1221 hl (by decide) rfl (fun ls hl => ?_)
  refine lv_aload_n hx hb dL_law_1223 rfl (lv_at hl 3 rfl) ?_
  refine lv_aload_n hx hb dL_law_1224 rfl (lv_at hl 1 rfl) ?_
  refine lv_iload hx hb dL_law_1225 (lv_at hl 5 rfl) ?_
  refine lv_iconst (v := nI 1) hx hb dL_law_1227 (by decide) ?_
  refine x_iadd E.M (n := i + 1) dL_law_1228 rfl ?_
  refine law_rd E (A1 := A) (k := i + 1) hw (by omega) h1 dL_law_1229 ?_
  refine lv_aload_n hx hb dL_law_1230 rfl (lv_at hl 1 rfl) ?_
  refine lv_iload hx hb dL_law_1231 (lv_at hl 5 rfl) ?_
  refine lv_iconst (v := nI 2) hx hb dL_law_1233 (by decide) ?_
  refine x_iadd E.M (n := i + 2) dL_law_1234 rfl ?_
  refine law_rd E (A1 := A) (k := i + 2) hw (by omega) h2 dL_law_1235 ?_
  refine lv_aload_n hx hb dL_law_1236 rfl (lv_at hl 1 rfl) ?_
  refine lv_iload hx hb dL_law_1237 (lv_at hl 5 rfl) ?_
  refine lv_iconst (v := nI 3) hx hb dL_law_1239 (by decide) ?_
  refine x_iadd E.M (n := i + 3) dL_law_1240 rfl ?_
  refine law_rd E (A1 := A) (k := i + 3) hw (by omega) h3 dL_law_1241 ?_
  refine lv_aload_n hx hb dL_law_1242 rfl (lv_at hl 1 rfl) ?_
  refine lv_iload hx hb dL_law_1243 (lv_at hl 5 rfl) ?_
  refine lv_iconst (v := nI 4) hx hb dL_law_1245 (by decide) ?_
  refine x_iadd E.M (n := i + 4) dL_law_1246 rfl ?_
  refine law_rd E (A1 := A) (k := i + 4) hw (by omega) h4 dL_law_1247 ?_
  refine lv_aload_n hx hb dL_law_1248 rfl (lv_at hl 1 rfl) ?_
  refine lv_iload hx hb dL_law_1249 (lv_at hl 5 rfl) ?_
  refine lv_iconst (v := nI 5) hx hb dL_law_1251 (by decide) ?_
  refine x_iadd E.M (n := i + 5) dL_law_1252 rfl ?_
  refine law_rd E (A1 := A) (k := i + 5) hw (by omega) h5 dL_law_1253 ?_
  refine x_cVI (As := [.int c1, .int c2, .int c3, .int c4, .int c5]) hM cw_L_175 isM 12 0 E.M E.hK E.hZ hw hl.1 hsM hndM hrc rfl rfl ⟨by omega, by omega⟩ ⟨by omega, by omega⟩ rfl rfl (Nat.le_of_ble_eq_true rfl) dL_law_1254 ?_
  intro r sgM hpM H locs hw
  obtain ⟨hend, hK⟩ := hag r sgM hpM
  refine lv_istore (lv' := [(6, .int r), (5, .int k), (0, .ref b), (1, .ref xo), (2, .ref mo), (3, .ref ot), (4, .int (nI i))]) hx hb dL_law_1257 hl (by decide) rfl (fun ls hl => ?_)
  exact law_tail E dL_law_1259 dL_law_1260 dL_law_1263 dL_law_1265 dL_law_1270 dL_law_1272 dL_law_1275 dL_law_1276 dL_law_1277 dL_law_1278 dL_law_1280 dL_law_1281 dL_law_1282 dL_law_1287 (by decide) ⟨by omega, by omega⟩ hw hl hend hK
set_option maxHeartbeats 2000000 in
theorem case_drop (E : LE p l R s m args c G Y A b L xs) {c1 : Int32} {c2 : Int32} (h1 : xs (i + 1) = c1) (h2 : xs (i + 2) = c2) (hi : i + 6 ≤ L) (hC : CtL l yL_drop cL_drop 5 [(0, 10, 13, 28)] fr lo [.ref xo, .int c1, .int c2, .ref ot] segsC postC G Y) (hM : CtI l yX6_drop cX6_drop 3 .int fr2 lo2 [.ref mo, .int c1, .int c2] segsM postM G Y) (hb4 : fr ≤ 500 ∧ lo ≤ 5000 ∧ fr2 ≤ 500 ∧ lo2 ≤ 5000) (hs : is.map (fun i => segs[i]?) = segsC.map some) (hnd : va_nd is = true) (hndM : va_nd isM = true) (hf : cells + 1 ≤ R.cells ∧ slots + 6 ≤ R.slots) (hw : xW G A s.heap segs H locs) (hl : lv_has ls 7 [(0, .ref b), (1, .ref xo), (2, .ref mo), (3, .ref ot), (4, .int (nI i))])
    (hag : ∀ k sgC, postC k sgC → isM.map (fun i => (xPut segs is sgC)[i]?) = segsM.map some ∧ (∃ fs, (xPut segs is sgC)[12]? = some [(mo, .inr (5, fs))]) ∧ ∀ r sgM, postM r sgM → lawEnd Y mo ot k r (xPut (xPut segs is sgC) isM sgM) ∧ ∀ H locs ls, xW G A s.heap (xPut (xPut segs is sgC) isM sgM) H locs → lv_has ls 7 [(0, .ref b), (1, .ref xo), (2, .ref mo), (3, .ref ot), (4, .int (nI i))] → W p l e R s m args below meth c H locs (cells + 1) (slots + 6) Q (F0 m 2113 ls [])) :
    W p l e R s m args below meth c H locs cells slots Q (F0 m 1290 ls []) := by
  obtain ⟨hx, hb, -⟩ := id E.M
  have hRR := E.hR
  have hLL := E.hL
  refine lv_aload_n hx hb dL_law_1290 rfl (lv_at hl 1 rfl) ?_
  refine lv_aload_n hx hb dL_law_1291 rfl (lv_at hl 0 rfl) ?_
  refine lv_iload hx hb dL_law_1292 (lv_at hl 4 rfl) ?_
  refine lv_iconst (v := nI 1) hx hb dL_law_1294 (by decide) ?_
  refine x_iadd E.M (n := i + 1) dL_law_1295 rfl ?_
  refine law_rd E (A1 := A) (k := i + 1) hw (by omega) h1 dL_law_1296 ?_
  refine lv_aload_n hx hb dL_law_1297 rfl (lv_at hl 0 rfl) ?_
  refine lv_iload hx hb dL_law_1298 (lv_at hl 4 rfl) ?_
  refine lv_iconst (v := nI 2) hx hb dL_law_1300 (by decide) ?_
  refine x_iadd E.M (n := i + 2) dL_law_1301 rfl ?_
  refine law_rd E (A1 := A) (k := i + 2) hw (by omega) h2 dL_law_1302 ?_
  refine lv_aload_n hx hb dL_law_1303 rfl (lv_at hl 3 rfl) ?_
  refine x_cSL (As := [.ref xo, .int c1, .int c2, .ref ot]) hC cl_drop is E.M E.hK E.hZ E.hN hw hl.1 hs hnd ⟨by omega, by omega⟩ ⟨by omega, by omega⟩ rfl rfl (Nat.le_of_ble_eq_true rfl) dL_law_1304 ?_
  intro k sgC hpC H locs hw
  obtain ⟨hsM, ⟨fs, hrc⟩, hag⟩ := hag k sgC hpC
  refine lv_istore (lv' := [(5, .int k), (0, .ref b), (1, .ref xo), (2, .ref mo), (3, .ref ot), (4, .int (nI i))]) hx hb dL_law_1307 hl (by decide) rfl (fun ls hl => ?_)
  refine lv_aload_n hx hb dL_law_1309 rfl (lv_at hl 3 rfl) ?_
  refine lv_aload_n hx hb dL_law_1310 rfl (lv_at hl 1 rfl) ?_
  refine lv_iload hx hb dL_law_1311 (lv_at hl 5 rfl) ?_
  refine lv_iconst (v := nI 1) hx hb dL_law_1313 (by decide) ?_
  refine x_iadd E.M (n := i + 1) dL_law_1314 rfl ?_
  refine law_rd E (A1 := A) (k := i + 1) hw (by omega) h1 dL_law_1315 ?_
  refine lv_aload_n hx hb dL_law_1316 rfl (lv_at hl 1 rfl) ?_
  refine lv_iload hx hb dL_law_1317 (lv_at hl 5 rfl) ?_
  refine lv_iconst (v := nI 2) hx hb dL_law_1319 (by decide) ?_
  refine x_iadd E.M (n := i + 2) dL_law_1320 rfl ?_
  refine law_rd E (A1 := A) (k := i + 2) hw (by omega) h2 dL_law_1321 ?_
  refine x_cVI (As := [.int c1, .int c2]) hM cw_L_178 isM 12 0 E.M E.hK E.hZ hw hl.1 hsM hndM hrc rfl rfl ⟨by omega, by omega⟩ ⟨by omega, by omega⟩ rfl rfl (Nat.le_of_ble_eq_true rfl) dL_law_1322 ?_
  intro r sgM hpM H locs hw
  obtain ⟨hend, hK⟩ := hag r sgM hpM
  refine lv_istore (lv' := [(6, .int r), (5, .int k), (0, .ref b), (1, .ref xo), (2, .ref mo), (3, .ref ot), (4, .int (nI i))]) hx hb dL_law_1325 hl (by decide) rfl (fun ls hl => ?_)
  exact law_tail E dL_law_1327 dL_law_1328 dL_law_1331 dL_law_1333 dL_law_1338 dL_law_1340 dL_law_1343 dL_law_1344 dL_law_1345 dL_law_1346 dL_law_1348 dL_law_1349 dL_law_1350 dL_law_1355 (by decide) ⟨by omega, by omega⟩ hw hl hend hK
set_option maxHeartbeats 2000000 in
theorem case_set (E : LE p l R s m args c G Y A b L xs) {c1 : Int32} {c2 : Int32} (h1 : xs (i + 1) = c1) (h2 : xs (i + 2) = c2) (hi : i + 6 ≤ L) (hC : CtL l yL_set cL_set 5 [(0, 10, 13, 13)] fr lo [.ref xo, .int c1, .int c2, .ref ot] segsC postC G Y) (hM : CtI l yX6_set cX6_set 4 .int fr2 lo2 [.ref mo, .int c1, .int c2] segsM postM G Y) (hb4 : fr ≤ 500 ∧ lo ≤ 5000 ∧ fr2 ≤ 500 ∧ lo2 ≤ 5000) (hs : is.map (fun i => segs[i]?) = segsC.map some) (hnd : va_nd is = true) (hndM : va_nd isM = true) (hf : cells + 1 ≤ R.cells ∧ slots + 6 ≤ R.slots) (hw : xW G A s.heap segs H locs) (hl : lv_has ls 7 [(0, .ref b), (1, .ref xo), (2, .ref mo), (3, .ref ot), (4, .int (nI i))])
    (hag : ∀ k sgC, postC k sgC → isM.map (fun i => (xPut segs is sgC)[i]?) = segsM.map some ∧ (∃ fs, (xPut segs is sgC)[12]? = some [(mo, .inr (5, fs))]) ∧ ∀ r sgM, postM r sgM → lawEnd Y mo ot k r (xPut (xPut segs is sgC) isM sgM) ∧ ∀ H locs ls, xW G A s.heap (xPut (xPut segs is sgC) isM sgM) H locs → lv_has ls 7 [(0, .ref b), (1, .ref xo), (2, .ref mo), (3, .ref ot), (4, .int (nI i))] → W p l e R s m args below meth c H locs (cells + 1) (slots + 6) Q (F0 m 2113 ls [])) :
    W p l e R s m args below meth c H locs cells slots Q (F0 m 1358 ls []) := by
  obtain ⟨hx, hb, -⟩ := id E.M
  have hRR := E.hR
  have hLL := E.hL
  refine lv_aload_n hx hb dL_law_1358 rfl (lv_at hl 1 rfl) ?_
  refine lv_aload_n hx hb dL_law_1359 rfl (lv_at hl 0 rfl) ?_
  refine lv_iload hx hb dL_law_1360 (lv_at hl 4 rfl) ?_
  refine lv_iconst (v := nI 1) hx hb dL_law_1362 (by decide) ?_
  refine x_iadd E.M (n := i + 1) dL_law_1363 rfl ?_
  refine law_rd E (A1 := A) (k := i + 1) hw (by omega) h1 dL_law_1364 ?_
  refine lv_aload_n hx hb dL_law_1365 rfl (lv_at hl 0 rfl) ?_
  refine lv_iload hx hb dL_law_1366 (lv_at hl 4 rfl) ?_
  refine lv_iconst (v := nI 2) hx hb dL_law_1368 (by decide) ?_
  refine x_iadd E.M (n := i + 2) dL_law_1369 rfl ?_
  refine law_rd E (A1 := A) (k := i + 2) hw (by omega) h2 dL_law_1370 ?_
  refine lv_aload_n hx hb dL_law_1371 rfl (lv_at hl 3 rfl) ?_
  refine x_cSL (As := [.ref xo, .int c1, .int c2, .ref ot]) hC cl_set is E.M E.hK E.hZ E.hN hw hl.1 hs hnd ⟨by omega, by omega⟩ ⟨by omega, by omega⟩ rfl rfl (Nat.le_of_ble_eq_true rfl) dL_law_1372 ?_
  intro k sgC hpC H locs hw
  obtain ⟨hsM, ⟨fs, hrc⟩, hag⟩ := hag k sgC hpC
  refine lv_istore (lv' := [(5, .int k), (0, .ref b), (1, .ref xo), (2, .ref mo), (3, .ref ot), (4, .int (nI i))]) hx hb dL_law_1375 hl (by decide) rfl (fun ls hl => ?_)
  refine lv_aload_n hx hb dL_law_1377 rfl (lv_at hl 3 rfl) ?_
  refine lv_aload_n hx hb dL_law_1378 rfl (lv_at hl 1 rfl) ?_
  refine lv_iload hx hb dL_law_1379 (lv_at hl 5 rfl) ?_
  refine lv_iconst (v := nI 1) hx hb dL_law_1381 (by decide) ?_
  refine x_iadd E.M (n := i + 1) dL_law_1382 rfl ?_
  refine law_rd E (A1 := A) (k := i + 1) hw (by omega) h1 dL_law_1383 ?_
  refine lv_aload_n hx hb dL_law_1384 rfl (lv_at hl 1 rfl) ?_
  refine lv_iload hx hb dL_law_1385 (lv_at hl 5 rfl) ?_
  refine lv_iconst (v := nI 2) hx hb dL_law_1387 (by decide) ?_
  refine x_iadd E.M (n := i + 2) dL_law_1388 rfl ?_
  refine law_rd E (A1 := A) (k := i + 2) hw (by omega) h2 dL_law_1389 ?_
  refine x_cVI (As := [.int c1, .int c2]) hM cw_L_181 isM 12 0 E.M E.hK E.hZ hw hl.1 hsM hndM hrc rfl rfl ⟨by omega, by omega⟩ ⟨by omega, by omega⟩ rfl rfl (Nat.le_of_ble_eq_true rfl) dL_law_1390 ?_
  intro r sgM hpM H locs hw
  obtain ⟨hend, hK⟩ := hag r sgM hpM
  refine lv_istore (lv' := [(6, .int r), (5, .int k), (0, .ref b), (1, .ref xo), (2, .ref mo), (3, .ref ot), (4, .int (nI i))]) hx hb dL_law_1393 hl (by decide) rfl (fun ls hl => ?_)
  exact law_tail E dL_law_1395 dL_law_1396 dL_law_1399 dL_law_1401 dL_law_1406 dL_law_1408 dL_law_1411 dL_law_1412 dL_law_1413 dL_law_1414 dL_law_1416 dL_law_1417 dL_law_1418 dL_law_1423 (by decide) ⟨by omega, by omega⟩ hw hl hend hK
set_option maxHeartbeats 2000000 in
theorem case_undo (E : LE p l R s m args c G Y A b L xs)   (hi : i + 6 ≤ L) (hC : CtL l yL_undo cL_undo 3 [(0, 8, 11, 15)] fr lo [.ref xo, .ref ot] segsC postC G Y) (hM : CtI l yX6_undo cX6_undo 1 .int fr2 lo2 [.ref mo] segsM postM G Y) (hb4 : fr ≤ 500 ∧ lo ≤ 5000 ∧ fr2 ≤ 500 ∧ lo2 ≤ 5000) (hs : is.map (fun i => segs[i]?) = segsC.map some) (hnd : va_nd is = true) (hndM : va_nd isM = true) (hf : cells + 1 ≤ R.cells ∧ slots + 6 ≤ R.slots) (hw : xW G A s.heap segs H locs) (hl : lv_has ls 7 [(0, .ref b), (1, .ref xo), (2, .ref mo), (3, .ref ot), (4, .int (nI i))])
    (hag : ∀ k sgC, postC k sgC → isM.map (fun i => (xPut segs is sgC)[i]?) = segsM.map some ∧ (∃ fs, (xPut segs is sgC)[12]? = some [(mo, .inr (5, fs))]) ∧ ∀ r sgM, postM r sgM → lawEnd Y mo ot k r (xPut (xPut segs is sgC) isM sgM) ∧ ∀ H locs ls, xW G A s.heap (xPut (xPut segs is sgC) isM sgM) H locs → lv_has ls 7 [(0, .ref b), (1, .ref xo), (2, .ref mo), (3, .ref ot), (4, .int (nI i))] → W p l e R s m args below meth c H locs (cells + 1) (slots + 6) Q (F0 m 2113 ls [])) :
    W p l e R s m args below meth c H locs cells slots Q (F0 m 1426 ls []) := by
  obtain ⟨hx, hb, -⟩ := id E.M
  have hRR := E.hR
  have hLL := E.hL
  refine lv_aload_n hx hb dL_law_1426 rfl (lv_at hl 1 rfl) ?_
  refine lv_aload_n hx hb dL_law_1427 rfl (lv_at hl 3 rfl) ?_
  refine x_cSL (As := [.ref xo, .ref ot]) hC cl_undo is E.M E.hK E.hZ E.hN hw hl.1 hs hnd ⟨by omega, by omega⟩ ⟨by omega, by omega⟩ rfl rfl (Nat.le_of_ble_eq_true rfl) dL_law_1428 ?_
  intro k sgC hpC H locs hw
  obtain ⟨hsM, ⟨fs, hrc⟩, hag⟩ := hag k sgC hpC
  refine lv_istore (lv' := [(5, .int k), (0, .ref b), (1, .ref xo), (2, .ref mo), (3, .ref ot), (4, .int (nI i))]) hx hb dL_law_1431 hl (by decide) rfl (fun ls hl => ?_)
  refine lv_aload_n hx hb dL_law_1433 rfl (lv_at hl 3 rfl) ?_
  refine x_cVI (As := []) hM cw_L_184 isM 12 0 E.M E.hK E.hZ hw hl.1 hsM hndM hrc rfl rfl ⟨by omega, by omega⟩ ⟨by omega, by omega⟩ rfl rfl (Nat.le_of_ble_eq_true rfl) dL_law_1434 ?_
  intro r sgM hpM H locs hw
  obtain ⟨hend, hK⟩ := hag r sgM hpM
  refine lv_istore (lv' := [(6, .int r), (5, .int k), (0, .ref b), (1, .ref xo), (2, .ref mo), (3, .ref ot), (4, .int (nI i))]) hx hb dL_law_1437 hl (by decide) rfl (fun ls hl => ?_)
  exact law_tail E dL_law_1439 dL_law_1440 dL_law_1443 dL_law_1445 dL_law_1450 dL_law_1452 dL_law_1455 dL_law_1456 dL_law_1457 dL_law_1458 dL_law_1460 dL_law_1461 dL_law_1462 dL_law_1467 (by decide) ⟨by omega, by omega⟩ hw hl hend hK
set_option maxHeartbeats 2000000 in
theorem case_gets (E : LE p l R s m args c G Y A b L xs) {c1 : Int32} (h1 : xs (i + 1) = c1) (hi : i + 6 ≤ L) (hC : CtL l yL_gets cL_gets 4 [(0, 9, 12, 28)] fr lo [.ref xo, .int c1, .ref ot] segsC postC G Y) (hM : CtI l yX6_gets cX6_gets 2 .int fr2 lo2 [.ref mo, .int c1] segsM postM G Y) (hb4 : fr ≤ 500 ∧ lo ≤ 5000 ∧ fr2 ≤ 500 ∧ lo2 ≤ 5000) (hs : is.map (fun i => segs[i]?) = segsC.map some) (hnd : va_nd is = true) (hndM : va_nd isM = true) (hf : cells + 1 ≤ R.cells ∧ slots + 6 ≤ R.slots) (hw : xW G A s.heap segs H locs) (hl : lv_has ls 7 [(0, .ref b), (1, .ref xo), (2, .ref mo), (3, .ref ot), (4, .int (nI i))])
    (hag : ∀ k sgC, postC k sgC → isM.map (fun i => (xPut segs is sgC)[i]?) = segsM.map some ∧ (∃ fs, (xPut segs is sgC)[12]? = some [(mo, .inr (5, fs))]) ∧ ∀ r sgM, postM r sgM → lawEnd Y mo ot k r (xPut (xPut segs is sgC) isM sgM) ∧ ∀ H locs ls, xW G A s.heap (xPut (xPut segs is sgC) isM sgM) H locs → lv_has ls 7 [(0, .ref b), (1, .ref xo), (2, .ref mo), (3, .ref ot), (4, .int (nI i))] → W p l e R s m args below meth c H locs (cells + 1) (slots + 6) Q (F0 m 2113 ls [])) :
    W p l e R s m args below meth c H locs cells slots Q (F0 m 1483 ls []) := by
  obtain ⟨hx, hb, -⟩ := id E.M
  have hRR := E.hR
  have hLL := E.hL
  refine lv_aload_n hx hb dL_law_1483 rfl (lv_at hl 1 rfl) ?_
  refine lv_aload_n hx hb dL_law_1484 rfl (lv_at hl 0 rfl) ?_
  refine lv_iload hx hb dL_law_1485 (lv_at hl 4 rfl) ?_
  refine lv_iconst (v := nI 1) hx hb dL_law_1487 (by decide) ?_
  refine x_iadd E.M (n := i + 1) dL_law_1488 rfl ?_
  refine law_rd E (A1 := A) (k := i + 1) hw (by omega) h1 dL_law_1489 ?_
  refine lv_aload_n hx hb dL_law_1490 rfl (lv_at hl 3 rfl) ?_
  refine x_cSL (As := [.ref xo, .int c1, .ref ot]) hC cl_gets is E.M E.hK E.hZ E.hN hw hl.1 hs hnd ⟨by omega, by omega⟩ ⟨by omega, by omega⟩ rfl rfl (Nat.le_of_ble_eq_true rfl) dL_law_1491 ?_
  intro k sgC hpC H locs hw
  obtain ⟨hsM, ⟨fs, hrc⟩, hag⟩ := hag k sgC hpC
  refine lv_istore (lv' := [(5, .int k), (0, .ref b), (1, .ref xo), (2, .ref mo), (3, .ref ot), (4, .int (nI i))]) hx hb dL_law_1494 hl (by decide) rfl (fun ls hl => ?_)
  refine lv_aload_n hx hb dL_law_1496 rfl (lv_at hl 3 rfl) ?_
  refine lv_aload_n hx hb dL_law_1497 rfl (lv_at hl 1 rfl) ?_
  refine lv_iload hx hb dL_law_1498 (lv_at hl 5 rfl) ?_
  refine lv_iconst (v := nI 1) hx hb dL_law_1500 (by decide) ?_
  refine x_iadd E.M (n := i + 1) dL_law_1501 rfl ?_
  refine law_rd E (A1 := A) (k := i + 1) hw (by omega) h1 dL_law_1502 ?_
  refine x_cVI (As := [.int c1]) hM cw_L_191 isM 12 0 E.M E.hK E.hZ hw hl.1 hsM hndM hrc rfl rfl ⟨by omega, by omega⟩ ⟨by omega, by omega⟩ rfl rfl (Nat.le_of_ble_eq_true rfl) dL_law_1503 ?_
  intro r sgM hpM H locs hw
  obtain ⟨hend, hK⟩ := hag r sgM hpM
  refine lv_istore (lv' := [(6, .int r), (5, .int k), (0, .ref b), (1, .ref xo), (2, .ref mo), (3, .ref ot), (4, .int (nI i))]) hx hb dL_law_1506 hl (by decide) rfl (fun ls hl => ?_)
  exact law_tail E dL_law_1508 dL_law_1509 dL_law_1512 dL_law_1514 dL_law_1519 dL_law_1521 dL_law_1524 dL_law_1525 dL_law_1526 dL_law_1527 dL_law_1529 dL_law_1530 dL_law_1531 dL_law_1536 (by decide) ⟨by omega, by omega⟩ hw hl hend hK
set_option maxHeartbeats 2000000 in
theorem case_pays (E : LE p l R s m args c G Y A b L xs) {c1 : Int32} (h1 : xs (i + 1) = c1) (hi : i + 6 ≤ L) (hC : CtL l yL_pays cL_pays 4 [(0, 9, 12, 28)] fr lo [.ref xo, .int c1, .ref ot] segsC postC G Y) (hM : CtI l yX6_pays cX6_pays 4 .int fr2 lo2 [.ref mo, .int c1] segsM postM G Y) (hb4 : fr ≤ 500 ∧ lo ≤ 5000 ∧ fr2 ≤ 500 ∧ lo2 ≤ 5000) (hs : is.map (fun i => segs[i]?) = segsC.map some) (hnd : va_nd is = true) (hndM : va_nd isM = true) (hf : cells + 1 ≤ R.cells ∧ slots + 6 ≤ R.slots) (hw : xW G A s.heap segs H locs) (hl : lv_has ls 7 [(0, .ref b), (1, .ref xo), (2, .ref mo), (3, .ref ot), (4, .int (nI i))])
    (hag : ∀ k sgC, postC k sgC → isM.map (fun i => (xPut segs is sgC)[i]?) = segsM.map some ∧ (∃ fs, (xPut segs is sgC)[12]? = some [(mo, .inr (5, fs))]) ∧ ∀ r sgM, postM r sgM → lawEnd Y mo ot k r (xPut (xPut segs is sgC) isM sgM) ∧ ∀ H locs ls, xW G A s.heap (xPut (xPut segs is sgC) isM sgM) H locs → lv_has ls 7 [(0, .ref b), (1, .ref xo), (2, .ref mo), (3, .ref ot), (4, .int (nI i))] → W p l e R s m args below meth c H locs (cells + 1) (slots + 6) Q (F0 m 2113 ls [])) :
    W p l e R s m args below meth c H locs cells slots Q (F0 m 1539 ls []) := by
  obtain ⟨hx, hb, -⟩ := id E.M
  have hRR := E.hR
  have hLL := E.hL
  refine lv_aload_n hx hb dL_law_1539 rfl (lv_at hl 1 rfl) ?_
  refine lv_aload_n hx hb dL_law_1540 rfl (lv_at hl 0 rfl) ?_
  refine lv_iload hx hb dL_law_1541 (lv_at hl 4 rfl) ?_
  refine lv_iconst (v := nI 1) hx hb dL_law_1543 (by decide) ?_
  refine x_iadd E.M (n := i + 1) dL_law_1544 rfl ?_
  refine law_rd E (A1 := A) (k := i + 1) hw (by omega) h1 dL_law_1545 ?_
  refine lv_aload_n hx hb dL_law_1546 rfl (lv_at hl 3 rfl) ?_
  refine x_cSL (As := [.ref xo, .int c1, .ref ot]) hC cl_pays is E.M E.hK E.hZ E.hN hw hl.1 hs hnd ⟨by omega, by omega⟩ ⟨by omega, by omega⟩ rfl rfl (Nat.le_of_ble_eq_true rfl) dL_law_1547 ?_
  intro k sgC hpC H locs hw
  obtain ⟨hsM, ⟨fs, hrc⟩, hag⟩ := hag k sgC hpC
  refine lv_istore (lv' := [(5, .int k), (0, .ref b), (1, .ref xo), (2, .ref mo), (3, .ref ot), (4, .int (nI i))]) hx hb dL_law_1550 hl (by decide) rfl (fun ls hl => ?_)
  refine lv_aload_n hx hb dL_law_1552 rfl (lv_at hl 3 rfl) ?_
  refine lv_aload_n hx hb dL_law_1553 rfl (lv_at hl 1 rfl) ?_
  refine lv_iload hx hb dL_law_1554 (lv_at hl 5 rfl) ?_
  refine lv_iconst (v := nI 1) hx hb dL_law_1556 (by decide) ?_
  refine x_iadd E.M (n := i + 1) dL_law_1557 rfl ?_
  refine law_rd E (A1 := A) (k := i + 1) hw (by omega) h1 dL_law_1558 ?_
  refine x_cVI (As := [.int c1]) hM cw_L_194 isM 12 0 E.M E.hK E.hZ hw hl.1 hsM hndM hrc rfl rfl ⟨by omega, by omega⟩ ⟨by omega, by omega⟩ rfl rfl (Nat.le_of_ble_eq_true rfl) dL_law_1559 ?_
  intro r sgM hpM H locs hw
  obtain ⟨hend, hK⟩ := hag r sgM hpM
  refine lv_istore (lv' := [(6, .int r), (5, .int k), (0, .ref b), (1, .ref xo), (2, .ref mo), (3, .ref ot), (4, .int (nI i))]) hx hb dL_law_1562 hl (by decide) rfl (fun ls hl => ?_)
  exact law_tail E dL_law_1564 dL_law_1565 dL_law_1568 dL_law_1570 dL_law_1575 dL_law_1577 dL_law_1580 dL_law_1581 dL_law_1582 dL_law_1583 dL_law_1585 dL_law_1586 dL_law_1587 dL_law_1592 (by decide) ⟨by omega, by omega⟩ hw hl hend hK
set_option maxHeartbeats 2000000 in
theorem case_oneMore (E : LE p l R s m args c G Y A b L xs) {c1 : Int32} (h1 : xs (i + 1) = c1) (hi : i + 6 ≤ L) (hC : CtL l yL_oneMore cL_oneMore 4 [(0, 9, 12, 28)] fr lo [.ref xo, .int c1, .ref ot] segsC postC G Y) (hM : CtI l yX6_oneMore cX6_oneMore 2 .int fr2 lo2 [.ref mo, .int c1] segsM postM G Y) (hb4 : fr ≤ 500 ∧ lo ≤ 5000 ∧ fr2 ≤ 500 ∧ lo2 ≤ 5000) (hs : is.map (fun i => segs[i]?) = segsC.map some) (hnd : va_nd is = true) (hndM : va_nd isM = true) (hf : cells + 1 ≤ R.cells ∧ slots + 6 ≤ R.slots) (hw : xW G A s.heap segs H locs) (hl : lv_has ls 7 [(0, .ref b), (1, .ref xo), (2, .ref mo), (3, .ref ot), (4, .int (nI i))])
    (hag : ∀ k sgC, postC k sgC → isM.map (fun i => (xPut segs is sgC)[i]?) = segsM.map some ∧ (∃ fs, (xPut segs is sgC)[12]? = some [(mo, .inr (5, fs))]) ∧ ∀ r sgM, postM r sgM → lawEnd Y mo ot k r (xPut (xPut segs is sgC) isM sgM) ∧ ∀ H locs ls, xW G A s.heap (xPut (xPut segs is sgC) isM sgM) H locs → lv_has ls 7 [(0, .ref b), (1, .ref xo), (2, .ref mo), (3, .ref ot), (4, .int (nI i))] → W p l e R s m args below meth c H locs (cells + 1) (slots + 6) Q (F0 m 2113 ls [])) :
    W p l e R s m args below meth c H locs cells slots Q (F0 m 1595 ls []) := by
  obtain ⟨hx, hb, -⟩ := id E.M
  have hRR := E.hR
  have hLL := E.hL
  refine lv_aload_n hx hb dL_law_1595 rfl (lv_at hl 1 rfl) ?_
  refine lv_aload_n hx hb dL_law_1596 rfl (lv_at hl 0 rfl) ?_
  refine lv_iload hx hb dL_law_1597 (lv_at hl 4 rfl) ?_
  refine lv_iconst (v := nI 1) hx hb dL_law_1599 (by decide) ?_
  refine x_iadd E.M (n := i + 1) dL_law_1600 rfl ?_
  refine law_rd E (A1 := A) (k := i + 1) hw (by omega) h1 dL_law_1601 ?_
  refine lv_aload_n hx hb dL_law_1602 rfl (lv_at hl 3 rfl) ?_
  refine x_cSL (As := [.ref xo, .int c1, .ref ot]) hC cl_oneMore is E.M E.hK E.hZ E.hN hw hl.1 hs hnd ⟨by omega, by omega⟩ ⟨by omega, by omega⟩ rfl rfl (Nat.le_of_ble_eq_true rfl) dL_law_1603 ?_
  intro k sgC hpC H locs hw
  obtain ⟨hsM, ⟨fs, hrc⟩, hag⟩ := hag k sgC hpC
  refine lv_istore (lv' := [(5, .int k), (0, .ref b), (1, .ref xo), (2, .ref mo), (3, .ref ot), (4, .int (nI i))]) hx hb dL_law_1606 hl (by decide) rfl (fun ls hl => ?_)
  refine lv_aload_n hx hb dL_law_1608 rfl (lv_at hl 3 rfl) ?_
  refine lv_aload_n hx hb dL_law_1609 rfl (lv_at hl 1 rfl) ?_
  refine lv_iload hx hb dL_law_1610 (lv_at hl 5 rfl) ?_
  refine lv_iconst (v := nI 1) hx hb dL_law_1612 (by decide) ?_
  refine x_iadd E.M (n := i + 1) dL_law_1613 rfl ?_
  refine law_rd E (A1 := A) (k := i + 1) hw (by omega) h1 dL_law_1614 ?_
  refine x_cVI (As := [.int c1]) hM cw_L_197 isM 12 0 E.M E.hK E.hZ hw hl.1 hsM hndM hrc rfl rfl ⟨by omega, by omega⟩ ⟨by omega, by omega⟩ rfl rfl (Nat.le_of_ble_eq_true rfl) dL_law_1615 ?_
  intro r sgM hpM H locs hw
  obtain ⟨hend, hK⟩ := hag r sgM hpM
  refine lv_istore (lv' := [(6, .int r), (5, .int k), (0, .ref b), (1, .ref xo), (2, .ref mo), (3, .ref ot), (4, .int (nI i))]) hx hb dL_law_1618 hl (by decide) rfl (fun ls hl => ?_)
  exact law_tail E dL_law_1620 dL_law_1621 dL_law_1624 dL_law_1626 dL_law_1631 dL_law_1633 dL_law_1636 dL_law_1637 dL_law_1638 dL_law_1639 dL_law_1641 dL_law_1642 dL_law_1643 dL_law_1648 (by decide) ⟨by omega, by omega⟩ hw hl hend hK
set_option maxHeartbeats 2000000 in
theorem case_wouldAsk (E : LE p l R s m args c G Y A b L xs) {c1 : Int32} {c2 : Int32} (h1 : xs (i + 1) = c1) (h2 : xs (i + 2) = c2) (hi : i + 6 ≤ L) (hC : CtL l yL_wouldAsk cL_wouldAsk 5 [(0, 10, 13, 28)] fr lo [.ref xo, .int c1, .int c2, .ref ot] segsC postC G Y) (hM : CtI l yX6_wouldAsk cX6_wouldAsk 3 .int fr2 lo2 [.ref mo, .int c1, .int c2] segsM postM G Y) (hb4 : fr ≤ 500 ∧ lo ≤ 5000 ∧ fr2 ≤ 500 ∧ lo2 ≤ 5000) (hs : is.map (fun i => segs[i]?) = segsC.map some) (hnd : va_nd is = true) (hndM : va_nd isM = true) (hf : cells + 1 ≤ R.cells ∧ slots + 6 ≤ R.slots) (hw : xW G A s.heap segs H locs) (hl : lv_has ls 7 [(0, .ref b), (1, .ref xo), (2, .ref mo), (3, .ref ot), (4, .int (nI i))])
    (hag : ∀ k sgC, postC k sgC → isM.map (fun i => (xPut segs is sgC)[i]?) = segsM.map some ∧ (∃ fs, (xPut segs is sgC)[12]? = some [(mo, .inr (5, fs))]) ∧ ∀ r sgM, postM r sgM → lawEnd Y mo ot k r (xPut (xPut segs is sgC) isM sgM) ∧ ∀ H locs ls, xW G A s.heap (xPut (xPut segs is sgC) isM sgM) H locs → lv_has ls 7 [(0, .ref b), (1, .ref xo), (2, .ref mo), (3, .ref ot), (4, .int (nI i))] → W p l e R s m args below meth c H locs (cells + 1) (slots + 6) Q (F0 m 2113 ls [])) :
    W p l e R s m args below meth c H locs cells slots Q (F0 m 1664 ls []) := by
  obtain ⟨hx, hb, -⟩ := id E.M
  have hRR := E.hR
  have hLL := E.hL
  refine lv_aload_n hx hb dL_law_1664 rfl (lv_at hl 1 rfl) ?_
  refine lv_aload_n hx hb dL_law_1665 rfl (lv_at hl 0 rfl) ?_
  refine lv_iload hx hb dL_law_1666 (lv_at hl 4 rfl) ?_
  refine lv_iconst (v := nI 1) hx hb dL_law_1668 (by decide) ?_
  refine x_iadd E.M (n := i + 1) dL_law_1669 rfl ?_
  refine law_rd E (A1 := A) (k := i + 1) hw (by omega) h1 dL_law_1670 ?_
  refine lv_aload_n hx hb dL_law_1671 rfl (lv_at hl 0 rfl) ?_
  refine lv_iload hx hb dL_law_1672 (lv_at hl 4 rfl) ?_
  refine lv_iconst (v := nI 2) hx hb dL_law_1674 (by decide) ?_
  refine x_iadd E.M (n := i + 2) dL_law_1675 rfl ?_
  refine law_rd E (A1 := A) (k := i + 2) hw (by omega) h2 dL_law_1676 ?_
  refine lv_aload_n hx hb dL_law_1677 rfl (lv_at hl 3 rfl) ?_
  refine x_cSL (As := [.ref xo, .int c1, .int c2, .ref ot]) hC cl_wouldAsk is E.M E.hK E.hZ E.hN hw hl.1 hs hnd ⟨by omega, by omega⟩ ⟨by omega, by omega⟩ rfl rfl (Nat.le_of_ble_eq_true rfl) dL_law_1678 ?_
  intro k sgC hpC H locs hw
  obtain ⟨hsM, ⟨fs, hrc⟩, hag⟩ := hag k sgC hpC
  refine lv_istore (lv' := [(5, .int k), (0, .ref b), (1, .ref xo), (2, .ref mo), (3, .ref ot), (4, .int (nI i))]) hx hb dL_law_1681 hl (by decide) rfl (fun ls hl => ?_)
  refine lv_aload_n hx hb dL_law_1683 rfl (lv_at hl 3 rfl) ?_
  refine lv_aload_n hx hb dL_law_1684 rfl (lv_at hl 1 rfl) ?_
  refine lv_iload hx hb dL_law_1685 (lv_at hl 5 rfl) ?_
  refine lv_iconst (v := nI 1) hx hb dL_law_1687 (by decide) ?_
  refine x_iadd E.M (n := i + 1) dL_law_1688 rfl ?_
  refine law_rd E (A1 := A) (k := i + 1) hw (by omega) h1 dL_law_1689 ?_
  refine lv_aload_n hx hb dL_law_1690 rfl (lv_at hl 1 rfl) ?_
  refine lv_iload hx hb dL_law_1691 (lv_at hl 5 rfl) ?_
  refine lv_iconst (v := nI 2) hx hb dL_law_1693 (by decide) ?_
  refine x_iadd E.M (n := i + 2) dL_law_1694 rfl ?_
  refine law_rd E (A1 := A) (k := i + 2) hw (by omega) h2 dL_law_1695 ?_
  refine x_cVI (As := [.int c1, .int c2]) hM cw_L_204 isM 12 0 E.M E.hK E.hZ hw hl.1 hsM hndM hrc rfl rfl ⟨by omega, by omega⟩ ⟨by omega, by omega⟩ rfl rfl (Nat.le_of_ble_eq_true rfl) dL_law_1696 ?_
  intro r sgM hpM H locs hw
  obtain ⟨hend, hK⟩ := hag r sgM hpM
  refine lv_istore (lv' := [(6, .int r), (5, .int k), (0, .ref b), (1, .ref xo), (2, .ref mo), (3, .ref ot), (4, .int (nI i))]) hx hb dL_law_1699 hl (by decide) rfl (fun ls hl => ?_)
  exact law_tail E dL_law_1701 dL_law_1702 dL_law_1705 dL_law_1707 dL_law_1712 dL_law_1714 dL_law_1717 dL_law_1718 dL_law_1719 dL_law_1720 dL_law_1722 dL_law_1723 dL_law_1724 dL_law_1729 (by decide) ⟨by omega, by omega⟩ hw hl hend hK
set_option maxHeartbeats 2000000 in
theorem case_endPrice (E : LE p l R s m args c G Y A b L xs) {c1 : Int32} (h1 : xs (i + 1) = c1) (hi : i + 6 ≤ L) (hC : CtL l yL_endPrice cL_endPrice 4 [(0, 9, 12, 28)] fr lo [.ref xo, .int c1, .ref ot] segsC postC G Y) (hM : CtI l yX6_endPrice cX6_endPrice 2 .int fr2 lo2 [.ref mo, .int c1] segsM postM G Y) (hb4 : fr ≤ 500 ∧ lo ≤ 5000 ∧ fr2 ≤ 500 ∧ lo2 ≤ 5000) (hs : is.map (fun i => segs[i]?) = segsC.map some) (hnd : va_nd is = true) (hndM : va_nd isM = true) (hf : cells + 1 ≤ R.cells ∧ slots + 6 ≤ R.slots) (hw : xW G A s.heap segs H locs) (hl : lv_has ls 7 [(0, .ref b), (1, .ref xo), (2, .ref mo), (3, .ref ot), (4, .int (nI i))])
    (hag : ∀ k sgC, postC k sgC → isM.map (fun i => (xPut segs is sgC)[i]?) = segsM.map some ∧ (∃ fs, (xPut segs is sgC)[12]? = some [(mo, .inr (5, fs))]) ∧ ∀ r sgM, postM r sgM → lawEnd Y mo ot k r (xPut (xPut segs is sgC) isM sgM) ∧ ∀ H locs ls, xW G A s.heap (xPut (xPut segs is sgC) isM sgM) H locs → lv_has ls 7 [(0, .ref b), (1, .ref xo), (2, .ref mo), (3, .ref ot), (4, .int (nI i))] → W p l e R s m args below meth c H locs (cells + 1) (slots + 6) Q (F0 m 2113 ls [])) :
    W p l e R s m args below meth c H locs cells slots Q (F0 m 1745 ls []) := by
  obtain ⟨hx, hb, -⟩ := id E.M
  have hRR := E.hR
  have hLL := E.hL
  refine lv_aload_n hx hb dL_law_1745 rfl (lv_at hl 1 rfl) ?_
  refine lv_aload_n hx hb dL_law_1746 rfl (lv_at hl 0 rfl) ?_
  refine lv_iload hx hb dL_law_1747 (lv_at hl 4 rfl) ?_
  refine lv_iconst (v := nI 1) hx hb dL_law_1749 (by decide) ?_
  refine x_iadd E.M (n := i + 1) dL_law_1750 rfl ?_
  refine law_rd E (A1 := A) (k := i + 1) hw (by omega) h1 dL_law_1751 ?_
  refine lv_aload_n hx hb dL_law_1752 rfl (lv_at hl 3 rfl) ?_
  refine x_cSL (As := [.ref xo, .int c1, .ref ot]) hC cl_endPrice is E.M E.hK E.hZ E.hN hw hl.1 hs hnd ⟨by omega, by omega⟩ ⟨by omega, by omega⟩ rfl rfl (Nat.le_of_ble_eq_true rfl) dL_law_1753 ?_
  intro k sgC hpC H locs hw
  obtain ⟨hsM, ⟨fs, hrc⟩, hag⟩ := hag k sgC hpC
  refine lv_istore (lv' := [(5, .int k), (0, .ref b), (1, .ref xo), (2, .ref mo), (3, .ref ot), (4, .int (nI i))]) hx hb dL_law_1756 hl (by decide) rfl (fun ls hl => ?_)
  refine lv_aload_n hx hb dL_law_1758 rfl (lv_at hl 3 rfl) ?_
  refine lv_aload_n hx hb dL_law_1759 rfl (lv_at hl 1 rfl) ?_
  refine lv_iload hx hb dL_law_1760 (lv_at hl 5 rfl) ?_
  refine lv_iconst (v := nI 1) hx hb dL_law_1762 (by decide) ?_
  refine x_iadd E.M (n := i + 1) dL_law_1763 rfl ?_
  refine law_rd E (A1 := A) (k := i + 1) hw (by omega) h1 dL_law_1764 ?_
  refine x_cVI (As := [.int c1]) hM cw_L_211 isM 12 0 E.M E.hK E.hZ hw hl.1 hsM hndM hrc rfl rfl ⟨by omega, by omega⟩ ⟨by omega, by omega⟩ rfl rfl (Nat.le_of_ble_eq_true rfl) dL_law_1765 ?_
  intro r sgM hpM H locs hw
  obtain ⟨hend, hK⟩ := hag r sgM hpM
  refine lv_istore (lv' := [(6, .int r), (5, .int k), (0, .ref b), (1, .ref xo), (2, .ref mo), (3, .ref ot), (4, .int (nI i))]) hx hb dL_law_1768 hl (by decide) rfl (fun ls hl => ?_)
  exact law_tail E dL_law_1770 dL_law_1771 dL_law_1774 dL_law_1776 dL_law_1781 dL_law_1783 dL_law_1786 dL_law_1787 dL_law_1788 dL_law_1789 dL_law_1791 dL_law_1792 dL_law_1793 dL_law_1798 (by decide) ⟨by omega, by omega⟩ hw hl hend hK
set_option maxHeartbeats 2000000 in
theorem case_runScript (E : LE p l R s m args c G Y A b L xs) {c1 : Int32} {c2 : Int32} {c3 : Int32} (h1 : xs (i + 1) = c1) (h2 : xs (i + 2) = c2) (h3 : xs (i + 3) = c3) {sc : Int64} (hsc : ((c2.toInt64 <<< ((nI 32).toInt64 &&& 63)) ||| ((c3.toInt64) &&& 4294967295)) = sc) (hi : i + 6 ≤ L) (hC : CtL l yL_runScript cL_runScript 6 [(0, 11, 14, 13)] fr lo [.ref xo, .int c1, .long sc, .ref ot] segsC postC G Y) (hM : CtI l yX6_runScript cX6_runScript 8 .int fr2 lo2 [.ref mo, .int c1, .long sc] segsM postM G Y) (hb4 : fr ≤ 500 ∧ lo ≤ 5000 ∧ fr2 ≤ 500 ∧ lo2 ≤ 5000) (hs : is.map (fun i => segs[i]?) = segsC.map some) (hnd : va_nd is = true) (hndM : va_nd isM = true) (hf : cells + 1 ≤ R.cells ∧ slots + 6 ≤ R.slots) (hw : xW G A s.heap segs H locs) (hl : lv_has ls 7 [(0, .ref b), (1, .ref xo), (2, .ref mo), (3, .ref ot), (4, .int (nI i))])
    (hag : ∀ k sgC, postC k sgC → isM.map (fun i => (xPut segs is sgC)[i]?) = segsM.map some ∧ (∃ fs, (xPut segs is sgC)[12]? = some [(mo, .inr (5, fs))]) ∧ ∀ r sgM, postM r sgM → lawEnd Y mo ot k r (xPut (xPut segs is sgC) isM sgM) ∧ ∀ H locs ls, xW G A s.heap (xPut (xPut segs is sgC) isM sgM) H locs → lv_has ls 7 [(0, .ref b), (1, .ref xo), (2, .ref mo), (3, .ref ot), (4, .int (nI i))] → W p l e R s m args below meth c H locs (cells + 1) (slots + 6) Q (F0 m 2113 ls [])) :
    W p l e R s m args below meth c H locs cells slots Q (F0 m 1801 ls []) := by
  obtain ⟨hx, hb, -⟩ := id E.M
  have hRR := E.hR
  have hLL := E.hL
  refine lv_aload_n hx hb dL_law_1801 rfl (lv_at hl 1 rfl) ?_
  refine lv_aload_n hx hb dL_law_1802 rfl (lv_at hl 0 rfl) ?_
  refine lv_iload hx hb dL_law_1803 (lv_at hl 4 rfl) ?_
  refine lv_iconst (v := nI 1) hx hb dL_law_1805 (by decide) ?_
  refine x_iadd E.M (n := i + 1) dL_law_1806 rfl ?_
  refine law_rd E (A1 := A) (k := i + 1) hw (by omega) h1 dL_law_1807 ?_
  refine lv_aload_n hx hb dL_law_1808 rfl (lv_at hl 0 rfl) ?_
  refine lv_iload hx hb dL_law_1809 (lv_at hl 4 rfl) ?_
  refine lv_iconst (v := nI 2) hx hb dL_law_1811 (by decide) ?_
  refine x_iadd E.M (n := i + 2) dL_law_1812 rfl ?_
  refine law_rd E (A1 := A) (k := i + 2) hw (by omega) h2 dL_law_1813 ?_
  refine lv_i2l (v := c2.toInt64) hx hb dL_law_1814 rfl ?_
  refine lv_bipush (v := nI 32) hx hb dL_law_1815 (by decide) ?_
  refine lv_lshl (v := (c2.toInt64 <<< ((nI 32).toInt64 &&& 63))) hx hb dL_law_1817 rfl ?_
  refine lv_aload_n hx hb dL_law_1818 rfl (lv_at hl 0 rfl) ?_
  refine lv_iload hx hb dL_law_1819 (lv_at hl 4 rfl) ?_
  refine lv_iconst (v := nI 3) hx hb dL_law_1821 (by decide) ?_
  refine x_iadd E.M (n := i + 3) dL_law_1822 rfl ?_
  refine law_rd E (A1 := A) (k := i + 3) hw (by omega) h3 dL_law_1823 ?_
  refine lv_i2l (v := c3.toInt64) hx hb dL_law_1824 rfl ?_
  refine lv_ldc2 (v := 4294967295) hx hb E.M.2.2.2.1 (E.M.2.2.2.2 _ mw_1313) dL_law_1825 ?_
  refine lv_land hx hb dL_law_1828 ?_
  refine lv_lor hx hb dL_law_1829 ?_
  refine x_topL hsc ?_
  refine lv_aload_n hx hb dL_law_1830 rfl (lv_at hl 3 rfl) ?_
  refine x_cSL (As := [.ref xo, .int c1, .long sc, .ref ot]) hC cl_runScript is E.M E.hK E.hZ E.hN hw hl.1 hs hnd ⟨by omega, by omega⟩ ⟨by omega, by omega⟩ rfl rfl (Nat.le_of_ble_eq_true rfl) dL_law_1831 ?_
  intro k sgC hpC H locs hw
  obtain ⟨hsM, ⟨fs, hrc⟩, hag⟩ := hag k sgC hpC
  refine lv_istore (lv' := [(5, .int k), (0, .ref b), (1, .ref xo), (2, .ref mo), (3, .ref ot), (4, .int (nI i))]) hx hb dL_law_1834 hl (by decide) rfl (fun ls hl => ?_)
  refine lv_aload_n hx hb dL_law_1836 rfl (lv_at hl 3 rfl) ?_
  refine lv_aload_n hx hb dL_law_1837 rfl (lv_at hl 1 rfl) ?_
  refine lv_iload hx hb dL_law_1838 (lv_at hl 5 rfl) ?_
  refine lv_iconst (v := nI 1) hx hb dL_law_1840 (by decide) ?_
  refine x_iadd E.M (n := i + 1) dL_law_1841 rfl ?_
  refine law_rd E (A1 := A) (k := i + 1) hw (by omega) h1 dL_law_1842 ?_
  refine lv_aload_n hx hb dL_law_1843 rfl (lv_at hl 1 rfl) ?_
  refine lv_iload hx hb dL_law_1844 (lv_at hl 5 rfl) ?_
  refine lv_iconst (v := nI 2) hx hb dL_law_1846 (by decide) ?_
  refine x_iadd E.M (n := i + 2) dL_law_1847 rfl ?_
  refine law_rd E (A1 := A) (k := i + 2) hw (by omega) h2 dL_law_1848 ?_
  refine lv_i2l (v := c2.toInt64) hx hb dL_law_1849 rfl ?_
  refine lv_bipush (v := nI 32) hx hb dL_law_1850 (by decide) ?_
  refine lv_lshl (v := (c2.toInt64 <<< ((nI 32).toInt64 &&& 63))) hx hb dL_law_1852 rfl ?_
  refine lv_aload_n hx hb dL_law_1853 rfl (lv_at hl 1 rfl) ?_
  refine lv_iload hx hb dL_law_1854 (lv_at hl 5 rfl) ?_
  refine lv_iconst (v := nI 3) hx hb dL_law_1856 (by decide) ?_
  refine x_iadd E.M (n := i + 3) dL_law_1857 rfl ?_
  refine law_rd E (A1 := A) (k := i + 3) hw (by omega) h3 dL_law_1858 ?_
  refine lv_i2l (v := c3.toInt64) hx hb dL_law_1859 rfl ?_
  refine lv_ldc2 (v := 4294967295) hx hb E.M.2.2.2.1 (E.M.2.2.2.2 _ mw_1313) dL_law_1860 ?_
  refine lv_land hx hb dL_law_1863 ?_
  refine lv_lor hx hb dL_law_1864 ?_
  refine x_topL hsc ?_
  refine x_cVI (As := [.int c1, .long sc]) hM cw_L_217 isM 12 0 E.M E.hK E.hZ hw hl.1 hsM hndM hrc rfl rfl ⟨by omega, by omega⟩ ⟨by omega, by omega⟩ rfl rfl (Nat.le_of_ble_eq_true rfl) dL_law_1865 ?_
  intro r sgM hpM H locs hw
  obtain ⟨hend, hK⟩ := hag r sgM hpM
  refine lv_istore (lv' := [(6, .int r), (5, .int k), (0, .ref b), (1, .ref xo), (2, .ref mo), (3, .ref ot), (4, .int (nI i))]) hx hb dL_law_1868 hl (by decide) rfl (fun ls hl => ?_)
  exact law_tail E dL_law_1870 dL_law_1871 dL_law_1874 dL_law_1876 dL_law_1881 dL_law_1883 dL_law_1886 dL_law_1887 dL_law_1888 dL_law_1889 dL_law_1891 dL_law_1892 dL_law_1893 dL_law_1898 (by decide) ⟨by omega, by omega⟩ hw hl hend hK
set_option maxHeartbeats 2000000 in
theorem case_simulate (E : LE p l R s m args c G Y A b L xs) {c1 : Int32} {c2 : Int32} {c3 : Int32} (h1 : xs (i + 1) = c1) (h2 : xs (i + 2) = c2) (h3 : xs (i + 3) = c3) {sc : Int64} (hsc : ((c1.toInt64 <<< ((nI 32).toInt64 &&& 63)) ||| ((c2.toInt64) &&& 4294967295)) = sc) (hi : i + 6 ≤ L) (hC : CtL l yL_simulate cL_simulate 6 [(0, 11, 14, 13)] fr lo [.ref xo, .long sc, .int c3, .ref ot] segsC postC G Y) (hM : CtI l yX6_simulate cX6_simulate 7 .int fr2 lo2 [.ref mo, .long sc, .int c3] segsM postM G Y) (hb4 : fr ≤ 500 ∧ lo ≤ 5000 ∧ fr2 ≤ 500 ∧ lo2 ≤ 5000) (hs : is.map (fun i => segs[i]?) = segsC.map some) (hnd : va_nd is = true) (hndM : va_nd isM = true) (hf : cells + 1 ≤ R.cells ∧ slots + 6 ≤ R.slots) (hw : xW G A s.heap segs H locs) (hl : lv_has ls 7 [(0, .ref b), (1, .ref xo), (2, .ref mo), (3, .ref ot), (4, .int (nI i))])
    (hag : ∀ k sgC, postC k sgC → isM.map (fun i => (xPut segs is sgC)[i]?) = segsM.map some ∧ (∃ fs, (xPut segs is sgC)[12]? = some [(mo, .inr (5, fs))]) ∧ ∀ r sgM, postM r sgM → lawEnd Y mo ot k r (xPut (xPut segs is sgC) isM sgM) ∧ ∀ H locs ls, xW G A s.heap (xPut (xPut segs is sgC) isM sgM) H locs → lv_has ls 7 [(0, .ref b), (1, .ref xo), (2, .ref mo), (3, .ref ot), (4, .int (nI i))] → W p l e R s m args below meth c H locs (cells + 1) (slots + 6) Q (F0 m 2113 ls [])) :
    W p l e R s m args below meth c H locs cells slots Q (F0 m 1901 ls []) := by
  obtain ⟨hx, hb, -⟩ := id E.M
  have hRR := E.hR
  have hLL := E.hL
  refine lv_aload_n hx hb dL_law_1901 rfl (lv_at hl 1 rfl) ?_
  refine lv_aload_n hx hb dL_law_1902 rfl (lv_at hl 0 rfl) ?_
  refine lv_iload hx hb dL_law_1903 (lv_at hl 4 rfl) ?_
  refine lv_iconst (v := nI 1) hx hb dL_law_1905 (by decide) ?_
  refine x_iadd E.M (n := i + 1) dL_law_1906 rfl ?_
  refine law_rd E (A1 := A) (k := i + 1) hw (by omega) h1 dL_law_1907 ?_
  refine lv_i2l (v := c1.toInt64) hx hb dL_law_1908 rfl ?_
  refine lv_bipush (v := nI 32) hx hb dL_law_1909 (by decide) ?_
  refine lv_lshl (v := (c1.toInt64 <<< ((nI 32).toInt64 &&& 63))) hx hb dL_law_1911 rfl ?_
  refine lv_aload_n hx hb dL_law_1912 rfl (lv_at hl 0 rfl) ?_
  refine lv_iload hx hb dL_law_1913 (lv_at hl 4 rfl) ?_
  refine lv_iconst (v := nI 2) hx hb dL_law_1915 (by decide) ?_
  refine x_iadd E.M (n := i + 2) dL_law_1916 rfl ?_
  refine law_rd E (A1 := A) (k := i + 2) hw (by omega) h2 dL_law_1917 ?_
  refine lv_i2l (v := c2.toInt64) hx hb dL_law_1918 rfl ?_
  refine lv_ldc2 (v := 4294967295) hx hb E.M.2.2.2.1 (E.M.2.2.2.2 _ mw_1313) dL_law_1919 ?_
  refine lv_land hx hb dL_law_1922 ?_
  refine lv_lor hx hb dL_law_1923 ?_
  refine x_topL hsc ?_
  refine lv_aload_n hx hb dL_law_1924 rfl (lv_at hl 0 rfl) ?_
  refine lv_iload hx hb dL_law_1925 (lv_at hl 4 rfl) ?_
  refine lv_iconst (v := nI 3) hx hb dL_law_1927 (by decide) ?_
  refine x_iadd E.M (n := i + 3) dL_law_1928 rfl ?_
  refine law_rd E (A1 := A) (k := i + 3) hw (by omega) h3 dL_law_1929 ?_
  refine lv_aload_n hx hb dL_law_1930 rfl (lv_at hl 3 rfl) ?_
  refine x_cSL (As := [.ref xo, .long sc, .int c3, .ref ot]) hC cl_simulate is E.M E.hK E.hZ E.hN hw hl.1 hs hnd ⟨by omega, by omega⟩ ⟨by omega, by omega⟩ rfl rfl (Nat.le_of_ble_eq_true rfl) dL_law_1931 ?_
  intro k sgC hpC H locs hw
  obtain ⟨hsM, ⟨fs, hrc⟩, hag⟩ := hag k sgC hpC
  refine lv_istore (lv' := [(5, .int k), (0, .ref b), (1, .ref xo), (2, .ref mo), (3, .ref ot), (4, .int (nI i))]) hx hb dL_law_1934 hl (by decide) rfl (fun ls hl => ?_)
  refine lv_aload_n hx hb dL_law_1936 rfl (lv_at hl 3 rfl) ?_
  refine lv_aload_n hx hb dL_law_1937 rfl (lv_at hl 1 rfl) ?_
  refine lv_iload hx hb dL_law_1938 (lv_at hl 5 rfl) ?_
  refine lv_iconst (v := nI 1) hx hb dL_law_1940 (by decide) ?_
  refine x_iadd E.M (n := i + 1) dL_law_1941 rfl ?_
  refine law_rd E (A1 := A) (k := i + 1) hw (by omega) h1 dL_law_1942 ?_
  refine lv_i2l (v := c1.toInt64) hx hb dL_law_1943 rfl ?_
  refine lv_bipush (v := nI 32) hx hb dL_law_1944 (by decide) ?_
  refine lv_lshl (v := (c1.toInt64 <<< ((nI 32).toInt64 &&& 63))) hx hb dL_law_1946 rfl ?_
  refine lv_aload_n hx hb dL_law_1947 rfl (lv_at hl 1 rfl) ?_
  refine lv_iload hx hb dL_law_1948 (lv_at hl 5 rfl) ?_
  refine lv_iconst (v := nI 2) hx hb dL_law_1950 (by decide) ?_
  refine x_iadd E.M (n := i + 2) dL_law_1951 rfl ?_
  refine law_rd E (A1 := A) (k := i + 2) hw (by omega) h2 dL_law_1952 ?_
  refine lv_i2l (v := c2.toInt64) hx hb dL_law_1953 rfl ?_
  refine lv_ldc2 (v := 4294967295) hx hb E.M.2.2.2.1 (E.M.2.2.2.2 _ mw_1313) dL_law_1954 ?_
  refine lv_land hx hb dL_law_1957 ?_
  refine lv_lor hx hb dL_law_1958 ?_
  refine x_topL hsc ?_
  refine lv_aload_n hx hb dL_law_1959 rfl (lv_at hl 1 rfl) ?_
  refine lv_iload hx hb dL_law_1960 (lv_at hl 5 rfl) ?_
  refine lv_iconst (v := nI 3) hx hb dL_law_1962 (by decide) ?_
  refine x_iadd E.M (n := i + 3) dL_law_1963 rfl ?_
  refine law_rd E (A1 := A) (k := i + 3) hw (by omega) h3 dL_law_1964 ?_
  refine x_cVI (As := [.long sc, .int c3]) hM cw_L_221 isM 12 0 E.M E.hK E.hZ hw hl.1 hsM hndM hrc rfl rfl ⟨by omega, by omega⟩ ⟨by omega, by omega⟩ rfl rfl (Nat.le_of_ble_eq_true rfl) dL_law_1965 ?_
  intro r sgM hpM H locs hw
  obtain ⟨hend, hK⟩ := hag r sgM hpM
  refine lv_istore (lv' := [(6, .int r), (5, .int k), (0, .ref b), (1, .ref xo), (2, .ref mo), (3, .ref ot), (4, .int (nI i))]) hx hb dL_law_1968 hl (by decide) rfl (fun ls hl => ?_)
  exact law_tail E dL_law_1970 dL_law_1971 dL_law_1974 dL_law_1976 dL_law_1981 dL_law_1983 dL_law_1986 dL_law_1987 dL_law_1988 dL_law_1989 dL_law_1991 dL_law_1992 dL_law_1993 dL_law_1998 (by decide) ⟨by omega, by omega⟩ hw hl hend hK
set_option maxHeartbeats 2000000 in
theorem case_save (E : LE p l R s m args c G Y A b L xs) {c1 : Int32} (h1 : xs (i + 1) = c1) (hi : i + 6 ≤ L) (hC : CtL l yL_save cL_save 4 [(0, 9, 12, 28)] fr lo [.ref xo, .int c1, .ref ot] segsC postC G Y) (hM : CtI l yX6_save cX6_save 2 .int fr2 lo2 [.ref mo, .int c1] segsM postM G Y) (hb4 : fr ≤ 500 ∧ lo ≤ 5000 ∧ fr2 ≤ 500 ∧ lo2 ≤ 5000) (hs : is.map (fun i => segs[i]?) = segsC.map some) (hnd : va_nd is = true) (hndM : va_nd isM = true) (hf : cells + 1 ≤ R.cells ∧ slots + 6 ≤ R.slots) (hw : xW G A s.heap segs H locs) (hl : lv_has ls 7 [(0, .ref b), (1, .ref xo), (2, .ref mo), (3, .ref ot), (4, .int (nI i))])
    (hag : ∀ k sgC, postC k sgC → isM.map (fun i => (xPut segs is sgC)[i]?) = segsM.map some ∧ (∃ fs, (xPut segs is sgC)[12]? = some [(mo, .inr (5, fs))]) ∧ ∀ r sgM, postM r sgM → lawEnd Y mo ot k r (xPut (xPut segs is sgC) isM sgM) ∧ ∀ H locs ls, xW G A s.heap (xPut (xPut segs is sgC) isM sgM) H locs → lv_has ls 7 [(0, .ref b), (1, .ref xo), (2, .ref mo), (3, .ref ot), (4, .int (nI i))] → W p l e R s m args below meth c H locs (cells + 1) (slots + 6) Q (F0 m 2113 ls [])) :
    W p l e R s m args below meth c H locs cells slots Q (F0 m 2001 ls []) := by
  obtain ⟨hx, hb, -⟩ := id E.M
  have hRR := E.hR
  have hLL := E.hL
  refine lv_aload_n hx hb dL_law_2001 rfl (lv_at hl 1 rfl) ?_
  refine lv_aload_n hx hb dL_law_2002 rfl (lv_at hl 0 rfl) ?_
  refine lv_iload hx hb dL_law_2003 (lv_at hl 4 rfl) ?_
  refine lv_iconst (v := nI 1) hx hb dL_law_2005 (by decide) ?_
  refine x_iadd E.M (n := i + 1) dL_law_2006 rfl ?_
  refine law_rd E (A1 := A) (k := i + 1) hw (by omega) h1 dL_law_2007 ?_
  refine lv_aload_n hx hb dL_law_2008 rfl (lv_at hl 3 rfl) ?_
  refine x_cSL (As := [.ref xo, .int c1, .ref ot]) hC cl_save is E.M E.hK E.hZ E.hN hw hl.1 hs hnd ⟨by omega, by omega⟩ ⟨by omega, by omega⟩ rfl rfl (Nat.le_of_ble_eq_true rfl) dL_law_2009 ?_
  intro k sgC hpC H locs hw
  obtain ⟨hsM, ⟨fs, hrc⟩, hag⟩ := hag k sgC hpC
  refine lv_istore (lv' := [(5, .int k), (0, .ref b), (1, .ref xo), (2, .ref mo), (3, .ref ot), (4, .int (nI i))]) hx hb dL_law_2012 hl (by decide) rfl (fun ls hl => ?_)
  refine lv_aload_n hx hb dL_law_2014 rfl (lv_at hl 3 rfl) ?_
  refine lv_aload_n hx hb dL_law_2015 rfl (lv_at hl 1 rfl) ?_
  refine lv_iload hx hb dL_law_2016 (lv_at hl 5 rfl) ?_
  refine lv_iconst (v := nI 1) hx hb dL_law_2018 (by decide) ?_
  refine x_iadd E.M (n := i + 1) dL_law_2019 rfl ?_
  refine law_rd E (A1 := A) (k := i + 1) hw (by omega) h1 dL_law_2020 ?_
  refine x_cVI (As := [.int c1]) hM cw_L_224 isM 12 0 E.M E.hK E.hZ hw hl.1 hsM hndM hrc rfl rfl ⟨by omega, by omega⟩ ⟨by omega, by omega⟩ rfl rfl (Nat.le_of_ble_eq_true rfl) dL_law_2021 ?_
  intro r sgM hpM H locs hw
  obtain ⟨hend, hK⟩ := hag r sgM hpM
  refine lv_istore (lv' := [(6, .int r), (5, .int k), (0, .ref b), (1, .ref xo), (2, .ref mo), (3, .ref ot), (4, .int (nI i))]) hx hb dL_law_2024 hl (by decide) rfl (fun ls hl => ?_)
  exact law_tail E dL_law_2026 dL_law_2027 dL_law_2030 dL_law_2032 dL_law_2037 dL_law_2039 dL_law_2042 dL_law_2043 dL_law_2044 dL_law_2045 dL_law_2047 dL_law_2048 dL_law_2049 dL_law_2054 (by decide) ⟨by omega, by omega⟩ hw hl hend hK
set_option maxHeartbeats 2000000 in
theorem case_restore (E : LE p l R s m args c G Y A b L xs) {c1 : Int32} (h1 : xs (i + 1) = c1) (hi : i + 6 ≤ L) (hC : CtL l yL_restore cL_restore 4 [(0, 9, 12, 28), (0, 9, 15, 15)] fr lo [.ref xo, .int c1, .ref ot] segsC postC G Y) (hM : CtI l yX6_restore cX6_restore 2 .int fr2 lo2 [.ref mo, .int c1] segsM postM G Y) (hb4 : fr ≤ 500 ∧ lo ≤ 5000 ∧ fr2 ≤ 500 ∧ lo2 ≤ 5000) (hs : is.map (fun i => segs[i]?) = segsC.map some) (hnd : va_nd is = true) (hndM : va_nd isM = true) (hf : cells + 1 ≤ R.cells ∧ slots + 6 ≤ R.slots) (hw : xW G A s.heap segs H locs) (hl : lv_has ls 7 [(0, .ref b), (1, .ref xo), (2, .ref mo), (3, .ref ot), (4, .int (nI i))])
    (hag : ∀ k sgC, postC k sgC → isM.map (fun i => (xPut segs is sgC)[i]?) = segsM.map some ∧ (∃ fs, (xPut segs is sgC)[12]? = some [(mo, .inr (5, fs))]) ∧ ∀ r sgM, postM r sgM → lawEnd Y mo ot k r (xPut (xPut segs is sgC) isM sgM) ∧ ∀ H locs ls, xW G A s.heap (xPut (xPut segs is sgC) isM sgM) H locs → lv_has ls 7 [(0, .ref b), (1, .ref xo), (2, .ref mo), (3, .ref ot), (4, .int (nI i))] → W p l e R s m args below meth c H locs (cells + 1) (slots + 6) Q (F0 m 2113 ls [])) :
    W p l e R s m args below meth c H locs cells slots Q (F0 m 2057 ls []) := by
  obtain ⟨hx, hb, -⟩ := id E.M
  have hRR := E.hR
  have hLL := E.hL
  refine lv_aload_n hx hb dL_law_2057 rfl (lv_at hl 1 rfl) ?_
  refine lv_aload_n hx hb dL_law_2058 rfl (lv_at hl 0 rfl) ?_
  refine lv_iload hx hb dL_law_2059 (lv_at hl 4 rfl) ?_
  refine lv_iconst (v := nI 1) hx hb dL_law_2061 (by decide) ?_
  refine x_iadd E.M (n := i + 1) dL_law_2062 rfl ?_
  refine law_rd E (A1 := A) (k := i + 1) hw (by omega) h1 dL_law_2063 ?_
  refine lv_aload_n hx hb dL_law_2064 rfl (lv_at hl 3 rfl) ?_
  refine x_cSL (As := [.ref xo, .int c1, .ref ot]) hC cl_restore is E.M E.hK E.hZ E.hN hw hl.1 hs hnd ⟨by omega, by omega⟩ ⟨by omega, by omega⟩ rfl rfl (Nat.le_of_ble_eq_true rfl) dL_law_2065 ?_
  intro k sgC hpC H locs hw
  obtain ⟨hsM, ⟨fs, hrc⟩, hag⟩ := hag k sgC hpC
  refine lv_istore (lv' := [(5, .int k), (0, .ref b), (1, .ref xo), (2, .ref mo), (3, .ref ot), (4, .int (nI i))]) hx hb dL_law_2068 hl (by decide) rfl (fun ls hl => ?_)
  refine lv_aload_n hx hb dL_law_2070 rfl (lv_at hl 3 rfl) ?_
  refine lv_aload_n hx hb dL_law_2071 rfl (lv_at hl 1 rfl) ?_
  refine lv_iload hx hb dL_law_2072 (lv_at hl 5 rfl) ?_
  refine lv_iconst (v := nI 1) hx hb dL_law_2074 (by decide) ?_
  refine x_iadd E.M (n := i + 1) dL_law_2075 rfl ?_
  refine law_rd E (A1 := A) (k := i + 1) hw (by omega) h1 dL_law_2076 ?_
  refine x_cVI (As := [.int c1]) hM cw_L_227 isM 12 0 E.M E.hK E.hZ hw hl.1 hsM hndM hrc rfl rfl ⟨by omega, by omega⟩ ⟨by omega, by omega⟩ rfl rfl (Nat.le_of_ble_eq_true rfl) dL_law_2077 ?_
  intro r sgM hpM H locs hw
  obtain ⟨hend, hK⟩ := hag r sgM hpM
  refine lv_istore (lv' := [(6, .int r), (5, .int k), (0, .ref b), (1, .ref xo), (2, .ref mo), (3, .ref ot), (4, .int (nI i))]) hx hb dL_law_2080 hl (by decide) rfl (fun ls hl => ?_)
  exact law_tail E dL_law_2082 dL_law_2083 dL_law_2086 dL_law_2088 dL_law_2093 dL_law_2095 dL_law_2098 dL_law_2099 dL_law_2100 dL_law_2101 dL_law_2103 dL_law_2104 dL_law_2105 dL_law_2110 (by decide) ⟨by omega, by omega⟩ hw hl hend hK
end LAWC
