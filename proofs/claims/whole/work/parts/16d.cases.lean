section
variable {p : Program} {l : Launch} {e : Env} {s : State} {m : MethodId} {args : Array Value} {below : List Frame} {meth : Method} {c : Code} {H : Heap} {locs : List Loc} {cells slots : Nat} {Q : State → Prop}
variable {D : va_G} {cA : Nat → ClassId} {I : mm_I} {r : mm_R} {b L i x y : Nat} {xs : Nat → Int32} {arr : Array Slot}
theorem lc_house (X : lw_Cx D cA p s m args c) (hX : va_X b L xs s s.heap) (hbl : b < s.heap.size) (hiL : i + 8 ≤ L) (hL : L ≤ 512) (hA : ALL I r x y) (hl : lv_has arr 4 [(0, .ref b), (1, .ref x), (2, .ref y), (3, .int (nI i))]) (hW : mm_Wd D cA s.heap.size I r H) (hS : va_S (mm_A s.heap.size) s.heap H locs) (hz : s.heap.size + cells = mm_t r) (hc : cells ≤ 600000) (hs : slots ≤ 7302250) (kk : lw_KK p l e s m args below meth c Q D cA x y arr cells slots) : W p l e room_1 s m args below meth c H locs cells slots Q (F0 m 188 arr []) := by
  refine lv_aload_n X.1 X.2.1 dL_law_188 rfl (lv_at hl 1 rfl) ?_
  refine lw_arg (k := 1) X hX hbl hS hl (by omega) (by decide) dL_law_189 dL_law_190 dL_law_191 dL_law_192 dL_law_193 ?_
  refine lw_arg (k := 2) X hX hbl hS hl (by omega) (by decide) dL_law_194 dL_law_195 dL_law_196 dL_law_197 dL_law_198 ?_
  refine lw_pair (jx := 50) (jm := 101) (As := [.int (xs (i + 1)), .int (xs (i + 2))]) (pc2 := 213) X (a_house hA (xs (i + 1)) (xs (i + 2))) hA dL_law_199 dL_law_213 dL_law_216 (by decide) (by decide) (by decide +kernel) (by decide +kernel) (by decide +kernel) ⟨rfl, rfl⟩ mw_95 mw_113 (Nat.le_of_ble_eq_true rfl) (Nat.le_of_ble_eq_true rfl) rfl rfl rfl hl.1 hW hS hz hc hs (fun v H locs hS k => ?_) kk
  refine lv_aload_n X.1 X.2.1 dL_law_202 rfl (lv_at hl 2 rfl) ?_
  refine lw_arg (k := 1) X hX hbl hS hl (by omega) (by decide) dL_law_203 dL_law_204 dL_law_205 dL_law_206 dL_law_207 ?_
  refine lw_arg (k := 2) X hX hbl hS hl (by omega) (by decide) dL_law_208 dL_law_209 dL_law_210 dL_law_211 dL_law_212 ?_
  exact k
theorem lc_hog (X : lw_Cx D cA p s m args c) (hX : va_X b L xs s s.heap) (hbl : b < s.heap.size) (hiL : i + 8 ≤ L) (hL : L ≤ 512) (hA : ALL I r x y) (hl : lv_has arr 4 [(0, .ref b), (1, .ref x), (2, .ref y), (3, .int (nI i))]) (hW : mm_Wd D cA s.heap.size I r H) (hS : va_S (mm_A s.heap.size) s.heap H locs) (hz : s.heap.size + cells = mm_t r) (hc : cells ≤ 600000) (hs : slots ≤ 7302250) (kk : lw_KK p l e s m args below meth c Q D cA x y arr cells slots) : W p l e room_1 s m args below meth c H locs cells slots Q (F0 m 221 arr []) := by
  refine lv_aload_n X.1 X.2.1 dL_law_221 rfl (lv_at hl 1 rfl) ?_
  refine lw_arg (k := 1) X hX hbl hS hl (by omega) (by decide) dL_law_222 dL_law_223 dL_law_224 dL_law_225 dL_law_226 ?_
  refine lw_arg (k := 2) X hX hbl hS hl (by omega) (by decide) dL_law_227 dL_law_228 dL_law_229 dL_law_230 dL_law_231 ?_
  refine lw_arg (k := 3) X hX hbl hS hl (by omega) (by decide) dL_law_232 dL_law_233 dL_law_234 dL_law_235 dL_law_236 ?_
  refine lw_pair (jx := 51) (jm := 102) (As := [.int (xs (i + 1)), .int (xs (i + 2)), .int (xs (i + 3))]) (pc2 := 256) X (a_hog hA (xs (i + 1)) (xs (i + 2)) (xs (i + 3))) hA dL_law_237 dL_law_256 dL_law_259 (by decide) (by decide) (by decide +kernel) (by decide +kernel) (by decide +kernel) ⟨rfl, rfl⟩ mw_123 mw_137 (Nat.le_of_ble_eq_true rfl) (Nat.le_of_ble_eq_true rfl) rfl rfl rfl hl.1 hW hS hz hc hs (fun v H locs hS k => ?_) kk
  refine lv_aload_n X.1 X.2.1 dL_law_240 rfl (lv_at hl 2 rfl) ?_
  refine lw_arg (k := 1) X hX hbl hS hl (by omega) (by decide) dL_law_241 dL_law_242 dL_law_243 dL_law_244 dL_law_245 ?_
  refine lw_arg (k := 2) X hX hbl hS hl (by omega) (by decide) dL_law_246 dL_law_247 dL_law_248 dL_law_249 dL_law_250 ?_
  refine lw_arg (k := 3) X hX hbl hS hl (by omega) (by decide) dL_law_251 dL_law_252 dL_law_253 dL_law_254 dL_law_255 ?_
  exact k
theorem lc_interest (X : lw_Cx D cA p s m args c) (hX : va_X b L xs s s.heap) (hbl : b < s.heap.size) (hiL : i + 8 ≤ L) (hL : L ≤ 512) (hA : ALL I r x y) (hl : lv_has arr 4 [(0, .ref b), (1, .ref x), (2, .ref y), (3, .int (nI i))]) (hW : mm_Wd D cA s.heap.size I r H) (hS : va_S (mm_A s.heap.size) s.heap H locs) (hz : s.heap.size + cells = mm_t r) (hc : cells ≤ 600000) (hs : slots ≤ 7302250) (kk : lw_KK p l e s m args below meth c Q D cA x y arr cells slots) : W p l e room_1 s m args below meth c H locs cells slots Q (F0 m 264 arr []) := by
  refine lv_aload_n X.1 X.2.1 dL_law_264 rfl (lv_at hl 1 rfl) ?_
  refine lw_arg (k := 1) X hX hbl hS hl (by omega) (by decide) dL_law_265 dL_law_266 dL_law_267 dL_law_268 dL_law_269 ?_
  refine lw_pair (jx := 52) (jm := 103) (As := [.int (xs (i + 1))]) (pc2 := 279) X (a_interest hA (xs (i + 1))) hA dL_law_270 dL_law_279 dL_law_282 (by decide) (by decide) (by decide +kernel) (by decide +kernel) (by decide +kernel) ⟨rfl, rfl⟩ mw_148 mw_153 (Nat.le_of_ble_eq_true rfl) (Nat.le_of_ble_eq_true rfl) rfl rfl rfl hl.1 hW hS hz hc hs (fun v H locs hS k => ?_) kk
  refine lv_aload_n X.1 X.2.1 dL_law_273 rfl (lv_at hl 2 rfl) ?_
  refine lw_arg (k := 1) X hX hbl hS hl (by omega) (by decide) dL_law_274 dL_law_275 dL_law_276 dL_law_277 dL_law_278 ?_
  exact k
theorem lc_of (X : lw_Cx D cA p s m args c) (hX : va_X b L xs s s.heap) (hbl : b < s.heap.size) (hiL : i + 8 ≤ L) (hL : L ≤ 512) (hA : ALL I r x y) (hl : lv_has arr 4 [(0, .ref b), (1, .ref x), (2, .ref y), (3, .int (nI i))]) (hW : mm_Wd D cA s.heap.size I r H) (hS : va_S (mm_A s.heap.size) s.heap H locs) (hz : s.heap.size + cells = mm_t r) (hc : cells ≤ 600000) (hs : slots ≤ 7302250) (kk : lw_KK p l e s m args below meth c Q D cA x y arr cells slots) : W p l e room_1 s m args below meth c H locs cells slots Q (F0 m 287 arr []) := by
  refine lv_aload_n X.1 X.2.1 dL_law_287 rfl (lv_at hl 1 rfl) ?_
  refine lw_arg (k := 1) X hX hbl hS hl (by omega) (by decide) dL_law_288 dL_law_289 dL_law_290 dL_law_291 dL_law_292 ?_
  refine lw_arg (k := 2) X hX hbl hS hl (by omega) (by decide) dL_law_293 dL_law_294 dL_law_295 dL_law_296 dL_law_297 ?_
  refine lw_pair (jx := 53) (jm := 106) (As := [.int (xs (i + 1)), .int (xs (i + 2))]) (pc2 := 312) X (a_of hA (xs (i + 1)) (xs (i + 2))) hA dL_law_298 dL_law_312 dL_law_315 (by decide) (by decide) (by decide +kernel) (by decide +kernel) (by decide +kernel) ⟨rfl, rfl⟩ mw_157 mw_172 (Nat.le_of_ble_eq_true rfl) (Nat.le_of_ble_eq_true rfl) rfl rfl rfl hl.1 hW hS hz hc hs (fun v H locs hS k => ?_) kk
  refine lv_aload_n X.1 X.2.1 dL_law_301 rfl (lv_at hl 2 rfl) ?_
  refine lw_arg (k := 1) X hX hbl hS hl (by omega) (by decide) dL_law_302 dL_law_303 dL_law_304 dL_law_305 dL_law_306 ?_
  refine lw_arg (k := 2) X hX hbl hS hl (by omega) (by decide) dL_law_307 dL_law_308 dL_law_309 dL_law_310 dL_law_311 ?_
  exact k
theorem lc_at (X : lw_Cx D cA p s m args c) (hX : va_X b L xs s s.heap) (hbl : b < s.heap.size) (hiL : i + 8 ≤ L) (hL : L ≤ 512) (hA : ALL I r x y) (hl : lv_has arr 4 [(0, .ref b), (1, .ref x), (2, .ref y), (3, .int (nI i))]) (hW : mm_Wd D cA s.heap.size I r H) (hS : va_S (mm_A s.heap.size) s.heap H locs) (hz : s.heap.size + cells = mm_t r) (hc : cells ≤ 600000) (hs : slots ≤ 7302250) (kk : lw_KK p l e s m args below meth c Q D cA x y arr cells slots) : W p l e room_1 s m args below meth c H locs cells slots Q (F0 m 320 arr []) := by
  refine lv_aload_n X.1 X.2.1 dL_law_320 rfl (lv_at hl 1 rfl) ?_
  refine lw_arg (k := 1) X hX hbl hS hl (by omega) (by decide) dL_law_321 dL_law_322 dL_law_323 dL_law_324 dL_law_325 ?_
  refine lw_arg (k := 2) X hX hbl hS hl (by omega) (by decide) dL_law_326 dL_law_327 dL_law_328 dL_law_329 dL_law_330 ?_
  refine lw_pair (jx := 54) (jm := 108) (As := [.int (xs (i + 1)), .int (xs (i + 2))]) (pc2 := 345) X (a_at hA (xs (i + 1)) (xs (i + 2))) hA dL_law_331 dL_law_345 dL_law_348 (by decide) (by decide) (by decide +kernel) (by decide +kernel) (by decide +kernel) ⟨rfl, rfl⟩ mw_182 mw_197 (Nat.le_of_ble_eq_true rfl) (Nat.le_of_ble_eq_true rfl) rfl rfl rfl hl.1 hW hS hz hc hs (fun v H locs hS k => ?_) kk
  refine lv_aload_n X.1 X.2.1 dL_law_334 rfl (lv_at hl 2 rfl) ?_
  refine lw_arg (k := 1) X hX hbl hS hl (by omega) (by decide) dL_law_335 dL_law_336 dL_law_337 dL_law_338 dL_law_339 ?_
  refine lw_arg (k := 2) X hX hbl hS hl (by omega) (by decide) dL_law_340 dL_law_341 dL_law_342 dL_law_343 dL_law_344 ?_
  exact k
theorem lc_type (X : lw_Cx D cA p s m args c) (hX : va_X b L xs s s.heap) (hbl : b < s.heap.size) (hiL : i + 8 ≤ L) (hL : L ≤ 512) (hA : ALL I r x y) (hl : lv_has arr 4 [(0, .ref b), (1, .ref x), (2, .ref y), (3, .int (nI i))]) (hW : mm_Wd D cA s.heap.size I r H) (hS : va_S (mm_A s.heap.size) s.heap H locs) (hz : s.heap.size + cells = mm_t r) (hc : cells ≤ 600000) (hs : slots ≤ 7302250) (kk : lw_KK p l e s m args below meth c Q D cA x y arr cells slots) : W p l e room_1 s m args below meth c H locs cells slots Q (F0 m 353 arr []) := by
  refine lv_aload_n X.1 X.2.1 dL_law_353 rfl (lv_at hl 1 rfl) ?_
  refine lw_arg (k := 1) X hX hbl hS hl (by omega) (by decide) dL_law_354 dL_law_355 dL_law_356 dL_law_357 dL_law_358 ?_
  refine lw_pair (jx := 55) (jm := 109) (As := [.int (xs (i + 1))]) (pc2 := 368) X (a_type hA (xs (i + 1))) hA dL_law_359 dL_law_368 dL_law_371 (by decide) (by decide) (by decide +kernel) (by decide +kernel) (by decide +kernel) ⟨rfl, rfl⟩ mw_208 mw_218 (Nat.le_of_ble_eq_true rfl) (Nat.le_of_ble_eq_true rfl) rfl rfl rfl hl.1 hW hS hz hc hs (fun v H locs hS k => ?_) kk
  refine lv_aload_n X.1 X.2.1 dL_law_362 rfl (lv_at hl 2 rfl) ?_
  refine lw_arg (k := 1) X hX hbl hS hl (by omega) (by decide) dL_law_363 dL_law_364 dL_law_365 dL_law_366 dL_law_367 ?_
  exact k
theorem lc_read (X : lw_Cx D cA p s m args c) (hX : va_X b L xs s s.heap) (hbl : b < s.heap.size) (hiL : i + 8 ≤ L) (hL : L ≤ 512) (hA : ALL I r x y) (hl : lv_has arr 4 [(0, .ref b), (1, .ref x), (2, .ref y), (3, .int (nI i))]) (hW : mm_Wd D cA s.heap.size I r H) (hS : va_S (mm_A s.heap.size) s.heap H locs) (hz : s.heap.size + cells = mm_t r) (hc : cells ≤ 600000) (hs : slots ≤ 7302250) (kk : lw_KK p l e s m args below meth c Q D cA x y arr cells slots) : W p l e room_1 s m args below meth c H locs cells slots Q (F0 m 376 arr []) := by
  refine lv_aload_n X.1 X.2.1 dL_law_376 rfl (lv_at hl 1 rfl) ?_
  refine lw_pair (jx := 56) (jm := 118) (As := []) (pc2 := 381) X (a_read hA ) hA dL_law_377 dL_law_381 dL_law_384 (by decide) (by decide) (by decide +kernel) (by decide +kernel) (by decide +kernel) ⟨rfl, rfl⟩ mw_223 mw_288 (Nat.le_of_ble_eq_true rfl) (Nat.le_of_ble_eq_true rfl) rfl rfl rfl hl.1 hW hS hz hc hs (fun v H locs hS k => ?_) kk
  refine lv_aload_n X.1 X.2.1 dL_law_380 rfl (lv_at hl 2 rfl) ?_
  exact k
theorem lc_count (X : lw_Cx D cA p s m args c) (hX : va_X b L xs s s.heap) (hbl : b < s.heap.size) (hiL : i + 8 ≤ L) (hL : L ≤ 512) (hA : ALL I r x y) (hl : lv_has arr 4 [(0, .ref b), (1, .ref x), (2, .ref y), (3, .int (nI i))]) (hW : mm_Wd D cA s.heap.size I r H) (hS : va_S (mm_A s.heap.size) s.heap H locs) (hz : s.heap.size + cells = mm_t r) (hc : cells ≤ 600000) (hs : slots ≤ 7302250) (kk : lw_KK p l e s m args below meth c Q D cA x y arr cells slots) : W p l e room_1 s m args below meth c H locs cells slots Q (F0 m 389 arr []) := by
  refine lv_aload_n X.1 X.2.1 dL_law_389 rfl (lv_at hl 1 rfl) ?_
  refine lw_arg (k := 1) X hX hbl hS hl (by omega) (by decide) dL_law_390 dL_law_391 dL_law_392 dL_law_393 dL_law_394 ?_
  refine lw_pair (jx := 57) (jm := 122) (As := [.int (xs (i + 1))]) (pc2 := 404) X (a_count hA (xs (i + 1))) hA dL_law_395 dL_law_404 dL_law_407 (by decide) (by decide) (by decide +kernel) (by decide +kernel) (by decide +kernel) ⟨rfl, rfl⟩ mw_328 mw_348 (Nat.le_of_ble_eq_true rfl) (Nat.le_of_ble_eq_true rfl) rfl rfl rfl hl.1 hW hS hz hc hs (fun v H locs hS k => ?_) kk
  refine lv_aload_n X.1 X.2.1 dL_law_398 rfl (lv_at hl 2 rfl) ?_
  refine lw_arg (k := 1) X hX hbl hS hl (by omega) (by decide) dL_law_399 dL_law_400 dL_law_401 dL_law_402 dL_law_403 ?_
  exact k
theorem lc_nights (X : lw_Cx D cA p s m args c) (hX : va_X b L xs s s.heap) (hbl : b < s.heap.size) (hiL : i + 8 ≤ L) (hL : L ≤ 512) (hA : ALL I r x y) (hl : lv_has arr 4 [(0, .ref b), (1, .ref x), (2, .ref y), (3, .int (nI i))]) (hW : mm_Wd D cA s.heap.size I r H) (hS : va_S (mm_A s.heap.size) s.heap H locs) (hz : s.heap.size + cells = mm_t r) (hc : cells ≤ 600000) (hs : slots ≤ 7302250) (kk : lw_KK p l e s m args below meth c Q D cA x y arr cells slots) : W p l e room_1 s m args below meth c H locs cells slots Q (F0 m 412 arr []) := by
  refine lv_aload_n X.1 X.2.1 dL_law_412 rfl (lv_at hl 1 rfl) ?_
  refine lw_arg (k := 1) X hX hbl hS hl (by omega) (by decide) dL_law_413 dL_law_414 dL_law_415 dL_law_416 dL_law_417 ?_
  refine lw_pair (jx := 58) (jm := 128) (As := [.int (xs (i + 1))]) (pc2 := 427) X (a_nights hA (xs (i + 1))) hA dL_law_418 dL_law_427 dL_law_430 (by decide) (by decide) (by decide +kernel) (by decide +kernel) (by decide +kernel) ⟨rfl, rfl⟩ mw_361 mw_402 (Nat.le_of_ble_eq_true rfl) (Nat.le_of_ble_eq_true rfl) rfl rfl rfl hl.1 hW hS hz hc hs (fun v H locs hS k => ?_) kk
  refine lv_aload_n X.1 X.2.1 dL_law_421 rfl (lv_at hl 2 rfl) ?_
  refine lw_arg (k := 1) X hX hbl hS hl (by omega) (by decide) dL_law_422 dL_law_423 dL_law_424 dL_law_425 dL_law_426 ?_
  exact k
theorem lc_put (X : lw_Cx D cA p s m args c) (hX : va_X b L xs s s.heap) (hbl : b < s.heap.size) (hiL : i + 8 ≤ L) (hL : L ≤ 512) (hA : ALL I r x y) (hl : lv_has arr 4 [(0, .ref b), (1, .ref x), (2, .ref y), (3, .int (nI i))]) (hW : mm_Wd D cA s.heap.size I r H) (hS : va_S (mm_A s.heap.size) s.heap H locs) (hz : s.heap.size + cells = mm_t r) (hc : cells ≤ 600000) (hs : slots ≤ 7302250) (kk : lw_KK p l e s m args below meth c Q D cA x y arr cells slots) : W p l e room_1 s m args below meth c H locs cells slots Q (F0 m 435 arr []) := by
  refine lv_aload_n X.1 X.2.1 dL_law_435 rfl (lv_at hl 1 rfl) ?_
  refine lw_arg (k := 1) X hX hbl hS hl (by omega) (by decide) dL_law_436 dL_law_437 dL_law_438 dL_law_439 dL_law_440 ?_
  refine lw_arg (k := 2) X hX hbl hS hl (by omega) (by decide) dL_law_441 dL_law_442 dL_law_443 dL_law_444 dL_law_445 ?_
  refine lw_pair (jx := 59) (jm := 129) (As := [.int (xs (i + 1)), .int (xs (i + 2))]) (pc2 := 460) X (a_put hA (xs (i + 1)) (xs (i + 2))) hA dL_law_446 dL_law_460 dL_law_463 (by decide) (by decide) (by decide +kernel) (by decide +kernel) (by decide +kernel) ⟨rfl, rfl⟩ mw_427 mw_431 (Nat.le_of_ble_eq_true rfl) (Nat.le_of_ble_eq_true rfl) rfl rfl rfl hl.1 hW hS hz hc hs (fun v H locs hS k => ?_) kk
  refine lv_aload_n X.1 X.2.1 dL_law_449 rfl (lv_at hl 2 rfl) ?_
  refine lw_arg (k := 1) X hX hbl hS hl (by omega) (by decide) dL_law_450 dL_law_451 dL_law_452 dL_law_453 dL_law_454 ?_
  refine lw_arg (k := 2) X hX hbl hS hl (by omega) (by decide) dL_law_455 dL_law_456 dL_law_457 dL_law_458 dL_law_459 ?_
  exact k
theorem lc_pay (X : lw_Cx D cA p s m args c) (hX : va_X b L xs s s.heap) (hbl : b < s.heap.size) (hiL : i + 8 ≤ L) (hL : L ≤ 512) (hA : ALL I r x y) (hl : lv_has arr 4 [(0, .ref b), (1, .ref x), (2, .ref y), (3, .int (nI i))]) (hW : mm_Wd D cA s.heap.size I r H) (hS : va_S (mm_A s.heap.size) s.heap H locs) (hz : s.heap.size + cells = mm_t r) (hc : cells ≤ 600000) (hs : slots ≤ 7302250) (kk : lw_KK p l e s m args below meth c Q D cA x y arr cells slots) : W p l e room_1 s m args below meth c H locs cells slots Q (F0 m 468 arr []) := by
  refine lv_aload_n X.1 X.2.1 dL_law_468 rfl (lv_at hl 1 rfl) ?_
  refine lw_arg (k := 1) X hX hbl hS hl (by omega) (by decide) dL_law_469 dL_law_470 dL_law_471 dL_law_472 dL_law_473 ?_
  refine lw_arg (k := 2) X hX hbl hS hl (by omega) (by decide) dL_law_474 dL_law_475 dL_law_476 dL_law_477 dL_law_478 ?_
  refine lw_pair (jx := 60) (jm := 130) (As := [.int (xs (i + 1)), .int (xs (i + 2))]) (pc2 := 493) X (a_pay hA (xs (i + 1)) (xs (i + 2))) hA dL_law_479 dL_law_493 dL_law_496 (by decide) (by decide) (by decide +kernel) (by decide +kernel) (by decide +kernel) ⟨rfl, rfl⟩ mw_435 mw_440 (Nat.le_of_ble_eq_true rfl) (Nat.le_of_ble_eq_true rfl) rfl rfl rfl hl.1 hW hS hz hc hs (fun v H locs hS k => ?_) kk
  refine lv_aload_n X.1 X.2.1 dL_law_482 rfl (lv_at hl 2 rfl) ?_
  refine lw_arg (k := 1) X hX hbl hS hl (by omega) (by decide) dL_law_483 dL_law_484 dL_law_485 dL_law_486 dL_law_487 ?_
  refine lw_arg (k := 2) X hX hbl hS hl (by omega) (by decide) dL_law_488 dL_law_489 dL_law_490 dL_law_491 dL_law_492 ?_
  exact k
theorem lc_drive (X : lw_Cx D cA p s m args c) (hX : va_X b L xs s s.heap) (hbl : b < s.heap.size) (hiL : i + 8 ≤ L) (hL : L ≤ 512) (hA : ALL I r x y) (hl : lv_has arr 4 [(0, .ref b), (1, .ref x), (2, .ref y), (3, .int (nI i))]) (hW : mm_Wd D cA s.heap.size I r H) (hS : va_S (mm_A s.heap.size) s.heap H locs) (hz : s.heap.size + cells = mm_t r) (hc : cells ≤ 600000) (hs : slots ≤ 7302250) (kk : lw_KK p l e s m args below meth c Q D cA x y arr cells slots) : W p l e room_1 s m args below meth c H locs cells slots Q (F0 m 501 arr []) := by
  refine lv_aload_n X.1 X.2.1 dL_law_501 rfl (lv_at hl 1 rfl) ?_
  refine lw_arg (k := 1) X hX hbl hS hl (by omega) (by decide) dL_law_502 dL_law_503 dL_law_504 dL_law_505 dL_law_506 ?_
  refine lw_arg (k := 2) X hX hbl hS hl (by omega) (by decide) dL_law_507 dL_law_508 dL_law_509 dL_law_510 dL_law_511 ?_
  refine lw_pair (jx := 61) (jm := 131) (As := [.int (xs (i + 1)), .int (xs (i + 2))]) (pc2 := 526) X (a_drive hA (xs (i + 1)) (xs (i + 2))) hA dL_law_512 dL_law_526 dL_law_529 (by decide) (by decide) (by decide +kernel) (by decide +kernel) (by decide +kernel) ⟨rfl, rfl⟩ mw_444 mw_448 (Nat.le_of_ble_eq_true rfl) (Nat.le_of_ble_eq_true rfl) rfl rfl rfl hl.1 hW hS hz hc hs (fun v H locs hS k => ?_) kk
  refine lv_aload_n X.1 X.2.1 dL_law_515 rfl (lv_at hl 2 rfl) ?_
  refine lw_arg (k := 1) X hX hbl hS hl (by omega) (by decide) dL_law_516 dL_law_517 dL_law_518 dL_law_519 dL_law_520 ?_
  refine lw_arg (k := 2) X hX hbl hS hl (by omega) (by decide) dL_law_521 dL_law_522 dL_law_523 dL_law_524 dL_law_525 ?_
  exact k
theorem lc_forgive (X : lw_Cx D cA p s m args c) (hX : va_X b L xs s s.heap) (hbl : b < s.heap.size) (hiL : i + 8 ≤ L) (hL : L ≤ 512) (hA : ALL I r x y) (hl : lv_has arr 4 [(0, .ref b), (1, .ref x), (2, .ref y), (3, .int (nI i))]) (hW : mm_Wd D cA s.heap.size I r H) (hS : va_S (mm_A s.heap.size) s.heap H locs) (hz : s.heap.size + cells = mm_t r) (hc : cells ≤ 600000) (hs : slots ≤ 7302250) (kk : lw_KK p l e s m args below meth c Q D cA x y arr cells slots) : W p l e room_1 s m args below meth c H locs cells slots Q (F0 m 534 arr []) := by
  refine lv_aload_n X.1 X.2.1 dL_law_534 rfl (lv_at hl 1 rfl) ?_
  refine lw_arg (k := 1) X hX hbl hS hl (by omega) (by decide) dL_law_535 dL_law_536 dL_law_537 dL_law_538 dL_law_539 ?_
  refine lw_pair (jx := 62) (jm := 132) (As := [.int (xs (i + 1))]) (pc2 := 549) X (a_forgive hA (xs (i + 1))) hA dL_law_540 dL_law_549 dL_law_552 (by decide) (by decide) (by decide +kernel) (by decide +kernel) (by decide +kernel) ⟨rfl, rfl⟩ mw_452 mw_456 (Nat.le_of_ble_eq_true rfl) (Nat.le_of_ble_eq_true rfl) rfl rfl rfl hl.1 hW hS hz hc hs (fun v H locs hS k => ?_) kk
  refine lv_aload_n X.1 X.2.1 dL_law_543 rfl (lv_at hl 2 rfl) ?_
  refine lw_arg (k := 1) X hX hbl hS hl (by omega) (by decide) dL_law_544 dL_law_545 dL_law_546 dL_law_547 dL_law_548 ?_
  exact k
theorem lc_drift (X : lw_Cx D cA p s m args c) (hX : va_X b L xs s s.heap) (hbl : b < s.heap.size) (hiL : i + 8 ≤ L) (hL : L ≤ 512) (hA : ALL I r x y) (hl : lv_has arr 4 [(0, .ref b), (1, .ref x), (2, .ref y), (3, .int (nI i))]) (hW : mm_Wd D cA s.heap.size I r H) (hS : va_S (mm_A s.heap.size) s.heap H locs) (hz : s.heap.size + cells = mm_t r) (hc : cells ≤ 600000) (hs : slots ≤ 7302250) (kk : lw_KK p l e s m args below meth c Q D cA x y arr cells slots) : W p l e room_1 s m args below meth c H locs cells slots Q (F0 m 557 arr []) := by
  refine lv_aload_n X.1 X.2.1 dL_law_557 rfl (lv_at hl 1 rfl) ?_
  refine lw_arg (k := 1) X hX hbl hS hl (by omega) (by decide) dL_law_558 dL_law_559 dL_law_560 dL_law_561 dL_law_562 ?_
  refine lw_pair (jx := 63) (jm := 133) (As := [.int (xs (i + 1))]) (pc2 := 572) X (a_drift hA (xs (i + 1))) hA dL_law_563 dL_law_572 dL_law_575 (by decide) (by decide) (by decide +kernel) (by decide +kernel) (by decide +kernel) ⟨rfl, rfl⟩ mw_460 mw_472 (Nat.le_of_ble_eq_true rfl) (Nat.le_of_ble_eq_true rfl) rfl rfl rfl hl.1 hW hS hz hc hs (fun v H locs hS k => ?_) kk
  refine lv_aload_n X.1 X.2.1 dL_law_566 rfl (lv_at hl 2 rfl) ?_
  refine lw_arg (k := 1) X hX hbl hS hl (by omega) (by decide) dL_law_567 dL_law_568 dL_law_569 dL_law_570 dL_law_571 ?_
  exact k
theorem lc_undo (X : lw_Cx D cA p s m args c) (hX : va_X b L xs s s.heap) (hbl : b < s.heap.size) (hiL : i + 8 ≤ L) (hL : L ≤ 512) (hA : ALL I r x y) (hl : lv_has arr 4 [(0, .ref b), (1, .ref x), (2, .ref y), (3, .int (nI i))]) (hW : mm_Wd D cA s.heap.size I r H) (hS : va_S (mm_A s.heap.size) s.heap H locs) (hz : s.heap.size + cells = mm_t r) (hc : cells ≤ 600000) (hs : slots ≤ 7302250) (kk : lw_KK p l e s m args below meth c Q D cA x y arr cells slots) : W p l e room_1 s m args below meth c H locs cells slots Q (F0 m 580 arr []) := by
  refine lv_aload_n X.1 X.2.1 dL_law_580 rfl (lv_at hl 1 rfl) ?_
  refine lw_pair (jx := 64) (jm := 134) (As := []) (pc2 := 585) X (a_undo hA ) hA dL_law_581 dL_law_585 dL_law_588 (by decide) (by decide) (by decide +kernel) (by decide +kernel) (by decide +kernel) ⟨rfl, rfl⟩ mw_480 mw_488 (Nat.le_of_ble_eq_true rfl) (Nat.le_of_ble_eq_true rfl) rfl rfl rfl hl.1 hW hS hz hc hs (fun v H locs hS k => ?_) kk
  refine lv_aload_n X.1 X.2.1 dL_law_584 rfl (lv_at hl 2 rfl) ?_
  exact k
theorem lc_seed (X : lw_Cx D cA p s m args c) (hX : va_X b L xs s s.heap) (hbl : b < s.heap.size) (hiL : i + 8 ≤ L) (hL : L ≤ 512) (hA : ALL I r x y) (hl : lv_has arr 4 [(0, .ref b), (1, .ref x), (2, .ref y), (3, .int (nI i))]) (hW : mm_Wd D cA s.heap.size I r H) (hS : va_S (mm_A s.heap.size) s.heap H locs) (hz : s.heap.size + cells = mm_t r) (hc : cells ≤ 600000) (hs : slots ≤ 7302250) (kk : lw_KK p l e s m args below meth c Q D cA x y arr cells slots) : W p l e room_1 s m args below meth c H locs cells slots Q (F0 m 593 arr []) := by
  refine lv_aload_n X.1 X.2.1 dL_law_593 rfl (lv_at hl 1 rfl) ?_
  refine lw_arg (k := 1) X hX hbl hS hl (by omega) (by decide) dL_law_594 dL_law_595 dL_law_596 dL_law_597 dL_law_598 ?_
  refine lw_pair (jx := 65) (jm := 135) (As := [.int (xs (i + 1))]) (pc2 := 608) X (a_seed hA (xs (i + 1))) hA dL_law_599 dL_law_608 dL_law_611 (by decide) (by decide) (by decide +kernel) (by decide +kernel) (by decide +kernel) ⟨rfl, rfl⟩ mw_492 mw_496 (Nat.le_of_ble_eq_true rfl) (Nat.le_of_ble_eq_true rfl) rfl rfl rfl hl.1 hW hS hz hc hs (fun v H locs hS k => ?_) kk
  refine lv_aload_n X.1 X.2.1 dL_law_602 rfl (lv_at hl 2 rfl) ?_
  refine lw_arg (k := 1) X hX hbl hS hl (by omega) (by decide) dL_law_603 dL_law_604 dL_law_605 dL_law_606 dL_law_607 ?_
  exact k
theorem lc_ahead (X : lw_Cx D cA p s m args c) (hX : va_X b L xs s s.heap) (hbl : b < s.heap.size) (hiL : i + 8 ≤ L) (hL : L ≤ 512) (hA : ALL I r x y) (hl : lv_has arr 4 [(0, .ref b), (1, .ref x), (2, .ref y), (3, .int (nI i))]) (hW : mm_Wd D cA s.heap.size I r H) (hS : va_S (mm_A s.heap.size) s.heap H locs) (hz : s.heap.size + cells = mm_t r) (hc : cells ≤ 600000) (hs : slots ≤ 7302250) (kk : lw_KK p l e s m args below meth c Q D cA x y arr cells slots) : W p l e room_1 s m args below meth c H locs cells slots Q (F0 m 616 arr []) := by
  refine lv_aload_n X.1 X.2.1 dL_law_616 rfl (lv_at hl 1 rfl) ?_
  refine lw_arg (k := 1) X hX hbl hS hl (by omega) (by decide) dL_law_617 dL_law_618 dL_law_619 dL_law_620 dL_law_621 ?_
  refine lw_arg (k := 2) X hX hbl hS hl (by omega) (by decide) dL_law_622 dL_law_623 dL_law_624 dL_law_625 dL_law_626 ?_
  refine lw_arg (k := 3) X hX hbl hS hl (by omega) (by decide) dL_law_627 dL_law_628 dL_law_629 dL_law_630 dL_law_631 ?_
  refine lw_pair (jx := 66) (jm := 138) (As := [.int (xs (i + 1)), .int (xs (i + 2)), .int (xs (i + 3))]) (pc2 := 651) X (a_ahead hA (xs (i + 1)) (xs (i + 2)) (xs (i + 3))) hA dL_law_632 dL_law_651 dL_law_654 (by decide) (by decide) (by decide +kernel) (by decide +kernel) (by decide +kernel) ⟨rfl, rfl⟩ mw_500 mw_513 (Nat.le_of_ble_eq_true rfl) (Nat.le_of_ble_eq_true rfl) rfl rfl rfl hl.1 hW hS hz hc hs (fun v H locs hS k => ?_) kk
  refine lv_aload_n X.1 X.2.1 dL_law_635 rfl (lv_at hl 2 rfl) ?_
  refine lw_arg (k := 1) X hX hbl hS hl (by omega) (by decide) dL_law_636 dL_law_637 dL_law_638 dL_law_639 dL_law_640 ?_
  refine lw_arg (k := 2) X hX hbl hS hl (by omega) (by decide) dL_law_641 dL_law_642 dL_law_643 dL_law_644 dL_law_645 ?_
  refine lw_arg (k := 3) X hX hbl hS hl (by omega) (by decide) dL_law_646 dL_law_647 dL_law_648 dL_law_649 dL_law_650 ?_
  exact k
theorem lc_where (X : lw_Cx D cA p s m args c) (hX : va_X b L xs s s.heap) (hbl : b < s.heap.size) (hiL : i + 8 ≤ L) (hL : L ≤ 512) (hA : ALL I r x y) (hl : lv_has arr 4 [(0, .ref b), (1, .ref x), (2, .ref y), (3, .int (nI i))]) (hW : mm_Wd D cA s.heap.size I r H) (hS : va_S (mm_A s.heap.size) s.heap H locs) (hz : s.heap.size + cells = mm_t r) (hc : cells ≤ 600000) (hs : slots ≤ 7302250) (kk : lw_KK p l e s m args below meth c Q D cA x y arr cells slots) : W p l e room_1 s m args below meth c H locs cells slots Q (F0 m 659 arr []) := by
  refine lv_aload_n X.1 X.2.1 dL_law_659 rfl (lv_at hl 1 rfl) ?_
  refine lw_arg (k := 1) X hX hbl hS hl (by omega) (by decide) dL_law_660 dL_law_661 dL_law_662 dL_law_663 dL_law_664 ?_
  refine lw_arg (k := 2) X hX hbl hS hl (by omega) (by decide) dL_law_665 dL_law_666 dL_law_667 dL_law_668 dL_law_669 ?_
  refine lw_pair (jx := 67) (jm := 139) (As := [.int (xs (i + 1)), .int (xs (i + 2))]) (pc2 := 684) X (a_where hA (xs (i + 1)) (xs (i + 2))) hA dL_law_670 dL_law_684 dL_law_687 (by decide) (by decide) (by decide +kernel) (by decide +kernel) (by decide +kernel) ⟨rfl, rfl⟩ mw_525 mw_529 (Nat.le_of_ble_eq_true rfl) (Nat.le_of_ble_eq_true rfl) rfl rfl rfl hl.1 hW hS hz hc hs (fun v H locs hS k => ?_) kk
  refine lv_aload_n X.1 X.2.1 dL_law_673 rfl (lv_at hl 2 rfl) ?_
  refine lw_arg (k := 1) X hX hbl hS hl (by omega) (by decide) dL_law_674 dL_law_675 dL_law_676 dL_law_677 dL_law_678 ?_
  refine lw_arg (k := 2) X hX hbl hS hl (by omega) (by decide) dL_law_679 dL_law_680 dL_law_681 dL_law_682 dL_law_683 ?_
  exact k
theorem lc_then (X : lw_Cx D cA p s m args c) (hX : va_X b L xs s s.heap) (hbl : b < s.heap.size) (hiL : i + 8 ≤ L) (hL : L ≤ 512) (hA : ALL I r x y) (hl : lv_has arr 4 [(0, .ref b), (1, .ref x), (2, .ref y), (3, .int (nI i))]) (hW : mm_Wd D cA s.heap.size I r H) (hS : va_S (mm_A s.heap.size) s.heap H locs) (hz : s.heap.size + cells = mm_t r) (hc : cells ≤ 600000) (hs : slots ≤ 7302250) (kk : lw_KK p l e s m args below meth c Q D cA x y arr cells slots) : W p l e room_1 s m args below meth c H locs cells slots Q (F0 m 692 arr []) := by
  refine lv_aload_n X.1 X.2.1 dL_law_692 rfl (lv_at hl 1 rfl) ?_
  refine lw_arg (k := 1) X hX hbl hS hl (by omega) (by decide) dL_law_693 dL_law_694 dL_law_695 dL_law_696 dL_law_697 ?_
  refine lw_arg (k := 2) X hX hbl hS hl (by omega) (by decide) dL_law_698 dL_law_699 dL_law_700 dL_law_701 dL_law_702 ?_
  refine lw_pair (jx := 68) (jm := 140) (As := [.int (xs (i + 1)), .int (xs (i + 2))]) (pc2 := 717) X (a_then hA (xs (i + 1)) (xs (i + 2))) hA dL_law_703 dL_law_717 dL_law_720 (by decide) (by decide) (by decide +kernel) (by decide +kernel) (by decide +kernel) ⟨rfl, rfl⟩ mw_533 mw_537 (Nat.le_of_ble_eq_true rfl) (Nat.le_of_ble_eq_true rfl) rfl rfl rfl hl.1 hW hS hz hc hs (fun v H locs hS k => ?_) kk
  refine lv_aload_n X.1 X.2.1 dL_law_706 rfl (lv_at hl 2 rfl) ?_
  refine lw_arg (k := 1) X hX hbl hS hl (by omega) (by decide) dL_law_707 dL_law_708 dL_law_709 dL_law_710 dL_law_711 ?_
  refine lw_arg (k := 2) X hX hbl hS hl (by omega) (by decide) dL_law_712 dL_law_713 dL_law_714 dL_law_715 dL_law_716 ?_
  exact k
theorem lc_lost (X : lw_Cx D cA p s m args c) (hX : va_X b L xs s s.heap) (hbl : b < s.heap.size) (hiL : i + 8 ≤ L) (hL : L ≤ 512) (hA : ALL I r x y) (hl : lv_has arr 4 [(0, .ref b), (1, .ref x), (2, .ref y), (3, .int (nI i))]) (hW : mm_Wd D cA s.heap.size I r H) (hS : va_S (mm_A s.heap.size) s.heap H locs) (hz : s.heap.size + cells = mm_t r) (hc : cells ≤ 600000) (hs : slots ≤ 7302250) (kk : lw_KK p l e s m args below meth c Q D cA x y arr cells slots) : W p l e room_1 s m args below meth c H locs cells slots Q (F0 m 725 arr []) := by
  refine lv_aload_n X.1 X.2.1 dL_law_725 rfl (lv_at hl 1 rfl) ?_
  refine lw_arg (k := 1) X hX hbl hS hl (by omega) (by decide) dL_law_726 dL_law_727 dL_law_728 dL_law_729 dL_law_730 ?_
  refine lw_pair (jx := 69) (jm := 141) (As := [.int (xs (i + 1))]) (pc2 := 740) X (a_lost hA (xs (i + 1))) hA dL_law_731 dL_law_740 dL_law_743 (by decide) (by decide) (by decide +kernel) (by decide +kernel) (by decide +kernel) ⟨rfl, rfl⟩ mw_541 mw_545 (Nat.le_of_ble_eq_true rfl) (Nat.le_of_ble_eq_true rfl) rfl rfl rfl hl.1 hW hS hz hc hs (fun v H locs hS k => ?_) kk
  refine lv_aload_n X.1 X.2.1 dL_law_734 rfl (lv_at hl 2 rfl) ?_
  refine lw_arg (k := 1) X hX hbl hS hl (by omega) (by decide) dL_law_735 dL_law_736 dL_law_737 dL_law_738 dL_law_739 ?_
  exact k
theorem lc_free (X : lw_Cx D cA p s m args c) (hX : va_X b L xs s s.heap) (hbl : b < s.heap.size) (hiL : i + 8 ≤ L) (hL : L ≤ 512) (hA : ALL I r x y) (hl : lv_has arr 4 [(0, .ref b), (1, .ref x), (2, .ref y), (3, .int (nI i))]) (hW : mm_Wd D cA s.heap.size I r H) (hS : va_S (mm_A s.heap.size) s.heap H locs) (hz : s.heap.size + cells = mm_t r) (hc : cells ≤ 600000) (hs : slots ≤ 7302250) (kk : lw_KK p l e s m args below meth c Q D cA x y arr cells slots) : W p l e room_1 s m args below meth c H locs cells slots Q (F0 m 748 arr []) := by
  refine lv_aload_n X.1 X.2.1 dL_law_748 rfl (lv_at hl 1 rfl) ?_
  refine lw_arg (k := 1) X hX hbl hS hl (by omega) (by decide) dL_law_749 dL_law_750 dL_law_751 dL_law_752 dL_law_753 ?_
  refine lw_pair (jx := 70) (jm := 142) (As := [.int (xs (i + 1))]) (pc2 := 763) X (a_free hA (xs (i + 1))) hA dL_law_754 dL_law_763 dL_law_766 (by decide) (by decide) (by decide +kernel) (by decide +kernel) (by decide +kernel) ⟨rfl, rfl⟩ mw_549 mw_553 (Nat.le_of_ble_eq_true rfl) (Nat.le_of_ble_eq_true rfl) rfl rfl rfl hl.1 hW hS hz hc hs (fun v H locs hS k => ?_) kk
  refine lv_aload_n X.1 X.2.1 dL_law_757 rfl (lv_at hl 2 rfl) ?_
  refine lw_arg (k := 1) X hX hbl hS hl (by omega) (by decide) dL_law_758 dL_law_759 dL_law_760 dL_law_761 dL_law_762 ?_
  exact k
theorem lc_keep (X : lw_Cx D cA p s m args c) (hX : va_X b L xs s s.heap) (hbl : b < s.heap.size) (hiL : i + 8 ≤ L) (hL : L ≤ 512) (hA : ALL I r x y) (hl : lv_has arr 4 [(0, .ref b), (1, .ref x), (2, .ref y), (3, .int (nI i))]) (hW : mm_Wd D cA s.heap.size I r H) (hS : va_S (mm_A s.heap.size) s.heap H locs) (hz : s.heap.size + cells = mm_t r) (hc : cells ≤ 600000) (hs : slots ≤ 7302250) (kk : lw_KK p l e s m args below meth c Q D cA x y arr cells slots) : W p l e room_1 s m args below meth c H locs cells slots Q (F0 m 771 arr []) := by
  refine lv_aload_n X.1 X.2.1 dL_law_771 rfl (lv_at hl 1 rfl) ?_
  refine lw_arg (k := 1) X hX hbl hS hl (by omega) (by decide) dL_law_772 dL_law_773 dL_law_774 dL_law_775 dL_law_776 ?_
  refine lw_arg (k := 2) X hX hbl hS hl (by omega) (by decide) dL_law_777 dL_law_778 dL_law_779 dL_law_780 dL_law_781 ?_
  refine lw_pair (jx := 71) (jm := 143) (As := [.int (xs (i + 1)), .int (xs (i + 2))]) (pc2 := 796) X (a_keep hA (xs (i + 1)) (xs (i + 2))) hA dL_law_782 dL_law_796 dL_law_799 (by decide) (by decide) (by decide +kernel) (by decide +kernel) (by decide +kernel) ⟨rfl, rfl⟩ mw_557 mw_561 (Nat.le_of_ble_eq_true rfl) (Nat.le_of_ble_eq_true rfl) rfl rfl rfl hl.1 hW hS hz hc hs (fun v H locs hS k => ?_) kk
  refine lv_aload_n X.1 X.2.1 dL_law_785 rfl (lv_at hl 2 rfl) ?_
  refine lw_arg (k := 1) X hX hbl hS hl (by omega) (by decide) dL_law_786 dL_law_787 dL_law_788 dL_law_789 dL_law_790 ?_
  refine lw_arg (k := 2) X hX hbl hS hl (by omega) (by decide) dL_law_791 dL_law_792 dL_law_793 dL_law_794 dL_law_795 ?_
  exact k
theorem lc_part (X : lw_Cx D cA p s m args c) (hX : va_X b L xs s s.heap) (hbl : b < s.heap.size) (hiL : i + 8 ≤ L) (hL : L ≤ 512) (hA : ALL I r x y) (hl : lv_has arr 4 [(0, .ref b), (1, .ref x), (2, .ref y), (3, .int (nI i))]) (hW : mm_Wd D cA s.heap.size I r H) (hS : va_S (mm_A s.heap.size) s.heap H locs) (hz : s.heap.size + cells = mm_t r) (hc : cells ≤ 600000) (hs : slots ≤ 7302250) (kk : lw_KK p l e s m args below meth c Q D cA x y arr cells slots) : W p l e room_1 s m args below meth c H locs cells slots Q (F0 m 804 arr []) := by
  refine lv_aload_n X.1 X.2.1 dL_law_804 rfl (lv_at hl 1 rfl) ?_
  refine lw_arg (k := 1) X hX hbl hS hl (by omega) (by decide) dL_law_805 dL_law_806 dL_law_807 dL_law_808 dL_law_809 ?_
  refine lw_arg (k := 2) X hX hbl hS hl (by omega) (by decide) dL_law_810 dL_law_811 dL_law_812 dL_law_813 dL_law_814 ?_
  refine lw_arg (k := 3) X hX hbl hS hl (by omega) (by decide) dL_law_815 dL_law_816 dL_law_817 dL_law_818 dL_law_819 ?_
  refine lw_pair (jx := 72) (jm := 145) (As := [.int (xs (i + 1)), .int (xs (i + 2)), .int (xs (i + 3))]) (pc2 := 839) X (a_part hA (xs (i + 1)) (xs (i + 2)) (xs (i + 3))) hA dL_law_820 dL_law_839 dL_law_842 (by decide) (by decide) (by decide +kernel) (by decide +kernel) (by decide +kernel) ⟨rfl, rfl⟩ mw_565 mw_599 (Nat.le_of_ble_eq_true rfl) (Nat.le_of_ble_eq_true rfl) rfl rfl rfl hl.1 hW hS hz hc hs (fun v H locs hS k => ?_) kk
  refine lv_aload_n X.1 X.2.1 dL_law_823 rfl (lv_at hl 2 rfl) ?_
  refine lw_arg (k := 1) X hX hbl hS hl (by omega) (by decide) dL_law_824 dL_law_825 dL_law_826 dL_law_827 dL_law_828 ?_
  refine lw_arg (k := 2) X hX hbl hS hl (by omega) (by decide) dL_law_829 dL_law_830 dL_law_831 dL_law_832 dL_law_833 ?_
  refine lw_arg (k := 3) X hX hbl hS hl (by omega) (by decide) dL_law_834 dL_law_835 dL_law_836 dL_law_837 dL_law_838 ?_
  exact k
theorem lc_drives (X : lw_Cx D cA p s m args c) (hX : va_X b L xs s s.heap) (hbl : b < s.heap.size) (hiL : i + 8 ≤ L) (hL : L ≤ 512) (hA : ALL I r x y) (hl : lv_has arr 4 [(0, .ref b), (1, .ref x), (2, .ref y), (3, .int (nI i))]) (hW : mm_Wd D cA s.heap.size I r H) (hS : va_S (mm_A s.heap.size) s.heap H locs) (hz : s.heap.size + cells = mm_t r) (hc : cells ≤ 600000) (hs : slots ≤ 7302250) (kk : lw_KK p l e s m args below meth c Q D cA x y arr cells slots) : W p l e room_1 s m args below meth c H locs cells slots Q (F0 m 847 arr []) := by
  refine lv_aload_n X.1 X.2.1 dL_law_847 rfl (lv_at hl 1 rfl) ?_
  refine lw_arg (k := 1) X hX hbl hS hl (by omega) (by decide) dL_law_848 dL_law_849 dL_law_850 dL_law_851 dL_law_852 ?_
  refine lw_arg (k := 2) X hX hbl hS hl (by omega) (by decide) dL_law_853 dL_law_854 dL_law_855 dL_law_856 dL_law_857 ?_
  refine lw_arg (k := 3) X hX hbl hS hl (by omega) (by decide) dL_law_858 dL_law_859 dL_law_860 dL_law_861 dL_law_862 ?_
  refine lw_pair (jx := 73) (jm := 146) (As := [.int (xs (i + 1)), .int (xs (i + 2)), .int (xs (i + 3))]) (pc2 := 882) X (a_drives hA (xs (i + 1)) (xs (i + 2)) (xs (i + 3))) hA dL_law_863 dL_law_882 dL_law_885 (by decide) (by decide) (by decide +kernel) (by decide +kernel) (by decide +kernel) ⟨rfl, rfl⟩ mw_610 mw_618 (Nat.le_of_ble_eq_true rfl) (Nat.le_of_ble_eq_true rfl) rfl rfl rfl hl.1 hW hS hz hc hs (fun v H locs hS k => ?_) kk
  refine lv_aload_n X.1 X.2.1 dL_law_866 rfl (lv_at hl 2 rfl) ?_
  refine lw_arg (k := 1) X hX hbl hS hl (by omega) (by decide) dL_law_867 dL_law_868 dL_law_869 dL_law_870 dL_law_871 ?_
  refine lw_arg (k := 2) X hX hbl hS hl (by omega) (by decide) dL_law_872 dL_law_873 dL_law_874 dL_law_875 dL_law_876 ?_
  refine lw_arg (k := 3) X hX hbl hS hl (by omega) (by decide) dL_law_877 dL_law_878 dL_law_879 dL_law_880 dL_law_881 ?_
  exact k
theorem lc_visits (X : lw_Cx D cA p s m args c) (hX : va_X b L xs s s.heap) (hbl : b < s.heap.size) (hiL : i + 8 ≤ L) (hL : L ≤ 512) (hA : ALL I r x y) (hl : lv_has arr 4 [(0, .ref b), (1, .ref x), (2, .ref y), (3, .int (nI i))]) (hW : mm_Wd D cA s.heap.size I r H) (hS : va_S (mm_A s.heap.size) s.heap H locs) (hz : s.heap.size + cells = mm_t r) (hc : cells ≤ 600000) (hs : slots ≤ 7302250) (kk : lw_KK p l e s m args below meth c Q D cA x y arr cells slots) : W p l e room_1 s m args below meth c H locs cells slots Q (F0 m 890 arr []) := by
  refine lv_aload_n X.1 X.2.1 dL_law_890 rfl (lv_at hl 1 rfl) ?_
  refine lw_arg (k := 1) X hX hbl hS hl (by omega) (by decide) dL_law_891 dL_law_892 dL_law_893 dL_law_894 dL_law_895 ?_
  refine lw_arg (k := 2) X hX hbl hS hl (by omega) (by decide) dL_law_896 dL_law_897 dL_law_898 dL_law_899 dL_law_900 ?_
  refine lw_pair (jx := 74) (jm := 147) (As := [.int (xs (i + 1)), .int (xs (i + 2))]) (pc2 := 915) X (a_visits hA (xs (i + 1)) (xs (i + 2))) hA dL_law_901 dL_law_915 dL_law_918 (by decide) (by decide) (by decide +kernel) (by decide +kernel) (by decide +kernel) ⟨rfl, rfl⟩ mw_622 mw_627 (Nat.le_of_ble_eq_true rfl) (Nat.le_of_ble_eq_true rfl) rfl rfl rfl hl.1 hW hS hz hc hs (fun v H locs hS k => ?_) kk
  refine lv_aload_n X.1 X.2.1 dL_law_904 rfl (lv_at hl 2 rfl) ?_
  refine lw_arg (k := 1) X hX hbl hS hl (by omega) (by decide) dL_law_905 dL_law_906 dL_law_907 dL_law_908 dL_law_909 ?_
  refine lw_arg (k := 2) X hX hbl hS hl (by omega) (by decide) dL_law_910 dL_law_911 dL_law_912 dL_law_913 dL_law_914 ?_
  exact k
theorem lc_solvent (X : lw_Cx D cA p s m args c) (hX : va_X b L xs s s.heap) (hbl : b < s.heap.size) (hiL : i + 8 ≤ L) (hL : L ≤ 512) (hA : ALL I r x y) (hl : lv_has arr 4 [(0, .ref b), (1, .ref x), (2, .ref y), (3, .int (nI i))]) (hW : mm_Wd D cA s.heap.size I r H) (hS : va_S (mm_A s.heap.size) s.heap H locs) (hz : s.heap.size + cells = mm_t r) (hc : cells ≤ 600000) (hs : slots ≤ 7302250) (kk : lw_KK p l e s m args below meth c Q D cA x y arr cells slots) : W p l e room_1 s m args below meth c H locs cells slots Q (F0 m 923 arr []) := by
  refine lv_aload_n X.1 X.2.1 dL_law_923 rfl (lv_at hl 1 rfl) ?_
  refine lw_arg (k := 1) X hX hbl hS hl (by omega) (by decide) dL_law_924 dL_law_925 dL_law_926 dL_law_927 dL_law_928 ?_
  refine lw_arg (k := 2) X hX hbl hS hl (by omega) (by decide) dL_law_929 dL_law_930 dL_law_931 dL_law_932 dL_law_933 ?_
  refine lw_pair (jx := 75) (jm := 148) (As := [.int (xs (i + 1)), .int (xs (i + 2))]) (pc2 := 948) X (a_solvent hA (xs (i + 1)) (xs (i + 2))) hA dL_law_934 dL_law_948 dL_law_951 (by decide) (by decide) (by decide +kernel) (by decide +kernel) (by decide +kernel) ⟨rfl, rfl⟩ mw_631 mw_635 (Nat.le_of_ble_eq_true rfl) (Nat.le_of_ble_eq_true rfl) rfl rfl rfl hl.1 hW hS hz hc hs (fun v H locs hS k => ?_) kk
  refine lv_aload_n X.1 X.2.1 dL_law_937 rfl (lv_at hl 2 rfl) ?_
  refine lw_arg (k := 1) X hX hbl hS hl (by omega) (by decide) dL_law_938 dL_law_939 dL_law_940 dL_law_941 dL_law_942 ?_
  refine lw_arg (k := 2) X hX hbl hS hl (by omega) (by decide) dL_law_943 dL_law_944 dL_law_945 dL_law_946 dL_law_947 ?_
  exact k
theorem lc_sleep (X : lw_Cx D cA p s m args c) (hX : va_X b L xs s s.heap) (hbl : b < s.heap.size) (hiL : i + 8 ≤ L) (hL : L ≤ 512) (hA : ALL I r x y) (hl : lv_has arr 4 [(0, .ref b), (1, .ref x), (2, .ref y), (3, .int (nI i))]) (hW : mm_Wd D cA s.heap.size I r H) (hS : va_S (mm_A s.heap.size) s.heap H locs) (hz : s.heap.size + cells = mm_t r) (hc : cells ≤ 600000) (hs : slots ≤ 7302250) (kk : lw_KK p l e s m args below meth c Q D cA x y arr cells slots) : W p l e room_1 s m args below meth c H locs cells slots Q (F0 m 956 arr []) := by
  refine lv_aload_n X.1 X.2.1 dL_law_956 rfl (lv_at hl 1 rfl) ?_
  refine lw_arg (k := 1) X hX hbl hS hl (by omega) (by decide) dL_law_957 dL_law_958 dL_law_959 dL_law_960 dL_law_961 ?_
  refine lw_arg (k := 2) X hX hbl hS hl (by omega) (by decide) dL_law_962 dL_law_963 dL_law_964 dL_law_965 dL_law_966 ?_
  refine lw_arg (k := 3) X hX hbl hS hl (by omega) (by decide) dL_law_967 dL_law_968 dL_law_969 dL_law_970 dL_law_971 ?_
  refine lw_pair (jx := 76) (jm := 149) (As := [.int (xs (i + 1)), .int (xs (i + 2)), .int (xs (i + 3))]) (pc2 := 991) X (a_sleep hA (xs (i + 1)) (xs (i + 2)) (xs (i + 3))) hA dL_law_972 dL_law_991 dL_law_994 (by decide) (by decide) (by decide +kernel) (by decide +kernel) (by decide +kernel) ⟨rfl, rfl⟩ mw_639 mw_654 (Nat.le_of_ble_eq_true rfl) (Nat.le_of_ble_eq_true rfl) rfl rfl rfl hl.1 hW hS hz hc hs (fun v H locs hS k => ?_) kk
  refine lv_aload_n X.1 X.2.1 dL_law_975 rfl (lv_at hl 2 rfl) ?_
  refine lw_arg (k := 1) X hX hbl hS hl (by omega) (by decide) dL_law_976 dL_law_977 dL_law_978 dL_law_979 dL_law_980 ?_
  refine lw_arg (k := 2) X hX hbl hS hl (by omega) (by decide) dL_law_981 dL_law_982 dL_law_983 dL_law_984 dL_law_985 ?_
  refine lw_arg (k := 3) X hX hbl hS hl (by omega) (by decide) dL_law_986 dL_law_987 dL_law_988 dL_law_989 dL_law_990 ?_
  exact k
theorem lc_image (X : lw_Cx D cA p s m args c) (hX : va_X b L xs s s.heap) (hbl : b < s.heap.size) (hiL : i + 8 ≤ L) (hL : L ≤ 512) (hA : ALL I r x y) (hl : lv_has arr 4 [(0, .ref b), (1, .ref x), (2, .ref y), (3, .int (nI i))]) (hW : mm_Wd D cA s.heap.size I r H) (hS : va_S (mm_A s.heap.size) s.heap H locs) (hz : s.heap.size + cells = mm_t r) (hc : cells ≤ 600000) (hs : slots ≤ 7302250) (kk : lw_KK p l e s m args below meth c Q D cA x y arr cells slots) : W p l e room_1 s m args below meth c H locs cells slots Q (F0 m 999 arr []) := by
  refine lv_aload_n X.1 X.2.1 dL_law_999 rfl (lv_at hl 1 rfl) ?_
  refine lw_pair (jx := 77) (jm := 150) (As := []) (pc2 := 1004) X (a_image hA ) hA dL_law_1000 dL_law_1004 dL_law_1007 (by decide) (by decide) (by decide +kernel) (by decide +kernel) (by decide +kernel) ⟨rfl, rfl⟩ mw_658 mw_666 (Nat.le_of_ble_eq_true rfl) (Nat.le_of_ble_eq_true rfl) rfl rfl rfl hl.1 hW hS hz hc hs (fun v H locs hS k => ?_) kk
  refine lv_aload_n X.1 X.2.1 dL_law_1003 rfl (lv_at hl 2 rfl) ?_
  exact k
theorem lc_restore (X : lw_Cx D cA p s m args c) (hX : va_X b L xs s s.heap) (hbl : b < s.heap.size) (hiL : i + 8 ≤ L) (hL : L ≤ 512) (hA : ALL I r x y) (hl : lv_has arr 4 [(0, .ref b), (1, .ref x), (2, .ref y), (3, .int (nI i))]) (hW : mm_Wd D cA s.heap.size I r H) (hS : va_S (mm_A s.heap.size) s.heap H locs) (hz : s.heap.size + cells = mm_t r) (hc : cells ≤ 600000) (hs : slots ≤ 7302250) (kk : lw_KK p l e s m args below meth c Q D cA x y arr cells slots) : W p l e room_1 s m args below meth c H locs cells slots Q (F0 m 1012 arr []) := by
  refine lv_aload_n X.1 X.2.1 dL_law_1012 rfl (lv_at hl 1 rfl) ?_
  refine lw_pair (jx := 78) (jm := 151) (As := []) (pc2 := 1017) X (a_restore hA ) hA dL_law_1013 dL_law_1017 dL_law_1020 (by decide) (by decide) (by decide +kernel) (by decide +kernel) (by decide +kernel) ⟨rfl, rfl⟩ mw_671 mw_675 (Nat.le_of_ble_eq_true rfl) (Nat.le_of_ble_eq_true rfl) rfl rfl rfl hl.1 hW hS hz hc hs (fun v H locs hS k => ?_) kk
  refine lv_aload_n X.1 X.2.1 dL_law_1016 rfl (lv_at hl 2 rfl) ?_
  exact k
theorem lc_dawns (X : lw_Cx D cA p s m args c) (hX : va_X b L xs s s.heap) (hbl : b < s.heap.size) (hiL : i + 8 ≤ L) (hL : L ≤ 512) (hA : ALL I r x y) (hl : lv_has arr 4 [(0, .ref b), (1, .ref x), (2, .ref y), (3, .int (nI i))]) (hW : mm_Wd D cA s.heap.size I r H) (hS : va_S (mm_A s.heap.size) s.heap H locs) (hz : s.heap.size + cells = mm_t r) (hc : cells ≤ 600000) (hs : slots ≤ 7302250) (kk : lw_KK p l e s m args below meth c Q D cA x y arr cells slots) : W p l e room_1 s m args below meth c H locs cells slots Q (F0 m 1025 arr []) := by
  refine lv_aload_n X.1 X.2.1 dL_law_1025 rfl (lv_at hl 1 rfl) ?_
  refine lw_arg (k := 1) X hX hbl hS hl (by omega) (by decide) dL_law_1026 dL_law_1027 dL_law_1028 dL_law_1029 dL_law_1030 ?_
  refine lw_arg (k := 2) X hX hbl hS hl (by omega) (by decide) dL_law_1031 dL_law_1032 dL_law_1033 dL_law_1034 dL_law_1035 ?_
  refine lw_arg (k := 3) X hX hbl hS hl (by omega) (by decide) dL_law_1036 dL_law_1037 dL_law_1038 dL_law_1039 dL_law_1040 ?_
  refine lw_arg (k := 4) X hX hbl hS hl (by omega) (by decide) dL_law_1041 dL_law_1042 dL_law_1043 dL_law_1044 dL_law_1045 ?_
  refine lw_arg (k := 5) X hX hbl hS hl (by omega) (by decide) dL_law_1046 dL_law_1047 dL_law_1048 dL_law_1049 dL_law_1050 ?_
  refine lw_arg2 (k := 6) X hX hbl hS hl (by omega) (by decide) dL_law_1051 dL_law_1052 dL_law_1053 dL_law_1055 dL_law_1056 ?_
  refine lw_arg2 (k := 7) X hX hbl hS hl (by omega) (by decide) dL_law_1057 dL_law_1058 dL_law_1059 dL_law_1061 dL_law_1062 ?_
  refine lw_pair (jx := 79) (jm := 156) (As := [.int (xs (i + 1)), .int (xs (i + 2)), .int (xs (i + 3)), .int (xs (i + 4)), .int (xs (i + 5)), .int (xs (i + 6)), .int (xs (i + 7))]) (pc2 := 1104) X (a_dawns hA (xs (i + 1)) (xs (i + 2)) (xs (i + 3)) (xs (i + 4)) (xs (i + 5)) (xs (i + 6)) (xs (i + 7))) hA dL_law_1063 dL_law_1104 dL_law_1107 (by decide) (by decide) (by decide +kernel) (by decide +kernel) (by decide +kernel) ⟨rfl, rfl⟩ mw_679 mw_700 (Nat.le_of_ble_eq_true rfl) (Nat.le_of_ble_eq_true rfl) rfl rfl rfl hl.1 hW hS hz hc hs (fun v H locs hS k => ?_) kk
  refine lv_aload_n X.1 X.2.1 dL_law_1066 rfl (lv_at hl 2 rfl) ?_
  refine lw_arg (k := 1) X hX hbl hS hl (by omega) (by decide) dL_law_1067 dL_law_1068 dL_law_1069 dL_law_1070 dL_law_1071 ?_
  refine lw_arg (k := 2) X hX hbl hS hl (by omega) (by decide) dL_law_1072 dL_law_1073 dL_law_1074 dL_law_1075 dL_law_1076 ?_
  refine lw_arg (k := 3) X hX hbl hS hl (by omega) (by decide) dL_law_1077 dL_law_1078 dL_law_1079 dL_law_1080 dL_law_1081 ?_
  refine lw_arg (k := 4) X hX hbl hS hl (by omega) (by decide) dL_law_1082 dL_law_1083 dL_law_1084 dL_law_1085 dL_law_1086 ?_
  refine lw_arg (k := 5) X hX hbl hS hl (by omega) (by decide) dL_law_1087 dL_law_1088 dL_law_1089 dL_law_1090 dL_law_1091 ?_
  refine lw_arg2 (k := 6) X hX hbl hS hl (by omega) (by decide) dL_law_1092 dL_law_1093 dL_law_1094 dL_law_1096 dL_law_1097 ?_
  refine lw_arg2 (k := 7) X hX hbl hS hl (by omega) (by decide) dL_law_1098 dL_law_1099 dL_law_1100 dL_law_1102 dL_law_1103 ?_
  exact k
theorem lc_film (X : lw_Cx D cA p s m args c) (hX : va_X b L xs s s.heap) (hbl : b < s.heap.size) (hiL : i + 8 ≤ L) (hL : L ≤ 512) (hA : ALL I r x y) (hl : lv_has arr 4 [(0, .ref b), (1, .ref x), (2, .ref y), (3, .int (nI i))]) (hW : mm_Wd D cA s.heap.size I r H) (hS : va_S (mm_A s.heap.size) s.heap H locs) (hz : s.heap.size + cells = mm_t r) (hc : cells ≤ 600000) (hs : slots ≤ 7302250) (kk : lw_KK p l e s m args below meth c Q D cA x y arr cells slots) : W p l e room_1 s m args below meth c H locs cells slots Q (F0 m 1112 arr []) := by
  refine lv_aload_n X.1 X.2.1 dL_law_1112 rfl (lv_at hl 1 rfl) ?_
  refine lw_arg (k := 1) X hX hbl hS hl (by omega) (by decide) dL_law_1113 dL_law_1114 dL_law_1115 dL_law_1116 dL_law_1117 ?_
  refine lw_arg (k := 2) X hX hbl hS hl (by omega) (by decide) dL_law_1118 dL_law_1119 dL_law_1120 dL_law_1121 dL_law_1122 ?_
  refine lw_arg (k := 3) X hX hbl hS hl (by omega) (by decide) dL_law_1123 dL_law_1124 dL_law_1125 dL_law_1126 dL_law_1127 ?_
  refine lw_arg (k := 4) X hX hbl hS hl (by omega) (by decide) dL_law_1128 dL_law_1129 dL_law_1130 dL_law_1131 dL_law_1132 ?_
  refine lw_arg (k := 5) X hX hbl hS hl (by omega) (by decide) dL_law_1133 dL_law_1134 dL_law_1135 dL_law_1136 dL_law_1137 ?_
  refine lw_pair (jx := 80) (jm := 158) (As := [.int (xs (i + 1)), .int (xs (i + 2)), .int (xs (i + 3)), .int (xs (i + 4)), .int (xs (i + 5))]) (pc2 := 1167) X (a_film hA (xs (i + 1)) (xs (i + 2)) (xs (i + 3)) (xs (i + 4)) (xs (i + 5))) hA dL_law_1138 dL_law_1167 dL_law_1170 (by decide) (by decide) (by decide +kernel) (by decide +kernel) (by decide +kernel) ⟨rfl, rfl⟩ mw_718 mw_726 (Nat.le_of_ble_eq_true rfl) (Nat.le_of_ble_eq_true rfl) rfl rfl rfl hl.1 hW hS hz hc hs (fun v H locs hS k => ?_) kk
  refine lv_aload_n X.1 X.2.1 dL_law_1141 rfl (lv_at hl 2 rfl) ?_
  refine lw_arg (k := 1) X hX hbl hS hl (by omega) (by decide) dL_law_1142 dL_law_1143 dL_law_1144 dL_law_1145 dL_law_1146 ?_
  refine lw_arg (k := 2) X hX hbl hS hl (by omega) (by decide) dL_law_1147 dL_law_1148 dL_law_1149 dL_law_1150 dL_law_1151 ?_
  refine lw_arg (k := 3) X hX hbl hS hl (by omega) (by decide) dL_law_1152 dL_law_1153 dL_law_1154 dL_law_1155 dL_law_1156 ?_
  refine lw_arg (k := 4) X hX hbl hS hl (by omega) (by decide) dL_law_1157 dL_law_1158 dL_law_1159 dL_law_1160 dL_law_1161 ?_
  refine lw_arg (k := 5) X hX hbl hS hl (by omega) (by decide) dL_law_1162 dL_law_1163 dL_law_1164 dL_law_1165 dL_law_1166 ?_
  exact k
theorem lc_sheet (X : lw_Cx D cA p s m args c) (hX : va_X b L xs s s.heap) (hbl : b < s.heap.size) (hiL : i + 8 ≤ L) (hL : L ≤ 512) (hA : ALL I r x y) (hl : lv_has arr 4 [(0, .ref b), (1, .ref x), (2, .ref y), (3, .int (nI i))]) (hW : mm_Wd D cA s.heap.size I r H) (hS : va_S (mm_A s.heap.size) s.heap H locs) (hz : s.heap.size + cells = mm_t r) (hc : cells ≤ 600000) (hs : slots ≤ 7302250) (kk : lw_KK p l e s m args below meth c Q D cA x y arr cells slots) : W p l e room_1 s m args below meth c H locs cells slots Q (F0 m 1175 arr []) := by
  refine lv_aload_n X.1 X.2.1 dL_law_1175 rfl (lv_at hl 1 rfl) ?_
  refine lw_arg (k := 1) X hX hbl hS hl (by omega) (by decide) dL_law_1176 dL_law_1177 dL_law_1178 dL_law_1179 dL_law_1180 ?_
  refine lw_arg (k := 2) X hX hbl hS hl (by omega) (by decide) dL_law_1181 dL_law_1182 dL_law_1183 dL_law_1184 dL_law_1185 ?_
  refine lw_arg (k := 3) X hX hbl hS hl (by omega) (by decide) dL_law_1186 dL_law_1187 dL_law_1188 dL_law_1189 dL_law_1190 ?_
  refine lw_pair (jx := 81) (jm := 159) (As := [.int (xs (i + 1)), .int (xs (i + 2)), .int (xs (i + 3))]) (pc2 := 1210) X (a_sheet hA (xs (i + 1)) (xs (i + 2)) (xs (i + 3))) hA dL_law_1191 dL_law_1210 dL_law_1213 (by decide) (by decide) (by decide +kernel) (by decide +kernel) (by decide +kernel) ⟨rfl, rfl⟩ mw_733 mw_741 (Nat.le_of_ble_eq_true rfl) (Nat.le_of_ble_eq_true rfl) rfl rfl rfl hl.1 hW hS hz hc hs (fun v H locs hS k => ?_) kk
  refine lv_aload_n X.1 X.2.1 dL_law_1194 rfl (lv_at hl 2 rfl) ?_
  refine lw_arg (k := 1) X hX hbl hS hl (by omega) (by decide) dL_law_1195 dL_law_1196 dL_law_1197 dL_law_1198 dL_law_1199 ?_
  refine lw_arg (k := 2) X hX hbl hS hl (by omega) (by decide) dL_law_1200 dL_law_1201 dL_law_1202 dL_law_1203 dL_law_1204 ?_
  refine lw_arg (k := 3) X hX hbl hS hl (by omega) (by decide) dL_law_1205 dL_law_1206 dL_law_1207 dL_law_1208 dL_law_1209 ?_
  exact k
theorem lc_drop (X : lw_Cx D cA p s m args c) (hX : va_X b L xs s s.heap) (hbl : b < s.heap.size) (hiL : i + 8 ≤ L) (hL : L ≤ 512) (hA : ALL I r x y) (hl : lv_has arr 4 [(0, .ref b), (1, .ref x), (2, .ref y), (3, .int (nI i))]) (hW : mm_Wd D cA s.heap.size I r H) (hS : va_S (mm_A s.heap.size) s.heap H locs) (hz : s.heap.size + cells = mm_t r) (hc : cells ≤ 600000) (hs : slots ≤ 7302250) (kk : lw_KK p l e s m args below meth c Q D cA x y arr cells slots) : W p l e room_1 s m args below meth c H locs cells slots Q (F0 m 1218 arr []) := by
  refine lv_aload_n X.1 X.2.1 dL_law_1218 rfl (lv_at hl 1 rfl) ?_
  refine lw_arg (k := 1) X hX hbl hS hl (by omega) (by decide) dL_law_1219 dL_law_1220 dL_law_1221 dL_law_1222 dL_law_1223 ?_
  refine lw_pair (jx := 82) (jm := 160) (As := [.int (xs (i + 1))]) (pc2 := 1233) X (a_drop hA (xs (i + 1))) hA dL_law_1224 dL_law_1233 dL_law_1236 (by decide) (by decide) (by decide +kernel) (by decide +kernel) (by decide +kernel) ⟨rfl, rfl⟩ mw_745 mw_751 (Nat.le_of_ble_eq_true rfl) (Nat.le_of_ble_eq_true rfl) rfl rfl rfl hl.1 hW hS hz hc hs (fun v H locs hS k => ?_) kk
  refine lv_aload_n X.1 X.2.1 dL_law_1227 rfl (lv_at hl 2 rfl) ?_
  refine lw_arg (k := 1) X hX hbl hS hl (by omega) (by decide) dL_law_1228 dL_law_1229 dL_law_1230 dL_law_1231 dL_law_1232 ?_
  exact k
theorem lc_item (X : lw_Cx D cA p s m args c) (hX : va_X b L xs s s.heap) (hbl : b < s.heap.size) (hiL : i + 8 ≤ L) (hL : L ≤ 512) (hA : ALL I r x y) (hl : lv_has arr 4 [(0, .ref b), (1, .ref x), (2, .ref y), (3, .int (nI i))]) (hW : mm_Wd D cA s.heap.size I r H) (hS : va_S (mm_A s.heap.size) s.heap H locs) (hz : s.heap.size + cells = mm_t r) (hc : cells ≤ 600000) (hs : slots ≤ 7302250) (kk : lw_KK p l e s m args below meth c Q D cA x y arr cells slots) : W p l e room_1 s m args below meth c H locs cells slots Q (F0 m 1241 arr []) := by
  refine lv_aload_n X.1 X.2.1 dL_law_1241 rfl (lv_at hl 1 rfl) ?_
  refine lw_arg (k := 1) X hX hbl hS hl (by omega) (by decide) dL_law_1242 dL_law_1243 dL_law_1244 dL_law_1245 dL_law_1246 ?_
  refine lw_arg (k := 2) X hX hbl hS hl (by omega) (by decide) dL_law_1247 dL_law_1248 dL_law_1249 dL_law_1250 dL_law_1251 ?_
  refine lw_arg (k := 3) X hX hbl hS hl (by omega) (by decide) dL_law_1252 dL_law_1253 dL_law_1254 dL_law_1255 dL_law_1256 ?_
  refine lw_arg (k := 4) X hX hbl hS hl (by omega) (by decide) dL_law_1257 dL_law_1258 dL_law_1259 dL_law_1260 dL_law_1261 ?_
  refine lv_i2l X.1 X.2.1 dL_law_1262 rfl ?_
  refine lv_bipush (v := 32) X.1 X.2.1 dL_law_1263 (by decide) ?_
  refine lv_lshl X.1 X.2.1 dL_law_1265 rfl ?_
  refine lw_arg (k := 5) X hX hbl hS hl (by omega) (by decide) dL_law_1266 dL_law_1267 dL_law_1268 dL_law_1269 dL_law_1270 ?_
  refine lv_i2l X.1 X.2.1 dL_law_1271 rfl ?_
  refine lv_ldc2 (own := RL) X.1 X.2.1 X.2.2.2.1 (X.2.2.2.2.1 _ mw_6) dL_law_1272 ?_
  refine lv_land X.1 X.2.1 dL_law_1275 ?_
  refine lv_lor X.1 X.2.1 dL_law_1276 ?_
  refine lw_pair (jx := 83) (jm := 161) (As := [.int (xs (i + 1)), .int (xs (i + 2)), .int (xs (i + 3)), .long ((xs (i + 4)).toInt64 <<< ((32 : Int32).toInt64 &&& 63) ||| (xs (i + 5)).toInt64 &&& 4294967295)]) (pc2 := 1316) X (a_item hA (xs (i + 1)) (xs (i + 2)) (xs (i + 3)) ((xs (i + 4)).toInt64 <<< ((32 : Int32).toInt64 &&& 63) ||| (xs (i + 5)).toInt64 &&& 4294967295)) hA dL_law_1277 dL_law_1316 dL_law_1319 (by decide) (by decide) (by decide +kernel) (by decide +kernel) (by decide +kernel) ⟨rfl, rfl⟩ mw_755 mw_759 (Nat.le_of_ble_eq_true rfl) (Nat.le_of_ble_eq_true rfl) rfl rfl rfl hl.1 hW hS hz hc hs (fun v H locs hS k => ?_) kk
  refine lv_aload_n X.1 X.2.1 dL_law_1280 rfl (lv_at hl 2 rfl) ?_
  refine lw_arg (k := 1) X hX hbl hS hl (by omega) (by decide) dL_law_1281 dL_law_1282 dL_law_1283 dL_law_1284 dL_law_1285 ?_
  refine lw_arg (k := 2) X hX hbl hS hl (by omega) (by decide) dL_law_1286 dL_law_1287 dL_law_1288 dL_law_1289 dL_law_1290 ?_
  refine lw_arg (k := 3) X hX hbl hS hl (by omega) (by decide) dL_law_1291 dL_law_1292 dL_law_1293 dL_law_1294 dL_law_1295 ?_
  refine lw_arg (k := 4) X hX hbl hS hl (by omega) (by decide) dL_law_1296 dL_law_1297 dL_law_1298 dL_law_1299 dL_law_1300 ?_
  refine lv_i2l X.1 X.2.1 dL_law_1301 rfl ?_
  refine lv_bipush (v := 32) X.1 X.2.1 dL_law_1302 (by decide) ?_
  refine lv_lshl X.1 X.2.1 dL_law_1304 rfl ?_
  refine lw_arg (k := 5) X hX hbl hS hl (by omega) (by decide) dL_law_1305 dL_law_1306 dL_law_1307 dL_law_1308 dL_law_1309 ?_
  refine lv_i2l X.1 X.2.1 dL_law_1310 rfl ?_
  refine lv_ldc2 (own := RL) X.1 X.2.1 X.2.2.2.1 (X.2.2.2.2.1 _ mw_6) dL_law_1311 ?_
  refine lv_land X.1 X.2.1 dL_law_1314 ?_
  refine lv_lor X.1 X.2.1 dL_law_1315 ?_
  exact k
theorem lc_copy (X : lw_Cx D cA p s m args c) (hX : va_X b L xs s s.heap) (hbl : b < s.heap.size) (hiL : i + 8 ≤ L) (hL : L ≤ 512) (hA : ALL I r x y) (hl : lv_has arr 4 [(0, .ref b), (1, .ref x), (2, .ref y), (3, .int (nI i))]) (hW : mm_Wd D cA s.heap.size I r H) (hS : va_S (mm_A s.heap.size) s.heap H locs) (hz : s.heap.size + cells = mm_t r) (hc : cells ≤ 600000) (hs : slots ≤ 7302250) (kk : lw_KK p l e s m args below meth c Q D cA x y arr cells slots) : W p l e room_1 s m args below meth c H locs cells slots Q (F0 m 1324 arr []) := by
  refine lv_aload_n X.1 X.2.1 dL_law_1324 rfl (lv_at hl 1 rfl) ?_
  refine lw_arg (k := 1) X hX hbl hS hl (by omega) (by decide) dL_law_1325 dL_law_1326 dL_law_1327 dL_law_1328 dL_law_1329 ?_
  refine lw_arg (k := 2) X hX hbl hS hl (by omega) (by decide) dL_law_1330 dL_law_1331 dL_law_1332 dL_law_1333 dL_law_1334 ?_
  refine lw_arg (k := 3) X hX hbl hS hl (by omega) (by decide) dL_law_1335 dL_law_1336 dL_law_1337 dL_law_1338 dL_law_1339 ?_
  refine lw_arg (k := 4) X hX hbl hS hl (by omega) (by decide) dL_law_1340 dL_law_1341 dL_law_1342 dL_law_1343 dL_law_1344 ?_
  refine lw_arg (k := 5) X hX hbl hS hl (by omega) (by decide) dL_law_1345 dL_law_1346 dL_law_1347 dL_law_1348 dL_law_1349 ?_
  refine lw_pair (jx := 84) (jm := 162) (As := [.int (xs (i + 1)), .int (xs (i + 2)), .int (xs (i + 3)), .int (xs (i + 4)), .int (xs (i + 5))]) (pc2 := 1379) X (a_copy hA (xs (i + 1)) (xs (i + 2)) (xs (i + 3)) (xs (i + 4)) (xs (i + 5))) hA dL_law_1350 dL_law_1379 dL_law_1382 (by decide) (by decide) (by decide +kernel) (by decide +kernel) (by decide +kernel) ⟨rfl, rfl⟩ mw_763 mw_773 (Nat.le_of_ble_eq_true rfl) (Nat.le_of_ble_eq_true rfl) rfl rfl rfl hl.1 hW hS hz hc hs (fun v H locs hS k => ?_) kk
  refine lv_aload_n X.1 X.2.1 dL_law_1353 rfl (lv_at hl 2 rfl) ?_
  refine lw_arg (k := 1) X hX hbl hS hl (by omega) (by decide) dL_law_1354 dL_law_1355 dL_law_1356 dL_law_1357 dL_law_1358 ?_
  refine lw_arg (k := 2) X hX hbl hS hl (by omega) (by decide) dL_law_1359 dL_law_1360 dL_law_1361 dL_law_1362 dL_law_1363 ?_
  refine lw_arg (k := 3) X hX hbl hS hl (by omega) (by decide) dL_law_1364 dL_law_1365 dL_law_1366 dL_law_1367 dL_law_1368 ?_
  refine lw_arg (k := 4) X hX hbl hS hl (by omega) (by decide) dL_law_1369 dL_law_1370 dL_law_1371 dL_law_1372 dL_law_1373 ?_
  refine lw_arg (k := 5) X hX hbl hS hl (by omega) (by decide) dL_law_1374 dL_law_1375 dL_law_1376 dL_law_1377 dL_law_1378 ?_
  exact k
end
