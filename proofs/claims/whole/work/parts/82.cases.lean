/-! the law: its cases (printed by wip/whole/g82.py) -/
section LAW2
variable {p : Program} {l : Launch} {e : Env} {s : State} {m : MethodId} {below : List Frame} {meth : Method} {c : Code} {H : Heap} {locs : List Loc} {Q : State → Prop} {b L : Nat} {xs : Nat → Int32} {ls : Array Slot}
variable {D : va_G} {cA : Nat → ClassId} {tys : List (ClassId × FieldType)} {adX adM : Nat → Nat} {mm mx : dx_M}
theorem cs_0 (hC : lw_C p s m c b L xs D cA tys adX adM) {k : Nat} (hk : k + 6 ≤ L) (hl : lw_L ls b adX adM k) (hR : RM mx mm) (hH : lw_H s D cA adX adM H locs mx mm) (kk : ∀ (H1 : Heap) (locs1 : List Loc) (mx' mm' : dx_M), RM mx' mm' → lw_H s D cA adX adM H1 locs1 mx' mm' → W p l e room_1 s m #[Value.ref b] below meth c H1 locs1 600000 7302250 Q (F0 m 1186 ls [])) : W p l e room_1 s m #[Value.ref b] below meth c H locs 600000 7302250 Q (F0 m 188 ls []) := by
  obtain ⟨hx, hb, hml, hown, hts⟩ := hC.1
  refine lv_aload_n hx hb dL_188 rfl (lv_at hl 2 rfl) ?_
  refine lw_arg (j := 1) (jv := 1) (pc := 189) hC hH.2.2 rfl hk (by omega) hl dL_189 dL_190 dL_191 dL_192 dL_193 ?_
  refine lw_arg (j := 2) (jv := 2) (pc := 194) hC hH.2.2 rfl hk (by omega) hl dL_194 dL_195 dL_196 dL_197 dL_198 ?_
  have hpr := pr_log hR (xs (k + 1)) (xs (k + 2))
  unfold PI at hpr
  refine lw_askX (as := [.int (xs (k + 1)), .int (xs (k + 2))]) (pc := 199) hC kL_13 rfl rfl hpr hl.1 dL_199 hH (fun r mx' H1 locs1 hz hH => ?_)
  obtain ⟨v, rfl, hz⟩ := hz
  show W p l e room_1 s m #[Value.ref b] below meth c H1 locs1 600000 7302250 Q (F0 m 202 ls [.int v])
  refine lv_aload_n hx hb dL_202 rfl (lv_at hl 1 rfl) ?_
  refine lw_arg (j := 1) (jv := 1) (pc := 203) hC hH.2.2 rfl hk (by omega) hl dL_203 dL_204 dL_205 dL_206 dL_207 ?_
  refine lw_arg (j := 2) (jv := 2) (pc := 208) hC hH.2.2 rfl hk (by omega) hl dL_208 dL_209 dL_210 dL_211 dL_212 ?_
  refine lw_askM (as := [.int (xs (k + 1)), .int (xs (k + 2))]) (pc := 213) (v := .int v) hC kL_17 rfl rfl hz hl.1 dL_213 (Nat.le_of_ble_eq_true rfl) hH (fun r2 mm' H2 locs2 hz2 hH => ?_)
  obtain ⟨rfl, hR2⟩ := hz2
  show W p l e room_1 s m #[Value.ref b] below meth c H2 locs2 600000 7302250 Q (F0 m 216 ls [.int v, .int v])
  exact lv_icmp_eq (tgt := 1186) hx hb dL_216 (by decide) (fun _ => kk H2 locs2 mx' mm' hR2 hH) (fun q => absurd rfl q)
theorem cs_1 (hC : lw_C p s m c b L xs D cA tys adX adM) {k : Nat} (hk : k + 6 ≤ L) (hl : lw_L ls b adX adM k) (hR : RM mx mm) (hH : lw_H s D cA adX adM H locs mx mm) (kk : ∀ (H1 : Heap) (locs1 : List Loc) (mx' mm' : dx_M), RM mx' mm' → lw_H s D cA adX adM H1 locs1 mx' mm' → W p l e room_1 s m #[Value.ref b] below meth c H1 locs1 600000 7302250 Q (F0 m 1186 ls [])) : W p l e room_1 s m #[Value.ref b] below meth c H locs 600000 7302250 Q (F0 m 221 ls []) := by
  obtain ⟨hx, hb, hml, hown, hts⟩ := hC.1
  refine lv_aload_n hx hb dL_221 rfl (lv_at hl 2 rfl) ?_
  refine lw_arg (j := 1) (jv := 1) (pc := 222) hC hH.2.2 rfl hk (by omega) hl dL_222 dL_223 dL_224 dL_225 dL_226 ?_
  refine lw_arg (j := 2) (jv := 2) (pc := 227) hC hH.2.2 rfl hk (by omega) hl dL_227 dL_228 dL_229 dL_230 dL_231 ?_
  refine lw_arg (j := 3) (jv := 3) (pc := 232) hC hH.2.2 rfl hk (by omega) hl dL_232 dL_233 dL_234 dL_235 dL_236 ?_
  have hpr := pr_square hR (xs (k + 1)) (xs (k + 2)) (xs (k + 3))
  unfold PI at hpr
  refine lw_askX (as := [.int (xs (k + 1)), .int (xs (k + 2)), .int (xs (k + 3))]) (pc := 237) hC kL_18 rfl rfl hpr hl.1 dL_237 hH (fun r mx' H1 locs1 hz hH => ?_)
  obtain ⟨v, rfl, hz⟩ := hz
  show W p l e room_1 s m #[Value.ref b] below meth c H1 locs1 600000 7302250 Q (F0 m 240 ls [.int v])
  refine lv_aload_n hx hb dL_240 rfl (lv_at hl 1 rfl) ?_
  refine lw_arg (j := 1) (jv := 1) (pc := 241) hC hH.2.2 rfl hk (by omega) hl dL_241 dL_242 dL_243 dL_244 dL_245 ?_
  refine lw_arg (j := 2) (jv := 2) (pc := 246) hC hH.2.2 rfl hk (by omega) hl dL_246 dL_247 dL_248 dL_249 dL_250 ?_
  refine lw_arg (j := 3) (jv := 3) (pc := 251) hC hH.2.2 rfl hk (by omega) hl dL_251 dL_252 dL_253 dL_254 dL_255 ?_
  refine lw_askM (as := [.int (xs (k + 1)), .int (xs (k + 2)), .int (xs (k + 3))]) (pc := 256) (v := .int v) hC kL_22 rfl rfl hz hl.1 dL_256 (Nat.le_of_ble_eq_true rfl) hH (fun r2 mm' H2 locs2 hz2 hH => ?_)
  obtain ⟨rfl, hR2⟩ := hz2
  show W p l e room_1 s m #[Value.ref b] below meth c H2 locs2 600000 7302250 Q (F0 m 259 ls [.int v, .int v])
  exact lv_icmp_eq (tgt := 1186) hx hb dL_259 (by decide) (fun _ => kk H2 locs2 mx' mm' hR2 hH) (fun q => absurd rfl q)
theorem cs_2 (hC : lw_C p s m c b L xs D cA tys adX adM) {k : Nat} (hk : k + 6 ≤ L) (hl : lw_L ls b adX adM k) (hR : RM mx mm) (hH : lw_H s D cA adX adM H locs mx mm) (kk : ∀ (H1 : Heap) (locs1 : List Loc) (mx' mm' : dx_M), RM mx' mm' → lw_H s D cA adX adM H1 locs1 mx' mm' → W p l e room_1 s m #[Value.ref b] below meth c H1 locs1 600000 7302250 Q (F0 m 1186 ls [])) : W p l e room_1 s m #[Value.ref b] below meth c H locs 600000 7302250 Q (F0 m 264 ls []) := by
  obtain ⟨hx, hb, hml, hown, hts⟩ := hC.1
  refine lv_aload_n hx hb dL_264 rfl (lv_at hl 2 rfl) ?_
  refine lw_arg (j := 1) (jv := 1) (pc := 265) hC hH.2.2 rfl hk (by omega) hl dL_265 dL_266 dL_267 dL_268 dL_269 ?_
  refine lw_arg (j := 2) (jv := 2) (pc := 270) hC hH.2.2 rfl hk (by omega) hl dL_270 dL_271 dL_272 dL_273 dL_274 ?_
  have hpr := pr_at hR (xs (k + 1)) (xs (k + 2))
  unfold PI at hpr
  refine lw_askX (as := [.int (xs (k + 1)), .int (xs (k + 2))]) (pc := 275) hC kL_23 rfl rfl hpr hl.1 dL_275 hH (fun r mx' H1 locs1 hz hH => ?_)
  obtain ⟨v, rfl, hz⟩ := hz
  show W p l e room_1 s m #[Value.ref b] below meth c H1 locs1 600000 7302250 Q (F0 m 278 ls [.int v])
  refine lv_aload_n hx hb dL_278 rfl (lv_at hl 1 rfl) ?_
  refine lw_arg (j := 1) (jv := 1) (pc := 279) hC hH.2.2 rfl hk (by omega) hl dL_279 dL_280 dL_281 dL_282 dL_283 ?_
  refine lw_arg (j := 2) (jv := 2) (pc := 284) hC hH.2.2 rfl hk (by omega) hl dL_284 dL_285 dL_286 dL_287 dL_288 ?_
  refine lw_askM (as := [.int (xs (k + 1)), .int (xs (k + 2))]) (pc := 289) (v := .int v) hC kL_26 rfl rfl hz hl.1 dL_289 (Nat.le_of_ble_eq_true rfl) hH (fun r2 mm' H2 locs2 hz2 hH => ?_)
  obtain ⟨rfl, hR2⟩ := hz2
  show W p l e room_1 s m #[Value.ref b] below meth c H2 locs2 600000 7302250 Q (F0 m 292 ls [.int v, .int v])
  exact lv_icmp_eq (tgt := 1186) hx hb dL_292 (by decide) (fun _ => kk H2 locs2 mx' mm' hR2 hH) (fun q => absurd rfl q)
theorem cs_3 (hC : lw_C p s m c b L xs D cA tys adX adM) {k : Nat} (hk : k + 6 ≤ L) (hl : lw_L ls b adX adM k) (hR : RM mx mm) (hH : lw_H s D cA adX adM H locs mx mm) (kk : ∀ (H1 : Heap) (locs1 : List Loc) (mx' mm' : dx_M), RM mx' mm' → lw_H s D cA adX adM H1 locs1 mx' mm' → W p l e room_1 s m #[Value.ref b] below meth c H1 locs1 600000 7302250 Q (F0 m 1186 ls [])) : W p l e room_1 s m #[Value.ref b] below meth c H locs 600000 7302250 Q (F0 m 297 ls []) := by
  obtain ⟨hx, hb, hml, hown, hts⟩ := hC.1
  refine lv_aload_n hx hb dL_297 rfl (lv_at hl 2 rfl) ?_
  refine lw_arg (j := 1) (jv := 1) (pc := 298) hC hH.2.2 rfl hk (by omega) hl dL_298 dL_299 dL_300 dL_301 dL_302 ?_
  have hpr := pr_water hR (xs (k + 1))
  unfold PI at hpr
  refine lw_askX (as := [.int (xs (k + 1))]) (pc := 303) hC kL_27 rfl rfl hpr hl.1 dL_303 hH (fun r mx' H1 locs1 hz hH => ?_)
  obtain ⟨v, rfl, hz⟩ := hz
  show W p l e room_1 s m #[Value.ref b] below meth c H1 locs1 600000 7302250 Q (F0 m 306 ls [.int v])
  refine lv_aload_n hx hb dL_306 rfl (lv_at hl 1 rfl) ?_
  refine lw_arg (j := 1) (jv := 1) (pc := 307) hC hH.2.2 rfl hk (by omega) hl dL_307 dL_308 dL_309 dL_310 dL_311 ?_
  refine lw_askM (as := [.int (xs (k + 1))]) (pc := 312) (v := .int v) hC kL_31 rfl rfl hz hl.1 dL_312 (Nat.le_of_ble_eq_true rfl) hH (fun r2 mm' H2 locs2 hz2 hH => ?_)
  obtain ⟨rfl, hR2⟩ := hz2
  show W p l e room_1 s m #[Value.ref b] below meth c H2 locs2 600000 7302250 Q (F0 m 315 ls [.int v, .int v])
  exact lv_icmp_eq (tgt := 1186) hx hb dL_315 (by decide) (fun _ => kk H2 locs2 mx' mm' hR2 hH) (fun q => absurd rfl q)
theorem cs_4 (hC : lw_C p s m c b L xs D cA tys adX adM) {k : Nat} (hk : k + 6 ≤ L) (hl : lw_L ls b adX adM k) (hR : RM mx mm) (hH : lw_H s D cA adX adM H locs mx mm) (kk : ∀ (H1 : Heap) (locs1 : List Loc) (mx' mm' : dx_M), RM mx' mm' → lw_H s D cA adX adM H1 locs1 mx' mm' → W p l e room_1 s m #[Value.ref b] below meth c H1 locs1 600000 7302250 Q (F0 m 1186 ls [])) : W p l e room_1 s m #[Value.ref b] below meth c H locs 600000 7302250 Q (F0 m 320 ls []) := by
  obtain ⟨hx, hb, hml, hown, hts⟩ := hC.1
  refine lv_aload_n hx hb dL_320 rfl (lv_at hl 2 rfl) ?_
  refine lw_arg (j := 1) (jv := 1) (pc := 321) hC hH.2.2 rfl hk (by omega) hl dL_321 dL_322 dL_323 dL_324 dL_325 ?_
  refine lw_arg (j := 2) (jv := 2) (pc := 326) hC hH.2.2 rfl hk (by omega) hl dL_326 dL_327 dL_328 dL_329 dL_330 ?_
  have hpr := pr_sheet hR (xs (k + 1)) (xs (k + 2))
  unfold PI at hpr
  refine lw_askX (as := [.int (xs (k + 1)), .int (xs (k + 2))]) (pc := 331) hC kL_32 rfl rfl hpr hl.1 dL_331 hH (fun r mx' H1 locs1 hz hH => ?_)
  obtain ⟨v, rfl, hz⟩ := hz
  show W p l e room_1 s m #[Value.ref b] below meth c H1 locs1 600000 7302250 Q (F0 m 334 ls [.int v])
  refine lv_aload_n hx hb dL_334 rfl (lv_at hl 1 rfl) ?_
  refine lw_arg (j := 1) (jv := 1) (pc := 335) hC hH.2.2 rfl hk (by omega) hl dL_335 dL_336 dL_337 dL_338 dL_339 ?_
  refine lw_arg (j := 2) (jv := 2) (pc := 340) hC hH.2.2 rfl hk (by omega) hl dL_340 dL_341 dL_342 dL_343 dL_344 ?_
  refine lw_askM (as := [.int (xs (k + 1)), .int (xs (k + 2))]) (pc := 345) (v := .int v) hC kL_35 rfl rfl hz hl.1 dL_345 (Nat.le_of_ble_eq_true rfl) hH (fun r2 mm' H2 locs2 hz2 hH => ?_)
  obtain ⟨rfl, hR2⟩ := hz2
  show W p l e room_1 s m #[Value.ref b] below meth c H2 locs2 600000 7302250 Q (F0 m 348 ls [.int v, .int v])
  exact lv_icmp_eq (tgt := 1186) hx hb dL_348 (by decide) (fun _ => kk H2 locs2 mx' mm' hR2 hH) (fun q => absurd rfl q)
theorem cs_5 (hC : lw_C p s m c b L xs D cA tys adX adM) {k : Nat} (hk : k + 6 ≤ L) (hl : lw_L ls b adX adM k) (hR : RM mx mm) (hH : lw_H s D cA adX adM H locs mx mm) (kk : ∀ (H1 : Heap) (locs1 : List Loc) (mx' mm' : dx_M), RM mx' mm' → lw_H s D cA adX adM H1 locs1 mx' mm' → W p l e room_1 s m #[Value.ref b] below meth c H1 locs1 600000 7302250 Q (F0 m 1186 ls [])) : W p l e room_1 s m #[Value.ref b] below meth c H locs 600000 7302250 Q (F0 m 353 ls []) := by
  obtain ⟨hx, hb, hml, hown, hts⟩ := hC.1
  refine lv_aload_n hx hb dL_353 rfl (lv_at hl 2 rfl) ?_
  refine lw_arg (j := 1) (jv := 1) (pc := 354) hC hH.2.2 rfl hk (by omega) hl dL_354 dL_355 dL_356 dL_357 dL_358 ?_
  refine lw_arg (j := 2) (jv := 2) (pc := 359) hC hH.2.2 rfl hk (by omega) hl dL_359 dL_360 dL_361 dL_362 dL_363 ?_
  refine lw_arg (j := 3) (jv := 3) (pc := 364) hC hH.2.2 rfl hk (by omega) hl dL_364 dL_365 dL_366 dL_367 dL_368 ?_
  have hpr := pr_lay hR (xs (k + 1)) (xs (k + 2)) (xs (k + 3))
  unfold PI at hpr
  refine lw_askX (as := [.int (xs (k + 1)), .int (xs (k + 2)), .int (xs (k + 3))]) (pc := 369) hC kL_36 rfl rfl hpr hl.1 dL_369 hH (fun r mx' H1 locs1 hz hH => ?_)
  obtain ⟨v, rfl, hz⟩ := hz
  show W p l e room_1 s m #[Value.ref b] below meth c H1 locs1 600000 7302250 Q (F0 m 372 ls [.int v])
  refine lv_aload_n hx hb dL_372 rfl (lv_at hl 1 rfl) ?_
  refine lw_arg (j := 1) (jv := 1) (pc := 373) hC hH.2.2 rfl hk (by omega) hl dL_373 dL_374 dL_375 dL_376 dL_377 ?_
  refine lw_arg (j := 2) (jv := 2) (pc := 378) hC hH.2.2 rfl hk (by omega) hl dL_378 dL_379 dL_380 dL_381 dL_382 ?_
  refine lw_arg (j := 3) (jv := 3) (pc := 383) hC hH.2.2 rfl hk (by omega) hl dL_383 dL_384 dL_385 dL_386 dL_387 ?_
  refine lw_askM (as := [.int (xs (k + 1)), .int (xs (k + 2)), .int (xs (k + 3))]) (pc := 388) (v := .int v) hC kL_39 rfl rfl hz hl.1 dL_388 (Nat.le_of_ble_eq_true rfl) hH (fun r2 mm' H2 locs2 hz2 hH => ?_)
  obtain ⟨rfl, hR2⟩ := hz2
  show W p l e room_1 s m #[Value.ref b] below meth c H2 locs2 600000 7302250 Q (F0 m 391 ls [.int v, .int v])
  exact lv_icmp_eq (tgt := 1186) hx hb dL_391 (by decide) (fun _ => kk H2 locs2 mx' mm' hR2 hH) (fun q => absurd rfl q)
theorem cs_6 (hC : lw_C p s m c b L xs D cA tys adX adM) {k : Nat} (hk : k + 6 ≤ L) (hl : lw_L ls b adX adM k) (hR : RM mx mm) (hH : lw_H s D cA adX adM H locs mx mm) (kk : ∀ (H1 : Heap) (locs1 : List Loc) (mx' mm' : dx_M), RM mx' mm' → lw_H s D cA adX adM H1 locs1 mx' mm' → W p l e room_1 s m #[Value.ref b] below meth c H1 locs1 600000 7302250 Q (F0 m 1186 ls [])) : W p l e room_1 s m #[Value.ref b] below meth c H locs 600000 7302250 Q (F0 m 396 ls []) := by
  obtain ⟨hx, hb, hml, hown, hts⟩ := hC.1
  refine lv_aload_n hx hb dL_396 rfl (lv_at hl 2 rfl) ?_
  refine lw_arg (j := 1) (jv := 1) (pc := 397) hC hH.2.2 rfl hk (by omega) hl dL_397 dL_398 dL_399 dL_400 dL_401 ?_
  have hpr := pr_tear hR (xs (k + 1))
  unfold PI at hpr
  refine lw_askX (as := [.int (xs (k + 1))]) (pc := 402) hC kL_40 rfl rfl hpr hl.1 dL_402 hH (fun r mx' H1 locs1 hz hH => ?_)
  obtain ⟨v, rfl, hz⟩ := hz
  show W p l e room_1 s m #[Value.ref b] below meth c H1 locs1 600000 7302250 Q (F0 m 405 ls [.int v])
  refine lv_aload_n hx hb dL_405 rfl (lv_at hl 1 rfl) ?_
  refine lw_arg (j := 1) (jv := 1) (pc := 406) hC hH.2.2 rfl hk (by omega) hl dL_406 dL_407 dL_408 dL_409 dL_410 ?_
  refine lw_askM (as := [.int (xs (k + 1))]) (pc := 411) (v := .int v) hC kL_43 rfl rfl hz hl.1 dL_411 (Nat.le_of_ble_eq_true rfl) hH (fun r2 mm' H2 locs2 hz2 hH => ?_)
  obtain ⟨rfl, hR2⟩ := hz2
  show W p l e room_1 s m #[Value.ref b] below meth c H2 locs2 600000 7302250 Q (F0 m 414 ls [.int v, .int v])
  exact lv_icmp_eq (tgt := 1186) hx hb dL_414 (by decide) (fun _ => kk H2 locs2 mx' mm' hR2 hH) (fun q => absurd rfl q)
theorem cs_7 (hC : lw_C p s m c b L xs D cA tys adX adM) {k : Nat} (hk : k + 6 ≤ L) (hl : lw_L ls b adX adM k) (hR : RM mx mm) (hH : lw_H s D cA adX adM H locs mx mm) (kk : ∀ (H1 : Heap) (locs1 : List Loc) (mx' mm' : dx_M), RM mx' mm' → lw_H s D cA adX adM H1 locs1 mx' mm' → W p l e room_1 s m #[Value.ref b] below meth c H1 locs1 600000 7302250 Q (F0 m 1186 ls [])) : W p l e room_1 s m #[Value.ref b] below meth c H locs 600000 7302250 Q (F0 m 419 ls []) := by
  obtain ⟨hx, hb, hml, hown, hts⟩ := hC.1
  refine lv_aload_n hx hb dL_419 rfl (lv_at hl 2 rfl) ?_
  refine lw_arg (j := 1) (jv := 1) (pc := 420) hC hH.2.2 rfl hk (by omega) hl dL_420 dL_421 dL_422 dL_423 dL_424 ?_
  refine lw_arg (j := 2) (jv := 2) (pc := 425) hC hH.2.2 rfl hk (by omega) hl dL_425 dL_426 dL_427 dL_428 dL_429 ?_
  refine lw_arg (j := 3) (jv := 3) (pc := 430) hC hH.2.2 rfl hk (by omega) hl dL_430 dL_431 dL_432 dL_433 dL_434 ?_
  refine lw_arg (j := 4) (jv := 4) (pc := 435) hC hH.2.2 rfl hk (by omega) hl dL_435 dL_436 dL_437 dL_438 dL_439 ?_
  refine lw_arg (j := 5) (jv := 5) (pc := 440) hC hH.2.2 rfl hk (by omega) hl dL_440 dL_441 dL_442 dL_443 dL_444 ?_
  have hpr := pr_copy hR (xs (k + 1)) (xs (k + 2)) (xs (k + 3)) (xs (k + 4)) (xs (k + 5))
  unfold PI at hpr
  refine lw_askX (as := [.int (xs (k + 1)), .int (xs (k + 2)), .int (xs (k + 3)), .int (xs (k + 4)), .int (xs (k + 5))]) (pc := 445) hC kL_44 rfl rfl hpr hl.1 dL_445 hH (fun r mx' H1 locs1 hz hH => ?_)
  obtain ⟨v, rfl, hz⟩ := hz
  show W p l e room_1 s m #[Value.ref b] below meth c H1 locs1 600000 7302250 Q (F0 m 448 ls [.int v])
  refine lv_aload_n hx hb dL_448 rfl (lv_at hl 1 rfl) ?_
  refine lw_arg (j := 1) (jv := 1) (pc := 449) hC hH.2.2 rfl hk (by omega) hl dL_449 dL_450 dL_451 dL_452 dL_453 ?_
  refine lw_arg (j := 2) (jv := 2) (pc := 454) hC hH.2.2 rfl hk (by omega) hl dL_454 dL_455 dL_456 dL_457 dL_458 ?_
  refine lw_arg (j := 3) (jv := 3) (pc := 459) hC hH.2.2 rfl hk (by omega) hl dL_459 dL_460 dL_461 dL_462 dL_463 ?_
  refine lw_arg (j := 4) (jv := 4) (pc := 464) hC hH.2.2 rfl hk (by omega) hl dL_464 dL_465 dL_466 dL_467 dL_468 ?_
  refine lw_arg (j := 5) (jv := 5) (pc := 469) hC hH.2.2 rfl hk (by omega) hl dL_469 dL_470 dL_471 dL_472 dL_473 ?_
  refine lw_askM (as := [.int (xs (k + 1)), .int (xs (k + 2)), .int (xs (k + 3)), .int (xs (k + 4)), .int (xs (k + 5))]) (pc := 474) (v := .int v) hC kL_48 rfl rfl hz hl.1 dL_474 (Nat.le_of_ble_eq_true rfl) hH (fun r2 mm' H2 locs2 hz2 hH => ?_)
  obtain ⟨rfl, hR2⟩ := hz2
  show W p l e room_1 s m #[Value.ref b] below meth c H2 locs2 600000 7302250 Q (F0 m 477 ls [.int v, .int v])
  exact lv_icmp_eq (tgt := 1186) hx hb dL_477 (by decide) (fun _ => kk H2 locs2 mx' mm' hR2 hH) (fun q => absurd rfl q)
theorem cs_8 (hC : lw_C p s m c b L xs D cA tys adX adM) {k : Nat} (hk : k + 6 ≤ L) (hl : lw_L ls b adX adM k) (hR : RM mx mm) (hH : lw_H s D cA adX adM H locs mx mm) (kk : ∀ (H1 : Heap) (locs1 : List Loc) (mx' mm' : dx_M), RM mx' mm' → lw_H s D cA adX adM H1 locs1 mx' mm' → W p l e room_1 s m #[Value.ref b] below meth c H1 locs1 600000 7302250 Q (F0 m 1186 ls [])) : W p l e room_1 s m #[Value.ref b] below meth c H locs 600000 7302250 Q (F0 m 482 ls []) := by
  obtain ⟨hx, hb, hml, hown, hts⟩ := hC.1
  refine lv_aload_n hx hb dL_482 rfl (lv_at hl 2 rfl) ?_
  refine lw_arg (j := 1) (jv := 1) (pc := 483) hC hH.2.2 rfl hk (by omega) hl dL_483 dL_484 dL_485 dL_486 dL_487 ?_
  refine lw_arg (j := 2) (jv := 2) (pc := 488) hC hH.2.2 rfl hk (by omega) hl dL_488 dL_489 dL_490 dL_491 dL_492 ?_
  have hpr := pr_fill hR (xs (k + 1)) (xs (k + 2))
  unfold PI at hpr
  refine lw_askX (as := [.int (xs (k + 1)), .int (xs (k + 2))]) (pc := 493) hC kL_49 rfl rfl hpr hl.1 dL_493 hH (fun r mx' H1 locs1 hz hH => ?_)
  obtain ⟨v, rfl, hz⟩ := hz
  show W p l e room_1 s m #[Value.ref b] below meth c H1 locs1 600000 7302250 Q (F0 m 496 ls [.int v])
  refine lv_aload_n hx hb dL_496 rfl (lv_at hl 1 rfl) ?_
  refine lw_arg (j := 1) (jv := 1) (pc := 497) hC hH.2.2 rfl hk (by omega) hl dL_497 dL_498 dL_499 dL_500 dL_501 ?_
  refine lw_arg (j := 2) (jv := 2) (pc := 502) hC hH.2.2 rfl hk (by omega) hl dL_502 dL_503 dL_504 dL_505 dL_506 ?_
  refine lw_askM (as := [.int (xs (k + 1)), .int (xs (k + 2))]) (pc := 507) (v := .int v) hC kL_52 rfl rfl hz hl.1 dL_507 (Nat.le_of_ble_eq_true rfl) hH (fun r2 mm' H2 locs2 hz2 hH => ?_)
  obtain ⟨rfl, hR2⟩ := hz2
  show W p l e room_1 s m #[Value.ref b] below meth c H2 locs2 600000 7302250 Q (F0 m 510 ls [.int v, .int v])
  exact lv_icmp_eq (tgt := 1186) hx hb dL_510 (by decide) (fun _ => kk H2 locs2 mx' mm' hR2 hH) (fun q => absurd rfl q)
theorem cs_9 (hC : lw_C p s m c b L xs D cA tys adX adM) {k : Nat} (hk : k + 6 ≤ L) (hl : lw_L ls b adX adM k) (hR : RM mx mm) (hH : lw_H s D cA adX adM H locs mx mm) (kk : ∀ (H1 : Heap) (locs1 : List Loc) (mx' mm' : dx_M), RM mx' mm' → lw_H s D cA adX adM H1 locs1 mx' mm' → W p l e room_1 s m #[Value.ref b] below meth c H1 locs1 600000 7302250 Q (F0 m 1186 ls [])) : W p l e room_1 s m #[Value.ref b] below meth c H locs 600000 7302250 Q (F0 m 515 ls []) := by
  obtain ⟨hx, hb, hml, hown, hts⟩ := hC.1
  refine lv_aload_n hx hb dL_515 rfl (lv_at hl 2 rfl) ?_
  refine lw_arg (j := 1) (jv := 1) (pc := 516) hC hH.2.2 rfl hk (by omega) hl dL_516 dL_517 dL_518 dL_519 dL_520 ?_
  refine lw_arg (j := 2) (jv := 2) (pc := 521) hC hH.2.2 rfl hk (by omega) hl dL_521 dL_522 dL_523 dL_524 dL_525 ?_
  refine lw_arg (j := 3) (jv := 3) (pc := 526) hC hH.2.2 rfl hk (by omega) hl dL_526 dL_527 dL_528 dL_529 dL_530 ?_
  refine lw_arg (j := 4) (jv := 4) (pc := 531) hC hH.2.2 rfl hk (by omega) hl dL_531 dL_532 dL_533 dL_534 dL_535 ?_
  have hpr := pr_load hR (xs (k + 1)) (xs (k + 2)) (xs (k + 3)) (xs (k + 4))
  unfold PI at hpr
  refine lw_askX (as := [.int (xs (k + 1)), .int (xs (k + 2)), .int (xs (k + 3)), .int (xs (k + 4))]) (pc := 536) hC kL_53 rfl rfl hpr hl.1 dL_536 hH (fun r mx' H1 locs1 hz hH => ?_)
  obtain ⟨v, rfl, hz⟩ := hz
  show W p l e room_1 s m #[Value.ref b] below meth c H1 locs1 600000 7302250 Q (F0 m 539 ls [.int v])
  refine lv_aload_n hx hb dL_539 rfl (lv_at hl 1 rfl) ?_
  refine lw_arg (j := 1) (jv := 1) (pc := 540) hC hH.2.2 rfl hk (by omega) hl dL_540 dL_541 dL_542 dL_543 dL_544 ?_
  refine lw_arg (j := 2) (jv := 2) (pc := 545) hC hH.2.2 rfl hk (by omega) hl dL_545 dL_546 dL_547 dL_548 dL_549 ?_
  refine lw_arg (j := 3) (jv := 3) (pc := 550) hC hH.2.2 rfl hk (by omega) hl dL_550 dL_551 dL_552 dL_553 dL_554 ?_
  refine lw_arg (j := 4) (jv := 4) (pc := 555) hC hH.2.2 rfl hk (by omega) hl dL_555 dL_556 dL_557 dL_558 dL_559 ?_
  refine lw_askM (as := [.int (xs (k + 1)), .int (xs (k + 2)), .int (xs (k + 3)), .int (xs (k + 4))]) (pc := 560) (v := .int v) hC kL_57 rfl rfl hz hl.1 dL_560 (Nat.le_of_ble_eq_true rfl) hH (fun r2 mm' H2 locs2 hz2 hH => ?_)
  obtain ⟨rfl, hR2⟩ := hz2
  show W p l e room_1 s m #[Value.ref b] below meth c H2 locs2 600000 7302250 Q (F0 m 563 ls [.int v, .int v])
  exact lv_icmp_eq (tgt := 1186) hx hb dL_563 (by decide) (fun _ => kk H2 locs2 mx' mm' hR2 hH) (fun q => absurd rfl q)
theorem cs_10 (hC : lw_C p s m c b L xs D cA tys adX adM) {k : Nat} (hk : k + 6 ≤ L) (hl : lw_L ls b adX adM k) (hR : RM mx mm) (hH : lw_H s D cA adX adM H locs mx mm) (kk : ∀ (H1 : Heap) (locs1 : List Loc) (mx' mm' : dx_M), RM mx' mm' → lw_H s D cA adX adM H1 locs1 mx' mm' → W p l e room_1 s m #[Value.ref b] below meth c H1 locs1 600000 7302250 Q (F0 m 1186 ls [])) : W p l e room_1 s m #[Value.ref b] below meth c H locs 600000 7302250 Q (F0 m 568 ls []) := by
  obtain ⟨hx, hb, hml, hown, hts⟩ := hC.1
  refine lv_aload_n hx hb dL_568 rfl (lv_at hl 2 rfl) ?_
  refine lw_arg (j := 1) (jv := 1) (pc := 569) hC hH.2.2 rfl hk (by omega) hl dL_569 dL_570 dL_571 dL_572 dL_573 ?_
  refine lw_arg (j := 2) (jv := 2) (pc := 574) hC hH.2.2 rfl hk (by omega) hl dL_574 dL_575 dL_576 dL_577 dL_578 ?_
  refine lw_arg (j := 3) (jv := 3) (pc := 579) hC hH.2.2 rfl hk (by omega) hl dL_579 dL_580 dL_581 dL_582 dL_583 ?_
  have hpr := pr_move hR (xs (k + 1)) (xs (k + 2)) (xs (k + 3))
  unfold PI at hpr
  refine lw_askX (as := [.int (xs (k + 1)), .int (xs (k + 2)), .int (xs (k + 3))]) (pc := 584) hC kL_58 rfl rfl hpr hl.1 dL_584 hH (fun r mx' H1 locs1 hz hH => ?_)
  obtain ⟨v, rfl, hz⟩ := hz
  show W p l e room_1 s m #[Value.ref b] below meth c H1 locs1 600000 7302250 Q (F0 m 587 ls [.int v])
  refine lv_aload_n hx hb dL_587 rfl (lv_at hl 1 rfl) ?_
  refine lw_arg (j := 1) (jv := 1) (pc := 588) hC hH.2.2 rfl hk (by omega) hl dL_588 dL_589 dL_590 dL_591 dL_592 ?_
  refine lw_arg (j := 2) (jv := 2) (pc := 593) hC hH.2.2 rfl hk (by omega) hl dL_593 dL_594 dL_595 dL_596 dL_597 ?_
  refine lw_arg (j := 3) (jv := 3) (pc := 598) hC hH.2.2 rfl hk (by omega) hl dL_598 dL_599 dL_600 dL_601 dL_602 ?_
  refine lw_askM (as := [.int (xs (k + 1)), .int (xs (k + 2)), .int (xs (k + 3))]) (pc := 603) (v := .int v) hC kL_61 rfl rfl hz hl.1 dL_603 (Nat.le_of_ble_eq_true rfl) hH (fun r2 mm' H2 locs2 hz2 hH => ?_)
  obtain ⟨rfl, hR2⟩ := hz2
  show W p l e room_1 s m #[Value.ref b] below meth c H2 locs2 600000 7302250 Q (F0 m 606 ls [.int v, .int v])
  exact lv_icmp_eq (tgt := 1186) hx hb dL_606 (by decide) (fun _ => kk H2 locs2 mx' mm' hR2 hH) (fun q => absurd rfl q)
theorem cs_11 (hC : lw_C p s m c b L xs D cA tys adX adM) {k : Nat} (hk : k + 6 ≤ L) (hl : lw_L ls b adX adM k) (hR : RM mx mm) (hH : lw_H s D cA adX adM H locs mx mm) (kk : ∀ (H1 : Heap) (locs1 : List Loc) (mx' mm' : dx_M), RM mx' mm' → lw_H s D cA adX adM H1 locs1 mx' mm' → W p l e room_1 s m #[Value.ref b] below meth c H1 locs1 600000 7302250 Q (F0 m 1186 ls [])) : W p l e room_1 s m #[Value.ref b] below meth c H locs 600000 7302250 Q (F0 m 611 ls []) := by
  obtain ⟨hx, hb, hml, hown, hts⟩ := hC.1
  refine lv_aload_n hx hb dL_611 rfl (lv_at hl 2 rfl) ?_
  refine lw_arg (j := 1) (jv := 1) (pc := 612) hC hH.2.2 rfl hk (by omega) hl dL_612 dL_613 dL_614 dL_615 dL_616 ?_
  refine lw_arg (j := 2) (jv := 2) (pc := 617) hC hH.2.2 rfl hk (by omega) hl dL_617 dL_618 dL_619 dL_620 dL_621 ?_
  have hpr := pr_rope hR (xs (k + 1)) (xs (k + 2))
  unfold PI at hpr
  refine lw_askX (as := [.int (xs (k + 1)), .int (xs (k + 2))]) (pc := 622) hC kL_62 rfl rfl hpr hl.1 dL_622 hH (fun r mx' H1 locs1 hz hH => ?_)
  obtain ⟨v, rfl, hz⟩ := hz
  show W p l e room_1 s m #[Value.ref b] below meth c H1 locs1 600000 7302250 Q (F0 m 625 ls [.int v])
  refine lv_aload_n hx hb dL_625 rfl (lv_at hl 1 rfl) ?_
  refine lw_arg (j := 1) (jv := 1) (pc := 626) hC hH.2.2 rfl hk (by omega) hl dL_626 dL_627 dL_628 dL_629 dL_630 ?_
  refine lw_arg (j := 2) (jv := 2) (pc := 631) hC hH.2.2 rfl hk (by omega) hl dL_631 dL_632 dL_633 dL_634 dL_635 ?_
  refine lw_askM (as := [.int (xs (k + 1)), .int (xs (k + 2))]) (pc := 636) (v := .int v) hC kL_65 rfl rfl hz hl.1 dL_636 (Nat.le_of_ble_eq_true rfl) hH (fun r2 mm' H2 locs2 hz2 hH => ?_)
  obtain ⟨rfl, hR2⟩ := hz2
  show W p l e room_1 s m #[Value.ref b] below meth c H2 locs2 600000 7302250 Q (F0 m 639 ls [.int v, .int v])
  exact lv_icmp_eq (tgt := 1186) hx hb dL_639 (by decide) (fun _ => kk H2 locs2 mx' mm' hR2 hH) (fun q => absurd rfl q)
theorem cs_12 (hC : lw_C p s m c b L xs D cA tys adX adM) {k : Nat} (hk : k + 6 ≤ L) (hl : lw_L ls b adX adM k) (hR : RM mx mm) (hH : lw_H s D cA adX adM H locs mx mm) (kk : ∀ (H1 : Heap) (locs1 : List Loc) (mx' mm' : dx_M), RM mx' mm' → lw_H s D cA adX adM H1 locs1 mx' mm' → W p l e room_1 s m #[Value.ref b] below meth c H1 locs1 600000 7302250 Q (F0 m 1186 ls [])) : W p l e room_1 s m #[Value.ref b] below meth c H locs 600000 7302250 Q (F0 m 644 ls []) := by
  obtain ⟨hx, hb, hml, hown, hts⟩ := hC.1
  refine lv_aload_n hx hb dL_644 rfl (lv_at hl 2 rfl) ?_
  refine lw_arg (j := 1) (jv := 1) (pc := 645) hC hH.2.2 rfl hk (by omega) hl dL_645 dL_646 dL_647 dL_648 dL_649 ?_
  have hpr := pr_drop hR (xs (k + 1))
  unfold PI at hpr
  refine lw_askX (as := [.int (xs (k + 1))]) (pc := 650) hC kL_66 rfl rfl hpr hl.1 dL_650 hH (fun r mx' H1 locs1 hz hH => ?_)
  obtain ⟨v, rfl, hz⟩ := hz
  show W p l e room_1 s m #[Value.ref b] below meth c H1 locs1 600000 7302250 Q (F0 m 653 ls [.int v])
  refine lv_aload_n hx hb dL_653 rfl (lv_at hl 1 rfl) ?_
  refine lw_arg (j := 1) (jv := 1) (pc := 654) hC hH.2.2 rfl hk (by omega) hl dL_654 dL_655 dL_656 dL_657 dL_658 ?_
  refine lw_askM (as := [.int (xs (k + 1))]) (pc := 659) (v := .int v) hC kL_69 rfl rfl hz hl.1 dL_659 (Nat.le_of_ble_eq_true rfl) hH (fun r2 mm' H2 locs2 hz2 hH => ?_)
  obtain ⟨rfl, hR2⟩ := hz2
  show W p l e room_1 s m #[Value.ref b] below meth c H2 locs2 600000 7302250 Q (F0 m 662 ls [.int v, .int v])
  exact lv_icmp_eq (tgt := 1186) hx hb dL_662 (by decide) (fun _ => kk H2 locs2 mx' mm' hR2 hH) (fun q => absurd rfl q)
theorem cs_13 (hC : lw_C p s m c b L xs D cA tys adX adM) {k : Nat} (hk : k + 6 ≤ L) (hl : lw_L ls b adX adM k) (hR : RM mx mm) (hH : lw_H s D cA adX adM H locs mx mm) (kk : ∀ (H1 : Heap) (locs1 : List Loc) (mx' mm' : dx_M), RM mx' mm' → lw_H s D cA adX adM H1 locs1 mx' mm' → W p l e room_1 s m #[Value.ref b] below meth c H1 locs1 600000 7302250 Q (F0 m 1186 ls [])) : W p l e room_1 s m #[Value.ref b] below meth c H locs 600000 7302250 Q (F0 m 667 ls []) := by
  obtain ⟨hx, hb, hml, hown, hts⟩ := hC.1
  refine lv_aload_n hx hb dL_667 rfl (lv_at hl 2 rfl) ?_
  refine lw_arg (j := 1) (jv := 1) (pc := 668) hC hH.2.2 rfl hk (by omega) hl dL_668 dL_669 dL_670 dL_671 dL_672 ?_
  refine lw_arg (j := 2) (jv := 2) (pc := 673) hC hH.2.2 rfl hk (by omega) hl dL_673 dL_674 dL_675 dL_676 dL_677 ?_
  have hpr := pr_told hR (xs (k + 1)) (xs (k + 2))
  unfold PI at hpr
  refine lw_askX (as := [.int (xs (k + 1)), .int (xs (k + 2))]) (pc := 678) hC kL_70 rfl rfl hpr hl.1 dL_678 hH (fun r mx' H1 locs1 hz hH => ?_)
  obtain ⟨v, rfl, hz⟩ := hz
  show W p l e room_1 s m #[Value.ref b] below meth c H1 locs1 600000 7302250 Q (F0 m 681 ls [.int v])
  refine lv_aload_n hx hb dL_681 rfl (lv_at hl 1 rfl) ?_
  refine lw_arg (j := 1) (jv := 1) (pc := 682) hC hH.2.2 rfl hk (by omega) hl dL_682 dL_683 dL_684 dL_685 dL_686 ?_
  refine lw_arg (j := 2) (jv := 2) (pc := 687) hC hH.2.2 rfl hk (by omega) hl dL_687 dL_688 dL_689 dL_690 dL_691 ?_
  refine lw_askM (as := [.int (xs (k + 1)), .int (xs (k + 2))]) (pc := 692) (v := .int v) hC kL_73 rfl rfl hz hl.1 dL_692 (Nat.le_of_ble_eq_true rfl) hH (fun r2 mm' H2 locs2 hz2 hH => ?_)
  obtain ⟨rfl, hR2⟩ := hz2
  show W p l e room_1 s m #[Value.ref b] below meth c H2 locs2 600000 7302250 Q (F0 m 695 ls [.int v, .int v])
  exact lv_icmp_eq (tgt := 1186) hx hb dL_695 (by decide) (fun _ => kk H2 locs2 mx' mm' hR2 hH) (fun q => absurd rfl q)
theorem cs_14 (hC : lw_C p s m c b L xs D cA tys adX adM) {k : Nat} (hk : k + 6 ≤ L) (hl : lw_L ls b adX adM k) (hR : RM mx mm) (hH : lw_H s D cA adX adM H locs mx mm) (kk : ∀ (H1 : Heap) (locs1 : List Loc) (mx' mm' : dx_M), RM mx' mm' → lw_H s D cA adX adM H1 locs1 mx' mm' → W p l e room_1 s m #[Value.ref b] below meth c H1 locs1 600000 7302250 Q (F0 m 1186 ls [])) : W p l e room_1 s m #[Value.ref b] below meth c H locs 600000 7302250 Q (F0 m 700 ls []) := by
  obtain ⟨hx, hb, hml, hown, hts⟩ := hC.1
  refine lv_aload_n hx hb dL_700 rfl (lv_at hl 2 rfl) ?_
  refine lw_arg (j := 1) (jv := 1) (pc := 701) hC hH.2.2 rfl hk (by omega) hl dL_701 dL_702 dL_703 dL_704 dL_705 ?_
  refine lw_arg (j := 2) (jv := 2) (pc := 706) hC hH.2.2 rfl hk (by omega) hl dL_706 dL_707 dL_708 dL_709 dL_710 ?_
  have hpr := pr_is hR (xs (k + 1)) (xs (k + 2))
  unfold PI at hpr
  refine lw_askX (as := [.int (xs (k + 1)), .int (xs (k + 2))]) (pc := 711) hC kL_74 rfl rfl hpr hl.1 dL_711 hH (fun r mx' H1 locs1 hz hH => ?_)
  obtain ⟨v, rfl, hz⟩ := hz
  show W p l e room_1 s m #[Value.ref b] below meth c H1 locs1 600000 7302250 Q (F0 m 714 ls [.int v])
  refine lv_aload_n hx hb dL_714 rfl (lv_at hl 1 rfl) ?_
  refine lw_arg (j := 1) (jv := 1) (pc := 715) hC hH.2.2 rfl hk (by omega) hl dL_715 dL_716 dL_717 dL_718 dL_719 ?_
  refine lw_arg (j := 2) (jv := 2) (pc := 720) hC hH.2.2 rfl hk (by omega) hl dL_720 dL_721 dL_722 dL_723 dL_724 ?_
  refine lw_askM (as := [.int (xs (k + 1)), .int (xs (k + 2))]) (pc := 725) (v := .int v) hC kL_77 rfl rfl hz hl.1 dL_725 (Nat.le_of_ble_eq_true rfl) hH (fun r2 mm' H2 locs2 hz2 hH => ?_)
  obtain ⟨rfl, hR2⟩ := hz2
  show W p l e room_1 s m #[Value.ref b] below meth c H2 locs2 600000 7302250 Q (F0 m 728 ls [.int v, .int v])
  exact lv_icmp_eq (tgt := 1186) hx hb dL_728 (by decide) (fun _ => kk H2 locs2 mx' mm' hR2 hH) (fun q => absurd rfl q)
theorem cs_15 (hC : lw_C p s m c b L xs D cA tys adX adM) {k : Nat} (hk : k + 6 ≤ L) (hl : lw_L ls b adX adM k) (hR : RM mx mm) (hH : lw_H s D cA adX adM H locs mx mm) (kk : ∀ (H1 : Heap) (locs1 : List Loc) (mx' mm' : dx_M), RM mx' mm' → lw_H s D cA adX adM H1 locs1 mx' mm' → W p l e room_1 s m #[Value.ref b] below meth c H1 locs1 600000 7302250 Q (F0 m 1186 ls [])) : W p l e room_1 s m #[Value.ref b] below meth c H locs 600000 7302250 Q (F0 m 733 ls []) := by
  obtain ⟨hx, hb, hml, hown, hts⟩ := hC.1
  refine lv_aload_n hx hb dL_733 rfl (lv_at hl 2 rfl) ?_
  have hpr := pr_all hR
  unfold PI at hpr
  refine lw_askX (as := []) (pc := 734) hC kL_78 rfl rfl hpr hl.1 dL_734 hH (fun r mx' H1 locs1 hz hH => ?_)
  obtain ⟨v, rfl, hz⟩ := hz
  show W p l e room_1 s m #[Value.ref b] below meth c H1 locs1 600000 7302250 Q (F0 m 737 ls [.int v])
  refine lv_aload_n hx hb dL_737 rfl (lv_at hl 1 rfl) ?_
  refine lw_askM (as := []) (pc := 738) (v := .int v) hC kL_82 rfl rfl hz hl.1 dL_738 (Nat.le_of_ble_eq_true rfl) hH (fun r2 mm' H2 locs2 hz2 hH => ?_)
  obtain ⟨rfl, hR2⟩ := hz2
  show W p l e room_1 s m #[Value.ref b] below meth c H2 locs2 600000 7302250 Q (F0 m 741 ls [.int v, .int v])
  exact lv_icmp_eq (tgt := 1186) hx hb dL_741 (by decide) (fun _ => kk H2 locs2 mx' mm' hR2 hH) (fun q => absurd rfl q)
theorem cs_16 (hC : lw_C p s m c b L xs D cA tys adX adM) {k : Nat} (hk : k + 6 ≤ L) (hl : lw_L ls b adX adM k) (hR : RM mx mm) (hH : lw_H s D cA adX adM H locs mx mm) (kk : ∀ (H1 : Heap) (locs1 : List Loc) (mx' mm' : dx_M), RM mx' mm' → lw_H s D cA adX adM H1 locs1 mx' mm' → W p l e room_1 s m #[Value.ref b] below meth c H1 locs1 600000 7302250 Q (F0 m 1186 ls [])) : W p l e room_1 s m #[Value.ref b] below meth c H locs 600000 7302250 Q (F0 m 746 ls []) := by
  obtain ⟨hx, hb, hml, hown, hts⟩ := hC.1
  refine lv_aload_n hx hb dL_746 rfl (lv_at hl 2 rfl) ?_
  have hpr := pr_mean hR
  unfold PI at hpr
  refine lw_askX (as := []) (pc := 747) hC kL_83 rfl rfl hpr hl.1 dL_747 hH (fun r mx' H1 locs1 hz hH => ?_)
  obtain ⟨v, rfl, hz⟩ := hz
  show W p l e room_1 s m #[Value.ref b] below meth c H1 locs1 600000 7302250 Q (F0 m 750 ls [.int v])
  refine lv_aload_n hx hb dL_750 rfl (lv_at hl 1 rfl) ?_
  refine lw_askM (as := []) (pc := 751) (v := .int v) hC kL_86 rfl rfl hz hl.1 dL_751 (Nat.le_of_ble_eq_true rfl) hH (fun r2 mm' H2 locs2 hz2 hH => ?_)
  obtain ⟨rfl, hR2⟩ := hz2
  show W p l e room_1 s m #[Value.ref b] below meth c H2 locs2 600000 7302250 Q (F0 m 754 ls [.int v, .int v])
  exact lv_icmp_eq (tgt := 1186) hx hb dL_754 (by decide) (fun _ => kk H2 locs2 mx' mm' hR2 hH) (fun q => absurd rfl q)
theorem cs_17 (hC : lw_C p s m c b L xs D cA tys adX adM) {k : Nat} (hk : k + 6 ≤ L) (hl : lw_L ls b adX adM k) (hR : RM mx mm) (hH : lw_H s D cA adX adM H locs mx mm) (kk : ∀ (H1 : Heap) (locs1 : List Loc) (mx' mm' : dx_M), RM mx' mm' → lw_H s D cA adX adM H1 locs1 mx' mm' → W p l e room_1 s m #[Value.ref b] below meth c H1 locs1 600000 7302250 Q (F0 m 1186 ls [])) : W p l e room_1 s m #[Value.ref b] below meth c H locs 600000 7302250 Q (F0 m 759 ls []) := by
  obtain ⟨hx, hb, hml, hown, hts⟩ := hC.1
  refine lv_aload_n hx hb dL_759 rfl (lv_at hl 2 rfl) ?_
  refine lw_arg (j := 1) (jv := 1) (pc := 760) hC hH.2.2 rfl hk (by omega) hl dL_760 dL_761 dL_762 dL_763 dL_764 ?_
  have hpr := pr_floats hR (xs (k + 1))
  unfold PI at hpr
  refine lw_askX (as := [.int (xs (k + 1))]) (pc := 765) hC kL_87 rfl rfl hpr hl.1 dL_765 hH (fun r mx' H1 locs1 hz hH => ?_)
  obtain ⟨v, rfl, hz⟩ := hz
  show W p l e room_1 s m #[Value.ref b] below meth c H1 locs1 600000 7302250 Q (F0 m 768 ls [.int v])
  refine lv_aload_n hx hb dL_768 rfl (lv_at hl 1 rfl) ?_
  refine lw_arg (j := 1) (jv := 1) (pc := 769) hC hH.2.2 rfl hk (by omega) hl dL_769 dL_770 dL_771 dL_772 dL_773 ?_
  refine lw_askM (as := [.int (xs (k + 1))]) (pc := 774) (v := .int v) hC kL_90 rfl rfl hz hl.1 dL_774 (Nat.le_of_ble_eq_true rfl) hH (fun r2 mm' H2 locs2 hz2 hH => ?_)
  obtain ⟨rfl, hR2⟩ := hz2
  show W p l e room_1 s m #[Value.ref b] below meth c H2 locs2 600000 7302250 Q (F0 m 777 ls [.int v, .int v])
  exact lv_icmp_eq (tgt := 1186) hx hb dL_777 (by decide) (fun _ => kk H2 locs2 mx' mm' hR2 hH) (fun q => absurd rfl q)
theorem cs_18 (hC : lw_C p s m c b L xs D cA tys adX adM) {k : Nat} (hk : k + 6 ≤ L) (hl : lw_L ls b adX adM k) (hR : RM mx mm) (hH : lw_H s D cA adX adM H locs mx mm) (kk : ∀ (H1 : Heap) (locs1 : List Loc) (mx' mm' : dx_M), RM mx' mm' → lw_H s D cA adX adM H1 locs1 mx' mm' → W p l e room_1 s m #[Value.ref b] below meth c H1 locs1 600000 7302250 Q (F0 m 1186 ls [])) : W p l e room_1 s m #[Value.ref b] below meth c H locs 600000 7302250 Q (F0 m 782 ls []) := by
  obtain ⟨hx, hb, hml, hown, hts⟩ := hC.1
  refine lv_aload_n hx hb dL_782 rfl (lv_at hl 2 rfl) ?_
  refine lw_arg (j := 1) (jv := 1) (pc := 783) hC hH.2.2 rfl hk (by omega) hl dL_783 dL_784 dL_785 dL_786 dL_787 ?_
  have hpr := pr_draft hR (xs (k + 1))
  unfold PI at hpr
  refine lw_askX (as := [.int (xs (k + 1))]) (pc := 788) hC kL_91 rfl rfl hpr hl.1 dL_788 hH (fun r mx' H1 locs1 hz hH => ?_)
  obtain ⟨v, rfl, hz⟩ := hz
  show W p l e room_1 s m #[Value.ref b] below meth c H1 locs1 600000 7302250 Q (F0 m 791 ls [.int v])
  refine lv_aload_n hx hb dL_791 rfl (lv_at hl 1 rfl) ?_
  refine lw_arg (j := 1) (jv := 1) (pc := 792) hC hH.2.2 rfl hk (by omega) hl dL_792 dL_793 dL_794 dL_795 dL_796 ?_
  refine lw_askM (as := [.int (xs (k + 1))]) (pc := 797) (v := .int v) hC kL_94 rfl rfl hz hl.1 dL_797 (Nat.le_of_ble_eq_true rfl) hH (fun r2 mm' H2 locs2 hz2 hH => ?_)
  obtain ⟨rfl, hR2⟩ := hz2
  show W p l e room_1 s m #[Value.ref b] below meth c H2 locs2 600000 7302250 Q (F0 m 800 ls [.int v, .int v])
  exact lv_icmp_eq (tgt := 1186) hx hb dL_800 (by decide) (fun _ => kk H2 locs2 mx' mm' hR2 hH) (fun q => absurd rfl q)
theorem cs_19 (hC : lw_C p s m c b L xs D cA tys adX adM) {k : Nat} (hk : k + 6 ≤ L) (hl : lw_L ls b adX adM k) (hR : RM mx mm) (hH : lw_H s D cA adX adM H locs mx mm) (kk : ∀ (H1 : Heap) (locs1 : List Loc) (mx' mm' : dx_M), RM mx' mm' → lw_H s D cA adX adM H1 locs1 mx' mm' → W p l e room_1 s m #[Value.ref b] below meth c H1 locs1 600000 7302250 Q (F0 m 1186 ls [])) : W p l e room_1 s m #[Value.ref b] below meth c H locs 600000 7302250 Q (F0 m 805 ls []) := by
  obtain ⟨hx, hb, hml, hown, hts⟩ := hC.1
  refine lv_aload_n hx hb dL_805 rfl (lv_at hl 2 rfl) ?_
  refine lw_arg (j := 1) (jv := 1) (pc := 806) hC hH.2.2 rfl hk (by omega) hl dL_806 dL_807 dL_808 dL_809 dL_810 ?_
  have hpr := pr_above hR (xs (k + 1))
  unfold PI at hpr
  refine lw_askX (as := [.int (xs (k + 1))]) (pc := 811) hC kL_95 rfl rfl hpr hl.1 dL_811 hH (fun r mx' H1 locs1 hz hH => ?_)
  obtain ⟨v, rfl, hz⟩ := hz
  show W p l e room_1 s m #[Value.ref b] below meth c H1 locs1 600000 7302250 Q (F0 m 814 ls [.int v])
  refine lv_aload_n hx hb dL_814 rfl (lv_at hl 1 rfl) ?_
  refine lw_arg (j := 1) (jv := 1) (pc := 815) hC hH.2.2 rfl hk (by omega) hl dL_815 dL_816 dL_817 dL_818 dL_819 ?_
  refine lw_askM (as := [.int (xs (k + 1))]) (pc := 820) (v := .int v) hC kL_98 rfl rfl hz hl.1 dL_820 (Nat.le_of_ble_eq_true rfl) hH (fun r2 mm' H2 locs2 hz2 hH => ?_)
  obtain ⟨rfl, hR2⟩ := hz2
  show W p l e room_1 s m #[Value.ref b] below meth c H2 locs2 600000 7302250 Q (F0 m 823 ls [.int v, .int v])
  exact lv_icmp_eq (tgt := 1186) hx hb dL_823 (by decide) (fun _ => kk H2 locs2 mx' mm' hR2 hH) (fun q => absurd rfl q)
theorem cs_20 (hC : lw_C p s m c b L xs D cA tys adX adM) {k : Nat} (hk : k + 6 ≤ L) (hl : lw_L ls b adX adM k) (hR : RM mx mm) (hH : lw_H s D cA adX adM H locs mx mm) (kk : ∀ (H1 : Heap) (locs1 : List Loc) (mx' mm' : dx_M), RM mx' mm' → lw_H s D cA adX adM H1 locs1 mx' mm' → W p l e room_1 s m #[Value.ref b] below meth c H1 locs1 600000 7302250 Q (F0 m 1186 ls [])) : W p l e room_1 s m #[Value.ref b] below meth c H locs 600000 7302250 Q (F0 m 828 ls []) := by
  obtain ⟨hx, hb, hml, hown, hts⟩ := hC.1
  refine lv_aload_n hx hb dL_828 rfl (lv_at hl 2 rfl) ?_
  refine lw_arg (j := 1) (jv := 1) (pc := 829) hC hH.2.2 rfl hk (by omega) hl dL_829 dL_830 dL_831 dL_832 dL_833 ?_
  refine lw_arg (j := 2) (jv := 2) (pc := 834) hC hH.2.2 rfl hk (by omega) hl dL_834 dL_835 dL_836 dL_837 dL_838 ?_
  have hpr := pr_middle hR (xs (k + 1)) (xs (k + 2))
  unfold PI at hpr
  refine lw_askX (as := [.int (xs (k + 1)), .int (xs (k + 2))]) (pc := 839) hC kL_99 rfl rfl hpr hl.1 dL_839 hH (fun r mx' H1 locs1 hz hH => ?_)
  obtain ⟨v, rfl, hz⟩ := hz
  show W p l e room_1 s m #[Value.ref b] below meth c H1 locs1 600000 7302250 Q (F0 m 842 ls [.int v])
  refine lv_aload_n hx hb dL_842 rfl (lv_at hl 1 rfl) ?_
  refine lw_arg (j := 1) (jv := 1) (pc := 843) hC hH.2.2 rfl hk (by omega) hl dL_843 dL_844 dL_845 dL_846 dL_847 ?_
  refine lw_arg (j := 2) (jv := 2) (pc := 848) hC hH.2.2 rfl hk (by omega) hl dL_848 dL_849 dL_850 dL_851 dL_852 ?_
  refine lw_askM (as := [.int (xs (k + 1)), .int (xs (k + 2))]) (pc := 853) (v := .int v) hC kL_102 rfl rfl hz hl.1 dL_853 (Nat.le_of_ble_eq_true rfl) hH (fun r2 mm' H2 locs2 hz2 hH => ?_)
  obtain ⟨rfl, hR2⟩ := hz2
  show W p l e room_1 s m #[Value.ref b] below meth c H2 locs2 600000 7302250 Q (F0 m 856 ls [.int v, .int v])
  exact lv_icmp_eq (tgt := 1186) hx hb dL_856 (by decide) (fun _ => kk H2 locs2 mx' mm' hR2 hH) (fun q => absurd rfl q)
theorem cs_21 (hC : lw_C p s m c b L xs D cA tys adX adM) {k : Nat} (hk : k + 6 ≤ L) (hl : lw_L ls b adX adM k) (hR : RM mx mm) (hH : lw_H s D cA adX adM H locs mx mm) (kk : ∀ (H1 : Heap) (locs1 : List Loc) (mx' mm' : dx_M), RM mx' mm' → lw_H s D cA adX adM H1 locs1 mx' mm' → W p l e room_1 s m #[Value.ref b] below meth c H1 locs1 600000 7302250 Q (F0 m 1186 ls [])) : W p l e room_1 s m #[Value.ref b] below meth c H locs 600000 7302250 Q (F0 m 861 ls []) := by
  obtain ⟨hx, hb, hml, hown, hts⟩ := hC.1
  refine lv_aload_n hx hb dL_861 rfl (lv_at hl 2 rfl) ?_
  refine lw_arg (j := 1) (jv := 1) (pc := 862) hC hH.2.2 rfl hk (by omega) hl dL_862 dL_863 dL_864 dL_865 dL_866 ?_
  refine lw_arg (j := 2) (jv := 2) (pc := 867) hC hH.2.2 rfl hk (by omega) hl dL_867 dL_868 dL_869 dL_870 dL_871 ?_
  refine lw_arg (j := 3) (jv := 3) (pc := 872) hC hH.2.2 rfl hk (by omega) hl dL_872 dL_873 dL_874 dL_875 dL_876 ?_
  have hpr := pr_place hR (xs (k + 1)) (xs (k + 2)) (xs (k + 3))
  unfold PI at hpr
  refine lw_askX (as := [.int (xs (k + 1)), .int (xs (k + 2)), .int (xs (k + 3))]) (pc := 877) hC kL_103 rfl rfl hpr hl.1 dL_877 hH (fun r mx' H1 locs1 hz hH => ?_)
  obtain ⟨v, rfl, hz⟩ := hz
  show W p l e room_1 s m #[Value.ref b] below meth c H1 locs1 600000 7302250 Q (F0 m 880 ls [.int v])
  refine lv_aload_n hx hb dL_880 rfl (lv_at hl 1 rfl) ?_
  refine lw_arg (j := 1) (jv := 1) (pc := 881) hC hH.2.2 rfl hk (by omega) hl dL_881 dL_882 dL_883 dL_884 dL_885 ?_
  refine lw_arg (j := 2) (jv := 2) (pc := 886) hC hH.2.2 rfl hk (by omega) hl dL_886 dL_887 dL_888 dL_889 dL_890 ?_
  refine lw_arg (j := 3) (jv := 3) (pc := 891) hC hH.2.2 rfl hk (by omega) hl dL_891 dL_892 dL_893 dL_894 dL_895 ?_
  refine lw_askM (as := [.int (xs (k + 1)), .int (xs (k + 2)), .int (xs (k + 3))]) (pc := 896) (v := .int v) hC kL_106 rfl rfl hz hl.1 dL_896 (Nat.le_of_ble_eq_true rfl) hH (fun r2 mm' H2 locs2 hz2 hH => ?_)
  obtain ⟨rfl, hR2⟩ := hz2
  show W p l e room_1 s m #[Value.ref b] below meth c H2 locs2 600000 7302250 Q (F0 m 899 ls [.int v, .int v])
  exact lv_icmp_eq (tgt := 1186) hx hb dL_899 (by decide) (fun _ => kk H2 locs2 mx' mm' hR2 hH) (fun q => absurd rfl q)
theorem cs_22 (hC : lw_C p s m c b L xs D cA tys adX adM) {k : Nat} (hk : k + 6 ≤ L) (hl : lw_L ls b adX adM k) (hR : RM mx mm) (hH : lw_H s D cA adX adM H locs mx mm) (kk : ∀ (H1 : Heap) (locs1 : List Loc) (mx' mm' : dx_M), RM mx' mm' → lw_H s D cA adX adM H1 locs1 mx' mm' → W p l e room_1 s m #[Value.ref b] below meth c H1 locs1 600000 7302250 Q (F0 m 1186 ls [])) : W p l e room_1 s m #[Value.ref b] below meth c H locs 600000 7302250 Q (F0 m 904 ls []) := by
  obtain ⟨hx, hb, hml, hown, hts⟩ := hC.1
  refine lv_aload_n hx hb dL_904 rfl (lv_at hl 2 rfl) ?_
  refine lw_arg (j := 1) (jv := 1) (pc := 905) hC hH.2.2 rfl hk (by omega) hl dL_905 dL_906 dL_907 dL_908 dL_909 ?_
  have hpr := pr_leans hR (xs (k + 1))
  unfold PI at hpr
  refine lw_askX (as := [.int (xs (k + 1))]) (pc := 910) hC kL_107 rfl rfl hpr hl.1 dL_910 hH (fun r mx' H1 locs1 hz hH => ?_)
  obtain ⟨v, rfl, hz⟩ := hz
  show W p l e room_1 s m #[Value.ref b] below meth c H1 locs1 600000 7302250 Q (F0 m 913 ls [.int v])
  refine lv_aload_n hx hb dL_913 rfl (lv_at hl 1 rfl) ?_
  refine lw_arg (j := 1) (jv := 1) (pc := 914) hC hH.2.2 rfl hk (by omega) hl dL_914 dL_915 dL_916 dL_917 dL_918 ?_
  refine lw_askM (as := [.int (xs (k + 1))]) (pc := 919) (v := .int v) hC kL_110 rfl rfl hz hl.1 dL_919 (Nat.le_of_ble_eq_true rfl) hH (fun r2 mm' H2 locs2 hz2 hH => ?_)
  obtain ⟨rfl, hR2⟩ := hz2
  show W p l e room_1 s m #[Value.ref b] below meth c H2 locs2 600000 7302250 Q (F0 m 922 ls [.int v, .int v])
  exact lv_icmp_eq (tgt := 1186) hx hb dL_922 (by decide) (fun _ => kk H2 locs2 mx' mm' hR2 hH) (fun q => absurd rfl q)
theorem cs_23 (hC : lw_C p s m c b L xs D cA tys adX adM) {k : Nat} (hk : k + 6 ≤ L) (hl : lw_L ls b adX adM k) (hR : RM mx mm) (hH : lw_H s D cA adX adM H locs mx mm) (kk : ∀ (H1 : Heap) (locs1 : List Loc) (mx' mm' : dx_M), RM mx' mm' → lw_H s D cA adX adM H1 locs1 mx' mm' → W p l e room_1 s m #[Value.ref b] below meth c H1 locs1 600000 7302250 Q (F0 m 1186 ls [])) : W p l e room_1 s m #[Value.ref b] below meth c H locs 600000 7302250 Q (F0 m 927 ls []) := by
  obtain ⟨hx, hb, hml, hown, hts⟩ := hC.1
  refine lv_aload_n hx hb dL_927 rfl (lv_at hl 2 rfl) ?_
  refine lw_arg (j := 1) (jv := 1) (pc := 928) hC hH.2.2 rfl hk (by omega) hl dL_928 dL_929 dL_930 dL_931 dL_932 ?_
  have hpr := pr_breadth hR (xs (k + 1))
  unfold PI at hpr
  refine lw_askX (as := [.int (xs (k + 1))]) (pc := 933) hC kL_111 rfl rfl hpr hl.1 dL_933 hH (fun r mx' H1 locs1 hz hH => ?_)
  obtain ⟨v, rfl, hz⟩ := hz
  show W p l e room_1 s m #[Value.ref b] below meth c H1 locs1 600000 7302250 Q (F0 m 936 ls [.int v])
  refine lv_aload_n hx hb dL_936 rfl (lv_at hl 1 rfl) ?_
  refine lw_arg (j := 1) (jv := 1) (pc := 937) hC hH.2.2 rfl hk (by omega) hl dL_937 dL_938 dL_939 dL_940 dL_941 ?_
  refine lw_askM (as := [.int (xs (k + 1))]) (pc := 942) (v := .int v) hC kL_114 rfl rfl hz hl.1 dL_942 (Nat.le_of_ble_eq_true rfl) hH (fun r2 mm' H2 locs2 hz2 hH => ?_)
  obtain ⟨rfl, hR2⟩ := hz2
  show W p l e room_1 s m #[Value.ref b] below meth c H2 locs2 600000 7302250 Q (F0 m 945 ls [.int v, .int v])
  exact lv_icmp_eq (tgt := 1186) hx hb dL_945 (by decide) (fun _ => kk H2 locs2 mx' mm' hR2 hH) (fun q => absurd rfl q)
theorem cs_24 (hC : lw_C p s m c b L xs D cA tys adX adM) {k : Nat} (hk : k + 6 ≤ L) (hl : lw_L ls b adX adM k) (hR : RM mx mm) (hH : lw_H s D cA adX adM H locs mx mm) (kk : ∀ (H1 : Heap) (locs1 : List Loc) (mx' mm' : dx_M), RM mx' mm' → lw_H s D cA adX adM H1 locs1 mx' mm' → W p l e room_1 s m #[Value.ref b] below meth c H1 locs1 600000 7302250 Q (F0 m 1186 ls [])) : W p l e room_1 s m #[Value.ref b] below meth c H locs 600000 7302250 Q (F0 m 950 ls []) := by
  obtain ⟨hx, hb, hml, hown, hts⟩ := hC.1
  refine lv_aload_n hx hb dL_950 rfl (lv_at hl 2 rfl) ?_
  refine lw_arg (j := 1) (jv := 1) (pc := 951) hC hH.2.2 rfl hk (by omega) hl dL_951 dL_952 dL_953 dL_954 dL_955 ?_
  have hpr := pr_holds hR (xs (k + 1))
  unfold PI at hpr
  refine lw_askX (as := [.int (xs (k + 1))]) (pc := 956) hC kL_115 rfl rfl hpr hl.1 dL_956 hH (fun r mx' H1 locs1 hz hH => ?_)
  obtain ⟨v, rfl, hz⟩ := hz
  show W p l e room_1 s m #[Value.ref b] below meth c H1 locs1 600000 7302250 Q (F0 m 959 ls [.int v])
  refine lv_aload_n hx hb dL_959 rfl (lv_at hl 1 rfl) ?_
  refine lw_arg (j := 1) (jv := 1) (pc := 960) hC hH.2.2 rfl hk (by omega) hl dL_960 dL_961 dL_962 dL_963 dL_964 ?_
  refine lw_askM (as := [.int (xs (k + 1))]) (pc := 965) (v := .int v) hC kL_118 rfl rfl hz hl.1 dL_965 (Nat.le_of_ble_eq_true rfl) hH (fun r2 mm' H2 locs2 hz2 hH => ?_)
  obtain ⟨rfl, hR2⟩ := hz2
  show W p l e room_1 s m #[Value.ref b] below meth c H2 locs2 600000 7302250 Q (F0 m 968 ls [.int v, .int v])
  exact lv_icmp_eq (tgt := 1186) hx hb dL_968 (by decide) (fun _ => kk H2 locs2 mx' mm' hR2 hH) (fun q => absurd rfl q)
theorem cs_25 (hC : lw_C p s m c b L xs D cA tys adX adM) {k : Nat} (hk : k + 6 ≤ L) (hl : lw_L ls b adX adM k) (hR : RM mx mm) (hH : lw_H s D cA adX adM H locs mx mm) (kk : ∀ (H1 : Heap) (locs1 : List Loc) (mx' mm' : dx_M), RM mx' mm' → lw_H s D cA adX adM H1 locs1 mx' mm' → W p l e room_1 s m #[Value.ref b] below meth c H1 locs1 600000 7302250 Q (F0 m 1186 ls [])) : W p l e room_1 s m #[Value.ref b] below meth c H locs 600000 7302250 Q (F0 m 973 ls []) := by
  obtain ⟨hx, hb, hml, hown, hts⟩ := hC.1
  refine lv_aload_n hx hb dL_973 rfl (lv_at hl 2 rfl) ?_
  have hpr := pr_rests hR
  unfold PI at hpr
  refine lw_askX (as := []) (pc := 974) hC kL_119 rfl rfl hpr hl.1 dL_974 hH (fun r mx' H1 locs1 hz hH => ?_)
  obtain ⟨v, rfl, hz⟩ := hz
  show W p l e room_1 s m #[Value.ref b] below meth c H1 locs1 600000 7302250 Q (F0 m 977 ls [.int v])
  refine lv_aload_n hx hb dL_977 rfl (lv_at hl 1 rfl) ?_
  refine lw_askM (as := []) (pc := 978) (v := .int v) hC kL_122 rfl rfl hz hl.1 dL_978 (Nat.le_of_ble_eq_true rfl) hH (fun r2 mm' H2 locs2 hz2 hH => ?_)
  obtain ⟨rfl, hR2⟩ := hz2
  show W p l e room_1 s m #[Value.ref b] below meth c H2 locs2 600000 7302250 Q (F0 m 981 ls [.int v, .int v])
  exact lv_icmp_eq (tgt := 1186) hx hb dL_981 (by decide) (fun _ => kk H2 locs2 mx' mm' hR2 hH) (fun q => absurd rfl q)
theorem cs_26 (hC : lw_C p s m c b L xs D cA tys adX adM) {k : Nat} (hk : k + 6 ≤ L) (hl : lw_L ls b adX adM k) (hR : RM mx mm) (hH : lw_H s D cA adX adM H locs mx mm) (kk : ∀ (H1 : Heap) (locs1 : List Loc) (mx' mm' : dx_M), RM mx' mm' → lw_H s D cA adX adM H1 locs1 mx' mm' → W p l e room_1 s m #[Value.ref b] below meth c H1 locs1 600000 7302250 Q (F0 m 1186 ls [])) : W p l e room_1 s m #[Value.ref b] below meth c H locs 600000 7302250 Q (F0 m 986 ls []) := by
  obtain ⟨hx, hb, hml, hown, hts⟩ := hC.1
  refine lv_aload_n hx hb dL_986 rfl (lv_at hl 2 rfl) ?_
  refine lw_arg (j := 1) (jv := 1) (pc := 987) hC hH.2.2 rfl hk (by omega) hl dL_987 dL_988 dL_989 dL_990 dL_991 ?_
  have hpr := pr_carries hR (xs (k + 1))
  unfold PI at hpr
  refine lw_askX (as := [.int (xs (k + 1))]) (pc := 992) hC kL_123 rfl rfl hpr hl.1 dL_992 hH (fun r mx' H1 locs1 hz hH => ?_)
  obtain ⟨v, rfl, hz⟩ := hz
  show W p l e room_1 s m #[Value.ref b] below meth c H1 locs1 600000 7302250 Q (F0 m 995 ls [.int v])
  refine lv_aload_n hx hb dL_995 rfl (lv_at hl 1 rfl) ?_
  refine lw_arg (j := 1) (jv := 1) (pc := 996) hC hH.2.2 rfl hk (by omega) hl dL_996 dL_997 dL_998 dL_999 dL_1000 ?_
  refine lw_askM (as := [.int (xs (k + 1))]) (pc := 1001) (v := .int v) hC kL_126 rfl rfl hz hl.1 dL_1001 (Nat.le_of_ble_eq_true rfl) hH (fun r2 mm' H2 locs2 hz2 hH => ?_)
  obtain ⟨rfl, hR2⟩ := hz2
  show W p l e room_1 s m #[Value.ref b] below meth c H2 locs2 600000 7302250 Q (F0 m 1004 ls [.int v, .int v])
  exact lv_icmp_eq (tgt := 1186) hx hb dL_1004 (by decide) (fun _ => kk H2 locs2 mx' mm' hR2 hH) (fun q => absurd rfl q)
theorem cs_27 (hC : lw_C p s m c b L xs D cA tys adX adM) {k : Nat} (hk : k + 6 ≤ L) (hl : lw_L ls b adX adM k) (hR : RM mx mm) (hH : lw_H s D cA adX adM H locs mx mm) (kk : ∀ (H1 : Heap) (locs1 : List Loc) (mx' mm' : dx_M), RM mx' mm' → lw_H s D cA adX adM H1 locs1 mx' mm' → W p l e room_1 s m #[Value.ref b] below meth c H1 locs1 600000 7302250 Q (F0 m 1186 ls [])) : W p l e room_1 s m #[Value.ref b] below meth c H locs 600000 7302250 Q (F0 m 1009 ls []) := by
  obtain ⟨hx, hb, hml, hown, hts⟩ := hC.1
  refine lv_aload_n hx hb dL_1009 rfl (lv_at hl 2 rfl) ?_
  refine lw_arg (j := 1) (jv := 1) (pc := 1010) hC hH.2.2 rfl hk (by omega) hl dL_1010 dL_1011 dL_1012 dL_1013 dL_1014 ?_
  refine lw_arg (j := 2) (jv := 2) (pc := 1015) hC hH.2.2 rfl hk (by omega) hl dL_1015 dL_1016 dL_1017 dL_1018 dL_1019 ?_
  have hpr := pr_trim hR (xs (k + 1)) (xs (k + 2))
  unfold PI at hpr
  refine lw_askX (as := [.int (xs (k + 1)), .int (xs (k + 2))]) (pc := 1020) hC kL_127 rfl rfl hpr hl.1 dL_1020 hH (fun r mx' H1 locs1 hz hH => ?_)
  obtain ⟨v, rfl, hz⟩ := hz
  show W p l e room_1 s m #[Value.ref b] below meth c H1 locs1 600000 7302250 Q (F0 m 1023 ls [.int v])
  refine lv_aload_n hx hb dL_1023 rfl (lv_at hl 1 rfl) ?_
  refine lw_arg (j := 1) (jv := 1) (pc := 1024) hC hH.2.2 rfl hk (by omega) hl dL_1024 dL_1025 dL_1026 dL_1027 dL_1028 ?_
  refine lw_arg (j := 2) (jv := 2) (pc := 1029) hC hH.2.2 rfl hk (by omega) hl dL_1029 dL_1030 dL_1031 dL_1032 dL_1033 ?_
  refine lw_askM (as := [.int (xs (k + 1)), .int (xs (k + 2))]) (pc := 1034) (v := .int v) hC kL_130 rfl rfl hz hl.1 dL_1034 (Nat.le_of_ble_eq_true rfl) hH (fun r2 mm' H2 locs2 hz2 hH => ?_)
  obtain ⟨rfl, hR2⟩ := hz2
  show W p l e room_1 s m #[Value.ref b] below meth c H2 locs2 600000 7302250 Q (F0 m 1037 ls [.int v, .int v])
  exact lv_icmp_eq (tgt := 1186) hx hb dL_1037 (by decide) (fun _ => kk H2 locs2 mx' mm' hR2 hH) (fun q => absurd rfl q)
theorem cs_28 (hC : lw_C p s m c b L xs D cA tys adX adM) {k : Nat} (hk : k + 6 ≤ L) (hl : lw_L ls b adX adM k) (hR : RM mx mm) (hH : lw_H s D cA adX adM H locs mx mm) (kk : ∀ (H1 : Heap) (locs1 : List Loc) (mx' mm' : dx_M), RM mx' mm' → lw_H s D cA adX adM H1 locs1 mx' mm' → W p l e room_1 s m #[Value.ref b] below meth c H1 locs1 600000 7302250 Q (F0 m 1186 ls [])) : W p l e room_1 s m #[Value.ref b] below meth c H locs 600000 7302250 Q (F0 m 1042 ls []) := by
  obtain ⟨hx, hb, hml, hown, hts⟩ := hC.1
  refine lv_aload_n hx hb dL_1042 rfl (lv_at hl 2 rfl) ?_
  refine lw_arg (j := 1) (jv := 1) (pc := 1043) hC hH.2.2 rfl hk (by omega) hl dL_1043 dL_1044 dL_1045 dL_1046 dL_1047 ?_
  refine lw_arg (j := 2) (jv := 2) (pc := 1048) hC hH.2.2 rfl hk (by omega) hl dL_1048 dL_1049 dL_1050 dL_1051 dL_1052 ?_
  refine lw_arg (j := 3) (jv := 3) (pc := 1053) hC hH.2.2 rfl hk (by omega) hl dL_1053 dL_1054 dL_1055 dL_1056 dL_1057 ?_
  have hpr := pr_room hR (xs (k + 1)) (xs (k + 2)) (xs (k + 3))
  unfold PI at hpr
  refine lw_askX (as := [.int (xs (k + 1)), .int (xs (k + 2)), .int (xs (k + 3))]) (pc := 1058) hC kL_131 rfl rfl hpr hl.1 dL_1058 hH (fun r mx' H1 locs1 hz hH => ?_)
  obtain ⟨v, rfl, hz⟩ := hz
  show W p l e room_1 s m #[Value.ref b] below meth c H1 locs1 600000 7302250 Q (F0 m 1061 ls [.int v])
  refine lv_aload_n hx hb dL_1061 rfl (lv_at hl 1 rfl) ?_
  refine lw_arg (j := 1) (jv := 1) (pc := 1062) hC hH.2.2 rfl hk (by omega) hl dL_1062 dL_1063 dL_1064 dL_1065 dL_1066 ?_
  refine lw_arg (j := 2) (jv := 2) (pc := 1067) hC hH.2.2 rfl hk (by omega) hl dL_1067 dL_1068 dL_1069 dL_1070 dL_1071 ?_
  refine lw_arg (j := 3) (jv := 3) (pc := 1072) hC hH.2.2 rfl hk (by omega) hl dL_1072 dL_1073 dL_1074 dL_1075 dL_1076 ?_
  refine lw_askM (as := [.int (xs (k + 1)), .int (xs (k + 2)), .int (xs (k + 3))]) (pc := 1077) (v := .int v) hC kL_134 rfl rfl hz hl.1 dL_1077 (Nat.le_of_ble_eq_true rfl) hH (fun r2 mm' H2 locs2 hz2 hH => ?_)
  obtain ⟨rfl, hR2⟩ := hz2
  show W p l e room_1 s m #[Value.ref b] below meth c H2 locs2 600000 7302250 Q (F0 m 1080 ls [.int v, .int v])
  exact lv_icmp_eq (tgt := 1186) hx hb dL_1080 (by decide) (fun _ => kk H2 locs2 mx' mm' hR2 hH) (fun q => absurd rfl q)
theorem cs_29 (hC : lw_C p s m c b L xs D cA tys adX adM) {k : Nat} (hk : k + 6 ≤ L) (hl : lw_L ls b adX adM k) (hR : RM mx mm) (hH : lw_H s D cA adX adM H locs mx mm) (kk : ∀ (H1 : Heap) (locs1 : List Loc) (mx' mm' : dx_M), RM mx' mm' → lw_H s D cA adX adM H1 locs1 mx' mm' → W p l e room_1 s m #[Value.ref b] below meth c H1 locs1 600000 7302250 Q (F0 m 1186 ls [])) : W p l e room_1 s m #[Value.ref b] below meth c H locs 600000 7302250 Q (F0 m 1085 ls []) := by
  obtain ⟨hx, hb, hml, hown, hts⟩ := hC.1
  refine lv_aload_n hx hb dL_1085 rfl (lv_at hl 2 rfl) ?_
  have hpr := pr_upper hR
  unfold PL at hpr
  refine lw_askX (as := []) (pc := 1086) hC kL_135 rfl rfl hpr hl.1 dL_1086 hH (fun r mx' H1 locs1 hz hH => ?_)
  obtain ⟨v, rfl, hz⟩ := hz
  show W p l e room_1 s m #[Value.ref b] below meth c H1 locs1 600000 7302250 Q (F0 m 1089 ls [.long v])
  refine lv_aload_n hx hb dL_1089 rfl (lv_at hl 1 rfl) ?_
  refine lw_askM (as := []) (pc := 1090) (v := .long v) hC kL_139 rfl rfl hz hl.1 dL_1090 (Nat.le_of_ble_eq_true rfl) hH (fun r2 mm' H2 locs2 hz2 hH => ?_)
  obtain ⟨rfl, hR2⟩ := hz2
  show W p l e room_1 s m #[Value.ref b] below meth c H2 locs2 600000 7302250 Q (F0 m 1093 ls [.long v, .long v])
  refine W.lcmp hx hb dL_1093 ?_
  exact lv_if_eq (tgt := 1186) hx hb dL_1094 (by decide) (fun _ => kk H2 locs2 mx' mm' hR2 hH) (fun q => absurd ((lc_eq v v).mpr rfl) q)
theorem cs_30 (hC : lw_C p s m c b L xs D cA tys adX adM) {k : Nat} (hk : k + 6 ≤ L) (hl : lw_L ls b adX adM k) (hR : RM mx mm) (hH : lw_H s D cA adX adM H locs mx mm) (kk : ∀ (H1 : Heap) (locs1 : List Loc) (mx' mm' : dx_M), RM mx' mm' → lw_H s D cA adX adM H1 locs1 mx' mm' → W p l e room_1 s m #[Value.ref b] below meth c H1 locs1 600000 7302250 Q (F0 m 1186 ls [])) : W p l e room_1 s m #[Value.ref b] below meth c H locs 600000 7302250 Q (F0 m 1099 ls []) := by
  obtain ⟨hx, hb, hml, hown, hts⟩ := hC.1
  refine lv_aload_n hx hb dL_1099 rfl (lv_at hl 2 rfl) ?_
  have hpr := pr_lower hR
  unfold PL at hpr
  refine lw_askX (as := []) (pc := 1100) hC kL_140 rfl rfl hpr hl.1 dL_1100 hH (fun r mx' H1 locs1 hz hH => ?_)
  obtain ⟨v, rfl, hz⟩ := hz
  show W p l e room_1 s m #[Value.ref b] below meth c H1 locs1 600000 7302250 Q (F0 m 1103 ls [.long v])
  refine lv_aload_n hx hb dL_1103 rfl (lv_at hl 1 rfl) ?_
  refine lw_askM (as := []) (pc := 1104) (v := .long v) hC kL_143 rfl rfl hz hl.1 dL_1104 (Nat.le_of_ble_eq_true rfl) hH (fun r2 mm' H2 locs2 hz2 hH => ?_)
  obtain ⟨rfl, hR2⟩ := hz2
  show W p l e room_1 s m #[Value.ref b] below meth c H2 locs2 600000 7302250 Q (F0 m 1107 ls [.long v, .long v])
  refine W.lcmp hx hb dL_1107 ?_
  exact lv_if_eq (tgt := 1186) hx hb dL_1108 (by decide) (fun _ => kk H2 locs2 mx' mm' hR2 hH) (fun q => absurd ((lc_eq v v).mpr rfl) q)
theorem cs_31 (hC : lw_C p s m c b L xs D cA tys adX adM) {k : Nat} (hk : k + 6 ≤ L) (hl : lw_L ls b adX adM k) (hR : RM mx mm) (hH : lw_H s D cA adX adM H locs mx mm) (kk : ∀ (H1 : Heap) (locs1 : List Loc) (mx' mm' : dx_M), RM mx' mm' → lw_H s D cA adX adM H1 locs1 mx' mm' → W p l e room_1 s m #[Value.ref b] below meth c H1 locs1 600000 7302250 Q (F0 m 1186 ls [])) : W p l e room_1 s m #[Value.ref b] below meth c H locs 600000 7302250 Q (F0 m 1113 ls []) := by
  obtain ⟨hx, hb, hml, hown, hts⟩ := hC.1
  refine lv_aload_n hx hb dL_1113 rfl (lv_at hl 2 rfl) ?_
  refine lw_arg (j := 1) (jv := 1) (pc := 1114) hC hH.2.2 rfl hk (by omega) hl dL_1114 dL_1115 dL_1116 dL_1117 dL_1118 ?_
  have hpr := pr_count hR (xs (k + 1))
  unfold PI at hpr
  refine lw_askX (as := [.int (xs (k + 1))]) (pc := 1119) hC kL_144 rfl rfl hpr hl.1 dL_1119 hH (fun r mx' H1 locs1 hz hH => ?_)
  obtain ⟨v, rfl, hz⟩ := hz
  show W p l e room_1 s m #[Value.ref b] below meth c H1 locs1 600000 7302250 Q (F0 m 1122 ls [.int v])
  refine lv_aload_n hx hb dL_1122 rfl (lv_at hl 1 rfl) ?_
  refine lw_arg (j := 1) (jv := 1) (pc := 1123) hC hH.2.2 rfl hk (by omega) hl dL_1123 dL_1124 dL_1125 dL_1126 dL_1127 ?_
  refine lw_askM (as := [.int (xs (k + 1))]) (pc := 1128) (v := .int v) hC kL_147 rfl rfl hz hl.1 dL_1128 (Nat.le_of_ble_eq_true rfl) hH (fun r2 mm' H2 locs2 hz2 hH => ?_)
  obtain ⟨rfl, hR2⟩ := hz2
  show W p l e room_1 s m #[Value.ref b] below meth c H2 locs2 600000 7302250 Q (F0 m 1131 ls [.int v, .int v])
  exact lv_icmp_eq (tgt := 1186) hx hb dL_1131 (by decide) (fun _ => kk H2 locs2 mx' mm' hR2 hH) (fun q => absurd rfl q)
theorem cs_32 (hC : lw_C p s m c b L xs D cA tys adX adM) {k : Nat} (hk : k + 6 ≤ L) (hl : lw_L ls b adX adM k) (hR : RM mx mm) (hH : lw_H s D cA adX adM H locs mx mm) (kk : ∀ (H1 : Heap) (locs1 : List Loc) (mx' mm' : dx_M), RM mx' mm' → lw_H s D cA adX adM H1 locs1 mx' mm' → W p l e room_1 s m #[Value.ref b] below meth c H1 locs1 600000 7302250 Q (F0 m 1186 ls [])) : W p l e room_1 s m #[Value.ref b] below meth c H locs 600000 7302250 Q (F0 m 1136 ls []) := by
  obtain ⟨hx, hb, hml, hown, hts⟩ := hC.1
  refine lv_aload_n hx hb dL_1136 rfl (lv_at hl 2 rfl) ?_
  have hpr := pr_finding hR
  unfold PI at hpr
  refine lw_askX (as := []) (pc := 1137) hC kL_148 rfl rfl hpr hl.1 dL_1137 hH (fun r mx' H1 locs1 hz hH => ?_)
  obtain ⟨v, rfl, hz⟩ := hz
  show W p l e room_1 s m #[Value.ref b] below meth c H1 locs1 600000 7302250 Q (F0 m 1140 ls [.int v])
  refine lv_aload_n hx hb dL_1140 rfl (lv_at hl 1 rfl) ?_
  refine lw_askM (as := []) (pc := 1141) (v := .int v) hC kL_151 rfl rfl hz hl.1 dL_1141 (Nat.le_of_ble_eq_true rfl) hH (fun r2 mm' H2 locs2 hz2 hH => ?_)
  obtain ⟨rfl, hR2⟩ := hz2
  show W p l e room_1 s m #[Value.ref b] below meth c H2 locs2 600000 7302250 Q (F0 m 1144 ls [.int v, .int v])
  exact lv_icmp_eq (tgt := 1186) hx hb dL_1144 (by decide) (fun _ => kk H2 locs2 mx' mm' hR2 hH) (fun q => absurd rfl q)
theorem cs_33 (hC : lw_C p s m c b L xs D cA tys adX adM) {k : Nat} (hk : k + 6 ≤ L) (hl : lw_L ls b adX adM k) (hR : RM mx mm) (hH : lw_H s D cA adX adM H locs mx mm) (kk : ∀ (H1 : Heap) (locs1 : List Loc) (mx' mm' : dx_M), RM mx' mm' → lw_H s D cA adX adM H1 locs1 mx' mm' → W p l e room_1 s m #[Value.ref b] below meth c H1 locs1 600000 7302250 Q (F0 m 1186 ls [])) : W p l e room_1 s m #[Value.ref b] below meth c H locs 600000 7302250 Q (F0 m 1149 ls []) := by
  obtain ⟨hx, hb, hml, hown, hts⟩ := hC.1
  refine lv_aload_n hx hb dL_1149 rfl (lv_at hl 2 rfl) ?_
  refine lw_arg (j := 1) (jv := 1) (pc := 1150) hC hH.2.2 rfl hk (by omega) hl dL_1150 dL_1151 dL_1152 dL_1153 dL_1154 ?_
  have hpr := pr_findings hR (xs (k + 1))
  unfold PI at hpr
  refine lw_askX (as := [.int (xs (k + 1))]) (pc := 1155) hC kL_152 rfl rfl hpr hl.1 dL_1155 hH (fun r mx' H1 locs1 hz hH => ?_)
  obtain ⟨v, rfl, hz⟩ := hz
  show W p l e room_1 s m #[Value.ref b] below meth c H1 locs1 600000 7302250 Q (F0 m 1158 ls [.int v])
  refine lv_aload_n hx hb dL_1158 rfl (lv_at hl 1 rfl) ?_
  refine lw_arg (j := 1) (jv := 1) (pc := 1159) hC hH.2.2 rfl hk (by omega) hl dL_1159 dL_1160 dL_1161 dL_1162 dL_1163 ?_
  refine lw_askM (as := [.int (xs (k + 1))]) (pc := 1164) (v := .int v) hC kL_155 rfl rfl hz hl.1 dL_1164 (Nat.le_of_ble_eq_true rfl) hH (fun r2 mm' H2 locs2 hz2 hH => ?_)
  obtain ⟨rfl, hR2⟩ := hz2
  show W p l e room_1 s m #[Value.ref b] below meth c H2 locs2 600000 7302250 Q (F0 m 1167 ls [.int v, .int v])
  exact lv_icmp_eq (tgt := 1186) hx hb dL_1167 (by decide) (fun _ => kk H2 locs2 mx' mm' hR2 hH) (fun q => absurd rfl q)
theorem cs_34 (hC : lw_C p s m c b L xs D cA tys adX adM) {k : Nat} (hk : k + 6 ≤ L) (hl : lw_L ls b adX adM k) (hR : RM mx mm) (hH : lw_H s D cA adX adM H locs mx mm) (kk : ∀ (H1 : Heap) (locs1 : List Loc) (mx' mm' : dx_M), RM mx' mm' → lw_H s D cA adX adM H1 locs1 mx' mm' → W p l e room_1 s m #[Value.ref b] below meth c H1 locs1 600000 7302250 Q (F0 m 1186 ls [])) : W p l e room_1 s m #[Value.ref b] below meth c H locs 600000 7302250 Q (F0 m 1172 ls []) := by
  obtain ⟨hx, hb, hml, hown, hts⟩ := hC.1
  refine lv_aload_n hx hb dL_1172 rfl (lv_at hl 2 rfl) ?_
  have hpr := pr_digest hR
  unfold PL at hpr
  refine lw_askX (as := []) (pc := 1173) hC kL_156 rfl rfl hpr hl.1 dL_1173 hH (fun r mx' H1 locs1 hz hH => ?_)
  obtain ⟨v, rfl, hz⟩ := hz
  show W p l e room_1 s m #[Value.ref b] below meth c H1 locs1 600000 7302250 Q (F0 m 1176 ls [.long v])
  refine lv_aload_n hx hb dL_1176 rfl (lv_at hl 1 rfl) ?_
  refine lw_askM (as := []) (pc := 1177) (v := .long v) hC kL_159 rfl rfl hz hl.1 dL_1177 (Nat.le_of_ble_eq_true rfl) hH (fun r2 mm' H2 locs2 hz2 hH => ?_)
  obtain ⟨rfl, hR2⟩ := hz2
  show W p l e room_1 s m #[Value.ref b] below meth c H2 locs2 600000 7302250 Q (F0 m 1180 ls [.long v, .long v])
  refine W.lcmp hx hb dL_1180 ?_
  exact lv_if_eq (tgt := 1186) hx hb dL_1181 (by decide) (fun _ => kk H2 locs2 mx' mm' hR2 hH) (fun q => absurd ((lc_eq v v).mpr rfl) q)
theorem and63 (x : Int32) : ∃ j : Nat, j < 64 ∧ x &&& 63 = nI j := by
  refine ⟨(x &&& 63).toBitVec.toNat, ?_, ?_⟩
  · rw [Int32.toBitVec_and, BitVec.toNat_and]
    exact Nat.lt_succ_of_le (Nat.le_trans Nat.and_le_right (by decide))
  · refine Int32.toBitVec_inj.mp ?_
    show (x &&& 63).toBitVec = BitVec.ofNat 32 _
    rw [BitVec.ofNat_toNat, BitVec.setWidth_eq]
def lw_Z0 : Prop := True
theorem lw_loop (hC : lw_C p s m c b L xs D cA tys adX adM) (hend : ∀ (ls : Array Slot) (H1 : Heap) (locs1 : List Loc), va_S (lw_A s) s.heap H1 locs1 → W p l e room_1 s m #[Value.ref b] below meth c H1 locs1 600000 7302250 Q (F0 m 1192 ls [])) : ∀ (n k : Nat) (ls : Array Slot) (H : Heap) (locs : List Loc) (mx mm : dx_M), L + 6 < k + n → k ≤ L + 6 → lw_L ls b adX adM k → RM mx mm → lw_H s D cA adX adM H locs mx mm → W p l e room_1 s m #[Value.ref b] below meth c H locs 600000 7302250 Q (F0 m 18 ls []) := by
  intro n
  induction n with
  | zero => intro k ls H locs mx mm h1 h2; omega
  | succ n ih =>
    intro k ls H locs mx mm h1 h2 hl hR hH
    obtain ⟨⟨hx, hb, hml, hown, hts⟩, ⟨hX, hbl, hL⟩, -⟩ := id hC
    refine lv_iload_n hx hb dL_18 rfl (lv_at hl 0 rfl) ?_
    refine lv_aload_n hx hb dL_19 rfl (lv_at hl 3 rfl) ?_
    refine va_slen (A := lw_A s) hx hb hX hbl (Nat.not_le.mpr hbl) hH.2.2 dL_20 ?_
    refine lv_bipush (v := 6) hx hb dL_21 (by decide) ?_
    refine lv_isub hx hb dL_23 ?_
    have e6 : ((Int32.ofNat L : Int32) - 6).toInt = (L : Int) - 6 := pk_sub_toInt (a := L) (b := 6) (by omega) (by decide)
    have ek : (nI k).toInt = k := nI_toInt (by omega)
    refine lv_icmp_gt (tgt := 1192) hx hb dL_24 (by decide) (fun _ => hend ls H locs hH.2.2) (fun q => ?_)
    have hk : k + 6 ≤ L := by
      rw [fa_lt, e6, ek] at q
      omega
    have hgo : ∀ (H1 : Heap) (locs1 : List Loc) (mx' mm' : dx_M), RM mx' mm' → lw_H s D cA adX adM H1 locs1 mx' mm' → W p l e room_1 s m #[Value.ref b] below meth c H1 locs1 600000 7302250 Q (F0 m 1186 ls []) := by
      intro H1 locs1 mx' mm' hR1 hH1
      refine lv_iinc (v := nI (k + 6)) (lv' := [(3, .int (nI (k + 6))), (2, .ref (adM 0)), (1, .ref (adX 0)), (0, .ref b)]) hx hb dL_1186 hl (k := 0) rfl (by rw [← nI_add]; rfl) (by decide) rfl (fun ls2 hl2 => ?_)
      refine lv_goto (tgt := 18) hx hb dL_1189 (by decide) ?_
      exact ih (k + 6) ls2 H1 locs1 mx' mm' (by omega) (by omega) hl2 hR1 hH1
    refine lv_aload_n hx hb dL_27 rfl (lv_at hl 3 rfl) ?_
    refine lv_iload_n hx hb dL_28 rfl (lv_at hl 0 rfl) ?_
    refine va_sld (A := lw_A s) hx hb hX hbl (Nat.not_le.mpr hbl) hH.2.2 (vp_in_nI (show k < L by omega) (by omega)) dL_29 ?_
    refine lv_bipush (v := 63) hx hb dL_30 (by decide) ?_
    refine lv_iand hx hb dL_32 ?_
    obtain ⟨j, hj, ej⟩ := and63 (xs (nI k).toNatClampNeg)
    rw [ej]
    by_cases q35 : j < 35
    · match j, q35 with
      | 0, _ => exact lv_tableIn (off := 155) (tgt := 188) hx hb dL_33 (by decide) (by decide) (by decide) (by decide) (cs_0 hC hk hl hR hH hgo)
      | 1, _ => exact lv_tableIn (off := 188) (tgt := 221) hx hb dL_33 (by decide) (by decide) (by decide) (by decide) (cs_1 hC hk hl hR hH hgo)
      | 2, _ => exact lv_tableIn (off := 231) (tgt := 264) hx hb dL_33 (by decide) (by decide) (by decide) (by decide) (cs_2 hC hk hl hR hH hgo)
      | 3, _ => exact lv_tableIn (off := 264) (tgt := 297) hx hb dL_33 (by decide) (by decide) (by decide) (by decide) (cs_3 hC hk hl hR hH hgo)
      | 4, _ => exact lv_tableIn (off := 287) (tgt := 320) hx hb dL_33 (by decide) (by decide) (by decide) (by decide) (cs_4 hC hk hl hR hH hgo)
      | 5, _ => exact lv_tableIn (off := 320) (tgt := 353) hx hb dL_33 (by decide) (by decide) (by decide) (by decide) (cs_5 hC hk hl hR hH hgo)
      | 6, _ => exact lv_tableIn (off := 363) (tgt := 396) hx hb dL_33 (by decide) (by decide) (by decide) (by decide) (cs_6 hC hk hl hR hH hgo)
      | 7, _ => exact lv_tableIn (off := 386) (tgt := 419) hx hb dL_33 (by decide) (by decide) (by decide) (by decide) (cs_7 hC hk hl hR hH hgo)
      | 8, _ => exact lv_tableIn (off := 449) (tgt := 482) hx hb dL_33 (by decide) (by decide) (by decide) (by decide) (cs_8 hC hk hl hR hH hgo)
      | 9, _ => exact lv_tableIn (off := 482) (tgt := 515) hx hb dL_33 (by decide) (by decide) (by decide) (by decide) (cs_9 hC hk hl hR hH hgo)
      | 10, _ => exact lv_tableIn (off := 535) (tgt := 568) hx hb dL_33 (by decide) (by decide) (by decide) (by decide) (cs_10 hC hk hl hR hH hgo)
      | 11, _ => exact lv_tableIn (off := 578) (tgt := 611) hx hb dL_33 (by decide) (by decide) (by decide) (by decide) (cs_11 hC hk hl hR hH hgo)
      | 12, _ => exact lv_tableIn (off := 611) (tgt := 644) hx hb dL_33 (by decide) (by decide) (by decide) (by decide) (cs_12 hC hk hl hR hH hgo)
      | 13, _ => exact lv_tableIn (off := 634) (tgt := 667) hx hb dL_33 (by decide) (by decide) (by decide) (by decide) (cs_13 hC hk hl hR hH hgo)
      | 14, _ => exact lv_tableIn (off := 667) (tgt := 700) hx hb dL_33 (by decide) (by decide) (by decide) (by decide) (cs_14 hC hk hl hR hH hgo)
      | 15, _ => exact lv_tableIn (off := 700) (tgt := 733) hx hb dL_33 (by decide) (by decide) (by decide) (by decide) (cs_15 hC hk hl hR hH hgo)
      | 16, _ => exact lv_tableIn (off := 713) (tgt := 746) hx hb dL_33 (by decide) (by decide) (by decide) (by decide) (cs_16 hC hk hl hR hH hgo)
      | 17, _ => exact lv_tableIn (off := 726) (tgt := 759) hx hb dL_33 (by decide) (by decide) (by decide) (by decide) (cs_17 hC hk hl hR hH hgo)
      | 18, _ => exact lv_tableIn (off := 749) (tgt := 782) hx hb dL_33 (by decide) (by decide) (by decide) (by decide) (cs_18 hC hk hl hR hH hgo)
      | 19, _ => exact lv_tableIn (off := 772) (tgt := 805) hx hb dL_33 (by decide) (by decide) (by decide) (by decide) (cs_19 hC hk hl hR hH hgo)
      | 20, _ => exact lv_tableIn (off := 795) (tgt := 828) hx hb dL_33 (by decide) (by decide) (by decide) (by decide) (cs_20 hC hk hl hR hH hgo)
      | 21, _ => exact lv_tableIn (off := 828) (tgt := 861) hx hb dL_33 (by decide) (by decide) (by decide) (by decide) (cs_21 hC hk hl hR hH hgo)
      | 22, _ => exact lv_tableIn (off := 871) (tgt := 904) hx hb dL_33 (by decide) (by decide) (by decide) (by decide) (cs_22 hC hk hl hR hH hgo)
      | 23, _ => exact lv_tableIn (off := 894) (tgt := 927) hx hb dL_33 (by decide) (by decide) (by decide) (by decide) (cs_23 hC hk hl hR hH hgo)
      | 24, _ => exact lv_tableIn (off := 917) (tgt := 950) hx hb dL_33 (by decide) (by decide) (by decide) (by decide) (cs_24 hC hk hl hR hH hgo)
      | 25, _ => exact lv_tableIn (off := 940) (tgt := 973) hx hb dL_33 (by decide) (by decide) (by decide) (by decide) (cs_25 hC hk hl hR hH hgo)
      | 26, _ => exact lv_tableIn (off := 953) (tgt := 986) hx hb dL_33 (by decide) (by decide) (by decide) (by decide) (cs_26 hC hk hl hR hH hgo)
      | 27, _ => exact lv_tableIn (off := 976) (tgt := 1009) hx hb dL_33 (by decide) (by decide) (by decide) (by decide) (cs_27 hC hk hl hR hH hgo)
      | 28, _ => exact lv_tableIn (off := 1009) (tgt := 1042) hx hb dL_33 (by decide) (by decide) (by decide) (by decide) (cs_28 hC hk hl hR hH hgo)
      | 29, _ => exact lv_tableIn (off := 1052) (tgt := 1085) hx hb dL_33 (by decide) (by decide) (by decide) (by decide) (cs_29 hC hk hl hR hH hgo)
      | 30, _ => exact lv_tableIn (off := 1066) (tgt := 1099) hx hb dL_33 (by decide) (by decide) (by decide) (by decide) (cs_30 hC hk hl hR hH hgo)
      | 31, _ => exact lv_tableIn (off := 1080) (tgt := 1113) hx hb dL_33 (by decide) (by decide) (by decide) (by decide) (cs_31 hC hk hl hR hH hgo)
      | 32, _ => exact lv_tableIn (off := 1103) (tgt := 1136) hx hb dL_33 (by decide) (by decide) (by decide) (by decide) (cs_32 hC hk hl hR hH hgo)
      | 33, _ => exact lv_tableIn (off := 1116) (tgt := 1149) hx hb dL_33 (by decide) (by decide) (by decide) (by decide) (cs_33 hC hk hl hR hH hgo)
      | 34, _ => exact lv_tableIn (off := 1139) (tgt := 1172) hx hb dL_33 (by decide) (by decide) (by decide) (by decide) (cs_34 hC hk hl hR hH hgo)
      | n + 35, h => exact absurd h (by omega)
    · refine lv_tableOut (tgt := 1186) hx hb dL_33 (Or.inr ?_) (by decide) (hgo H locs mx mm hR hH)
      rw [nI_toInt (by omega)]
      omega
end LAW2
