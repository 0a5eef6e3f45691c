/-! THE LAW: its cases, its loop -/
theorem lc_pot {p : Program} {l : Launch} {e : Env} {s : State} {m : MethodId} {below : List Frame} {meth : Method} {c : Code} {D : va_G} {y : Nat → ClassId} {q : Nat → Nat} {b L : Nat} {xs : Nat → Int32} (C : LC p s m meth c D y q b L xs) (hL : L ≤ 3072) {i : Nat} (hiL : i + 6 ≤ L) {σ : xSt} (hi : INV σ) (ih : ∀ σ, INV σ → LEv p l e s m below meth c D y q b 1168 [some (.ref 300), some (.ref 0), some (.ref 115), some (.int (nI i))] [] σ) : LEv p l e s m below meth c D y q b 172 [some (.ref 300), some (.ref 0), some (.ref 115), some (.int (nI i))] [] σ := by
  refine le_aload_n C dL_law_172 rfl ?_
  refine le_aload_n C dL_law_173 rfl ?_
  refine le_iload_n C dL_law_174 rfl ?_
  refine le_iconst C (v := 1) dL_law_175 rfl ?_
  refine le_iadd C dL_law_176 ?_
  refine le_sld C hL (j := i + 1) dL_law_177 (nI_add i 1) (by omega) ?_
  refine le_aload_n C dL_law_178 rfl ?_
  refine le_iload_n C dL_law_179 rfl ?_
  refine le_iconst C (v := 2) dL_law_180 rfl ?_
  refine le_iadd C dL_law_181 ?_
  refine le_sld C hL (j := i + 2) dL_law_182 (nI_add i 2) (by omega) ?_
  refine le_aload_n C dL_law_183 rfl ?_
  refine le_iload_n C dL_law_184 rfl ?_
  refine le_iconst C (v := 3) dL_law_185 rfl ?_
  refine le_iadd C dL_law_186 ?_
  refine le_sld C hL (j := i + 3) dL_law_187 (nI_add i 3) (by omega) ?_
  refine le_callv C (k2 := kX8_pot) (vs := [_, _, _]) dL_law_188 okX8_pot mlL_13 imX8_pot slX8_pot (Or.inl ⟨8, _, _, by decide, rfl, rfl, rfl⟩) rfl rfl (Nat.le_of_ble_eq_true rfl) (Nat.le_of_ble_eq_true rfl) ((st_pot _ _ _ σ hi).imp (fun r τ hr => ?_))
  obtain ⟨x, rfl, hm⟩ := hr
  refine le_aload_n C dL_law_191 rfl ?_
  refine le_aload_n C dL_law_192 rfl ?_
  refine le_iload_n C dL_law_193 rfl ?_
  refine le_iconst C (v := 1) dL_law_194 rfl ?_
  refine le_iadd C dL_law_195 ?_
  refine le_sld C hL (j := i + 1) dL_law_196 (nI_add i 1) (by omega) ?_
  refine le_aload_n C dL_law_197 rfl ?_
  refine le_iload_n C dL_law_198 rfl ?_
  refine le_iconst C (v := 2) dL_law_199 rfl ?_
  refine le_iadd C dL_law_200 ?_
  refine le_sld C hL (j := i + 2) dL_law_201 (nI_add i 2) (by omega) ?_
  refine le_aload_n C dL_law_202 rfl ?_
  refine le_iload_n C dL_law_203 rfl ?_
  refine le_iconst C (v := 3) dL_law_204 rfl ?_
  refine le_iadd C dL_law_205 ?_
  refine le_sld C hL (j := i + 3) dL_law_206 (nI_add i 3) (by omega) ?_
  refine le_callv C (k2 := kX9_pot) (vs := [_, _, _]) dL_law_207 okX9_pot mlL_17 imX9_pot slX9_pot (Or.inl ⟨9, _, _, by decide, rfl, rfl, rfl⟩) rfl rfl (Nat.le_of_ble_eq_true rfl) (Nat.le_of_ble_eq_true rfl) (hm.imp (fun r2 υ hr2 => ?_))
  obtain ⟨rfl, hυ⟩ := hr2
  exact le_icmp_eq (tgt := 1168) C dL_law_210 (by decide) (fun _ => ih υ hυ) (fun z => absurd rfl z)
theorem lc_of {p : Program} {l : Launch} {e : Env} {s : State} {m : MethodId} {below : List Frame} {meth : Method} {c : Code} {D : va_G} {y : Nat → ClassId} {q : Nat → Nat} {b L : Nat} {xs : Nat → Int32} (C : LC p s m meth c D y q b L xs) (hL : L ≤ 3072) {i : Nat} (hiL : i + 6 ≤ L) {σ : xSt} (hi : INV σ) (ih : ∀ σ, INV σ → LEv p l e s m below meth c D y q b 1168 [some (.ref 300), some (.ref 0), some (.ref 115), some (.int (nI i))] [] σ) : LEv p l e s m below meth c D y q b 215 [some (.ref 300), some (.ref 0), some (.ref 115), some (.int (nI i))] [] σ := by
  refine le_aload_n C dL_law_215 rfl ?_
  refine le_aload_n C dL_law_216 rfl ?_
  refine le_iload_n C dL_law_217 rfl ?_
  refine le_iconst C (v := 1) dL_law_218 rfl ?_
  refine le_iadd C dL_law_219 ?_
  refine le_sld C hL (j := i + 1) dL_law_220 (nI_add i 1) (by omega) ?_
  refine le_aload_n C dL_law_221 rfl ?_
  refine le_iload_n C dL_law_222 rfl ?_
  refine le_iconst C (v := 2) dL_law_223 rfl ?_
  refine le_iadd C dL_law_224 ?_
  refine le_sld C hL (j := i + 2) dL_law_225 (nI_add i 2) (by omega) ?_
  refine le_callv C (k2 := kX8_of) (vs := [_, _]) dL_law_226 okX8_of mlL_18 imX8_of slX8_of (Or.inl ⟨8, _, _, by decide, rfl, rfl, rfl⟩) rfl rfl (Nat.le_of_ble_eq_true rfl) (Nat.le_of_ble_eq_true rfl) ((st_of _ _ σ hi).imp (fun r τ hr => ?_))
  obtain ⟨x, rfl, hm⟩ := hr
  refine le_aload_n C dL_law_229 rfl ?_
  refine le_aload_n C dL_law_230 rfl ?_
  refine le_iload_n C dL_law_231 rfl ?_
  refine le_iconst C (v := 1) dL_law_232 rfl ?_
  refine le_iadd C dL_law_233 ?_
  refine le_sld C hL (j := i + 1) dL_law_234 (nI_add i 1) (by omega) ?_
  refine le_aload_n C dL_law_235 rfl ?_
  refine le_iload_n C dL_law_236 rfl ?_
  refine le_iconst C (v := 2) dL_law_237 rfl ?_
  refine le_iadd C dL_law_238 ?_
  refine le_sld C hL (j := i + 2) dL_law_239 (nI_add i 2) (by omega) ?_
  refine le_callv C (k2 := kX9_of) (vs := [_, _]) dL_law_240 okX9_of mlL_22 imX9_of slX9_of (Or.inl ⟨9, _, _, by decide, rfl, rfl, rfl⟩) rfl rfl (Nat.le_of_ble_eq_true rfl) (Nat.le_of_ble_eq_true rfl) (hm.imp (fun r2 υ hr2 => ?_))
  obtain ⟨rfl, hυ⟩ := hr2
  exact le_icmp_eq (tgt := 1168) C dL_law_243 (by decide) (fun _ => ih υ hυ) (fun z => absurd rfl z)
theorem lc_world {p : Program} {l : Launch} {e : Env} {s : State} {m : MethodId} {below : List Frame} {meth : Method} {c : Code} {D : va_G} {y : Nat → ClassId} {q : Nat → Nat} {b L : Nat} {xs : Nat → Int32} (C : LC p s m meth c D y q b L xs) (hL : L ≤ 3072) {i : Nat} (hiL : i + 6 ≤ L) {σ : xSt} (hi : INV σ) (ih : ∀ σ, INV σ → LEv p l e s m below meth c D y q b 1168 [some (.ref 300), some (.ref 0), some (.ref 115), some (.int (nI i))] [] σ) : LEv p l e s m below meth c D y q b 248 [some (.ref 300), some (.ref 0), some (.ref 115), some (.int (nI i))] [] σ := by
  refine le_aload_n C dL_law_248 rfl ?_
  refine le_aload_n C dL_law_249 rfl ?_
  refine le_iload_n C dL_law_250 rfl ?_
  refine le_iconst C (v := 1) dL_law_251 rfl ?_
  refine le_iadd C dL_law_252 ?_
  refine le_sld C hL (j := i + 1) dL_law_253 (nI_add i 1) (by omega) ?_
  refine le_callv C (k2 := kX8_world) (vs := [_]) dL_law_254 okX8_world mlL_23 imX8_world slX8_world (Or.inl ⟨8, _, _, by decide, rfl, rfl, rfl⟩) rfl rfl (Nat.le_of_ble_eq_true rfl) (Nat.le_of_ble_eq_true rfl) ((st_world _ σ hi).imp (fun r τ hr => ?_))
  obtain ⟨x, rfl, hm⟩ := hr
  refine le_aload_n C dL_law_257 rfl ?_
  refine le_aload_n C dL_law_258 rfl ?_
  refine le_iload_n C dL_law_259 rfl ?_
  refine le_iconst C (v := 1) dL_law_260 rfl ?_
  refine le_iadd C dL_law_261 ?_
  refine le_sld C hL (j := i + 1) dL_law_262 (nI_add i 1) (by omega) ?_
  refine le_callv C (k2 := kX9_world) (vs := [_]) dL_law_263 okX9_world mlL_27 imX9_world slX9_world (Or.inl ⟨9, _, _, by decide, rfl, rfl, rfl⟩) rfl rfl (Nat.le_of_ble_eq_true rfl) (Nat.le_of_ble_eq_true rfl) (hm.imp (fun r2 υ hr2 => ?_))
  obtain ⟨rfl, hυ⟩ := hr2
  exact le_icmp_eq (tgt := 1168) C dL_law_266 (by decide) (fun _ => ih υ hυ) (fun z => absurd rfl z)
theorem lc_sugar {p : Program} {l : Launch} {e : Env} {s : State} {m : MethodId} {below : List Frame} {meth : Method} {c : Code} {D : va_G} {y : Nat → ClassId} {q : Nat → Nat} {b L : Nat} {xs : Nat → Int32} (C : LC p s m meth c D y q b L xs) (hL : L ≤ 3072) {i : Nat} (hiL : i + 6 ≤ L) {σ : xSt} (hi : INV σ) (ih : ∀ σ, INV σ → LEv p l e s m below meth c D y q b 1168 [some (.ref 300), some (.ref 0), some (.ref 115), some (.int (nI i))] [] σ) : LEv p l e s m below meth c D y q b 271 [some (.ref 300), some (.ref 0), some (.ref 115), some (.int (nI i))] [] σ := by
  refine le_aload_n C dL_law_271 rfl ?_
  refine le_aload_n C dL_law_272 rfl ?_
  refine le_iload_n C dL_law_273 rfl ?_
  refine le_iconst C (v := 1) dL_law_274 rfl ?_
  refine le_iadd C dL_law_275 ?_
  refine le_sld C hL (j := i + 1) dL_law_276 (nI_add i 1) (by omega) ?_
  refine le_aload_n C dL_law_277 rfl ?_
  refine le_iload_n C dL_law_278 rfl ?_
  refine le_iconst C (v := 2) dL_law_279 rfl ?_
  refine le_iadd C dL_law_280 ?_
  refine le_sld C hL (j := i + 2) dL_law_281 (nI_add i 2) (by omega) ?_
  refine le_callv C (k2 := kX8_sugar) (vs := [_, _]) dL_law_282 okX8_sugar mlL_28 imX8_sugar slX8_sugar (Or.inl ⟨8, _, _, by decide, rfl, rfl, rfl⟩) rfl rfl (Nat.le_of_ble_eq_true rfl) (Nat.le_of_ble_eq_true rfl) ((st_sugar _ _ σ hi).imp (fun r τ hr => ?_))
  obtain ⟨x, rfl, hm⟩ := hr
  refine le_aload_n C dL_law_285 rfl ?_
  refine le_aload_n C dL_law_286 rfl ?_
  refine le_iload_n C dL_law_287 rfl ?_
  refine le_iconst C (v := 1) dL_law_288 rfl ?_
  refine le_iadd C dL_law_289 ?_
  refine le_sld C hL (j := i + 1) dL_law_290 (nI_add i 1) (by omega) ?_
  refine le_aload_n C dL_law_291 rfl ?_
  refine le_iload_n C dL_law_292 rfl ?_
  refine le_iconst C (v := 2) dL_law_293 rfl ?_
  refine le_iadd C dL_law_294 ?_
  refine le_sld C hL (j := i + 2) dL_law_295 (nI_add i 2) (by omega) ?_
  refine le_callv C (k2 := kX9_sugar) (vs := [_, _]) dL_law_296 okX9_sugar mlL_31 imX9_sugar slX9_sugar (Or.inl ⟨9, _, _, by decide, rfl, rfl, rfl⟩) rfl rfl (Nat.le_of_ble_eq_true rfl) (Nat.le_of_ble_eq_true rfl) (hm.imp (fun r2 υ hr2 => ?_))
  obtain ⟨rfl, hυ⟩ := hr2
  exact le_icmp_eq (tgt := 1168) C dL_law_299 (by decide) (fun _ => ih υ hυ) (fun z => absurd rfl z)
theorem lc_spoon {p : Program} {l : Launch} {e : Env} {s : State} {m : MethodId} {below : List Frame} {meth : Method} {c : Code} {D : va_G} {y : Nat → ClassId} {q : Nat → Nat} {b L : Nat} {xs : Nat → Int32} (C : LC p s m meth c D y q b L xs) (hL : L ≤ 3072) {i : Nat} (hiL : i + 6 ≤ L) {σ : xSt} (hi : INV σ) (ih : ∀ σ, INV σ → LEv p l e s m below meth c D y q b 1168 [some (.ref 300), some (.ref 0), some (.ref 115), some (.int (nI i))] [] σ) : LEv p l e s m below meth c D y q b 304 [some (.ref 300), some (.ref 0), some (.ref 115), some (.int (nI i))] [] σ := by
  refine le_aload_n C dL_law_304 rfl ?_
  refine le_aload_n C dL_law_305 rfl ?_
  refine le_iload_n C dL_law_306 rfl ?_
  refine le_iconst C (v := 1) dL_law_307 rfl ?_
  refine le_iadd C dL_law_308 ?_
  refine le_sld C hL (j := i + 1) dL_law_309 (nI_add i 1) (by omega) ?_
  refine le_aload_n C dL_law_310 rfl ?_
  refine le_iload_n C dL_law_311 rfl ?_
  refine le_iconst C (v := 2) dL_law_312 rfl ?_
  refine le_iadd C dL_law_313 ?_
  refine le_sld C hL (j := i + 2) dL_law_314 (nI_add i 2) (by omega) ?_
  refine le_callv C (k2 := kX8_spoon) (vs := [_, _]) dL_law_315 okX8_spoon mlL_32 imX8_spoon slX8_spoon (Or.inl ⟨8, _, _, by decide, rfl, rfl, rfl⟩) rfl rfl (Nat.le_of_ble_eq_true rfl) (Nat.le_of_ble_eq_true rfl) ((st_spoon _ _ σ hi).imp (fun r τ hr => ?_))
  obtain ⟨x, rfl, hm⟩ := hr
  refine le_aload_n C dL_law_318 rfl ?_
  refine le_aload_n C dL_law_319 rfl ?_
  refine le_iload_n C dL_law_320 rfl ?_
  refine le_iconst C (v := 1) dL_law_321 rfl ?_
  refine le_iadd C dL_law_322 ?_
  refine le_sld C hL (j := i + 1) dL_law_323 (nI_add i 1) (by omega) ?_
  refine le_aload_n C dL_law_324 rfl ?_
  refine le_iload_n C dL_law_325 rfl ?_
  refine le_iconst C (v := 2) dL_law_326 rfl ?_
  refine le_iadd C dL_law_327 ?_
  refine le_sld C hL (j := i + 2) dL_law_328 (nI_add i 2) (by omega) ?_
  refine le_callv C (k2 := kX9_spoon) (vs := [_, _]) dL_law_329 okX9_spoon mlL_35 imX9_spoon slX9_spoon (Or.inl ⟨9, _, _, by decide, rfl, rfl, rfl⟩) rfl rfl (Nat.le_of_ble_eq_true rfl) (Nat.le_of_ble_eq_true rfl) (hm.imp (fun r2 υ hr2 => ?_))
  obtain ⟨rfl, hυ⟩ := hr2
  exact le_icmp_eq (tgt := 1168) C dL_law_332 (by decide) (fun _ => ih υ hυ) (fun z => absurd rfl z)
theorem lc_row {p : Program} {l : Launch} {e : Env} {s : State} {m : MethodId} {below : List Frame} {meth : Method} {c : Code} {D : va_G} {y : Nat → ClassId} {q : Nat → Nat} {b L : Nat} {xs : Nat → Int32} (C : LC p s m meth c D y q b L xs) (hL : L ≤ 3072) {i : Nat} (hiL : i + 6 ≤ L) {σ : xSt} (hi : INV σ) (ih : ∀ σ, INV σ → LEv p l e s m below meth c D y q b 1168 [some (.ref 300), some (.ref 0), some (.ref 115), some (.int (nI i))] [] σ) : LEv p l e s m below meth c D y q b 337 [some (.ref 300), some (.ref 0), some (.ref 115), some (.int (nI i))] [] σ := by
  refine le_aload_n C dL_law_337 rfl ?_
  refine le_aload_n C dL_law_338 rfl ?_
  refine le_iload_n C dL_law_339 rfl ?_
  refine le_iconst C (v := 1) dL_law_340 rfl ?_
  refine le_iadd C dL_law_341 ?_
  refine le_sld C hL (j := i + 1) dL_law_342 (nI_add i 1) (by omega) ?_
  refine le_aload_n C dL_law_343 rfl ?_
  refine le_iload_n C dL_law_344 rfl ?_
  refine le_iconst C (v := 2) dL_law_345 rfl ?_
  refine le_iadd C dL_law_346 ?_
  refine le_sld C hL (j := i + 2) dL_law_347 (nI_add i 2) (by omega) ?_
  refine le_aload_n C dL_law_348 rfl ?_
  refine le_iload_n C dL_law_349 rfl ?_
  refine le_iconst C (v := 3) dL_law_350 rfl ?_
  refine le_iadd C dL_law_351 ?_
  refine le_sld C hL (j := i + 3) dL_law_352 (nI_add i 3) (by omega) ?_
  refine le_callv C (k2 := kX8_row) (vs := [_, _, _]) dL_law_353 okX8_row mlL_36 imX8_row slX8_row (Or.inl ⟨8, _, _, by decide, rfl, rfl, rfl⟩) rfl rfl (Nat.le_of_ble_eq_true rfl) (Nat.le_of_ble_eq_true rfl) ((st_row _ _ _ σ hi).imp (fun r τ hr => ?_))
  obtain ⟨x, rfl, hm⟩ := hr
  refine le_aload_n C dL_law_356 rfl ?_
  refine le_aload_n C dL_law_357 rfl ?_
  refine le_iload_n C dL_law_358 rfl ?_
  refine le_iconst C (v := 1) dL_law_359 rfl ?_
  refine le_iadd C dL_law_360 ?_
  refine le_sld C hL (j := i + 1) dL_law_361 (nI_add i 1) (by omega) ?_
  refine le_aload_n C dL_law_362 rfl ?_
  refine le_iload_n C dL_law_363 rfl ?_
  refine le_iconst C (v := 2) dL_law_364 rfl ?_
  refine le_iadd C dL_law_365 ?_
  refine le_sld C hL (j := i + 2) dL_law_366 (nI_add i 2) (by omega) ?_
  refine le_aload_n C dL_law_367 rfl ?_
  refine le_iload_n C dL_law_368 rfl ?_
  refine le_iconst C (v := 3) dL_law_369 rfl ?_
  refine le_iadd C dL_law_370 ?_
  refine le_sld C hL (j := i + 3) dL_law_371 (nI_add i 3) (by omega) ?_
  refine le_callv C (k2 := kX9_row) (vs := [_, _, _]) dL_law_372 okX9_row mlL_39 imX9_row slX9_row (Or.inl ⟨9, _, _, by decide, rfl, rfl, rfl⟩) rfl rfl (Nat.le_of_ble_eq_true rfl) (Nat.le_of_ble_eq_true rfl) (hm.imp (fun r2 υ hr2 => ?_))
  obtain ⟨rfl, hυ⟩ := hr2
  exact le_icmp_eq (tgt := 1168) C dL_law_375 (by decide) (fun _ => ih υ hυ) (fun z => absurd rfl z)
theorem lc_feed {p : Program} {l : Launch} {e : Env} {s : State} {m : MethodId} {below : List Frame} {meth : Method} {c : Code} {D : va_G} {y : Nat → ClassId} {q : Nat → Nat} {b L : Nat} {xs : Nat → Int32} (C : LC p s m meth c D y q b L xs) (hL : L ≤ 3072) {i : Nat} (hiL : i + 6 ≤ L) {σ : xSt} (hi : INV σ) (ih : ∀ σ, INV σ → LEv p l e s m below meth c D y q b 1168 [some (.ref 300), some (.ref 0), some (.ref 115), some (.int (nI i))] [] σ) : LEv p l e s m below meth c D y q b 380 [some (.ref 300), some (.ref 0), some (.ref 115), some (.int (nI i))] [] σ := by
  refine le_aload_n C dL_law_380 rfl ?_
  refine le_aload_n C dL_law_381 rfl ?_
  refine le_iload_n C dL_law_382 rfl ?_
  refine le_iconst C (v := 1) dL_law_383 rfl ?_
  refine le_iadd C dL_law_384 ?_
  refine le_sld C hL (j := i + 1) dL_law_385 (nI_add i 1) (by omega) ?_
  refine le_callv C (k2 := kX8_feed) (vs := [_]) dL_law_386 okX8_feed mlL_40 imX8_feed slX8_feed (Or.inl ⟨8, _, _, by decide, rfl, rfl, rfl⟩) rfl rfl (Nat.le_of_ble_eq_true rfl) (Nat.le_of_ble_eq_true rfl) ((st_feed _ σ hi).imp (fun r τ hr => ?_))
  obtain ⟨x, rfl, hm⟩ := hr
  refine le_aload_n C dL_law_389 rfl ?_
  refine le_aload_n C dL_law_390 rfl ?_
  refine le_iload_n C dL_law_391 rfl ?_
  refine le_iconst C (v := 1) dL_law_392 rfl ?_
  refine le_iadd C dL_law_393 ?_
  refine le_sld C hL (j := i + 1) dL_law_394 (nI_add i 1) (by omega) ?_
  refine le_callv C (k2 := kX9_feed) (vs := [_]) dL_law_395 okX9_feed mlL_43 imX9_feed slX9_feed (Or.inl ⟨9, _, _, by decide, rfl, rfl, rfl⟩) rfl rfl (Nat.le_of_ble_eq_true rfl) (Nat.le_of_ble_eq_true rfl) (hm.imp (fun r2 υ hr2 => ?_))
  obtain ⟨rfl, hυ⟩ := hr2
  exact le_icmp_eq (tgt := 1168) C dL_law_398 (by decide) (fun _ => ih υ hυ) (fun z => absurd rfl z)
theorem lc_cellar {p : Program} {l : Launch} {e : Env} {s : State} {m : MethodId} {below : List Frame} {meth : Method} {c : Code} {D : va_G} {y : Nat → ClassId} {q : Nat → Nat} {b L : Nat} {xs : Nat → Int32} (C : LC p s m meth c D y q b L xs) (hL : L ≤ 3072) {i : Nat} (hiL : i + 6 ≤ L) {σ : xSt} (hi : INV σ) (ih : ∀ σ, INV σ → LEv p l e s m below meth c D y q b 1168 [some (.ref 300), some (.ref 0), some (.ref 115), some (.int (nI i))] [] σ) : LEv p l e s m below meth c D y q b 403 [some (.ref 300), some (.ref 0), some (.ref 115), some (.int (nI i))] [] σ := by
  refine le_aload_n C dL_law_403 rfl ?_
  refine le_callv C (k2 := kX8_cellar) (vs := []) dL_law_404 okX8_cellar mlL_44 imX8_cellar slX8_cellar (Or.inl ⟨8, _, _, by decide, rfl, rfl, rfl⟩) rfl rfl (Nat.le_of_ble_eq_true rfl) (Nat.le_of_ble_eq_true rfl) ((st_cellar σ hi).imp (fun r τ hr => ?_))
  obtain ⟨x, rfl, hm⟩ := hr
  refine le_aload_n C dL_law_407 rfl ?_
  refine le_callv C (k2 := kX9_cellar) (vs := []) dL_law_408 okX9_cellar mlL_48 imX9_cellar slX9_cellar (Or.inl ⟨9, _, _, by decide, rfl, rfl, rfl⟩) rfl rfl (Nat.le_of_ble_eq_true rfl) (Nat.le_of_ble_eq_true rfl) (hm.imp (fun r2 υ hr2 => ?_))
  obtain ⟨rfl, hυ⟩ := hr2
  exact le_icmp_eq (tgt := 1168) C dL_law_411 (by decide) (fun _ => ih υ hυ) (fun z => absurd rfl z)
theorem lc_told {p : Program} {l : Launch} {e : Env} {s : State} {m : MethodId} {below : List Frame} {meth : Method} {c : Code} {D : va_G} {y : Nat → ClassId} {q : Nat → Nat} {b L : Nat} {xs : Nat → Int32} (C : LC p s m meth c D y q b L xs) (hL : L ≤ 3072) {i : Nat} (hiL : i + 6 ≤ L) {σ : xSt} (hi : INV σ) (ih : ∀ σ, INV σ → LEv p l e s m below meth c D y q b 1168 [some (.ref 300), some (.ref 0), some (.ref 115), some (.int (nI i))] [] σ) : LEv p l e s m below meth c D y q b 416 [some (.ref 300), some (.ref 0), some (.ref 115), some (.int (nI i))] [] σ := by
  refine le_aload_n C dL_law_416 rfl ?_
  refine le_aload_n C dL_law_417 rfl ?_
  refine le_iload_n C dL_law_418 rfl ?_
  refine le_iconst C (v := 1) dL_law_419 rfl ?_
  refine le_iadd C dL_law_420 ?_
  refine le_sld C hL (j := i + 1) dL_law_421 (nI_add i 1) (by omega) ?_
  refine le_callv C (k2 := kX8_told) (vs := [_]) dL_law_422 okX8_told mlL_49 imX8_told slX8_told (Or.inl ⟨8, _, _, by decide, rfl, rfl, rfl⟩) rfl rfl (Nat.le_of_ble_eq_true rfl) (Nat.le_of_ble_eq_true rfl) ((st_told _ σ hi).imp (fun r τ hr => ?_))
  obtain ⟨x, rfl, hm⟩ := hr
  refine le_aload_n C dL_law_425 rfl ?_
  refine le_aload_n C dL_law_426 rfl ?_
  refine le_iload_n C dL_law_427 rfl ?_
  refine le_iconst C (v := 1) dL_law_428 rfl ?_
  refine le_iadd C dL_law_429 ?_
  refine le_sld C hL (j := i + 1) dL_law_430 (nI_add i 1) (by omega) ?_
  refine le_callv C (k2 := kX9_told) (vs := [_]) dL_law_431 okX9_told mlL_52 imX9_told slX9_told (Or.inl ⟨9, _, _, by decide, rfl, rfl, rfl⟩) rfl rfl (Nat.le_of_ble_eq_true rfl) (Nat.le_of_ble_eq_true rfl) (hm.imp (fun r2 υ hr2 => ?_))
  obtain ⟨rfl, hυ⟩ := hr2
  exact le_icmp_eq (tgt := 1168) C dL_law_434 (by decide) (fun _ => ih υ hυ) (fun z => absurd rfl z)
theorem lc_pass {p : Program} {l : Launch} {e : Env} {s : State} {m : MethodId} {below : List Frame} {meth : Method} {c : Code} {D : va_G} {y : Nat → ClassId} {q : Nat → Nat} {b L : Nat} {xs : Nat → Int32} (C : LC p s m meth c D y q b L xs) (hL : L ≤ 3072) {i : Nat} (hiL : i + 6 ≤ L) {σ : xSt} (hi : INV σ) (ih : ∀ σ, INV σ → LEv p l e s m below meth c D y q b 1168 [some (.ref 300), some (.ref 0), some (.ref 115), some (.int (nI i))] [] σ) : LEv p l e s m below meth c D y q b 439 [some (.ref 300), some (.ref 0), some (.ref 115), some (.int (nI i))] [] σ := by
  refine le_aload_n C dL_law_439 rfl ?_
  refine le_aload_n C dL_law_440 rfl ?_
  refine le_iload_n C dL_law_441 rfl ?_
  refine le_iconst C (v := 1) dL_law_442 rfl ?_
  refine le_iadd C dL_law_443 ?_
  refine le_sld C hL (j := i + 1) dL_law_444 (nI_add i 1) (by omega) ?_
  refine le_callv C (k2 := kX8_pass) (vs := [_]) dL_law_445 okX8_pass mlL_53 imX8_pass slX8_pass (Or.inl ⟨8, _, _, by decide, rfl, rfl, rfl⟩) rfl rfl (Nat.le_of_ble_eq_true rfl) (Nat.le_of_ble_eq_true rfl) ((st_pass _ σ hi).imp (fun r τ hr => ?_))
  obtain ⟨x, rfl, hm⟩ := hr
  refine le_aload_n C dL_law_448 rfl ?_
  refine le_aload_n C dL_law_449 rfl ?_
  refine le_iload_n C dL_law_450 rfl ?_
  refine le_iconst C (v := 1) dL_law_451 rfl ?_
  refine le_iadd C dL_law_452 ?_
  refine le_sld C hL (j := i + 1) dL_law_453 (nI_add i 1) (by omega) ?_
  refine le_callv C (k2 := kX9_pass) (vs := [_]) dL_law_454 okX9_pass mlL_56 imX9_pass slX9_pass (Or.inl ⟨9, _, _, by decide, rfl, rfl, rfl⟩) rfl rfl (Nat.le_of_ble_eq_true rfl) (Nat.le_of_ble_eq_true rfl) (hm.imp (fun r2 υ hr2 => ?_))
  obtain ⟨rfl, hυ⟩ := hr2
  exact le_icmp_eq (tgt := 1168) C dL_law_457 (by decide) (fun _ => ih υ hυ) (fun z => absurd rfl z)
theorem lc_on {p : Program} {l : Launch} {e : Env} {s : State} {m : MethodId} {below : List Frame} {meth : Method} {c : Code} {D : va_G} {y : Nat → ClassId} {q : Nat → Nat} {b L : Nat} {xs : Nat → Int32} (C : LC p s m meth c D y q b L xs) (hL : L ≤ 3072) {i : Nat} (hiL : i + 6 ≤ L) {σ : xSt} (hi : INV σ) (ih : ∀ σ, INV σ → LEv p l e s m below meth c D y q b 1168 [some (.ref 300), some (.ref 0), some (.ref 115), some (.int (nI i))] [] σ) : LEv p l e s m below meth c D y q b 462 [some (.ref 300), some (.ref 0), some (.ref 115), some (.int (nI i))] [] σ := by
  refine le_aload_n C dL_law_462 rfl ?_
  refine le_aload_n C dL_law_463 rfl ?_
  refine le_iload_n C dL_law_464 rfl ?_
  refine le_iconst C (v := 1) dL_law_465 rfl ?_
  refine le_iadd C dL_law_466 ?_
  refine le_sld C hL (j := i + 1) dL_law_467 (nI_add i 1) (by omega) ?_
  refine le_aload_n C dL_law_468 rfl ?_
  refine le_iload_n C dL_law_469 rfl ?_
  refine le_iconst C (v := 2) dL_law_470 rfl ?_
  refine le_iadd C dL_law_471 ?_
  refine le_sld C hL (j := i + 2) dL_law_472 (nI_add i 2) (by omega) ?_
  refine le_callv C (k2 := kX8_on) (vs := [_, _]) dL_law_473 okX8_on mlL_57 imX8_on slX8_on (Or.inl ⟨8, _, _, by decide, rfl, rfl, rfl⟩) rfl rfl (Nat.le_of_ble_eq_true rfl) (Nat.le_of_ble_eq_true rfl) ((st_on _ _ σ hi).imp (fun r τ hr => ?_))
  obtain ⟨x, rfl, hm⟩ := hr
  refine le_aload_n C dL_law_476 rfl ?_
  refine le_aload_n C dL_law_477 rfl ?_
  refine le_iload_n C dL_law_478 rfl ?_
  refine le_iconst C (v := 1) dL_law_479 rfl ?_
  refine le_iadd C dL_law_480 ?_
  refine le_sld C hL (j := i + 1) dL_law_481 (nI_add i 1) (by omega) ?_
  refine le_aload_n C dL_law_482 rfl ?_
  refine le_iload_n C dL_law_483 rfl ?_
  refine le_iconst C (v := 2) dL_law_484 rfl ?_
  refine le_iadd C dL_law_485 ?_
  refine le_sld C hL (j := i + 2) dL_law_486 (nI_add i 2) (by omega) ?_
  refine le_callv C (k2 := kX9_on) (vs := [_, _]) dL_law_487 okX9_on mlL_60 imX9_on slX9_on (Or.inl ⟨9, _, _, by decide, rfl, rfl, rfl⟩) rfl rfl (Nat.le_of_ble_eq_true rfl) (Nat.le_of_ble_eq_true rfl) (hm.imp (fun r2 υ hr2 => ?_))
  obtain ⟨rfl, hυ⟩ := hr2
  exact le_icmp_eq (tgt := 1168) C dL_law_490 (by decide) (fun _ => ih υ hυ) (fun z => absurd rfl z)
theorem lc_cases {p : Program} {l : Launch} {e : Env} {s : State} {m : MethodId} {below : List Frame} {meth : Method} {c : Code} {D : va_G} {y : Nat → ClassId} {q : Nat → Nat} {b L : Nat} {xs : Nat → Int32} (C : LC p s m meth c D y q b L xs) (hL : L ≤ 3072) {i : Nat} (hiL : i + 6 ≤ L) {σ : xSt} (hi : INV σ) (ih : ∀ σ, INV σ → LEv p l e s m below meth c D y q b 1168 [some (.ref 300), some (.ref 0), some (.ref 115), some (.int (nI i))] [] σ) : LEv p l e s m below meth c D y q b 495 [some (.ref 300), some (.ref 0), some (.ref 115), some (.int (nI i))] [] σ := by
  refine le_aload_n C dL_law_495 rfl ?_
  refine le_aload_n C dL_law_496 rfl ?_
  refine le_iload_n C dL_law_497 rfl ?_
  refine le_iconst C (v := 1) dL_law_498 rfl ?_
  refine le_iadd C dL_law_499 ?_
  refine le_sld C hL (j := i + 1) dL_law_500 (nI_add i 1) (by omega) ?_
  refine le_aload_n C dL_law_501 rfl ?_
  refine le_iload_n C dL_law_502 rfl ?_
  refine le_iconst C (v := 2) dL_law_503 rfl ?_
  refine le_iadd C dL_law_504 ?_
  refine le_sld C hL (j := i + 2) dL_law_505 (nI_add i 2) (by omega) ?_
  refine le_callv C (k2 := kX8_cases) (vs := [_, _]) dL_law_506 okX8_cases mlL_61 imX8_cases slX8_cases (Or.inl ⟨8, _, _, by decide, rfl, rfl, rfl⟩) rfl rfl (Nat.le_of_ble_eq_true rfl) (Nat.le_of_ble_eq_true rfl) ((st_cases _ _ σ hi).imp (fun r τ hr => ?_))
  obtain ⟨x, rfl, hm⟩ := hr
  refine le_aload_n C dL_law_509 rfl ?_
  refine le_aload_n C dL_law_510 rfl ?_
  refine le_iload_n C dL_law_511 rfl ?_
  refine le_iconst C (v := 1) dL_law_512 rfl ?_
  refine le_iadd C dL_law_513 ?_
  refine le_sld C hL (j := i + 1) dL_law_514 (nI_add i 1) (by omega) ?_
  refine le_aload_n C dL_law_515 rfl ?_
  refine le_iload_n C dL_law_516 rfl ?_
  refine le_iconst C (v := 2) dL_law_517 rfl ?_
  refine le_iadd C dL_law_518 ?_
  refine le_sld C hL (j := i + 2) dL_law_519 (nI_add i 2) (by omega) ?_
  refine le_callv C (k2 := kX9_cases) (vs := [_, _]) dL_law_520 okX9_cases mlL_64 imX9_cases slX9_cases (Or.inl ⟨9, _, _, by decide, rfl, rfl, rfl⟩) rfl rfl (Nat.le_of_ble_eq_true rfl) (Nat.le_of_ble_eq_true rfl) (hm.imp (fun r2 υ hr2 => ?_))
  obtain ⟨rfl, hυ⟩ := hr2
  exact le_icmp_eq (tgt := 1168) C dL_law_523 (by decide) (fun _ => ih υ hυ) (fun z => absurd rfl z)
theorem lc_hear {p : Program} {l : Launch} {e : Env} {s : State} {m : MethodId} {below : List Frame} {meth : Method} {c : Code} {D : va_G} {y : Nat → ClassId} {q : Nat → Nat} {b L : Nat} {xs : Nat → Int32} (C : LC p s m meth c D y q b L xs) (hL : L ≤ 3072) {i : Nat} (hiL : i + 6 ≤ L) {σ : xSt} (hi : INV σ) (ih : ∀ σ, INV σ → LEv p l e s m below meth c D y q b 1168 [some (.ref 300), some (.ref 0), some (.ref 115), some (.int (nI i))] [] σ) : LEv p l e s m below meth c D y q b 528 [some (.ref 300), some (.ref 0), some (.ref 115), some (.int (nI i))] [] σ := by
  refine le_aload_n C dL_law_528 rfl ?_
  refine le_aload_n C dL_law_529 rfl ?_
  refine le_iload_n C dL_law_530 rfl ?_
  refine le_iconst C (v := 1) dL_law_531 rfl ?_
  refine le_iadd C dL_law_532 ?_
  refine le_sld C hL (j := i + 1) dL_law_533 (nI_add i 1) (by omega) ?_
  refine le_aload_n C dL_law_534 rfl ?_
  refine le_iload_n C dL_law_535 rfl ?_
  refine le_iconst C (v := 2) dL_law_536 rfl ?_
  refine le_iadd C dL_law_537 ?_
  refine le_sld C hL (j := i + 2) dL_law_538 (nI_add i 2) (by omega) ?_
  refine le_aload_n C dL_law_539 rfl ?_
  refine le_iload_n C dL_law_540 rfl ?_
  refine le_iconst C (v := 3) dL_law_541 rfl ?_
  refine le_iadd C dL_law_542 ?_
  refine le_sld C hL (j := i + 3) dL_law_543 (nI_add i 3) (by omega) ?_
  refine le_callv C (k2 := kX8_hear) (vs := [_, _, _]) dL_law_544 okX8_hear mlL_65 imX8_hear slX8_hear (Or.inl ⟨8, _, _, by decide, rfl, rfl, rfl⟩) rfl rfl (Nat.le_of_ble_eq_true rfl) (Nat.le_of_ble_eq_true rfl) ((st_hear _ _ _ σ hi).imp (fun r τ hr => ?_))
  obtain ⟨x, rfl, hm⟩ := hr
  refine le_aload_n C dL_law_547 rfl ?_
  refine le_aload_n C dL_law_548 rfl ?_
  refine le_iload_n C dL_law_549 rfl ?_
  refine le_iconst C (v := 1) dL_law_550 rfl ?_
  refine le_iadd C dL_law_551 ?_
  refine le_sld C hL (j := i + 1) dL_law_552 (nI_add i 1) (by omega) ?_
  refine le_aload_n C dL_law_553 rfl ?_
  refine le_iload_n C dL_law_554 rfl ?_
  refine le_iconst C (v := 2) dL_law_555 rfl ?_
  refine le_iadd C dL_law_556 ?_
  refine le_sld C hL (j := i + 2) dL_law_557 (nI_add i 2) (by omega) ?_
  refine le_aload_n C dL_law_558 rfl ?_
  refine le_iload_n C dL_law_559 rfl ?_
  refine le_iconst C (v := 3) dL_law_560 rfl ?_
  refine le_iadd C dL_law_561 ?_
  refine le_sld C hL (j := i + 3) dL_law_562 (nI_add i 3) (by omega) ?_
  refine le_callv C (k2 := kX9_hear) (vs := [_, _, _]) dL_law_563 okX9_hear mlL_68 imX9_hear slX9_hear (Or.inl ⟨9, _, _, by decide, rfl, rfl, rfl⟩) rfl rfl (Nat.le_of_ble_eq_true rfl) (Nat.le_of_ble_eq_true rfl) (hm.imp (fun r2 υ hr2 => ?_))
  obtain ⟨rfl, hυ⟩ := hr2
  exact le_icmp_eq (tgt := 1168) C dL_law_566 (by decide) (fun _ => ih υ hυ) (fun z => absurd rfl z)
theorem lc_can {p : Program} {l : Launch} {e : Env} {s : State} {m : MethodId} {below : List Frame} {meth : Method} {c : Code} {D : va_G} {y : Nat → ClassId} {q : Nat → Nat} {b L : Nat} {xs : Nat → Int32} (C : LC p s m meth c D y q b L xs) (hL : L ≤ 3072) {i : Nat} (hiL : i + 6 ≤ L) {σ : xSt} (hi : INV σ) (ih : ∀ σ, INV σ → LEv p l e s m below meth c D y q b 1168 [some (.ref 300), some (.ref 0), some (.ref 115), some (.int (nI i))] [] σ) : LEv p l e s m below meth c D y q b 571 [some (.ref 300), some (.ref 0), some (.ref 115), some (.int (nI i))] [] σ := by
  refine le_aload_n C dL_law_571 rfl ?_
  refine le_aload_n C dL_law_572 rfl ?_
  refine le_iload_n C dL_law_573 rfl ?_
  refine le_iconst C (v := 1) dL_law_574 rfl ?_
  refine le_iadd C dL_law_575 ?_
  refine le_sld C hL (j := i + 1) dL_law_576 (nI_add i 1) (by omega) ?_
  refine le_aload_n C dL_law_577 rfl ?_
  refine le_iload_n C dL_law_578 rfl ?_
  refine le_iconst C (v := 2) dL_law_579 rfl ?_
  refine le_iadd C dL_law_580 ?_
  refine le_sld C hL (j := i + 2) dL_law_581 (nI_add i 2) (by omega) ?_
  refine le_callv C (k2 := kX8_can) (vs := [_, _]) dL_law_582 okX8_can mlL_69 imX8_can slX8_can (Or.inl ⟨8, _, _, by decide, rfl, rfl, rfl⟩) rfl rfl (Nat.le_of_ble_eq_true rfl) (Nat.le_of_ble_eq_true rfl) ((st_can _ _ σ hi).imp (fun r τ hr => ?_))
  obtain ⟨x, rfl, hm⟩ := hr
  refine le_aload_n C dL_law_585 rfl ?_
  refine le_aload_n C dL_law_586 rfl ?_
  refine le_iload_n C dL_law_587 rfl ?_
  refine le_iconst C (v := 1) dL_law_588 rfl ?_
  refine le_iadd C dL_law_589 ?_
  refine le_sld C hL (j := i + 1) dL_law_590 (nI_add i 1) (by omega) ?_
  refine le_aload_n C dL_law_591 rfl ?_
  refine le_iload_n C dL_law_592 rfl ?_
  refine le_iconst C (v := 2) dL_law_593 rfl ?_
  refine le_iadd C dL_law_594 ?_
  refine le_sld C hL (j := i + 2) dL_law_595 (nI_add i 2) (by omega) ?_
  refine le_callv C (k2 := kX9_can) (vs := [_, _]) dL_law_596 okX9_can mlL_72 imX9_can slX9_can (Or.inl ⟨9, _, _, by decide, rfl, rfl, rfl⟩) rfl rfl (Nat.le_of_ble_eq_true rfl) (Nat.le_of_ble_eq_true rfl) (hm.imp (fun r2 υ hr2 => ?_))
  obtain ⟨rfl, hυ⟩ := hr2
  exact le_icmp_eq (tgt := 1168) C dL_law_599 (by decide) (fun _ => ih υ hυ) (fun z => absurd rfl z)
theorem lc_odds {p : Program} {l : Launch} {e : Env} {s : State} {m : MethodId} {below : List Frame} {meth : Method} {c : Code} {D : va_G} {y : Nat → ClassId} {q : Nat → Nat} {b L : Nat} {xs : Nat → Int32} (C : LC p s m meth c D y q b L xs) (hL : L ≤ 3072) {i : Nat} (hiL : i + 6 ≤ L) {σ : xSt} (hi : INV σ) (ih : ∀ σ, INV σ → LEv p l e s m below meth c D y q b 1168 [some (.ref 300), some (.ref 0), some (.ref 115), some (.int (nI i))] [] σ) : LEv p l e s m below meth c D y q b 604 [some (.ref 300), some (.ref 0), some (.ref 115), some (.int (nI i))] [] σ := by
  refine le_aload_n C dL_law_604 rfl ?_
  refine le_aload_n C dL_law_605 rfl ?_
  refine le_iload_n C dL_law_606 rfl ?_
  refine le_iconst C (v := 1) dL_law_607 rfl ?_
  refine le_iadd C dL_law_608 ?_
  refine le_sld C hL (j := i + 1) dL_law_609 (nI_add i 1) (by omega) ?_
  refine le_aload_n C dL_law_610 rfl ?_
  refine le_iload_n C dL_law_611 rfl ?_
  refine le_iconst C (v := 2) dL_law_612 rfl ?_
  refine le_iadd C dL_law_613 ?_
  refine le_sld C hL (j := i + 2) dL_law_614 (nI_add i 2) (by omega) ?_
  refine le_callv C (k2 := kX8_odds) (vs := [_, _]) dL_law_615 okX8_odds mlL_73 imX8_odds slX8_odds (Or.inl ⟨8, _, _, by decide, rfl, rfl, rfl⟩) rfl rfl (Nat.le_of_ble_eq_true rfl) (Nat.le_of_ble_eq_true rfl) ((st_odds _ _ σ hi).imp (fun r τ hr => ?_))
  obtain ⟨x, rfl, hm⟩ := hr
  refine le_aload_n C dL_law_618 rfl ?_
  refine le_aload_n C dL_law_619 rfl ?_
  refine le_iload_n C dL_law_620 rfl ?_
  refine le_iconst C (v := 1) dL_law_621 rfl ?_
  refine le_iadd C dL_law_622 ?_
  refine le_sld C hL (j := i + 1) dL_law_623 (nI_add i 1) (by omega) ?_
  refine le_aload_n C dL_law_624 rfl ?_
  refine le_iload_n C dL_law_625 rfl ?_
  refine le_iconst C (v := 2) dL_law_626 rfl ?_
  refine le_iadd C dL_law_627 ?_
  refine le_sld C hL (j := i + 2) dL_law_628 (nI_add i 2) (by omega) ?_
  refine le_callv C (k2 := kX9_odds) (vs := [_, _]) dL_law_629 okX9_odds mlL_77 imX9_odds slX9_odds (Or.inl ⟨9, _, _, by decide, rfl, rfl, rfl⟩) rfl rfl (Nat.le_of_ble_eq_true rfl) (Nat.le_of_ble_eq_true rfl) (hm.imp (fun r2 υ hr2 => ?_))
  obtain ⟨rfl, hυ⟩ := hr2
  refine le_lcmp C dL_law_632 ?_
  exact le_if_eq (tgt := 1168) C dL_law_633 (by decide) (fun _ => ih υ hυ) (fun z => absurd (lg_eq0.mpr rfl) z)
theorem lc_mean {p : Program} {l : Launch} {e : Env} {s : State} {m : MethodId} {below : List Frame} {meth : Method} {c : Code} {D : va_G} {y : Nat → ClassId} {q : Nat → Nat} {b L : Nat} {xs : Nat → Int32} (C : LC p s m meth c D y q b L xs) (hL : L ≤ 3072) {i : Nat} (hiL : i + 6 ≤ L) {σ : xSt} (hi : INV σ) (ih : ∀ σ, INV σ → LEv p l e s m below meth c D y q b 1168 [some (.ref 300), some (.ref 0), some (.ref 115), some (.int (nI i))] [] σ) : LEv p l e s m below meth c D y q b 638 [some (.ref 300), some (.ref 0), some (.ref 115), some (.int (nI i))] [] σ := by
  refine le_aload_n C dL_law_638 rfl ?_
  refine le_aload_n C dL_law_639 rfl ?_
  refine le_iload_n C dL_law_640 rfl ?_
  refine le_iconst C (v := 1) dL_law_641 rfl ?_
  refine le_iadd C dL_law_642 ?_
  refine le_sld C hL (j := i + 1) dL_law_643 (nI_add i 1) (by omega) ?_
  refine le_aload_n C dL_law_644 rfl ?_
  refine le_iload_n C dL_law_645 rfl ?_
  refine le_iconst C (v := 2) dL_law_646 rfl ?_
  refine le_iadd C dL_law_647 ?_
  refine le_sld C hL (j := i + 2) dL_law_648 (nI_add i 2) (by omega) ?_
  refine le_callv C (k2 := kX8_mean) (vs := [_, _]) dL_law_649 okX8_mean mlL_78 imX8_mean slX8_mean (Or.inl ⟨8, _, _, by decide, rfl, rfl, rfl⟩) rfl rfl (Nat.le_of_ble_eq_true rfl) (Nat.le_of_ble_eq_true rfl) ((st_mean _ _ σ hi).imp (fun r τ hr => ?_))
  obtain ⟨x, rfl, hm⟩ := hr
  refine le_aload_n C dL_law_652 rfl ?_
  refine le_aload_n C dL_law_653 rfl ?_
  refine le_iload_n C dL_law_654 rfl ?_
  refine le_iconst C (v := 1) dL_law_655 rfl ?_
  refine le_iadd C dL_law_656 ?_
  refine le_sld C hL (j := i + 1) dL_law_657 (nI_add i 1) (by omega) ?_
  refine le_aload_n C dL_law_658 rfl ?_
  refine le_iload_n C dL_law_659 rfl ?_
  refine le_iconst C (v := 2) dL_law_660 rfl ?_
  refine le_iadd C dL_law_661 ?_
  refine le_sld C hL (j := i + 2) dL_law_662 (nI_add i 2) (by omega) ?_
  refine le_callv C (k2 := kX9_mean) (vs := [_, _]) dL_law_663 okX9_mean mlL_81 imX9_mean slX9_mean (Or.inl ⟨9, _, _, by decide, rfl, rfl, rfl⟩) rfl rfl (Nat.le_of_ble_eq_true rfl) (Nat.le_of_ble_eq_true rfl) (hm.imp (fun r2 υ hr2 => ?_))
  obtain ⟨rfl, hυ⟩ := hr2
  refine le_lcmp C dL_law_666 ?_
  exact le_if_eq (tgt := 1168) C dL_law_667 (by decide) (fun _ => ih υ hυ) (fun z => absurd (lg_eq0.mpr rfl) z)
theorem lc_plan {p : Program} {l : Launch} {e : Env} {s : State} {m : MethodId} {below : List Frame} {meth : Method} {c : Code} {D : va_G} {y : Nat → ClassId} {q : Nat → Nat} {b L : Nat} {xs : Nat → Int32} (C : LC p s m meth c D y q b L xs) (hL : L ≤ 3072) {i : Nat} (hiL : i + 6 ≤ L) {σ : xSt} (hi : INV σ) (ih : ∀ σ, INV σ → LEv p l e s m below meth c D y q b 1168 [some (.ref 300), some (.ref 0), some (.ref 115), some (.int (nI i))] [] σ) : LEv p l e s m below meth c D y q b 672 [some (.ref 300), some (.ref 0), some (.ref 115), some (.int (nI i))] [] σ := by
  refine le_aload_n C dL_law_672 rfl ?_
  refine le_aload_n C dL_law_673 rfl ?_
  refine le_iload_n C dL_law_674 rfl ?_
  refine le_iconst C (v := 1) dL_law_675 rfl ?_
  refine le_iadd C dL_law_676 ?_
  refine le_sld C hL (j := i + 1) dL_law_677 (nI_add i 1) (by omega) ?_
  refine le_aload_n C dL_law_678 rfl ?_
  refine le_iload_n C dL_law_679 rfl ?_
  refine le_iconst C (v := 2) dL_law_680 rfl ?_
  refine le_iadd C dL_law_681 ?_
  refine le_sld C hL (j := i + 2) dL_law_682 (nI_add i 2) (by omega) ?_
  refine le_callv C (k2 := kX8_plan) (vs := [_, _]) dL_law_683 okX8_plan mlL_82 imX8_plan slX8_plan (Or.inl ⟨8, _, _, by decide, rfl, rfl, rfl⟩) rfl rfl (Nat.le_of_ble_eq_true rfl) (Nat.le_of_ble_eq_true rfl) ((st_plan _ _ σ hi).imp (fun r τ hr => ?_))
  obtain ⟨x, rfl, hm⟩ := hr
  refine le_aload_n C dL_law_686 rfl ?_
  refine le_aload_n C dL_law_687 rfl ?_
  refine le_iload_n C dL_law_688 rfl ?_
  refine le_iconst C (v := 1) dL_law_689 rfl ?_
  refine le_iadd C dL_law_690 ?_
  refine le_sld C hL (j := i + 1) dL_law_691 (nI_add i 1) (by omega) ?_
  refine le_aload_n C dL_law_692 rfl ?_
  refine le_iload_n C dL_law_693 rfl ?_
  refine le_iconst C (v := 2) dL_law_694 rfl ?_
  refine le_iadd C dL_law_695 ?_
  refine le_sld C hL (j := i + 2) dL_law_696 (nI_add i 2) (by omega) ?_
  refine le_callv C (k2 := kX9_plan) (vs := [_, _]) dL_law_697 okX9_plan mlL_85 imX9_plan slX9_plan (Or.inl ⟨9, _, _, by decide, rfl, rfl, rfl⟩) rfl rfl (Nat.le_of_ble_eq_true rfl) (Nat.le_of_ble_eq_true rfl) (hm.imp (fun r2 υ hr2 => ?_))
  obtain ⟨rfl, hυ⟩ := hr2
  exact le_icmp_eq (tgt := 1168) C dL_law_700 (by decide) (fun _ => ih υ hυ) (fun z => absurd rfl z)
theorem lc_ends {p : Program} {l : Launch} {e : Env} {s : State} {m : MethodId} {below : List Frame} {meth : Method} {c : Code} {D : va_G} {y : Nat → ClassId} {q : Nat → Nat} {b L : Nat} {xs : Nat → Int32} (C : LC p s m meth c D y q b L xs) (hL : L ≤ 3072) {i : Nat} (hiL : i + 6 ≤ L) {σ : xSt} (hi : INV σ) (ih : ∀ σ, INV σ → LEv p l e s m below meth c D y q b 1168 [some (.ref 300), some (.ref 0), some (.ref 115), some (.int (nI i))] [] σ) : LEv p l e s m below meth c D y q b 705 [some (.ref 300), some (.ref 0), some (.ref 115), some (.int (nI i))] [] σ := by
  refine le_aload_n C dL_law_705 rfl ?_
  refine le_aload_n C dL_law_706 rfl ?_
  refine le_iload_n C dL_law_707 rfl ?_
  refine le_iconst C (v := 1) dL_law_708 rfl ?_
  refine le_iadd C dL_law_709 ?_
  refine le_sld C hL (j := i + 1) dL_law_710 (nI_add i 1) (by omega) ?_
  refine le_callv C (k2 := kX8_ends) (vs := [_]) dL_law_711 okX8_ends mlL_86 imX8_ends slX8_ends (Or.inl ⟨8, _, _, by decide, rfl, rfl, rfl⟩) rfl rfl (Nat.le_of_ble_eq_true rfl) (Nat.le_of_ble_eq_true rfl) ((st_ends _ σ hi).imp (fun r τ hr => ?_))
  obtain ⟨x, rfl, hm⟩ := hr
  refine le_aload_n C dL_law_714 rfl ?_
  refine le_aload_n C dL_law_715 rfl ?_
  refine le_iload_n C dL_law_716 rfl ?_
  refine le_iconst C (v := 1) dL_law_717 rfl ?_
  refine le_iadd C dL_law_718 ?_
  refine le_sld C hL (j := i + 1) dL_law_719 (nI_add i 1) (by omega) ?_
  refine le_callv C (k2 := kX9_ends) (vs := [_]) dL_law_720 okX9_ends mlL_89 imX9_ends slX9_ends (Or.inl ⟨9, _, _, by decide, rfl, rfl, rfl⟩) rfl rfl (Nat.le_of_ble_eq_true rfl) (Nat.le_of_ble_eq_true rfl) (hm.imp (fun r2 υ hr2 => ?_))
  obtain ⟨rfl, hυ⟩ := hr2
  exact le_icmp_eq (tgt := 1168) C dL_law_723 (by decide) (fun _ => ih υ hυ) (fun z => absurd rfl z)
theorem lc_book {p : Program} {l : Launch} {e : Env} {s : State} {m : MethodId} {below : List Frame} {meth : Method} {c : Code} {D : va_G} {y : Nat → ClassId} {q : Nat → Nat} {b L : Nat} {xs : Nat → Int32} (C : LC p s m meth c D y q b L xs) (hL : L ≤ 3072) {i : Nat} (hiL : i + 6 ≤ L) {σ : xSt} (hi : INV σ) (ih : ∀ σ, INV σ → LEv p l e s m below meth c D y q b 1168 [some (.ref 300), some (.ref 0), some (.ref 115), some (.int (nI i))] [] σ) : LEv p l e s m below meth c D y q b 728 [some (.ref 300), some (.ref 0), some (.ref 115), some (.int (nI i))] [] σ := by
  refine le_aload_n C dL_law_728 rfl ?_
  refine le_aload_n C dL_law_729 rfl ?_
  refine le_iload_n C dL_law_730 rfl ?_
  refine le_iconst C (v := 1) dL_law_731 rfl ?_
  refine le_iadd C dL_law_732 ?_
  refine le_sld C hL (j := i + 1) dL_law_733 (nI_add i 1) (by omega) ?_
  refine le_aload_n C dL_law_734 rfl ?_
  refine le_iload_n C dL_law_735 rfl ?_
  refine le_iconst C (v := 2) dL_law_736 rfl ?_
  refine le_iadd C dL_law_737 ?_
  refine le_sld C hL (j := i + 2) dL_law_738 (nI_add i 2) (by omega) ?_
  refine le_callv C (k2 := kX8_book) (vs := [_, _]) dL_law_739 okX8_book mlL_90 imX8_book slX8_book (Or.inl ⟨8, _, _, by decide, rfl, rfl, rfl⟩) rfl rfl (Nat.le_of_ble_eq_true rfl) (Nat.le_of_ble_eq_true rfl) ((st_book _ _ σ hi).imp (fun r τ hr => ?_))
  obtain ⟨x, rfl, hm⟩ := hr
  refine le_aload_n C dL_law_742 rfl ?_
  refine le_aload_n C dL_law_743 rfl ?_
  refine le_iload_n C dL_law_744 rfl ?_
  refine le_iconst C (v := 1) dL_law_745 rfl ?_
  refine le_iadd C dL_law_746 ?_
  refine le_sld C hL (j := i + 1) dL_law_747 (nI_add i 1) (by omega) ?_
  refine le_aload_n C dL_law_748 rfl ?_
  refine le_iload_n C dL_law_749 rfl ?_
  refine le_iconst C (v := 2) dL_law_750 rfl ?_
  refine le_iadd C dL_law_751 ?_
  refine le_sld C hL (j := i + 2) dL_law_752 (nI_add i 2) (by omega) ?_
  refine le_callv C (k2 := kX9_book) (vs := [_, _]) dL_law_753 okX9_book mlL_93 imX9_book slX9_book (Or.inl ⟨9, _, _, by decide, rfl, rfl, rfl⟩) rfl rfl (Nat.le_of_ble_eq_true rfl) (Nat.le_of_ble_eq_true rfl) (hm.imp (fun r2 υ hr2 => ?_))
  obtain ⟨rfl, hυ⟩ := hr2
  exact le_icmp_eq (tgt := 1168) C dL_law_756 (by decide) (fun _ => ih υ hυ) (fun z => absurd rfl z)
theorem lc_looked {p : Program} {l : Launch} {e : Env} {s : State} {m : MethodId} {below : List Frame} {meth : Method} {c : Code} {D : va_G} {y : Nat → ClassId} {q : Nat → Nat} {b L : Nat} {xs : Nat → Int32} (C : LC p s m meth c D y q b L xs) (hL : L ≤ 3072) {i : Nat} (hiL : i + 6 ≤ L) {σ : xSt} (hi : INV σ) (ih : ∀ σ, INV σ → LEv p l e s m below meth c D y q b 1168 [some (.ref 300), some (.ref 0), some (.ref 115), some (.int (nI i))] [] σ) : LEv p l e s m below meth c D y q b 761 [some (.ref 300), some (.ref 0), some (.ref 115), some (.int (nI i))] [] σ := by
  refine le_aload_n C dL_law_761 rfl ?_
  refine le_callv C (k2 := kX8_looked) (vs := []) dL_law_762 okX8_looked mlL_94 imX8_looked slX8_looked (Or.inl ⟨8, _, _, by decide, rfl, rfl, rfl⟩) rfl rfl (Nat.le_of_ble_eq_true rfl) (Nat.le_of_ble_eq_true rfl) ((st_looked σ hi).imp (fun r τ hr => ?_))
  obtain ⟨x, rfl, hm⟩ := hr
  refine le_aload_n C dL_law_765 rfl ?_
  refine le_callv C (k2 := kX9_looked) (vs := []) dL_law_766 okX9_looked mlL_97 imX9_looked slX9_looked (Or.inl ⟨9, _, _, by decide, rfl, rfl, rfl⟩) rfl rfl (Nat.le_of_ble_eq_true rfl) (Nat.le_of_ble_eq_true rfl) (hm.imp (fun r2 υ hr2 => ?_))
  obtain ⟨rfl, hυ⟩ := hr2
  exact le_icmp_eq (tgt := 1168) C dL_law_769 (by decide) (fun _ => ih υ hυ) (fun z => absurd rfl z)
theorem lc_judge {p : Program} {l : Launch} {e : Env} {s : State} {m : MethodId} {below : List Frame} {meth : Method} {c : Code} {D : va_G} {y : Nat → ClassId} {q : Nat → Nat} {b L : Nat} {xs : Nat → Int32} (C : LC p s m meth c D y q b L xs) (hL : L ≤ 3072) {i : Nat} (hiL : i + 6 ≤ L) {σ : xSt} (hi : INV σ) (ih : ∀ σ, INV σ → LEv p l e s m below meth c D y q b 1168 [some (.ref 300), some (.ref 0), some (.ref 115), some (.int (nI i))] [] σ) : LEv p l e s m below meth c D y q b 774 [some (.ref 300), some (.ref 0), some (.ref 115), some (.int (nI i))] [] σ := by
  refine le_aload_n C dL_law_774 rfl ?_
  refine le_aload_n C dL_law_775 rfl ?_
  refine le_iload_n C dL_law_776 rfl ?_
  refine le_iconst C (v := 1) dL_law_777 rfl ?_
  refine le_iadd C dL_law_778 ?_
  refine le_sld C hL (j := i + 1) dL_law_779 (nI_add i 1) (by omega) ?_
  refine le_aload_n C dL_law_780 rfl ?_
  refine le_iload_n C dL_law_781 rfl ?_
  refine le_iconst C (v := 2) dL_law_782 rfl ?_
  refine le_iadd C dL_law_783 ?_
  refine le_sld C hL (j := i + 2) dL_law_784 (nI_add i 2) (by omega) ?_
  refine le_callv C (k2 := kX8_judge) (vs := [_, _]) dL_law_785 okX8_judge mlL_98 imX8_judge slX8_judge (Or.inl ⟨8, _, _, by decide, rfl, rfl, rfl⟩) rfl rfl (Nat.le_of_ble_eq_true rfl) (Nat.le_of_ble_eq_true rfl) ((st_judge _ _ σ hi).imp (fun r τ hr => ?_))
  obtain ⟨x, rfl, hm⟩ := hr
  refine le_aload_n C dL_law_788 rfl ?_
  refine le_aload_n C dL_law_789 rfl ?_
  refine le_iload_n C dL_law_790 rfl ?_
  refine le_iconst C (v := 1) dL_law_791 rfl ?_
  refine le_iadd C dL_law_792 ?_
  refine le_sld C hL (j := i + 1) dL_law_793 (nI_add i 1) (by omega) ?_
  refine le_aload_n C dL_law_794 rfl ?_
  refine le_iload_n C dL_law_795 rfl ?_
  refine le_iconst C (v := 2) dL_law_796 rfl ?_
  refine le_iadd C dL_law_797 ?_
  refine le_sld C hL (j := i + 2) dL_law_798 (nI_add i 2) (by omega) ?_
  refine le_callv C (k2 := kX9_judge) (vs := [_, _]) dL_law_799 okX9_judge mlL_101 imX9_judge slX9_judge (Or.inl ⟨9, _, _, by decide, rfl, rfl, rfl⟩) rfl rfl (Nat.le_of_ble_eq_true rfl) (Nat.le_of_ble_eq_true rfl) (hm.imp (fun r2 υ hr2 => ?_))
  obtain ⟨rfl, hυ⟩ := hr2
  exact le_icmp_eq (tgt := 1168) C dL_law_802 (by decide) (fun _ => ih υ hυ) (fun z => absurd rfl z)
theorem lc_image {p : Program} {l : Launch} {e : Env} {s : State} {m : MethodId} {below : List Frame} {meth : Method} {c : Code} {D : va_G} {y : Nat → ClassId} {q : Nat → Nat} {b L : Nat} {xs : Nat → Int32} (C : LC p s m meth c D y q b L xs) (hL : L ≤ 3072) {i : Nat} (hiL : i + 6 ≤ L) {σ : xSt} (hi : INV σ) (ih : ∀ σ, INV σ → LEv p l e s m below meth c D y q b 1168 [some (.ref 300), some (.ref 0), some (.ref 115), some (.int (nI i))] [] σ) : LEv p l e s m below meth c D y q b 807 [some (.ref 300), some (.ref 0), some (.ref 115), some (.int (nI i))] [] σ := by
  refine le_aload_n C dL_law_807 rfl ?_
  refine le_callv C (k2 := kX8_image) (vs := []) dL_law_808 okX8_image mlL_102 imX8_image slX8_image (Or.inl ⟨8, _, _, by decide, rfl, rfl, rfl⟩) rfl rfl (Nat.le_of_ble_eq_true rfl) (Nat.le_of_ble_eq_true rfl) ((st_image σ hi).imp (fun r τ hr => ?_))
  obtain ⟨x, rfl, hm⟩ := hr
  refine le_aload_n C dL_law_811 rfl ?_
  refine le_callv C (k2 := kX9_image) (vs := []) dL_law_812 okX9_image mlL_105 imX9_image slX9_image (Or.inl ⟨9, _, _, by decide, rfl, rfl, rfl⟩) rfl rfl (Nat.le_of_ble_eq_true rfl) (Nat.le_of_ble_eq_true rfl) (hm.imp (fun r2 υ hr2 => ?_))
  obtain ⟨rfl, hυ⟩ := hr2
  exact le_icmp_eq (tgt := 1168) C dL_law_815 (by decide) (fun _ => ih υ hυ) (fun z => absurd rfl z)
theorem lc_undo {p : Program} {l : Launch} {e : Env} {s : State} {m : MethodId} {below : List Frame} {meth : Method} {c : Code} {D : va_G} {y : Nat → ClassId} {q : Nat → Nat} {b L : Nat} {xs : Nat → Int32} (C : LC p s m meth c D y q b L xs) (hL : L ≤ 3072) {i : Nat} (hiL : i + 6 ≤ L) {σ : xSt} (hi : INV σ) (ih : ∀ σ, INV σ → LEv p l e s m below meth c D y q b 1168 [some (.ref 300), some (.ref 0), some (.ref 115), some (.int (nI i))] [] σ) : LEv p l e s m below meth c D y q b 820 [some (.ref 300), some (.ref 0), some (.ref 115), some (.int (nI i))] [] σ := by
  refine le_aload_n C dL_law_820 rfl ?_
  refine le_callv C (k2 := kX8_undo) (vs := []) dL_law_821 okX8_undo mlL_106 imX8_undo slX8_undo (Or.inl ⟨8, _, _, by decide, rfl, rfl, rfl⟩) rfl rfl (Nat.le_of_ble_eq_true rfl) (Nat.le_of_ble_eq_true rfl) ((st_undo σ hi).imp (fun r τ hr => ?_))
  obtain ⟨x, rfl, hm⟩ := hr
  refine le_aload_n C dL_law_824 rfl ?_
  refine le_callv C (k2 := kX9_undo) (vs := []) dL_law_825 okX9_undo mlL_109 imX9_undo slX9_undo (Or.inl ⟨9, _, _, by decide, rfl, rfl, rfl⟩) rfl rfl (Nat.le_of_ble_eq_true rfl) (Nat.le_of_ble_eq_true rfl) (hm.imp (fun r2 υ hr2 => ?_))
  obtain ⟨rfl, hυ⟩ := hr2
  exact le_icmp_eq (tgt := 1168) C dL_law_828 (by decide) (fun _ => ih υ hυ) (fun z => absurd rfl z)
theorem lc_act {p : Program} {l : Launch} {e : Env} {s : State} {m : MethodId} {below : List Frame} {meth : Method} {c : Code} {D : va_G} {y : Nat → ClassId} {q : Nat → Nat} {b L : Nat} {xs : Nat → Int32} (C : LC p s m meth c D y q b L xs) (hL : L ≤ 3072) {i : Nat} (hiL : i + 6 ≤ L) {σ : xSt} (hi : INV σ) (ih : ∀ σ, INV σ → LEv p l e s m below meth c D y q b 1168 [some (.ref 300), some (.ref 0), some (.ref 115), some (.int (nI i))] [] σ) : LEv p l e s m below meth c D y q b 833 [some (.ref 300), some (.ref 0), some (.ref 115), some (.int (nI i))] [] σ := by
  refine le_aload_n C dL_law_833 rfl ?_
  refine le_aload_n C dL_law_834 rfl ?_
  refine le_iload_n C dL_law_835 rfl ?_
  refine le_iconst C (v := 1) dL_law_836 rfl ?_
  refine le_iadd C dL_law_837 ?_
  refine le_sld C hL (j := i + 1) dL_law_838 (nI_add i 1) (by omega) ?_
  refine le_aload_n C dL_law_839 rfl ?_
  refine le_iload_n C dL_law_840 rfl ?_
  refine le_iconst C (v := 2) dL_law_841 rfl ?_
  refine le_iadd C dL_law_842 ?_
  refine le_sld C hL (j := i + 2) dL_law_843 (nI_add i 2) (by omega) ?_
  refine le_aload_n C dL_law_844 rfl ?_
  refine le_iload_n C dL_law_845 rfl ?_
  refine le_iconst C (v := 3) dL_law_846 rfl ?_
  refine le_iadd C dL_law_847 ?_
  refine le_sld C hL (j := i + 3) dL_law_848 (nI_add i 3) (by omega) ?_
  refine le_callv C (k2 := kX8_act) (vs := [_, _, _]) dL_law_849 okX8_act mlL_110 imX8_act slX8_act (Or.inl ⟨8, _, _, by decide, rfl, rfl, rfl⟩) rfl rfl (Nat.le_of_ble_eq_true rfl) (Nat.le_of_ble_eq_true rfl) ((st_act _ _ _ σ hi).imp (fun r τ hr => ?_))
  obtain ⟨x, rfl, hm⟩ := hr
  refine le_aload_n C dL_law_852 rfl ?_
  refine le_aload_n C dL_law_853 rfl ?_
  refine le_iload_n C dL_law_854 rfl ?_
  refine le_iconst C (v := 1) dL_law_855 rfl ?_
  refine le_iadd C dL_law_856 ?_
  refine le_sld C hL (j := i + 1) dL_law_857 (nI_add i 1) (by omega) ?_
  refine le_aload_n C dL_law_858 rfl ?_
  refine le_iload_n C dL_law_859 rfl ?_
  refine le_iconst C (v := 2) dL_law_860 rfl ?_
  refine le_iadd C dL_law_861 ?_
  refine le_sld C hL (j := i + 2) dL_law_862 (nI_add i 2) (by omega) ?_
  refine le_aload_n C dL_law_863 rfl ?_
  refine le_iload_n C dL_law_864 rfl ?_
  refine le_iconst C (v := 3) dL_law_865 rfl ?_
  refine le_iadd C dL_law_866 ?_
  refine le_sld C hL (j := i + 3) dL_law_867 (nI_add i 3) (by omega) ?_
  refine le_callv C (k2 := kX9_act) (vs := [_, _, _]) dL_law_868 okX9_act mlL_113 imX9_act slX9_act (Or.inl ⟨9, _, _, by decide, rfl, rfl, rfl⟩) rfl rfl (Nat.le_of_ble_eq_true rfl) (Nat.le_of_ble_eq_true rfl) (hm.imp (fun r2 υ hr2 => ?_))
  obtain ⟨rfl, hυ⟩ := hr2
  exact le_icmp_eq (tgt := 1168) C dL_law_871 (by decide) (fun _ => ih υ hυ) (fun z => absurd rfl z)
theorem lc_trace {p : Program} {l : Launch} {e : Env} {s : State} {m : MethodId} {below : List Frame} {meth : Method} {c : Code} {D : va_G} {y : Nat → ClassId} {q : Nat → Nat} {b L : Nat} {xs : Nat → Int32} (C : LC p s m meth c D y q b L xs) (hL : L ≤ 3072) {i : Nat} (hiL : i + 6 ≤ L) {σ : xSt} (hi : INV σ) (ih : ∀ σ, INV σ → LEv p l e s m below meth c D y q b 1168 [some (.ref 300), some (.ref 0), some (.ref 115), some (.int (nI i))] [] σ) : LEv p l e s m below meth c D y q b 876 [some (.ref 300), some (.ref 0), some (.ref 115), some (.int (nI i))] [] σ := by
  refine le_aload_n C dL_law_876 rfl ?_
  refine le_aload_n C dL_law_877 rfl ?_
  refine le_iload_n C dL_law_878 rfl ?_
  refine le_iconst C (v := 1) dL_law_879 rfl ?_
  refine le_iadd C dL_law_880 ?_
  refine le_sld C hL (j := i + 1) dL_law_881 (nI_add i 1) (by omega) ?_
  refine le_callv C (k2 := kX8_trace) (vs := [_]) dL_law_882 okX8_trace mlL_114 imX8_trace slX8_trace (Or.inl ⟨8, _, _, by decide, rfl, rfl, rfl⟩) rfl rfl (Nat.le_of_ble_eq_true rfl) (Nat.le_of_ble_eq_true rfl) ((st_trace _ σ hi).imp (fun r τ hr => ?_))
  obtain ⟨x, rfl, hm⟩ := hr
  refine le_aload_n C dL_law_885 rfl ?_
  refine le_aload_n C dL_law_886 rfl ?_
  refine le_iload_n C dL_law_887 rfl ?_
  refine le_iconst C (v := 1) dL_law_888 rfl ?_
  refine le_iadd C dL_law_889 ?_
  refine le_sld C hL (j := i + 1) dL_law_890 (nI_add i 1) (by omega) ?_
  refine le_callv C (k2 := kX9_trace) (vs := [_]) dL_law_891 okX9_trace mlL_117 imX9_trace slX9_trace (Or.inl ⟨9, _, _, by decide, rfl, rfl, rfl⟩) rfl rfl (Nat.le_of_ble_eq_true rfl) (Nat.le_of_ble_eq_true rfl) (hm.imp (fun r2 υ hr2 => ?_))
  obtain ⟨rfl, hυ⟩ := hr2
  exact le_icmp_eq (tgt := 1168) C dL_law_894 (by decide) (fun _ => ih υ hυ) (fun z => absurd rfl z)
theorem lc_taken {p : Program} {l : Launch} {e : Env} {s : State} {m : MethodId} {below : List Frame} {meth : Method} {c : Code} {D : va_G} {y : Nat → ClassId} {q : Nat → Nat} {b L : Nat} {xs : Nat → Int32} (C : LC p s m meth c D y q b L xs) (hL : L ≤ 3072) {i : Nat} (hiL : i + 6 ≤ L) {σ : xSt} (hi : INV σ) (ih : ∀ σ, INV σ → LEv p l e s m below meth c D y q b 1168 [some (.ref 300), some (.ref 0), some (.ref 115), some (.int (nI i))] [] σ) : LEv p l e s m below meth c D y q b 899 [some (.ref 300), some (.ref 0), some (.ref 115), some (.int (nI i))] [] σ := by
  refine le_aload_n C dL_law_899 rfl ?_
  refine le_aload_n C dL_law_900 rfl ?_
  refine le_iload_n C dL_law_901 rfl ?_
  refine le_iconst C (v := 1) dL_law_902 rfl ?_
  refine le_iadd C dL_law_903 ?_
  refine le_sld C hL (j := i + 1) dL_law_904 (nI_add i 1) (by omega) ?_
  refine le_aload_n C dL_law_905 rfl ?_
  refine le_iload_n C dL_law_906 rfl ?_
  refine le_iconst C (v := 2) dL_law_907 rfl ?_
  refine le_iadd C dL_law_908 ?_
  refine le_sld C hL (j := i + 2) dL_law_909 (nI_add i 2) (by omega) ?_
  refine le_callv C (k2 := kX8_taken) (vs := [_, _]) dL_law_910 okX8_taken mlL_118 imX8_taken slX8_taken (Or.inl ⟨8, _, _, by decide, rfl, rfl, rfl⟩) rfl rfl (Nat.le_of_ble_eq_true rfl) (Nat.le_of_ble_eq_true rfl) ((st_taken _ _ σ hi).imp (fun r τ hr => ?_))
  obtain ⟨x, rfl, hm⟩ := hr
  refine le_aload_n C dL_law_913 rfl ?_
  refine le_aload_n C dL_law_914 rfl ?_
  refine le_iload_n C dL_law_915 rfl ?_
  refine le_iconst C (v := 1) dL_law_916 rfl ?_
  refine le_iadd C dL_law_917 ?_
  refine le_sld C hL (j := i + 1) dL_law_918 (nI_add i 1) (by omega) ?_
  refine le_aload_n C dL_law_919 rfl ?_
  refine le_iload_n C dL_law_920 rfl ?_
  refine le_iconst C (v := 2) dL_law_921 rfl ?_
  refine le_iadd C dL_law_922 ?_
  refine le_sld C hL (j := i + 2) dL_law_923 (nI_add i 2) (by omega) ?_
  refine le_callv C (k2 := kX9_taken) (vs := [_, _]) dL_law_924 okX9_taken mlL_121 imX9_taken slX9_taken (Or.inl ⟨9, _, _, by decide, rfl, rfl, rfl⟩) rfl rfl (Nat.le_of_ble_eq_true rfl) (Nat.le_of_ble_eq_true rfl) (hm.imp (fun r2 υ hr2 => ?_))
  obtain ⟨rfl, hυ⟩ := hr2
  exact le_icmp_eq (tgt := 1168) C dL_law_927 (by decide) (fun _ => ih υ hυ) (fun z => absurd rfl z)
theorem lc_count {p : Program} {l : Launch} {e : Env} {s : State} {m : MethodId} {below : List Frame} {meth : Method} {c : Code} {D : va_G} {y : Nat → ClassId} {q : Nat → Nat} {b L : Nat} {xs : Nat → Int32} (C : LC p s m meth c D y q b L xs) (hL : L ≤ 3072) {i : Nat} (hiL : i + 6 ≤ L) {σ : xSt} (hi : INV σ) (ih : ∀ σ, INV σ → LEv p l e s m below meth c D y q b 1168 [some (.ref 300), some (.ref 0), some (.ref 115), some (.int (nI i))] [] σ) : LEv p l e s m below meth c D y q b 932 [some (.ref 300), some (.ref 0), some (.ref 115), some (.int (nI i))] [] σ := by
  refine le_aload_n C dL_law_932 rfl ?_
  refine le_aload_n C dL_law_933 rfl ?_
  refine le_iload_n C dL_law_934 rfl ?_
  refine le_iconst C (v := 1) dL_law_935 rfl ?_
  refine le_iadd C dL_law_936 ?_
  refine le_sld C hL (j := i + 1) dL_law_937 (nI_add i 1) (by omega) ?_
  refine le_callv C (k2 := kX8_count) (vs := [_]) dL_law_938 okX8_count mlL_122 imX8_count slX8_count (Or.inl ⟨8, _, _, by decide, rfl, rfl, rfl⟩) rfl rfl (Nat.le_of_ble_eq_true rfl) (Nat.le_of_ble_eq_true rfl) ((st_count _ σ hi).imp (fun r τ hr => ?_))
  obtain ⟨x, rfl, hm⟩ := hr
  refine le_aload_n C dL_law_941 rfl ?_
  refine le_aload_n C dL_law_942 rfl ?_
  refine le_iload_n C dL_law_943 rfl ?_
  refine le_iconst C (v := 1) dL_law_944 rfl ?_
  refine le_iadd C dL_law_945 ?_
  refine le_sld C hL (j := i + 1) dL_law_946 (nI_add i 1) (by omega) ?_
  refine le_callv C (k2 := kX9_count) (vs := [_]) dL_law_947 okX9_count mlL_125 imX9_count slX9_count (Or.inl ⟨9, _, _, by decide, rfl, rfl, rfl⟩) rfl rfl (Nat.le_of_ble_eq_true rfl) (Nat.le_of_ble_eq_true rfl) (hm.imp (fun r2 υ hr2 => ?_))
  obtain ⟨rfl, hυ⟩ := hr2
  exact le_icmp_eq (tgt := 1168) C dL_law_950 (by decide) (fun _ => ih υ hυ) (fun z => absurd rfl z)
theorem lc_tape {p : Program} {l : Launch} {e : Env} {s : State} {m : MethodId} {below : List Frame} {meth : Method} {c : Code} {D : va_G} {y : Nat → ClassId} {q : Nat → Nat} {b L : Nat} {xs : Nat → Int32} (C : LC p s m meth c D y q b L xs) (hL : L ≤ 3072) {i : Nat} (hiL : i + 6 ≤ L) {σ : xSt} (hi : INV σ) (ih : ∀ σ, INV σ → LEv p l e s m below meth c D y q b 1168 [some (.ref 300), some (.ref 0), some (.ref 115), some (.int (nI i))] [] σ) : LEv p l e s m below meth c D y q b 955 [some (.ref 300), some (.ref 0), some (.ref 115), some (.int (nI i))] [] σ := by
  refine le_aload_n C dL_law_955 rfl ?_
  refine le_aload_n C dL_law_956 rfl ?_
  refine le_iload_n C dL_law_957 rfl ?_
  refine le_iconst C (v := 1) dL_law_958 rfl ?_
  refine le_iadd C dL_law_959 ?_
  refine le_sld C hL (j := i + 1) dL_law_960 (nI_add i 1) (by omega) ?_
  refine le_aload_n C dL_law_961 rfl ?_
  refine le_iload_n C dL_law_962 rfl ?_
  refine le_iconst C (v := 2) dL_law_963 rfl ?_
  refine le_iadd C dL_law_964 ?_
  refine le_sld C hL (j := i + 2) dL_law_965 (nI_add i 2) (by omega) ?_
  refine le_aload_n C dL_law_966 rfl ?_
  refine le_iload_n C dL_law_967 rfl ?_
  refine le_iconst C (v := 3) dL_law_968 rfl ?_
  refine le_iadd C dL_law_969 ?_
  refine le_sld C hL (j := i + 3) dL_law_970 (nI_add i 3) (by omega) ?_
  refine le_callv C (k2 := kX8_tape) (vs := [_, _, _]) dL_law_971 okX8_tape mlL_126 imX8_tape slX8_tape (Or.inl ⟨8, _, _, by decide, rfl, rfl, rfl⟩) rfl rfl (Nat.le_of_ble_eq_true rfl) (Nat.le_of_ble_eq_true rfl) ((st_tape _ _ _ σ hi).imp (fun r τ hr => ?_))
  obtain ⟨x, rfl, hm⟩ := hr
  refine le_aload_n C dL_law_974 rfl ?_
  refine le_aload_n C dL_law_975 rfl ?_
  refine le_iload_n C dL_law_976 rfl ?_
  refine le_iconst C (v := 1) dL_law_977 rfl ?_
  refine le_iadd C dL_law_978 ?_
  refine le_sld C hL (j := i + 1) dL_law_979 (nI_add i 1) (by omega) ?_
  refine le_aload_n C dL_law_980 rfl ?_
  refine le_iload_n C dL_law_981 rfl ?_
  refine le_iconst C (v := 2) dL_law_982 rfl ?_
  refine le_iadd C dL_law_983 ?_
  refine le_sld C hL (j := i + 2) dL_law_984 (nI_add i 2) (by omega) ?_
  refine le_aload_n C dL_law_985 rfl ?_
  refine le_iload_n C dL_law_986 rfl ?_
  refine le_iconst C (v := 3) dL_law_987 rfl ?_
  refine le_iadd C dL_law_988 ?_
  refine le_sld C hL (j := i + 3) dL_law_989 (nI_add i 3) (by omega) ?_
  refine le_callv C (k2 := kX9_tape) (vs := [_, _, _]) dL_law_990 okX9_tape mlL_129 imX9_tape slX9_tape (Or.inl ⟨9, _, _, by decide, rfl, rfl, rfl⟩) rfl rfl (Nat.le_of_ble_eq_true rfl) (Nat.le_of_ble_eq_true rfl) (hm.imp (fun r2 υ hr2 => ?_))
  obtain ⟨rfl, hυ⟩ := hr2
  exact le_icmp_eq (tgt := 1168) C dL_law_993 (by decide) (fun _ => ih υ hυ) (fun z => absurd rfl z)
theorem lc_item {p : Program} {l : Launch} {e : Env} {s : State} {m : MethodId} {below : List Frame} {meth : Method} {c : Code} {D : va_G} {y : Nat → ClassId} {q : Nat → Nat} {b L : Nat} {xs : Nat → Int32} (C : LC p s m meth c D y q b L xs) (hL : L ≤ 3072) {i : Nat} (hiL : i + 6 ≤ L) {σ : xSt} (hi : INV σ) (ih : ∀ σ, INV σ → LEv p l e s m below meth c D y q b 1168 [some (.ref 300), some (.ref 0), some (.ref 115), some (.int (nI i))] [] σ) : LEv p l e s m below meth c D y q b 998 [some (.ref 300), some (.ref 0), some (.ref 115), some (.int (nI i))] [] σ := by
  refine le_aload_n C dL_law_998 rfl ?_
  refine le_aload_n C dL_law_999 rfl ?_
  refine le_iload_n C dL_law_1000 rfl ?_
  refine le_iconst C (v := 1) dL_law_1001 rfl ?_
  refine le_iadd C dL_law_1002 ?_
  refine le_sld C hL (j := i + 1) dL_law_1003 (nI_add i 1) (by omega) ?_
  refine le_aload_n C dL_law_1004 rfl ?_
  refine le_iload_n C dL_law_1005 rfl ?_
  refine le_iconst C (v := 2) dL_law_1006 rfl ?_
  refine le_iadd C dL_law_1007 ?_
  refine le_sld C hL (j := i + 2) dL_law_1008 (nI_add i 2) (by omega) ?_
  refine le_aload_n C dL_law_1009 rfl ?_
  refine le_iload_n C dL_law_1010 rfl ?_
  refine le_iconst C (v := 3) dL_law_1011 rfl ?_
  refine le_iadd C dL_law_1012 ?_
  refine le_sld C hL (j := i + 3) dL_law_1013 (nI_add i 3) (by omega) ?_
  refine le_i2l C dL_law_1014 ?_
  refine le_bipush C (v := 32) dL_law_1015 rfl ?_
  refine le_lshl C dL_law_1017 ?_
  refine le_aload_n C dL_law_1018 rfl ?_
  refine le_iload_n C dL_law_1019 rfl ?_
  refine le_iconst C (v := 4) dL_law_1020 rfl ?_
  refine le_iadd C dL_law_1021 ?_
  refine le_sld C hL (j := i + 4) dL_law_1022 (nI_add i 4) (by omega) ?_
  refine le_i2l C dL_law_1023 ?_
  refine le_ldc2 C dL_law_1024 cnL_130 ?_
  refine le_land C dL_law_1027 ?_
  refine le_lor C dL_law_1028 ?_
  refine le_callv C (k2 := kX8_item) (vs := [_, _, _]) dL_law_1029 okX8_item mlL_132 imX8_item slX8_item (Or.inl ⟨8, _, _, by decide, rfl, rfl, rfl⟩) rfl rfl (Nat.le_of_ble_eq_true rfl) (Nat.le_of_ble_eq_true rfl) ((st_item _ _ _ σ hi).imp (fun r τ hr => ?_))
  obtain ⟨x, rfl, hm⟩ := hr
  refine le_aload_n C dL_law_1032 rfl ?_
  refine le_aload_n C dL_law_1033 rfl ?_
  refine le_iload_n C dL_law_1034 rfl ?_
  refine le_iconst C (v := 1) dL_law_1035 rfl ?_
  refine le_iadd C dL_law_1036 ?_
  refine le_sld C hL (j := i + 1) dL_law_1037 (nI_add i 1) (by omega) ?_
  refine le_aload_n C dL_law_1038 rfl ?_
  refine le_iload_n C dL_law_1039 rfl ?_
  refine le_iconst C (v := 2) dL_law_1040 rfl ?_
  refine le_iadd C dL_law_1041 ?_
  refine le_sld C hL (j := i + 2) dL_law_1042 (nI_add i 2) (by omega) ?_
  refine le_aload_n C dL_law_1043 rfl ?_
  refine le_iload_n C dL_law_1044 rfl ?_
  refine le_iconst C (v := 3) dL_law_1045 rfl ?_
  refine le_iadd C dL_law_1046 ?_
  refine le_sld C hL (j := i + 3) dL_law_1047 (nI_add i 3) (by omega) ?_
  refine le_i2l C dL_law_1048 ?_
  refine le_bipush C (v := 32) dL_law_1049 rfl ?_
  refine le_lshl C dL_law_1051 ?_
  refine le_aload_n C dL_law_1052 rfl ?_
  refine le_iload_n C dL_law_1053 rfl ?_
  refine le_iconst C (v := 4) dL_law_1054 rfl ?_
  refine le_iadd C dL_law_1055 ?_
  refine le_sld C hL (j := i + 4) dL_law_1056 (nI_add i 4) (by omega) ?_
  refine le_i2l C dL_law_1057 ?_
  refine le_ldc2 C dL_law_1058 cnL_130 ?_
  refine le_land C dL_law_1061 ?_
  refine le_lor C dL_law_1062 ?_
  refine le_callv C (k2 := kX9_item) (vs := [_, _, _]) dL_law_1063 okX9_item mlL_136 imX9_item slX9_item (Or.inl ⟨9, _, _, by decide, rfl, rfl, rfl⟩) rfl rfl (Nat.le_of_ble_eq_true rfl) (Nat.le_of_ble_eq_true rfl) (hm.imp (fun r2 υ hr2 => ?_))
  obtain ⟨rfl, hυ⟩ := hr2
  exact le_icmp_eq (tgt := 1168) C dL_law_1066 (by decide) (fun _ => ih υ hυ) (fun z => absurd rfl z)
theorem lc_read {p : Program} {l : Launch} {e : Env} {s : State} {m : MethodId} {below : List Frame} {meth : Method} {c : Code} {D : va_G} {y : Nat → ClassId} {q : Nat → Nat} {b L : Nat} {xs : Nat → Int32} (C : LC p s m meth c D y q b L xs) (hL : L ≤ 3072) {i : Nat} (hiL : i + 6 ≤ L) {σ : xSt} (hi : INV σ) (ih : ∀ σ, INV σ → LEv p l e s m below meth c D y q b 1168 [some (.ref 300), some (.ref 0), some (.ref 115), some (.int (nI i))] [] σ) : LEv p l e s m below meth c D y q b 1071 [some (.ref 300), some (.ref 0), some (.ref 115), some (.int (nI i))] [] σ := by
  refine le_aload_n C dL_law_1071 rfl ?_
  refine le_aload_n C dL_law_1072 rfl ?_
  refine le_iload_n C dL_law_1073 rfl ?_
  refine le_iconst C (v := 1) dL_law_1074 rfl ?_
  refine le_iadd C dL_law_1075 ?_
  refine le_sld C hL (j := i + 1) dL_law_1076 (nI_add i 1) (by omega) ?_
  refine le_aload_n C dL_law_1077 rfl ?_
  refine le_iload_n C dL_law_1078 rfl ?_
  refine le_iconst C (v := 2) dL_law_1079 rfl ?_
  refine le_iadd C dL_law_1080 ?_
  refine le_sld C hL (j := i + 2) dL_law_1081 (nI_add i 2) (by omega) ?_
  refine le_callv C (k2 := kX8_read) (vs := [_, _]) dL_law_1082 okX8_read mlL_137 imX8_read slX8_read (Or.inl ⟨8, _, _, by decide, rfl, rfl, rfl⟩) rfl rfl (Nat.le_of_ble_eq_true rfl) (Nat.le_of_ble_eq_true rfl) ((st_read _ _ σ hi).imp (fun r τ hr => ?_))
  obtain ⟨x, rfl, hm⟩ := hr
  refine le_aload_n C dL_law_1085 rfl ?_
  refine le_aload_n C dL_law_1086 rfl ?_
  refine le_iload_n C dL_law_1087 rfl ?_
  refine le_iconst C (v := 1) dL_law_1088 rfl ?_
  refine le_iadd C dL_law_1089 ?_
  refine le_sld C hL (j := i + 1) dL_law_1090 (nI_add i 1) (by omega) ?_
  refine le_aload_n C dL_law_1091 rfl ?_
  refine le_iload_n C dL_law_1092 rfl ?_
  refine le_iconst C (v := 2) dL_law_1093 rfl ?_
  refine le_iadd C dL_law_1094 ?_
  refine le_sld C hL (j := i + 2) dL_law_1095 (nI_add i 2) (by omega) ?_
  refine le_callv C (k2 := kX9_read) (vs := [_, _]) dL_law_1096 okX9_read mlL_140 imX9_read slX9_read (Or.inl ⟨9, _, _, by decide, rfl, rfl, rfl⟩) rfl rfl (Nat.le_of_ble_eq_true rfl) (Nat.le_of_ble_eq_true rfl) (hm.imp (fun r2 υ hr2 => ?_))
  obtain ⟨rfl, hυ⟩ := hr2
  refine le_lcmp C dL_law_1099 ?_
  exact le_if_eq (tgt := 1168) C dL_law_1100 (by decide) (fun _ => ih υ hυ) (fun z => absurd (lg_eq0.mpr rfl) z)
theorem lc_shift {p : Program} {l : Launch} {e : Env} {s : State} {m : MethodId} {below : List Frame} {meth : Method} {c : Code} {D : va_G} {y : Nat → ClassId} {q : Nat → Nat} {b L : Nat} {xs : Nat → Int32} (C : LC p s m meth c D y q b L xs) (hL : L ≤ 3072) {i : Nat} (hiL : i + 6 ≤ L) {σ : xSt} (hi : INV σ) (ih : ∀ σ, INV σ → LEv p l e s m below meth c D y q b 1168 [some (.ref 300), some (.ref 0), some (.ref 115), some (.int (nI i))] [] σ) : LEv p l e s m below meth c D y q b 1105 [some (.ref 300), some (.ref 0), some (.ref 115), some (.int (nI i))] [] σ := by
  refine le_aload_n C dL_law_1105 rfl ?_
  refine le_aload_n C dL_law_1106 rfl ?_
  refine le_iload_n C dL_law_1107 rfl ?_
  refine le_iconst C (v := 1) dL_law_1108 rfl ?_
  refine le_iadd C dL_law_1109 ?_
  refine le_sld C hL (j := i + 1) dL_law_1110 (nI_add i 1) (by omega) ?_
  refine le_aload_n C dL_law_1111 rfl ?_
  refine le_iload_n C dL_law_1112 rfl ?_
  refine le_iconst C (v := 2) dL_law_1113 rfl ?_
  refine le_iadd C dL_law_1114 ?_
  refine le_sld C hL (j := i + 2) dL_law_1115 (nI_add i 2) (by omega) ?_
  refine le_aload_n C dL_law_1116 rfl ?_
  refine le_iload_n C dL_law_1117 rfl ?_
  refine le_iconst C (v := 3) dL_law_1118 rfl ?_
  refine le_iadd C dL_law_1119 ?_
  refine le_sld C hL (j := i + 3) dL_law_1120 (nI_add i 3) (by omega) ?_
  refine le_aload_n C dL_law_1121 rfl ?_
  refine le_iload_n C dL_law_1122 rfl ?_
  refine le_iconst C (v := 4) dL_law_1123 rfl ?_
  refine le_iadd C dL_law_1124 ?_
  refine le_sld C hL (j := i + 4) dL_law_1125 (nI_add i 4) (by omega) ?_
  refine le_aload_n C dL_law_1126 rfl ?_
  refine le_iload_n C dL_law_1127 rfl ?_
  refine le_iconst C (v := 5) dL_law_1128 rfl ?_
  refine le_iadd C dL_law_1129 ?_
  refine le_sld C hL (j := i + 5) dL_law_1130 (nI_add i 5) (by omega) ?_
  refine le_callv C (k2 := kX8_shift) (vs := [_, _, _, _, _]) dL_law_1131 okX8_shift mlL_141 imX8_shift slX8_shift (Or.inl ⟨8, _, _, by decide, rfl, rfl, rfl⟩) rfl rfl (Nat.le_of_ble_eq_true rfl) (Nat.le_of_ble_eq_true rfl) ((st_shift _ _ _ _ _ σ hi).imp (fun r τ hr => ?_))
  obtain ⟨x, rfl, hm⟩ := hr
  refine le_aload_n C dL_law_1134 rfl ?_
  refine le_aload_n C dL_law_1135 rfl ?_
  refine le_iload_n C dL_law_1136 rfl ?_
  refine le_iconst C (v := 1) dL_law_1137 rfl ?_
  refine le_iadd C dL_law_1138 ?_
  refine le_sld C hL (j := i + 1) dL_law_1139 (nI_add i 1) (by omega) ?_
  refine le_aload_n C dL_law_1140 rfl ?_
  refine le_iload_n C dL_law_1141 rfl ?_
  refine le_iconst C (v := 2) dL_law_1142 rfl ?_
  refine le_iadd C dL_law_1143 ?_
  refine le_sld C hL (j := i + 2) dL_law_1144 (nI_add i 2) (by omega) ?_
  refine le_aload_n C dL_law_1145 rfl ?_
  refine le_iload_n C dL_law_1146 rfl ?_
  refine le_iconst C (v := 3) dL_law_1147 rfl ?_
  refine le_iadd C dL_law_1148 ?_
  refine le_sld C hL (j := i + 3) dL_law_1149 (nI_add i 3) (by omega) ?_
  refine le_aload_n C dL_law_1150 rfl ?_
  refine le_iload_n C dL_law_1151 rfl ?_
  refine le_iconst C (v := 4) dL_law_1152 rfl ?_
  refine le_iadd C dL_law_1153 ?_
  refine le_sld C hL (j := i + 4) dL_law_1154 (nI_add i 4) (by omega) ?_
  refine le_aload_n C dL_law_1155 rfl ?_
  refine le_iload_n C dL_law_1156 rfl ?_
  refine le_iconst C (v := 5) dL_law_1157 rfl ?_
  refine le_iadd C dL_law_1158 ?_
  refine le_sld C hL (j := i + 5) dL_law_1159 (nI_add i 5) (by omega) ?_
  refine le_callv C (k2 := kX9_shift) (vs := [_, _, _, _, _]) dL_law_1160 okX9_shift mlL_145 imX9_shift slX9_shift (Or.inl ⟨9, _, _, by decide, rfl, rfl, rfl⟩) rfl rfl (Nat.le_of_ble_eq_true rfl) (Nat.le_of_ble_eq_true rfl) (hm.imp (fun r2 υ hr2 => ?_))
  obtain ⟨rfl, hυ⟩ := hr2
  exact le_icmp_eq (tgt := 1168) C dL_law_1163 (by decide) (fun _ => ih υ hυ) (fun z => absurd rfl z)
theorem law_loop {p : Program} {l : Launch} {e : Env} {s : State} {m : MethodId} {below : List Frame} {meth : Method} {c : Code} {D : va_G} {y : Nat → ClassId} {q : Nat → Nat} {b L : Nat} {xs : Nat → Int32} (C : LC p s m meth c D y q b L xs) (hL : L ≤ 3072) : ∀ (f i : Nat) (σ : xSt), INV σ → i ≤ L → L + 1 ≤ i + f → LEv p l e s m below meth c D y q b 18 [some (.ref 300), some (.ref 0), some (.ref 115), some (.int (nI i))] [] σ := by
  intro f
  induction f with
  | zero => intro i σ _ h1 h2; omega
  | succ f ih =>
    intro i σ hi h1 h2
    refine le_iload_n C dL_law_18 rfl ?_
    refine le_aload_n C dL_law_19 rfl ?_
    refine le_slen C dL_law_20 ?_
    refine le_bipush C (v := 6) dL_law_21 rfl ?_
    refine le_isub C dL_law_23 ?_
    refine le_icmp_gt (tgt := 1174) C dL_law_24 (by decide) (fun _ => ?_) (fun hgt => ?_)
    · refine le_iconst C (v := 1) dL_law_1174 rfl ?_
      exact le_true C dL_law_1175
    · have hiL : i + 6 ≤ L := by
        have z := Int32.le_iff_toInt_le.mp (Int32.not_lt.mp hgt)
        rw [show (nI L - 6).toInt = (L : Int) - 6 from pk_sub_toInt (b := 6) (by omega) (by omega), nI_toInt (by omega)] at z
        omega
      have ih2 : ∀ σ, INV σ → LEv p l e s m below meth c D y q b 1168 [some (.ref 300), some (.ref 0), some (.ref 115), some (.int (nI i))] [] σ := by
        intro σ2 hi2
        refine le_iinc C (v := nI (i + 6)) (lv2 := [_, _, _, _]) dL_law_1168 (by decide) rfl (nI_add i 6) rfl ?_
        refine le_goto (tgt := 18) C dL_law_1171 (by decide) ?_
        exact ih (i + 6) σ2 hi2 hiL (by omega)
      refine le_aload_n C dL_law_27 rfl ?_
      refine le_iload_n C dL_law_28 rfl ?_
      refine le_sld C hL (j := i) dL_law_29 rfl (by omega) ?_
      refine le_bipush C (v := 31) dL_law_30 rfl ?_
      refine le_iand C dL_law_32 ?_
      refine le_tsw C (tgs := [172, 215, 248, 271, 304, 337, 380, 403, 416, 439, 462, 495, 528, 571, 604, 638, 672, 705, 728, 761, 774, 807, 820, 833, 876, 899, 932, 955, 998, 1071, 1105]) (td := 1168) dL_law_33 rfl rfl rfl (fun j t hg hx => ?_) (fun _ => ih2 σ hi)
      match j, hg with
      | 0, hg => cases hg; exact lc_pot C hL hiL hi ih2
      | 1, hg => cases hg; exact lc_of C hL hiL hi ih2
      | 2, hg => cases hg; exact lc_world C hL hiL hi ih2
      | 3, hg => cases hg; exact lc_sugar C hL hiL hi ih2
      | 4, hg => cases hg; exact lc_spoon C hL hiL hi ih2
      | 5, hg => cases hg; exact lc_row C hL hiL hi ih2
      | 6, hg => cases hg; exact lc_feed C hL hiL hi ih2
      | 7, hg => cases hg; exact lc_cellar C hL hiL hi ih2
      | 8, hg => cases hg; exact lc_told C hL hiL hi ih2
      | 9, hg => cases hg; exact lc_pass C hL hiL hi ih2
      | 10, hg => cases hg; exact lc_on C hL hiL hi ih2
      | 11, hg => cases hg; exact lc_cases C hL hiL hi ih2
      | 12, hg => cases hg; exact lc_hear C hL hiL hi ih2
      | 13, hg => cases hg; exact lc_can C hL hiL hi ih2
      | 14, hg => cases hg; exact lc_odds C hL hiL hi ih2
      | 15, hg => cases hg; exact lc_mean C hL hiL hi ih2
      | 16, hg => cases hg; exact lc_plan C hL hiL hi ih2
      | 17, hg => cases hg; exact lc_ends C hL hiL hi ih2
      | 18, hg => cases hg; exact lc_book C hL hiL hi ih2
      | 19, hg => cases hg; exact lc_looked C hL hiL hi ih2
      | 20, hg => cases hg; exact lc_judge C hL hiL hi ih2
      | 21, hg => cases hg; exact lc_image C hL hiL hi ih2
      | 22, hg => cases hg; exact lc_undo C hL hiL hi ih2
      | 23, hg => cases hg; exact lc_act C hL hiL hi ih2
      | 24, hg => cases hg; exact lc_trace C hL hiL hi ih2
      | 25, hg => cases hg; exact lc_taken C hL hiL hi ih2
      | 26, hg => cases hg; exact lc_count C hL hiL hi ih2
      | 27, hg => cases hg; exact lc_tape C hL hiL hi ih2
      | 28, hg => cases hg; exact lc_item C hL hiL hi ih2
      | 29, hg => cases hg; exact lc_read C hL hiL hi ih2
      | 30, hg => cases hg; exact lc_shift C hL hiL hi ih2
      | j + 31, hg => simp at hg
