/-! THE LAW's arms: a call on both sides, the same answer (laid by gen_law.py) -/
set_option maxRecDepth 100000 in
set_option maxHeartbeats 4000000 in
theorem la_row {Γ : Gx} {Ω : Om} {ret : Option FieldType} {sb n i : Nat} {xs : Nat → Int32} (hX : Scr Γ Ω sb n xs) (hi : i + 7 ≤ n) (next : ∀ (M : Mem) (σ : Sg), IC M σ → IM M σ → SgI σ → X Γ Ω RL cL_law 4 12 ret 1377 [some (.ref sb), some (.ref (Ω.2.2 0)), some (.ref (Ω.2.2 34)), some (.int (nI i))] [] M) {M : Mem} {σ : Sg} (hC : IC M σ) (hM : IM M σ) (hI : SgI σ) : X Γ Ω RL cL_law 4 12 ret 200 [some (.ref sb), some (.ref (Ω.2.2 0)), some (.ref (Ω.2.2 34)), some (.int (nI i))] [] M := by
  refine x_aload_n dL_law_200 rfl ?_
  refine x_arg (k := 1) hX hi dL_law_201 dL_law_202 dL_law_203 rfl dL_law_204 dL_law_205 (by decide) ?_
  refine x_arg (k := 2) hX hi dL_law_206 dL_law_207 dL_law_208 rfl dL_law_209 dL_law_210 (by decide) ?_
  refine x_arg (k := 3) hX hi dL_law_211 dL_law_212 dL_law_213 rfl dL_law_214 dL_law_215 (by decide) ?_
  refine x_callV (n := 3) (c_row hC hI.1) dL_law_216 (q := 0) (ci := 10) (by decide) rfl (by decide) rfl (al4 (tb 391 (by decide +kernel) (by decide +kernel)) (tb 392 (by decide +kernel) (by decide +kernel)) (tb 393 (by decide +kernel) (by decide +kernel)) (tb 77 (by decide +kernel) (by decide +kernel))) (tb 394 (by decide +kernel) (by decide +kernel)) (by decide +kernel) (by decide) (by decide) rfl rfl (Nat.le_of_ble_eq_true rfl) ?_
  rintro _ M1 ⟨rfl, hC1, hF1⟩
  have hM1 := hM.keep hF1
  refine x_aload_n dL_law_219 rfl ?_
  refine x_arg (k := 1) hX hi dL_law_220 dL_law_221 dL_law_222 rfl dL_law_223 dL_law_224 (by decide) ?_
  refine x_arg (k := 2) hX hi dL_law_225 dL_law_226 dL_law_227 rfl dL_law_228 dL_law_229 (by decide) ?_
  refine x_arg (k := 3) hX hi dL_law_230 dL_law_231 dL_law_232 rfl dL_law_233 dL_law_234 (by decide) ?_
  refine x_callV (n := 3) (m_row hM1 hI.1) dL_law_235 (q := 34) (ci := 11) (by decide) rfl (by decide) rfl (al4 (tb 1092 (by decide +kernel) (by decide +kernel)) (tb 1093 (by decide +kernel) (by decide +kernel)) (tb 1094 (by decide +kernel) (by decide +kernel)) (tb 89 (by decide +kernel) (by decide +kernel))) (tb 1095 (by decide +kernel) (by decide +kernel)) (by decide +kernel) (by decide) (by decide) rfl rfl (Nat.le_of_ble_eq_true rfl) ?_
  rintro _ M2 ⟨rfl, hM2, hF2⟩
  refine x_icmp_eq 1377 dL_law_238 (fun _ => ?_) (fun h => absurd rfl h)
  exact next M2 _ (hC1.frc hF2) hM2 (I_row hI _ _ _)
set_option maxRecDepth 100000 in
set_option maxHeartbeats 4000000 in
theorem la_set {Γ : Gx} {Ω : Om} {ret : Option FieldType} {sb n i : Nat} {xs : Nat → Int32} (hX : Scr Γ Ω sb n xs) (hi : i + 7 ≤ n) (next : ∀ (M : Mem) (σ : Sg), IC M σ → IM M σ → SgI σ → X Γ Ω RL cL_law 4 12 ret 1377 [some (.ref sb), some (.ref (Ω.2.2 0)), some (.ref (Ω.2.2 34)), some (.int (nI i))] [] M) {M : Mem} {σ : Sg} (hC : IC M σ) (hM : IM M σ) (hI : SgI σ) : X Γ Ω RL cL_law 4 12 ret 243 [some (.ref sb), some (.ref (Ω.2.2 0)), some (.ref (Ω.2.2 34)), some (.int (nI i))] [] M := by
  refine x_aload_n dL_law_243 rfl ?_
  refine x_arg (k := 1) hX hi dL_law_244 dL_law_245 dL_law_246 rfl dL_law_247 dL_law_248 (by decide) ?_
  refine x_arg (k := 2) hX hi dL_law_249 dL_law_250 dL_law_251 rfl dL_law_252 dL_law_253 (by decide) ?_
  refine x_arg (k := 3) hX hi dL_law_254 dL_law_255 dL_law_256 rfl dL_law_257 dL_law_258 (by decide) ?_
  refine x_callV (n := 3) (c_set hC hI.1) dL_law_259 (q := 0) (ci := 10) (by decide) rfl (by decide) rfl (al4 (tb 415 (by decide +kernel) (by decide +kernel)) (tb 416 (by decide +kernel) (by decide +kernel)) (tb 417 (by decide +kernel) (by decide +kernel)) (tb 77 (by decide +kernel) (by decide +kernel))) (tb 418 (by decide +kernel) (by decide +kernel)) (by decide +kernel) (by decide) (by decide) rfl rfl (Nat.le_of_ble_eq_true rfl) ?_
  rintro _ M1 ⟨rfl, hC1, hF1⟩
  have hM1 := hM.keep hF1
  refine x_aload_n dL_law_262 rfl ?_
  refine x_arg (k := 1) hX hi dL_law_263 dL_law_264 dL_law_265 rfl dL_law_266 dL_law_267 (by decide) ?_
  refine x_arg (k := 2) hX hi dL_law_268 dL_law_269 dL_law_270 rfl dL_law_271 dL_law_272 (by decide) ?_
  refine x_arg (k := 3) hX hi dL_law_273 dL_law_274 dL_law_275 rfl dL_law_276 dL_law_277 (by decide) ?_
  refine x_callV (n := 3) (m_set hM1 hI.1) dL_law_278 (q := 34) (ci := 11) (by decide) rfl (by decide) rfl (al4 (tb 1114 (by decide +kernel) (by decide +kernel)) (tb 1115 (by decide +kernel) (by decide +kernel)) (tb 1116 (by decide +kernel) (by decide +kernel)) (tb 89 (by decide +kernel) (by decide +kernel))) (tb 1117 (by decide +kernel) (by decide +kernel)) (by decide +kernel) (by decide) (by decide) rfl rfl (Nat.le_of_ble_eq_true rfl) ?_
  rintro _ M2 ⟨rfl, hM2, hF2⟩
  refine x_icmp_eq 1377 dL_law_281 (fun _ => ?_) (fun h => absurd rfl h)
  exact next M2 _ (hC1.frc hF2) hM2 (I_set hI _ _ _)
set_option maxRecDepth 100000 in
set_option maxHeartbeats 4000000 in
theorem la_copy {Γ : Gx} {Ω : Om} {ret : Option FieldType} {sb n i : Nat} {xs : Nat → Int32} (hX : Scr Γ Ω sb n xs) (hi : i + 7 ≤ n) (next : ∀ (M : Mem) (σ : Sg), IC M σ → IM M σ → SgI σ → X Γ Ω RL cL_law 4 12 ret 1377 [some (.ref sb), some (.ref (Ω.2.2 0)), some (.ref (Ω.2.2 34)), some (.int (nI i))] [] M) {M : Mem} {σ : Sg} (hC : IC M σ) (hM : IM M σ) (hI : SgI σ) : X Γ Ω RL cL_law 4 12 ret 286 [some (.ref sb), some (.ref (Ω.2.2 0)), some (.ref (Ω.2.2 34)), some (.int (nI i))] [] M := by
  refine x_aload_n dL_law_286 rfl ?_
  refine x_arg (k := 1) hX hi dL_law_287 dL_law_288 dL_law_289 rfl dL_law_290 dL_law_291 (by decide) ?_
  refine x_arg (k := 2) hX hi dL_law_292 dL_law_293 dL_law_294 rfl dL_law_295 dL_law_296 (by decide) ?_
  refine x_arg (k := 3) hX hi dL_law_297 dL_law_298 dL_law_299 rfl dL_law_300 dL_law_301 (by decide) ?_
  refine x_arg (k := 4) hX hi dL_law_302 dL_law_303 dL_law_304 rfl dL_law_305 dL_law_306 (by decide) ?_
  refine x_arg (k := 5) hX hi dL_law_307 dL_law_308 dL_law_309 rfl dL_law_310 dL_law_311 (by decide) ?_
  refine x_callV (n := 5) (c_copy hC hI.1) dL_law_312 (q := 0) (ci := 10) (by decide) rfl (by decide) rfl (al4 (tb 431 (by decide +kernel) (by decide +kernel)) (tb 432 (by decide +kernel) (by decide +kernel)) (tb 433 (by decide +kernel) (by decide +kernel)) (tb 77 (by decide +kernel) (by decide +kernel))) (tb 434 (by decide +kernel) (by decide +kernel)) (by decide +kernel) (by decide) (by decide) rfl rfl (Nat.le_of_ble_eq_true rfl) ?_
  rintro _ M1 ⟨rfl, hC1, hF1⟩
  have hM1 := hM.keep hF1
  refine x_aload_n dL_law_315 rfl ?_
  refine x_arg (k := 1) hX hi dL_law_316 dL_law_317 dL_law_318 rfl dL_law_319 dL_law_320 (by decide) ?_
  refine x_arg (k := 2) hX hi dL_law_321 dL_law_322 dL_law_323 rfl dL_law_324 dL_law_325 (by decide) ?_
  refine x_arg (k := 3) hX hi dL_law_326 dL_law_327 dL_law_328 rfl dL_law_329 dL_law_330 (by decide) ?_
  refine x_arg (k := 4) hX hi dL_law_331 dL_law_332 dL_law_333 rfl dL_law_334 dL_law_335 (by decide) ?_
  refine x_arg (k := 5) hX hi dL_law_336 dL_law_337 dL_law_338 rfl dL_law_339 dL_law_340 (by decide) ?_
  refine x_callV (n := 5) (m_copy hM1 hI.1) dL_law_341 (q := 34) (ci := 11) (by decide) rfl (by decide) rfl (al4 (tb 1121 (by decide +kernel) (by decide +kernel)) (tb 1122 (by decide +kernel) (by decide +kernel)) (tb 1123 (by decide +kernel) (by decide +kernel)) (tb 89 (by decide +kernel) (by decide +kernel))) (tb 1124 (by decide +kernel) (by decide +kernel)) (by decide +kernel) (by decide) (by decide) rfl rfl (Nat.le_of_ble_eq_true rfl) ?_
  rintro _ M2 ⟨rfl, hM2, hF2⟩
  refine x_icmp_eq 1377 dL_law_344 (fun _ => ?_) (fun h => absurd rfl h)
  exact next M2 _ (hC1.frc hF2) hM2 (I_copy hI _ _ _ _ _)
set_option maxRecDepth 100000 in
set_option maxHeartbeats 4000000 in
theorem la_drop {Γ : Gx} {Ω : Om} {ret : Option FieldType} {sb n i : Nat} {xs : Nat → Int32} (hX : Scr Γ Ω sb n xs) (hi : i + 7 ≤ n) (next : ∀ (M : Mem) (σ : Sg), IC M σ → IM M σ → SgI σ → X Γ Ω RL cL_law 4 12 ret 1377 [some (.ref sb), some (.ref (Ω.2.2 0)), some (.ref (Ω.2.2 34)), some (.int (nI i))] [] M) {M : Mem} {σ : Sg} (hC : IC M σ) (hM : IM M σ) (hI : SgI σ) : X Γ Ω RL cL_law 4 12 ret 349 [some (.ref sb), some (.ref (Ω.2.2 0)), some (.ref (Ω.2.2 34)), some (.int (nI i))] [] M := by
  refine x_aload_n dL_law_349 rfl ?_
  refine x_arg (k := 1) hX hi dL_law_350 dL_law_351 dL_law_352 rfl dL_law_353 dL_law_354 (by decide) ?_
  refine x_callV (n := 1) (c_drop hC hI.1) dL_law_355 (q := 0) (ci := 10) (by decide) rfl (by decide) rfl (al4 (tb 438 (by decide +kernel) (by decide +kernel)) (tb 439 (by decide +kernel) (by decide +kernel)) (tb 440 (by decide +kernel) (by decide +kernel)) (tb 77 (by decide +kernel) (by decide +kernel))) (tb 441 (by decide +kernel) (by decide +kernel)) (by decide +kernel) (by decide) (by decide) rfl rfl (Nat.le_of_ble_eq_true rfl) ?_
  rintro _ M1 ⟨rfl, hC1, hF1⟩
  have hM1 := hM.keep hF1
  refine x_aload_n dL_law_358 rfl ?_
  refine x_arg (k := 1) hX hi dL_law_359 dL_law_360 dL_law_361 rfl dL_law_362 dL_law_363 (by decide) ?_
  refine x_callV (n := 1) (m_drop hM1 hI.1) dL_law_364 (q := 34) (ci := 11) (by decide) rfl (by decide) rfl (al4 (tb 1125 (by decide +kernel) (by decide +kernel)) (tb 1126 (by decide +kernel) (by decide +kernel)) (tb 1127 (by decide +kernel) (by decide +kernel)) (tb 89 (by decide +kernel) (by decide +kernel))) (tb 1128 (by decide +kernel) (by decide +kernel)) (by decide +kernel) (by decide) (by decide) rfl rfl (Nat.le_of_ble_eq_true rfl) ?_
  rintro _ M2 ⟨rfl, hM2, hF2⟩
  refine x_icmp_eq 1377 dL_law_367 (fun _ => ?_) (fun h => absurd rfl h)
  exact next M2 _ (hC1.frc hF2) hM2 (I_drop hI _)
set_option maxRecDepth 100000 in
set_option maxHeartbeats 4000000 in
theorem la_feed {Γ : Gx} {Ω : Om} {ret : Option FieldType} {sb n i : Nat} {xs : Nat → Int32} (hX : Scr Γ Ω sb n xs) (hi : i + 7 ≤ n) (next : ∀ (M : Mem) (σ : Sg), IC M σ → IM M σ → SgI σ → X Γ Ω RL cL_law 4 12 ret 1377 [some (.ref sb), some (.ref (Ω.2.2 0)), some (.ref (Ω.2.2 34)), some (.int (nI i))] [] M) {M : Mem} {σ : Sg} (hC : IC M σ) (hM : IM M σ) (hI : SgI σ) : X Γ Ω RL cL_law 4 12 ret 372 [some (.ref sb), some (.ref (Ω.2.2 0)), some (.ref (Ω.2.2 34)), some (.int (nI i))] [] M := by
  refine x_aload_n dL_law_372 rfl ?_
  refine x_arg (k := 1) hX hi dL_law_373 dL_law_374 dL_law_375 rfl dL_law_376 dL_law_377 (by decide) ?_
  refine x_callV (n := 1) (c_feed hC hI.1) dL_law_378 (q := 0) (ci := 10) (by decide) rfl (by decide) rfl (al4 (tb 446 (by decide +kernel) (by decide +kernel)) (tb 447 (by decide +kernel) (by decide +kernel)) (tb 448 (by decide +kernel) (by decide +kernel)) (tb 77 (by decide +kernel) (by decide +kernel))) (tb 449 (by decide +kernel) (by decide +kernel)) (by decide +kernel) (by decide) (by decide) rfl rfl (Nat.le_of_ble_eq_true rfl) ?_
  rintro _ M1 ⟨rfl, hC1, hF1⟩
  have hM1 := hM.keep hF1
  refine x_aload_n dL_law_381 rfl ?_
  refine x_arg (k := 1) hX hi dL_law_382 dL_law_383 dL_law_384 rfl dL_law_385 dL_law_386 (by decide) ?_
  refine x_callV (n := 1) (m_feed hM1 hI.1) dL_law_387 (q := 34) (ci := 11) (by decide) rfl (by decide) rfl (al4 (tb 1129 (by decide +kernel) (by decide +kernel)) (tb 1130 (by decide +kernel) (by decide +kernel)) (tb 1131 (by decide +kernel) (by decide +kernel)) (tb 89 (by decide +kernel) (by decide +kernel))) (tb 1132 (by decide +kernel) (by decide +kernel)) (by decide +kernel) (by decide) (by decide) rfl rfl (Nat.le_of_ble_eq_true rfl) ?_
  rintro _ M2 ⟨rfl, hM2, hF2⟩
  refine x_icmp_eq 1377 dL_law_390 (fun _ => ?_) (fun h => absurd rfl h)
  exact next M2 _ (hC1.frc hF2) hM2 (I_feed hI _)
set_option maxRecDepth 100000 in
set_option maxHeartbeats 4000000 in
theorem la_lake {Γ : Gx} {Ω : Om} {ret : Option FieldType} {sb n i : Nat} {xs : Nat → Int32} (hX : Scr Γ Ω sb n xs) (hi : i + 7 ≤ n) (next : ∀ (M : Mem) (σ : Sg), IC M σ → IM M σ → SgI σ → X Γ Ω RL cL_law 4 12 ret 1377 [some (.ref sb), some (.ref (Ω.2.2 0)), some (.ref (Ω.2.2 34)), some (.int (nI i))] [] M) {M : Mem} {σ : Sg} (hC : IC M σ) (hM : IM M σ) (hI : SgI σ) : X Γ Ω RL cL_law 4 12 ret 395 [some (.ref sb), some (.ref (Ω.2.2 0)), some (.ref (Ω.2.2 34)), some (.int (nI i))] [] M := by
  refine x_aload_n dL_law_395 rfl ?_
  refine x_callV (n := 0) (c_lake hC hI.1) dL_law_396 (q := 0) (ci := 10) (by decide) rfl (by decide) rfl (al4 (tb 455 (by decide +kernel) (by decide +kernel)) (tb 456 (by decide +kernel) (by decide +kernel)) (tb 457 (by decide +kernel) (by decide +kernel)) (tb 77 (by decide +kernel) (by decide +kernel))) (tb 458 (by decide +kernel) (by decide +kernel)) (by decide +kernel) (by decide) (by decide) rfl rfl (Nat.le_of_ble_eq_true rfl) ?_
  rintro _ M1 ⟨rfl, hC1, hF1⟩
  have hM1 := hM.keep hF1
  refine x_aload_n dL_law_399 rfl ?_
  refine x_callV (n := 0) (m_lake hM1 hI.1) dL_law_400 (q := 34) (ci := 11) (by decide) rfl (by decide) rfl (al4 (tb 1135 (by decide +kernel) (by decide +kernel)) (tb 1136 (by decide +kernel) (by decide +kernel)) (tb 1137 (by decide +kernel) (by decide +kernel)) (tb 89 (by decide +kernel) (by decide +kernel))) (tb 1138 (by decide +kernel) (by decide +kernel)) (by decide +kernel) (by decide) (by decide) rfl rfl (Nat.le_of_ble_eq_true rfl) ?_
  rintro _ M2 ⟨rfl, hM2, hF2⟩
  refine x_icmp_eq 1377 dL_law_403 (fun _ => ?_) (fun h => absurd rfl h)
  exact next M2 _ (hC1.frc hF2) hM2 (I_lake hI)
set_option maxRecDepth 100000 in
set_option maxHeartbeats 4000000 in
theorem la_fault {Γ : Gx} {Ω : Om} {ret : Option FieldType} {sb n i : Nat} {xs : Nat → Int32} (hX : Scr Γ Ω sb n xs) (hi : i + 7 ≤ n) (next : ∀ (M : Mem) (σ : Sg), IC M σ → IM M σ → SgI σ → X Γ Ω RL cL_law 4 12 ret 1377 [some (.ref sb), some (.ref (Ω.2.2 0)), some (.ref (Ω.2.2 34)), some (.int (nI i))] [] M) {M : Mem} {σ : Sg} (hC : IC M σ) (hM : IM M σ) (hI : SgI σ) : X Γ Ω RL cL_law 4 12 ret 408 [some (.ref sb), some (.ref (Ω.2.2 0)), some (.ref (Ω.2.2 34)), some (.int (nI i))] [] M := by
  refine x_aload_n dL_law_408 rfl ?_
  refine x_callV (n := 0) (c_fault hC hI.1) dL_law_409 (q := 0) (ci := 10) (by decide) rfl (by decide) rfl (al4 (tb 520 (by decide +kernel) (by decide +kernel)) (tb 521 (by decide +kernel) (by decide +kernel)) (tb 522 (by decide +kernel) (by decide +kernel)) (tb 77 (by decide +kernel) (by decide +kernel))) (tb 523 (by decide +kernel) (by decide +kernel)) (by decide +kernel) (by decide) (by decide) rfl rfl (Nat.le_of_ble_eq_true rfl) ?_
  rintro _ M1 ⟨rfl, hC1, hF1⟩
  have hM1 := hM.keep hF1
  refine x_aload_n dL_law_412 rfl ?_
  refine x_callV (n := 0) (m_fault hM1 hI.1) dL_law_413 (q := 34) (ci := 11) (by decide) rfl (by decide) rfl (al4 (tb 1179 (by decide +kernel) (by decide +kernel)) (tb 1180 (by decide +kernel) (by decide +kernel)) (tb 1181 (by decide +kernel) (by decide +kernel)) (tb 89 (by decide +kernel) (by decide +kernel))) (tb 1182 (by decide +kernel) (by decide +kernel)) (by decide +kernel) (by decide) (by decide) rfl rfl (Nat.le_of_ble_eq_true rfl) ?_
  rintro _ M2 ⟨rfl, hM2, hF2⟩
  refine x_icmp_eq 1377 dL_law_416 (fun _ => ?_) (fun h => absurd rfl h)
  exact next M2 _ (hC1.frc hF2) hM2 hI
set_option maxRecDepth 100000 in
set_option maxHeartbeats 4000000 in
theorem la_undo {Γ : Gx} {Ω : Om} {ret : Option FieldType} {sb n i : Nat} {xs : Nat → Int32} (hX : Scr Γ Ω sb n xs) (hi : i + 7 ≤ n) (next : ∀ (M : Mem) (σ : Sg), IC M σ → IM M σ → SgI σ → X Γ Ω RL cL_law 4 12 ret 1377 [some (.ref sb), some (.ref (Ω.2.2 0)), some (.ref (Ω.2.2 34)), some (.int (nI i))] [] M) {M : Mem} {σ : Sg} (hC : IC M σ) (hM : IM M σ) (hI : SgI σ) : X Γ Ω RL cL_law 4 12 ret 421 [some (.ref sb), some (.ref (Ω.2.2 0)), some (.ref (Ω.2.2 34)), some (.int (nI i))] [] M := by
  refine x_aload_n dL_law_421 rfl ?_
  refine x_callV (n := 0) (c_undo hC hI.1) dL_law_422 (q := 0) (ci := 10) (by decide) rfl (by decide) rfl (al4 (tb 524 (by decide +kernel) (by decide +kernel)) (tb 525 (by decide +kernel) (by decide +kernel)) (tb 526 (by decide +kernel) (by decide +kernel)) (tb 77 (by decide +kernel) (by decide +kernel))) (tb 527 (by decide +kernel) (by decide +kernel)) (by decide +kernel) (by decide) (by decide) rfl rfl (Nat.le_of_ble_eq_true rfl) ?_
  rintro _ M1 ⟨rfl, hC1, hF1⟩
  have hM1 := hM.keep hF1
  refine x_aload_n dL_law_425 rfl ?_
  refine x_callV (n := 0) (m_undo hM1 hI.1) dL_law_426 (q := 34) (ci := 11) (by decide) rfl (by decide) rfl (al4 (tb 1183 (by decide +kernel) (by decide +kernel)) (tb 1184 (by decide +kernel) (by decide +kernel)) (tb 1185 (by decide +kernel) (by decide +kernel)) (tb 89 (by decide +kernel) (by decide +kernel))) (tb 1186 (by decide +kernel) (by decide +kernel)) (by decide +kernel) (by decide) (by decide) rfl rfl (Nat.le_of_ble_eq_true rfl) ?_
  rintro _ M2 ⟨rfl, hM2, hF2⟩
  refine x_icmp_eq 1377 dL_law_429 (fun _ => ?_) (fun h => absurd rfl h)
  exact next M2 _ (hC1.frc hF2) hM2 (I_undo hI)
set_option maxRecDepth 100000 in
set_option maxHeartbeats 4000000 in
theorem la_hours {Γ : Gx} {Ω : Om} {ret : Option FieldType} {sb n i : Nat} {xs : Nat → Int32} (hX : Scr Γ Ω sb n xs) (hi : i + 7 ≤ n) (next : ∀ (M : Mem) (σ : Sg), IC M σ → IM M σ → SgI σ → X Γ Ω RL cL_law 4 12 ret 1377 [some (.ref sb), some (.ref (Ω.2.2 0)), some (.ref (Ω.2.2 34)), some (.int (nI i))] [] M) {M : Mem} {σ : Sg} (hC : IC M σ) (hM : IM M σ) (hI : SgI σ) : X Γ Ω RL cL_law 4 12 ret 434 [some (.ref sb), some (.ref (Ω.2.2 0)), some (.ref (Ω.2.2 34)), some (.int (nI i))] [] M := by
  refine x_aload_n dL_law_434 rfl ?_
  refine x_arg (k := 1) hX hi dL_law_435 dL_law_436 dL_law_437 rfl dL_law_438 dL_law_439 (by decide) ?_
  refine x_callV (n := 1) (c_hours hC hI.1) dL_law_440 (q := 0) (ci := 10) (by decide) rfl (by decide) rfl (al4 (tb 529 (by decide +kernel) (by decide +kernel)) (tb 530 (by decide +kernel) (by decide +kernel)) (tb 531 (by decide +kernel) (by decide +kernel)) (tb 77 (by decide +kernel) (by decide +kernel))) (tb 532 (by decide +kernel) (by decide +kernel)) (by decide +kernel) (by decide) (by decide) rfl rfl (Nat.le_of_ble_eq_true rfl) ?_
  rintro _ M1 ⟨rfl, hC1, hF1⟩
  have hM1 := hM.keep hF1
  refine x_aload_n dL_law_443 rfl ?_
  refine x_arg (k := 1) hX hi dL_law_444 dL_law_445 dL_law_446 rfl dL_law_447 dL_law_448 (by decide) ?_
  refine x_callV (n := 1) (m_hours hM1 hI.1) dL_law_449 (q := 34) (ci := 11) (by decide) rfl (by decide) rfl (al4 (tb 1188 (by decide +kernel) (by decide +kernel)) (tb 1189 (by decide +kernel) (by decide +kernel)) (tb 1190 (by decide +kernel) (by decide +kernel)) (tb 89 (by decide +kernel) (by decide +kernel))) (tb 1191 (by decide +kernel) (by decide +kernel)) (by decide +kernel) (by decide) (by decide) rfl rfl (Nat.le_of_ble_eq_true rfl) ?_
  rintro _ M2 ⟨rfl, hM2, hF2⟩
  refine x_icmp_eq 1377 dL_law_452 (fun _ => ?_) (fun h => absurd rfl h)
  exact next M2 _ (hC1.frc hF2) hM2 (I_hours hI _)
set_option maxRecDepth 100000 in
set_option maxHeartbeats 4000000 in
theorem la_begin {Γ : Gx} {Ω : Om} {ret : Option FieldType} {sb n i : Nat} {xs : Nat → Int32} (hX : Scr Γ Ω sb n xs) (hi : i + 7 ≤ n) (next : ∀ (M : Mem) (σ : Sg), IC M σ → IM M σ → SgI σ → X Γ Ω RL cL_law 4 12 ret 1377 [some (.ref sb), some (.ref (Ω.2.2 0)), some (.ref (Ω.2.2 34)), some (.int (nI i))] [] M) {M : Mem} {σ : Sg} (hC : IC M σ) (hM : IM M σ) (hI : SgI σ) : X Γ Ω RL cL_law 4 12 ret 457 [some (.ref sb), some (.ref (Ω.2.2 0)), some (.ref (Ω.2.2 34)), some (.int (nI i))] [] M := by
  refine x_aload_n dL_law_457 rfl ?_
  refine x_arg (k := 1) hX hi dL_law_458 dL_law_459 dL_law_460 rfl dL_law_461 dL_law_462 (by decide) ?_
  refine x_arg (k := 2) hX hi dL_law_463 dL_law_464 dL_law_465 rfl dL_law_466 dL_law_467 (by decide) ?_
  refine x_callV (n := 2) (c_begin hC hI.1) dL_law_468 (q := 0) (ci := 10) (by decide) rfl (by decide) rfl (al4 (tb 636 (by decide +kernel) (by decide +kernel)) (tb 637 (by decide +kernel) (by decide +kernel)) (tb 638 (by decide +kernel) (by decide +kernel)) (tb 77 (by decide +kernel) (by decide +kernel))) (tb 639 (by decide +kernel) (by decide +kernel)) (by decide +kernel) (by decide) (by decide) rfl rfl (Nat.le_of_ble_eq_true rfl) ?_
  rintro _ M1 ⟨rfl, hC1, hF1⟩
  have hM1 := hM.keep hF1
  refine x_aload_n dL_law_471 rfl ?_
  refine x_arg (k := 1) hX hi dL_law_472 dL_law_473 dL_law_474 rfl dL_law_475 dL_law_476 (by decide) ?_
  refine x_arg (k := 2) hX hi dL_law_477 dL_law_478 dL_law_479 rfl dL_law_480 dL_law_481 (by decide) ?_
  refine x_callV (n := 2) (m_begin hM1 hI.1) dL_law_482 (q := 34) (ci := 11) (by decide) rfl (by decide) rfl (al4 (tb 1257 (by decide +kernel) (by decide +kernel)) (tb 1258 (by decide +kernel) (by decide +kernel)) (tb 1259 (by decide +kernel) (by decide +kernel)) (tb 89 (by decide +kernel) (by decide +kernel))) (tb 1260 (by decide +kernel) (by decide +kernel)) (by decide +kernel) (by decide) (by decide) rfl rfl (Nat.le_of_ble_eq_true rfl) ?_
  rintro _ M2 ⟨rfl, hM2, hF2⟩
  refine x_icmp_eq 1377 dL_law_485 (fun _ => ?_) (fun h => absurd rfl h)
  exact next M2 _ (hC1.frc hF2) hM2 (I_begin hI _ _)
set_option maxRecDepth 100000 in
set_option maxHeartbeats 4000000 in
theorem la_hold {Γ : Gx} {Ω : Om} {ret : Option FieldType} {sb n i : Nat} {xs : Nat → Int32} (hX : Scr Γ Ω sb n xs) (hi : i + 7 ≤ n) (next : ∀ (M : Mem) (σ : Sg), IC M σ → IM M σ → SgI σ → X Γ Ω RL cL_law 4 12 ret 1377 [some (.ref sb), some (.ref (Ω.2.2 0)), some (.ref (Ω.2.2 34)), some (.int (nI i))] [] M) {M : Mem} {σ : Sg} (hC : IC M σ) (hM : IM M σ) (hI : SgI σ) : X Γ Ω RL cL_law 4 12 ret 490 [some (.ref sb), some (.ref (Ω.2.2 0)), some (.ref (Ω.2.2 34)), some (.int (nI i))] [] M := by
  refine x_aload_n dL_law_490 rfl ?_
  refine x_arg (k := 1) hX hi dL_law_491 dL_law_492 dL_law_493 rfl dL_law_494 dL_law_495 (by decide) ?_
  refine x_arg (k := 2) hX hi dL_law_496 dL_law_497 dL_law_498 rfl dL_law_499 dL_law_500 (by decide) ?_
  refine x_callV (n := 2) (c_hold hC hI.1) dL_law_501 (q := 0) (ci := 10) (by decide) rfl (by decide) rfl (al4 (tb 644 (by decide +kernel) (by decide +kernel)) (tb 645 (by decide +kernel) (by decide +kernel)) (tb 646 (by decide +kernel) (by decide +kernel)) (tb 77 (by decide +kernel) (by decide +kernel))) (tb 647 (by decide +kernel) (by decide +kernel)) (by decide +kernel) (by decide) (by decide) rfl rfl (Nat.le_of_ble_eq_true rfl) ?_
  rintro _ M1 ⟨rfl, hC1, hF1⟩
  have hM1 := hM.keep hF1
  refine x_aload_n dL_law_504 rfl ?_
  refine x_arg (k := 1) hX hi dL_law_505 dL_law_506 dL_law_507 rfl dL_law_508 dL_law_509 (by decide) ?_
  refine x_arg (k := 2) hX hi dL_law_510 dL_law_511 dL_law_512 rfl dL_law_513 dL_law_514 (by decide) ?_
  refine x_callV (n := 2) (m_hold hM1 hI.1) dL_law_515 (q := 34) (ci := 11) (by decide) rfl (by decide) rfl (al4 (tb 1266 (by decide +kernel) (by decide +kernel)) (tb 1267 (by decide +kernel) (by decide +kernel)) (tb 1268 (by decide +kernel) (by decide +kernel)) (tb 89 (by decide +kernel) (by decide +kernel))) (tb 1269 (by decide +kernel) (by decide +kernel)) (by decide +kernel) (by decide) (by decide) rfl rfl (Nat.le_of_ble_eq_true rfl) ?_
  rintro _ M2 ⟨rfl, hM2, hF2⟩
  refine x_icmp_eq 1377 dL_law_518 (fun _ => ?_) (fun h => absurd rfl h)
  exact next M2 _ (hC1.frc hF2) hM2 (I_hold hI _ _)
set_option maxRecDepth 100000 in
set_option maxHeartbeats 4000000 in
theorem la_mend {Γ : Gx} {Ω : Om} {ret : Option FieldType} {sb n i : Nat} {xs : Nat → Int32} (hX : Scr Γ Ω sb n xs) (hi : i + 7 ≤ n) (next : ∀ (M : Mem) (σ : Sg), IC M σ → IM M σ → SgI σ → X Γ Ω RL cL_law 4 12 ret 1377 [some (.ref sb), some (.ref (Ω.2.2 0)), some (.ref (Ω.2.2 34)), some (.int (nI i))] [] M) {M : Mem} {σ : Sg} (hC : IC M σ) (hM : IM M σ) (hI : SgI σ) : X Γ Ω RL cL_law 4 12 ret 523 [some (.ref sb), some (.ref (Ω.2.2 0)), some (.ref (Ω.2.2 34)), some (.int (nI i))] [] M := by
  refine x_aload_n dL_law_523 rfl ?_
  refine x_arg (k := 1) hX hi dL_law_524 dL_law_525 dL_law_526 rfl dL_law_527 dL_law_528 (by decide) ?_
  refine x_callV (n := 1) (c_mend hC hI.1) dL_law_529 (q := 0) (ci := 10) (by decide) rfl (by decide) rfl (al4 (tb 649 (by decide +kernel) (by decide +kernel)) (tb 650 (by decide +kernel) (by decide +kernel)) (tb 651 (by decide +kernel) (by decide +kernel)) (tb 77 (by decide +kernel) (by decide +kernel))) (tb 652 (by decide +kernel) (by decide +kernel)) (by decide +kernel) (by decide) (by decide) rfl rfl (Nat.le_of_ble_eq_true rfl) ?_
  rintro _ M1 ⟨rfl, hC1, hF1⟩
  have hM1 := hM.keep hF1
  refine x_aload_n dL_law_532 rfl ?_
  refine x_arg (k := 1) hX hi dL_law_533 dL_law_534 dL_law_535 rfl dL_law_536 dL_law_537 (by decide) ?_
  refine x_callV (n := 1) (m_mend hM1 hI.1) dL_law_538 (q := 34) (ci := 11) (by decide) rfl (by decide) rfl (al4 (tb 1270 (by decide +kernel) (by decide +kernel)) (tb 1271 (by decide +kernel) (by decide +kernel)) (tb 1272 (by decide +kernel) (by decide +kernel)) (tb 89 (by decide +kernel) (by decide +kernel))) (tb 1273 (by decide +kernel) (by decide +kernel)) (by decide +kernel) (by decide) (by decide) rfl rfl (Nat.le_of_ble_eq_true rfl) ?_
  rintro _ M2 ⟨rfl, hM2, hF2⟩
  refine x_icmp_eq 1377 dL_law_541 (fun _ => ?_) (fun h => absurd rfl h)
  exact next M2 _ (hC1.frc hF2) hM2 (I_mend hI _)
set_option maxRecDepth 100000 in
set_option maxHeartbeats 4000000 in
theorem la_takeOut {Γ : Gx} {Ω : Om} {ret : Option FieldType} {sb n i : Nat} {xs : Nat → Int32} (hX : Scr Γ Ω sb n xs) (hi : i + 7 ≤ n) (next : ∀ (M : Mem) (σ : Sg), IC M σ → IM M σ → SgI σ → X Γ Ω RL cL_law 4 12 ret 1377 [some (.ref sb), some (.ref (Ω.2.2 0)), some (.ref (Ω.2.2 34)), some (.int (nI i))] [] M) {M : Mem} {σ : Sg} (hC : IC M σ) (hM : IM M σ) (hI : SgI σ) : X Γ Ω RL cL_law 4 12 ret 546 [some (.ref sb), some (.ref (Ω.2.2 0)), some (.ref (Ω.2.2 34)), some (.int (nI i))] [] M := by
  refine x_aload_n dL_law_546 rfl ?_
  refine x_arg (k := 1) hX hi dL_law_547 dL_law_548 dL_law_549 rfl dL_law_550 dL_law_551 (by decide) ?_
  refine x_callV (n := 1) (c_takeOut hC hI.1) dL_law_552 (q := 0) (ci := 10) (by decide) rfl (by decide) rfl (al4 (tb 657 (by decide +kernel) (by decide +kernel)) (tb 658 (by decide +kernel) (by decide +kernel)) (tb 659 (by decide +kernel) (by decide +kernel)) (tb 77 (by decide +kernel) (by decide +kernel))) (tb 660 (by decide +kernel) (by decide +kernel)) (by decide +kernel) (by decide) (by decide) rfl rfl (Nat.le_of_ble_eq_true rfl) ?_
  rintro _ M1 ⟨rfl, hC1, hF1⟩
  have hM1 := hM.keep hF1
  refine x_aload_n dL_law_555 rfl ?_
  refine x_arg (k := 1) hX hi dL_law_556 dL_law_557 dL_law_558 rfl dL_law_559 dL_law_560 (by decide) ?_
  refine x_callV (n := 1) (m_takeOut hM1 hI.1) dL_law_561 (q := 34) (ci := 11) (by decide) rfl (by decide) rfl (al4 (tb 1278 (by decide +kernel) (by decide +kernel)) (tb 1279 (by decide +kernel) (by decide +kernel)) (tb 1280 (by decide +kernel) (by decide +kernel)) (tb 89 (by decide +kernel) (by decide +kernel))) (tb 1281 (by decide +kernel) (by decide +kernel)) (by decide +kernel) (by decide) (by decide) rfl rfl (Nat.le_of_ble_eq_true rfl) ?_
  rintro _ M2 ⟨rfl, hM2, hF2⟩
  refine x_icmp_eq 1377 dL_law_564 (fun _ => ?_) (fun h => absurd rfl h)
  exact next M2 _ (hC1.frc hF2) hM2 (I_takeOut hI _)
set_option maxRecDepth 100000 in
set_option maxHeartbeats 4000000 in
theorem la_goer {Γ : Gx} {Ω : Om} {ret : Option FieldType} {sb n i : Nat} {xs : Nat → Int32} (hX : Scr Γ Ω sb n xs) (hi : i + 7 ≤ n) (next : ∀ (M : Mem) (σ : Sg), IC M σ → IM M σ → SgI σ → X Γ Ω RL cL_law 4 12 ret 1377 [some (.ref sb), some (.ref (Ω.2.2 0)), some (.ref (Ω.2.2 34)), some (.int (nI i))] [] M) {M : Mem} {σ : Sg} (hC : IC M σ) (hM : IM M σ) (hI : SgI σ) : X Γ Ω RL cL_law 4 12 ret 569 [some (.ref sb), some (.ref (Ω.2.2 0)), some (.ref (Ω.2.2 34)), some (.int (nI i))] [] M := by
  refine x_aload_n dL_law_569 rfl ?_
  refine x_arg (k := 1) hX hi dL_law_570 dL_law_571 dL_law_572 rfl dL_law_573 dL_law_574 (by decide) ?_
  refine x_arg (k := 2) hX hi dL_law_575 dL_law_576 dL_law_577 rfl dL_law_578 dL_law_579 (by decide) ?_
  refine x_callV (n := 2) (c_goer hC hI.1) dL_law_580 (q := 0) (ci := 10) (by decide) rfl (by decide) rfl (al4 (tb 663 (by decide +kernel) (by decide +kernel)) (tb 664 (by decide +kernel) (by decide +kernel)) (tb 665 (by decide +kernel) (by decide +kernel)) (tb 77 (by decide +kernel) (by decide +kernel))) (tb 666 (by decide +kernel) (by decide +kernel)) (by decide +kernel) (by decide) (by decide) rfl rfl (Nat.le_of_ble_eq_true rfl) ?_
  rintro _ M1 ⟨rfl, hC1, hF1⟩
  have hM1 := hM.keep hF1
  refine x_aload_n dL_law_583 rfl ?_
  refine x_arg (k := 1) hX hi dL_law_584 dL_law_585 dL_law_586 rfl dL_law_587 dL_law_588 (by decide) ?_
  refine x_arg (k := 2) hX hi dL_law_589 dL_law_590 dL_law_591 rfl dL_law_592 dL_law_593 (by decide) ?_
  refine x_callV (n := 2) (m_goer hM1 hI.1) dL_law_594 (q := 34) (ci := 11) (by decide) rfl (by decide) rfl (al4 (tb 1282 (by decide +kernel) (by decide +kernel)) (tb 1283 (by decide +kernel) (by decide +kernel)) (tb 1284 (by decide +kernel) (by decide +kernel)) (tb 89 (by decide +kernel) (by decide +kernel))) (tb 1285 (by decide +kernel) (by decide +kernel)) (by decide +kernel) (by decide) (by decide) rfl rfl (Nat.le_of_ble_eq_true rfl) ?_
  rintro _ M2 ⟨rfl, hM2, hF2⟩
  refine x_icmp_eq 1377 dL_law_597 (fun _ => ?_) (fun h => absurd rfl h)
  exact next M2 _ (hC1.frc hF2) hM2 hI
set_option maxRecDepth 100000 in
set_option maxHeartbeats 4000000 in
theorem la_rung {Γ : Gx} {Ω : Om} {ret : Option FieldType} {sb n i : Nat} {xs : Nat → Int32} (hX : Scr Γ Ω sb n xs) (hi : i + 7 ≤ n) (next : ∀ (M : Mem) (σ : Sg), IC M σ → IM M σ → SgI σ → X Γ Ω RL cL_law 4 12 ret 1377 [some (.ref sb), some (.ref (Ω.2.2 0)), some (.ref (Ω.2.2 34)), some (.int (nI i))] [] M) {M : Mem} {σ : Sg} (hC : IC M σ) (hM : IM M σ) (hI : SgI σ) : X Γ Ω RL cL_law 4 12 ret 602 [some (.ref sb), some (.ref (Ω.2.2 0)), some (.ref (Ω.2.2 34)), some (.int (nI i))] [] M := by
  refine x_aload_n dL_law_602 rfl ?_
  refine x_arg (k := 1) hX hi dL_law_603 dL_law_604 dL_law_605 rfl dL_law_606 dL_law_607 (by decide) ?_
  refine x_arg (k := 2) hX hi dL_law_608 dL_law_609 dL_law_610 rfl dL_law_611 dL_law_612 (by decide) ?_
  refine x_callV (n := 2) (c_rung hC hI.1) dL_law_613 (q := 0) (ci := 10) (by decide) rfl (by decide) rfl (al4 (tb 669 (by decide +kernel) (by decide +kernel)) (tb 670 (by decide +kernel) (by decide +kernel)) (tb 671 (by decide +kernel) (by decide +kernel)) (tb 77 (by decide +kernel) (by decide +kernel))) (tb 672 (by decide +kernel) (by decide +kernel)) (by decide +kernel) (by decide) (by decide) rfl rfl (Nat.le_of_ble_eq_true rfl) ?_
  rintro _ M1 ⟨rfl, hC1, hF1⟩
  have hM1 := hM.keep hF1
  refine x_aload_n dL_law_616 rfl ?_
  refine x_arg (k := 1) hX hi dL_law_617 dL_law_618 dL_law_619 rfl dL_law_620 dL_law_621 (by decide) ?_
  refine x_arg (k := 2) hX hi dL_law_622 dL_law_623 dL_law_624 rfl dL_law_625 dL_law_626 (by decide) ?_
  refine x_callV (n := 2) (m_rung hM1 hI.1) dL_law_627 (q := 34) (ci := 11) (by decide) rfl (by decide) rfl (al4 (tb 1286 (by decide +kernel) (by decide +kernel)) (tb 1287 (by decide +kernel) (by decide +kernel)) (tb 1288 (by decide +kernel) (by decide +kernel)) (tb 89 (by decide +kernel) (by decide +kernel))) (tb 1289 (by decide +kernel) (by decide +kernel)) (by decide +kernel) (by decide) (by decide) rfl rfl (Nat.le_of_ble_eq_true rfl) ?_
  rintro _ M2 ⟨rfl, hM2, hF2⟩
  refine x_icmp_eq 1377 dL_law_630 (fun _ => ?_) (fun h => absurd rfl h)
  exact next M2 _ (hC1.frc hF2) hM2 hI
set_option maxRecDepth 100000 in
set_option maxHeartbeats 4000000 in
theorem la_stand {Γ : Gx} {Ω : Om} {ret : Option FieldType} {sb n i : Nat} {xs : Nat → Int32} (hX : Scr Γ Ω sb n xs) (hi : i + 7 ≤ n) (next : ∀ (M : Mem) (σ : Sg), IC M σ → IM M σ → SgI σ → X Γ Ω RL cL_law 4 12 ret 1377 [some (.ref sb), some (.ref (Ω.2.2 0)), some (.ref (Ω.2.2 34)), some (.int (nI i))] [] M) {M : Mem} {σ : Sg} (hC : IC M σ) (hM : IM M σ) (hI : SgI σ) : X Γ Ω RL cL_law 4 12 ret 635 [some (.ref sb), some (.ref (Ω.2.2 0)), some (.ref (Ω.2.2 34)), some (.int (nI i))] [] M := by
  refine x_aload_n dL_law_635 rfl ?_
  refine x_arg (k := 1) hX hi dL_law_636 dL_law_637 dL_law_638 rfl dL_law_639 dL_law_640 (by decide) ?_
  refine x_callV (n := 1) (c_stand hC hI.1) dL_law_641 (q := 0) (ci := 10) (by decide) rfl (by decide) rfl (al4 (tb 677 (by decide +kernel) (by decide +kernel)) (tb 678 (by decide +kernel) (by decide +kernel)) (tb 679 (by decide +kernel) (by decide +kernel)) (tb 77 (by decide +kernel) (by decide +kernel))) (tb 680 (by decide +kernel) (by decide +kernel)) (by decide +kernel) (by decide) (by decide) rfl rfl (Nat.le_of_ble_eq_true rfl) ?_
  rintro _ M1 ⟨rfl, hC1, hF1⟩
  have hM1 := hM.keep hF1
  refine x_aload_n dL_law_644 rfl ?_
  refine x_arg (k := 1) hX hi dL_law_645 dL_law_646 dL_law_647 rfl dL_law_648 dL_law_649 (by decide) ?_
  refine x_callV (n := 1) (m_stand hM1 hI.1) dL_law_650 (q := 34) (ci := 11) (by decide) rfl (by decide) rfl (al4 (tb 1290 (by decide +kernel) (by decide +kernel)) (tb 1291 (by decide +kernel) (by decide +kernel)) (tb 1292 (by decide +kernel) (by decide +kernel)) (tb 89 (by decide +kernel) (by decide +kernel))) (tb 1293 (by decide +kernel) (by decide +kernel)) (by decide +kernel) (by decide) (by decide) rfl rfl (Nat.le_of_ble_eq_true rfl) ?_
  rintro _ M2 ⟨rfl, hM2, hF2⟩
  refine x_icmp_eq 1377 dL_law_653 (fun _ => ?_) (fun h => absurd rfl h)
  exact next M2 _ (hC1.frc hF2) hM2 hI
set_option maxRecDepth 100000 in
set_option maxHeartbeats 4000000 in
theorem la_ahead {Γ : Gx} {Ω : Om} {ret : Option FieldType} {sb n i : Nat} {xs : Nat → Int32} (hX : Scr Γ Ω sb n xs) (hi : i + 7 ≤ n) (next : ∀ (M : Mem) (σ : Sg), IC M σ → IM M σ → SgI σ → X Γ Ω RL cL_law 4 12 ret 1377 [some (.ref sb), some (.ref (Ω.2.2 0)), some (.ref (Ω.2.2 34)), some (.int (nI i))] [] M) {M : Mem} {σ : Sg} (hC : IC M σ) (hM : IM M σ) (hI : SgI σ) : X Γ Ω RL cL_law 4 12 ret 658 [some (.ref sb), some (.ref (Ω.2.2 0)), some (.ref (Ω.2.2 34)), some (.int (nI i))] [] M := by
  refine x_aload_n dL_law_658 rfl ?_
  refine x_arg (k := 1) hX hi dL_law_659 dL_law_660 dL_law_661 rfl dL_law_662 dL_law_663 (by decide) ?_
  refine x_arg (k := 2) hX hi dL_law_664 dL_law_665 dL_law_666 rfl dL_law_667 dL_law_668 (by decide) ?_
  refine x_callV (n := 2) (c_ahead hC hI.1) dL_law_669 (q := 0) (ci := 10) (by decide) rfl (by decide) rfl (al4 (tb 686 (by decide +kernel) (by decide +kernel)) (tb 687 (by decide +kernel) (by decide +kernel)) (tb 688 (by decide +kernel) (by decide +kernel)) (tb 77 (by decide +kernel) (by decide +kernel))) (tb 689 (by decide +kernel) (by decide +kernel)) (by decide +kernel) (by decide) (by decide) rfl rfl (Nat.le_of_ble_eq_true rfl) ?_
  rintro _ M1 ⟨rfl, hC1, hF1⟩
  have hM1 := hM.keep hF1
  refine x_aload_n dL_law_672 rfl ?_
  refine x_arg (k := 1) hX hi dL_law_673 dL_law_674 dL_law_675 rfl dL_law_676 dL_law_677 (by decide) ?_
  refine x_arg (k := 2) hX hi dL_law_678 dL_law_679 dL_law_680 rfl dL_law_681 dL_law_682 (by decide) ?_
  refine x_callV (n := 2) (m_ahead hM1 hI.1) dL_law_683 (q := 34) (ci := 11) (by decide) rfl (by decide) rfl (al4 (tb 1298 (by decide +kernel) (by decide +kernel)) (tb 1299 (by decide +kernel) (by decide +kernel)) (tb 1300 (by decide +kernel) (by decide +kernel)) (tb 89 (by decide +kernel) (by decide +kernel))) (tb 1301 (by decide +kernel) (by decide +kernel)) (by decide +kernel) (by decide) (by decide) rfl rfl (Nat.le_of_ble_eq_true rfl) ?_
  rintro _ M2 ⟨rfl, hM2, hF2⟩
  refine x_icmp_eq 1377 dL_law_686 (fun _ => ?_) (fun h => absurd rfl h)
  exact next M2 _ (hC1.frc hF2) hM2 hI
set_option maxRecDepth 100000 in
set_option maxHeartbeats 4000000 in
theorem la_strength {Γ : Gx} {Ω : Om} {ret : Option FieldType} {sb n i : Nat} {xs : Nat → Int32} (hX : Scr Γ Ω sb n xs) (hi : i + 7 ≤ n) (next : ∀ (M : Mem) (σ : Sg), IC M σ → IM M σ → SgI σ → X Γ Ω RL cL_law 4 12 ret 1377 [some (.ref sb), some (.ref (Ω.2.2 0)), some (.ref (Ω.2.2 34)), some (.int (nI i))] [] M) {M : Mem} {σ : Sg} (hC : IC M σ) (hM : IM M σ) (hI : SgI σ) : X Γ Ω RL cL_law 4 12 ret 691 [some (.ref sb), some (.ref (Ω.2.2 0)), some (.ref (Ω.2.2 34)), some (.int (nI i))] [] M := by
  refine x_aload_n dL_law_691 rfl ?_
  refine x_arg (k := 1) hX hi dL_law_692 dL_law_693 dL_law_694 rfl dL_law_695 dL_law_696 (by decide) ?_
  refine x_arg (k := 2) hX hi dL_law_697 dL_law_698 dL_law_699 rfl dL_law_700 dL_law_701 (by decide) ?_
  refine x_callV (n := 2) (c_strength hC hI.1) dL_law_702 (q := 0) (ci := 10) (by decide) rfl (by decide) rfl (al4 (tb 696 (by decide +kernel) (by decide +kernel)) (tb 697 (by decide +kernel) (by decide +kernel)) (tb 698 (by decide +kernel) (by decide +kernel)) (tb 77 (by decide +kernel) (by decide +kernel))) (tb 699 (by decide +kernel) (by decide +kernel)) (by decide +kernel) (by decide) (by decide) rfl rfl (Nat.le_of_ble_eq_true rfl) ?_
  rintro _ M1 ⟨rfl, hC1, hF1⟩
  have hM1 := hM.keep hF1
  refine x_aload_n dL_law_705 rfl ?_
  refine x_arg (k := 1) hX hi dL_law_706 dL_law_707 dL_law_708 rfl dL_law_709 dL_law_710 (by decide) ?_
  refine x_arg (k := 2) hX hi dL_law_711 dL_law_712 dL_law_713 rfl dL_law_714 dL_law_715 (by decide) ?_
  refine x_callV (n := 2) (m_strength hM1 hI.1) dL_law_716 (q := 34) (ci := 11) (by decide) rfl (by decide) rfl (al4 (tb 1315 (by decide +kernel) (by decide +kernel)) (tb 1316 (by decide +kernel) (by decide +kernel)) (tb 1317 (by decide +kernel) (by decide +kernel)) (tb 89 (by decide +kernel) (by decide +kernel))) (tb 1318 (by decide +kernel) (by decide +kernel)) (by decide +kernel) (by decide) (by decide) rfl rfl (Nat.le_of_ble_eq_true rfl) ?_
  rintro _ M2 ⟨rfl, hM2, hF2⟩
  refine x_icmp_eq 1377 dL_law_719 (fun _ => ?_) (fun h => absurd rfl h)
  exact next M2 _ (hC1.frc hF2) hM2 hI
set_option maxRecDepth 100000 in
set_option maxHeartbeats 4000000 in
theorem la_above {Γ : Gx} {Ω : Om} {ret : Option FieldType} {sb n i : Nat} {xs : Nat → Int32} (hX : Scr Γ Ω sb n xs) (hi : i + 7 ≤ n) (next : ∀ (M : Mem) (σ : Sg), IC M σ → IM M σ → SgI σ → X Γ Ω RL cL_law 4 12 ret 1377 [some (.ref sb), some (.ref (Ω.2.2 0)), some (.ref (Ω.2.2 34)), some (.int (nI i))] [] M) {M : Mem} {σ : Sg} (hC : IC M σ) (hM : IM M σ) (hI : SgI σ) : X Γ Ω RL cL_law 4 12 ret 724 [some (.ref sb), some (.ref (Ω.2.2 0)), some (.ref (Ω.2.2 34)), some (.int (nI i))] [] M := by
  refine x_aload_n dL_law_724 rfl ?_
  refine x_arg (k := 1) hX hi dL_law_725 dL_law_726 dL_law_727 rfl dL_law_728 dL_law_729 (by decide) ?_
  refine x_callV (n := 1) (c_above hC hI.1) dL_law_730 (q := 0) (ci := 10) (by decide) rfl (by decide) rfl (al4 (tb 700 (by decide +kernel) (by decide +kernel)) (tb 701 (by decide +kernel) (by decide +kernel)) (tb 702 (by decide +kernel) (by decide +kernel)) (tb 77 (by decide +kernel) (by decide +kernel))) (tb 703 (by decide +kernel) (by decide +kernel)) (by decide +kernel) (by decide) (by decide) rfl rfl (Nat.le_of_ble_eq_true rfl) ?_
  rintro _ M1 ⟨rfl, hC1, hF1⟩
  have hM1 := hM.keep hF1
  refine x_aload_n dL_law_733 rfl ?_
  refine x_arg (k := 1) hX hi dL_law_734 dL_law_735 dL_law_736 rfl dL_law_737 dL_law_738 (by decide) ?_
  refine x_callV (n := 1) (m_above hM1 hI.1) dL_law_739 (q := 34) (ci := 11) (by decide) rfl (by decide) rfl (al4 (tb 1319 (by decide +kernel) (by decide +kernel)) (tb 1320 (by decide +kernel) (by decide +kernel)) (tb 1321 (by decide +kernel) (by decide +kernel)) (tb 89 (by decide +kernel) (by decide +kernel))) (tb 1322 (by decide +kernel) (by decide +kernel)) (by decide +kernel) (by decide) (by decide) rfl rfl (Nat.le_of_ble_eq_true rfl) ?_
  rintro _ M2 ⟨rfl, hM2, hF2⟩
  refine x_icmp_eq 1377 dL_law_742 (fun _ => ?_) (fun h => absurd rfl h)
  exact next M2 _ (hC1.frc hF2) hM2 hI
