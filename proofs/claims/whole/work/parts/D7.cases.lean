/-! ===== the law: its cases ===== -/
theorem w_ix {i j Ls : Nat} (h : i + 6 ≤ Ls) (hL : Ls ≤ 3072) (hj : j < 6) : w32 ((i : Int) + (j : Int)) = ((i + j : Nat) : Int) := by rw [w32_of (by omega) (by omega)]; omega
abbrev ExL (bs Ls : Nat) (xs : Nat → Int32) (Γ : Gm) (pc i : Nat) (st : List Vl) (m : Mem) : Prop := Ex bs Ls xs Γ 1312 ML (600000, 7302250, 223, 14404) pc [qv bs, rv 0, rv 211, iv (i : Int)] st gF m
theorem lwC_0 {bs Ls i : Nat} {xs : Nat → Int32} {Γ : Gm} {m : Mem} (hLs : Ls ≤ 3072) (h6 : i + 6 ≤ Ls) (h : SR m) (kk : ∀ m', SR m' → ExL bs Ls xs Γ 1767 i [] m') : ExL bs Ls xs Γ 244 i [] m := by
  refine Ex.aload_n (q := 245) dL_law_244 rfl rfl ?_
  refine Ex.aloadq (q := 246) dL_law_245 rfl rfl ?_
  refine Ex.iload_n (q := 247) dL_law_246 rfl rfl ?_
  refine Ex.iconst (q := 248) dL_law_247 ki_1 rfl ?_
  refine Ex.iadd (q := 249) dL_law_248 rfl ?_
  refine Ex.sld (q := 250) (i := i + 1) dL_law_249 (w_ix (j := 1) h6 hLs (by decide)) (by omega) hLs rfl ?_
  refine Ex.aloadq (q := 251) dL_law_250 rfl rfl ?_
  refine Ex.iload_n (q := 252) dL_law_251 rfl rfl ?_
  refine Ex.iconst (q := 253) dL_law_252 ki_2 rfl ?_
  refine Ex.iadd (q := 254) dL_law_253 rfl ?_
  refine Ex.sld (q := 255) (i := i + 2) dL_law_254 (w_ix (j := 2) h6 hLs (by decide)) (by omega) hLs rfl ?_
  refine Ex.aloadq (q := 256) dL_law_255 rfl rfl ?_
  refine Ex.iload_n (q := 257) dL_law_256 rfl rfl ?_
  refine Ex.iconst (q := 258) dL_law_257 ki_3 rfl ?_
  refine Ex.iadd (q := 259) dL_law_258 rfl ?_
  refine Ex.sld (q := 260) (i := i + 3) dL_law_259 (w_ix (j := 3) h6 hLs (by decide)) (by omega) hLs rfl ?_
  refine Ex.aloadq (q := 261) dL_law_260 rfl rfl ?_
  refine Ex.iload_n (q := 262) dL_law_261 rfl rfl ?_
  refine Ex.iconst (q := 263) dL_law_262 ki_4 rfl ?_
  refine Ex.iadd (q := 264) dL_law_263 rfl ?_
  refine Ex.sld (q := 265) (i := i + 4) dL_law_264 (w_ix (j := 4) h6 hLs (by decide)) (by omega) hLs rfl ?_
  refine Ex.aloadq (q := 266) dL_law_265 rfl rfl ?_
  refine Ex.iload_n (q := 267) dL_law_266 rfl rfl ?_
  refine Ex.iconst (q := 268) dL_law_267 ki_5 rfl ?_
  refine Ex.iadd (q := 269) dL_law_268 rfl ?_
  refine Ex.sld (q := 270) (i := i + 5) dL_law_269 (w_ix (j := 5) h6 hLs (by decide)) (by omega) hLs rfl ?_
  refine Ex.callV (q := 273) (M' := MX11_feed) (d' := 30) (a := 0) (ci := 11) (As := [iv (xs (i + 1)).toInt, iv (xs (i + 2)).toInt, iv (xs (i + 3)).toInt, iv (xs (i + 4)).toInt, iv (xs (i + 5)).toInt]) (rest := []) dL_law_270 mlL_13 moX11_feed mvX11_feed k0 rfl (by decide) rfl rfl (Nat.le_of_ble_eq_true rfl) (by decide) (Nat.le_of_ble_eq_true rfl) ⟨by decide, by decide⟩ (kq_feed (d := 0) ((xs (i + 1)).toInt) ((xs (i + 2)).toInt) ((xs (i + 3)).toInt) ((xs (i + 4)).toInt) ((xs (i + 5)).toInt) h) (fun v g' m' h => by rw [h.1]) rfl (fun v1 g1 m1 t1 h1 => ?_)
  obtain ⟨rfl, h1⟩ := h1
  refine Ex.psh1 t1 ?_
  refine Ex.aload_n (q := 274) dL_law_273 rfl rfl ?_
  refine Ex.aloadq (q := 275) dL_law_274 rfl rfl ?_
  refine Ex.iload_n (q := 276) dL_law_275 rfl rfl ?_
  refine Ex.iconst (q := 277) dL_law_276 ki_1 rfl ?_
  refine Ex.iadd (q := 278) dL_law_277 rfl ?_
  refine Ex.sld (q := 279) (i := i + 1) dL_law_278 (w_ix (j := 1) h6 hLs (by decide)) (by omega) hLs rfl ?_
  refine Ex.aloadq (q := 280) dL_law_279 rfl rfl ?_
  refine Ex.iload_n (q := 281) dL_law_280 rfl rfl ?_
  refine Ex.iconst (q := 282) dL_law_281 ki_2 rfl ?_
  refine Ex.iadd (q := 283) dL_law_282 rfl ?_
  refine Ex.sld (q := 284) (i := i + 2) dL_law_283 (w_ix (j := 2) h6 hLs (by decide)) (by omega) hLs rfl ?_
  refine Ex.aloadq (q := 285) dL_law_284 rfl rfl ?_
  refine Ex.iload_n (q := 286) dL_law_285 rfl rfl ?_
  refine Ex.iconst (q := 287) dL_law_286 ki_3 rfl ?_
  refine Ex.iadd (q := 288) dL_law_287 rfl ?_
  refine Ex.sld (q := 289) (i := i + 3) dL_law_288 (w_ix (j := 3) h6 hLs (by decide)) (by omega) hLs rfl ?_
  refine Ex.aloadq (q := 290) dL_law_289 rfl rfl ?_
  refine Ex.iload_n (q := 291) dL_law_290 rfl rfl ?_
  refine Ex.iconst (q := 292) dL_law_291 ki_4 rfl ?_
  refine Ex.iadd (q := 293) dL_law_292 rfl ?_
  refine Ex.sld (q := 294) (i := i + 4) dL_law_293 (w_ix (j := 4) h6 hLs (by decide)) (by omega) hLs rfl ?_
  refine Ex.aloadq (q := 295) dL_law_294 rfl rfl ?_
  refine Ex.iload_n (q := 296) dL_law_295 rfl rfl ?_
  refine Ex.iconst (q := 297) dL_law_296 ki_5 rfl ?_
  refine Ex.iadd (q := 298) dL_law_297 rfl ?_
  refine Ex.sld (q := 299) (i := i + 5) dL_law_298 (w_ix (j := 5) h6 hLs (by decide)) (by omega) hLs rfl ?_
  refine Ex.callV (q := 302) (M' := MX12_feed) (d' := 30) (a := 211) (ci := 12) (As := [iv (xs (i + 1)).toInt, iv (xs (i + 2)).toInt, iv (xs (i + 3)).toInt, iv (xs (i + 4)).toInt, iv (xs (i + 5)).toInt]) (rest := [iv v1.2]) dL_law_299 mlL_17 moX12_feed mvX12_feed k211 rfl (by decide) rfl rfl (Nat.le_of_ble_eq_true rfl) (by decide) (Nat.le_of_ble_eq_true rfl) ⟨by decide, by decide⟩ h1 (fun v g' m' h => by rw [h.1]) rfl (fun v2 g2 m2 t2 h2 => ?_)
  obtain ⟨rfl, h2⟩ := h2
  refine Ex.psh1 t2 ?_
  exact Ex.icmp_eq (tgt := 1767) (q := 305) dL_law_302 rfl rfl (fun _ => kk _ h2.2) (fun z => absurd h2.1.symm z)
theorem lwC_1 {bs Ls i : Nat} {xs : Nat → Int32} {Γ : Gm} {m : Mem} (hLs : Ls ≤ 3072) (h6 : i + 6 ≤ Ls) (h : SR m) (kk : ∀ m', SR m' → ExL bs Ls xs Γ 1767 i [] m') : ExL bs Ls xs Γ 307 i [] m := by
  refine Ex.aload_n (q := 308) dL_law_307 rfl rfl ?_
  refine Ex.aloadq (q := 309) dL_law_308 rfl rfl ?_
  refine Ex.iload_n (q := 310) dL_law_309 rfl rfl ?_
  refine Ex.iconst (q := 311) dL_law_310 ki_1 rfl ?_
  refine Ex.iadd (q := 312) dL_law_311 rfl ?_
  refine Ex.sld (q := 313) (i := i + 1) dL_law_312 (w_ix (j := 1) h6 hLs (by decide)) (by omega) hLs rfl ?_
  refine Ex.callV (q := 316) (M' := MX11_house) (d' := 30) (a := 0) (ci := 11) (As := [iv (xs (i + 1)).toInt]) (rest := []) dL_law_313 mlL_18 moX11_house mvX11_house k0 rfl (by decide) rfl rfl (Nat.le_of_ble_eq_true rfl) (by decide) (Nat.le_of_ble_eq_true rfl) ⟨by decide, by decide⟩ (kq_house (d := 0) ((xs (i + 1)).toInt) h) (fun v g' m' h => by rw [h.1]) rfl (fun v1 g1 m1 t1 h1 => ?_)
  obtain ⟨rfl, h1⟩ := h1
  refine Ex.psh1 t1 ?_
  refine Ex.aload_n (q := 317) dL_law_316 rfl rfl ?_
  refine Ex.aloadq (q := 318) dL_law_317 rfl rfl ?_
  refine Ex.iload_n (q := 319) dL_law_318 rfl rfl ?_
  refine Ex.iconst (q := 320) dL_law_319 ki_1 rfl ?_
  refine Ex.iadd (q := 321) dL_law_320 rfl ?_
  refine Ex.sld (q := 322) (i := i + 1) dL_law_321 (w_ix (j := 1) h6 hLs (by decide)) (by omega) hLs rfl ?_
  refine Ex.callV (q := 325) (M' := MX12_house) (d' := 30) (a := 211) (ci := 12) (As := [iv (xs (i + 1)).toInt]) (rest := [iv v1.2]) dL_law_322 mlL_22 moX12_house mvX12_house k211 rfl (by decide) rfl rfl (Nat.le_of_ble_eq_true rfl) (by decide) (Nat.le_of_ble_eq_true rfl) ⟨by decide, by decide⟩ h1 (fun v g' m' h => by rw [h.1]) rfl (fun v2 g2 m2 t2 h2 => ?_)
  obtain ⟨rfl, h2⟩ := h2
  refine Ex.psh1 t2 ?_
  exact Ex.icmp_eq (tgt := 1767) (q := 328) dL_law_325 rfl rfl (fun _ => kk _ h2.2) (fun z => absurd h2.1.symm z)
theorem lwC_2 {bs Ls i : Nat} {xs : Nat → Int32} {Γ : Gm} {m : Mem} (hLs : Ls ≤ 3072) (h6 : i + 6 ≤ Ls) (h : SR m) (kk : ∀ m', SR m' → ExL bs Ls xs Γ 1767 i [] m') : ExL bs Ls xs Γ 330 i [] m := by
  refine Ex.aload_n (q := 331) dL_law_330 rfl rfl ?_
  refine Ex.aloadq (q := 332) dL_law_331 rfl rfl ?_
  refine Ex.iload_n (q := 333) dL_law_332 rfl rfl ?_
  refine Ex.iconst (q := 334) dL_law_333 ki_1 rfl ?_
  refine Ex.iadd (q := 335) dL_law_334 rfl ?_
  refine Ex.sld (q := 336) (i := i + 1) dL_law_335 (w_ix (j := 1) h6 hLs (by decide)) (by omega) hLs rfl ?_
  refine Ex.callV (q := 339) (M' := MX11_fault) (d' := 30) (a := 0) (ci := 11) (As := [iv (xs (i + 1)).toInt]) (rest := []) dL_law_336 mlL_23 moX11_fault mvX11_fault k0 rfl (by decide) rfl rfl (Nat.le_of_ble_eq_true rfl) (by decide) (Nat.le_of_ble_eq_true rfl) ⟨by decide, by decide⟩ (kq_fault (d := 0) ((xs (i + 1)).toInt) h) (fun v g' m' h => by rw [h.1]) rfl (fun v1 g1 m1 t1 h1 => ?_)
  obtain ⟨rfl, h1⟩ := h1
  refine Ex.psh1 t1 ?_
  refine Ex.aload_n (q := 340) dL_law_339 rfl rfl ?_
  refine Ex.aloadq (q := 341) dL_law_340 rfl rfl ?_
  refine Ex.iload_n (q := 342) dL_law_341 rfl rfl ?_
  refine Ex.iconst (q := 343) dL_law_342 ki_1 rfl ?_
  refine Ex.iadd (q := 344) dL_law_343 rfl ?_
  refine Ex.sld (q := 345) (i := i + 1) dL_law_344 (w_ix (j := 1) h6 hLs (by decide)) (by omega) hLs rfl ?_
  refine Ex.callV (q := 348) (M' := MX12_fault) (d' := 30) (a := 211) (ci := 12) (As := [iv (xs (i + 1)).toInt]) (rest := [iv v1.2]) dL_law_345 mlL_26 moX12_fault mvX12_fault k211 rfl (by decide) rfl rfl (Nat.le_of_ble_eq_true rfl) (by decide) (Nat.le_of_ble_eq_true rfl) ⟨by decide, by decide⟩ h1 (fun v g' m' h => by rw [h.1]) rfl (fun v2 g2 m2 t2 h2 => ?_)
  obtain ⟨rfl, h2⟩ := h2
  refine Ex.psh1 t2 ?_
  exact Ex.icmp_eq (tgt := 1767) (q := 351) dL_law_348 rfl rfl (fun _ => kk _ h2.2) (fun z => absurd h2.1.symm z)
theorem lwC_3 {bs Ls i : Nat} {xs : Nat → Int32} {Γ : Gm} {m : Mem} (hLs : Ls ≤ 3072) (h6 : i + 6 ≤ Ls) (h : SR m) (kk : ∀ m', SR m' → ExL bs Ls xs Γ 1767 i [] m') : ExL bs Ls xs Γ 353 i [] m := by
  refine Ex.aload_n (q := 354) dL_law_353 rfl rfl ?_
  refine Ex.aloadq (q := 355) dL_law_354 rfl rfl ?_
  refine Ex.iload_n (q := 356) dL_law_355 rfl rfl ?_
  refine Ex.iconst (q := 357) dL_law_356 ki_1 rfl ?_
  refine Ex.iadd (q := 358) dL_law_357 rfl ?_
  refine Ex.sld (q := 359) (i := i + 1) dL_law_358 (w_ix (j := 1) h6 hLs (by decide)) (by omega) hLs rfl ?_
  refine Ex.aloadq (q := 360) dL_law_359 rfl rfl ?_
  refine Ex.iload_n (q := 361) dL_law_360 rfl rfl ?_
  refine Ex.iconst (q := 362) dL_law_361 ki_2 rfl ?_
  refine Ex.iadd (q := 363) dL_law_362 rfl ?_
  refine Ex.sld (q := 364) (i := i + 2) dL_law_363 (w_ix (j := 2) h6 hLs (by decide)) (by omega) hLs rfl ?_
  refine Ex.callV (q := 367) (M' := MX11_lift) (d' := 30) (a := 0) (ci := 11) (As := [iv (xs (i + 1)).toInt, iv (xs (i + 2)).toInt]) (rest := []) dL_law_364 mlL_27 moX11_lift mvX11_lift k0 rfl (by decide) rfl rfl (Nat.le_of_ble_eq_true rfl) (by decide) (Nat.le_of_ble_eq_true rfl) ⟨by decide, by decide⟩ (kq_lift (d := 0) ((xs (i + 1)).toInt) ((xs (i + 2)).toInt) h) (fun v g' m' h => by rw [h.1]) rfl (fun v1 g1 m1 t1 h1 => ?_)
  obtain ⟨rfl, h1⟩ := h1
  refine Ex.psh1 t1 ?_
  refine Ex.aload_n (q := 368) dL_law_367 rfl rfl ?_
  refine Ex.aloadq (q := 369) dL_law_368 rfl rfl ?_
  refine Ex.iload_n (q := 370) dL_law_369 rfl rfl ?_
  refine Ex.iconst (q := 371) dL_law_370 ki_1 rfl ?_
  refine Ex.iadd (q := 372) dL_law_371 rfl ?_
  refine Ex.sld (q := 373) (i := i + 1) dL_law_372 (w_ix (j := 1) h6 hLs (by decide)) (by omega) hLs rfl ?_
  refine Ex.aloadq (q := 374) dL_law_373 rfl rfl ?_
  refine Ex.iload_n (q := 375) dL_law_374 rfl rfl ?_
  refine Ex.iconst (q := 376) dL_law_375 ki_2 rfl ?_
  refine Ex.iadd (q := 377) dL_law_376 rfl ?_
  refine Ex.sld (q := 378) (i := i + 2) dL_law_377 (w_ix (j := 2) h6 hLs (by decide)) (by omega) hLs rfl ?_
  refine Ex.callV (q := 381) (M' := MX12_lift) (d' := 30) (a := 211) (ci := 12) (As := [iv (xs (i + 1)).toInt, iv (xs (i + 2)).toInt]) (rest := [iv v1.2]) dL_law_378 mlL_31 moX12_lift mvX12_lift k211 rfl (by decide) rfl rfl (Nat.le_of_ble_eq_true rfl) (by decide) (Nat.le_of_ble_eq_true rfl) ⟨by decide, by decide⟩ h1 (fun v g' m' h => by rw [h.1]) rfl (fun v2 g2 m2 t2 h2 => ?_)
  obtain ⟨rfl, h2⟩ := h2
  refine Ex.psh1 t2 ?_
  exact Ex.icmp_eq (tgt := 1767) (q := 384) dL_law_381 rfl rfl (fun _ => kk _ h2.2) (fun z => absurd h2.1.symm z)
theorem lwC_4 {bs Ls i : Nat} {xs : Nat → Int32} {Γ : Gm} {m : Mem} (hLs : Ls ≤ 3072) (h6 : i + 6 ≤ Ls) (h : SR m) (kk : ∀ m', SR m' → ExL bs Ls xs Γ 1767 i [] m') : ExL bs Ls xs Γ 386 i [] m := by
  refine Ex.aload_n (q := 387) dL_law_386 rfl rfl ?_
  refine Ex.aloadq (q := 388) dL_law_387 rfl rfl ?_
  refine Ex.iload_n (q := 389) dL_law_388 rfl rfl ?_
  refine Ex.iconst (q := 390) dL_law_389 ki_1 rfl ?_
  refine Ex.iadd (q := 391) dL_law_390 rfl ?_
  refine Ex.sld (q := 392) (i := i + 1) dL_law_391 (w_ix (j := 1) h6 hLs (by decide)) (by omega) hLs rfl ?_
  refine Ex.aloadq (q := 393) dL_law_392 rfl rfl ?_
  refine Ex.iload_n (q := 394) dL_law_393 rfl rfl ?_
  refine Ex.iconst (q := 395) dL_law_394 ki_2 rfl ?_
  refine Ex.iadd (q := 396) dL_law_395 rfl ?_
  refine Ex.sld (q := 397) (i := i + 2) dL_law_396 (w_ix (j := 2) h6 hLs (by decide)) (by omega) hLs rfl ?_
  refine Ex.callV (q := 400) (M' := MX11_person) (d' := 30) (a := 0) (ci := 11) (As := [iv (xs (i + 1)).toInt, iv (xs (i + 2)).toInt]) (rest := []) dL_law_397 mlL_32 moX11_person mvX11_person k0 rfl (by decide) rfl rfl (Nat.le_of_ble_eq_true rfl) (by decide) (Nat.le_of_ble_eq_true rfl) ⟨by decide, by decide⟩ (kq_person (d := 0) ((xs (i + 1)).toInt) ((xs (i + 2)).toInt) h) (fun v g' m' h => by rw [h.1]) rfl (fun v1 g1 m1 t1 h1 => ?_)
  obtain ⟨rfl, h1⟩ := h1
  refine Ex.psh1 t1 ?_
  refine Ex.aload_n (q := 401) dL_law_400 rfl rfl ?_
  refine Ex.aloadq (q := 402) dL_law_401 rfl rfl ?_
  refine Ex.iload_n (q := 403) dL_law_402 rfl rfl ?_
  refine Ex.iconst (q := 404) dL_law_403 ki_1 rfl ?_
  refine Ex.iadd (q := 405) dL_law_404 rfl ?_
  refine Ex.sld (q := 406) (i := i + 1) dL_law_405 (w_ix (j := 1) h6 hLs (by decide)) (by omega) hLs rfl ?_
  refine Ex.aloadq (q := 407) dL_law_406 rfl rfl ?_
  refine Ex.iload_n (q := 408) dL_law_407 rfl rfl ?_
  refine Ex.iconst (q := 409) dL_law_408 ki_2 rfl ?_
  refine Ex.iadd (q := 410) dL_law_409 rfl ?_
  refine Ex.sld (q := 411) (i := i + 2) dL_law_410 (w_ix (j := 2) h6 hLs (by decide)) (by omega) hLs rfl ?_
  refine Ex.callV (q := 414) (M' := MX12_person) (d' := 30) (a := 211) (ci := 12) (As := [iv (xs (i + 1)).toInt, iv (xs (i + 2)).toInt]) (rest := [iv v1.2]) dL_law_411 mlL_35 moX12_person mvX12_person k211 rfl (by decide) rfl rfl (Nat.le_of_ble_eq_true rfl) (by decide) (Nat.le_of_ble_eq_true rfl) ⟨by decide, by decide⟩ h1 (fun v g' m' h => by rw [h.1]) rfl (fun v2 g2 m2 t2 h2 => ?_)
  obtain ⟨rfl, h2⟩ := h2
  refine Ex.psh1 t2 ?_
  exact Ex.icmp_eq (tgt := 1767) (q := 417) dL_law_414 rfl rfl (fun _ => kk _ h2.2) (fun z => absurd h2.1.symm z)
theorem lwC_5 {bs Ls i : Nat} {xs : Nat → Int32} {Γ : Gm} {m : Mem} (hLs : Ls ≤ 3072) (h6 : i + 6 ≤ Ls) (h : SR m) (kk : ∀ m', SR m' → ExL bs Ls xs Γ 1767 i [] m') : ExL bs Ls xs Γ 419 i [] m := by
  refine Ex.aload_n (q := 420) dL_law_419 rfl rfl ?_
  refine Ex.aloadq (q := 421) dL_law_420 rfl rfl ?_
  refine Ex.iload_n (q := 422) dL_law_421 rfl rfl ?_
  refine Ex.iconst (q := 423) dL_law_422 ki_1 rfl ?_
  refine Ex.iadd (q := 424) dL_law_423 rfl ?_
  refine Ex.sld (q := 425) (i := i + 1) dL_law_424 (w_ix (j := 1) h6 hLs (by decide)) (by omega) hLs rfl ?_
  refine Ex.aloadq (q := 426) dL_law_425 rfl rfl ?_
  refine Ex.iload_n (q := 427) dL_law_426 rfl rfl ?_
  refine Ex.iconst (q := 428) dL_law_427 ki_2 rfl ?_
  refine Ex.iadd (q := 429) dL_law_428 rfl ?_
  refine Ex.sld (q := 430) (i := i + 2) dL_law_429 (w_ix (j := 2) h6 hLs (by decide)) (by omega) hLs rfl ?_
  refine Ex.aloadq (q := 431) dL_law_430 rfl rfl ?_
  refine Ex.iload_n (q := 432) dL_law_431 rfl rfl ?_
  refine Ex.iconst (q := 433) dL_law_432 ki_3 rfl ?_
  refine Ex.iadd (q := 434) dL_law_433 rfl ?_
  refine Ex.sld (q := 435) (i := i + 3) dL_law_434 (w_ix (j := 3) h6 hLs (by decide)) (by omega) hLs rfl ?_
  refine Ex.callV (q := 438) (M' := MX11_foot) (d' := 30) (a := 0) (ci := 11) (As := [iv (xs (i + 1)).toInt, iv (xs (i + 2)).toInt, iv (xs (i + 3)).toInt]) (rest := []) dL_law_435 mlL_36 moX11_foot mvX11_foot k0 rfl (by decide) rfl rfl (Nat.le_of_ble_eq_true rfl) (by decide) (Nat.le_of_ble_eq_true rfl) ⟨by decide, by decide⟩ (kq_foot (d := 0) ((xs (i + 1)).toInt) ((xs (i + 2)).toInt) ((xs (i + 3)).toInt) h) (fun v g' m' h => by rw [h.1]) rfl (fun v1 g1 m1 t1 h1 => ?_)
  obtain ⟨rfl, h1⟩ := h1
  refine Ex.psh1 t1 ?_
  refine Ex.aload_n (q := 439) dL_law_438 rfl rfl ?_
  refine Ex.aloadq (q := 440) dL_law_439 rfl rfl ?_
  refine Ex.iload_n (q := 441) dL_law_440 rfl rfl ?_
  refine Ex.iconst (q := 442) dL_law_441 ki_1 rfl ?_
  refine Ex.iadd (q := 443) dL_law_442 rfl ?_
  refine Ex.sld (q := 444) (i := i + 1) dL_law_443 (w_ix (j := 1) h6 hLs (by decide)) (by omega) hLs rfl ?_
  refine Ex.aloadq (q := 445) dL_law_444 rfl rfl ?_
  refine Ex.iload_n (q := 446) dL_law_445 rfl rfl ?_
  refine Ex.iconst (q := 447) dL_law_446 ki_2 rfl ?_
  refine Ex.iadd (q := 448) dL_law_447 rfl ?_
  refine Ex.sld (q := 449) (i := i + 2) dL_law_448 (w_ix (j := 2) h6 hLs (by decide)) (by omega) hLs rfl ?_
  refine Ex.aloadq (q := 450) dL_law_449 rfl rfl ?_
  refine Ex.iload_n (q := 451) dL_law_450 rfl rfl ?_
  refine Ex.iconst (q := 452) dL_law_451 ki_3 rfl ?_
  refine Ex.iadd (q := 453) dL_law_452 rfl ?_
  refine Ex.sld (q := 454) (i := i + 3) dL_law_453 (w_ix (j := 3) h6 hLs (by decide)) (by omega) hLs rfl ?_
  refine Ex.callV (q := 457) (M' := MX12_foot) (d' := 30) (a := 211) (ci := 12) (As := [iv (xs (i + 1)).toInt, iv (xs (i + 2)).toInt, iv (xs (i + 3)).toInt]) (rest := [iv v1.2]) dL_law_454 mlL_40 moX12_foot mvX12_foot k211 rfl (by decide) rfl rfl (Nat.le_of_ble_eq_true rfl) (by decide) (Nat.le_of_ble_eq_true rfl) ⟨by decide, by decide⟩ h1 (fun v g' m' h => by rw [h.1]) rfl (fun v2 g2 m2 t2 h2 => ?_)
  obtain ⟨rfl, h2⟩ := h2
  refine Ex.psh1 t2 ?_
  exact Ex.icmp_eq (tgt := 1767) (q := 460) dL_law_457 rfl rfl (fun _ => kk _ h2.2) (fun z => absurd h2.1.symm z)
theorem lwC_6 {bs Ls i : Nat} {xs : Nat → Int32} {Γ : Gm} {m : Mem} (hLs : Ls ≤ 3072) (h6 : i + 6 ≤ Ls) (h : SR m) (kk : ∀ m', SR m' → ExL bs Ls xs Γ 1767 i [] m') : ExL bs Ls xs Γ 462 i [] m := by
  refine Ex.aload_n (q := 463) dL_law_462 rfl rfl ?_
  refine Ex.aloadq (q := 464) dL_law_463 rfl rfl ?_
  refine Ex.iload_n (q := 465) dL_law_464 rfl rfl ?_
  refine Ex.iconst (q := 466) dL_law_465 ki_1 rfl ?_
  refine Ex.iadd (q := 467) dL_law_466 rfl ?_
  refine Ex.sld (q := 468) (i := i + 1) dL_law_467 (w_ix (j := 1) h6 hLs (by decide)) (by omega) hLs rfl ?_
  refine Ex.aloadq (q := 469) dL_law_468 rfl rfl ?_
  refine Ex.iload_n (q := 470) dL_law_469 rfl rfl ?_
  refine Ex.iconst (q := 471) dL_law_470 ki_2 rfl ?_
  refine Ex.iadd (q := 472) dL_law_471 rfl ?_
  refine Ex.sld (q := 473) (i := i + 2) dL_law_472 (w_ix (j := 2) h6 hLs (by decide)) (by omega) hLs rfl ?_
  refine Ex.aloadq (q := 474) dL_law_473 rfl rfl ?_
  refine Ex.iload_n (q := 475) dL_law_474 rfl rfl ?_
  refine Ex.iconst (q := 476) dL_law_475 ki_3 rfl ?_
  refine Ex.iadd (q := 477) dL_law_476 rfl ?_
  refine Ex.sld (q := 478) (i := i + 3) dL_law_477 (w_ix (j := 3) h6 hLs (by decide)) (by omega) hLs rfl ?_
  refine Ex.callV (q := 481) (M' := MX11_stop) (d' := 30) (a := 0) (ci := 11) (As := [iv (xs (i + 1)).toInt, iv (xs (i + 2)).toInt, iv (xs (i + 3)).toInt]) (rest := []) dL_law_478 mlL_41 moX11_stop mvX11_stop k0 rfl (by decide) rfl rfl (Nat.le_of_ble_eq_true rfl) (by decide) (Nat.le_of_ble_eq_true rfl) ⟨by decide, by decide⟩ (kq_stop (d := 0) ((xs (i + 1)).toInt) ((xs (i + 2)).toInt) ((xs (i + 3)).toInt) h) (fun v g' m' h => by rw [h.1]) rfl (fun v1 g1 m1 t1 h1 => ?_)
  obtain ⟨rfl, h1⟩ := h1
  refine Ex.psh1 t1 ?_
  refine Ex.aload_n (q := 482) dL_law_481 rfl rfl ?_
  refine Ex.aloadq (q := 483) dL_law_482 rfl rfl ?_
  refine Ex.iload_n (q := 484) dL_law_483 rfl rfl ?_
  refine Ex.iconst (q := 485) dL_law_484 ki_1 rfl ?_
  refine Ex.iadd (q := 486) dL_law_485 rfl ?_
  refine Ex.sld (q := 487) (i := i + 1) dL_law_486 (w_ix (j := 1) h6 hLs (by decide)) (by omega) hLs rfl ?_
  refine Ex.aloadq (q := 488) dL_law_487 rfl rfl ?_
  refine Ex.iload_n (q := 489) dL_law_488 rfl rfl ?_
  refine Ex.iconst (q := 490) dL_law_489 ki_2 rfl ?_
  refine Ex.iadd (q := 491) dL_law_490 rfl ?_
  refine Ex.sld (q := 492) (i := i + 2) dL_law_491 (w_ix (j := 2) h6 hLs (by decide)) (by omega) hLs rfl ?_
  refine Ex.aloadq (q := 493) dL_law_492 rfl rfl ?_
  refine Ex.iload_n (q := 494) dL_law_493 rfl rfl ?_
  refine Ex.iconst (q := 495) dL_law_494 ki_3 rfl ?_
  refine Ex.iadd (q := 496) dL_law_495 rfl ?_
  refine Ex.sld (q := 497) (i := i + 3) dL_law_496 (w_ix (j := 3) h6 hLs (by decide)) (by omega) hLs rfl ?_
  refine Ex.callV (q := 500) (M' := MX12_stop) (d' := 30) (a := 211) (ci := 12) (As := [iv (xs (i + 1)).toInt, iv (xs (i + 2)).toInt, iv (xs (i + 3)).toInt]) (rest := [iv v1.2]) dL_law_497 mlL_44 moX12_stop mvX12_stop k211 rfl (by decide) rfl rfl (Nat.le_of_ble_eq_true rfl) (by decide) (Nat.le_of_ble_eq_true rfl) ⟨by decide, by decide⟩ h1 (fun v g' m' h => by rw [h.1]) rfl (fun v2 g2 m2 t2 h2 => ?_)
  obtain ⟨rfl, h2⟩ := h2
  refine Ex.psh1 t2 ?_
  exact Ex.icmp_eq (tgt := 1767) (q := 503) dL_law_500 rfl rfl (fun _ => kk _ h2.2) (fun z => absurd h2.1.symm z)
theorem lwC_7 {bs Ls i : Nat} {xs : Nat → Int32} {Γ : Gm} {m : Mem} (hLs : Ls ≤ 3072) (h6 : i + 6 ≤ Ls) (h : SR m) (kk : ∀ m', SR m' → ExL bs Ls xs Γ 1767 i [] m') : ExL bs Ls xs Γ 505 i [] m := by
  refine Ex.aload_n (q := 506) dL_law_505 rfl rfl ?_
  refine Ex.aloadq (q := 507) dL_law_506 rfl rfl ?_
  refine Ex.iload_n (q := 508) dL_law_507 rfl rfl ?_
  refine Ex.iconst (q := 509) dL_law_508 ki_1 rfl ?_
  refine Ex.iadd (q := 510) dL_law_509 rfl ?_
  refine Ex.sld (q := 511) (i := i + 1) dL_law_510 (w_ix (j := 1) h6 hLs (by decide)) (by omega) hLs rfl ?_
  refine Ex.callV (q := 514) (M' := MX11_calls) (d' := 30) (a := 0) (ci := 11) (As := [iv (xs (i + 1)).toInt]) (rest := []) dL_law_511 mlL_45 moX11_calls mvX11_calls k0 rfl (by decide) rfl rfl (Nat.le_of_ble_eq_true rfl) (by decide) (Nat.le_of_ble_eq_true rfl) ⟨by decide, by decide⟩ (kq_calls (d := 0) ((xs (i + 1)).toInt) h) (fun v g' m' h => by rw [h.1]) rfl (fun v1 g1 m1 t1 h1 => ?_)
  obtain ⟨rfl, h1⟩ := h1
  refine Ex.psh1 t1 ?_
  refine Ex.aload_n (q := 515) dL_law_514 rfl rfl ?_
  refine Ex.aloadq (q := 516) dL_law_515 rfl rfl ?_
  refine Ex.iload_n (q := 517) dL_law_516 rfl rfl ?_
  refine Ex.iconst (q := 518) dL_law_517 ki_1 rfl ?_
  refine Ex.iadd (q := 519) dL_law_518 rfl ?_
  refine Ex.sld (q := 520) (i := i + 1) dL_law_519 (w_ix (j := 1) h6 hLs (by decide)) (by omega) hLs rfl ?_
  refine Ex.callV (q := 523) (M' := MX12_calls) (d' := 30) (a := 211) (ci := 12) (As := [iv (xs (i + 1)).toInt]) (rest := [iv v1.2]) dL_law_520 mlL_48 moX12_calls mvX12_calls k211 rfl (by decide) rfl rfl (Nat.le_of_ble_eq_true rfl) (by decide) (Nat.le_of_ble_eq_true rfl) ⟨by decide, by decide⟩ h1 (fun v g' m' h => by rw [h.1]) rfl (fun v2 g2 m2 t2 h2 => ?_)
  obtain ⟨rfl, h2⟩ := h2
  refine Ex.psh1 t2 ?_
  exact Ex.icmp_eq (tgt := 1767) (q := 526) dL_law_523 rfl rfl (fun _ => kk _ h2.2) (fun z => absurd h2.1.symm z)
theorem lwC_8 {bs Ls i : Nat} {xs : Nat → Int32} {Γ : Gm} {m : Mem} (hLs : Ls ≤ 3072) (h6 : i + 6 ≤ Ls) (h : SR m) (kk : ∀ m', SR m' → ExL bs Ls xs Γ 1767 i [] m') : ExL bs Ls xs Γ 528 i [] m := by
  refine Ex.aload_n (q := 529) dL_law_528 rfl rfl ?_
  refine Ex.aloadq (q := 530) dL_law_529 rfl rfl ?_
  refine Ex.iload_n (q := 531) dL_law_530 rfl rfl ?_
  refine Ex.iconst (q := 532) dL_law_531 ki_1 rfl ?_
  refine Ex.iadd (q := 533) dL_law_532 rfl ?_
  refine Ex.sld (q := 534) (i := i + 1) dL_law_533 (w_ix (j := 1) h6 hLs (by decide)) (by omega) hLs rfl ?_
  refine Ex.aloadq (q := 535) dL_law_534 rfl rfl ?_
  refine Ex.iload_n (q := 536) dL_law_535 rfl rfl ?_
  refine Ex.iconst (q := 537) dL_law_536 ki_2 rfl ?_
  refine Ex.iadd (q := 538) dL_law_537 rfl ?_
  refine Ex.sld (q := 539) (i := i + 2) dL_law_538 (w_ix (j := 2) h6 hLs (by decide)) (by omega) hLs rfl ?_
  refine Ex.callV (q := 542) (M' := MX11_press) (d' := 30) (a := 0) (ci := 11) (As := [iv (xs (i + 1)).toInt, iv (xs (i + 2)).toInt]) (rest := []) dL_law_539 mlL_49 moX11_press mvX11_press k0 rfl (by decide) rfl rfl (Nat.le_of_ble_eq_true rfl) (by decide) (Nat.le_of_ble_eq_true rfl) ⟨by decide, by decide⟩ (kq_press (d := 0) ((xs (i + 1)).toInt) ((xs (i + 2)).toInt) h) (fun v g' m' h => by rw [h.1]) rfl (fun v1 g1 m1 t1 h1 => ?_)
  obtain ⟨rfl, h1⟩ := h1
  refine Ex.psh1 t1 ?_
  refine Ex.aload_n (q := 543) dL_law_542 rfl rfl ?_
  refine Ex.aloadq (q := 544) dL_law_543 rfl rfl ?_
  refine Ex.iload_n (q := 545) dL_law_544 rfl rfl ?_
  refine Ex.iconst (q := 546) dL_law_545 ki_1 rfl ?_
  refine Ex.iadd (q := 547) dL_law_546 rfl ?_
  refine Ex.sld (q := 548) (i := i + 1) dL_law_547 (w_ix (j := 1) h6 hLs (by decide)) (by omega) hLs rfl ?_
  refine Ex.aloadq (q := 549) dL_law_548 rfl rfl ?_
  refine Ex.iload_n (q := 550) dL_law_549 rfl rfl ?_
  refine Ex.iconst (q := 551) dL_law_550 ki_2 rfl ?_
  refine Ex.iadd (q := 552) dL_law_551 rfl ?_
  refine Ex.sld (q := 553) (i := i + 2) dL_law_552 (w_ix (j := 2) h6 hLs (by decide)) (by omega) hLs rfl ?_
  refine Ex.callV (q := 556) (M' := MX12_press) (d' := 30) (a := 211) (ci := 12) (As := [iv (xs (i + 1)).toInt, iv (xs (i + 2)).toInt]) (rest := [iv v1.2]) dL_law_553 mlL_52 moX12_press mvX12_press k211 rfl (by decide) rfl rfl (Nat.le_of_ble_eq_true rfl) (by decide) (Nat.le_of_ble_eq_true rfl) ⟨by decide, by decide⟩ h1 (fun v g' m' h => by rw [h.1]) rfl (fun v2 g2 m2 t2 h2 => ?_)
  obtain ⟨rfl, h2⟩ := h2
  refine Ex.psh1 t2 ?_
  exact Ex.icmp_eq (tgt := 1767) (q := 559) dL_law_556 rfl rfl (fun _ => kk _ h2.2) (fun z => absurd h2.1.symm z)
theorem lwC_9 {bs Ls i : Nat} {xs : Nat → Int32} {Γ : Gm} {m : Mem} (hLs : Ls ≤ 3072) (h6 : i + 6 ≤ Ls) (h : SR m) (kk : ∀ m', SR m' → ExL bs Ls xs Γ 1767 i [] m') : ExL bs Ls xs Γ 561 i [] m := by
  refine Ex.aload_n (q := 562) dL_law_561 rfl rfl ?_
  refine Ex.aloadq (q := 563) dL_law_562 rfl rfl ?_
  refine Ex.iload_n (q := 564) dL_law_563 rfl rfl ?_
  refine Ex.iconst (q := 565) dL_law_564 ki_1 rfl ?_
  refine Ex.iadd (q := 566) dL_law_565 rfl ?_
  refine Ex.sld (q := 567) (i := i + 1) dL_law_566 (w_ix (j := 1) h6 hLs (by decide)) (by omega) hLs rfl ?_
  refine Ex.aloadq (q := 568) dL_law_567 rfl rfl ?_
  refine Ex.iload_n (q := 569) dL_law_568 rfl rfl ?_
  refine Ex.iconst (q := 570) dL_law_569 ki_2 rfl ?_
  refine Ex.iadd (q := 571) dL_law_570 rfl ?_
  refine Ex.sld (q := 572) (i := i + 2) dL_law_571 (w_ix (j := 2) h6 hLs (by decide)) (by omega) hLs rfl ?_
  refine Ex.callV (q := 575) (M' := MX11_pressOff) (d' := 30) (a := 0) (ci := 11) (As := [iv (xs (i + 1)).toInt, iv (xs (i + 2)).toInt]) (rest := []) dL_law_572 mlL_53 moX11_pressOff mvX11_pressOff k0 rfl (by decide) rfl rfl (Nat.le_of_ble_eq_true rfl) (by decide) (Nat.le_of_ble_eq_true rfl) ⟨by decide, by decide⟩ (kq_pressOff (d := 0) ((xs (i + 1)).toInt) ((xs (i + 2)).toInt) h) (fun v g' m' h => by rw [h.1]) rfl (fun v1 g1 m1 t1 h1 => ?_)
  obtain ⟨rfl, h1⟩ := h1
  refine Ex.psh1 t1 ?_
  refine Ex.aload_n (q := 576) dL_law_575 rfl rfl ?_
  refine Ex.aloadq (q := 577) dL_law_576 rfl rfl ?_
  refine Ex.iload_n (q := 578) dL_law_577 rfl rfl ?_
  refine Ex.iconst (q := 579) dL_law_578 ki_1 rfl ?_
  refine Ex.iadd (q := 580) dL_law_579 rfl ?_
  refine Ex.sld (q := 581) (i := i + 1) dL_law_580 (w_ix (j := 1) h6 hLs (by decide)) (by omega) hLs rfl ?_
  refine Ex.aloadq (q := 582) dL_law_581 rfl rfl ?_
  refine Ex.iload_n (q := 583) dL_law_582 rfl rfl ?_
  refine Ex.iconst (q := 584) dL_law_583 ki_2 rfl ?_
  refine Ex.iadd (q := 585) dL_law_584 rfl ?_
  refine Ex.sld (q := 586) (i := i + 2) dL_law_585 (w_ix (j := 2) h6 hLs (by decide)) (by omega) hLs rfl ?_
  refine Ex.callV (q := 589) (M' := MX12_pressOff) (d' := 30) (a := 211) (ci := 12) (As := [iv (xs (i + 1)).toInt, iv (xs (i + 2)).toInt]) (rest := [iv v1.2]) dL_law_586 mlL_56 moX12_pressOff mvX12_pressOff k211 rfl (by decide) rfl rfl (Nat.le_of_ble_eq_true rfl) (by decide) (Nat.le_of_ble_eq_true rfl) ⟨by decide, by decide⟩ h1 (fun v g' m' h => by rw [h.1]) rfl (fun v2 g2 m2 t2 h2 => ?_)
  obtain ⟨rfl, h2⟩ := h2
  refine Ex.psh1 t2 ?_
  exact Ex.icmp_eq (tgt := 1767) (q := 592) dL_law_589 rfl rfl (fun _ => kk _ h2.2) (fun z => absurd h2.1.symm z)
theorem lwC_10 {bs Ls i : Nat} {xs : Nat → Int32} {Γ : Gm} {m : Mem} (hLs : Ls ≤ 3072) (h6 : i + 6 ≤ Ls) (h : SR m) (kk : ∀ m', SR m' → ExL bs Ls xs Γ 1767 i [] m') : ExL bs Ls xs Γ 594 i [] m := by
  refine Ex.aload_n (q := 595) dL_law_594 rfl rfl ?_
  refine Ex.aloadq (q := 596) dL_law_595 rfl rfl ?_
  refine Ex.iload_n (q := 597) dL_law_596 rfl rfl ?_
  refine Ex.iconst (q := 598) dL_law_597 ki_1 rfl ?_
  refine Ex.iadd (q := 599) dL_law_598 rfl ?_
  refine Ex.sld (q := 600) (i := i + 1) dL_law_599 (w_ix (j := 1) h6 hLs (by decide)) (by omega) hLs rfl ?_
  refine Ex.callV (q := 603) (M' := MX11_rides) (d' := 30) (a := 0) (ci := 11) (As := [iv (xs (i + 1)).toInt]) (rest := []) dL_law_600 mlL_57 moX11_rides mvX11_rides k0 rfl (by decide) rfl rfl (Nat.le_of_ble_eq_true rfl) (by decide) (Nat.le_of_ble_eq_true rfl) ⟨by decide, by decide⟩ (kq_rides (d := 0) ((xs (i + 1)).toInt) h) (fun v g' m' h => by rw [h.1]) rfl (fun v1 g1 m1 t1 h1 => ?_)
  obtain ⟨rfl, h1⟩ := h1
  refine Ex.psh1 t1 ?_
  refine Ex.aload_n (q := 604) dL_law_603 rfl rfl ?_
  refine Ex.aloadq (q := 605) dL_law_604 rfl rfl ?_
  refine Ex.iload_n (q := 606) dL_law_605 rfl rfl ?_
  refine Ex.iconst (q := 607) dL_law_606 ki_1 rfl ?_
  refine Ex.iadd (q := 608) dL_law_607 rfl ?_
  refine Ex.sld (q := 609) (i := i + 1) dL_law_608 (w_ix (j := 1) h6 hLs (by decide)) (by omega) hLs rfl ?_
  refine Ex.callV (q := 612) (M' := MX12_rides) (d' := 30) (a := 211) (ci := 12) (As := [iv (xs (i + 1)).toInt]) (rest := [iv v1.2]) dL_law_609 mlL_60 moX12_rides mvX12_rides k211 rfl (by decide) rfl rfl (Nat.le_of_ble_eq_true rfl) (by decide) (Nat.le_of_ble_eq_true rfl) ⟨by decide, by decide⟩ h1 (fun v g' m' h => by rw [h.1]) rfl (fun v2 g2 m2 t2 h2 => ?_)
  obtain ⟨rfl, h2⟩ := h2
  refine Ex.psh1 t2 ?_
  exact Ex.icmp_eq (tgt := 1767) (q := 615) dL_law_612 rfl rfl (fun _ => kk _ h2.2) (fun z => absurd h2.1.symm z)
theorem lwC_11 {bs Ls i : Nat} {xs : Nat → Int32} {Γ : Gm} {m : Mem} (hLs : Ls ≤ 3072) (h6 : i + 6 ≤ Ls) (h : SR m) (kk : ∀ m', SR m' → ExL bs Ls xs Γ 1767 i [] m') : ExL bs Ls xs Γ 617 i [] m := by
  refine Ex.aload_n (q := 618) dL_law_617 rfl rfl ?_
  refine Ex.aloadq (q := 619) dL_law_618 rfl rfl ?_
  refine Ex.iload_n (q := 620) dL_law_619 rfl rfl ?_
  refine Ex.iconst (q := 621) dL_law_620 ki_1 rfl ?_
  refine Ex.iadd (q := 622) dL_law_621 rfl ?_
  refine Ex.sld (q := 623) (i := i + 1) dL_law_622 (w_ix (j := 1) h6 hLs (by decide)) (by omega) hLs rfl ?_
  refine Ex.callV (q := 626) (M' := MX11_out) (d' := 30) (a := 0) (ci := 11) (As := [iv (xs (i + 1)).toInt]) (rest := []) dL_law_623 mlL_61 moX11_out mvX11_out k0 rfl (by decide) rfl rfl (Nat.le_of_ble_eq_true rfl) (by decide) (Nat.le_of_ble_eq_true rfl) ⟨by decide, by decide⟩ (kq_out (d := 0) ((xs (i + 1)).toInt) h) (fun v g' m' h => by rw [h.1]) rfl (fun v1 g1 m1 t1 h1 => ?_)
  obtain ⟨rfl, h1⟩ := h1
  refine Ex.psh1 t1 ?_
  refine Ex.aload_n (q := 627) dL_law_626 rfl rfl ?_
  refine Ex.aloadq (q := 628) dL_law_627 rfl rfl ?_
  refine Ex.iload_n (q := 629) dL_law_628 rfl rfl ?_
  refine Ex.iconst (q := 630) dL_law_629 ki_1 rfl ?_
  refine Ex.iadd (q := 631) dL_law_630 rfl ?_
  refine Ex.sld (q := 632) (i := i + 1) dL_law_631 (w_ix (j := 1) h6 hLs (by decide)) (by omega) hLs rfl ?_
  refine Ex.callV (q := 635) (M' := MX12_out) (d' := 30) (a := 211) (ci := 12) (As := [iv (xs (i + 1)).toInt]) (rest := [iv v1.2]) dL_law_632 mlL_64 moX12_out mvX12_out k211 rfl (by decide) rfl rfl (Nat.le_of_ble_eq_true rfl) (by decide) (Nat.le_of_ble_eq_true rfl) ⟨by decide, by decide⟩ h1 (fun v g' m' h => by rw [h.1]) rfl (fun v2 g2 m2 t2 h2 => ?_)
  obtain ⟨rfl, h2⟩ := h2
  refine Ex.psh1 t2 ?_
  exact Ex.icmp_eq (tgt := 1767) (q := 638) dL_law_635 rfl rfl (fun _ => kk _ h2.2) (fun z => absurd h2.1.symm z)
theorem lwC_12 {bs Ls i : Nat} {xs : Nat → Int32} {Γ : Gm} {m : Mem} (hLs : Ls ≤ 3072) (h6 : i + 6 ≤ Ls) (h : SR m) (kk : ∀ m', SR m' → ExL bs Ls xs Γ 1767 i [] m') : ExL bs Ls xs Γ 640 i [] m := by
  refine Ex.aload_n (q := 641) dL_law_640 rfl rfl ?_
  refine Ex.aloadq (q := 642) dL_law_641 rfl rfl ?_
  refine Ex.iload_n (q := 643) dL_law_642 rfl rfl ?_
  refine Ex.iconst (q := 644) dL_law_643 ki_1 rfl ?_
  refine Ex.iadd (q := 645) dL_law_644 rfl ?_
  refine Ex.sld (q := 646) (i := i + 1) dL_law_645 (w_ix (j := 1) h6 hLs (by decide)) (by omega) hLs rfl ?_
  refine Ex.aloadq (q := 647) dL_law_646 rfl rfl ?_
  refine Ex.iload_n (q := 648) dL_law_647 rfl rfl ?_
  refine Ex.iconst (q := 649) dL_law_648 ki_2 rfl ?_
  refine Ex.iadd (q := 650) dL_law_649 rfl ?_
  refine Ex.sld (q := 651) (i := i + 2) dL_law_650 (w_ix (j := 2) h6 hLs (by decide)) (by omega) hLs rfl ?_
  refine Ex.callV (q := 654) (M' := MX11_in) (d' := 30) (a := 0) (ci := 11) (As := [iv (xs (i + 1)).toInt, iv (xs (i + 2)).toInt]) (rest := []) dL_law_651 mlL_65 moX11_in mvX11_in k0 rfl (by decide) rfl rfl (Nat.le_of_ble_eq_true rfl) (by decide) (Nat.le_of_ble_eq_true rfl) ⟨by decide, by decide⟩ (kq_in (d := 0) ((xs (i + 1)).toInt) ((xs (i + 2)).toInt) h) (fun v g' m' h => by rw [h.1]) rfl (fun v1 g1 m1 t1 h1 => ?_)
  obtain ⟨rfl, h1⟩ := h1
  refine Ex.psh1 t1 ?_
  refine Ex.aload_n (q := 655) dL_law_654 rfl rfl ?_
  refine Ex.aloadq (q := 656) dL_law_655 rfl rfl ?_
  refine Ex.iload_n (q := 657) dL_law_656 rfl rfl ?_
  refine Ex.iconst (q := 658) dL_law_657 ki_1 rfl ?_
  refine Ex.iadd (q := 659) dL_law_658 rfl ?_
  refine Ex.sld (q := 660) (i := i + 1) dL_law_659 (w_ix (j := 1) h6 hLs (by decide)) (by omega) hLs rfl ?_
  refine Ex.aloadq (q := 661) dL_law_660 rfl rfl ?_
  refine Ex.iload_n (q := 662) dL_law_661 rfl rfl ?_
  refine Ex.iconst (q := 663) dL_law_662 ki_2 rfl ?_
  refine Ex.iadd (q := 664) dL_law_663 rfl ?_
  refine Ex.sld (q := 665) (i := i + 2) dL_law_664 (w_ix (j := 2) h6 hLs (by decide)) (by omega) hLs rfl ?_
  refine Ex.callV (q := 668) (M' := MX12_in) (d' := 30) (a := 211) (ci := 12) (As := [iv (xs (i + 1)).toInt, iv (xs (i + 2)).toInt]) (rest := [iv v1.2]) dL_law_665 mlL_68 moX12_in mvX12_in k211 rfl (by decide) rfl rfl (Nat.le_of_ble_eq_true rfl) (by decide) (Nat.le_of_ble_eq_true rfl) ⟨by decide, by decide⟩ h1 (fun v g' m' h => by rw [h.1]) rfl (fun v2 g2 m2 t2 h2 => ?_)
  obtain ⟨rfl, h2⟩ := h2
  refine Ex.psh1 t2 ?_
  exact Ex.icmp_eq (tgt := 1767) (q := 671) dL_law_668 rfl rfl (fun _ => kk _ h2.2) (fun z => absurd h2.1.symm z)
theorem lwC_13 {bs Ls i : Nat} {xs : Nat → Int32} {Γ : Gm} {m : Mem} (hLs : Ls ≤ 3072) (h6 : i + 6 ≤ Ls) (h : SR m) (kk : ∀ m', SR m' → ExL bs Ls xs Γ 1767 i [] m') : ExL bs Ls xs Γ 673 i [] m := by
  refine Ex.aload_n (q := 674) dL_law_673 rfl rfl ?_
  refine Ex.aloadq (q := 675) dL_law_674 rfl rfl ?_
  refine Ex.iload_n (q := 676) dL_law_675 rfl rfl ?_
  refine Ex.iconst (q := 677) dL_law_676 ki_1 rfl ?_
  refine Ex.iadd (q := 678) dL_law_677 rfl ?_
  refine Ex.sld (q := 679) (i := i + 1) dL_law_678 (w_ix (j := 1) h6 hLs (by decide)) (by omega) hLs rfl ?_
  refine Ex.aloadq (q := 680) dL_law_679 rfl rfl ?_
  refine Ex.iload_n (q := 681) dL_law_680 rfl rfl ?_
  refine Ex.iconst (q := 682) dL_law_681 ki_2 rfl ?_
  refine Ex.iadd (q := 683) dL_law_682 rfl ?_
  refine Ex.sld (q := 684) (i := i + 2) dL_law_683 (w_ix (j := 2) h6 hLs (by decide)) (by omega) hLs rfl ?_
  refine Ex.callV (q := 687) (M' := MX11_walks) (d' := 30) (a := 0) (ci := 11) (As := [iv (xs (i + 1)).toInt, iv (xs (i + 2)).toInt]) (rest := []) dL_law_684 mlL_69 moX11_walks mvX11_walks k0 rfl (by decide) rfl rfl (Nat.le_of_ble_eq_true rfl) (by decide) (Nat.le_of_ble_eq_true rfl) ⟨by decide, by decide⟩ (kq_walks (d := 0) ((xs (i + 1)).toInt) ((xs (i + 2)).toInt) h) (fun v g' m' h => by rw [h.1]) rfl (fun v1 g1 m1 t1 h1 => ?_)
  obtain ⟨rfl, h1⟩ := h1
  refine Ex.psh1 t1 ?_
  refine Ex.aload_n (q := 688) dL_law_687 rfl rfl ?_
  refine Ex.aloadq (q := 689) dL_law_688 rfl rfl ?_
  refine Ex.iload_n (q := 690) dL_law_689 rfl rfl ?_
  refine Ex.iconst (q := 691) dL_law_690 ki_1 rfl ?_
  refine Ex.iadd (q := 692) dL_law_691 rfl ?_
  refine Ex.sld (q := 693) (i := i + 1) dL_law_692 (w_ix (j := 1) h6 hLs (by decide)) (by omega) hLs rfl ?_
  refine Ex.aloadq (q := 694) dL_law_693 rfl rfl ?_
  refine Ex.iload_n (q := 695) dL_law_694 rfl rfl ?_
  refine Ex.iconst (q := 696) dL_law_695 ki_2 rfl ?_
  refine Ex.iadd (q := 697) dL_law_696 rfl ?_
  refine Ex.sld (q := 698) (i := i + 2) dL_law_697 (w_ix (j := 2) h6 hLs (by decide)) (by omega) hLs rfl ?_
  refine Ex.callV (q := 701) (M' := MX12_walks) (d' := 30) (a := 211) (ci := 12) (As := [iv (xs (i + 1)).toInt, iv (xs (i + 2)).toInt]) (rest := [iv v1.2]) dL_law_698 mlL_72 moX12_walks mvX12_walks k211 rfl (by decide) rfl rfl (Nat.le_of_ble_eq_true rfl) (by decide) (Nat.le_of_ble_eq_true rfl) ⟨by decide, by decide⟩ h1 (fun v g' m' h => by rw [h.1]) rfl (fun v2 g2 m2 t2 h2 => ?_)
  obtain ⟨rfl, h2⟩ := h2
  refine Ex.psh1 t2 ?_
  exact Ex.icmp_eq (tgt := 1767) (q := 704) dL_law_701 rfl rfl (fun _ => kk _ h2.2) (fun z => absurd h2.1.symm z)
theorem lwC_14 {bs Ls i : Nat} {xs : Nat → Int32} {Γ : Gm} {m : Mem} (hLs : Ls ≤ 3072) (h6 : i + 6 ≤ Ls) (h : SR m) (kk : ∀ m', SR m' → ExL bs Ls xs Γ 1767 i [] m') : ExL bs Ls xs Γ 706 i [] m := by
  refine Ex.aload_n (q := 707) dL_law_706 rfl rfl ?_
  refine Ex.aloadq (q := 708) dL_law_707 rfl rfl ?_
  refine Ex.iload_n (q := 709) dL_law_708 rfl rfl ?_
  refine Ex.iconst (q := 710) dL_law_709 ki_1 rfl ?_
  refine Ex.iadd (q := 711) dL_law_710 rfl ?_
  refine Ex.sld (q := 712) (i := i + 1) dL_law_711 (w_ix (j := 1) h6 hLs (by decide)) (by omega) hLs rfl ?_
  refine Ex.callV (q := 715) (M' := MX11_undo) (d' := 30) (a := 0) (ci := 11) (As := [iv (xs (i + 1)).toInt]) (rest := []) dL_law_712 mlL_73 moX11_undo mvX11_undo k0 rfl (by decide) rfl rfl (Nat.le_of_ble_eq_true rfl) (by decide) (Nat.le_of_ble_eq_true rfl) ⟨by decide, by decide⟩ (kq_undo (d := 0) ((xs (i + 1)).toInt) h) (fun v g' m' h => by rw [h.1]) rfl (fun v1 g1 m1 t1 h1 => ?_)
  obtain ⟨rfl, h1⟩ := h1
  refine Ex.psh1 t1 ?_
  refine Ex.aload_n (q := 716) dL_law_715 rfl rfl ?_
  refine Ex.aloadq (q := 717) dL_law_716 rfl rfl ?_
  refine Ex.iload_n (q := 718) dL_law_717 rfl rfl ?_
  refine Ex.iconst (q := 719) dL_law_718 ki_1 rfl ?_
  refine Ex.iadd (q := 720) dL_law_719 rfl ?_
  refine Ex.sld (q := 721) (i := i + 1) dL_law_720 (w_ix (j := 1) h6 hLs (by decide)) (by omega) hLs rfl ?_
  refine Ex.callV (q := 724) (M' := MX12_undo) (d' := 30) (a := 211) (ci := 12) (As := [iv (xs (i + 1)).toInt]) (rest := [iv v1.2]) dL_law_721 mlL_76 moX12_undo mvX12_undo k211 rfl (by decide) rfl rfl (Nat.le_of_ble_eq_true rfl) (by decide) (Nat.le_of_ble_eq_true rfl) ⟨by decide, by decide⟩ h1 (fun v g' m' h => by rw [h.1]) rfl (fun v2 g2 m2 t2 h2 => ?_)
  obtain ⟨rfl, h2⟩ := h2
  refine Ex.psh1 t2 ?_
  exact Ex.icmp_eq (tgt := 1767) (q := 727) dL_law_724 rfl rfl (fun _ => kk _ h2.2) (fun z => absurd h2.1.symm z)
theorem lwC_15 {bs Ls i : Nat} {xs : Nat → Int32} {Γ : Gm} {m : Mem} (hLs : Ls ≤ 3072) (h6 : i + 6 ≤ Ls) (h : SR m) (kk : ∀ m', SR m' → ExL bs Ls xs Γ 1767 i [] m') : ExL bs Ls xs Γ 729 i [] m := by
  refine Ex.aload_n (q := 730) dL_law_729 rfl rfl ?_
  refine Ex.aloadq (q := 731) dL_law_730 rfl rfl ?_
  refine Ex.iload_n (q := 732) dL_law_731 rfl rfl ?_
  refine Ex.iconst (q := 733) dL_law_732 ki_1 rfl ?_
  refine Ex.iadd (q := 734) dL_law_733 rfl ?_
  refine Ex.sld (q := 735) (i := i + 1) dL_law_734 (w_ix (j := 1) h6 hLs (by decide)) (by omega) hLs rfl ?_
  refine Ex.aloadq (q := 736) dL_law_735 rfl rfl ?_
  refine Ex.iload_n (q := 737) dL_law_736 rfl rfl ?_
  refine Ex.iconst (q := 738) dL_law_737 ki_2 rfl ?_
  refine Ex.iadd (q := 739) dL_law_738 rfl ?_
  refine Ex.sld (q := 740) (i := i + 2) dL_law_739 (w_ix (j := 2) h6 hLs (by decide)) (by omega) hLs rfl ?_
  refine Ex.callV (q := 743) (M' := MX11_judge) (d' := 30) (a := 0) (ci := 11) (As := [iv (xs (i + 1)).toInt, iv (xs (i + 2)).toInt]) (rest := []) dL_law_740 mlL_77 moX11_judge mvX11_judge k0 rfl (by decide) rfl rfl (Nat.le_of_ble_eq_true rfl) (by decide) (Nat.le_of_ble_eq_true rfl) ⟨by decide, by decide⟩ (kq_judge (d := 0) ((xs (i + 1)).toInt) ((xs (i + 2)).toInt) h) (fun v g' m' h => by rw [h.1]) rfl (fun v1 g1 m1 t1 h1 => ?_)
  obtain ⟨rfl, h1⟩ := h1
  refine Ex.psh1 t1 ?_
  refine Ex.aload_n (q := 744) dL_law_743 rfl rfl ?_
  refine Ex.aloadq (q := 745) dL_law_744 rfl rfl ?_
  refine Ex.iload_n (q := 746) dL_law_745 rfl rfl ?_
  refine Ex.iconst (q := 747) dL_law_746 ki_1 rfl ?_
  refine Ex.iadd (q := 748) dL_law_747 rfl ?_
  refine Ex.sld (q := 749) (i := i + 1) dL_law_748 (w_ix (j := 1) h6 hLs (by decide)) (by omega) hLs rfl ?_
  refine Ex.aloadq (q := 750) dL_law_749 rfl rfl ?_
  refine Ex.iload_n (q := 751) dL_law_750 rfl rfl ?_
  refine Ex.iconst (q := 752) dL_law_751 ki_2 rfl ?_
  refine Ex.iadd (q := 753) dL_law_752 rfl ?_
  refine Ex.sld (q := 754) (i := i + 2) dL_law_753 (w_ix (j := 2) h6 hLs (by decide)) (by omega) hLs rfl ?_
  refine Ex.callV (q := 757) (M' := MX12_judge) (d' := 30) (a := 211) (ci := 12) (As := [iv (xs (i + 1)).toInt, iv (xs (i + 2)).toInt]) (rest := [iv v1.2]) dL_law_754 mlL_80 moX12_judge mvX12_judge k211 rfl (by decide) rfl rfl (Nat.le_of_ble_eq_true rfl) (by decide) (Nat.le_of_ble_eq_true rfl) ⟨by decide, by decide⟩ h1 (fun v g' m' h => by rw [h.1]) rfl (fun v2 g2 m2 t2 h2 => ?_)
  obtain ⟨rfl, h2⟩ := h2
  refine Ex.psh1 t2 ?_
  exact Ex.icmp_eq (tgt := 1767) (q := 760) dL_law_757 rfl rfl (fun _ => kk _ h2.2) (fun z => absurd h2.1.symm z)
theorem lwC_16 {bs Ls i : Nat} {xs : Nat → Int32} {Γ : Gm} {m : Mem} (hLs : Ls ≤ 3072) (h6 : i + 6 ≤ Ls) (h : SR m) (kk : ∀ m', SR m' → ExL bs Ls xs Γ 1767 i [] m') : ExL bs Ls xs Γ 762 i [] m := by
  refine Ex.aload_n (q := 763) dL_law_762 rfl rfl ?_
  refine Ex.aloadq (q := 764) dL_law_763 rfl rfl ?_
  refine Ex.iload_n (q := 765) dL_law_764 rfl rfl ?_
  refine Ex.iconst (q := 766) dL_law_765 ki_1 rfl ?_
  refine Ex.iadd (q := 767) dL_law_766 rfl ?_
  refine Ex.sld (q := 768) (i := i + 1) dL_law_767 (w_ix (j := 1) h6 hLs (by decide)) (by omega) hLs rfl ?_
  refine Ex.callV (q := 771) (M' := MX11_perform) (d' := 30) (a := 0) (ci := 11) (As := [iv (xs (i + 1)).toInt]) (rest := []) dL_law_768 mlL_81 moX11_perform mvX11_perform k0 rfl (by decide) rfl rfl (Nat.le_of_ble_eq_true rfl) (by decide) (Nat.le_of_ble_eq_true rfl) ⟨by decide, by decide⟩ (kq_perform (d := 0) ((xs (i + 1)).toInt) h) (fun v g' m' h => by rw [h.1]) rfl (fun v1 g1 m1 t1 h1 => ?_)
  obtain ⟨rfl, h1⟩ := h1
  refine Ex.psh1 t1 ?_
  refine Ex.aload_n (q := 772) dL_law_771 rfl rfl ?_
  refine Ex.aloadq (q := 773) dL_law_772 rfl rfl ?_
  refine Ex.iload_n (q := 774) dL_law_773 rfl rfl ?_
  refine Ex.iconst (q := 775) dL_law_774 ki_1 rfl ?_
  refine Ex.iadd (q := 776) dL_law_775 rfl ?_
  refine Ex.sld (q := 777) (i := i + 1) dL_law_776 (w_ix (j := 1) h6 hLs (by decide)) (by omega) hLs rfl ?_
  refine Ex.callV (q := 780) (M' := MX12_perform) (d' := 30) (a := 211) (ci := 12) (As := [iv (xs (i + 1)).toInt]) (rest := [iv v1.2]) dL_law_777 mlL_84 moX12_perform mvX12_perform k211 rfl (by decide) rfl rfl (Nat.le_of_ble_eq_true rfl) (by decide) (Nat.le_of_ble_eq_true rfl) ⟨by decide, by decide⟩ h1 (fun v g' m' h => by rw [h.1]) rfl (fun v2 g2 m2 t2 h2 => ?_)
  obtain ⟨rfl, h2⟩ := h2
  refine Ex.psh1 t2 ?_
  exact Ex.icmp_eq (tgt := 1767) (q := 783) dL_law_780 rfl rfl (fun _ => kk _ h2.2) (fun z => absurd h2.1.symm z)
theorem lwC_17 {bs Ls i : Nat} {xs : Nat → Int32} {Γ : Gm} {m : Mem} (hLs : Ls ≤ 3072) (h6 : i + 6 ≤ Ls) (h : SR m) (kk : ∀ m', SR m' → ExL bs Ls xs Γ 1767 i [] m') : ExL bs Ls xs Γ 785 i [] m := by
  refine Ex.aload_n (q := 786) dL_law_785 rfl rfl ?_
  refine Ex.aloadq (q := 787) dL_law_786 rfl rfl ?_
  refine Ex.iload_n (q := 788) dL_law_787 rfl rfl ?_
  refine Ex.iconst (q := 789) dL_law_788 ki_1 rfl ?_
  refine Ex.iadd (q := 790) dL_law_789 rfl ?_
  refine Ex.sld (q := 791) (i := i + 1) dL_law_790 (w_ix (j := 1) h6 hLs (by decide)) (by omega) hLs rfl ?_
  refine Ex.aloadq (q := 792) dL_law_791 rfl rfl ?_
  refine Ex.iload_n (q := 793) dL_law_792 rfl rfl ?_
  refine Ex.iconst (q := 794) dL_law_793 ki_2 rfl ?_
  refine Ex.iadd (q := 795) dL_law_794 rfl ?_
  refine Ex.sld (q := 796) (i := i + 2) dL_law_795 (w_ix (j := 2) h6 hLs (by decide)) (by omega) hLs rfl ?_
  refine Ex.callV (q := 799) (M' := MX11_evenings) (d' := 30) (a := 0) (ci := 11) (As := [iv (xs (i + 1)).toInt, iv (xs (i + 2)).toInt]) (rest := []) dL_law_796 mlL_85 moX11_evenings mvX11_evenings k0 rfl (by decide) rfl rfl (Nat.le_of_ble_eq_true rfl) (by decide) (Nat.le_of_ble_eq_true rfl) ⟨by decide, by decide⟩ (kq_evenings (d := 0) ((xs (i + 1)).toInt) ((xs (i + 2)).toInt) h) (fun v g' m' h => by rw [h.1]) rfl (fun v1 g1 m1 t1 h1 => ?_)
  obtain ⟨rfl, h1⟩ := h1
  refine Ex.psh1 t1 ?_
  refine Ex.aload_n (q := 800) dL_law_799 rfl rfl ?_
  refine Ex.aloadq (q := 801) dL_law_800 rfl rfl ?_
  refine Ex.iload_n (q := 802) dL_law_801 rfl rfl ?_
  refine Ex.iconst (q := 803) dL_law_802 ki_1 rfl ?_
  refine Ex.iadd (q := 804) dL_law_803 rfl ?_
  refine Ex.sld (q := 805) (i := i + 1) dL_law_804 (w_ix (j := 1) h6 hLs (by decide)) (by omega) hLs rfl ?_
  refine Ex.aloadq (q := 806) dL_law_805 rfl rfl ?_
  refine Ex.iload_n (q := 807) dL_law_806 rfl rfl ?_
  refine Ex.iconst (q := 808) dL_law_807 ki_2 rfl ?_
  refine Ex.iadd (q := 809) dL_law_808 rfl ?_
  refine Ex.sld (q := 810) (i := i + 2) dL_law_809 (w_ix (j := 2) h6 hLs (by decide)) (by omega) hLs rfl ?_
  refine Ex.callV (q := 813) (M' := MX12_evenings) (d' := 30) (a := 211) (ci := 12) (As := [iv (xs (i + 1)).toInt, iv (xs (i + 2)).toInt]) (rest := [iv v1.2]) dL_law_810 mlL_88 moX12_evenings mvX12_evenings k211 rfl (by decide) rfl rfl (Nat.le_of_ble_eq_true rfl) (by decide) (Nat.le_of_ble_eq_true rfl) ⟨by decide, by decide⟩ h1 (fun v g' m' h => by rw [h.1]) rfl (fun v2 g2 m2 t2 h2 => ?_)
  obtain ⟨rfl, h2⟩ := h2
  refine Ex.psh1 t2 ?_
  exact Ex.icmp_eq (tgt := 1767) (q := 816) dL_law_813 rfl rfl (fun _ => kk _ h2.2) (fun z => absurd h2.1.symm z)
theorem lwC_18 {bs Ls i : Nat} {xs : Nat → Int32} {Γ : Gm} {m : Mem} (hLs : Ls ≤ 3072) (h6 : i + 6 ≤ Ls) (h : SR m) (kk : ∀ m', SR m' → ExL bs Ls xs Γ 1767 i [] m') : ExL bs Ls xs Γ 818 i [] m := by
  refine Ex.aload_n (q := 819) dL_law_818 rfl rfl ?_
  refine Ex.aloadq (q := 820) dL_law_819 rfl rfl ?_
  refine Ex.iload_n (q := 821) dL_law_820 rfl rfl ?_
  refine Ex.iconst (q := 822) dL_law_821 ki_1 rfl ?_
  refine Ex.iadd (q := 823) dL_law_822 rfl ?_
  refine Ex.sld (q := 824) (i := i + 1) dL_law_823 (w_ix (j := 1) h6 hLs (by decide)) (by omega) hLs rfl ?_
  refine Ex.callV (q := 827) (M' := MX11_stops) (d' := 30) (a := 0) (ci := 11) (As := [iv (xs (i + 1)).toInt]) (rest := []) dL_law_824 mlL_89 moX11_stops mvX11_stops k0 rfl (by decide) rfl rfl (Nat.le_of_ble_eq_true rfl) (by decide) (Nat.le_of_ble_eq_true rfl) ⟨by decide, by decide⟩ (kq_stops (d := 0) ((xs (i + 1)).toInt) h) (fun v g' m' h => by rw [h.1]) rfl (fun v1 g1 m1 t1 h1 => ?_)
  obtain ⟨rfl, h1⟩ := h1
  refine Ex.psh1 t1 ?_
  refine Ex.aload_n (q := 828) dL_law_827 rfl rfl ?_
  refine Ex.aloadq (q := 829) dL_law_828 rfl rfl ?_
  refine Ex.iload_n (q := 830) dL_law_829 rfl rfl ?_
  refine Ex.iconst (q := 831) dL_law_830 ki_1 rfl ?_
  refine Ex.iadd (q := 832) dL_law_831 rfl ?_
  refine Ex.sld (q := 833) (i := i + 1) dL_law_832 (w_ix (j := 1) h6 hLs (by decide)) (by omega) hLs rfl ?_
  refine Ex.callV (q := 836) (M' := MX12_stops) (d' := 30) (a := 211) (ci := 12) (As := [iv (xs (i + 1)).toInt]) (rest := [iv v1.2]) dL_law_833 mlL_92 moX12_stops mvX12_stops k211 rfl (by decide) rfl rfl (Nat.le_of_ble_eq_true rfl) (by decide) (Nat.le_of_ble_eq_true rfl) ⟨by decide, by decide⟩ h1 (fun v g' m' h => by rw [h.1]) rfl (fun v2 g2 m2 t2 h2 => ?_)
  obtain ⟨rfl, h2⟩ := h2
  refine Ex.psh1 t2 ?_
  exact Ex.icmp_eq (tgt := 1767) (q := 839) dL_law_836 rfl rfl (fun _ => kk _ h2.2) (fun z => absurd h2.1.symm z)
theorem lwC_19 {bs Ls i : Nat} {xs : Nat → Int32} {Γ : Gm} {m : Mem} (hLs : Ls ≤ 3072) (h6 : i + 6 ≤ Ls) (h : SR m) (kk : ∀ m', SR m' → ExL bs Ls xs Γ 1767 i [] m') : ExL bs Ls xs Γ 841 i [] m := by
  refine Ex.aload_n (q := 842) dL_law_841 rfl rfl ?_
  refine Ex.aloadq (q := 843) dL_law_842 rfl rfl ?_
  refine Ex.iload_n (q := 844) dL_law_843 rfl rfl ?_
  refine Ex.iconst (q := 845) dL_law_844 ki_1 rfl ?_
  refine Ex.iadd (q := 846) dL_law_845 rfl ?_
  refine Ex.sld (q := 847) (i := i + 1) dL_law_846 (w_ix (j := 1) h6 hLs (by decide)) (by omega) hLs rfl ?_
  refine Ex.aloadq (q := 848) dL_law_847 rfl rfl ?_
  refine Ex.iload_n (q := 849) dL_law_848 rfl rfl ?_
  refine Ex.iconst (q := 850) dL_law_849 ki_2 rfl ?_
  refine Ex.iadd (q := 851) dL_law_850 rfl ?_
  refine Ex.sld (q := 852) (i := i + 2) dL_law_851 (w_ix (j := 2) h6 hLs (by decide)) (by omega) hLs rfl ?_
  refine Ex.callV (q := 855) (M' := MX11_stopAt) (d' := 30) (a := 0) (ci := 11) (As := [iv (xs (i + 1)).toInt, iv (xs (i + 2)).toInt]) (rest := []) dL_law_852 mlL_93 moX11_stopAt mvX11_stopAt k0 rfl (by decide) rfl rfl (Nat.le_of_ble_eq_true rfl) (by decide) (Nat.le_of_ble_eq_true rfl) ⟨by decide, by decide⟩ (kq_stopAt (d := 0) ((xs (i + 1)).toInt) ((xs (i + 2)).toInt) h) (fun v g' m' h => by rw [h.1]) rfl (fun v1 g1 m1 t1 h1 => ?_)
  obtain ⟨rfl, h1⟩ := h1
  refine Ex.psh1 t1 ?_
  refine Ex.aload_n (q := 856) dL_law_855 rfl rfl ?_
  refine Ex.aloadq (q := 857) dL_law_856 rfl rfl ?_
  refine Ex.iload_n (q := 858) dL_law_857 rfl rfl ?_
  refine Ex.iconst (q := 859) dL_law_858 ki_1 rfl ?_
  refine Ex.iadd (q := 860) dL_law_859 rfl ?_
  refine Ex.sld (q := 861) (i := i + 1) dL_law_860 (w_ix (j := 1) h6 hLs (by decide)) (by omega) hLs rfl ?_
  refine Ex.aloadq (q := 862) dL_law_861 rfl rfl ?_
  refine Ex.iload_n (q := 863) dL_law_862 rfl rfl ?_
  refine Ex.iconst (q := 864) dL_law_863 ki_2 rfl ?_
  refine Ex.iadd (q := 865) dL_law_864 rfl ?_
  refine Ex.sld (q := 866) (i := i + 2) dL_law_865 (w_ix (j := 2) h6 hLs (by decide)) (by omega) hLs rfl ?_
  refine Ex.callV (q := 869) (M' := MX12_stopAt) (d' := 30) (a := 211) (ci := 12) (As := [iv (xs (i + 1)).toInt, iv (xs (i + 2)).toInt]) (rest := [iv v1.2]) dL_law_866 mlL_96 moX12_stopAt mvX12_stopAt k211 rfl (by decide) rfl rfl (Nat.le_of_ble_eq_true rfl) (by decide) (Nat.le_of_ble_eq_true rfl) ⟨by decide, by decide⟩ h1 (fun v g' m' h => by rw [h.1]) rfl (fun v2 g2 m2 t2 h2 => ?_)
  obtain ⟨rfl, h2⟩ := h2
  refine Ex.psh1 t2 ?_
  exact Ex.icmp_eq (tgt := 1767) (q := 872) dL_law_869 rfl rfl (fun _ => kk _ h2.2) (fun z => absurd h2.1.symm z)
theorem lwC_20 {bs Ls i : Nat} {xs : Nat → Int32} {Γ : Gm} {m : Mem} (hLs : Ls ≤ 3072) (h6 : i + 6 ≤ Ls) (h : SR m) (kk : ∀ m', SR m' → ExL bs Ls xs Γ 1767 i [] m') : ExL bs Ls xs Γ 874 i [] m := by
  refine Ex.aload_n (q := 875) dL_law_874 rfl rfl ?_
  refine Ex.aloadq (q := 876) dL_law_875 rfl rfl ?_
  refine Ex.iload_n (q := 877) dL_law_876 rfl rfl ?_
  refine Ex.iconst (q := 878) dL_law_877 ki_1 rfl ?_
  refine Ex.iadd (q := 879) dL_law_878 rfl ?_
  refine Ex.sld (q := 880) (i := i + 1) dL_law_879 (w_ix (j := 1) h6 hLs (by decide)) (by omega) hLs rfl ?_
  refine Ex.aloadq (q := 881) dL_law_880 rfl rfl ?_
  refine Ex.iload_n (q := 882) dL_law_881 rfl rfl ?_
  refine Ex.iconst (q := 883) dL_law_882 ki_2 rfl ?_
  refine Ex.iadd (q := 884) dL_law_883 rfl ?_
  refine Ex.sld (q := 885) (i := i + 2) dL_law_884 (w_ix (j := 2) h6 hLs (by decide)) (by omega) hLs rfl ?_
  refine Ex.callV (q := 888) (M' := MX11_comes) (d' := 30) (a := 0) (ci := 11) (As := [iv (xs (i + 1)).toInt, iv (xs (i + 2)).toInt]) (rest := []) dL_law_885 mlL_97 moX11_comes mvX11_comes k0 rfl (by decide) rfl rfl (Nat.le_of_ble_eq_true rfl) (by decide) (Nat.le_of_ble_eq_true rfl) ⟨by decide, by decide⟩ (kq_comes (d := 0) ((xs (i + 1)).toInt) ((xs (i + 2)).toInt) h) (fun v g' m' h => by rw [h.1]) rfl (fun v1 g1 m1 t1 h1 => ?_)
  obtain ⟨rfl, h1⟩ := h1
  refine Ex.psh1 t1 ?_
  refine Ex.aload_n (q := 889) dL_law_888 rfl rfl ?_
  refine Ex.aloadq (q := 890) dL_law_889 rfl rfl ?_
  refine Ex.iload_n (q := 891) dL_law_890 rfl rfl ?_
  refine Ex.iconst (q := 892) dL_law_891 ki_1 rfl ?_
  refine Ex.iadd (q := 893) dL_law_892 rfl ?_
  refine Ex.sld (q := 894) (i := i + 1) dL_law_893 (w_ix (j := 1) h6 hLs (by decide)) (by omega) hLs rfl ?_
  refine Ex.aloadq (q := 895) dL_law_894 rfl rfl ?_
  refine Ex.iload_n (q := 896) dL_law_895 rfl rfl ?_
  refine Ex.iconst (q := 897) dL_law_896 ki_2 rfl ?_
  refine Ex.iadd (q := 898) dL_law_897 rfl ?_
  refine Ex.sld (q := 899) (i := i + 2) dL_law_898 (w_ix (j := 2) h6 hLs (by decide)) (by omega) hLs rfl ?_
  refine Ex.callV (q := 902) (M' := MX12_comes) (d' := 30) (a := 211) (ci := 12) (As := [iv (xs (i + 1)).toInt, iv (xs (i + 2)).toInt]) (rest := [iv v1.2]) dL_law_899 mlL_100 moX12_comes mvX12_comes k211 rfl (by decide) rfl rfl (Nat.le_of_ble_eq_true rfl) (by decide) (Nat.le_of_ble_eq_true rfl) ⟨by decide, by decide⟩ h1 (fun v g' m' h => by rw [h.1]) rfl (fun v2 g2 m2 t2 h2 => ?_)
  obtain ⟨rfl, h2⟩ := h2
  refine Ex.psh1 t2 ?_
  exact Ex.icmp_eq (tgt := 1767) (q := 905) dL_law_902 rfl rfl (fun _ => kk _ h2.2) (fun z => absurd h2.1.symm z)
theorem lwC_21 {bs Ls i : Nat} {xs : Nat → Int32} {Γ : Gm} {m : Mem} (hLs : Ls ≤ 3072) (h6 : i + 6 ≤ Ls) (h : SR m) (kk : ∀ m', SR m' → ExL bs Ls xs Γ 1767 i [] m') : ExL bs Ls xs Γ 907 i [] m := by
  refine Ex.aload_n (q := 908) dL_law_907 rfl rfl ?_
  refine Ex.aloadq (q := 909) dL_law_908 rfl rfl ?_
  refine Ex.iload_n (q := 910) dL_law_909 rfl rfl ?_
  refine Ex.iconst (q := 911) dL_law_910 ki_1 rfl ?_
  refine Ex.iadd (q := 912) dL_law_911 rfl ?_
  refine Ex.sld (q := 913) (i := i + 1) dL_law_912 (w_ix (j := 1) h6 hLs (by decide)) (by omega) hLs rfl ?_
  refine Ex.callV (q := 916) (M' := MX11_restsBy) (d' := 30) (a := 0) (ci := 11) (As := [iv (xs (i + 1)).toInt]) (rest := []) dL_law_913 mlL_101 moX11_restsBy mvX11_restsBy k0 rfl (by decide) rfl rfl (Nat.le_of_ble_eq_true rfl) (by decide) (Nat.le_of_ble_eq_true rfl) ⟨by decide, by decide⟩ (kq_restsBy (d := 0) ((xs (i + 1)).toInt) h) (fun v g' m' h => by rw [h.1]) rfl (fun v1 g1 m1 t1 h1 => ?_)
  obtain ⟨rfl, h1⟩ := h1
  refine Ex.psh1 t1 ?_
  refine Ex.aload_n (q := 917) dL_law_916 rfl rfl ?_
  refine Ex.aloadq (q := 918) dL_law_917 rfl rfl ?_
  refine Ex.iload_n (q := 919) dL_law_918 rfl rfl ?_
  refine Ex.iconst (q := 920) dL_law_919 ki_1 rfl ?_
  refine Ex.iadd (q := 921) dL_law_920 rfl ?_
  refine Ex.sld (q := 922) (i := i + 1) dL_law_921 (w_ix (j := 1) h6 hLs (by decide)) (by omega) hLs rfl ?_
  refine Ex.callV (q := 925) (M' := MX12_restsBy) (d' := 30) (a := 211) (ci := 12) (As := [iv (xs (i + 1)).toInt]) (rest := [iv v1.2]) dL_law_922 mlL_104 moX12_restsBy mvX12_restsBy k211 rfl (by decide) rfl rfl (Nat.le_of_ble_eq_true rfl) (by decide) (Nat.le_of_ble_eq_true rfl) ⟨by decide, by decide⟩ h1 (fun v g' m' h => by rw [h.1]) rfl (fun v2 g2 m2 t2 h2 => ?_)
  obtain ⟨rfl, h2⟩ := h2
  refine Ex.psh1 t2 ?_
  exact Ex.icmp_eq (tgt := 1767) (q := 928) dL_law_925 rfl rfl (fun _ => kk _ h2.2) (fun z => absurd h2.1.symm z)
theorem lwC_22 {bs Ls i : Nat} {xs : Nat → Int32} {Γ : Gm} {m : Mem} (hLs : Ls ≤ 3072) (h6 : i + 6 ≤ Ls) (h : SR m) (kk : ∀ m', SR m' → ExL bs Ls xs Γ 1767 i [] m') : ExL bs Ls xs Γ 930 i [] m := by
  refine Ex.aload_n (q := 931) dL_law_930 rfl rfl ?_
  refine Ex.aloadq (q := 932) dL_law_931 rfl rfl ?_
  refine Ex.iload_n (q := 933) dL_law_932 rfl rfl ?_
  refine Ex.iconst (q := 934) dL_law_933 ki_1 rfl ?_
  refine Ex.iadd (q := 935) dL_law_934 rfl ?_
  refine Ex.sld (q := 936) (i := i + 1) dL_law_935 (w_ix (j := 1) h6 hLs (by decide)) (by omega) hLs rfl ?_
  refine Ex.aloadq (q := 937) dL_law_936 rfl rfl ?_
  refine Ex.iload_n (q := 938) dL_law_937 rfl rfl ?_
  refine Ex.iconst (q := 939) dL_law_938 ki_2 rfl ?_
  refine Ex.iadd (q := 940) dL_law_939 rfl ?_
  refine Ex.sld (q := 941) (i := i + 2) dL_law_940 (w_ix (j := 2) h6 hLs (by decide)) (by omega) hLs rfl ?_
  refine Ex.callV (q := 944) (M' := MX11_best) (d' := 30) (a := 0) (ci := 11) (As := [iv (xs (i + 1)).toInt, iv (xs (i + 2)).toInt]) (rest := []) dL_law_941 mlL_105 moX11_best mvX11_best k0 rfl (by decide) rfl rfl (Nat.le_of_ble_eq_true rfl) (by decide) (Nat.le_of_ble_eq_true rfl) ⟨by decide, by decide⟩ (kq_best (d := 0) ((xs (i + 1)).toInt) ((xs (i + 2)).toInt) h) (fun v g' m' h => by rw [h.1]) rfl (fun v1 g1 m1 t1 h1 => ?_)
  obtain ⟨rfl, h1⟩ := h1
  refine Ex.psh1 t1 ?_
  refine Ex.aload_n (q := 945) dL_law_944 rfl rfl ?_
  refine Ex.aloadq (q := 946) dL_law_945 rfl rfl ?_
  refine Ex.iload_n (q := 947) dL_law_946 rfl rfl ?_
  refine Ex.iconst (q := 948) dL_law_947 ki_1 rfl ?_
  refine Ex.iadd (q := 949) dL_law_948 rfl ?_
  refine Ex.sld (q := 950) (i := i + 1) dL_law_949 (w_ix (j := 1) h6 hLs (by decide)) (by omega) hLs rfl ?_
  refine Ex.aloadq (q := 951) dL_law_950 rfl rfl ?_
  refine Ex.iload_n (q := 952) dL_law_951 rfl rfl ?_
  refine Ex.iconst (q := 953) dL_law_952 ki_2 rfl ?_
  refine Ex.iadd (q := 954) dL_law_953 rfl ?_
  refine Ex.sld (q := 955) (i := i + 2) dL_law_954 (w_ix (j := 2) h6 hLs (by decide)) (by omega) hLs rfl ?_
  refine Ex.callV (q := 958) (M' := MX12_best) (d' := 30) (a := 211) (ci := 12) (As := [iv (xs (i + 1)).toInt, iv (xs (i + 2)).toInt]) (rest := [iv v1.2]) dL_law_955 mlL_108 moX12_best mvX12_best k211 rfl (by decide) rfl rfl (Nat.le_of_ble_eq_true rfl) (by decide) (Nat.le_of_ble_eq_true rfl) ⟨by decide, by decide⟩ h1 (fun v g' m' h => by rw [h.1]) rfl (fun v2 g2 m2 t2 h2 => ?_)
  obtain ⟨rfl, h2⟩ := h2
  refine Ex.psh1 t2 ?_
  exact Ex.icmp_eq (tgt := 1767) (q := 961) dL_law_958 rfl rfl (fun _ => kk _ h2.2) (fun z => absurd h2.1.symm z)
theorem lwC_23 {bs Ls i : Nat} {xs : Nat → Int32} {Γ : Gm} {m : Mem} (hLs : Ls ≤ 3072) (h6 : i + 6 ≤ Ls) (h : SR m) (kk : ∀ m', SR m' → ExL bs Ls xs Γ 1767 i [] m') : ExL bs Ls xs Γ 963 i [] m := by
  refine Ex.aload_n (q := 964) dL_law_963 rfl rfl ?_
  refine Ex.aloadq (q := 965) dL_law_964 rfl rfl ?_
  refine Ex.iload_n (q := 966) dL_law_965 rfl rfl ?_
  refine Ex.iconst (q := 967) dL_law_966 ki_1 rfl ?_
  refine Ex.iadd (q := 968) dL_law_967 rfl ?_
  refine Ex.sld (q := 969) (i := i + 1) dL_law_968 (w_ix (j := 1) h6 hLs (by decide)) (by omega) hLs rfl ?_
  refine Ex.aloadq (q := 970) dL_law_969 rfl rfl ?_
  refine Ex.iload_n (q := 971) dL_law_970 rfl rfl ?_
  refine Ex.iconst (q := 972) dL_law_971 ki_2 rfl ?_
  refine Ex.iadd (q := 973) dL_law_972 rfl ?_
  refine Ex.sld (q := 974) (i := i + 2) dL_law_973 (w_ix (j := 2) h6 hLs (by decide)) (by omega) hLs rfl ?_
  refine Ex.callV (q := 977) (M' := MX11_homeBy) (d' := 30) (a := 0) (ci := 11) (As := [iv (xs (i + 1)).toInt, iv (xs (i + 2)).toInt]) (rest := []) dL_law_974 mlL_109 moX11_homeBy mvX11_homeBy k0 rfl (by decide) rfl rfl (Nat.le_of_ble_eq_true rfl) (by decide) (Nat.le_of_ble_eq_true rfl) ⟨by decide, by decide⟩ (kq_homeBy (d := 0) ((xs (i + 1)).toInt) ((xs (i + 2)).toInt) h) (fun v g' m' h => by rw [h.1]) rfl (fun v1 g1 m1 t1 h1 => ?_)
  obtain ⟨rfl, h1⟩ := h1
  refine Ex.psh1 t1 ?_
  refine Ex.aload_n (q := 978) dL_law_977 rfl rfl ?_
  refine Ex.aloadq (q := 979) dL_law_978 rfl rfl ?_
  refine Ex.iload_n (q := 980) dL_law_979 rfl rfl ?_
  refine Ex.iconst (q := 981) dL_law_980 ki_1 rfl ?_
  refine Ex.iadd (q := 982) dL_law_981 rfl ?_
  refine Ex.sld (q := 983) (i := i + 1) dL_law_982 (w_ix (j := 1) h6 hLs (by decide)) (by omega) hLs rfl ?_
  refine Ex.aloadq (q := 984) dL_law_983 rfl rfl ?_
  refine Ex.iload_n (q := 985) dL_law_984 rfl rfl ?_
  refine Ex.iconst (q := 986) dL_law_985 ki_2 rfl ?_
  refine Ex.iadd (q := 987) dL_law_986 rfl ?_
  refine Ex.sld (q := 988) (i := i + 2) dL_law_987 (w_ix (j := 2) h6 hLs (by decide)) (by omega) hLs rfl ?_
  refine Ex.callV (q := 991) (M' := MX12_homeBy) (d' := 30) (a := 211) (ci := 12) (As := [iv (xs (i + 1)).toInt, iv (xs (i + 2)).toInt]) (rest := [iv v1.2]) dL_law_988 mlL_112 moX12_homeBy mvX12_homeBy k211 rfl (by decide) rfl rfl (Nat.le_of_ble_eq_true rfl) (by decide) (Nat.le_of_ble_eq_true rfl) ⟨by decide, by decide⟩ h1 (fun v g' m' h => by rw [h.1]) rfl (fun v2 g2 m2 t2 h2 => ?_)
  obtain ⟨rfl, h2⟩ := h2
  refine Ex.psh1 t2 ?_
  exact Ex.icmp_eq (tgt := 1767) (q := 994) dL_law_991 rfl rfl (fun _ => kk _ h2.2) (fun z => absurd h2.1.symm z)
theorem lwC_24 {bs Ls i : Nat} {xs : Nat → Int32} {Γ : Gm} {m : Mem} (hLs : Ls ≤ 3072) (h6 : i + 6 ≤ Ls) (h : SR m) (kk : ∀ m', SR m' → ExL bs Ls xs Γ 1767 i [] m') : ExL bs Ls xs Γ 996 i [] m := by
  refine Ex.aload_n (q := 997) dL_law_996 rfl rfl ?_
  refine Ex.aloadq (q := 998) dL_law_997 rfl rfl ?_
  refine Ex.iload_n (q := 999) dL_law_998 rfl rfl ?_
  refine Ex.iconst (q := 1000) dL_law_999 ki_1 rfl ?_
  refine Ex.iadd (q := 1001) dL_law_1000 rfl ?_
  refine Ex.sld (q := 1002) (i := i + 1) dL_law_1001 (w_ix (j := 1) h6 hLs (by decide)) (by omega) hLs rfl ?_
  refine Ex.callV (q := 1005) (M' := MX11_all) (d' := 30) (a := 0) (ci := 11) (As := [iv (xs (i + 1)).toInt]) (rest := []) dL_law_1002 mlL_113 moX11_all mvX11_all k0 rfl (by decide) rfl rfl (Nat.le_of_ble_eq_true rfl) (by decide) (Nat.le_of_ble_eq_true rfl) ⟨by decide, by decide⟩ (kq_all (d := 0) ((xs (i + 1)).toInt) h) (fun v g' m' h => by rw [h.1]) rfl (fun v1 g1 m1 t1 h1 => ?_)
  obtain ⟨rfl, h1⟩ := h1
  refine Ex.psh2 t1 ?_
  refine Ex.aload_n (q := 1006) dL_law_1005 rfl rfl ?_
  refine Ex.aloadq (q := 1007) dL_law_1006 rfl rfl ?_
  refine Ex.iload_n (q := 1008) dL_law_1007 rfl rfl ?_
  refine Ex.iconst (q := 1009) dL_law_1008 ki_1 rfl ?_
  refine Ex.iadd (q := 1010) dL_law_1009 rfl ?_
  refine Ex.sld (q := 1011) (i := i + 1) dL_law_1010 (w_ix (j := 1) h6 hLs (by decide)) (by omega) hLs rfl ?_
  refine Ex.callV (q := 1014) (M' := MX12_all) (d' := 30) (a := 211) (ci := 12) (As := [iv (xs (i + 1)).toInt]) (rest := [jv v1.2]) dL_law_1011 mlL_117 moX12_all mvX12_all k211 rfl (by decide) rfl rfl (Nat.le_of_ble_eq_true rfl) (by decide) (Nat.le_of_ble_eq_true rfl) ⟨by decide, by decide⟩ h1 (fun v g' m' h => by rw [h.1]) rfl (fun v2 g2 m2 t2 h2 => ?_)
  obtain ⟨rfl, h2⟩ := h2
  refine Ex.psh2 t2 ?_
  refine Ex.lcmp (q := 1015) dL_law_1014 rfl ?_
  exact Ex.if_eq (tgt := 1767) (q := 1018) dL_law_1015 rfl rfl (fun _ => kk _ h2.2) (fun z => absurd (by rw [h2.1]; exact o_lcmp_self _) z)
theorem lwC_25 {bs Ls i : Nat} {xs : Nat → Int32} {Γ : Gm} {m : Mem} (hLs : Ls ≤ 3072) (h6 : i + 6 ≤ Ls) (h : SR m) (kk : ∀ m', SR m' → ExL bs Ls xs Γ 1767 i [] m') : ExL bs Ls xs Γ 1020 i [] m := by
  refine Ex.aload_n (q := 1021) dL_law_1020 rfl rfl ?_
  refine Ex.aloadq (q := 1022) dL_law_1021 rfl rfl ?_
  refine Ex.iload_n (q := 1023) dL_law_1022 rfl rfl ?_
  refine Ex.iconst (q := 1024) dL_law_1023 ki_1 rfl ?_
  refine Ex.iadd (q := 1025) dL_law_1024 rfl ?_
  refine Ex.sld (q := 1026) (i := i + 1) dL_law_1025 (w_ix (j := 1) h6 hLs (by decide)) (by omega) hLs rfl ?_
  refine Ex.callV (q := 1029) (M' := MX11_latest) (d' := 30) (a := 0) (ci := 11) (As := [iv (xs (i + 1)).toInt]) (rest := []) dL_law_1026 mlL_118 moX11_latest mvX11_latest k0 rfl (by decide) rfl rfl (Nat.le_of_ble_eq_true rfl) (by decide) (Nat.le_of_ble_eq_true rfl) ⟨by decide, by decide⟩ (kq_latest (d := 0) ((xs (i + 1)).toInt) h) (fun v g' m' h => by rw [h.1]) rfl (fun v1 g1 m1 t1 h1 => ?_)
  obtain ⟨rfl, h1⟩ := h1
  refine Ex.psh1 t1 ?_
  refine Ex.aload_n (q := 1030) dL_law_1029 rfl rfl ?_
  refine Ex.aloadq (q := 1031) dL_law_1030 rfl rfl ?_
  refine Ex.iload_n (q := 1032) dL_law_1031 rfl rfl ?_
  refine Ex.iconst (q := 1033) dL_law_1032 ki_1 rfl ?_
  refine Ex.iadd (q := 1034) dL_law_1033 rfl ?_
  refine Ex.sld (q := 1035) (i := i + 1) dL_law_1034 (w_ix (j := 1) h6 hLs (by decide)) (by omega) hLs rfl ?_
  refine Ex.callV (q := 1038) (M' := MX12_latest) (d' := 30) (a := 211) (ci := 12) (As := [iv (xs (i + 1)).toInt]) (rest := [iv v1.2]) dL_law_1035 mlL_121 moX12_latest mvX12_latest k211 rfl (by decide) rfl rfl (Nat.le_of_ble_eq_true rfl) (by decide) (Nat.le_of_ble_eq_true rfl) ⟨by decide, by decide⟩ h1 (fun v g' m' h => by rw [h.1]) rfl (fun v2 g2 m2 t2 h2 => ?_)
  obtain ⟨rfl, h2⟩ := h2
  refine Ex.psh1 t2 ?_
  exact Ex.icmp_eq (tgt := 1767) (q := 1041) dL_law_1038 rfl rfl (fun _ => kk _ h2.2) (fun z => absurd h2.1.symm z)
theorem lwC_26 {bs Ls i : Nat} {xs : Nat → Int32} {Γ : Gm} {m : Mem} (hLs : Ls ≤ 3072) (h6 : i + 6 ≤ Ls) (h : SR m) (kk : ∀ m', SR m' → ExL bs Ls xs Γ 1767 i [] m') : ExL bs Ls xs Γ 1043 i [] m := by
  refine Ex.aload_n (q := 1044) dL_law_1043 rfl rfl ?_
  refine Ex.aloadq (q := 1045) dL_law_1044 rfl rfl ?_
  refine Ex.iload_n (q := 1046) dL_law_1045 rfl rfl ?_
  refine Ex.iconst (q := 1047) dL_law_1046 ki_1 rfl ?_
  refine Ex.iadd (q := 1048) dL_law_1047 rfl ?_
  refine Ex.sld (q := 1049) (i := i + 1) dL_law_1048 (w_ix (j := 1) h6 hLs (by decide)) (by omega) hLs rfl ?_
  refine Ex.callV (q := 1052) (M' := MX11_walkers) (d' := 30) (a := 0) (ci := 11) (As := [iv (xs (i + 1)).toInt]) (rest := []) dL_law_1049 mlL_122 moX11_walkers mvX11_walkers k0 rfl (by decide) rfl rfl (Nat.le_of_ble_eq_true rfl) (by decide) (Nat.le_of_ble_eq_true rfl) ⟨by decide, by decide⟩ (kq_walkers (d := 0) ((xs (i + 1)).toInt) h) (fun v g' m' h => by rw [h.1]) rfl (fun v1 g1 m1 t1 h1 => ?_)
  obtain ⟨rfl, h1⟩ := h1
  refine Ex.psh1 t1 ?_
  refine Ex.aload_n (q := 1053) dL_law_1052 rfl rfl ?_
  refine Ex.aloadq (q := 1054) dL_law_1053 rfl rfl ?_
  refine Ex.iload_n (q := 1055) dL_law_1054 rfl rfl ?_
  refine Ex.iconst (q := 1056) dL_law_1055 ki_1 rfl ?_
  refine Ex.iadd (q := 1057) dL_law_1056 rfl ?_
  refine Ex.sld (q := 1058) (i := i + 1) dL_law_1057 (w_ix (j := 1) h6 hLs (by decide)) (by omega) hLs rfl ?_
  refine Ex.callV (q := 1061) (M' := MX12_walkers) (d' := 30) (a := 211) (ci := 12) (As := [iv (xs (i + 1)).toInt]) (rest := [iv v1.2]) dL_law_1058 mlL_125 moX12_walkers mvX12_walkers k211 rfl (by decide) rfl rfl (Nat.le_of_ble_eq_true rfl) (by decide) (Nat.le_of_ble_eq_true rfl) ⟨by decide, by decide⟩ h1 (fun v g' m' h => by rw [h.1]) rfl (fun v2 g2 m2 t2 h2 => ?_)
  obtain ⟨rfl, h2⟩ := h2
  refine Ex.psh1 t2 ?_
  exact Ex.icmp_eq (tgt := 1767) (q := 1064) dL_law_1061 rfl rfl (fun _ => kk _ h2.2) (fun z => absurd h2.1.symm z)
theorem lwC_27 {bs Ls i : Nat} {xs : Nat → Int32} {Γ : Gm} {m : Mem} (hLs : Ls ≤ 3072) (h6 : i + 6 ≤ Ls) (h : SR m) (kk : ∀ m', SR m' → ExL bs Ls xs Γ 1767 i [] m') : ExL bs Ls xs Γ 1066 i [] m := by
  refine Ex.aload_n (q := 1067) dL_law_1066 rfl rfl ?_
  refine Ex.aloadq (q := 1068) dL_law_1067 rfl rfl ?_
  refine Ex.iload_n (q := 1069) dL_law_1068 rfl rfl ?_
  refine Ex.iconst (q := 1070) dL_law_1069 ki_1 rfl ?_
  refine Ex.iadd (q := 1071) dL_law_1070 rfl ?_
  refine Ex.sld (q := 1072) (i := i + 1) dL_law_1071 (w_ix (j := 1) h6 hLs (by decide)) (by omega) hLs rfl ?_
  refine Ex.aloadq (q := 1073) dL_law_1072 rfl rfl ?_
  refine Ex.iload_n (q := 1074) dL_law_1073 rfl rfl ?_
  refine Ex.iconst (q := 1075) dL_law_1074 ki_2 rfl ?_
  refine Ex.iadd (q := 1076) dL_law_1075 rfl ?_
  refine Ex.sld (q := 1077) (i := i + 2) dL_law_1076 (w_ix (j := 2) h6 hLs (by decide)) (by omega) hLs rfl ?_
  refine Ex.callV (q := 1080) (M' := MX11_waits) (d' := 30) (a := 0) (ci := 11) (As := [iv (xs (i + 1)).toInt, iv (xs (i + 2)).toInt]) (rest := []) dL_law_1077 mlL_126 moX11_waits mvX11_waits k0 rfl (by decide) rfl rfl (Nat.le_of_ble_eq_true rfl) (by decide) (Nat.le_of_ble_eq_true rfl) ⟨by decide, by decide⟩ (kq_waits (d := 0) ((xs (i + 1)).toInt) ((xs (i + 2)).toInt) h) (fun v g' m' h => by rw [h.1]) rfl (fun v1 g1 m1 t1 h1 => ?_)
  obtain ⟨rfl, h1⟩ := h1
  refine Ex.psh1 t1 ?_
  refine Ex.aload_n (q := 1081) dL_law_1080 rfl rfl ?_
  refine Ex.aloadq (q := 1082) dL_law_1081 rfl rfl ?_
  refine Ex.iload_n (q := 1083) dL_law_1082 rfl rfl ?_
  refine Ex.iconst (q := 1084) dL_law_1083 ki_1 rfl ?_
  refine Ex.iadd (q := 1085) dL_law_1084 rfl ?_
  refine Ex.sld (q := 1086) (i := i + 1) dL_law_1085 (w_ix (j := 1) h6 hLs (by decide)) (by omega) hLs rfl ?_
  refine Ex.aloadq (q := 1087) dL_law_1086 rfl rfl ?_
  refine Ex.iload_n (q := 1088) dL_law_1087 rfl rfl ?_
  refine Ex.iconst (q := 1089) dL_law_1088 ki_2 rfl ?_
  refine Ex.iadd (q := 1090) dL_law_1089 rfl ?_
  refine Ex.sld (q := 1091) (i := i + 2) dL_law_1090 (w_ix (j := 2) h6 hLs (by decide)) (by omega) hLs rfl ?_
  refine Ex.callV (q := 1094) (M' := MX12_waits) (d' := 30) (a := 211) (ci := 12) (As := [iv (xs (i + 1)).toInt, iv (xs (i + 2)).toInt]) (rest := [iv v1.2]) dL_law_1091 mlL_129 moX12_waits mvX12_waits k211 rfl (by decide) rfl rfl (Nat.le_of_ble_eq_true rfl) (by decide) (Nat.le_of_ble_eq_true rfl) ⟨by decide, by decide⟩ h1 (fun v g' m' h => by rw [h.1]) rfl (fun v2 g2 m2 t2 h2 => ?_)
  obtain ⟨rfl, h2⟩ := h2
  refine Ex.psh1 t2 ?_
  exact Ex.icmp_eq (tgt := 1767) (q := 1097) dL_law_1094 rfl rfl (fun _ => kk _ h2.2) (fun z => absurd h2.1.symm z)
theorem lwC_28 {bs Ls i : Nat} {xs : Nat → Int32} {Γ : Gm} {m : Mem} (hLs : Ls ≤ 3072) (h6 : i + 6 ≤ Ls) (h : SR m) (kk : ∀ m', SR m' → ExL bs Ls xs Γ 1767 i [] m') : ExL bs Ls xs Γ 1099 i [] m := by
  refine Ex.aload_n (q := 1100) dL_law_1099 rfl rfl ?_
  refine Ex.aloadq (q := 1101) dL_law_1100 rfl rfl ?_
  refine Ex.iload_n (q := 1102) dL_law_1101 rfl rfl ?_
  refine Ex.iconst (q := 1103) dL_law_1102 ki_1 rfl ?_
  refine Ex.iadd (q := 1104) dL_law_1103 rfl ?_
  refine Ex.sld (q := 1105) (i := i + 1) dL_law_1104 (w_ix (j := 1) h6 hLs (by decide)) (by omega) hLs rfl ?_
  refine Ex.callV (q := 1108) (M' := MX11_choice) (d' := 30) (a := 0) (ci := 11) (As := [iv (xs (i + 1)).toInt]) (rest := []) dL_law_1105 mlL_130 moX11_choice mvX11_choice k0 rfl (by decide) rfl rfl (Nat.le_of_ble_eq_true rfl) (by decide) (Nat.le_of_ble_eq_true rfl) ⟨by decide, by decide⟩ (kq_choice (d := 0) ((xs (i + 1)).toInt) h) (fun v g' m' h => by rw [h.1]) rfl (fun v1 g1 m1 t1 h1 => ?_)
  obtain ⟨rfl, h1⟩ := h1
  refine Ex.psh1 t1 ?_
  refine Ex.aload_n (q := 1109) dL_law_1108 rfl rfl ?_
  refine Ex.aloadq (q := 1110) dL_law_1109 rfl rfl ?_
  refine Ex.iload_n (q := 1111) dL_law_1110 rfl rfl ?_
  refine Ex.iconst (q := 1112) dL_law_1111 ki_1 rfl ?_
  refine Ex.iadd (q := 1113) dL_law_1112 rfl ?_
  refine Ex.sld (q := 1114) (i := i + 1) dL_law_1113 (w_ix (j := 1) h6 hLs (by decide)) (by omega) hLs rfl ?_
  refine Ex.callV (q := 1117) (M' := MX12_choice) (d' := 30) (a := 211) (ci := 12) (As := [iv (xs (i + 1)).toInt]) (rest := [iv v1.2]) dL_law_1114 mlL_133 moX12_choice mvX12_choice k211 rfl (by decide) rfl rfl (Nat.le_of_ble_eq_true rfl) (by decide) (Nat.le_of_ble_eq_true rfl) ⟨by decide, by decide⟩ h1 (fun v g' m' h => by rw [h.1]) rfl (fun v2 g2 m2 t2 h2 => ?_)
  obtain ⟨rfl, h2⟩ := h2
  refine Ex.psh1 t2 ?_
  exact Ex.icmp_eq (tgt := 1767) (q := 1120) dL_law_1117 rfl rfl (fun _ => kk _ h2.2) (fun z => absurd h2.1.symm z)
theorem lwC_29 {bs Ls i : Nat} {xs : Nat → Int32} {Γ : Gm} {m : Mem} (hLs : Ls ≤ 3072) (h6 : i + 6 ≤ Ls) (h : SR m) (kk : ∀ m', SR m' → ExL bs Ls xs Γ 1767 i [] m') : ExL bs Ls xs Γ 1122 i [] m := by
  refine Ex.aload_n (q := 1123) dL_law_1122 rfl rfl ?_
  refine Ex.aloadq (q := 1124) dL_law_1123 rfl rfl ?_
  refine Ex.iload_n (q := 1125) dL_law_1124 rfl rfl ?_
  refine Ex.iconst (q := 1126) dL_law_1125 ki_1 rfl ?_
  refine Ex.iadd (q := 1127) dL_law_1126 rfl ?_
  refine Ex.sld (q := 1128) (i := i + 1) dL_law_1127 (w_ix (j := 1) h6 hLs (by decide)) (by omega) hLs rfl ?_
  refine Ex.aloadq (q := 1129) dL_law_1128 rfl rfl ?_
  refine Ex.iload_n (q := 1130) dL_law_1129 rfl rfl ?_
  refine Ex.iconst (q := 1131) dL_law_1130 ki_2 rfl ?_
  refine Ex.iadd (q := 1132) dL_law_1131 rfl ?_
  refine Ex.sld (q := 1133) (i := i + 2) dL_law_1132 (w_ix (j := 2) h6 hLs (by decide)) (by omega) hLs rfl ?_
  refine Ex.callV (q := 1136) (M' := MX11_least) (d' := 30) (a := 0) (ci := 11) (As := [iv (xs (i + 1)).toInt, iv (xs (i + 2)).toInt]) (rest := []) dL_law_1133 mlL_134 moX11_least mvX11_least k0 rfl (by decide) rfl rfl (Nat.le_of_ble_eq_true rfl) (by decide) (Nat.le_of_ble_eq_true rfl) ⟨by decide, by decide⟩ (kq_least (d := 0) ((xs (i + 1)).toInt) ((xs (i + 2)).toInt) h) (fun v g' m' h => by rw [h.1]) rfl (fun v1 g1 m1 t1 h1 => ?_)
  obtain ⟨rfl, h1⟩ := h1
  refine Ex.psh2 t1 ?_
  refine Ex.aload_n (q := 1137) dL_law_1136 rfl rfl ?_
  refine Ex.aloadq (q := 1138) dL_law_1137 rfl rfl ?_
  refine Ex.iload_n (q := 1139) dL_law_1138 rfl rfl ?_
  refine Ex.iconst (q := 1140) dL_law_1139 ki_1 rfl ?_
  refine Ex.iadd (q := 1141) dL_law_1140 rfl ?_
  refine Ex.sld (q := 1142) (i := i + 1) dL_law_1141 (w_ix (j := 1) h6 hLs (by decide)) (by omega) hLs rfl ?_
  refine Ex.aloadq (q := 1143) dL_law_1142 rfl rfl ?_
  refine Ex.iload_n (q := 1144) dL_law_1143 rfl rfl ?_
  refine Ex.iconst (q := 1145) dL_law_1144 ki_2 rfl ?_
  refine Ex.iadd (q := 1146) dL_law_1145 rfl ?_
  refine Ex.sld (q := 1147) (i := i + 2) dL_law_1146 (w_ix (j := 2) h6 hLs (by decide)) (by omega) hLs rfl ?_
  refine Ex.callV (q := 1150) (M' := MX12_least) (d' := 30) (a := 211) (ci := 12) (As := [iv (xs (i + 1)).toInt, iv (xs (i + 2)).toInt]) (rest := [jv v1.2]) dL_law_1147 mlL_138 moX12_least mvX12_least k211 rfl (by decide) rfl rfl (Nat.le_of_ble_eq_true rfl) (by decide) (Nat.le_of_ble_eq_true rfl) ⟨by decide, by decide⟩ h1 (fun v g' m' h => by rw [h.1]) rfl (fun v2 g2 m2 t2 h2 => ?_)
  obtain ⟨rfl, h2⟩ := h2
  refine Ex.psh2 t2 ?_
  refine Ex.lcmp (q := 1151) dL_law_1150 rfl ?_
  exact Ex.if_eq (tgt := 1767) (q := 1154) dL_law_1151 rfl rfl (fun _ => kk _ h2.2) (fun z => absurd (by rw [h2.1]; exact o_lcmp_self _) z)
theorem lwC_30 {bs Ls i : Nat} {xs : Nat → Int32} {Γ : Gm} {m : Mem} (hLs : Ls ≤ 3072) (h6 : i + 6 ≤ Ls) (h : SR m) (kk : ∀ m', SR m' → ExL bs Ls xs Γ 1767 i [] m') : ExL bs Ls xs Γ 1156 i [] m := by
  refine Ex.aload_n (q := 1157) dL_law_1156 rfl rfl ?_
  refine Ex.aloadq (q := 1158) dL_law_1157 rfl rfl ?_
  refine Ex.iload_n (q := 1159) dL_law_1158 rfl rfl ?_
  refine Ex.iconst (q := 1160) dL_law_1159 ki_1 rfl ?_
  refine Ex.iadd (q := 1161) dL_law_1160 rfl ?_
  refine Ex.sld (q := 1162) (i := i + 1) dL_law_1161 (w_ix (j := 1) h6 hLs (by decide)) (by omega) hLs rfl ?_
  refine Ex.aloadq (q := 1163) dL_law_1162 rfl rfl ?_
  refine Ex.iload_n (q := 1164) dL_law_1163 rfl rfl ?_
  refine Ex.iconst (q := 1165) dL_law_1164 ki_2 rfl ?_
  refine Ex.iadd (q := 1166) dL_law_1165 rfl ?_
  refine Ex.sld (q := 1167) (i := i + 2) dL_law_1166 (w_ix (j := 2) h6 hLs (by decide)) (by omega) hLs rfl ?_
  refine Ex.callV (q := 1170) (M' := MX11_fairest) (d' := 30) (a := 0) (ci := 11) (As := [iv (xs (i + 1)).toInt, iv (xs (i + 2)).toInt]) (rest := []) dL_law_1167 mlL_139 moX11_fairest mvX11_fairest k0 rfl (by decide) rfl rfl (Nat.le_of_ble_eq_true rfl) (by decide) (Nat.le_of_ble_eq_true rfl) ⟨by decide, by decide⟩ (kq_fairest (d := 0) ((xs (i + 1)).toInt) ((xs (i + 2)).toInt) h) (fun v g' m' h => by rw [h.1]) rfl (fun v1 g1 m1 t1 h1 => ?_)
  obtain ⟨rfl, h1⟩ := h1
  refine Ex.psh1 t1 ?_
  refine Ex.aload_n (q := 1171) dL_law_1170 rfl rfl ?_
  refine Ex.aloadq (q := 1172) dL_law_1171 rfl rfl ?_
  refine Ex.iload_n (q := 1173) dL_law_1172 rfl rfl ?_
  refine Ex.iconst (q := 1174) dL_law_1173 ki_1 rfl ?_
  refine Ex.iadd (q := 1175) dL_law_1174 rfl ?_
  refine Ex.sld (q := 1176) (i := i + 1) dL_law_1175 (w_ix (j := 1) h6 hLs (by decide)) (by omega) hLs rfl ?_
  refine Ex.aloadq (q := 1177) dL_law_1176 rfl rfl ?_
  refine Ex.iload_n (q := 1178) dL_law_1177 rfl rfl ?_
  refine Ex.iconst (q := 1179) dL_law_1178 ki_2 rfl ?_
  refine Ex.iadd (q := 1180) dL_law_1179 rfl ?_
  refine Ex.sld (q := 1181) (i := i + 2) dL_law_1180 (w_ix (j := 2) h6 hLs (by decide)) (by omega) hLs rfl ?_
  refine Ex.callV (q := 1184) (M' := MX12_fairest) (d' := 30) (a := 211) (ci := 12) (As := [iv (xs (i + 1)).toInt, iv (xs (i + 2)).toInt]) (rest := [iv v1.2]) dL_law_1181 mlL_142 moX12_fairest mvX12_fairest k211 rfl (by decide) rfl rfl (Nat.le_of_ble_eq_true rfl) (by decide) (Nat.le_of_ble_eq_true rfl) ⟨by decide, by decide⟩ h1 (fun v g' m' h => by rw [h.1]) rfl (fun v2 g2 m2 t2 h2 => ?_)
  obtain ⟨rfl, h2⟩ := h2
  refine Ex.psh1 t2 ?_
  exact Ex.icmp_eq (tgt := 1767) (q := 1187) dL_law_1184 rfl rfl (fun _ => kk _ h2.2) (fun z => absurd h2.1.symm z)
theorem lwC_31 {bs Ls i : Nat} {xs : Nat → Int32} {Γ : Gm} {m : Mem} (hLs : Ls ≤ 3072) (h6 : i + 6 ≤ Ls) (h : SR m) (kk : ∀ m', SR m' → ExL bs Ls xs Γ 1767 i [] m') : ExL bs Ls xs Γ 1189 i [] m := by
  refine Ex.aload_n (q := 1190) dL_law_1189 rfl rfl ?_
  refine Ex.aloadq (q := 1191) dL_law_1190 rfl rfl ?_
  refine Ex.iload_n (q := 1192) dL_law_1191 rfl rfl ?_
  refine Ex.iconst (q := 1193) dL_law_1192 ki_1 rfl ?_
  refine Ex.iadd (q := 1194) dL_law_1193 rfl ?_
  refine Ex.sld (q := 1195) (i := i + 1) dL_law_1194 (w_ix (j := 1) h6 hLs (by decide)) (by omega) hLs rfl ?_
  refine Ex.aloadq (q := 1196) dL_law_1195 rfl rfl ?_
  refine Ex.iload_n (q := 1197) dL_law_1196 rfl rfl ?_
  refine Ex.iconst (q := 1198) dL_law_1197 ki_2 rfl ?_
  refine Ex.iadd (q := 1199) dL_law_1198 rfl ?_
  refine Ex.sld (q := 1200) (i := i + 2) dL_law_1199 (w_ix (j := 2) h6 hLs (by decide)) (by omega) hLs rfl ?_
  refine Ex.callV (q := 1203) (M' := MX11_costs) (d' := 30) (a := 0) (ci := 11) (As := [iv (xs (i + 1)).toInt, iv (xs (i + 2)).toInt]) (rest := []) dL_law_1200 mlL_143 moX11_costs mvX11_costs k0 rfl (by decide) rfl rfl (Nat.le_of_ble_eq_true rfl) (by decide) (Nat.le_of_ble_eq_true rfl) ⟨by decide, by decide⟩ (kq_costs (d := 0) ((xs (i + 1)).toInt) ((xs (i + 2)).toInt) h) (fun v g' m' h => by rw [h.1]) rfl (fun v1 g1 m1 t1 h1 => ?_)
  obtain ⟨rfl, h1⟩ := h1
  refine Ex.psh2 t1 ?_
  refine Ex.aload_n (q := 1204) dL_law_1203 rfl rfl ?_
  refine Ex.aloadq (q := 1205) dL_law_1204 rfl rfl ?_
  refine Ex.iload_n (q := 1206) dL_law_1205 rfl rfl ?_
  refine Ex.iconst (q := 1207) dL_law_1206 ki_1 rfl ?_
  refine Ex.iadd (q := 1208) dL_law_1207 rfl ?_
  refine Ex.sld (q := 1209) (i := i + 1) dL_law_1208 (w_ix (j := 1) h6 hLs (by decide)) (by omega) hLs rfl ?_
  refine Ex.aloadq (q := 1210) dL_law_1209 rfl rfl ?_
  refine Ex.iload_n (q := 1211) dL_law_1210 rfl rfl ?_
  refine Ex.iconst (q := 1212) dL_law_1211 ki_2 rfl ?_
  refine Ex.iadd (q := 1213) dL_law_1212 rfl ?_
  refine Ex.sld (q := 1214) (i := i + 2) dL_law_1213 (w_ix (j := 2) h6 hLs (by decide)) (by omega) hLs rfl ?_
  refine Ex.callV (q := 1217) (M' := MX12_costs) (d' := 30) (a := 211) (ci := 12) (As := [iv (xs (i + 1)).toInt, iv (xs (i + 2)).toInt]) (rest := [jv v1.2]) dL_law_1214 mlL_146 moX12_costs mvX12_costs k211 rfl (by decide) rfl rfl (Nat.le_of_ble_eq_true rfl) (by decide) (Nat.le_of_ble_eq_true rfl) ⟨by decide, by decide⟩ h1 (fun v g' m' h => by rw [h.1]) rfl (fun v2 g2 m2 t2 h2 => ?_)
  obtain ⟨rfl, h2⟩ := h2
  refine Ex.psh2 t2 ?_
  refine Ex.lcmp (q := 1218) dL_law_1217 rfl ?_
  exact Ex.if_eq (tgt := 1767) (q := 1221) dL_law_1218 rfl rfl (fun _ => kk _ h2.2) (fun z => absurd (by rw [h2.1]; exact o_lcmp_self _) z)
theorem lwC_32 {bs Ls i : Nat} {xs : Nat → Int32} {Γ : Gm} {m : Mem} (hLs : Ls ≤ 3072) (h6 : i + 6 ≤ Ls) (h : SR m) (kk : ∀ m', SR m' → ExL bs Ls xs Γ 1767 i [] m') : ExL bs Ls xs Γ 1223 i [] m := by
  refine Ex.aload_n (q := 1224) dL_law_1223 rfl rfl ?_
  refine Ex.aloadq (q := 1225) dL_law_1224 rfl rfl ?_
  refine Ex.iload_n (q := 1226) dL_law_1225 rfl rfl ?_
  refine Ex.iconst (q := 1227) dL_law_1226 ki_1 rfl ?_
  refine Ex.iadd (q := 1228) dL_law_1227 rfl ?_
  refine Ex.sld (q := 1229) (i := i + 1) dL_law_1228 (w_ix (j := 1) h6 hLs (by decide)) (by omega) hLs rfl ?_
  refine Ex.callV (q := 1232) (M' := MX11_worstLight) (d' := 30) (a := 0) (ci := 11) (As := [iv (xs (i + 1)).toInt]) (rest := []) dL_law_1229 mlL_147 moX11_worstLight mvX11_worstLight k0 rfl (by decide) rfl rfl (Nat.le_of_ble_eq_true rfl) (by decide) (Nat.le_of_ble_eq_true rfl) ⟨by decide, by decide⟩ (kq_worstLight (d := 0) ((xs (i + 1)).toInt) h) (fun v g' m' h => by rw [h.1]) rfl (fun v1 g1 m1 t1 h1 => ?_)
  obtain ⟨rfl, h1⟩ := h1
  refine Ex.psh1 t1 ?_
  refine Ex.aload_n (q := 1233) dL_law_1232 rfl rfl ?_
  refine Ex.aloadq (q := 1234) dL_law_1233 rfl rfl ?_
  refine Ex.iload_n (q := 1235) dL_law_1234 rfl rfl ?_
  refine Ex.iconst (q := 1236) dL_law_1235 ki_1 rfl ?_
  refine Ex.iadd (q := 1237) dL_law_1236 rfl ?_
  refine Ex.sld (q := 1238) (i := i + 1) dL_law_1237 (w_ix (j := 1) h6 hLs (by decide)) (by omega) hLs rfl ?_
  refine Ex.callV (q := 1241) (M' := MX12_worstLight) (d' := 30) (a := 211) (ci := 12) (As := [iv (xs (i + 1)).toInt]) (rest := [iv v1.2]) dL_law_1238 mlL_150 moX12_worstLight mvX12_worstLight k211 rfl (by decide) rfl rfl (Nat.le_of_ble_eq_true rfl) (by decide) (Nat.le_of_ble_eq_true rfl) ⟨by decide, by decide⟩ h1 (fun v g' m' h => by rw [h.1]) rfl (fun v2 g2 m2 t2 h2 => ?_)
  obtain ⟨rfl, h2⟩ := h2
  refine Ex.psh1 t2 ?_
  exact Ex.icmp_eq (tgt := 1767) (q := 1244) dL_law_1241 rfl rfl (fun _ => kk _ h2.2) (fun z => absurd h2.1.symm z)
theorem lwC_33 {bs Ls i : Nat} {xs : Nat → Int32} {Γ : Gm} {m : Mem} (hLs : Ls ≤ 3072) (h6 : i + 6 ≤ Ls) (h : SR m) (kk : ∀ m', SR m' → ExL bs Ls xs Γ 1767 i [] m') : ExL bs Ls xs Γ 1246 i [] m := by
  refine Ex.aload_n (q := 1247) dL_law_1246 rfl rfl ?_
  refine Ex.aloadq (q := 1248) dL_law_1247 rfl rfl ?_
  refine Ex.iload_n (q := 1249) dL_law_1248 rfl rfl ?_
  refine Ex.iconst (q := 1250) dL_law_1249 ki_1 rfl ?_
  refine Ex.iadd (q := 1251) dL_law_1250 rfl ?_
  refine Ex.sld (q := 1252) (i := i + 1) dL_law_1251 (w_ix (j := 1) h6 hLs (by decide)) (by omega) hLs rfl ?_
  refine Ex.callV (q := 1255) (M' := MX11_bestLight) (d' := 30) (a := 0) (ci := 11) (As := [iv (xs (i + 1)).toInt]) (rest := []) dL_law_1252 mlL_151 moX11_bestLight mvX11_bestLight k0 rfl (by decide) rfl rfl (Nat.le_of_ble_eq_true rfl) (by decide) (Nat.le_of_ble_eq_true rfl) ⟨by decide, by decide⟩ (kq_bestLight (d := 0) ((xs (i + 1)).toInt) h) (fun v g' m' h => by rw [h.1]) rfl (fun v1 g1 m1 t1 h1 => ?_)
  obtain ⟨rfl, h1⟩ := h1
  refine Ex.psh1 t1 ?_
  refine Ex.aload_n (q := 1256) dL_law_1255 rfl rfl ?_
  refine Ex.aloadq (q := 1257) dL_law_1256 rfl rfl ?_
  refine Ex.iload_n (q := 1258) dL_law_1257 rfl rfl ?_
  refine Ex.iconst (q := 1259) dL_law_1258 ki_1 rfl ?_
  refine Ex.iadd (q := 1260) dL_law_1259 rfl ?_
  refine Ex.sld (q := 1261) (i := i + 1) dL_law_1260 (w_ix (j := 1) h6 hLs (by decide)) (by omega) hLs rfl ?_
  refine Ex.callV (q := 1264) (M' := MX12_bestLight) (d' := 30) (a := 211) (ci := 12) (As := [iv (xs (i + 1)).toInt]) (rest := [iv v1.2]) dL_law_1261 mlL_154 moX12_bestLight mvX12_bestLight k211 rfl (by decide) rfl rfl (Nat.le_of_ble_eq_true rfl) (by decide) (Nat.le_of_ble_eq_true rfl) ⟨by decide, by decide⟩ h1 (fun v g' m' h => by rw [h.1]) rfl (fun v2 g2 m2 t2 h2 => ?_)
  obtain ⟨rfl, h2⟩ := h2
  refine Ex.psh1 t2 ?_
  exact Ex.icmp_eq (tgt := 1767) (q := 1267) dL_law_1264 rfl rfl (fun _ => kk _ h2.2) (fun z => absurd h2.1.symm z)
theorem lwC_34 {bs Ls i : Nat} {xs : Nat → Int32} {Γ : Gm} {m : Mem} (hLs : Ls ≤ 3072) (h6 : i + 6 ≤ Ls) (h : SR m) (kk : ∀ m', SR m' → ExL bs Ls xs Γ 1767 i [] m') : ExL bs Ls xs Γ 1269 i [] m := by
  refine Ex.aload_n (q := 1270) dL_law_1269 rfl rfl ?_
  refine Ex.aloadq (q := 1271) dL_law_1270 rfl rfl ?_
  refine Ex.iload_n (q := 1272) dL_law_1271 rfl rfl ?_
  refine Ex.iconst (q := 1273) dL_law_1272 ki_1 rfl ?_
  refine Ex.iadd (q := 1274) dL_law_1273 rfl ?_
  refine Ex.sld (q := 1275) (i := i + 1) dL_law_1274 (w_ix (j := 1) h6 hLs (by decide)) (by omega) hLs rfl ?_
  refine Ex.aloadq (q := 1276) dL_law_1275 rfl rfl ?_
  refine Ex.iload_n (q := 1277) dL_law_1276 rfl rfl ?_
  refine Ex.iconst (q := 1278) dL_law_1277 ki_2 rfl ?_
  refine Ex.iadd (q := 1279) dL_law_1278 rfl ?_
  refine Ex.sld (q := 1280) (i := i + 2) dL_law_1279 (w_ix (j := 2) h6 hLs (by decide)) (by omega) hLs rfl ?_
  refine Ex.aloadq (q := 1281) dL_law_1280 rfl rfl ?_
  refine Ex.iload_n (q := 1282) dL_law_1281 rfl rfl ?_
  refine Ex.iconst (q := 1283) dL_law_1282 ki_3 rfl ?_
  refine Ex.iadd (q := 1284) dL_law_1283 rfl ?_
  refine Ex.sld (q := 1285) (i := i + 3) dL_law_1284 (w_ix (j := 3) h6 hLs (by decide)) (by omega) hLs rfl ?_
  refine Ex.callV (q := 1288) (M' := MX11_boy) (d' := 30) (a := 0) (ci := 11) (As := [iv (xs (i + 1)).toInt, iv (xs (i + 2)).toInt, iv (xs (i + 3)).toInt]) (rest := []) dL_law_1285 mlL_155 moX11_boy mvX11_boy k0 rfl (by decide) rfl rfl (Nat.le_of_ble_eq_true rfl) (by decide) (Nat.le_of_ble_eq_true rfl) ⟨by decide, by decide⟩ (kq_boy (d := 0) ((xs (i + 1)).toInt) ((xs (i + 2)).toInt) ((xs (i + 3)).toInt) h) (fun v g' m' h => by rw [h.1]) rfl (fun v1 g1 m1 t1 h1 => ?_)
  obtain ⟨rfl, h1⟩ := h1
  refine Ex.psh2 t1 ?_
  refine Ex.aload_n (q := 1289) dL_law_1288 rfl rfl ?_
  refine Ex.aloadq (q := 1290) dL_law_1289 rfl rfl ?_
  refine Ex.iload_n (q := 1291) dL_law_1290 rfl rfl ?_
  refine Ex.iconst (q := 1292) dL_law_1291 ki_1 rfl ?_
  refine Ex.iadd (q := 1293) dL_law_1292 rfl ?_
  refine Ex.sld (q := 1294) (i := i + 1) dL_law_1293 (w_ix (j := 1) h6 hLs (by decide)) (by omega) hLs rfl ?_
  refine Ex.aloadq (q := 1295) dL_law_1294 rfl rfl ?_
  refine Ex.iload_n (q := 1296) dL_law_1295 rfl rfl ?_
  refine Ex.iconst (q := 1297) dL_law_1296 ki_2 rfl ?_
  refine Ex.iadd (q := 1298) dL_law_1297 rfl ?_
  refine Ex.sld (q := 1299) (i := i + 2) dL_law_1298 (w_ix (j := 2) h6 hLs (by decide)) (by omega) hLs rfl ?_
  refine Ex.aloadq (q := 1300) dL_law_1299 rfl rfl ?_
  refine Ex.iload_n (q := 1301) dL_law_1300 rfl rfl ?_
  refine Ex.iconst (q := 1302) dL_law_1301 ki_3 rfl ?_
  refine Ex.iadd (q := 1303) dL_law_1302 rfl ?_
  refine Ex.sld (q := 1304) (i := i + 3) dL_law_1303 (w_ix (j := 3) h6 hLs (by decide)) (by omega) hLs rfl ?_
  refine Ex.callV (q := 1307) (M' := MX12_boy) (d' := 30) (a := 211) (ci := 12) (As := [iv (xs (i + 1)).toInt, iv (xs (i + 2)).toInt, iv (xs (i + 3)).toInt]) (rest := [jv v1.2]) dL_law_1304 mlL_159 moX12_boy mvX12_boy k211 rfl (by decide) rfl rfl (Nat.le_of_ble_eq_true rfl) (by decide) (Nat.le_of_ble_eq_true rfl) ⟨by decide, by decide⟩ h1 (fun v g' m' h => by rw [h.1]) rfl (fun v2 g2 m2 t2 h2 => ?_)
  obtain ⟨rfl, h2⟩ := h2
  refine Ex.psh2 t2 ?_
  refine Ex.lcmp (q := 1308) dL_law_1307 rfl ?_
  exact Ex.if_eq (tgt := 1767) (q := 1311) dL_law_1308 rfl rfl (fun _ => kk _ h2.2) (fun z => absurd (by rw [h2.1]; exact o_lcmp_self _) z)
theorem lwC_35 {bs Ls i : Nat} {xs : Nat → Int32} {Γ : Gm} {m : Mem} (hLs : Ls ≤ 3072) (h6 : i + 6 ≤ Ls) (h : SR m) (kk : ∀ m', SR m' → ExL bs Ls xs Γ 1767 i [] m') : ExL bs Ls xs Γ 1313 i [] m := by
  refine Ex.aload_n (q := 1314) dL_law_1313 rfl rfl ?_
  refine Ex.aloadq (q := 1315) dL_law_1314 rfl rfl ?_
  refine Ex.iload_n (q := 1316) dL_law_1315 rfl rfl ?_
  refine Ex.iconst (q := 1317) dL_law_1316 ki_1 rfl ?_
  refine Ex.iadd (q := 1318) dL_law_1317 rfl ?_
  refine Ex.sld (q := 1319) (i := i + 1) dL_law_1318 (w_ix (j := 1) h6 hLs (by decide)) (by omega) hLs rfl ?_
  refine Ex.aloadq (q := 1320) dL_law_1319 rfl rfl ?_
  refine Ex.iload_n (q := 1321) dL_law_1320 rfl rfl ?_
  refine Ex.iconst (q := 1322) dL_law_1321 ki_2 rfl ?_
  refine Ex.iadd (q := 1323) dL_law_1322 rfl ?_
  refine Ex.sld (q := 1324) (i := i + 2) dL_law_1323 (w_ix (j := 2) h6 hLs (by decide)) (by omega) hLs rfl ?_
  refine Ex.aloadq (q := 1325) dL_law_1324 rfl rfl ?_
  refine Ex.iload_n (q := 1326) dL_law_1325 rfl rfl ?_
  refine Ex.iconst (q := 1327) dL_law_1326 ki_3 rfl ?_
  refine Ex.iadd (q := 1328) dL_law_1327 rfl ?_
  refine Ex.sld (q := 1329) (i := i + 3) dL_law_1328 (w_ix (j := 3) h6 hLs (by decide)) (by omega) hLs rfl ?_
  refine Ex.callV (q := 1332) (M' := MX11_parting) (d' := 30) (a := 0) (ci := 11) (As := [iv (xs (i + 1)).toInt, iv (xs (i + 2)).toInt, iv (xs (i + 3)).toInt]) (rest := []) dL_law_1329 mlL_160 moX11_parting mvX11_parting k0 rfl (by decide) rfl rfl (Nat.le_of_ble_eq_true rfl) (by decide) (Nat.le_of_ble_eq_true rfl) ⟨by decide, by decide⟩ (kq_parting (d := 0) ((xs (i + 1)).toInt) ((xs (i + 2)).toInt) ((xs (i + 3)).toInt) h) (fun v g' m' h => by rw [h.1]) rfl (fun v1 g1 m1 t1 h1 => ?_)
  obtain ⟨rfl, h1⟩ := h1
  refine Ex.psh2 t1 ?_
  refine Ex.aload_n (q := 1333) dL_law_1332 rfl rfl ?_
  refine Ex.aloadq (q := 1334) dL_law_1333 rfl rfl ?_
  refine Ex.iload_n (q := 1335) dL_law_1334 rfl rfl ?_
  refine Ex.iconst (q := 1336) dL_law_1335 ki_1 rfl ?_
  refine Ex.iadd (q := 1337) dL_law_1336 rfl ?_
  refine Ex.sld (q := 1338) (i := i + 1) dL_law_1337 (w_ix (j := 1) h6 hLs (by decide)) (by omega) hLs rfl ?_
  refine Ex.aloadq (q := 1339) dL_law_1338 rfl rfl ?_
  refine Ex.iload_n (q := 1340) dL_law_1339 rfl rfl ?_
  refine Ex.iconst (q := 1341) dL_law_1340 ki_2 rfl ?_
  refine Ex.iadd (q := 1342) dL_law_1341 rfl ?_
  refine Ex.sld (q := 1343) (i := i + 2) dL_law_1342 (w_ix (j := 2) h6 hLs (by decide)) (by omega) hLs rfl ?_
  refine Ex.aloadq (q := 1344) dL_law_1343 rfl rfl ?_
  refine Ex.iload_n (q := 1345) dL_law_1344 rfl rfl ?_
  refine Ex.iconst (q := 1346) dL_law_1345 ki_3 rfl ?_
  refine Ex.iadd (q := 1347) dL_law_1346 rfl ?_
  refine Ex.sld (q := 1348) (i := i + 3) dL_law_1347 (w_ix (j := 3) h6 hLs (by decide)) (by omega) hLs rfl ?_
  refine Ex.callV (q := 1351) (M' := MX12_parting) (d' := 30) (a := 211) (ci := 12) (As := [iv (xs (i + 1)).toInt, iv (xs (i + 2)).toInt, iv (xs (i + 3)).toInt]) (rest := [jv v1.2]) dL_law_1348 mlL_163 moX12_parting mvX12_parting k211 rfl (by decide) rfl rfl (Nat.le_of_ble_eq_true rfl) (by decide) (Nat.le_of_ble_eq_true rfl) ⟨by decide, by decide⟩ h1 (fun v g' m' h => by rw [h.1]) rfl (fun v2 g2 m2 t2 h2 => ?_)
  obtain ⟨rfl, h2⟩ := h2
  refine Ex.psh2 t2 ?_
  refine Ex.lcmp (q := 1352) dL_law_1351 rfl ?_
  exact Ex.if_eq (tgt := 1767) (q := 1355) dL_law_1352 rfl rfl (fun _ => kk _ h2.2) (fun z => absurd (by rw [h2.1]; exact o_lcmp_self _) z)
theorem lwC_36 {bs Ls i : Nat} {xs : Nat → Int32} {Γ : Gm} {m : Mem} (hLs : Ls ≤ 3072) (h6 : i + 6 ≤ Ls) (h : SR m) (kk : ∀ m', SR m' → ExL bs Ls xs Γ 1767 i [] m') : ExL bs Ls xs Γ 1357 i [] m := by
  refine Ex.aload_n (q := 1358) dL_law_1357 rfl rfl ?_
  refine Ex.callV (q := 1361) (M' := MX11_rest) (d' := 30) (a := 0) (ci := 11) (As := []) (rest := []) dL_law_1358 mlL_164 moX11_rest mvX11_rest k0 rfl (by decide) rfl rfl (Nat.le_of_ble_eq_true rfl) (by decide) (Nat.le_of_ble_eq_true rfl) ⟨by decide, by decide⟩ (kq_rest (d := 0)  h) (fun v g' m' h => by rw [h.1]) rfl (fun v1 g1 m1 t1 h1 => ?_)
  obtain ⟨rfl, h1⟩ := h1
  refine Ex.psh1 t1 ?_
  refine Ex.aload_n (q := 1362) dL_law_1361 rfl rfl ?_
  refine Ex.callV (q := 1365) (M' := MX12_rest) (d' := 30) (a := 211) (ci := 12) (As := []) (rest := [iv v1.2]) dL_law_1362 mlL_168 moX12_rest mvX12_rest k211 rfl (by decide) rfl rfl (Nat.le_of_ble_eq_true rfl) (by decide) (Nat.le_of_ble_eq_true rfl) ⟨by decide, by decide⟩ h1 (fun v g' m' h => by rw [h.1]) rfl (fun v2 g2 m2 t2 h2 => ?_)
  obtain ⟨rfl, h2⟩ := h2
  refine Ex.psh1 t2 ?_
  exact Ex.icmp_eq (tgt := 1767) (q := 1368) dL_law_1365 rfl rfl (fun _ => kk _ h2.2) (fun z => absurd h2.1.symm z)
theorem lwC_37 {bs Ls i : Nat} {xs : Nat → Int32} {Γ : Gm} {m : Mem} (hLs : Ls ≤ 3072) (h6 : i + 6 ≤ Ls) (h : SR m) (kk : ∀ m', SR m' → ExL bs Ls xs Γ 1767 i [] m') : ExL bs Ls xs Γ 1370 i [] m := by
  refine Ex.aload_n (q := 1371) dL_law_1370 rfl rfl ?_
  refine Ex.aloadq (q := 1372) dL_law_1371 rfl rfl ?_
  refine Ex.iload_n (q := 1373) dL_law_1372 rfl rfl ?_
  refine Ex.iconst (q := 1374) dL_law_1373 ki_1 rfl ?_
  refine Ex.iadd (q := 1375) dL_law_1374 rfl ?_
  refine Ex.sld (q := 1376) (i := i + 1) dL_law_1375 (w_ix (j := 1) h6 hLs (by decide)) (by omega) hLs rfl ?_
  refine Ex.callV (q := 1379) (M' := MX11_away) (d' := 30) (a := 0) (ci := 11) (As := [iv (xs (i + 1)).toInt]) (rest := []) dL_law_1376 mlL_169 moX11_away mvX11_away k0 rfl (by decide) rfl rfl (Nat.le_of_ble_eq_true rfl) (by decide) (Nat.le_of_ble_eq_true rfl) ⟨by decide, by decide⟩ (kq_away (d := 0) ((xs (i + 1)).toInt) h) (fun v g' m' h => by rw [h.1]) rfl (fun v1 g1 m1 t1 h1 => ?_)
  obtain ⟨rfl, h1⟩ := h1
  refine Ex.psh1 t1 ?_
  refine Ex.aload_n (q := 1380) dL_law_1379 rfl rfl ?_
  refine Ex.aloadq (q := 1381) dL_law_1380 rfl rfl ?_
  refine Ex.iload_n (q := 1382) dL_law_1381 rfl rfl ?_
  refine Ex.iconst (q := 1383) dL_law_1382 ki_1 rfl ?_
  refine Ex.iadd (q := 1384) dL_law_1383 rfl ?_
  refine Ex.sld (q := 1385) (i := i + 1) dL_law_1384 (w_ix (j := 1) h6 hLs (by decide)) (by omega) hLs rfl ?_
  refine Ex.callV (q := 1388) (M' := MX12_away) (d' := 30) (a := 211) (ci := 12) (As := [iv (xs (i + 1)).toInt]) (rest := [iv v1.2]) dL_law_1385 mlL_172 moX12_away mvX12_away k211 rfl (by decide) rfl rfl (Nat.le_of_ble_eq_true rfl) (by decide) (Nat.le_of_ble_eq_true rfl) ⟨by decide, by decide⟩ h1 (fun v g' m' h => by rw [h.1]) rfl (fun v2 g2 m2 t2 h2 => ?_)
  obtain ⟨rfl, h2⟩ := h2
  refine Ex.psh1 t2 ?_
  exact Ex.icmp_eq (tgt := 1767) (q := 1391) dL_law_1388 rfl rfl (fun _ => kk _ h2.2) (fun z => absurd h2.1.symm z)
theorem lwC_38 {bs Ls i : Nat} {xs : Nat → Int32} {Γ : Gm} {m : Mem} (hLs : Ls ≤ 3072) (h6 : i + 6 ≤ Ls) (h : SR m) (kk : ∀ m', SR m' → ExL bs Ls xs Γ 1767 i [] m') : ExL bs Ls xs Γ 1393 i [] m := by
  refine Ex.aload_n (q := 1394) dL_law_1393 rfl rfl ?_
  refine Ex.aloadq (q := 1395) dL_law_1394 rfl rfl ?_
  refine Ex.iload_n (q := 1396) dL_law_1395 rfl rfl ?_
  refine Ex.iconst (q := 1397) dL_law_1396 ki_1 rfl ?_
  refine Ex.iadd (q := 1398) dL_law_1397 rfl ?_
  refine Ex.sld (q := 1399) (i := i + 1) dL_law_1398 (w_ix (j := 1) h6 hLs (by decide)) (by omega) hLs rfl ?_
  refine Ex.callV (q := 1402) (M' := MX11_nearest) (d' := 30) (a := 0) (ci := 11) (As := [iv (xs (i + 1)).toInt]) (rest := []) dL_law_1399 mlL_173 moX11_nearest mvX11_nearest k0 rfl (by decide) rfl rfl (Nat.le_of_ble_eq_true rfl) (by decide) (Nat.le_of_ble_eq_true rfl) ⟨by decide, by decide⟩ (kq_nearest (d := 0) ((xs (i + 1)).toInt) h) (fun v g' m' h => by rw [h.1]) rfl (fun v1 g1 m1 t1 h1 => ?_)
  obtain ⟨rfl, h1⟩ := h1
  refine Ex.psh1 t1 ?_
  refine Ex.aload_n (q := 1403) dL_law_1402 rfl rfl ?_
  refine Ex.aloadq (q := 1404) dL_law_1403 rfl rfl ?_
  refine Ex.iload_n (q := 1405) dL_law_1404 rfl rfl ?_
  refine Ex.iconst (q := 1406) dL_law_1405 ki_1 rfl ?_
  refine Ex.iadd (q := 1407) dL_law_1406 rfl ?_
  refine Ex.sld (q := 1408) (i := i + 1) dL_law_1407 (w_ix (j := 1) h6 hLs (by decide)) (by omega) hLs rfl ?_
  refine Ex.callV (q := 1411) (M' := MX12_nearest) (d' := 30) (a := 211) (ci := 12) (As := [iv (xs (i + 1)).toInt]) (rest := [iv v1.2]) dL_law_1408 mlL_176 moX12_nearest mvX12_nearest k211 rfl (by decide) rfl rfl (Nat.le_of_ble_eq_true rfl) (by decide) (Nat.le_of_ble_eq_true rfl) ⟨by decide, by decide⟩ h1 (fun v g' m' h => by rw [h.1]) rfl (fun v2 g2 m2 t2 h2 => ?_)
  obtain ⟨rfl, h2⟩ := h2
  refine Ex.psh1 t2 ?_
  exact Ex.icmp_eq (tgt := 1767) (q := 1414) dL_law_1411 rfl rfl (fun _ => kk _ h2.2) (fun z => absurd h2.1.symm z)
theorem lwC_39 {bs Ls i : Nat} {xs : Nat → Int32} {Γ : Gm} {m : Mem} (hLs : Ls ≤ 3072) (h6 : i + 6 ≤ Ls) (h : SR m) (kk : ∀ m', SR m' → ExL bs Ls xs Γ 1767 i [] m') : ExL bs Ls xs Γ 1416 i [] m := by
  refine Ex.aload_n (q := 1417) dL_law_1416 rfl rfl ?_
  refine Ex.aloadq (q := 1418) dL_law_1417 rfl rfl ?_
  refine Ex.iload_n (q := 1419) dL_law_1418 rfl rfl ?_
  refine Ex.iconst (q := 1420) dL_law_1419 ki_1 rfl ?_
  refine Ex.iadd (q := 1421) dL_law_1420 rfl ?_
  refine Ex.sld (q := 1422) (i := i + 1) dL_law_1421 (w_ix (j := 1) h6 hLs (by decide)) (by omega) hLs rfl ?_
  refine Ex.aloadq (q := 1423) dL_law_1422 rfl rfl ?_
  refine Ex.iload_n (q := 1424) dL_law_1423 rfl rfl ?_
  refine Ex.iconst (q := 1425) dL_law_1424 ki_2 rfl ?_
  refine Ex.iadd (q := 1426) dL_law_1425 rfl ?_
  refine Ex.sld (q := 1427) (i := i + 2) dL_law_1426 (w_ix (j := 2) h6 hLs (by decide)) (by omega) hLs rfl ?_
  refine Ex.callV (q := 1430) (M' := MX11_seen) (d' := 30) (a := 0) (ci := 11) (As := [iv (xs (i + 1)).toInt, iv (xs (i + 2)).toInt]) (rest := []) dL_law_1427 mlL_177 moX11_seen mvX11_seen k0 rfl (by decide) rfl rfl (Nat.le_of_ble_eq_true rfl) (by decide) (Nat.le_of_ble_eq_true rfl) ⟨by decide, by decide⟩ (kq_seen (d := 0) ((xs (i + 1)).toInt) ((xs (i + 2)).toInt) h) (fun v g' m' h => by rw [h.1]) rfl (fun v1 g1 m1 t1 h1 => ?_)
  obtain ⟨rfl, h1⟩ := h1
  refine Ex.psh1 t1 ?_
  refine Ex.aload_n (q := 1431) dL_law_1430 rfl rfl ?_
  refine Ex.aloadq (q := 1432) dL_law_1431 rfl rfl ?_
  refine Ex.iload_n (q := 1433) dL_law_1432 rfl rfl ?_
  refine Ex.iconst (q := 1434) dL_law_1433 ki_1 rfl ?_
  refine Ex.iadd (q := 1435) dL_law_1434 rfl ?_
  refine Ex.sld (q := 1436) (i := i + 1) dL_law_1435 (w_ix (j := 1) h6 hLs (by decide)) (by omega) hLs rfl ?_
  refine Ex.aloadq (q := 1437) dL_law_1436 rfl rfl ?_
  refine Ex.iload_n (q := 1438) dL_law_1437 rfl rfl ?_
  refine Ex.iconst (q := 1439) dL_law_1438 ki_2 rfl ?_
  refine Ex.iadd (q := 1440) dL_law_1439 rfl ?_
  refine Ex.sld (q := 1441) (i := i + 2) dL_law_1440 (w_ix (j := 2) h6 hLs (by decide)) (by omega) hLs rfl ?_
  refine Ex.callV (q := 1444) (M' := MX12_seen) (d' := 30) (a := 211) (ci := 12) (As := [iv (xs (i + 1)).toInt, iv (xs (i + 2)).toInt]) (rest := [iv v1.2]) dL_law_1441 mlL_180 moX12_seen mvX12_seen k211 rfl (by decide) rfl rfl (Nat.le_of_ble_eq_true rfl) (by decide) (Nat.le_of_ble_eq_true rfl) ⟨by decide, by decide⟩ h1 (fun v g' m' h => by rw [h.1]) rfl (fun v2 g2 m2 t2 h2 => ?_)
  obtain ⟨rfl, h2⟩ := h2
  refine Ex.psh1 t2 ?_
  exact Ex.icmp_eq (tgt := 1767) (q := 1447) dL_law_1444 rfl rfl (fun _ => kk _ h2.2) (fun z => absurd h2.1.symm z)
theorem lwC_40 {bs Ls i : Nat} {xs : Nat → Int32} {Γ : Gm} {m : Mem} (hLs : Ls ≤ 3072) (h6 : i + 6 ≤ Ls) (h : SR m) (kk : ∀ m', SR m' → ExL bs Ls xs Γ 1767 i [] m') : ExL bs Ls xs Γ 1449 i [] m := by
  refine Ex.aload_n (q := 1450) dL_law_1449 rfl rfl ?_
  refine Ex.aloadq (q := 1451) dL_law_1450 rfl rfl ?_
  refine Ex.iload_n (q := 1452) dL_law_1451 rfl rfl ?_
  refine Ex.iconst (q := 1453) dL_law_1452 ki_1 rfl ?_
  refine Ex.iadd (q := 1454) dL_law_1453 rfl ?_
  refine Ex.sld (q := 1455) (i := i + 1) dL_law_1454 (w_ix (j := 1) h6 hLs (by decide)) (by omega) hLs rfl ?_
  refine Ex.aloadq (q := 1456) dL_law_1455 rfl rfl ?_
  refine Ex.iload_n (q := 1457) dL_law_1456 rfl rfl ?_
  refine Ex.iconst (q := 1458) dL_law_1457 ki_2 rfl ?_
  refine Ex.iadd (q := 1459) dL_law_1458 rfl ?_
  refine Ex.sld (q := 1460) (i := i + 2) dL_law_1459 (w_ix (j := 2) h6 hLs (by decide)) (by omega) hLs rfl ?_
  refine Ex.callV (q := 1463) (M' := MX11_sure) (d' := 30) (a := 0) (ci := 11) (As := [iv (xs (i + 1)).toInt, iv (xs (i + 2)).toInt]) (rest := []) dL_law_1460 mlL_181 moX11_sure mvX11_sure k0 rfl (by decide) rfl rfl (Nat.le_of_ble_eq_true rfl) (by decide) (Nat.le_of_ble_eq_true rfl) ⟨by decide, by decide⟩ (kq_sure (d := 0) ((xs (i + 1)).toInt) ((xs (i + 2)).toInt) h) (fun v g' m' h => by rw [h.1]) rfl (fun v1 g1 m1 t1 h1 => ?_)
  obtain ⟨rfl, h1⟩ := h1
  refine Ex.psh1 t1 ?_
  refine Ex.aload_n (q := 1464) dL_law_1463 rfl rfl ?_
  refine Ex.aloadq (q := 1465) dL_law_1464 rfl rfl ?_
  refine Ex.iload_n (q := 1466) dL_law_1465 rfl rfl ?_
  refine Ex.iconst (q := 1467) dL_law_1466 ki_1 rfl ?_
  refine Ex.iadd (q := 1468) dL_law_1467 rfl ?_
  refine Ex.sld (q := 1469) (i := i + 1) dL_law_1468 (w_ix (j := 1) h6 hLs (by decide)) (by omega) hLs rfl ?_
  refine Ex.aloadq (q := 1470) dL_law_1469 rfl rfl ?_
  refine Ex.iload_n (q := 1471) dL_law_1470 rfl rfl ?_
  refine Ex.iconst (q := 1472) dL_law_1471 ki_2 rfl ?_
  refine Ex.iadd (q := 1473) dL_law_1472 rfl ?_
  refine Ex.sld (q := 1474) (i := i + 2) dL_law_1473 (w_ix (j := 2) h6 hLs (by decide)) (by omega) hLs rfl ?_
  refine Ex.callV (q := 1477) (M' := MX12_sure) (d' := 30) (a := 211) (ci := 12) (As := [iv (xs (i + 1)).toInt, iv (xs (i + 2)).toInt]) (rest := [iv v1.2]) dL_law_1474 mlL_184 moX12_sure mvX12_sure k211 rfl (by decide) rfl rfl (Nat.le_of_ble_eq_true rfl) (by decide) (Nat.le_of_ble_eq_true rfl) ⟨by decide, by decide⟩ h1 (fun v g' m' h => by rw [h.1]) rfl (fun v2 g2 m2 t2 h2 => ?_)
  obtain ⟨rfl, h2⟩ := h2
  refine Ex.psh1 t2 ?_
  exact Ex.icmp_eq (tgt := 1767) (q := 1480) dL_law_1477 rfl rfl (fun _ => kk _ h2.2) (fun z => absurd h2.1.symm z)
theorem lwC_41 {bs Ls i : Nat} {xs : Nat → Int32} {Γ : Gm} {m : Mem} (hLs : Ls ≤ 3072) (h6 : i + 6 ≤ Ls) (h : SR m) (kk : ∀ m', SR m' → ExL bs Ls xs Γ 1767 i [] m') : ExL bs Ls xs Γ 1482 i [] m := by
  refine Ex.aload_n (q := 1483) dL_law_1482 rfl rfl ?_
  refine Ex.aloadq (q := 1484) dL_law_1483 rfl rfl ?_
  refine Ex.iload_n (q := 1485) dL_law_1484 rfl rfl ?_
  refine Ex.iconst (q := 1486) dL_law_1485 ki_1 rfl ?_
  refine Ex.iadd (q := 1487) dL_law_1486 rfl ?_
  refine Ex.sld (q := 1488) (i := i + 1) dL_law_1487 (w_ix (j := 1) h6 hLs (by decide)) (by omega) hLs rfl ?_
  refine Ex.aloadq (q := 1489) dL_law_1488 rfl rfl ?_
  refine Ex.iload_n (q := 1490) dL_law_1489 rfl rfl ?_
  refine Ex.iconst (q := 1491) dL_law_1490 ki_2 rfl ?_
  refine Ex.iadd (q := 1492) dL_law_1491 rfl ?_
  refine Ex.sld (q := 1493) (i := i + 2) dL_law_1492 (w_ix (j := 2) h6 hLs (by decide)) (by omega) hLs rfl ?_
  refine Ex.callV (q := 1496) (M' := MX11_look) (d' := 30) (a := 0) (ci := 11) (As := [iv (xs (i + 1)).toInt, iv (xs (i + 2)).toInt]) (rest := []) dL_law_1493 mlL_185 moX11_look mvX11_look k0 rfl (by decide) rfl rfl (Nat.le_of_ble_eq_true rfl) (by decide) (Nat.le_of_ble_eq_true rfl) ⟨by decide, by decide⟩ (kq_look (d := 0) ((xs (i + 1)).toInt) ((xs (i + 2)).toInt) h) (fun v g' m' h => by rw [h.1]) rfl (fun v1 g1 m1 t1 h1 => ?_)
  obtain ⟨rfl, h1⟩ := h1
  refine Ex.psh1 t1 ?_
  refine Ex.aload_n (q := 1497) dL_law_1496 rfl rfl ?_
  refine Ex.aloadq (q := 1498) dL_law_1497 rfl rfl ?_
  refine Ex.iload_n (q := 1499) dL_law_1498 rfl rfl ?_
  refine Ex.iconst (q := 1500) dL_law_1499 ki_1 rfl ?_
  refine Ex.iadd (q := 1501) dL_law_1500 rfl ?_
  refine Ex.sld (q := 1502) (i := i + 1) dL_law_1501 (w_ix (j := 1) h6 hLs (by decide)) (by omega) hLs rfl ?_
  refine Ex.aloadq (q := 1503) dL_law_1502 rfl rfl ?_
  refine Ex.iload_n (q := 1504) dL_law_1503 rfl rfl ?_
  refine Ex.iconst (q := 1505) dL_law_1504 ki_2 rfl ?_
  refine Ex.iadd (q := 1506) dL_law_1505 rfl ?_
  refine Ex.sld (q := 1507) (i := i + 2) dL_law_1506 (w_ix (j := 2) h6 hLs (by decide)) (by omega) hLs rfl ?_
  refine Ex.callV (q := 1510) (M' := MX12_look) (d' := 30) (a := 211) (ci := 12) (As := [iv (xs (i + 1)).toInt, iv (xs (i + 2)).toInt]) (rest := [iv v1.2]) dL_law_1507 mlL_188 moX12_look mvX12_look k211 rfl (by decide) rfl rfl (Nat.le_of_ble_eq_true rfl) (by decide) (Nat.le_of_ble_eq_true rfl) ⟨by decide, by decide⟩ h1 (fun v g' m' h => by rw [h.1]) rfl (fun v2 g2 m2 t2 h2 => ?_)
  obtain ⟨rfl, h2⟩ := h2
  refine Ex.psh1 t2 ?_
  exact Ex.icmp_eq (tgt := 1767) (q := 1513) dL_law_1510 rfl rfl (fun _ => kk _ h2.2) (fun z => absurd h2.1.symm z)
theorem lwC_42 {bs Ls i : Nat} {xs : Nat → Int32} {Γ : Gm} {m : Mem} (hLs : Ls ≤ 3072) (h6 : i + 6 ≤ Ls) (h : SR m) (kk : ∀ m', SR m' → ExL bs Ls xs Γ 1767 i [] m') : ExL bs Ls xs Γ 1515 i [] m := by
  refine Ex.aload_n (q := 1516) dL_law_1515 rfl rfl ?_
  refine Ex.aloadq (q := 1517) dL_law_1516 rfl rfl ?_
  refine Ex.iload_n (q := 1518) dL_law_1517 rfl rfl ?_
  refine Ex.iconst (q := 1519) dL_law_1518 ki_1 rfl ?_
  refine Ex.iadd (q := 1520) dL_law_1519 rfl ?_
  refine Ex.sld (q := 1521) (i := i + 1) dL_law_1520 (w_ix (j := 1) h6 hLs (by decide)) (by omega) hLs rfl ?_
  refine Ex.aloadq (q := 1522) dL_law_1521 rfl rfl ?_
  refine Ex.iload_n (q := 1523) dL_law_1522 rfl rfl ?_
  refine Ex.iconst (q := 1524) dL_law_1523 ki_2 rfl ?_
  refine Ex.iadd (q := 1525) dL_law_1524 rfl ?_
  refine Ex.sld (q := 1526) (i := i + 2) dL_law_1525 (w_ix (j := 2) h6 hLs (by decide)) (by omega) hLs rfl ?_
  refine Ex.callV (q := 1529) (M' := MX11_odd) (d' := 30) (a := 0) (ci := 11) (As := [iv (xs (i + 1)).toInt, iv (xs (i + 2)).toInt]) (rest := []) dL_law_1526 mlL_189 moX11_odd mvX11_odd k0 rfl (by decide) rfl rfl (Nat.le_of_ble_eq_true rfl) (by decide) (Nat.le_of_ble_eq_true rfl) ⟨by decide, by decide⟩ (kq_odd (d := 0) ((xs (i + 1)).toInt) ((xs (i + 2)).toInt) h) (fun v g' m' h => by rw [h.1]) rfl (fun v1 g1 m1 t1 h1 => ?_)
  obtain ⟨rfl, h1⟩ := h1
  refine Ex.psh1 t1 ?_
  refine Ex.aload_n (q := 1530) dL_law_1529 rfl rfl ?_
  refine Ex.aloadq (q := 1531) dL_law_1530 rfl rfl ?_
  refine Ex.iload_n (q := 1532) dL_law_1531 rfl rfl ?_
  refine Ex.iconst (q := 1533) dL_law_1532 ki_1 rfl ?_
  refine Ex.iadd (q := 1534) dL_law_1533 rfl ?_
  refine Ex.sld (q := 1535) (i := i + 1) dL_law_1534 (w_ix (j := 1) h6 hLs (by decide)) (by omega) hLs rfl ?_
  refine Ex.aloadq (q := 1536) dL_law_1535 rfl rfl ?_
  refine Ex.iload_n (q := 1537) dL_law_1536 rfl rfl ?_
  refine Ex.iconst (q := 1538) dL_law_1537 ki_2 rfl ?_
  refine Ex.iadd (q := 1539) dL_law_1538 rfl ?_
  refine Ex.sld (q := 1540) (i := i + 2) dL_law_1539 (w_ix (j := 2) h6 hLs (by decide)) (by omega) hLs rfl ?_
  refine Ex.callV (q := 1543) (M' := MX12_odd) (d' := 30) (a := 211) (ci := 12) (As := [iv (xs (i + 1)).toInt, iv (xs (i + 2)).toInt]) (rest := [iv v1.2]) dL_law_1540 mlL_192 moX12_odd mvX12_odd k211 rfl (by decide) rfl rfl (Nat.le_of_ble_eq_true rfl) (by decide) (Nat.le_of_ble_eq_true rfl) ⟨by decide, by decide⟩ h1 (fun v g' m' h => by rw [h.1]) rfl (fun v2 g2 m2 t2 h2 => ?_)
  obtain ⟨rfl, h2⟩ := h2
  refine Ex.psh1 t2 ?_
  exact Ex.icmp_eq (tgt := 1767) (q := 1546) dL_law_1543 rfl rfl (fun _ => kk _ h2.2) (fun z => absurd h2.1.symm z)
theorem lwC_43 {bs Ls i : Nat} {xs : Nat → Int32} {Γ : Gm} {m : Mem} (hLs : Ls ≤ 3072) (h6 : i + 6 ≤ Ls) (h : SR m) (kk : ∀ m', SR m' → ExL bs Ls xs Γ 1767 i [] m') : ExL bs Ls xs Γ 1548 i [] m := by
  refine Ex.aload_n (q := 1549) dL_law_1548 rfl rfl ?_
  refine Ex.aloadq (q := 1550) dL_law_1549 rfl rfl ?_
  refine Ex.iload_n (q := 1551) dL_law_1550 rfl rfl ?_
  refine Ex.iconst (q := 1552) dL_law_1551 ki_1 rfl ?_
  refine Ex.iadd (q := 1553) dL_law_1552 rfl ?_
  refine Ex.sld (q := 1554) (i := i + 1) dL_law_1553 (w_ix (j := 1) h6 hLs (by decide)) (by omega) hLs rfl ?_
  refine Ex.aloadq (q := 1555) dL_law_1554 rfl rfl ?_
  refine Ex.iload_n (q := 1556) dL_law_1555 rfl rfl ?_
  refine Ex.iconst (q := 1557) dL_law_1556 ki_2 rfl ?_
  refine Ex.iadd (q := 1558) dL_law_1557 rfl ?_
  refine Ex.sld (q := 1559) (i := i + 2) dL_law_1558 (w_ix (j := 2) h6 hLs (by decide)) (by omega) hLs rfl ?_
  refine Ex.aloadq (q := 1560) dL_law_1559 rfl rfl ?_
  refine Ex.iload_n (q := 1561) dL_law_1560 rfl rfl ?_
  refine Ex.iconst (q := 1562) dL_law_1561 ki_3 rfl ?_
  refine Ex.iadd (q := 1563) dL_law_1562 rfl ?_
  refine Ex.sld (q := 1564) (i := i + 3) dL_law_1563 (w_ix (j := 3) h6 hLs (by decide)) (by omega) hLs rfl ?_
  refine Ex.callV (q := 1567) (M' := MX11_numbers) (d' := 30) (a := 0) (ci := 11) (As := [iv (xs (i + 1)).toInt, iv (xs (i + 2)).toInt, iv (xs (i + 3)).toInt]) (rest := []) dL_law_1564 mlL_193 moX11_numbers mvX11_numbers k0 rfl (by decide) rfl rfl (Nat.le_of_ble_eq_true rfl) (by decide) (Nat.le_of_ble_eq_true rfl) ⟨by decide, by decide⟩ (kq_numbers (d := 0) ((xs (i + 1)).toInt) ((xs (i + 2)).toInt) ((xs (i + 3)).toInt) h) (fun v g' m' h => by rw [h.1]) rfl (fun v1 g1 m1 t1 h1 => ?_)
  obtain ⟨rfl, h1⟩ := h1
  refine Ex.psh1 t1 ?_
  refine Ex.aload_n (q := 1568) dL_law_1567 rfl rfl ?_
  refine Ex.aloadq (q := 1569) dL_law_1568 rfl rfl ?_
  refine Ex.iload_n (q := 1570) dL_law_1569 rfl rfl ?_
  refine Ex.iconst (q := 1571) dL_law_1570 ki_1 rfl ?_
  refine Ex.iadd (q := 1572) dL_law_1571 rfl ?_
  refine Ex.sld (q := 1573) (i := i + 1) dL_law_1572 (w_ix (j := 1) h6 hLs (by decide)) (by omega) hLs rfl ?_
  refine Ex.aloadq (q := 1574) dL_law_1573 rfl rfl ?_
  refine Ex.iload_n (q := 1575) dL_law_1574 rfl rfl ?_
  refine Ex.iconst (q := 1576) dL_law_1575 ki_2 rfl ?_
  refine Ex.iadd (q := 1577) dL_law_1576 rfl ?_
  refine Ex.sld (q := 1578) (i := i + 2) dL_law_1577 (w_ix (j := 2) h6 hLs (by decide)) (by omega) hLs rfl ?_
  refine Ex.aloadq (q := 1579) dL_law_1578 rfl rfl ?_
  refine Ex.iload_n (q := 1580) dL_law_1579 rfl rfl ?_
  refine Ex.iconst (q := 1581) dL_law_1580 ki_3 rfl ?_
  refine Ex.iadd (q := 1582) dL_law_1581 rfl ?_
  refine Ex.sld (q := 1583) (i := i + 3) dL_law_1582 (w_ix (j := 3) h6 hLs (by decide)) (by omega) hLs rfl ?_
  refine Ex.callV (q := 1586) (M' := MX12_numbers) (d' := 30) (a := 211) (ci := 12) (As := [iv (xs (i + 1)).toInt, iv (xs (i + 2)).toInt, iv (xs (i + 3)).toInt]) (rest := [iv v1.2]) dL_law_1583 mlL_196 moX12_numbers mvX12_numbers k211 rfl (by decide) rfl rfl (Nat.le_of_ble_eq_true rfl) (by decide) (Nat.le_of_ble_eq_true rfl) ⟨by decide, by decide⟩ h1 (fun v g' m' h => by rw [h.1]) rfl (fun v2 g2 m2 t2 h2 => ?_)
  obtain ⟨rfl, h2⟩ := h2
  refine Ex.psh1 t2 ?_
  exact Ex.icmp_eq (tgt := 1767) (q := 1589) dL_law_1586 rfl rfl (fun _ => kk _ h2.2) (fun z => absurd h2.1.symm z)
theorem lwC_44 {bs Ls i : Nat} {xs : Nat → Int32} {Γ : Gm} {m : Mem} (hLs : Ls ≤ 3072) (h6 : i + 6 ≤ Ls) (h : SR m) (kk : ∀ m', SR m' → ExL bs Ls xs Γ 1767 i [] m') : ExL bs Ls xs Γ 1591 i [] m := by
  refine Ex.aload_n (q := 1592) dL_law_1591 rfl rfl ?_
  refine Ex.aloadq (q := 1593) dL_law_1592 rfl rfl ?_
  refine Ex.iload_n (q := 1594) dL_law_1593 rfl rfl ?_
  refine Ex.iconst (q := 1595) dL_law_1594 ki_1 rfl ?_
  refine Ex.iadd (q := 1596) dL_law_1595 rfl ?_
  refine Ex.sld (q := 1597) (i := i + 1) dL_law_1596 (w_ix (j := 1) h6 hLs (by decide)) (by omega) hLs rfl ?_
  refine Ex.aloadq (q := 1598) dL_law_1597 rfl rfl ?_
  refine Ex.iload_n (q := 1599) dL_law_1598 rfl rfl ?_
  refine Ex.iconst (q := 1600) dL_law_1599 ki_2 rfl ?_
  refine Ex.iadd (q := 1601) dL_law_1600 rfl ?_
  refine Ex.sld (q := 1602) (i := i + 2) dL_law_1601 (w_ix (j := 2) h6 hLs (by decide)) (by omega) hLs rfl ?_
  refine Ex.aloadq (q := 1603) dL_law_1602 rfl rfl ?_
  refine Ex.iload_n (q := 1604) dL_law_1603 rfl rfl ?_
  refine Ex.iconst (q := 1605) dL_law_1604 ki_3 rfl ?_
  refine Ex.iadd (q := 1606) dL_law_1605 rfl ?_
  refine Ex.sld (q := 1607) (i := i + 3) dL_law_1606 (w_ix (j := 3) h6 hLs (by decide)) (by omega) hLs rfl ?_
  refine Ex.i2l (q := 1608) dL_law_1607 rfl ?_
  refine Ex.bipush (q := 1610) dL_law_1608 kb_32 rfl ?_
  refine Ex.lshl (q := 1611) dL_law_1610 rfl ?_
  refine Ex.aloadq (q := 1612) dL_law_1611 rfl rfl ?_
  refine Ex.iload_n (q := 1613) dL_law_1612 rfl rfl ?_
  refine Ex.iconst (q := 1614) dL_law_1613 ki_4 rfl ?_
  refine Ex.iadd (q := 1615) dL_law_1614 rfl ?_
  refine Ex.sld (q := 1616) (i := i + 4) dL_law_1615 (w_ix (j := 4) h6 hLs (by decide)) (by omega) hLs rfl ?_
  refine Ex.i2l (q := 1617) dL_law_1616 rfl ?_
  refine Ex.ldc2 (q := 1620) (x := 4294967295) dL_law_1617 klL_197 (by decide +kernel) rfl ?_
  refine Ex.land (q := 1621) dL_law_1620 rfl ?_
  refine Ex.lor (q := 1622) dL_law_1621 rfl ?_
  refine Ex.callV (q := 1625) (M' := MX11_write) (d' := 30) (a := 0) (ci := 11) (As := [iv (xs (i + 1)).toInt, iv (xs (i + 2)).toInt, jv (o_lor (o_lshl (xs (i + 3)).toInt 32) (o_land (xs (i + 4)).toInt 4294967295))]) (rest := []) dL_law_1622 mlL_199 moX11_write mvX11_write k0 rfl (by decide) rfl rfl (Nat.le_of_ble_eq_true rfl) (by decide) (Nat.le_of_ble_eq_true rfl) ⟨by decide, by decide⟩ (kq_write (d := 0) ((xs (i + 1)).toInt) ((xs (i + 2)).toInt) (o_lor (o_lshl (xs (i + 3)).toInt 32) (o_land (xs (i + 4)).toInt 4294967295)) h) (fun v g' m' h => by rw [h.1]) rfl (fun v1 g1 m1 t1 h1 => ?_)
  obtain ⟨rfl, h1⟩ := h1
  refine Ex.psh2 t1 ?_
  refine Ex.aload_n (q := 1626) dL_law_1625 rfl rfl ?_
  refine Ex.aloadq (q := 1627) dL_law_1626 rfl rfl ?_
  refine Ex.iload_n (q := 1628) dL_law_1627 rfl rfl ?_
  refine Ex.iconst (q := 1629) dL_law_1628 ki_1 rfl ?_
  refine Ex.iadd (q := 1630) dL_law_1629 rfl ?_
  refine Ex.sld (q := 1631) (i := i + 1) dL_law_1630 (w_ix (j := 1) h6 hLs (by decide)) (by omega) hLs rfl ?_
  refine Ex.aloadq (q := 1632) dL_law_1631 rfl rfl ?_
  refine Ex.iload_n (q := 1633) dL_law_1632 rfl rfl ?_
  refine Ex.iconst (q := 1634) dL_law_1633 ki_2 rfl ?_
  refine Ex.iadd (q := 1635) dL_law_1634 rfl ?_
  refine Ex.sld (q := 1636) (i := i + 2) dL_law_1635 (w_ix (j := 2) h6 hLs (by decide)) (by omega) hLs rfl ?_
  refine Ex.aloadq (q := 1637) dL_law_1636 rfl rfl ?_
  refine Ex.iload_n (q := 1638) dL_law_1637 rfl rfl ?_
  refine Ex.iconst (q := 1639) dL_law_1638 ki_3 rfl ?_
  refine Ex.iadd (q := 1640) dL_law_1639 rfl ?_
  refine Ex.sld (q := 1641) (i := i + 3) dL_law_1640 (w_ix (j := 3) h6 hLs (by decide)) (by omega) hLs rfl ?_
  refine Ex.i2l (q := 1642) dL_law_1641 rfl ?_
  refine Ex.bipush (q := 1644) dL_law_1642 kb_32 rfl ?_
  refine Ex.lshl (q := 1645) dL_law_1644 rfl ?_
  refine Ex.aloadq (q := 1646) dL_law_1645 rfl rfl ?_
  refine Ex.iload_n (q := 1647) dL_law_1646 rfl rfl ?_
  refine Ex.iconst (q := 1648) dL_law_1647 ki_4 rfl ?_
  refine Ex.iadd (q := 1649) dL_law_1648 rfl ?_
  refine Ex.sld (q := 1650) (i := i + 4) dL_law_1649 (w_ix (j := 4) h6 hLs (by decide)) (by omega) hLs rfl ?_
  refine Ex.i2l (q := 1651) dL_law_1650 rfl ?_
  refine Ex.ldc2 (q := 1654) (x := 4294967295) dL_law_1651 klL_197 (by decide +kernel) rfl ?_
  refine Ex.land (q := 1655) dL_law_1654 rfl ?_
  refine Ex.lor (q := 1656) dL_law_1655 rfl ?_
  refine Ex.callV (q := 1659) (M' := MX12_write) (d' := 30) (a := 211) (ci := 12) (As := [iv (xs (i + 1)).toInt, iv (xs (i + 2)).toInt, jv (o_lor (o_lshl (xs (i + 3)).toInt 32) (o_land (xs (i + 4)).toInt 4294967295))]) (rest := [jv v1.2]) dL_law_1656 mlL_203 moX12_write mvX12_write k211 rfl (by decide) rfl rfl (Nat.le_of_ble_eq_true rfl) (by decide) (Nat.le_of_ble_eq_true rfl) ⟨by decide, by decide⟩ h1 (fun v g' m' h => by rw [h.1]) rfl (fun v2 g2 m2 t2 h2 => ?_)
  obtain ⟨rfl, h2⟩ := h2
  refine Ex.psh2 t2 ?_
  refine Ex.lcmp (q := 1660) dL_law_1659 rfl ?_
  exact Ex.if_eq (tgt := 1767) (q := 1663) dL_law_1660 rfl rfl (fun _ => kk _ h2.2) (fun z => absurd (by rw [h2.1]; exact o_lcmp_self _) z)
theorem lwC_45 {bs Ls i : Nat} {xs : Nat → Int32} {Γ : Gm} {m : Mem} (hLs : Ls ≤ 3072) (h6 : i + 6 ≤ Ls) (h : SR m) (kk : ∀ m', SR m' → ExL bs Ls xs Γ 1767 i [] m') : ExL bs Ls xs Γ 1665 i [] m := by
  refine Ex.aload_n (q := 1666) dL_law_1665 rfl rfl ?_
  refine Ex.aloadq (q := 1667) dL_law_1666 rfl rfl ?_
  refine Ex.iload_n (q := 1668) dL_law_1667 rfl rfl ?_
  refine Ex.iconst (q := 1669) dL_law_1668 ki_1 rfl ?_
  refine Ex.iadd (q := 1670) dL_law_1669 rfl ?_
  refine Ex.sld (q := 1671) (i := i + 1) dL_law_1670 (w_ix (j := 1) h6 hLs (by decide)) (by omega) hLs rfl ?_
  refine Ex.aloadq (q := 1672) dL_law_1671 rfl rfl ?_
  refine Ex.iload_n (q := 1673) dL_law_1672 rfl rfl ?_
  refine Ex.iconst (q := 1674) dL_law_1673 ki_2 rfl ?_
  refine Ex.iadd (q := 1675) dL_law_1674 rfl ?_
  refine Ex.sld (q := 1676) (i := i + 2) dL_law_1675 (w_ix (j := 2) h6 hLs (by decide)) (by omega) hLs rfl ?_
  refine Ex.callV (q := 1679) (M' := MX11_lists) (d' := 30) (a := 0) (ci := 11) (As := [iv (xs (i + 1)).toInt, iv (xs (i + 2)).toInt]) (rest := []) dL_law_1676 mlL_204 moX11_lists mvX11_lists k0 rfl (by decide) rfl rfl (Nat.le_of_ble_eq_true rfl) (by decide) (Nat.le_of_ble_eq_true rfl) ⟨by decide, by decide⟩ (kq_lists (d := 0) ((xs (i + 1)).toInt) ((xs (i + 2)).toInt) h) (fun v g' m' h => by rw [h.1]) rfl (fun v1 g1 m1 t1 h1 => ?_)
  obtain ⟨rfl, h1⟩ := h1
  refine Ex.psh1 t1 ?_
  refine Ex.aload_n (q := 1680) dL_law_1679 rfl rfl ?_
  refine Ex.aloadq (q := 1681) dL_law_1680 rfl rfl ?_
  refine Ex.iload_n (q := 1682) dL_law_1681 rfl rfl ?_
  refine Ex.iconst (q := 1683) dL_law_1682 ki_1 rfl ?_
  refine Ex.iadd (q := 1684) dL_law_1683 rfl ?_
  refine Ex.sld (q := 1685) (i := i + 1) dL_law_1684 (w_ix (j := 1) h6 hLs (by decide)) (by omega) hLs rfl ?_
  refine Ex.aloadq (q := 1686) dL_law_1685 rfl rfl ?_
  refine Ex.iload_n (q := 1687) dL_law_1686 rfl rfl ?_
  refine Ex.iconst (q := 1688) dL_law_1687 ki_2 rfl ?_
  refine Ex.iadd (q := 1689) dL_law_1688 rfl ?_
  refine Ex.sld (q := 1690) (i := i + 2) dL_law_1689 (w_ix (j := 2) h6 hLs (by decide)) (by omega) hLs rfl ?_
  refine Ex.callV (q := 1693) (M' := MX12_lists) (d' := 30) (a := 211) (ci := 12) (As := [iv (xs (i + 1)).toInt, iv (xs (i + 2)).toInt]) (rest := [iv v1.2]) dL_law_1690 mlL_207 moX12_lists mvX12_lists k211 rfl (by decide) rfl rfl (Nat.le_of_ble_eq_true rfl) (by decide) (Nat.le_of_ble_eq_true rfl) ⟨by decide, by decide⟩ h1 (fun v g' m' h => by rw [h.1]) rfl (fun v2 g2 m2 t2 h2 => ?_)
  obtain ⟨rfl, h2⟩ := h2
  refine Ex.psh1 t2 ?_
  exact Ex.icmp_eq (tgt := 1767) (q := 1696) dL_law_1693 rfl rfl (fun _ => kk _ h2.2) (fun z => absurd h2.1.symm z)
theorem lwC_46 {bs Ls i : Nat} {xs : Nat → Int32} {Γ : Gm} {m : Mem} (hLs : Ls ≤ 3072) (h6 : i + 6 ≤ Ls) (h : SR m) (kk : ∀ m', SR m' → ExL bs Ls xs Γ 1767 i [] m') : ExL bs Ls xs Γ 1698 i [] m := by
  refine Ex.aload_n (q := 1699) dL_law_1698 rfl rfl ?_
  refine Ex.aloadq (q := 1700) dL_law_1699 rfl rfl ?_
  refine Ex.iload_n (q := 1701) dL_law_1700 rfl rfl ?_
  refine Ex.iconst (q := 1702) dL_law_1701 ki_1 rfl ?_
  refine Ex.iadd (q := 1703) dL_law_1702 rfl ?_
  refine Ex.sld (q := 1704) (i := i + 1) dL_law_1703 (w_ix (j := 1) h6 hLs (by decide)) (by omega) hLs rfl ?_
  refine Ex.callV (q := 1707) (M' := MX11_image) (d' := 30) (a := 0) (ci := 11) (As := [iv (xs (i + 1)).toInt]) (rest := []) dL_law_1704 mlL_208 moX11_image mvX11_image k0 rfl (by decide) rfl rfl (Nat.le_of_ble_eq_true rfl) (by decide) (Nat.le_of_ble_eq_true rfl) ⟨by decide, by decide⟩ (kq_image (d := 0) ((xs (i + 1)).toInt) h) (fun v g' m' h => by rw [h.1]) rfl (fun v1 g1 m1 t1 h1 => ?_)
  obtain ⟨rfl, h1⟩ := h1
  refine Ex.psh1 t1 ?_
  refine Ex.aload_n (q := 1708) dL_law_1707 rfl rfl ?_
  refine Ex.aloadq (q := 1709) dL_law_1708 rfl rfl ?_
  refine Ex.iload_n (q := 1710) dL_law_1709 rfl rfl ?_
  refine Ex.iconst (q := 1711) dL_law_1710 ki_1 rfl ?_
  refine Ex.iadd (q := 1712) dL_law_1711 rfl ?_
  refine Ex.sld (q := 1713) (i := i + 1) dL_law_1712 (w_ix (j := 1) h6 hLs (by decide)) (by omega) hLs rfl ?_
  refine Ex.callV (q := 1716) (M' := MX12_image) (d' := 30) (a := 211) (ci := 12) (As := [iv (xs (i + 1)).toInt]) (rest := [iv v1.2]) dL_law_1713 mlL_211 moX12_image mvX12_image k211 rfl (by decide) rfl rfl (Nat.le_of_ble_eq_true rfl) (by decide) (Nat.le_of_ble_eq_true rfl) ⟨by decide, by decide⟩ h1 (fun v g' m' h => by rw [h.1]) rfl (fun v2 g2 m2 t2 h2 => ?_)
  obtain ⟨rfl, h2⟩ := h2
  refine Ex.psh1 t2 ?_
  exact Ex.icmp_eq (tgt := 1767) (q := 1719) dL_law_1716 rfl rfl (fun _ => kk _ h2.2) (fun z => absurd h2.1.symm z)
theorem lwC_47 {bs Ls i : Nat} {xs : Nat → Int32} {Γ : Gm} {m : Mem} (hLs : Ls ≤ 3072) (h6 : i + 6 ≤ Ls) (h : SR m) (kk : ∀ m', SR m' → ExL bs Ls xs Γ 1767 i [] m') : ExL bs Ls xs Γ 1721 i [] m := by
  refine Ex.aload_n (q := 1722) dL_law_1721 rfl rfl ?_
  refine Ex.aloadq (q := 1723) dL_law_1722 rfl rfl ?_
  refine Ex.iload_n (q := 1724) dL_law_1723 rfl rfl ?_
  refine Ex.iconst (q := 1725) dL_law_1724 ki_1 rfl ?_
  refine Ex.iadd (q := 1726) dL_law_1725 rfl ?_
  refine Ex.sld (q := 1727) (i := i + 1) dL_law_1726 (w_ix (j := 1) h6 hLs (by decide)) (by omega) hLs rfl ?_
  refine Ex.callV (q := 1730) (M' := MX11_restore) (d' := 30) (a := 0) (ci := 11) (As := [iv (xs (i + 1)).toInt]) (rest := []) dL_law_1727 mlL_212 moX11_restore mvX11_restore k0 rfl (by decide) rfl rfl (Nat.le_of_ble_eq_true rfl) (by decide) (Nat.le_of_ble_eq_true rfl) ⟨by decide, by decide⟩ (kq_restore (d := 0) ((xs (i + 1)).toInt) h) (fun v g' m' h => by rw [h.1]) rfl (fun v1 g1 m1 t1 h1 => ?_)
  obtain ⟨rfl, h1⟩ := h1
  refine Ex.psh1 t1 ?_
  refine Ex.aload_n (q := 1731) dL_law_1730 rfl rfl ?_
  refine Ex.aloadq (q := 1732) dL_law_1731 rfl rfl ?_
  refine Ex.iload_n (q := 1733) dL_law_1732 rfl rfl ?_
  refine Ex.iconst (q := 1734) dL_law_1733 ki_1 rfl ?_
  refine Ex.iadd (q := 1735) dL_law_1734 rfl ?_
  refine Ex.sld (q := 1736) (i := i + 1) dL_law_1735 (w_ix (j := 1) h6 hLs (by decide)) (by omega) hLs rfl ?_
  refine Ex.callV (q := 1739) (M' := MX12_restore) (d' := 30) (a := 211) (ci := 12) (As := [iv (xs (i + 1)).toInt]) (rest := [iv v1.2]) dL_law_1736 mlL_215 moX12_restore mvX12_restore k211 rfl (by decide) rfl rfl (Nat.le_of_ble_eq_true rfl) (by decide) (Nat.le_of_ble_eq_true rfl) ⟨by decide, by decide⟩ h1 (fun v g' m' h => by rw [h.1]) rfl (fun v2 g2 m2 t2 h2 => ?_)
  obtain ⟨rfl, h2⟩ := h2
  refine Ex.psh1 t2 ?_
  exact Ex.icmp_eq (tgt := 1767) (q := 1742) dL_law_1739 rfl rfl (fun _ => kk _ h2.2) (fun z => absurd h2.1.symm z)
theorem lwC_48 {bs Ls i : Nat} {xs : Nat → Int32} {Γ : Gm} {m : Mem} (hLs : Ls ≤ 3072) (h6 : i + 6 ≤ Ls) (h : SR m) (kk : ∀ m', SR m' → ExL bs Ls xs Γ 1767 i [] m') : ExL bs Ls xs Γ 1744 i [] m := by
  refine Ex.aload_n (q := 1745) dL_law_1744 rfl rfl ?_
  refine Ex.aloadq (q := 1746) dL_law_1745 rfl rfl ?_
  refine Ex.iload_n (q := 1747) dL_law_1746 rfl rfl ?_
  refine Ex.iconst (q := 1748) dL_law_1747 ki_1 rfl ?_
  refine Ex.iadd (q := 1749) dL_law_1748 rfl ?_
  refine Ex.sld (q := 1750) (i := i + 1) dL_law_1749 (w_ix (j := 1) h6 hLs (by decide)) (by omega) hLs rfl ?_
  refine Ex.callV (q := 1753) (M' := MX11_count) (d' := 30) (a := 0) (ci := 11) (As := [iv (xs (i + 1)).toInt]) (rest := []) dL_law_1750 mlL_216 moX11_count mvX11_count k0 rfl (by decide) rfl rfl (Nat.le_of_ble_eq_true rfl) (by decide) (Nat.le_of_ble_eq_true rfl) ⟨by decide, by decide⟩ (kq_count (d := 0) ((xs (i + 1)).toInt) h) (fun v g' m' h => by rw [h.1]) rfl (fun v1 g1 m1 t1 h1 => ?_)
  obtain ⟨rfl, h1⟩ := h1
  refine Ex.psh1 t1 ?_
  refine Ex.aload_n (q := 1754) dL_law_1753 rfl rfl ?_
  refine Ex.aloadq (q := 1755) dL_law_1754 rfl rfl ?_
  refine Ex.iload_n (q := 1756) dL_law_1755 rfl rfl ?_
  refine Ex.iconst (q := 1757) dL_law_1756 ki_1 rfl ?_
  refine Ex.iadd (q := 1758) dL_law_1757 rfl ?_
  refine Ex.sld (q := 1759) (i := i + 1) dL_law_1758 (w_ix (j := 1) h6 hLs (by decide)) (by omega) hLs rfl ?_
  refine Ex.callV (q := 1762) (M' := MX12_count) (d' := 30) (a := 211) (ci := 12) (As := [iv (xs (i + 1)).toInt]) (rest := [iv v1.2]) dL_law_1759 mlL_219 moX12_count mvX12_count k211 rfl (by decide) rfl rfl (Nat.le_of_ble_eq_true rfl) (by decide) (Nat.le_of_ble_eq_true rfl) ⟨by decide, by decide⟩ h1 (fun v g' m' h => by rw [h.1]) rfl (fun v2 g2 m2 t2 h2 => ?_)
  obtain ⟨rfl, h2⟩ := h2
  refine Ex.psh1 t2 ?_
  exact Ex.icmp_eq (tgt := 1767) (q := 1765) dL_law_1762 rfl rfl (fun _ => kk _ h2.2) (fun z => absurd h2.1.symm z)
