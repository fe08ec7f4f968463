noncomputable def fl_0 (xs : Nat → Int32) (L : Nat) (i : Int32) (st : fSt) : Option (Unit × fSt) :=
  fBd (f_X11_status  st) fun x1 s2 =>
  fBd (f_X12_status  s2) fun x3 s4 =>
  if x1 = x3 then
    (fE s4)
  else
    (none)
set_option maxHeartbeats 4000000 in
set_option maxRecDepth 100000 in
theorem tl_0 {Qv : Unit → fSt → State → Prop} {b L : Nat} {xs : Nat → Int32} (Δ : fDl) (Γ : fGm) (hN : fNx Δ) (hM : fNm Δ) (C : fC Δ Γ cL_law RL 4 (some .boolean) 21) (hX : lX b L xs Γ) (i : Int32) (hE : ∀ s, fW Δ Γ 4 Qv 1481 [(0, .ref b), (1, .ref (fad Δ 11 0 0)), (2, .ref (fad Δ 12 0 0)), (3, .int i)] [] s (fE s)) (st : fSt) : fW Δ Γ 4 Qv 224 [(0, .ref b), (1, .ref (fad Δ 11 0 0)), (2, .ref (fad Δ 12 0 0)), (3, .int i)] [] st (fl_0 xs L i st) := by
  unfold fl_0
  refine r_aload_n (q := 225) (i := 1) (z := 1) C dL_law_224 rfl rfl rfl ?_
  refine r_callVI (q := 228) (As := []) wm_L_13 yvX11_status (c_X11_status Δ hN st) ⟨rfl, by decide⟩ C (nk_11_0 hN) (by decide) rfl (Nat.le_of_ble_eq_true rfl) dL_law_225 rfl (fun x1 s2 => ?_)
  refine r_aload_n (q := 229) (i := 2) (z := 2) C dL_law_228 rfl rfl rfl ?_
  refine r_callVI (q := 232) (As := []) wm_L_17 yvX12_status (c_X12_status Δ hM s2) ⟨rfl, by decide⟩ C (nm_12 hM) (by decide) rfl (Nat.le_of_ble_eq_true rfl) dL_law_229 rfl (fun x3 s4 => ?_)
  refine r_icmp_eq (q := 235) (tgt := 1481) C dL_law_232 (by decide) rfl ?_ ?_
  · exact hE s4
  · exact r_none

noncomputable def fl_1 (xs : Nat → Int32) (L : Nat) (i : Int32) (st : fSt) : Option (Unit × fSt) :=
  fBd (f_X11_top  st) fun x1 s2 =>
  fBd (f_X12_top  s2) fun x3 s4 =>
  if (lg_cmp x1 x3) = 0 then
    (fE s4)
  else
    (none)
set_option maxHeartbeats 4000000 in
set_option maxRecDepth 100000 in
theorem tl_1 {Qv : Unit → fSt → State → Prop} {b L : Nat} {xs : Nat → Int32} (Δ : fDl) (Γ : fGm) (hN : fNx Δ) (hM : fNm Δ) (C : fC Δ Γ cL_law RL 4 (some .boolean) 21) (hX : lX b L xs Γ) (i : Int32) (hE : ∀ s, fW Δ Γ 4 Qv 1481 [(0, .ref b), (1, .ref (fad Δ 11 0 0)), (2, .ref (fad Δ 12 0 0)), (3, .int i)] [] s (fE s)) (st : fSt) : fW Δ Γ 4 Qv 237 [(0, .ref b), (1, .ref (fad Δ 11 0 0)), (2, .ref (fad Δ 12 0 0)), (3, .int i)] [] st (fl_1 xs L i st) := by
  unfold fl_1
  refine r_aload_n (q := 238) (i := 1) (z := 1) C dL_law_237 rfl rfl rfl ?_
  refine r_callVL (q := 241) (As := []) wm_L_18 yvX11_top (c_X11_top Δ hN st) ⟨rfl, by decide⟩ C (nk_11_0 hN) (by decide) rfl (Nat.le_of_ble_eq_true rfl) dL_law_238 rfl (fun x1 s2 => ?_)
  refine r_aload_n (q := 242) (i := 2) (z := 2) C dL_law_241 rfl rfl rfl ?_
  refine r_callVL (q := 245) (As := []) wm_L_22 yvX12_top (c_X12_top Δ hM s2) ⟨rfl, by decide⟩ C (nm_12 hM) (by decide) rfl (Nat.le_of_ble_eq_true rfl) dL_law_242 rfl (fun x3 s4 => ?_)
  refine r_lcmp (q := 246) C dL_law_245 rfl ?_
  refine r_if_eq (q := 249) (tgt := 1481) C dL_law_246 (by decide) rfl ?_ ?_
  · exact hE s4
  · exact r_none

noncomputable def fl_2 (xs : Nat → Int32) (L : Nat) (i : Int32) (st : fSt) : Option (Unit × fSt) :=
  fBd (f_X11_bottom  st) fun x1 s2 =>
  fBd (f_X12_bottom  s2) fun x3 s4 =>
  if (lg_cmp x1 x3) = 0 then
    (fE s4)
  else
    (none)
set_option maxHeartbeats 4000000 in
set_option maxRecDepth 100000 in
theorem tl_2 {Qv : Unit → fSt → State → Prop} {b L : Nat} {xs : Nat → Int32} (Δ : fDl) (Γ : fGm) (hN : fNx Δ) (hM : fNm Δ) (C : fC Δ Γ cL_law RL 4 (some .boolean) 21) (hX : lX b L xs Γ) (i : Int32) (hE : ∀ s, fW Δ Γ 4 Qv 1481 [(0, .ref b), (1, .ref (fad Δ 11 0 0)), (2, .ref (fad Δ 12 0 0)), (3, .int i)] [] s (fE s)) (st : fSt) : fW Δ Γ 4 Qv 251 [(0, .ref b), (1, .ref (fad Δ 11 0 0)), (2, .ref (fad Δ 12 0 0)), (3, .int i)] [] st (fl_2 xs L i st) := by
  unfold fl_2
  refine r_aload_n (q := 252) (i := 1) (z := 1) C dL_law_251 rfl rfl rfl ?_
  refine r_callVL (q := 255) (As := []) wm_L_23 yvX11_bottom (c_X11_bottom Δ hN st) ⟨rfl, by decide⟩ C (nk_11_0 hN) (by decide) rfl (Nat.le_of_ble_eq_true rfl) dL_law_252 rfl (fun x1 s2 => ?_)
  refine r_aload_n (q := 256) (i := 2) (z := 2) C dL_law_255 rfl rfl rfl ?_
  refine r_callVL (q := 259) (As := []) wm_L_26 yvX12_bottom (c_X12_bottom Δ hM s2) ⟨rfl, by decide⟩ C (nm_12 hM) (by decide) rfl (Nat.le_of_ble_eq_true rfl) dL_law_256 rfl (fun x3 s4 => ?_)
  refine r_lcmp (q := 260) C dL_law_259 rfl ?_
  refine r_if_eq (q := 263) (tgt := 1481) C dL_law_260 (by decide) rfl ?_ ?_
  · exact hE s4
  · exact r_none

noncomputable def fl_3 (xs : Nat → Int32) (L : Nat) (i : Int32) (st : fSt) : Option (Unit × fSt) :=
  fIx (i + ((1 : Int32))) L <|
  fIx (i + ((2 : Int32))) L <|
  fIx (i + ((3 : Int32))) L <|
  fBd (f_X11_tray (xs (i + ((1 : Int32))).toNatClampNeg) (xs (i + ((2 : Int32))).toNatClampNeg) (xs (i + ((3 : Int32))).toNatClampNeg) st) fun x1 s2 =>
  fIx (i + ((1 : Int32))) L <|
  fIx (i + ((2 : Int32))) L <|
  fIx (i + ((3 : Int32))) L <|
  fBd (f_X12_tray (xs (i + ((1 : Int32))).toNatClampNeg) (xs (i + ((2 : Int32))).toNatClampNeg) (xs (i + ((3 : Int32))).toNatClampNeg) s2) fun x3 s4 =>
  if x1 = x3 then
    (fE s4)
  else
    (none)
set_option maxHeartbeats 4000000 in
set_option maxRecDepth 100000 in
theorem tl_3 {Qv : Unit → fSt → State → Prop} {b L : Nat} {xs : Nat → Int32} (Δ : fDl) (Γ : fGm) (hN : fNx Δ) (hM : fNm Δ) (C : fC Δ Γ cL_law RL 4 (some .boolean) 21) (hX : lX b L xs Γ) (i : Int32) (hE : ∀ s, fW Δ Γ 4 Qv 1481 [(0, .ref b), (1, .ref (fad Δ 11 0 0)), (2, .ref (fad Δ 12 0 0)), (3, .int i)] [] s (fE s)) (st : fSt) : fW Δ Γ 4 Qv 265 [(0, .ref b), (1, .ref (fad Δ 11 0 0)), (2, .ref (fad Δ 12 0 0)), (3, .int i)] [] st (fl_3 xs L i st) := by
  unfold fl_3
  refine r_aload_n (q := 266) (i := 1) (z := 1) C dL_law_265 rfl rfl rfl ?_
  refine r_aload_n (q := 267) (i := 0) (z := 0) C dL_law_266 rfl rfl rfl ?_
  refine r_iload_n (q := 268) (i := 3) (z := 3) C dL_law_267 rfl rfl rfl ?_
  refine r_iconst (q := 269) (v := 1) C dL_law_268 rfl (by decide) ?_
  refine r_iadd (q := 270) C dL_law_269 rfl ?_
  refine r_sld (q := 271) hX C dL_law_270 rfl ?_
  refine r_aload_n (q := 272) (i := 0) (z := 0) C dL_law_271 rfl rfl rfl ?_
  refine r_iload_n (q := 273) (i := 3) (z := 3) C dL_law_272 rfl rfl rfl ?_
  refine r_iconst (q := 274) (v := 2) C dL_law_273 rfl (by decide) ?_
  refine r_iadd (q := 275) C dL_law_274 rfl ?_
  refine r_sld (q := 276) hX C dL_law_275 rfl ?_
  refine r_aload_n (q := 277) (i := 0) (z := 0) C dL_law_276 rfl rfl rfl ?_
  refine r_iload_n (q := 278) (i := 3) (z := 3) C dL_law_277 rfl rfl rfl ?_
  refine r_iconst (q := 279) (v := 3) C dL_law_278 rfl (by decide) ?_
  refine r_iadd (q := 280) C dL_law_279 rfl ?_
  refine r_sld (q := 281) hX C dL_law_280 rfl ?_
  refine r_callVI (q := 284) (As := [.int (xs (i + ((1 : Int32))).toNatClampNeg), .int (xs (i + ((2 : Int32))).toNatClampNeg), .int (xs (i + ((3 : Int32))).toNatClampNeg)]) wm_L_27 yvX11_tray (c_X11_tray Δ hN (xs (i + ((1 : Int32))).toNatClampNeg) (xs (i + ((2 : Int32))).toNatClampNeg) (xs (i + ((3 : Int32))).toNatClampNeg) st) ⟨rfl, by decide⟩ C (nk_11_0 hN) (by decide) rfl (Nat.le_of_ble_eq_true rfl) dL_law_281 rfl (fun x1 s2 => ?_)
  refine r_aload_n (q := 285) (i := 2) (z := 2) C dL_law_284 rfl rfl rfl ?_
  refine r_aload_n (q := 286) (i := 0) (z := 0) C dL_law_285 rfl rfl rfl ?_
  refine r_iload_n (q := 287) (i := 3) (z := 3) C dL_law_286 rfl rfl rfl ?_
  refine r_iconst (q := 288) (v := 1) C dL_law_287 rfl (by decide) ?_
  refine r_iadd (q := 289) C dL_law_288 rfl ?_
  refine r_sld (q := 290) hX C dL_law_289 rfl ?_
  refine r_aload_n (q := 291) (i := 0) (z := 0) C dL_law_290 rfl rfl rfl ?_
  refine r_iload_n (q := 292) (i := 3) (z := 3) C dL_law_291 rfl rfl rfl ?_
  refine r_iconst (q := 293) (v := 2) C dL_law_292 rfl (by decide) ?_
  refine r_iadd (q := 294) C dL_law_293 rfl ?_
  refine r_sld (q := 295) hX C dL_law_294 rfl ?_
  refine r_aload_n (q := 296) (i := 0) (z := 0) C dL_law_295 rfl rfl rfl ?_
  refine r_iload_n (q := 297) (i := 3) (z := 3) C dL_law_296 rfl rfl rfl ?_
  refine r_iconst (q := 298) (v := 3) C dL_law_297 rfl (by decide) ?_
  refine r_iadd (q := 299) C dL_law_298 rfl ?_
  refine r_sld (q := 300) hX C dL_law_299 rfl ?_
  refine r_callVI (q := 303) (As := [.int (xs (i + ((1 : Int32))).toNatClampNeg), .int (xs (i + ((2 : Int32))).toNatClampNeg), .int (xs (i + ((3 : Int32))).toNatClampNeg)]) wm_L_31 yvX12_tray (c_X12_tray Δ hM (xs (i + ((1 : Int32))).toNatClampNeg) (xs (i + ((2 : Int32))).toNatClampNeg) (xs (i + ((3 : Int32))).toNatClampNeg) s2) ⟨rfl, by decide⟩ C (nm_12 hM) (by decide) rfl (Nat.le_of_ble_eq_true rfl) dL_law_300 rfl (fun x3 s4 => ?_)
  refine r_icmp_eq (q := 306) (tgt := 1481) C dL_law_303 (by decide) rfl ?_ ?_
  · exact hE s4
  · exact r_none

noncomputable def fl_4 (xs : Nat → Int32) (L : Nat) (i : Int32) (st : fSt) : Option (Unit × fSt) :=
  fIx (i + ((1 : Int32))) L <|
  fIx (i + ((2 : Int32))) L <|
  fIx (i + ((3 : Int32))) L <|
  fIx (i + ((4 : Int32))) L <|
  fBd (f_X11_write (xs (i + ((1 : Int32))).toNatClampNeg) (xs (i + ((2 : Int32))).toNatClampNeg) ((((xs (i + ((3 : Int32))).toNatClampNeg).toInt64) <<< (((32 : Int32)).toInt64 &&& 63)) ||| (((xs (i + ((4 : Int32))).toNatClampNeg).toInt64) &&& ((4294967295 : Int64)))) st) fun x1 s2 =>
  fIx (i + ((1 : Int32))) L <|
  fIx (i + ((2 : Int32))) L <|
  fIx (i + ((3 : Int32))) L <|
  fIx (i + ((4 : Int32))) L <|
  fBd (f_X12_write (xs (i + ((1 : Int32))).toNatClampNeg) (xs (i + ((2 : Int32))).toNatClampNeg) ((((xs (i + ((3 : Int32))).toNatClampNeg).toInt64) <<< (((32 : Int32)).toInt64 &&& 63)) ||| (((xs (i + ((4 : Int32))).toNatClampNeg).toInt64) &&& ((4294967295 : Int64)))) s2) fun x3 s4 =>
  if x1 = x3 then
    (fE s4)
  else
    (none)
set_option maxHeartbeats 4000000 in
set_option maxRecDepth 100000 in
theorem tl_4 {Qv : Unit → fSt → State → Prop} {b L : Nat} {xs : Nat → Int32} (Δ : fDl) (Γ : fGm) (hN : fNx Δ) (hM : fNm Δ) (C : fC Δ Γ cL_law RL 4 (some .boolean) 21) (hX : lX b L xs Γ) (i : Int32) (hE : ∀ s, fW Δ Γ 4 Qv 1481 [(0, .ref b), (1, .ref (fad Δ 11 0 0)), (2, .ref (fad Δ 12 0 0)), (3, .int i)] [] s (fE s)) (st : fSt) : fW Δ Γ 4 Qv 308 [(0, .ref b), (1, .ref (fad Δ 11 0 0)), (2, .ref (fad Δ 12 0 0)), (3, .int i)] [] st (fl_4 xs L i st) := by
  unfold fl_4
  refine r_aload_n (q := 309) (i := 1) (z := 1) C dL_law_308 rfl rfl rfl ?_
  refine r_aload_n (q := 310) (i := 0) (z := 0) C dL_law_309 rfl rfl rfl ?_
  refine r_iload_n (q := 311) (i := 3) (z := 3) C dL_law_310 rfl rfl rfl ?_
  refine r_iconst (q := 312) (v := 1) C dL_law_311 rfl (by decide) ?_
  refine r_iadd (q := 313) C dL_law_312 rfl ?_
  refine r_sld (q := 314) hX C dL_law_313 rfl ?_
  refine r_aload_n (q := 315) (i := 0) (z := 0) C dL_law_314 rfl rfl rfl ?_
  refine r_iload_n (q := 316) (i := 3) (z := 3) C dL_law_315 rfl rfl rfl ?_
  refine r_iconst (q := 317) (v := 2) C dL_law_316 rfl (by decide) ?_
  refine r_iadd (q := 318) C dL_law_317 rfl ?_
  refine r_sld (q := 319) hX C dL_law_318 rfl ?_
  refine r_aload_n (q := 320) (i := 0) (z := 0) C dL_law_319 rfl rfl rfl ?_
  refine r_iload_n (q := 321) (i := 3) (z := 3) C dL_law_320 rfl rfl rfl ?_
  refine r_iconst (q := 322) (v := 3) C dL_law_321 rfl (by decide) ?_
  refine r_iadd (q := 323) C dL_law_322 rfl ?_
  refine r_sld (q := 324) hX C dL_law_323 rfl ?_
  refine r_i2l (q := 325) C dL_law_324 rfl ?_
  refine r_bipush (q := 327) (v := 32) C dL_law_325 rfl (by decide) ?_
  refine r_lshl (q := 328) C dL_law_327 rfl ?_
  refine r_aload_n (q := 329) (i := 0) (z := 0) C dL_law_328 rfl rfl rfl ?_
  refine r_iload_n (q := 330) (i := 3) (z := 3) C dL_law_329 rfl rfl rfl ?_
  refine r_iconst (q := 331) (v := 4) C dL_law_330 rfl (by decide) ?_
  refine r_iadd (q := 332) C dL_law_331 rfl ?_
  refine r_sld (q := 333) hX C dL_law_332 rfl ?_
  refine r_i2l (q := 334) C dL_law_333 rfl ?_
  refine r_ldc2 (q := 337) C dL_law_334 rfl wl_L_32 ?_
  refine r_land (q := 338) C dL_law_337 rfl ?_
  refine r_lor (q := 339) C dL_law_338 rfl ?_
  refine r_callVI (q := 342) (As := [.int (xs (i + ((1 : Int32))).toNatClampNeg), .int (xs (i + ((2 : Int32))).toNatClampNeg), .long ((((xs (i + ((3 : Int32))).toNatClampNeg).toInt64) <<< (((32 : Int32)).toInt64 &&& 63)) ||| (((xs (i + ((4 : Int32))).toNatClampNeg).toInt64) &&& ((4294967295 : Int64))))]) wm_L_34 yvX11_write (c_X11_write Δ hN (xs (i + ((1 : Int32))).toNatClampNeg) (xs (i + ((2 : Int32))).toNatClampNeg) ((((xs (i + ((3 : Int32))).toNatClampNeg).toInt64) <<< (((32 : Int32)).toInt64 &&& 63)) ||| (((xs (i + ((4 : Int32))).toNatClampNeg).toInt64) &&& ((4294967295 : Int64)))) st) ⟨rfl, by decide⟩ C (nk_11_0 hN) (by decide) rfl (Nat.le_of_ble_eq_true rfl) dL_law_339 rfl (fun x1 s2 => ?_)
  refine r_aload_n (q := 343) (i := 2) (z := 2) C dL_law_342 rfl rfl rfl ?_
  refine r_aload_n (q := 344) (i := 0) (z := 0) C dL_law_343 rfl rfl rfl ?_
  refine r_iload_n (q := 345) (i := 3) (z := 3) C dL_law_344 rfl rfl rfl ?_
  refine r_iconst (q := 346) (v := 1) C dL_law_345 rfl (by decide) ?_
  refine r_iadd (q := 347) C dL_law_346 rfl ?_
  refine r_sld (q := 348) hX C dL_law_347 rfl ?_
  refine r_aload_n (q := 349) (i := 0) (z := 0) C dL_law_348 rfl rfl rfl ?_
  refine r_iload_n (q := 350) (i := 3) (z := 3) C dL_law_349 rfl rfl rfl ?_
  refine r_iconst (q := 351) (v := 2) C dL_law_350 rfl (by decide) ?_
  refine r_iadd (q := 352) C dL_law_351 rfl ?_
  refine r_sld (q := 353) hX C dL_law_352 rfl ?_
  refine r_aload_n (q := 354) (i := 0) (z := 0) C dL_law_353 rfl rfl rfl ?_
  refine r_iload_n (q := 355) (i := 3) (z := 3) C dL_law_354 rfl rfl rfl ?_
  refine r_iconst (q := 356) (v := 3) C dL_law_355 rfl (by decide) ?_
  refine r_iadd (q := 357) C dL_law_356 rfl ?_
  refine r_sld (q := 358) hX C dL_law_357 rfl ?_
  refine r_i2l (q := 359) C dL_law_358 rfl ?_
  refine r_bipush (q := 361) (v := 32) C dL_law_359 rfl (by decide) ?_
  refine r_lshl (q := 362) C dL_law_361 rfl ?_
  refine r_aload_n (q := 363) (i := 0) (z := 0) C dL_law_362 rfl rfl rfl ?_
  refine r_iload_n (q := 364) (i := 3) (z := 3) C dL_law_363 rfl rfl rfl ?_
  refine r_iconst (q := 365) (v := 4) C dL_law_364 rfl (by decide) ?_
  refine r_iadd (q := 366) C dL_law_365 rfl ?_
  refine r_sld (q := 367) hX C dL_law_366 rfl ?_
  refine r_i2l (q := 368) C dL_law_367 rfl ?_
  refine r_ldc2 (q := 371) C dL_law_368 rfl wl_L_32 ?_
  refine r_land (q := 372) C dL_law_371 rfl ?_
  refine r_lor (q := 373) C dL_law_372 rfl ?_
  refine r_callVI (q := 376) (As := [.int (xs (i + ((1 : Int32))).toNatClampNeg), .int (xs (i + ((2 : Int32))).toNatClampNeg), .long ((((xs (i + ((3 : Int32))).toNatClampNeg).toInt64) <<< (((32 : Int32)).toInt64 &&& 63)) ||| (((xs (i + ((4 : Int32))).toNatClampNeg).toInt64) &&& ((4294967295 : Int64))))]) wm_L_38 yvX12_write (c_X12_write Δ hM (xs (i + ((1 : Int32))).toNatClampNeg) (xs (i + ((2 : Int32))).toNatClampNeg) ((((xs (i + ((3 : Int32))).toNatClampNeg).toInt64) <<< (((32 : Int32)).toInt64 &&& 63)) ||| (((xs (i + ((4 : Int32))).toNatClampNeg).toInt64) &&& ((4294967295 : Int64)))) s2) ⟨rfl, by decide⟩ C (nm_12 hM) (by decide) rfl (Nat.le_of_ble_eq_true rfl) dL_law_373 rfl (fun x3 s4 => ?_)
  refine r_icmp_eq (q := 379) (tgt := 1481) C dL_law_376 (by decide) rfl ?_ ?_
  · exact hE s4
  · exact r_none

noncomputable def fl_5 (xs : Nat → Int32) (L : Nat) (i : Int32) (st : fSt) : Option (Unit × fSt) :=
  fIx (i + ((1 : Int32))) L <|
  fIx (i + ((2 : Int32))) L <|
  fBd (f_X11_read (xs (i + ((1 : Int32))).toNatClampNeg) (xs (i + ((2 : Int32))).toNatClampNeg) st) fun x1 s2 =>
  fIx (i + ((1 : Int32))) L <|
  fIx (i + ((2 : Int32))) L <|
  fBd (f_X12_read (xs (i + ((1 : Int32))).toNatClampNeg) (xs (i + ((2 : Int32))).toNatClampNeg) s2) fun x3 s4 =>
  if (lg_cmp x1 x3) = 0 then
    (fE s4)
  else
    (none)
set_option maxHeartbeats 4000000 in
set_option maxRecDepth 100000 in
theorem tl_5 {Qv : Unit → fSt → State → Prop} {b L : Nat} {xs : Nat → Int32} (Δ : fDl) (Γ : fGm) (hN : fNx Δ) (hM : fNm Δ) (C : fC Δ Γ cL_law RL 4 (some .boolean) 21) (hX : lX b L xs Γ) (i : Int32) (hE : ∀ s, fW Δ Γ 4 Qv 1481 [(0, .ref b), (1, .ref (fad Δ 11 0 0)), (2, .ref (fad Δ 12 0 0)), (3, .int i)] [] s (fE s)) (st : fSt) : fW Δ Γ 4 Qv 381 [(0, .ref b), (1, .ref (fad Δ 11 0 0)), (2, .ref (fad Δ 12 0 0)), (3, .int i)] [] st (fl_5 xs L i st) := by
  unfold fl_5
  refine r_aload_n (q := 382) (i := 1) (z := 1) C dL_law_381 rfl rfl rfl ?_
  refine r_aload_n (q := 383) (i := 0) (z := 0) C dL_law_382 rfl rfl rfl ?_
  refine r_iload_n (q := 384) (i := 3) (z := 3) C dL_law_383 rfl rfl rfl ?_
  refine r_iconst (q := 385) (v := 1) C dL_law_384 rfl (by decide) ?_
  refine r_iadd (q := 386) C dL_law_385 rfl ?_
  refine r_sld (q := 387) hX C dL_law_386 rfl ?_
  refine r_aload_n (q := 388) (i := 0) (z := 0) C dL_law_387 rfl rfl rfl ?_
  refine r_iload_n (q := 389) (i := 3) (z := 3) C dL_law_388 rfl rfl rfl ?_
  refine r_iconst (q := 390) (v := 2) C dL_law_389 rfl (by decide) ?_
  refine r_iadd (q := 391) C dL_law_390 rfl ?_
  refine r_sld (q := 392) hX C dL_law_391 rfl ?_
  refine r_callVL (q := 395) (As := [.int (xs (i + ((1 : Int32))).toNatClampNeg), .int (xs (i + ((2 : Int32))).toNatClampNeg)]) wm_L_39 yvX11_read (c_X11_read Δ hN (xs (i + ((1 : Int32))).toNatClampNeg) (xs (i + ((2 : Int32))).toNatClampNeg) st) ⟨rfl, by decide⟩ C (nk_11_0 hN) (by decide) rfl (Nat.le_of_ble_eq_true rfl) dL_law_392 rfl (fun x1 s2 => ?_)
  refine r_aload_n (q := 396) (i := 2) (z := 2) C dL_law_395 rfl rfl rfl ?_
  refine r_aload_n (q := 397) (i := 0) (z := 0) C dL_law_396 rfl rfl rfl ?_
  refine r_iload_n (q := 398) (i := 3) (z := 3) C dL_law_397 rfl rfl rfl ?_
  refine r_iconst (q := 399) (v := 1) C dL_law_398 rfl (by decide) ?_
  refine r_iadd (q := 400) C dL_law_399 rfl ?_
  refine r_sld (q := 401) hX C dL_law_400 rfl ?_
  refine r_aload_n (q := 402) (i := 0) (z := 0) C dL_law_401 rfl rfl rfl ?_
  refine r_iload_n (q := 403) (i := 3) (z := 3) C dL_law_402 rfl rfl rfl ?_
  refine r_iconst (q := 404) (v := 2) C dL_law_403 rfl (by decide) ?_
  refine r_iadd (q := 405) C dL_law_404 rfl ?_
  refine r_sld (q := 406) hX C dL_law_405 rfl ?_
  refine r_callVL (q := 409) (As := [.int (xs (i + ((1 : Int32))).toNatClampNeg), .int (xs (i + ((2 : Int32))).toNatClampNeg)]) wm_L_43 yvX12_read (c_X12_read Δ hM (xs (i + ((1 : Int32))).toNatClampNeg) (xs (i + ((2 : Int32))).toNatClampNeg) s2) ⟨rfl, by decide⟩ C (nm_12 hM) (by decide) rfl (Nat.le_of_ble_eq_true rfl) dL_law_406 rfl (fun x3 s4 => ?_)
  refine r_lcmp (q := 410) C dL_law_409 rfl ?_
  refine r_if_eq (q := 413) (tgt := 1481) C dL_law_410 (by decide) rfl ?_ ?_
  · exact hE s4
  · exact r_none

noncomputable def fl_6 (xs : Nat → Int32) (L : Nat) (i : Int32) (st : fSt) : Option (Unit × fSt) :=
  fIx (i + ((1 : Int32))) L <|
  fIx (i + ((2 : Int32))) L <|
  fIx (i + ((3 : Int32))) L <|
  fIx (i + ((4 : Int32))) L <|
  fIx (i + ((5 : Int32))) L <|
  fBd (f_X11_pour (xs (i + ((1 : Int32))).toNatClampNeg) (xs (i + ((2 : Int32))).toNatClampNeg) (xs (i + ((3 : Int32))).toNatClampNeg) (xs (i + ((4 : Int32))).toNatClampNeg) (xs (i + ((5 : Int32))).toNatClampNeg) st) fun x1 s2 =>
  fIx (i + ((1 : Int32))) L <|
  fIx (i + ((2 : Int32))) L <|
  fIx (i + ((3 : Int32))) L <|
  fIx (i + ((4 : Int32))) L <|
  fIx (i + ((5 : Int32))) L <|
  fBd (f_X12_pour (xs (i + ((1 : Int32))).toNatClampNeg) (xs (i + ((2 : Int32))).toNatClampNeg) (xs (i + ((3 : Int32))).toNatClampNeg) (xs (i + ((4 : Int32))).toNatClampNeg) (xs (i + ((5 : Int32))).toNatClampNeg) s2) fun x3 s4 =>
  if x1 = x3 then
    (fE s4)
  else
    (none)
set_option maxHeartbeats 4000000 in
set_option maxRecDepth 100000 in
theorem tl_6 {Qv : Unit → fSt → State → Prop} {b L : Nat} {xs : Nat → Int32} (Δ : fDl) (Γ : fGm) (hN : fNx Δ) (hM : fNm Δ) (C : fC Δ Γ cL_law RL 4 (some .boolean) 21) (hX : lX b L xs Γ) (i : Int32) (hE : ∀ s, fW Δ Γ 4 Qv 1481 [(0, .ref b), (1, .ref (fad Δ 11 0 0)), (2, .ref (fad Δ 12 0 0)), (3, .int i)] [] s (fE s)) (st : fSt) : fW Δ Γ 4 Qv 415 [(0, .ref b), (1, .ref (fad Δ 11 0 0)), (2, .ref (fad Δ 12 0 0)), (3, .int i)] [] st (fl_6 xs L i st) := by
  unfold fl_6
  refine r_aload_n (q := 416) (i := 1) (z := 1) C dL_law_415 rfl rfl rfl ?_
  refine r_aload_n (q := 417) (i := 0) (z := 0) C dL_law_416 rfl rfl rfl ?_
  refine r_iload_n (q := 418) (i := 3) (z := 3) C dL_law_417 rfl rfl rfl ?_
  refine r_iconst (q := 419) (v := 1) C dL_law_418 rfl (by decide) ?_
  refine r_iadd (q := 420) C dL_law_419 rfl ?_
  refine r_sld (q := 421) hX C dL_law_420 rfl ?_
  refine r_aload_n (q := 422) (i := 0) (z := 0) C dL_law_421 rfl rfl rfl ?_
  refine r_iload_n (q := 423) (i := 3) (z := 3) C dL_law_422 rfl rfl rfl ?_
  refine r_iconst (q := 424) (v := 2) C dL_law_423 rfl (by decide) ?_
  refine r_iadd (q := 425) C dL_law_424 rfl ?_
  refine r_sld (q := 426) hX C dL_law_425 rfl ?_
  refine r_aload_n (q := 427) (i := 0) (z := 0) C dL_law_426 rfl rfl rfl ?_
  refine r_iload_n (q := 428) (i := 3) (z := 3) C dL_law_427 rfl rfl rfl ?_
  refine r_iconst (q := 429) (v := 3) C dL_law_428 rfl (by decide) ?_
  refine r_iadd (q := 430) C dL_law_429 rfl ?_
  refine r_sld (q := 431) hX C dL_law_430 rfl ?_
  refine r_aload_n (q := 432) (i := 0) (z := 0) C dL_law_431 rfl rfl rfl ?_
  refine r_iload_n (q := 433) (i := 3) (z := 3) C dL_law_432 rfl rfl rfl ?_
  refine r_iconst (q := 434) (v := 4) C dL_law_433 rfl (by decide) ?_
  refine r_iadd (q := 435) C dL_law_434 rfl ?_
  refine r_sld (q := 436) hX C dL_law_435 rfl ?_
  refine r_aload_n (q := 437) (i := 0) (z := 0) C dL_law_436 rfl rfl rfl ?_
  refine r_iload_n (q := 438) (i := 3) (z := 3) C dL_law_437 rfl rfl rfl ?_
  refine r_iconst (q := 439) (v := 5) C dL_law_438 rfl (by decide) ?_
  refine r_iadd (q := 440) C dL_law_439 rfl ?_
  refine r_sld (q := 441) hX C dL_law_440 rfl ?_
  refine r_callVI (q := 444) (As := [.int (xs (i + ((1 : Int32))).toNatClampNeg), .int (xs (i + ((2 : Int32))).toNatClampNeg), .int (xs (i + ((3 : Int32))).toNatClampNeg), .int (xs (i + ((4 : Int32))).toNatClampNeg), .int (xs (i + ((5 : Int32))).toNatClampNeg)]) wm_L_44 yvX11_pour (c_X11_pour Δ hN (xs (i + ((1 : Int32))).toNatClampNeg) (xs (i + ((2 : Int32))).toNatClampNeg) (xs (i + ((3 : Int32))).toNatClampNeg) (xs (i + ((4 : Int32))).toNatClampNeg) (xs (i + ((5 : Int32))).toNatClampNeg) st) ⟨rfl, by decide⟩ C (nk_11_0 hN) (by decide) rfl (Nat.le_of_ble_eq_true rfl) dL_law_441 rfl (fun x1 s2 => ?_)
  refine r_aload_n (q := 445) (i := 2) (z := 2) C dL_law_444 rfl rfl rfl ?_
  refine r_aload_n (q := 446) (i := 0) (z := 0) C dL_law_445 rfl rfl rfl ?_
  refine r_iload_n (q := 447) (i := 3) (z := 3) C dL_law_446 rfl rfl rfl ?_
  refine r_iconst (q := 448) (v := 1) C dL_law_447 rfl (by decide) ?_
  refine r_iadd (q := 449) C dL_law_448 rfl ?_
  refine r_sld (q := 450) hX C dL_law_449 rfl ?_
  refine r_aload_n (q := 451) (i := 0) (z := 0) C dL_law_450 rfl rfl rfl ?_
  refine r_iload_n (q := 452) (i := 3) (z := 3) C dL_law_451 rfl rfl rfl ?_
  refine r_iconst (q := 453) (v := 2) C dL_law_452 rfl (by decide) ?_
  refine r_iadd (q := 454) C dL_law_453 rfl ?_
  refine r_sld (q := 455) hX C dL_law_454 rfl ?_
  refine r_aload_n (q := 456) (i := 0) (z := 0) C dL_law_455 rfl rfl rfl ?_
  refine r_iload_n (q := 457) (i := 3) (z := 3) C dL_law_456 rfl rfl rfl ?_
  refine r_iconst (q := 458) (v := 3) C dL_law_457 rfl (by decide) ?_
  refine r_iadd (q := 459) C dL_law_458 rfl ?_
  refine r_sld (q := 460) hX C dL_law_459 rfl ?_
  refine r_aload_n (q := 461) (i := 0) (z := 0) C dL_law_460 rfl rfl rfl ?_
  refine r_iload_n (q := 462) (i := 3) (z := 3) C dL_law_461 rfl rfl rfl ?_
  refine r_iconst (q := 463) (v := 4) C dL_law_462 rfl (by decide) ?_
  refine r_iadd (q := 464) C dL_law_463 rfl ?_
  refine r_sld (q := 465) hX C dL_law_464 rfl ?_
  refine r_aload_n (q := 466) (i := 0) (z := 0) C dL_law_465 rfl rfl rfl ?_
  refine r_iload_n (q := 467) (i := 3) (z := 3) C dL_law_466 rfl rfl rfl ?_
  refine r_iconst (q := 468) (v := 5) C dL_law_467 rfl (by decide) ?_
  refine r_iadd (q := 469) C dL_law_468 rfl ?_
  refine r_sld (q := 470) hX C dL_law_469 rfl ?_
  refine r_callVI (q := 473) (As := [.int (xs (i + ((1 : Int32))).toNatClampNeg), .int (xs (i + ((2 : Int32))).toNatClampNeg), .int (xs (i + ((3 : Int32))).toNatClampNeg), .int (xs (i + ((4 : Int32))).toNatClampNeg), .int (xs (i + ((5 : Int32))).toNatClampNeg)]) wm_L_48 yvX12_pour (c_X12_pour Δ hM (xs (i + ((1 : Int32))).toNatClampNeg) (xs (i + ((2 : Int32))).toNatClampNeg) (xs (i + ((3 : Int32))).toNatClampNeg) (xs (i + ((4 : Int32))).toNatClampNeg) (xs (i + ((5 : Int32))).toNatClampNeg) s2) ⟨rfl, by decide⟩ C (nm_12 hM) (by decide) rfl (Nat.le_of_ble_eq_true rfl) dL_law_470 rfl (fun x3 s4 => ?_)
  refine r_icmp_eq (q := 476) (tgt := 1481) C dL_law_473 (by decide) rfl ?_ ?_
  · exact hE s4
  · exact r_none

noncomputable def fl_7 (xs : Nat → Int32) (L : Nat) (i : Int32) (st : fSt) : Option (Unit × fSt) :=
  fIx (i + ((1 : Int32))) L <|
  fIx (i + ((2 : Int32))) L <|
  fIx (i + ((3 : Int32))) L <|
  fIx (i + ((4 : Int32))) L <|
  fIx (i + ((5 : Int32))) L <|
  fBd (f_X11_feed (xs (i + ((1 : Int32))).toNatClampNeg) (xs (i + ((2 : Int32))).toNatClampNeg) (xs (i + ((3 : Int32))).toNatClampNeg) (xs (i + ((4 : Int32))).toNatClampNeg) (xs (i + ((5 : Int32))).toNatClampNeg) st) fun x1 s2 =>
  fIx (i + ((1 : Int32))) L <|
  fIx (i + ((2 : Int32))) L <|
  fIx (i + ((3 : Int32))) L <|
  fIx (i + ((4 : Int32))) L <|
  fIx (i + ((5 : Int32))) L <|
  fBd (f_X12_feed (xs (i + ((1 : Int32))).toNatClampNeg) (xs (i + ((2 : Int32))).toNatClampNeg) (xs (i + ((3 : Int32))).toNatClampNeg) (xs (i + ((4 : Int32))).toNatClampNeg) (xs (i + ((5 : Int32))).toNatClampNeg) s2) fun x3 s4 =>
  if x1 = x3 then
    (fE s4)
  else
    (none)
set_option maxHeartbeats 4000000 in
set_option maxRecDepth 100000 in
theorem tl_7 {Qv : Unit → fSt → State → Prop} {b L : Nat} {xs : Nat → Int32} (Δ : fDl) (Γ : fGm) (hN : fNx Δ) (hM : fNm Δ) (C : fC Δ Γ cL_law RL 4 (some .boolean) 21) (hX : lX b L xs Γ) (i : Int32) (hE : ∀ s, fW Δ Γ 4 Qv 1481 [(0, .ref b), (1, .ref (fad Δ 11 0 0)), (2, .ref (fad Δ 12 0 0)), (3, .int i)] [] s (fE s)) (st : fSt) : fW Δ Γ 4 Qv 478 [(0, .ref b), (1, .ref (fad Δ 11 0 0)), (2, .ref (fad Δ 12 0 0)), (3, .int i)] [] st (fl_7 xs L i st) := by
  unfold fl_7
  refine r_aload_n (q := 479) (i := 1) (z := 1) C dL_law_478 rfl rfl rfl ?_
  refine r_aload_n (q := 480) (i := 0) (z := 0) C dL_law_479 rfl rfl rfl ?_
  refine r_iload_n (q := 481) (i := 3) (z := 3) C dL_law_480 rfl rfl rfl ?_
  refine r_iconst (q := 482) (v := 1) C dL_law_481 rfl (by decide) ?_
  refine r_iadd (q := 483) C dL_law_482 rfl ?_
  refine r_sld (q := 484) hX C dL_law_483 rfl ?_
  refine r_aload_n (q := 485) (i := 0) (z := 0) C dL_law_484 rfl rfl rfl ?_
  refine r_iload_n (q := 486) (i := 3) (z := 3) C dL_law_485 rfl rfl rfl ?_
  refine r_iconst (q := 487) (v := 2) C dL_law_486 rfl (by decide) ?_
  refine r_iadd (q := 488) C dL_law_487 rfl ?_
  refine r_sld (q := 489) hX C dL_law_488 rfl ?_
  refine r_aload_n (q := 490) (i := 0) (z := 0) C dL_law_489 rfl rfl rfl ?_
  refine r_iload_n (q := 491) (i := 3) (z := 3) C dL_law_490 rfl rfl rfl ?_
  refine r_iconst (q := 492) (v := 3) C dL_law_491 rfl (by decide) ?_
  refine r_iadd (q := 493) C dL_law_492 rfl ?_
  refine r_sld (q := 494) hX C dL_law_493 rfl ?_
  refine r_aload_n (q := 495) (i := 0) (z := 0) C dL_law_494 rfl rfl rfl ?_
  refine r_iload_n (q := 496) (i := 3) (z := 3) C dL_law_495 rfl rfl rfl ?_
  refine r_iconst (q := 497) (v := 4) C dL_law_496 rfl (by decide) ?_
  refine r_iadd (q := 498) C dL_law_497 rfl ?_
  refine r_sld (q := 499) hX C dL_law_498 rfl ?_
  refine r_aload_n (q := 500) (i := 0) (z := 0) C dL_law_499 rfl rfl rfl ?_
  refine r_iload_n (q := 501) (i := 3) (z := 3) C dL_law_500 rfl rfl rfl ?_
  refine r_iconst (q := 502) (v := 5) C dL_law_501 rfl (by decide) ?_
  refine r_iadd (q := 503) C dL_law_502 rfl ?_
  refine r_sld (q := 504) hX C dL_law_503 rfl ?_
  refine r_callVI (q := 507) (As := [.int (xs (i + ((1 : Int32))).toNatClampNeg), .int (xs (i + ((2 : Int32))).toNatClampNeg), .int (xs (i + ((3 : Int32))).toNatClampNeg), .int (xs (i + ((4 : Int32))).toNatClampNeg), .int (xs (i + ((5 : Int32))).toNatClampNeg)]) wm_L_49 yvX11_feed (c_X11_feed Δ hN (xs (i + ((1 : Int32))).toNatClampNeg) (xs (i + ((2 : Int32))).toNatClampNeg) (xs (i + ((3 : Int32))).toNatClampNeg) (xs (i + ((4 : Int32))).toNatClampNeg) (xs (i + ((5 : Int32))).toNatClampNeg) st) ⟨rfl, by decide⟩ C (nk_11_0 hN) (by decide) rfl (Nat.le_of_ble_eq_true rfl) dL_law_504 rfl (fun x1 s2 => ?_)
  refine r_aload_n (q := 508) (i := 2) (z := 2) C dL_law_507 rfl rfl rfl ?_
  refine r_aload_n (q := 509) (i := 0) (z := 0) C dL_law_508 rfl rfl rfl ?_
  refine r_iload_n (q := 510) (i := 3) (z := 3) C dL_law_509 rfl rfl rfl ?_
  refine r_iconst (q := 511) (v := 1) C dL_law_510 rfl (by decide) ?_
  refine r_iadd (q := 512) C dL_law_511 rfl ?_
  refine r_sld (q := 513) hX C dL_law_512 rfl ?_
  refine r_aload_n (q := 514) (i := 0) (z := 0) C dL_law_513 rfl rfl rfl ?_
  refine r_iload_n (q := 515) (i := 3) (z := 3) C dL_law_514 rfl rfl rfl ?_
  refine r_iconst (q := 516) (v := 2) C dL_law_515 rfl (by decide) ?_
  refine r_iadd (q := 517) C dL_law_516 rfl ?_
  refine r_sld (q := 518) hX C dL_law_517 rfl ?_
  refine r_aload_n (q := 519) (i := 0) (z := 0) C dL_law_518 rfl rfl rfl ?_
  refine r_iload_n (q := 520) (i := 3) (z := 3) C dL_law_519 rfl rfl rfl ?_
  refine r_iconst (q := 521) (v := 3) C dL_law_520 rfl (by decide) ?_
  refine r_iadd (q := 522) C dL_law_521 rfl ?_
  refine r_sld (q := 523) hX C dL_law_522 rfl ?_
  refine r_aload_n (q := 524) (i := 0) (z := 0) C dL_law_523 rfl rfl rfl ?_
  refine r_iload_n (q := 525) (i := 3) (z := 3) C dL_law_524 rfl rfl rfl ?_
  refine r_iconst (q := 526) (v := 4) C dL_law_525 rfl (by decide) ?_
  refine r_iadd (q := 527) C dL_law_526 rfl ?_
  refine r_sld (q := 528) hX C dL_law_527 rfl ?_
  refine r_aload_n (q := 529) (i := 0) (z := 0) C dL_law_528 rfl rfl rfl ?_
  refine r_iload_n (q := 530) (i := 3) (z := 3) C dL_law_529 rfl rfl rfl ?_
  refine r_iconst (q := 531) (v := 5) C dL_law_530 rfl (by decide) ?_
  refine r_iadd (q := 532) C dL_law_531 rfl ?_
  refine r_sld (q := 533) hX C dL_law_532 rfl ?_
  refine r_callVI (q := 536) (As := [.int (xs (i + ((1 : Int32))).toNatClampNeg), .int (xs (i + ((2 : Int32))).toNatClampNeg), .int (xs (i + ((3 : Int32))).toNatClampNeg), .int (xs (i + ((4 : Int32))).toNatClampNeg), .int (xs (i + ((5 : Int32))).toNatClampNeg)]) wm_L_53 yvX12_feed (c_X12_feed Δ hM (xs (i + ((1 : Int32))).toNatClampNeg) (xs (i + ((2 : Int32))).toNatClampNeg) (xs (i + ((3 : Int32))).toNatClampNeg) (xs (i + ((4 : Int32))).toNatClampNeg) (xs (i + ((5 : Int32))).toNatClampNeg) s2) ⟨rfl, by decide⟩ C (nm_12 hM) (by decide) rfl (Nat.le_of_ble_eq_true rfl) dL_law_533 rfl (fun x3 s4 => ?_)
  refine r_icmp_eq (q := 539) (tgt := 1481) C dL_law_536 (by decide) rfl ?_ ?_
  · exact hE s4
  · exact r_none

noncomputable def fl_8 (xs : Nat → Int32) (L : Nat) (i : Int32) (rx : Int32) (st : fSt) : Option (Unit × fSt) :=
  fIx (i + ((1 : Int32))) L <|
  fBd (f_X12_stage (xs (i + ((1 : Int32))).toNatClampNeg) st) fun x1 s2 =>
  if rx = x1 then
    (fE s2)
  else
    (none)
set_option maxHeartbeats 4000000 in
set_option maxRecDepth 100000 in
theorem tl_8 {Qv : Unit → fSt → State → Prop} {b L : Nat} {xs : Nat → Int32} (Δ : fDl) (Γ : fGm) (hN : fNx Δ) (hM : fNm Δ) (C : fC Δ Γ cL_law RL 4 (some .boolean) 21) (hX : lX b L xs Γ) (i : Int32) (hE : ∀ s, fW Δ Γ 4 Qv 1481 [(0, .ref b), (1, .ref (fad Δ 11 0 0)), (2, .ref (fad Δ 12 0 0)), (3, .int i)] [] s (fE s)) (rx : Int32) (st : fSt) : fW Δ Γ 4 Qv 550 [(0, .ref b), (1, .ref (fad Δ 11 0 0)), (2, .ref (fad Δ 12 0 0)), (3, .int i)] [.int rx] st (fl_8 xs L i rx st) := by
  unfold fl_8
  refine r_aload_n (q := 551) (i := 2) (z := 2) C dL_law_550 rfl rfl rfl ?_
  refine r_aload_n (q := 552) (i := 0) (z := 0) C dL_law_551 rfl rfl rfl ?_
  refine r_iload_n (q := 553) (i := 3) (z := 3) C dL_law_552 rfl rfl rfl ?_
  refine r_iconst (q := 554) (v := 1) C dL_law_553 rfl (by decide) ?_
  refine r_iadd (q := 555) C dL_law_554 rfl ?_
  refine r_sld (q := 556) hX C dL_law_555 rfl ?_
  refine r_callVI (q := 559) (As := [.int (xs (i + ((1 : Int32))).toNatClampNeg)]) wm_L_58 yvX12_stage (c_X12_stage Δ hM (xs (i + ((1 : Int32))).toNatClampNeg) st) ⟨rfl, by decide⟩ C (nm_12 hM) (by decide) rfl (Nat.le_of_ble_eq_true rfl) dL_law_556 rfl (fun x1 s2 => ?_)
  refine r_icmp_eq (q := 562) (tgt := 1481) C dL_law_559 (by decide) rfl ?_ ?_
  · exact hE s2
  · exact r_none

noncomputable def fl_9 (xs : Nat → Int32) (L : Nat) (i : Int32) (rx : Int32) (st : fSt) : Option (Unit × fSt) :=
  fIx (i + ((1 : Int32))) L <|
  fBd (f_X12_week (xs (i + ((1 : Int32))).toNatClampNeg) st) fun x1 s2 =>
  if rx = x1 then
    (fE s2)
  else
    (none)
set_option maxHeartbeats 4000000 in
set_option maxRecDepth 100000 in
theorem tl_9 {Qv : Unit → fSt → State → Prop} {b L : Nat} {xs : Nat → Int32} (Δ : fDl) (Γ : fGm) (hN : fNx Δ) (hM : fNm Δ) (C : fC Δ Γ cL_law RL 4 (some .boolean) 21) (hX : lX b L xs Γ) (i : Int32) (hE : ∀ s, fW Δ Γ 4 Qv 1481 [(0, .ref b), (1, .ref (fad Δ 11 0 0)), (2, .ref (fad Δ 12 0 0)), (3, .int i)] [] s (fE s)) (rx : Int32) (st : fSt) : fW Δ Γ 4 Qv 573 [(0, .ref b), (1, .ref (fad Δ 11 0 0)), (2, .ref (fad Δ 12 0 0)), (3, .int i)] [.int rx] st (fl_9 xs L i rx st) := by
  unfold fl_9
  refine r_aload_n (q := 574) (i := 2) (z := 2) C dL_law_573 rfl rfl rfl ?_
  refine r_aload_n (q := 575) (i := 0) (z := 0) C dL_law_574 rfl rfl rfl ?_
  refine r_iload_n (q := 576) (i := 3) (z := 3) C dL_law_575 rfl rfl rfl ?_
  refine r_iconst (q := 577) (v := 1) C dL_law_576 rfl (by decide) ?_
  refine r_iadd (q := 578) C dL_law_577 rfl ?_
  refine r_sld (q := 579) hX C dL_law_578 rfl ?_
  refine r_callVI (q := 582) (As := [.int (xs (i + ((1 : Int32))).toNatClampNeg)]) wm_L_62 yvX12_week (c_X12_week Δ hM (xs (i + ((1 : Int32))).toNatClampNeg) st) ⟨rfl, by decide⟩ C (nm_12 hM) (by decide) rfl (Nat.le_of_ble_eq_true rfl) dL_law_579 rfl (fun x1 s2 => ?_)
  refine r_icmp_eq (q := 585) (tgt := 1481) C dL_law_582 (by decide) rfl ?_ ?_
  · exact hE s2
  · exact r_none

noncomputable def fl_10 (xs : Nat → Int32) (L : Nat) (i : Int32) (st : fSt) : Option (Unit × fSt) :=
  fIx (i + ((1 : Int32))) L <|
  fBd (f_X11_fault (xs (i + ((1 : Int32))).toNatClampNeg) st) fun x1 s2 =>
  fIx (i + ((1 : Int32))) L <|
  fBd (f_X12_fault (xs (i + ((1 : Int32))).toNatClampNeg) s2) fun x3 s4 =>
  if x1 = x3 then
    (fE s4)
  else
    (none)
set_option maxHeartbeats 4000000 in
set_option maxRecDepth 100000 in
theorem tl_10 {Qv : Unit → fSt → State → Prop} {b L : Nat} {xs : Nat → Int32} (Δ : fDl) (Γ : fGm) (hN : fNx Δ) (hM : fNm Δ) (C : fC Δ Γ cL_law RL 4 (some .boolean) 21) (hX : lX b L xs Γ) (i : Int32) (hE : ∀ s, fW Δ Γ 4 Qv 1481 [(0, .ref b), (1, .ref (fad Δ 11 0 0)), (2, .ref (fad Δ 12 0 0)), (3, .int i)] [] s (fE s)) (st : fSt) : fW Δ Γ 4 Qv 587 [(0, .ref b), (1, .ref (fad Δ 11 0 0)), (2, .ref (fad Δ 12 0 0)), (3, .int i)] [] st (fl_10 xs L i st) := by
  unfold fl_10
  refine r_aload_n (q := 588) (i := 1) (z := 1) C dL_law_587 rfl rfl rfl ?_
  refine r_aload_n (q := 589) (i := 0) (z := 0) C dL_law_588 rfl rfl rfl ?_
  refine r_iload_n (q := 590) (i := 3) (z := 3) C dL_law_589 rfl rfl rfl ?_
  refine r_iconst (q := 591) (v := 1) C dL_law_590 rfl (by decide) ?_
  refine r_iadd (q := 592) C dL_law_591 rfl ?_
  refine r_sld (q := 593) hX C dL_law_592 rfl ?_
  refine r_callVI (q := 596) (As := [.int (xs (i + ((1 : Int32))).toNatClampNeg)]) wm_L_63 yvX11_fault (c_X11_fault Δ hN (xs (i + ((1 : Int32))).toNatClampNeg) st) ⟨rfl, by decide⟩ C (nk_11_0 hN) (by decide) rfl (Nat.le_of_ble_eq_true rfl) dL_law_593 rfl (fun x1 s2 => ?_)
  refine r_aload_n (q := 597) (i := 2) (z := 2) C dL_law_596 rfl rfl rfl ?_
  refine r_aload_n (q := 598) (i := 0) (z := 0) C dL_law_597 rfl rfl rfl ?_
  refine r_iload_n (q := 599) (i := 3) (z := 3) C dL_law_598 rfl rfl rfl ?_
  refine r_iconst (q := 600) (v := 1) C dL_law_599 rfl (by decide) ?_
  refine r_iadd (q := 601) C dL_law_600 rfl ?_
  refine r_sld (q := 602) hX C dL_law_601 rfl ?_
  refine r_callVI (q := 605) (As := [.int (xs (i + ((1 : Int32))).toNatClampNeg)]) wm_L_66 yvX12_fault (c_X12_fault Δ hM (xs (i + ((1 : Int32))).toNatClampNeg) s2) ⟨rfl, by decide⟩ C (nm_12 hM) (by decide) rfl (Nat.le_of_ble_eq_true rfl) dL_law_602 rfl (fun x3 s4 => ?_)
  refine r_icmp_eq (q := 608) (tgt := 1481) C dL_law_605 (by decide) rfl ?_ ?_
  · exact hE s4
  · exact r_none

noncomputable def fl_11 (xs : Nat → Int32) (L : Nat) (i : Int32) (st : fSt) : Option (Unit × fSt) :=
  fIx (i + ((1 : Int32))) L <|
  fBd (f_X11_many (xs (i + ((1 : Int32))).toNatClampNeg) st) fun x1 s2 =>
  fIx (i + ((1 : Int32))) L <|
  fBd (f_X12_many (xs (i + ((1 : Int32))).toNatClampNeg) s2) fun x3 s4 =>
  if x1 = x3 then
    (fE s4)
  else
    (none)
set_option maxHeartbeats 4000000 in
set_option maxRecDepth 100000 in
theorem tl_11 {Qv : Unit → fSt → State → Prop} {b L : Nat} {xs : Nat → Int32} (Δ : fDl) (Γ : fGm) (hN : fNx Δ) (hM : fNm Δ) (C : fC Δ Γ cL_law RL 4 (some .boolean) 21) (hX : lX b L xs Γ) (i : Int32) (hE : ∀ s, fW Δ Γ 4 Qv 1481 [(0, .ref b), (1, .ref (fad Δ 11 0 0)), (2, .ref (fad Δ 12 0 0)), (3, .int i)] [] s (fE s)) (st : fSt) : fW Δ Γ 4 Qv 610 [(0, .ref b), (1, .ref (fad Δ 11 0 0)), (2, .ref (fad Δ 12 0 0)), (3, .int i)] [] st (fl_11 xs L i st) := by
  unfold fl_11
  refine r_aload_n (q := 611) (i := 1) (z := 1) C dL_law_610 rfl rfl rfl ?_
  refine r_aload_n (q := 612) (i := 0) (z := 0) C dL_law_611 rfl rfl rfl ?_
  refine r_iload_n (q := 613) (i := 3) (z := 3) C dL_law_612 rfl rfl rfl ?_
  refine r_iconst (q := 614) (v := 1) C dL_law_613 rfl (by decide) ?_
  refine r_iadd (q := 615) C dL_law_614 rfl ?_
  refine r_sld (q := 616) hX C dL_law_615 rfl ?_
  refine r_callVI (q := 619) (As := [.int (xs (i + ((1 : Int32))).toNatClampNeg)]) wm_L_67 yvX11_many (c_X11_many Δ hN (xs (i + ((1 : Int32))).toNatClampNeg) st) ⟨rfl, by decide⟩ C (nk_11_0 hN) (by decide) rfl (Nat.le_of_ble_eq_true rfl) dL_law_616 rfl (fun x1 s2 => ?_)
  refine r_aload_n (q := 620) (i := 2) (z := 2) C dL_law_619 rfl rfl rfl ?_
  refine r_aload_n (q := 621) (i := 0) (z := 0) C dL_law_620 rfl rfl rfl ?_
  refine r_iload_n (q := 622) (i := 3) (z := 3) C dL_law_621 rfl rfl rfl ?_
  refine r_iconst (q := 623) (v := 1) C dL_law_622 rfl (by decide) ?_
  refine r_iadd (q := 624) C dL_law_623 rfl ?_
  refine r_sld (q := 625) hX C dL_law_624 rfl ?_
  refine r_callVI (q := 628) (As := [.int (xs (i + ((1 : Int32))).toNatClampNeg)]) wm_L_70 yvX12_many (c_X12_many Δ hM (xs (i + ((1 : Int32))).toNatClampNeg) s2) ⟨rfl, by decide⟩ C (nm_12 hM) (by decide) rfl (Nat.le_of_ble_eq_true rfl) dL_law_625 rfl (fun x3 s4 => ?_)
  refine r_icmp_eq (q := 631) (tgt := 1481) C dL_law_628 (by decide) rfl ?_ ?_
  · exact hE s4
  · exact r_none

noncomputable def fl_12 (xs : Nat → Int32) (L : Nat) (i : Int32) (st : fSt) : Option (Unit × fSt) :=
  fIx (i + ((1 : Int32))) L <|
  fIx (i + ((2 : Int32))) L <|
  fBd (f_X11_scene (xs (i + ((1 : Int32))).toNatClampNeg) (xs (i + ((2 : Int32))).toNatClampNeg) st) fun x1 s2 =>
  fIx (i + ((1 : Int32))) L <|
  fIx (i + ((2 : Int32))) L <|
  fBd (f_X12_scene (xs (i + ((1 : Int32))).toNatClampNeg) (xs (i + ((2 : Int32))).toNatClampNeg) s2) fun x3 s4 =>
  if x1 = x3 then
    (fE s4)
  else
    (none)
set_option maxHeartbeats 4000000 in
set_option maxRecDepth 100000 in
theorem tl_12 {Qv : Unit → fSt → State → Prop} {b L : Nat} {xs : Nat → Int32} (Δ : fDl) (Γ : fGm) (hN : fNx Δ) (hM : fNm Δ) (C : fC Δ Γ cL_law RL 4 (some .boolean) 21) (hX : lX b L xs Γ) (i : Int32) (hE : ∀ s, fW Δ Γ 4 Qv 1481 [(0, .ref b), (1, .ref (fad Δ 11 0 0)), (2, .ref (fad Δ 12 0 0)), (3, .int i)] [] s (fE s)) (st : fSt) : fW Δ Γ 4 Qv 633 [(0, .ref b), (1, .ref (fad Δ 11 0 0)), (2, .ref (fad Δ 12 0 0)), (3, .int i)] [] st (fl_12 xs L i st) := by
  unfold fl_12
  refine r_aload_n (q := 634) (i := 1) (z := 1) C dL_law_633 rfl rfl rfl ?_
  refine r_aload_n (q := 635) (i := 0) (z := 0) C dL_law_634 rfl rfl rfl ?_
  refine r_iload_n (q := 636) (i := 3) (z := 3) C dL_law_635 rfl rfl rfl ?_
  refine r_iconst (q := 637) (v := 1) C dL_law_636 rfl (by decide) ?_
  refine r_iadd (q := 638) C dL_law_637 rfl ?_
  refine r_sld (q := 639) hX C dL_law_638 rfl ?_
  refine r_aload_n (q := 640) (i := 0) (z := 0) C dL_law_639 rfl rfl rfl ?_
  refine r_iload_n (q := 641) (i := 3) (z := 3) C dL_law_640 rfl rfl rfl ?_
  refine r_iconst (q := 642) (v := 2) C dL_law_641 rfl (by decide) ?_
  refine r_iadd (q := 643) C dL_law_642 rfl ?_
  refine r_sld (q := 644) hX C dL_law_643 rfl ?_
  refine r_callVI (q := 647) (As := [.int (xs (i + ((1 : Int32))).toNatClampNeg), .int (xs (i + ((2 : Int32))).toNatClampNeg)]) wm_L_71 yvX11_scene (c_X11_scene Δ hN (xs (i + ((1 : Int32))).toNatClampNeg) (xs (i + ((2 : Int32))).toNatClampNeg) st) ⟨rfl, by decide⟩ C (nk_11_0 hN) (by decide) rfl (Nat.le_of_ble_eq_true rfl) dL_law_644 rfl (fun x1 s2 => ?_)
  refine r_aload_n (q := 648) (i := 2) (z := 2) C dL_law_647 rfl rfl rfl ?_
  refine r_aload_n (q := 649) (i := 0) (z := 0) C dL_law_648 rfl rfl rfl ?_
  refine r_iload_n (q := 650) (i := 3) (z := 3) C dL_law_649 rfl rfl rfl ?_
  refine r_iconst (q := 651) (v := 1) C dL_law_650 rfl (by decide) ?_
  refine r_iadd (q := 652) C dL_law_651 rfl ?_
  refine r_sld (q := 653) hX C dL_law_652 rfl ?_
  refine r_aload_n (q := 654) (i := 0) (z := 0) C dL_law_653 rfl rfl rfl ?_
  refine r_iload_n (q := 655) (i := 3) (z := 3) C dL_law_654 rfl rfl rfl ?_
  refine r_iconst (q := 656) (v := 2) C dL_law_655 rfl (by decide) ?_
  refine r_iadd (q := 657) C dL_law_656 rfl ?_
  refine r_sld (q := 658) hX C dL_law_657 rfl ?_
  refine r_callVI (q := 661) (As := [.int (xs (i + ((1 : Int32))).toNatClampNeg), .int (xs (i + ((2 : Int32))).toNatClampNeg)]) wm_L_75 yvX12_scene (c_X12_scene Δ hM (xs (i + ((1 : Int32))).toNatClampNeg) (xs (i + ((2 : Int32))).toNatClampNeg) s2) ⟨rfl, by decide⟩ C (nm_12 hM) (by decide) rfl (Nat.le_of_ble_eq_true rfl) dL_law_658 rfl (fun x3 s4 => ?_)
  refine r_icmp_eq (q := 664) (tgt := 1481) C dL_law_661 (by decide) rfl ?_ ?_
  · exact hE s4
  · exact r_none

noncomputable def fl_13 (xs : Nat → Int32) (L : Nat) (i : Int32) (st : fSt) : Option (Unit × fSt) :=
  fIx (i + ((1 : Int32))) L <|
  fIx (i + ((2 : Int32))) L <|
  fBd (f_X11_kind (xs (i + ((1 : Int32))).toNatClampNeg) (xs (i + ((2 : Int32))).toNatClampNeg) st) fun x1 s2 =>
  fIx (i + ((1 : Int32))) L <|
  fIx (i + ((2 : Int32))) L <|
  fBd (f_X12_kind (xs (i + ((1 : Int32))).toNatClampNeg) (xs (i + ((2 : Int32))).toNatClampNeg) s2) fun x3 s4 =>
  if x1 = x3 then
    (fE s4)
  else
    (none)
set_option maxHeartbeats 4000000 in
set_option maxRecDepth 100000 in
theorem tl_13 {Qv : Unit → fSt → State → Prop} {b L : Nat} {xs : Nat → Int32} (Δ : fDl) (Γ : fGm) (hN : fNx Δ) (hM : fNm Δ) (C : fC Δ Γ cL_law RL 4 (some .boolean) 21) (hX : lX b L xs Γ) (i : Int32) (hE : ∀ s, fW Δ Γ 4 Qv 1481 [(0, .ref b), (1, .ref (fad Δ 11 0 0)), (2, .ref (fad Δ 12 0 0)), (3, .int i)] [] s (fE s)) (st : fSt) : fW Δ Γ 4 Qv 666 [(0, .ref b), (1, .ref (fad Δ 11 0 0)), (2, .ref (fad Δ 12 0 0)), (3, .int i)] [] st (fl_13 xs L i st) := by
  unfold fl_13
  refine r_aload_n (q := 667) (i := 1) (z := 1) C dL_law_666 rfl rfl rfl ?_
  refine r_aload_n (q := 668) (i := 0) (z := 0) C dL_law_667 rfl rfl rfl ?_
  refine r_iload_n (q := 669) (i := 3) (z := 3) C dL_law_668 rfl rfl rfl ?_
  refine r_iconst (q := 670) (v := 1) C dL_law_669 rfl (by decide) ?_
  refine r_iadd (q := 671) C dL_law_670 rfl ?_
  refine r_sld (q := 672) hX C dL_law_671 rfl ?_
  refine r_aload_n (q := 673) (i := 0) (z := 0) C dL_law_672 rfl rfl rfl ?_
  refine r_iload_n (q := 674) (i := 3) (z := 3) C dL_law_673 rfl rfl rfl ?_
  refine r_iconst (q := 675) (v := 2) C dL_law_674 rfl (by decide) ?_
  refine r_iadd (q := 676) C dL_law_675 rfl ?_
  refine r_sld (q := 677) hX C dL_law_676 rfl ?_
  refine r_callVI (q := 680) (As := [.int (xs (i + ((1 : Int32))).toNatClampNeg), .int (xs (i + ((2 : Int32))).toNatClampNeg)]) wm_L_76 yvX11_kind (c_X11_kind Δ hN (xs (i + ((1 : Int32))).toNatClampNeg) (xs (i + ((2 : Int32))).toNatClampNeg) st) ⟨rfl, by decide⟩ C (nk_11_0 hN) (by decide) rfl (Nat.le_of_ble_eq_true rfl) dL_law_677 rfl (fun x1 s2 => ?_)
  refine r_aload_n (q := 681) (i := 2) (z := 2) C dL_law_680 rfl rfl rfl ?_
  refine r_aload_n (q := 682) (i := 0) (z := 0) C dL_law_681 rfl rfl rfl ?_
  refine r_iload_n (q := 683) (i := 3) (z := 3) C dL_law_682 rfl rfl rfl ?_
  refine r_iconst (q := 684) (v := 1) C dL_law_683 rfl (by decide) ?_
  refine r_iadd (q := 685) C dL_law_684 rfl ?_
  refine r_sld (q := 686) hX C dL_law_685 rfl ?_
  refine r_aload_n (q := 687) (i := 0) (z := 0) C dL_law_686 rfl rfl rfl ?_
  refine r_iload_n (q := 688) (i := 3) (z := 3) C dL_law_687 rfl rfl rfl ?_
  refine r_iconst (q := 689) (v := 2) C dL_law_688 rfl (by decide) ?_
  refine r_iadd (q := 690) C dL_law_689 rfl ?_
  refine r_sld (q := 691) hX C dL_law_690 rfl ?_
  refine r_callVI (q := 694) (As := [.int (xs (i + ((1 : Int32))).toNatClampNeg), .int (xs (i + ((2 : Int32))).toNatClampNeg)]) wm_L_79 yvX12_kind (c_X12_kind Δ hM (xs (i + ((1 : Int32))).toNatClampNeg) (xs (i + ((2 : Int32))).toNatClampNeg) s2) ⟨rfl, by decide⟩ C (nm_12 hM) (by decide) rfl (Nat.le_of_ble_eq_true rfl) dL_law_691 rfl (fun x3 s4 => ?_)
  refine r_icmp_eq (q := 697) (tgt := 1481) C dL_law_694 (by decide) rfl ?_ ?_
  · exact hE s4
  · exact r_none

noncomputable def fl_14 (xs : Nat → Int32) (L : Nat) (i : Int32) (st : fSt) : Option (Unit × fSt) :=
  fIx (i + ((1 : Int32))) L <|
  fIx (i + ((2 : Int32))) L <|
  fBd (f_X11_actor (xs (i + ((1 : Int32))).toNatClampNeg) (xs (i + ((2 : Int32))).toNatClampNeg) st) fun x1 s2 =>
  fIx (i + ((1 : Int32))) L <|
  fIx (i + ((2 : Int32))) L <|
  fBd (f_X12_actor (xs (i + ((1 : Int32))).toNatClampNeg) (xs (i + ((2 : Int32))).toNatClampNeg) s2) fun x3 s4 =>
  if x1 = x3 then
    (fE s4)
  else
    (none)
set_option maxHeartbeats 4000000 in
set_option maxRecDepth 100000 in
theorem tl_14 {Qv : Unit → fSt → State → Prop} {b L : Nat} {xs : Nat → Int32} (Δ : fDl) (Γ : fGm) (hN : fNx Δ) (hM : fNm Δ) (C : fC Δ Γ cL_law RL 4 (some .boolean) 21) (hX : lX b L xs Γ) (i : Int32) (hE : ∀ s, fW Δ Γ 4 Qv 1481 [(0, .ref b), (1, .ref (fad Δ 11 0 0)), (2, .ref (fad Δ 12 0 0)), (3, .int i)] [] s (fE s)) (st : fSt) : fW Δ Γ 4 Qv 699 [(0, .ref b), (1, .ref (fad Δ 11 0 0)), (2, .ref (fad Δ 12 0 0)), (3, .int i)] [] st (fl_14 xs L i st) := by
  unfold fl_14
  refine r_aload_n (q := 700) (i := 1) (z := 1) C dL_law_699 rfl rfl rfl ?_
  refine r_aload_n (q := 701) (i := 0) (z := 0) C dL_law_700 rfl rfl rfl ?_
  refine r_iload_n (q := 702) (i := 3) (z := 3) C dL_law_701 rfl rfl rfl ?_
  refine r_iconst (q := 703) (v := 1) C dL_law_702 rfl (by decide) ?_
  refine r_iadd (q := 704) C dL_law_703 rfl ?_
  refine r_sld (q := 705) hX C dL_law_704 rfl ?_
  refine r_aload_n (q := 706) (i := 0) (z := 0) C dL_law_705 rfl rfl rfl ?_
  refine r_iload_n (q := 707) (i := 3) (z := 3) C dL_law_706 rfl rfl rfl ?_
  refine r_iconst (q := 708) (v := 2) C dL_law_707 rfl (by decide) ?_
  refine r_iadd (q := 709) C dL_law_708 rfl ?_
  refine r_sld (q := 710) hX C dL_law_709 rfl ?_
  refine r_callVI (q := 713) (As := [.int (xs (i + ((1 : Int32))).toNatClampNeg), .int (xs (i + ((2 : Int32))).toNatClampNeg)]) wm_L_80 yvX11_actor (c_X11_actor Δ hN (xs (i + ((1 : Int32))).toNatClampNeg) (xs (i + ((2 : Int32))).toNatClampNeg) st) ⟨rfl, by decide⟩ C (nk_11_0 hN) (by decide) rfl (Nat.le_of_ble_eq_true rfl) dL_law_710 rfl (fun x1 s2 => ?_)
  refine r_aload_n (q := 714) (i := 2) (z := 2) C dL_law_713 rfl rfl rfl ?_
  refine r_aload_n (q := 715) (i := 0) (z := 0) C dL_law_714 rfl rfl rfl ?_
  refine r_iload_n (q := 716) (i := 3) (z := 3) C dL_law_715 rfl rfl rfl ?_
  refine r_iconst (q := 717) (v := 1) C dL_law_716 rfl (by decide) ?_
  refine r_iadd (q := 718) C dL_law_717 rfl ?_
  refine r_sld (q := 719) hX C dL_law_718 rfl ?_
  refine r_aload_n (q := 720) (i := 0) (z := 0) C dL_law_719 rfl rfl rfl ?_
  refine r_iload_n (q := 721) (i := 3) (z := 3) C dL_law_720 rfl rfl rfl ?_
  refine r_iconst (q := 722) (v := 2) C dL_law_721 rfl (by decide) ?_
  refine r_iadd (q := 723) C dL_law_722 rfl ?_
  refine r_sld (q := 724) hX C dL_law_723 rfl ?_
  refine r_callVI (q := 727) (As := [.int (xs (i + ((1 : Int32))).toNatClampNeg), .int (xs (i + ((2 : Int32))).toNatClampNeg)]) wm_L_83 yvX12_actor (c_X12_actor Δ hM (xs (i + ((1 : Int32))).toNatClampNeg) (xs (i + ((2 : Int32))).toNatClampNeg) s2) ⟨rfl, by decide⟩ C (nm_12 hM) (by decide) rfl (Nat.le_of_ble_eq_true rfl) dL_law_724 rfl (fun x3 s4 => ?_)
  refine r_icmp_eq (q := 730) (tgt := 1481) C dL_law_727 (by decide) rfl ?_ ?_
  · exact hE s4
  · exact r_none

noncomputable def fl_15 (xs : Nat → Int32) (L : Nat) (i : Int32) (st : fSt) : Option (Unit × fSt) :=
  fIx (i + ((1 : Int32))) L <|
  fIx (i + ((2 : Int32))) L <|
  fJn (fun (x1 : Int32) (s2 : fSt) =>
    (fBd (f_X11_bar (xs (i + ((1 : Int32))).toNatClampNeg) x1 s2) fun x4 s5 =>
    fIx (i + ((1 : Int32))) L <|
    fIx (i + ((2 : Int32))) L <|
    fJn (fun (x6 : Int32) (s7 : fSt) =>
      (fBd (f_X12_bar (xs (i + ((1 : Int32))).toNatClampNeg) x6 s7) fun x9 s10 =>
      if x4 = x9 then
        (fE s10)
      else
        (none))) fun (j8 : Int32 → fSt → Option (Unit × fSt)) =>
    if (xs (i + ((2 : Int32))).toNatClampNeg) = 0 then
      (j8 ((0 : Int32)) s5)
    else
      (j8 ((1 : Int32)) s5))) fun (j3 : Int32 → fSt → Option (Unit × fSt)) =>
  if (xs (i + ((2 : Int32))).toNatClampNeg) = 0 then
    (j3 ((0 : Int32)) st)
  else
    (j3 ((1 : Int32)) st)
set_option maxHeartbeats 4000000 in
set_option maxRecDepth 100000 in
theorem tl_15 {Qv : Unit → fSt → State → Prop} {b L : Nat} {xs : Nat → Int32} (Δ : fDl) (Γ : fGm) (hN : fNx Δ) (hM : fNm Δ) (C : fC Δ Γ cL_law RL 4 (some .boolean) 21) (hX : lX b L xs Γ) (i : Int32) (hE : ∀ s, fW Δ Γ 4 Qv 1481 [(0, .ref b), (1, .ref (fad Δ 11 0 0)), (2, .ref (fad Δ 12 0 0)), (3, .int i)] [] s (fE s)) (st : fSt) : fW Δ Γ 4 Qv 732 [(0, .ref b), (1, .ref (fad Δ 11 0 0)), (2, .ref (fad Δ 12 0 0)), (3, .int i)] [] st (fl_15 xs L i st) := by
  unfold fl_15
  refine r_aload_n (q := 733) (i := 1) (z := 1) C dL_law_732 rfl rfl rfl ?_
  refine r_aload_n (q := 734) (i := 0) (z := 0) C dL_law_733 rfl rfl rfl ?_
  refine r_iload_n (q := 735) (i := 3) (z := 3) C dL_law_734 rfl rfl rfl ?_
  refine r_iconst (q := 736) (v := 1) C dL_law_735 rfl (by decide) ?_
  refine r_iadd (q := 737) C dL_law_736 rfl ?_
  refine r_sld (q := 738) hX C dL_law_737 rfl ?_
  refine r_aload_n (q := 739) (i := 0) (z := 0) C dL_law_738 rfl rfl rfl ?_
  refine r_iload_n (q := 740) (i := 3) (z := 3) C dL_law_739 rfl rfl rfl ?_
  refine r_iconst (q := 741) (v := 2) C dL_law_740 rfl (by decide) ?_
  refine r_iadd (q := 742) C dL_law_741 rfl ?_
  refine r_sld (q := 743) hX C dL_law_742 rfl ?_
  refine r_join (fun j3 => ∀ (x1 : Int32) (s2 : fSt), fW Δ Γ 4 Qv 751 [(0, .ref b), (1, .ref (fad Δ 11 0 0)), (2, .ref (fad Δ 12 0 0)), (3, .int i)] [.int x1, .int (xs (i + ((1 : Int32))).toNatClampNeg), .ref (fad Δ 11 0 0)] s2 (j3 x1 s2)) ?_ (fun j3 hj3 => ?_)
  · intro x1 s2
    refine r_callVI (q := 754) (As := [.int (xs (i + ((1 : Int32))).toNatClampNeg), .int x1]) wm_L_84 yvX11_bar (c_X11_bar Δ hN (xs (i + ((1 : Int32))).toNatClampNeg) x1 s2) ⟨rfl, by decide⟩ C (nk_11_0 hN) (by decide) rfl (Nat.le_of_ble_eq_true rfl) dL_law_751 rfl (fun x4 s5 => ?_)
    refine r_aload_n (q := 755) (i := 2) (z := 2) C dL_law_754 rfl rfl rfl ?_
    refine r_aload_n (q := 756) (i := 0) (z := 0) C dL_law_755 rfl rfl rfl ?_
    refine r_iload_n (q := 757) (i := 3) (z := 3) C dL_law_756 rfl rfl rfl ?_
    refine r_iconst (q := 758) (v := 1) C dL_law_757 rfl (by decide) ?_
    refine r_iadd (q := 759) C dL_law_758 rfl ?_
    refine r_sld (q := 760) hX C dL_law_759 rfl ?_
    refine r_aload_n (q := 761) (i := 0) (z := 0) C dL_law_760 rfl rfl rfl ?_
    refine r_iload_n (q := 762) (i := 3) (z := 3) C dL_law_761 rfl rfl rfl ?_
    refine r_iconst (q := 763) (v := 2) C dL_law_762 rfl (by decide) ?_
    refine r_iadd (q := 764) C dL_law_763 rfl ?_
    refine r_sld (q := 765) hX C dL_law_764 rfl ?_
    refine r_join (fun j8 => ∀ (x6 : Int32) (s7 : fSt), fW Δ Γ 4 Qv 773 [(0, .ref b), (1, .ref (fad Δ 11 0 0)), (2, .ref (fad Δ 12 0 0)), (3, .int i)] [.int x6, .int (xs (i + ((1 : Int32))).toNatClampNeg), .ref (fad Δ 12 0 0), .int x4] s7 (j8 x6 s7)) ?_ (fun j8 hj8 => ?_)
    · intro x6 s7
      refine r_callVI (q := 776) (As := [.int (xs (i + ((1 : Int32))).toNatClampNeg), .int x6]) wm_L_88 yvX12_bar (c_X12_bar Δ hM (xs (i + ((1 : Int32))).toNatClampNeg) x6 s7) ⟨rfl, by decide⟩ C (nm_12 hM) (by decide) rfl (Nat.le_of_ble_eq_true rfl) dL_law_773 rfl (fun x9 s10 => ?_)
      refine r_icmp_eq (q := 779) (tgt := 1481) C dL_law_776 (by decide) rfl ?_ ?_
      · exact hE s10
      · exact r_none
    refine r_if_eq (q := 768) (tgt := 772) C dL_law_765 (by decide) rfl ?_ ?_
    · refine r_iconst (q := 773) (v := 0) C dL_law_772 rfl (by decide) ?_
      exact hj8 ((0 : Int32)) s5
    · refine r_iconst (q := 769) (v := 1) C dL_law_768 rfl (by decide) ?_
      refine r_goto (q := 773) C dL_law_769 (by decide) ?_
      exact hj8 ((1 : Int32)) s5
  refine r_if_eq (q := 746) (tgt := 750) C dL_law_743 (by decide) rfl ?_ ?_
  · refine r_iconst (q := 751) (v := 0) C dL_law_750 rfl (by decide) ?_
    exact hj3 ((0 : Int32)) st
  · refine r_iconst (q := 747) (v := 1) C dL_law_746 rfl (by decide) ?_
    refine r_goto (q := 751) C dL_law_747 (by decide) ?_
    exact hj3 ((1 : Int32)) st

noncomputable def fl_16 (xs : Nat → Int32) (L : Nat) (i : Int32) (st : fSt) : Option (Unit × fSt) :=
  fIx (i + ((1 : Int32))) L <|
  fIx (i + ((2 : Int32))) L <|
  fJn (fun (x1 : Int32) (s2 : fSt) =>
    (fBd (f_X11_kill (xs (i + ((1 : Int32))).toNatClampNeg) x1 s2) fun x4 s5 =>
    fIx (i + ((1 : Int32))) L <|
    fIx (i + ((2 : Int32))) L <|
    fJn (fun (x6 : Int32) (s7 : fSt) =>
      (fBd (f_X12_kill (xs (i + ((1 : Int32))).toNatClampNeg) x6 s7) fun x9 s10 =>
      if x4 = x9 then
        (fE s10)
      else
        (none))) fun (j8 : Int32 → fSt → Option (Unit × fSt)) =>
    if (xs (i + ((2 : Int32))).toNatClampNeg) = 0 then
      (j8 ((0 : Int32)) s5)
    else
      (j8 ((1 : Int32)) s5))) fun (j3 : Int32 → fSt → Option (Unit × fSt)) =>
  if (xs (i + ((2 : Int32))).toNatClampNeg) = 0 then
    (j3 ((0 : Int32)) st)
  else
    (j3 ((1 : Int32)) st)
set_option maxHeartbeats 4000000 in
set_option maxRecDepth 100000 in
theorem tl_16 {Qv : Unit → fSt → State → Prop} {b L : Nat} {xs : Nat → Int32} (Δ : fDl) (Γ : fGm) (hN : fNx Δ) (hM : fNm Δ) (C : fC Δ Γ cL_law RL 4 (some .boolean) 21) (hX : lX b L xs Γ) (i : Int32) (hE : ∀ s, fW Δ Γ 4 Qv 1481 [(0, .ref b), (1, .ref (fad Δ 11 0 0)), (2, .ref (fad Δ 12 0 0)), (3, .int i)] [] s (fE s)) (st : fSt) : fW Δ Γ 4 Qv 781 [(0, .ref b), (1, .ref (fad Δ 11 0 0)), (2, .ref (fad Δ 12 0 0)), (3, .int i)] [] st (fl_16 xs L i st) := by
  unfold fl_16
  refine r_aload_n (q := 782) (i := 1) (z := 1) C dL_law_781 rfl rfl rfl ?_
  refine r_aload_n (q := 783) (i := 0) (z := 0) C dL_law_782 rfl rfl rfl ?_
  refine r_iload_n (q := 784) (i := 3) (z := 3) C dL_law_783 rfl rfl rfl ?_
  refine r_iconst (q := 785) (v := 1) C dL_law_784 rfl (by decide) ?_
  refine r_iadd (q := 786) C dL_law_785 rfl ?_
  refine r_sld (q := 787) hX C dL_law_786 rfl ?_
  refine r_aload_n (q := 788) (i := 0) (z := 0) C dL_law_787 rfl rfl rfl ?_
  refine r_iload_n (q := 789) (i := 3) (z := 3) C dL_law_788 rfl rfl rfl ?_
  refine r_iconst (q := 790) (v := 2) C dL_law_789 rfl (by decide) ?_
  refine r_iadd (q := 791) C dL_law_790 rfl ?_
  refine r_sld (q := 792) hX C dL_law_791 rfl ?_
  refine r_join (fun j3 => ∀ (x1 : Int32) (s2 : fSt), fW Δ Γ 4 Qv 800 [(0, .ref b), (1, .ref (fad Δ 11 0 0)), (2, .ref (fad Δ 12 0 0)), (3, .int i)] [.int x1, .int (xs (i + ((1 : Int32))).toNatClampNeg), .ref (fad Δ 11 0 0)] s2 (j3 x1 s2)) ?_ (fun j3 hj3 => ?_)
  · intro x1 s2
    refine r_callVI (q := 803) (As := [.int (xs (i + ((1 : Int32))).toNatClampNeg), .int x1]) wm_L_89 yvX11_kill (c_X11_kill Δ hN (xs (i + ((1 : Int32))).toNatClampNeg) x1 s2) ⟨rfl, by decide⟩ C (nk_11_0 hN) (by decide) rfl (Nat.le_of_ble_eq_true rfl) dL_law_800 rfl (fun x4 s5 => ?_)
    refine r_aload_n (q := 804) (i := 2) (z := 2) C dL_law_803 rfl rfl rfl ?_
    refine r_aload_n (q := 805) (i := 0) (z := 0) C dL_law_804 rfl rfl rfl ?_
    refine r_iload_n (q := 806) (i := 3) (z := 3) C dL_law_805 rfl rfl rfl ?_
    refine r_iconst (q := 807) (v := 1) C dL_law_806 rfl (by decide) ?_
    refine r_iadd (q := 808) C dL_law_807 rfl ?_
    refine r_sld (q := 809) hX C dL_law_808 rfl ?_
    refine r_aload_n (q := 810) (i := 0) (z := 0) C dL_law_809 rfl rfl rfl ?_
    refine r_iload_n (q := 811) (i := 3) (z := 3) C dL_law_810 rfl rfl rfl ?_
    refine r_iconst (q := 812) (v := 2) C dL_law_811 rfl (by decide) ?_
    refine r_iadd (q := 813) C dL_law_812 rfl ?_
    refine r_sld (q := 814) hX C dL_law_813 rfl ?_
    refine r_join (fun j8 => ∀ (x6 : Int32) (s7 : fSt), fW Δ Γ 4 Qv 822 [(0, .ref b), (1, .ref (fad Δ 11 0 0)), (2, .ref (fad Δ 12 0 0)), (3, .int i)] [.int x6, .int (xs (i + ((1 : Int32))).toNatClampNeg), .ref (fad Δ 12 0 0), .int x4] s7 (j8 x6 s7)) ?_ (fun j8 hj8 => ?_)
    · intro x6 s7
      refine r_callVI (q := 825) (As := [.int (xs (i + ((1 : Int32))).toNatClampNeg), .int x6]) wm_L_92 yvX12_kill (c_X12_kill Δ hM (xs (i + ((1 : Int32))).toNatClampNeg) x6 s7) ⟨rfl, by decide⟩ C (nm_12 hM) (by decide) rfl (Nat.le_of_ble_eq_true rfl) dL_law_822 rfl (fun x9 s10 => ?_)
      refine r_icmp_eq (q := 828) (tgt := 1481) C dL_law_825 (by decide) rfl ?_ ?_
      · exact hE s10
      · exact r_none
    refine r_if_eq (q := 817) (tgt := 821) C dL_law_814 (by decide) rfl ?_ ?_
    · refine r_iconst (q := 822) (v := 0) C dL_law_821 rfl (by decide) ?_
      exact hj8 ((0 : Int32)) s5
    · refine r_iconst (q := 818) (v := 1) C dL_law_817 rfl (by decide) ?_
      refine r_goto (q := 822) C dL_law_818 (by decide) ?_
      exact hj8 ((1 : Int32)) s5
  refine r_if_eq (q := 795) (tgt := 799) C dL_law_792 (by decide) rfl ?_ ?_
  · refine r_iconst (q := 800) (v := 0) C dL_law_799 rfl (by decide) ?_
    exact hj3 ((0 : Int32)) st
  · refine r_iconst (q := 796) (v := 1) C dL_law_795 rfl (by decide) ?_
    refine r_goto (q := 800) C dL_law_796 (by decide) ?_
    exact hj3 ((1 : Int32)) st

noncomputable def fl_17 (xs : Nat → Int32) (L : Nat) (i : Int32) (st : fSt) : Option (Unit × fSt) :=
  fIx (i + ((1 : Int32))) L <|
  fIx (i + ((2 : Int32))) L <|
  fBd (f_X11_night (xs (i + ((1 : Int32))).toNatClampNeg) (xs (i + ((2 : Int32))).toNatClampNeg) st) fun x1 s2 =>
  fIx (i + ((1 : Int32))) L <|
  fIx (i + ((2 : Int32))) L <|
  fBd (f_X12_night (xs (i + ((1 : Int32))).toNatClampNeg) (xs (i + ((2 : Int32))).toNatClampNeg) s2) fun x3 s4 =>
  if x1 = x3 then
    (fE s4)
  else
    (none)
set_option maxHeartbeats 4000000 in
set_option maxRecDepth 100000 in
theorem tl_17 {Qv : Unit → fSt → State → Prop} {b L : Nat} {xs : Nat → Int32} (Δ : fDl) (Γ : fGm) (hN : fNx Δ) (hM : fNm Δ) (C : fC Δ Γ cL_law RL 4 (some .boolean) 21) (hX : lX b L xs Γ) (i : Int32) (hE : ∀ s, fW Δ Γ 4 Qv 1481 [(0, .ref b), (1, .ref (fad Δ 11 0 0)), (2, .ref (fad Δ 12 0 0)), (3, .int i)] [] s (fE s)) (st : fSt) : fW Δ Γ 4 Qv 830 [(0, .ref b), (1, .ref (fad Δ 11 0 0)), (2, .ref (fad Δ 12 0 0)), (3, .int i)] [] st (fl_17 xs L i st) := by
  unfold fl_17
  refine r_aload_n (q := 831) (i := 1) (z := 1) C dL_law_830 rfl rfl rfl ?_
  refine r_aload_n (q := 832) (i := 0) (z := 0) C dL_law_831 rfl rfl rfl ?_
  refine r_iload_n (q := 833) (i := 3) (z := 3) C dL_law_832 rfl rfl rfl ?_
  refine r_iconst (q := 834) (v := 1) C dL_law_833 rfl (by decide) ?_
  refine r_iadd (q := 835) C dL_law_834 rfl ?_
  refine r_sld (q := 836) hX C dL_law_835 rfl ?_
  refine r_aload_n (q := 837) (i := 0) (z := 0) C dL_law_836 rfl rfl rfl ?_
  refine r_iload_n (q := 838) (i := 3) (z := 3) C dL_law_837 rfl rfl rfl ?_
  refine r_iconst (q := 839) (v := 2) C dL_law_838 rfl (by decide) ?_
  refine r_iadd (q := 840) C dL_law_839 rfl ?_
  refine r_sld (q := 841) hX C dL_law_840 rfl ?_
  refine r_callVI (q := 844) (As := [.int (xs (i + ((1 : Int32))).toNatClampNeg), .int (xs (i + ((2 : Int32))).toNatClampNeg)]) wm_L_93 yvX11_night (c_X11_night Δ hN (xs (i + ((1 : Int32))).toNatClampNeg) (xs (i + ((2 : Int32))).toNatClampNeg) st) ⟨rfl, by decide⟩ C (nk_11_0 hN) (by decide) rfl (Nat.le_of_ble_eq_true rfl) dL_law_841 rfl (fun x1 s2 => ?_)
  refine r_aload_n (q := 845) (i := 2) (z := 2) C dL_law_844 rfl rfl rfl ?_
  refine r_aload_n (q := 846) (i := 0) (z := 0) C dL_law_845 rfl rfl rfl ?_
  refine r_iload_n (q := 847) (i := 3) (z := 3) C dL_law_846 rfl rfl rfl ?_
  refine r_iconst (q := 848) (v := 1) C dL_law_847 rfl (by decide) ?_
  refine r_iadd (q := 849) C dL_law_848 rfl ?_
  refine r_sld (q := 850) hX C dL_law_849 rfl ?_
  refine r_aload_n (q := 851) (i := 0) (z := 0) C dL_law_850 rfl rfl rfl ?_
  refine r_iload_n (q := 852) (i := 3) (z := 3) C dL_law_851 rfl rfl rfl ?_
  refine r_iconst (q := 853) (v := 2) C dL_law_852 rfl (by decide) ?_
  refine r_iadd (q := 854) C dL_law_853 rfl ?_
  refine r_sld (q := 855) hX C dL_law_854 rfl ?_
  refine r_callVI (q := 858) (As := [.int (xs (i + ((1 : Int32))).toNatClampNeg), .int (xs (i + ((2 : Int32))).toNatClampNeg)]) wm_L_96 yvX12_night (c_X12_night Δ hM (xs (i + ((1 : Int32))).toNatClampNeg) (xs (i + ((2 : Int32))).toNatClampNeg) s2) ⟨rfl, by decide⟩ C (nm_12 hM) (by decide) rfl (Nat.le_of_ble_eq_true rfl) dL_law_855 rfl (fun x3 s4 => ?_)
  refine r_icmp_eq (q := 861) (tgt := 1481) C dL_law_858 (by decide) rfl ?_ ?_
  · exact hE s4
  · exact r_none

noncomputable def fl_18 (xs : Nat → Int32) (L : Nat) (i : Int32) (st : fSt) : Option (Unit × fSt) :=
  fIx (i + ((1 : Int32))) L <|
  fBd (f_X11_lot (xs (i + ((1 : Int32))).toNatClampNeg) st) fun x1 s2 =>
  fIx (i + ((1 : Int32))) L <|
  fBd (f_X12_lot (xs (i + ((1 : Int32))).toNatClampNeg) s2) fun x3 s4 =>
  if x1 = x3 then
    (fE s4)
  else
    (none)
set_option maxHeartbeats 4000000 in
set_option maxRecDepth 100000 in
theorem tl_18 {Qv : Unit → fSt → State → Prop} {b L : Nat} {xs : Nat → Int32} (Δ : fDl) (Γ : fGm) (hN : fNx Δ) (hM : fNm Δ) (C : fC Δ Γ cL_law RL 4 (some .boolean) 21) (hX : lX b L xs Γ) (i : Int32) (hE : ∀ s, fW Δ Γ 4 Qv 1481 [(0, .ref b), (1, .ref (fad Δ 11 0 0)), (2, .ref (fad Δ 12 0 0)), (3, .int i)] [] s (fE s)) (st : fSt) : fW Δ Γ 4 Qv 863 [(0, .ref b), (1, .ref (fad Δ 11 0 0)), (2, .ref (fad Δ 12 0 0)), (3, .int i)] [] st (fl_18 xs L i st) := by
  unfold fl_18
  refine r_aload_n (q := 864) (i := 1) (z := 1) C dL_law_863 rfl rfl rfl ?_
  refine r_aload_n (q := 865) (i := 0) (z := 0) C dL_law_864 rfl rfl rfl ?_
  refine r_iload_n (q := 866) (i := 3) (z := 3) C dL_law_865 rfl rfl rfl ?_
  refine r_iconst (q := 867) (v := 1) C dL_law_866 rfl (by decide) ?_
  refine r_iadd (q := 868) C dL_law_867 rfl ?_
  refine r_sld (q := 869) hX C dL_law_868 rfl ?_
  refine r_callVI (q := 872) (As := [.int (xs (i + ((1 : Int32))).toNatClampNeg)]) wm_L_97 yvX11_lot (c_X11_lot Δ hN (xs (i + ((1 : Int32))).toNatClampNeg) st) ⟨rfl, by decide⟩ C (nk_11_0 hN) (by decide) rfl (Nat.le_of_ble_eq_true rfl) dL_law_869 rfl (fun x1 s2 => ?_)
  refine r_aload_n (q := 873) (i := 2) (z := 2) C dL_law_872 rfl rfl rfl ?_
  refine r_aload_n (q := 874) (i := 0) (z := 0) C dL_law_873 rfl rfl rfl ?_
  refine r_iload_n (q := 875) (i := 3) (z := 3) C dL_law_874 rfl rfl rfl ?_
  refine r_iconst (q := 876) (v := 1) C dL_law_875 rfl (by decide) ?_
  refine r_iadd (q := 877) C dL_law_876 rfl ?_
  refine r_sld (q := 878) hX C dL_law_877 rfl ?_
  refine r_callVI (q := 881) (As := [.int (xs (i + ((1 : Int32))).toNatClampNeg)]) wm_L_100 yvX12_lot (c_X12_lot Δ hM (xs (i + ((1 : Int32))).toNatClampNeg) s2) ⟨rfl, by decide⟩ C (nm_12 hM) (by decide) rfl (Nat.le_of_ble_eq_true rfl) dL_law_878 rfl (fun x3 s4 => ?_)
  refine r_icmp_eq (q := 884) (tgt := 1481) C dL_law_881 (by decide) rfl ?_ ?_
  · exact hE s4
  · exact r_none

noncomputable def fl_19 (xs : Nat → Int32) (L : Nat) (i : Int32) (st : fSt) : Option (Unit × fSt) :=
  fIx (i + ((1 : Int32))) L <|
  fIx (i + ((2 : Int32))) L <|
  fBd (f_X11_book (xs (i + ((1 : Int32))).toNatClampNeg) (xs (i + ((2 : Int32))).toNatClampNeg) st) fun x1 s2 =>
  fIx (i + ((1 : Int32))) L <|
  fIx (i + ((2 : Int32))) L <|
  fBd (f_X12_book (xs (i + ((1 : Int32))).toNatClampNeg) (xs (i + ((2 : Int32))).toNatClampNeg) s2) fun x3 s4 =>
  if x1 = x3 then
    (fE s4)
  else
    (none)
set_option maxHeartbeats 4000000 in
set_option maxRecDepth 100000 in
theorem tl_19 {Qv : Unit → fSt → State → Prop} {b L : Nat} {xs : Nat → Int32} (Δ : fDl) (Γ : fGm) (hN : fNx Δ) (hM : fNm Δ) (C : fC Δ Γ cL_law RL 4 (some .boolean) 21) (hX : lX b L xs Γ) (i : Int32) (hE : ∀ s, fW Δ Γ 4 Qv 1481 [(0, .ref b), (1, .ref (fad Δ 11 0 0)), (2, .ref (fad Δ 12 0 0)), (3, .int i)] [] s (fE s)) (st : fSt) : fW Δ Γ 4 Qv 886 [(0, .ref b), (1, .ref (fad Δ 11 0 0)), (2, .ref (fad Δ 12 0 0)), (3, .int i)] [] st (fl_19 xs L i st) := by
  unfold fl_19
  refine r_aload_n (q := 887) (i := 1) (z := 1) C dL_law_886 rfl rfl rfl ?_
  refine r_aload_n (q := 888) (i := 0) (z := 0) C dL_law_887 rfl rfl rfl ?_
  refine r_iload_n (q := 889) (i := 3) (z := 3) C dL_law_888 rfl rfl rfl ?_
  refine r_iconst (q := 890) (v := 1) C dL_law_889 rfl (by decide) ?_
  refine r_iadd (q := 891) C dL_law_890 rfl ?_
  refine r_sld (q := 892) hX C dL_law_891 rfl ?_
  refine r_aload_n (q := 893) (i := 0) (z := 0) C dL_law_892 rfl rfl rfl ?_
  refine r_iload_n (q := 894) (i := 3) (z := 3) C dL_law_893 rfl rfl rfl ?_
  refine r_iconst (q := 895) (v := 2) C dL_law_894 rfl (by decide) ?_
  refine r_iadd (q := 896) C dL_law_895 rfl ?_
  refine r_sld (q := 897) hX C dL_law_896 rfl ?_
  refine r_callVI (q := 900) (As := [.int (xs (i + ((1 : Int32))).toNatClampNeg), .int (xs (i + ((2 : Int32))).toNatClampNeg)]) wm_L_101 yvX11_book (c_X11_book Δ hN (xs (i + ((1 : Int32))).toNatClampNeg) (xs (i + ((2 : Int32))).toNatClampNeg) st) ⟨rfl, by decide⟩ C (nk_11_0 hN) (by decide) rfl (Nat.le_of_ble_eq_true rfl) dL_law_897 rfl (fun x1 s2 => ?_)
  refine r_aload_n (q := 901) (i := 2) (z := 2) C dL_law_900 rfl rfl rfl ?_
  refine r_aload_n (q := 902) (i := 0) (z := 0) C dL_law_901 rfl rfl rfl ?_
  refine r_iload_n (q := 903) (i := 3) (z := 3) C dL_law_902 rfl rfl rfl ?_
  refine r_iconst (q := 904) (v := 1) C dL_law_903 rfl (by decide) ?_
  refine r_iadd (q := 905) C dL_law_904 rfl ?_
  refine r_sld (q := 906) hX C dL_law_905 rfl ?_
  refine r_aload_n (q := 907) (i := 0) (z := 0) C dL_law_906 rfl rfl rfl ?_
  refine r_iload_n (q := 908) (i := 3) (z := 3) C dL_law_907 rfl rfl rfl ?_
  refine r_iconst (q := 909) (v := 2) C dL_law_908 rfl (by decide) ?_
  refine r_iadd (q := 910) C dL_law_909 rfl ?_
  refine r_sld (q := 911) hX C dL_law_910 rfl ?_
  refine r_callVI (q := 914) (As := [.int (xs (i + ((1 : Int32))).toNatClampNeg), .int (xs (i + ((2 : Int32))).toNatClampNeg)]) wm_L_104 yvX12_book (c_X12_book Δ hM (xs (i + ((1 : Int32))).toNatClampNeg) (xs (i + ((2 : Int32))).toNatClampNeg) s2) ⟨rfl, by decide⟩ C (nm_12 hM) (by decide) rfl (Nat.le_of_ble_eq_true rfl) dL_law_911 rfl (fun x3 s4 => ?_)
  refine r_icmp_eq (q := 917) (tgt := 1481) C dL_law_914 (by decide) rfl ?_ ?_
  · exact hE s4
  · exact r_none

noncomputable def fl_20 (xs : Nat → Int32) (L : Nat) (i : Int32) (st : fSt) : Option (Unit × fSt) :=
  fBd (f_X11_unseen  st) fun x1 s2 =>
  fBd (f_X12_unseen  s2) fun x3 s4 =>
  if x1 = x3 then
    (fE s4)
  else
    (none)
set_option maxHeartbeats 4000000 in
set_option maxRecDepth 100000 in
theorem tl_20 {Qv : Unit → fSt → State → Prop} {b L : Nat} {xs : Nat → Int32} (Δ : fDl) (Γ : fGm) (hN : fNx Δ) (hM : fNm Δ) (C : fC Δ Γ cL_law RL 4 (some .boolean) 21) (hX : lX b L xs Γ) (i : Int32) (hE : ∀ s, fW Δ Γ 4 Qv 1481 [(0, .ref b), (1, .ref (fad Δ 11 0 0)), (2, .ref (fad Δ 12 0 0)), (3, .int i)] [] s (fE s)) (st : fSt) : fW Δ Γ 4 Qv 919 [(0, .ref b), (1, .ref (fad Δ 11 0 0)), (2, .ref (fad Δ 12 0 0)), (3, .int i)] [] st (fl_20 xs L i st) := by
  unfold fl_20
  refine r_aload_n (q := 920) (i := 1) (z := 1) C dL_law_919 rfl rfl rfl ?_
  refine r_callVI (q := 923) (As := []) wm_L_105 yvX11_unseen (c_X11_unseen Δ hN st) ⟨rfl, by decide⟩ C (nk_11_0 hN) (by decide) rfl (Nat.le_of_ble_eq_true rfl) dL_law_920 rfl (fun x1 s2 => ?_)
  refine r_aload_n (q := 924) (i := 2) (z := 2) C dL_law_923 rfl rfl rfl ?_
  refine r_callVI (q := 927) (As := []) wm_L_108 yvX12_unseen (c_X12_unseen Δ hM s2) ⟨rfl, by decide⟩ C (nm_12 hM) (by decide) rfl (Nat.le_of_ble_eq_true rfl) dL_law_924 rfl (fun x3 s4 => ?_)
  refine r_icmp_eq (q := 930) (tgt := 1481) C dL_law_927 (by decide) rfl ?_ ?_
  · exact hE s4
  · exact r_none

noncomputable def fl_21 (xs : Nat → Int32) (L : Nat) (i : Int32) (st : fSt) : Option (Unit × fSt) :=
  fIx (i + ((1 : Int32))) L <|
  fBd (f_X11_led (xs (i + ((1 : Int32))).toNatClampNeg) st) fun x1 s2 =>
  fIx (i + ((1 : Int32))) L <|
  fBd (f_X12_led (xs (i + ((1 : Int32))).toNatClampNeg) s2) fun x3 s4 =>
  if x1 = x3 then
    (fE s4)
  else
    (none)
set_option maxHeartbeats 4000000 in
set_option maxRecDepth 100000 in
theorem tl_21 {Qv : Unit → fSt → State → Prop} {b L : Nat} {xs : Nat → Int32} (Δ : fDl) (Γ : fGm) (hN : fNx Δ) (hM : fNm Δ) (C : fC Δ Γ cL_law RL 4 (some .boolean) 21) (hX : lX b L xs Γ) (i : Int32) (hE : ∀ s, fW Δ Γ 4 Qv 1481 [(0, .ref b), (1, .ref (fad Δ 11 0 0)), (2, .ref (fad Δ 12 0 0)), (3, .int i)] [] s (fE s)) (st : fSt) : fW Δ Γ 4 Qv 932 [(0, .ref b), (1, .ref (fad Δ 11 0 0)), (2, .ref (fad Δ 12 0 0)), (3, .int i)] [] st (fl_21 xs L i st) := by
  unfold fl_21
  refine r_aload_n (q := 933) (i := 1) (z := 1) C dL_law_932 rfl rfl rfl ?_
  refine r_aload_n (q := 934) (i := 0) (z := 0) C dL_law_933 rfl rfl rfl ?_
  refine r_iload_n (q := 935) (i := 3) (z := 3) C dL_law_934 rfl rfl rfl ?_
  refine r_iconst (q := 936) (v := 1) C dL_law_935 rfl (by decide) ?_
  refine r_iadd (q := 937) C dL_law_936 rfl ?_
  refine r_sld (q := 938) hX C dL_law_937 rfl ?_
  refine r_callVI (q := 941) (As := [.int (xs (i + ((1 : Int32))).toNatClampNeg)]) wm_L_109 yvX11_led (c_X11_led Δ hN (xs (i + ((1 : Int32))).toNatClampNeg) st) ⟨rfl, by decide⟩ C (nk_11_0 hN) (by decide) rfl (Nat.le_of_ble_eq_true rfl) dL_law_938 rfl (fun x1 s2 => ?_)
  refine r_aload_n (q := 942) (i := 2) (z := 2) C dL_law_941 rfl rfl rfl ?_
  refine r_aload_n (q := 943) (i := 0) (z := 0) C dL_law_942 rfl rfl rfl ?_
  refine r_iload_n (q := 944) (i := 3) (z := 3) C dL_law_943 rfl rfl rfl ?_
  refine r_iconst (q := 945) (v := 1) C dL_law_944 rfl (by decide) ?_
  refine r_iadd (q := 946) C dL_law_945 rfl ?_
  refine r_sld (q := 947) hX C dL_law_946 rfl ?_
  refine r_callVI (q := 950) (As := [.int (xs (i + ((1 : Int32))).toNatClampNeg)]) wm_L_112 yvX12_led (c_X12_led Δ hM (xs (i + ((1 : Int32))).toNatClampNeg) s2) ⟨rfl, by decide⟩ C (nm_12 hM) (by decide) rfl (Nat.le_of_ble_eq_true rfl) dL_law_947 rfl (fun x3 s4 => ?_)
  refine r_icmp_eq (q := 953) (tgt := 1481) C dL_law_950 (by decide) rfl ?_ ?_
  · exact hE s4
  · exact r_none

noncomputable def fl_22 (xs : Nat → Int32) (L : Nat) (i : Int32) (st : fSt) : Option (Unit × fSt) :=
  fIx (i + ((1 : Int32))) L <|
  fBd (f_X11_heard (xs (i + ((1 : Int32))).toNatClampNeg) st) fun x1 s2 =>
  fIx (i + ((1 : Int32))) L <|
  fBd (f_X12_heard (xs (i + ((1 : Int32))).toNatClampNeg) s2) fun x3 s4 =>
  if x1 = x3 then
    (fE s4)
  else
    (none)
set_option maxHeartbeats 4000000 in
set_option maxRecDepth 100000 in
theorem tl_22 {Qv : Unit → fSt → State → Prop} {b L : Nat} {xs : Nat → Int32} (Δ : fDl) (Γ : fGm) (hN : fNx Δ) (hM : fNm Δ) (C : fC Δ Γ cL_law RL 4 (some .boolean) 21) (hX : lX b L xs Γ) (i : Int32) (hE : ∀ s, fW Δ Γ 4 Qv 1481 [(0, .ref b), (1, .ref (fad Δ 11 0 0)), (2, .ref (fad Δ 12 0 0)), (3, .int i)] [] s (fE s)) (st : fSt) : fW Δ Γ 4 Qv 955 [(0, .ref b), (1, .ref (fad Δ 11 0 0)), (2, .ref (fad Δ 12 0 0)), (3, .int i)] [] st (fl_22 xs L i st) := by
  unfold fl_22
  refine r_aload_n (q := 956) (i := 1) (z := 1) C dL_law_955 rfl rfl rfl ?_
  refine r_aload_n (q := 957) (i := 0) (z := 0) C dL_law_956 rfl rfl rfl ?_
  refine r_iload_n (q := 958) (i := 3) (z := 3) C dL_law_957 rfl rfl rfl ?_
  refine r_iconst (q := 959) (v := 1) C dL_law_958 rfl (by decide) ?_
  refine r_iadd (q := 960) C dL_law_959 rfl ?_
  refine r_sld (q := 961) hX C dL_law_960 rfl ?_
  refine r_callVI (q := 964) (As := [.int (xs (i + ((1 : Int32))).toNatClampNeg)]) wm_L_113 yvX11_heard (c_X11_heard Δ hN (xs (i + ((1 : Int32))).toNatClampNeg) st) ⟨rfl, by decide⟩ C (nk_11_0 hN) (by decide) rfl (Nat.le_of_ble_eq_true rfl) dL_law_961 rfl (fun x1 s2 => ?_)
  refine r_aload_n (q := 965) (i := 2) (z := 2) C dL_law_964 rfl rfl rfl ?_
  refine r_aload_n (q := 966) (i := 0) (z := 0) C dL_law_965 rfl rfl rfl ?_
  refine r_iload_n (q := 967) (i := 3) (z := 3) C dL_law_966 rfl rfl rfl ?_
  refine r_iconst (q := 968) (v := 1) C dL_law_967 rfl (by decide) ?_
  refine r_iadd (q := 969) C dL_law_968 rfl ?_
  refine r_sld (q := 970) hX C dL_law_969 rfl ?_
  refine r_callVI (q := 973) (As := [.int (xs (i + ((1 : Int32))).toNatClampNeg)]) wm_L_116 yvX12_heard (c_X12_heard Δ hM (xs (i + ((1 : Int32))).toNatClampNeg) s2) ⟨rfl, by decide⟩ C (nm_12 hM) (by decide) rfl (Nat.le_of_ble_eq_true rfl) dL_law_970 rfl (fun x3 s4 => ?_)
  refine r_icmp_eq (q := 976) (tgt := 1481) C dL_law_973 (by decide) rfl ?_ ?_
  · exact hE s4
  · exact r_none

noncomputable def fl_23 (xs : Nat → Int32) (L : Nat) (i : Int32) (st : fSt) : Option (Unit × fSt) :=
  fIx (i + ((1 : Int32))) L <|
  fBd (f_X11_suspects (xs (i + ((1 : Int32))).toNatClampNeg) st) fun x1 s2 =>
  fIx (i + ((1 : Int32))) L <|
  fBd (f_X12_suspects (xs (i + ((1 : Int32))).toNatClampNeg) s2) fun x3 s4 =>
  if x1 = x3 then
    (fE s4)
  else
    (none)
set_option maxHeartbeats 4000000 in
set_option maxRecDepth 100000 in
theorem tl_23 {Qv : Unit → fSt → State → Prop} {b L : Nat} {xs : Nat → Int32} (Δ : fDl) (Γ : fGm) (hN : fNx Δ) (hM : fNm Δ) (C : fC Δ Γ cL_law RL 4 (some .boolean) 21) (hX : lX b L xs Γ) (i : Int32) (hE : ∀ s, fW Δ Γ 4 Qv 1481 [(0, .ref b), (1, .ref (fad Δ 11 0 0)), (2, .ref (fad Δ 12 0 0)), (3, .int i)] [] s (fE s)) (st : fSt) : fW Δ Γ 4 Qv 978 [(0, .ref b), (1, .ref (fad Δ 11 0 0)), (2, .ref (fad Δ 12 0 0)), (3, .int i)] [] st (fl_23 xs L i st) := by
  unfold fl_23
  refine r_aload_n (q := 979) (i := 1) (z := 1) C dL_law_978 rfl rfl rfl ?_
  refine r_aload_n (q := 980) (i := 0) (z := 0) C dL_law_979 rfl rfl rfl ?_
  refine r_iload_n (q := 981) (i := 3) (z := 3) C dL_law_980 rfl rfl rfl ?_
  refine r_iconst (q := 982) (v := 1) C dL_law_981 rfl (by decide) ?_
  refine r_iadd (q := 983) C dL_law_982 rfl ?_
  refine r_sld (q := 984) hX C dL_law_983 rfl ?_
  refine r_callVI (q := 987) (As := [.int (xs (i + ((1 : Int32))).toNatClampNeg)]) wm_L_117 yvX11_suspects (c_X11_suspects Δ hN (xs (i + ((1 : Int32))).toNatClampNeg) st) ⟨rfl, by decide⟩ C (nk_11_0 hN) (by decide) rfl (Nat.le_of_ble_eq_true rfl) dL_law_984 rfl (fun x1 s2 => ?_)
  refine r_aload_n (q := 988) (i := 2) (z := 2) C dL_law_987 rfl rfl rfl ?_
  refine r_aload_n (q := 989) (i := 0) (z := 0) C dL_law_988 rfl rfl rfl ?_
  refine r_iload_n (q := 990) (i := 3) (z := 3) C dL_law_989 rfl rfl rfl ?_
  refine r_iconst (q := 991) (v := 1) C dL_law_990 rfl (by decide) ?_
  refine r_iadd (q := 992) C dL_law_991 rfl ?_
  refine r_sld (q := 993) hX C dL_law_992 rfl ?_
  refine r_callVI (q := 996) (As := [.int (xs (i + ((1 : Int32))).toNatClampNeg)]) wm_L_120 yvX12_suspects (c_X12_suspects Δ hM (xs (i + ((1 : Int32))).toNatClampNeg) s2) ⟨rfl, by decide⟩ C (nm_12 hM) (by decide) rfl (Nat.le_of_ble_eq_true rfl) dL_law_993 rfl (fun x3 s4 => ?_)
  refine r_icmp_eq (q := 999) (tgt := 1481) C dL_law_996 (by decide) rfl ?_ ?_
  · exact hE s4
  · exact r_none

noncomputable def fl_24 (xs : Nat → Int32) (L : Nat) (i : Int32) (st : fSt) : Option (Unit × fSt) :=
  fIx (i + ((1 : Int32))) L <|
  fIx (i + ((2 : Int32))) L <|
  fBd (f_X11_odds (xs (i + ((1 : Int32))).toNatClampNeg) (xs (i + ((2 : Int32))).toNatClampNeg) st) fun x1 s2 =>
  fIx (i + ((1 : Int32))) L <|
  fIx (i + ((2 : Int32))) L <|
  fBd (f_X12_odds (xs (i + ((1 : Int32))).toNatClampNeg) (xs (i + ((2 : Int32))).toNatClampNeg) s2) fun x3 s4 =>
  if x1 = x3 then
    (fE s4)
  else
    (none)
set_option maxHeartbeats 4000000 in
set_option maxRecDepth 100000 in
theorem tl_24 {Qv : Unit → fSt → State → Prop} {b L : Nat} {xs : Nat → Int32} (Δ : fDl) (Γ : fGm) (hN : fNx Δ) (hM : fNm Δ) (C : fC Δ Γ cL_law RL 4 (some .boolean) 21) (hX : lX b L xs Γ) (i : Int32) (hE : ∀ s, fW Δ Γ 4 Qv 1481 [(0, .ref b), (1, .ref (fad Δ 11 0 0)), (2, .ref (fad Δ 12 0 0)), (3, .int i)] [] s (fE s)) (st : fSt) : fW Δ Γ 4 Qv 1001 [(0, .ref b), (1, .ref (fad Δ 11 0 0)), (2, .ref (fad Δ 12 0 0)), (3, .int i)] [] st (fl_24 xs L i st) := by
  unfold fl_24
  refine r_aload_n (q := 1002) (i := 1) (z := 1) C dL_law_1001 rfl rfl rfl ?_
  refine r_aload_n (q := 1003) (i := 0) (z := 0) C dL_law_1002 rfl rfl rfl ?_
  refine r_iload_n (q := 1004) (i := 3) (z := 3) C dL_law_1003 rfl rfl rfl ?_
  refine r_iconst (q := 1005) (v := 1) C dL_law_1004 rfl (by decide) ?_
  refine r_iadd (q := 1006) C dL_law_1005 rfl ?_
  refine r_sld (q := 1007) hX C dL_law_1006 rfl ?_
  refine r_aload_n (q := 1008) (i := 0) (z := 0) C dL_law_1007 rfl rfl rfl ?_
  refine r_iload_n (q := 1009) (i := 3) (z := 3) C dL_law_1008 rfl rfl rfl ?_
  refine r_iconst (q := 1010) (v := 2) C dL_law_1009 rfl (by decide) ?_
  refine r_iadd (q := 1011) C dL_law_1010 rfl ?_
  refine r_sld (q := 1012) hX C dL_law_1011 rfl ?_
  refine r_callVI (q := 1015) (As := [.int (xs (i + ((1 : Int32))).toNatClampNeg), .int (xs (i + ((2 : Int32))).toNatClampNeg)]) wm_L_121 yvX11_odds (c_X11_odds Δ hN (xs (i + ((1 : Int32))).toNatClampNeg) (xs (i + ((2 : Int32))).toNatClampNeg) st) ⟨rfl, by decide⟩ C (nk_11_0 hN) (by decide) rfl (Nat.le_of_ble_eq_true rfl) dL_law_1012 rfl (fun x1 s2 => ?_)
  refine r_aload_n (q := 1016) (i := 2) (z := 2) C dL_law_1015 rfl rfl rfl ?_
  refine r_aload_n (q := 1017) (i := 0) (z := 0) C dL_law_1016 rfl rfl rfl ?_
  refine r_iload_n (q := 1018) (i := 3) (z := 3) C dL_law_1017 rfl rfl rfl ?_
  refine r_iconst (q := 1019) (v := 1) C dL_law_1018 rfl (by decide) ?_
  refine r_iadd (q := 1020) C dL_law_1019 rfl ?_
  refine r_sld (q := 1021) hX C dL_law_1020 rfl ?_
  refine r_aload_n (q := 1022) (i := 0) (z := 0) C dL_law_1021 rfl rfl rfl ?_
  refine r_iload_n (q := 1023) (i := 3) (z := 3) C dL_law_1022 rfl rfl rfl ?_
  refine r_iconst (q := 1024) (v := 2) C dL_law_1023 rfl (by decide) ?_
  refine r_iadd (q := 1025) C dL_law_1024 rfl ?_
  refine r_sld (q := 1026) hX C dL_law_1025 rfl ?_
  refine r_callVI (q := 1029) (As := [.int (xs (i + ((1 : Int32))).toNatClampNeg), .int (xs (i + ((2 : Int32))).toNatClampNeg)]) wm_L_125 yvX12_odds (c_X12_odds Δ hM (xs (i + ((1 : Int32))).toNatClampNeg) (xs (i + ((2 : Int32))).toNatClampNeg) s2) ⟨rfl, by decide⟩ C (nm_12 hM) (by decide) rfl (Nat.le_of_ble_eq_true rfl) dL_law_1026 rfl (fun x3 s4 => ?_)
  refine r_icmp_eq (q := 1032) (tgt := 1481) C dL_law_1029 (by decide) rfl ?_ ?_
  · exact hE s4
  · exact r_none

noncomputable def fl_25 (xs : Nat → Int32) (L : Nat) (i : Int32) (st : fSt) : Option (Unit × fSt) :=
  fIx (i + ((1 : Int32))) L <|
  fIx (i + ((2 : Int32))) L <|
  fBd (f_X11_seen (xs (i + ((1 : Int32))).toNatClampNeg) (xs (i + ((2 : Int32))).toNatClampNeg) st) fun x1 s2 =>
  fIx (i + ((1 : Int32))) L <|
  fIx (i + ((2 : Int32))) L <|
  fBd (f_X12_seen (xs (i + ((1 : Int32))).toNatClampNeg) (xs (i + ((2 : Int32))).toNatClampNeg) s2) fun x3 s4 =>
  if x1 = x3 then
    (fE s4)
  else
    (none)
set_option maxHeartbeats 4000000 in
set_option maxRecDepth 100000 in
theorem tl_25 {Qv : Unit → fSt → State → Prop} {b L : Nat} {xs : Nat → Int32} (Δ : fDl) (Γ : fGm) (hN : fNx Δ) (hM : fNm Δ) (C : fC Δ Γ cL_law RL 4 (some .boolean) 21) (hX : lX b L xs Γ) (i : Int32) (hE : ∀ s, fW Δ Γ 4 Qv 1481 [(0, .ref b), (1, .ref (fad Δ 11 0 0)), (2, .ref (fad Δ 12 0 0)), (3, .int i)] [] s (fE s)) (st : fSt) : fW Δ Γ 4 Qv 1034 [(0, .ref b), (1, .ref (fad Δ 11 0 0)), (2, .ref (fad Δ 12 0 0)), (3, .int i)] [] st (fl_25 xs L i st) := by
  unfold fl_25
  refine r_aload_n (q := 1035) (i := 1) (z := 1) C dL_law_1034 rfl rfl rfl ?_
  refine r_aload_n (q := 1036) (i := 0) (z := 0) C dL_law_1035 rfl rfl rfl ?_
  refine r_iload_n (q := 1037) (i := 3) (z := 3) C dL_law_1036 rfl rfl rfl ?_
  refine r_iconst (q := 1038) (v := 1) C dL_law_1037 rfl (by decide) ?_
  refine r_iadd (q := 1039) C dL_law_1038 rfl ?_
  refine r_sld (q := 1040) hX C dL_law_1039 rfl ?_
  refine r_aload_n (q := 1041) (i := 0) (z := 0) C dL_law_1040 rfl rfl rfl ?_
  refine r_iload_n (q := 1042) (i := 3) (z := 3) C dL_law_1041 rfl rfl rfl ?_
  refine r_iconst (q := 1043) (v := 2) C dL_law_1042 rfl (by decide) ?_
  refine r_iadd (q := 1044) C dL_law_1043 rfl ?_
  refine r_sld (q := 1045) hX C dL_law_1044 rfl ?_
  refine r_callVI (q := 1048) (As := [.int (xs (i + ((1 : Int32))).toNatClampNeg), .int (xs (i + ((2 : Int32))).toNatClampNeg)]) wm_L_126 yvX11_seen (c_X11_seen Δ hN (xs (i + ((1 : Int32))).toNatClampNeg) (xs (i + ((2 : Int32))).toNatClampNeg) st) ⟨rfl, by decide⟩ C (nk_11_0 hN) (by decide) rfl (Nat.le_of_ble_eq_true rfl) dL_law_1045 rfl (fun x1 s2 => ?_)
  refine r_aload_n (q := 1049) (i := 2) (z := 2) C dL_law_1048 rfl rfl rfl ?_
  refine r_aload_n (q := 1050) (i := 0) (z := 0) C dL_law_1049 rfl rfl rfl ?_
  refine r_iload_n (q := 1051) (i := 3) (z := 3) C dL_law_1050 rfl rfl rfl ?_
  refine r_iconst (q := 1052) (v := 1) C dL_law_1051 rfl (by decide) ?_
  refine r_iadd (q := 1053) C dL_law_1052 rfl ?_
  refine r_sld (q := 1054) hX C dL_law_1053 rfl ?_
  refine r_aload_n (q := 1055) (i := 0) (z := 0) C dL_law_1054 rfl rfl rfl ?_
  refine r_iload_n (q := 1056) (i := 3) (z := 3) C dL_law_1055 rfl rfl rfl ?_
  refine r_iconst (q := 1057) (v := 2) C dL_law_1056 rfl (by decide) ?_
  refine r_iadd (q := 1058) C dL_law_1057 rfl ?_
  refine r_sld (q := 1059) hX C dL_law_1058 rfl ?_
  refine r_callVI (q := 1062) (As := [.int (xs (i + ((1 : Int32))).toNatClampNeg), .int (xs (i + ((2 : Int32))).toNatClampNeg)]) wm_L_129 yvX12_seen (c_X12_seen Δ hM (xs (i + ((1 : Int32))).toNatClampNeg) (xs (i + ((2 : Int32))).toNatClampNeg) s2) ⟨rfl, by decide⟩ C (nm_12 hM) (by decide) rfl (Nat.le_of_ble_eq_true rfl) dL_law_1059 rfl (fun x3 s4 => ?_)
  refine r_icmp_eq (q := 1065) (tgt := 1481) C dL_law_1062 (by decide) rfl ?_ ?_
  · exact hE s4
  · exact r_none

noncomputable def fl_26 (xs : Nat → Int32) (L : Nat) (i : Int32) (st : fSt) : Option (Unit × fSt) :=
  fIx (i + ((1 : Int32))) L <|
  fIx (i + ((2 : Int32))) L <|
  fBd (f_X11_who (xs (i + ((1 : Int32))).toNatClampNeg) (xs (i + ((2 : Int32))).toNatClampNeg) st) fun x1 s2 =>
  fIx (i + ((1 : Int32))) L <|
  fIx (i + ((2 : Int32))) L <|
  fBd (f_X12_who (xs (i + ((1 : Int32))).toNatClampNeg) (xs (i + ((2 : Int32))).toNatClampNeg) s2) fun x3 s4 =>
  if x1 = x3 then
    (fE s4)
  else
    (none)
set_option maxHeartbeats 4000000 in
set_option maxRecDepth 100000 in
theorem tl_26 {Qv : Unit → fSt → State → Prop} {b L : Nat} {xs : Nat → Int32} (Δ : fDl) (Γ : fGm) (hN : fNx Δ) (hM : fNm Δ) (C : fC Δ Γ cL_law RL 4 (some .boolean) 21) (hX : lX b L xs Γ) (i : Int32) (hE : ∀ s, fW Δ Γ 4 Qv 1481 [(0, .ref b), (1, .ref (fad Δ 11 0 0)), (2, .ref (fad Δ 12 0 0)), (3, .int i)] [] s (fE s)) (st : fSt) : fW Δ Γ 4 Qv 1067 [(0, .ref b), (1, .ref (fad Δ 11 0 0)), (2, .ref (fad Δ 12 0 0)), (3, .int i)] [] st (fl_26 xs L i st) := by
  unfold fl_26
  refine r_aload_n (q := 1068) (i := 1) (z := 1) C dL_law_1067 rfl rfl rfl ?_
  refine r_aload_n (q := 1069) (i := 0) (z := 0) C dL_law_1068 rfl rfl rfl ?_
  refine r_iload_n (q := 1070) (i := 3) (z := 3) C dL_law_1069 rfl rfl rfl ?_
  refine r_iconst (q := 1071) (v := 1) C dL_law_1070 rfl (by decide) ?_
  refine r_iadd (q := 1072) C dL_law_1071 rfl ?_
  refine r_sld (q := 1073) hX C dL_law_1072 rfl ?_
  refine r_aload_n (q := 1074) (i := 0) (z := 0) C dL_law_1073 rfl rfl rfl ?_
  refine r_iload_n (q := 1075) (i := 3) (z := 3) C dL_law_1074 rfl rfl rfl ?_
  refine r_iconst (q := 1076) (v := 2) C dL_law_1075 rfl (by decide) ?_
  refine r_iadd (q := 1077) C dL_law_1076 rfl ?_
  refine r_sld (q := 1078) hX C dL_law_1077 rfl ?_
  refine r_callVI (q := 1081) (As := [.int (xs (i + ((1 : Int32))).toNatClampNeg), .int (xs (i + ((2 : Int32))).toNatClampNeg)]) wm_L_130 yvX11_who (c_X11_who Δ hN (xs (i + ((1 : Int32))).toNatClampNeg) (xs (i + ((2 : Int32))).toNatClampNeg) st) ⟨rfl, by decide⟩ C (nk_11_0 hN) (by decide) rfl (Nat.le_of_ble_eq_true rfl) dL_law_1078 rfl (fun x1 s2 => ?_)
  refine r_aload_n (q := 1082) (i := 2) (z := 2) C dL_law_1081 rfl rfl rfl ?_
  refine r_aload_n (q := 1083) (i := 0) (z := 0) C dL_law_1082 rfl rfl rfl ?_
  refine r_iload_n (q := 1084) (i := 3) (z := 3) C dL_law_1083 rfl rfl rfl ?_
  refine r_iconst (q := 1085) (v := 1) C dL_law_1084 rfl (by decide) ?_
  refine r_iadd (q := 1086) C dL_law_1085 rfl ?_
  refine r_sld (q := 1087) hX C dL_law_1086 rfl ?_
  refine r_aload_n (q := 1088) (i := 0) (z := 0) C dL_law_1087 rfl rfl rfl ?_
  refine r_iload_n (q := 1089) (i := 3) (z := 3) C dL_law_1088 rfl rfl rfl ?_
  refine r_iconst (q := 1090) (v := 2) C dL_law_1089 rfl (by decide) ?_
  refine r_iadd (q := 1091) C dL_law_1090 rfl ?_
  refine r_sld (q := 1092) hX C dL_law_1091 rfl ?_
  refine r_callVI (q := 1095) (As := [.int (xs (i + ((1 : Int32))).toNatClampNeg), .int (xs (i + ((2 : Int32))).toNatClampNeg)]) wm_L_133 yvX12_who (c_X12_who Δ hM (xs (i + ((1 : Int32))).toNatClampNeg) (xs (i + ((2 : Int32))).toNatClampNeg) s2) ⟨rfl, by decide⟩ C (nm_12 hM) (by decide) rfl (Nat.le_of_ble_eq_true rfl) dL_law_1092 rfl (fun x3 s4 => ?_)
  refine r_icmp_eq (q := 1098) (tgt := 1481) C dL_law_1095 (by decide) rfl ?_ ?_
  · exact hE s4
  · exact r_none

noncomputable def fl_27 (xs : Nat → Int32) (L : Nat) (i : Int32) (st : fSt) : Option (Unit × fSt) :=
  fIx (i + ((1 : Int32))) L <|
  fBd (f_X11_mean (xs (i + ((1 : Int32))).toNatClampNeg) st) fun x1 s2 =>
  fIx (i + ((1 : Int32))) L <|
  fBd (f_X12_mean (xs (i + ((1 : Int32))).toNatClampNeg) s2) fun x3 s4 =>
  if x1 = x3 then
    (fE s4)
  else
    (none)
set_option maxHeartbeats 4000000 in
set_option maxRecDepth 100000 in
theorem tl_27 {Qv : Unit → fSt → State → Prop} {b L : Nat} {xs : Nat → Int32} (Δ : fDl) (Γ : fGm) (hN : fNx Δ) (hM : fNm Δ) (C : fC Δ Γ cL_law RL 4 (some .boolean) 21) (hX : lX b L xs Γ) (i : Int32) (hE : ∀ s, fW Δ Γ 4 Qv 1481 [(0, .ref b), (1, .ref (fad Δ 11 0 0)), (2, .ref (fad Δ 12 0 0)), (3, .int i)] [] s (fE s)) (st : fSt) : fW Δ Γ 4 Qv 1100 [(0, .ref b), (1, .ref (fad Δ 11 0 0)), (2, .ref (fad Δ 12 0 0)), (3, .int i)] [] st (fl_27 xs L i st) := by
  unfold fl_27
  refine r_aload_n (q := 1101) (i := 1) (z := 1) C dL_law_1100 rfl rfl rfl ?_
  refine r_aload_n (q := 1102) (i := 0) (z := 0) C dL_law_1101 rfl rfl rfl ?_
  refine r_iload_n (q := 1103) (i := 3) (z := 3) C dL_law_1102 rfl rfl rfl ?_
  refine r_iconst (q := 1104) (v := 1) C dL_law_1103 rfl (by decide) ?_
  refine r_iadd (q := 1105) C dL_law_1104 rfl ?_
  refine r_sld (q := 1106) hX C dL_law_1105 rfl ?_
  refine r_callVI (q := 1109) (As := [.int (xs (i + ((1 : Int32))).toNatClampNeg)]) wm_L_134 yvX11_mean (c_X11_mean Δ hN (xs (i + ((1 : Int32))).toNatClampNeg) st) ⟨rfl, by decide⟩ C (nk_11_0 hN) (by decide) rfl (Nat.le_of_ble_eq_true rfl) dL_law_1106 rfl (fun x1 s2 => ?_)
  refine r_aload_n (q := 1110) (i := 2) (z := 2) C dL_law_1109 rfl rfl rfl ?_
  refine r_aload_n (q := 1111) (i := 0) (z := 0) C dL_law_1110 rfl rfl rfl ?_
  refine r_iload_n (q := 1112) (i := 3) (z := 3) C dL_law_1111 rfl rfl rfl ?_
  refine r_iconst (q := 1113) (v := 1) C dL_law_1112 rfl (by decide) ?_
  refine r_iadd (q := 1114) C dL_law_1113 rfl ?_
  refine r_sld (q := 1115) hX C dL_law_1114 rfl ?_
  refine r_callVI (q := 1118) (As := [.int (xs (i + ((1 : Int32))).toNatClampNeg)]) wm_L_138 yvX12_mean (c_X12_mean Δ hM (xs (i + ((1 : Int32))).toNatClampNeg) s2) ⟨rfl, by decide⟩ C (nm_12 hM) (by decide) rfl (Nat.le_of_ble_eq_true rfl) dL_law_1115 rfl (fun x3 s4 => ?_)
  refine r_icmp_eq (q := 1121) (tgt := 1481) C dL_law_1118 (by decide) rfl ?_ ?_
  · exact hE s4
  · exact r_none

noncomputable def fl_28 (xs : Nat → Int32) (L : Nat) (i : Int32) (st : fSt) : Option (Unit × fSt) :=
  fBd (f_X11_ways  st) fun x1 s2 =>
  fBd (f_X12_ways  s2) fun x3 s4 =>
  if x1 = x3 then
    (fE s4)
  else
    (none)
set_option maxHeartbeats 4000000 in
set_option maxRecDepth 100000 in
theorem tl_28 {Qv : Unit → fSt → State → Prop} {b L : Nat} {xs : Nat → Int32} (Δ : fDl) (Γ : fGm) (hN : fNx Δ) (hM : fNm Δ) (C : fC Δ Γ cL_law RL 4 (some .boolean) 21) (hX : lX b L xs Γ) (i : Int32) (hE : ∀ s, fW Δ Γ 4 Qv 1481 [(0, .ref b), (1, .ref (fad Δ 11 0 0)), (2, .ref (fad Δ 12 0 0)), (3, .int i)] [] s (fE s)) (st : fSt) : fW Δ Γ 4 Qv 1123 [(0, .ref b), (1, .ref (fad Δ 11 0 0)), (2, .ref (fad Δ 12 0 0)), (3, .int i)] [] st (fl_28 xs L i st) := by
  unfold fl_28
  refine r_aload_n (q := 1124) (i := 1) (z := 1) C dL_law_1123 rfl rfl rfl ?_
  refine r_callVI (q := 1127) (As := []) wm_L_139 yvX11_ways (c_X11_ways Δ hN st) ⟨rfl, by decide⟩ C (nk_11_0 hN) (by decide) rfl (Nat.le_of_ble_eq_true rfl) dL_law_1124 rfl (fun x1 s2 => ?_)
  refine r_aload_n (q := 1128) (i := 2) (z := 2) C dL_law_1127 rfl rfl rfl ?_
  refine r_callVI (q := 1131) (As := []) wm_L_142 yvX12_ways (c_X12_ways Δ hM s2) ⟨rfl, by decide⟩ C (nm_12 hM) (by decide) rfl (Nat.le_of_ble_eq_true rfl) dL_law_1128 rfl (fun x3 s4 => ?_)
  refine r_icmp_eq (q := 1134) (tgt := 1481) C dL_law_1131 (by decide) rfl ?_ ?_
  · exact hE s4
  · exact r_none

noncomputable def fl_29 (xs : Nat → Int32) (L : Nat) (i : Int32) (st : fSt) : Option (Unit × fSt) :=
  fIx (i + ((1 : Int32))) L <|
  fBd (f_X11_length (xs (i + ((1 : Int32))).toNatClampNeg) st) fun x1 s2 =>
  fIx (i + ((1 : Int32))) L <|
  fBd (f_X12_length (xs (i + ((1 : Int32))).toNatClampNeg) s2) fun x3 s4 =>
  if x1 = x3 then
    (fE s4)
  else
    (none)
set_option maxHeartbeats 4000000 in
set_option maxRecDepth 100000 in
theorem tl_29 {Qv : Unit → fSt → State → Prop} {b L : Nat} {xs : Nat → Int32} (Δ : fDl) (Γ : fGm) (hN : fNx Δ) (hM : fNm Δ) (C : fC Δ Γ cL_law RL 4 (some .boolean) 21) (hX : lX b L xs Γ) (i : Int32) (hE : ∀ s, fW Δ Γ 4 Qv 1481 [(0, .ref b), (1, .ref (fad Δ 11 0 0)), (2, .ref (fad Δ 12 0 0)), (3, .int i)] [] s (fE s)) (st : fSt) : fW Δ Γ 4 Qv 1136 [(0, .ref b), (1, .ref (fad Δ 11 0 0)), (2, .ref (fad Δ 12 0 0)), (3, .int i)] [] st (fl_29 xs L i st) := by
  unfold fl_29
  refine r_aload_n (q := 1137) (i := 1) (z := 1) C dL_law_1136 rfl rfl rfl ?_
  refine r_aload_n (q := 1138) (i := 0) (z := 0) C dL_law_1137 rfl rfl rfl ?_
  refine r_iload_n (q := 1139) (i := 3) (z := 3) C dL_law_1138 rfl rfl rfl ?_
  refine r_iconst (q := 1140) (v := 1) C dL_law_1139 rfl (by decide) ?_
  refine r_iadd (q := 1141) C dL_law_1140 rfl ?_
  refine r_sld (q := 1142) hX C dL_law_1141 rfl ?_
  refine r_callVI (q := 1145) (As := [.int (xs (i + ((1 : Int32))).toNatClampNeg)]) wm_L_143 yvX11_length (c_X11_length Δ hN (xs (i + ((1 : Int32))).toNatClampNeg) st) ⟨rfl, by decide⟩ C (nk_11_0 hN) (by decide) rfl (Nat.le_of_ble_eq_true rfl) dL_law_1142 rfl (fun x1 s2 => ?_)
  refine r_aload_n (q := 1146) (i := 2) (z := 2) C dL_law_1145 rfl rfl rfl ?_
  refine r_aload_n (q := 1147) (i := 0) (z := 0) C dL_law_1146 rfl rfl rfl ?_
  refine r_iload_n (q := 1148) (i := 3) (z := 3) C dL_law_1147 rfl rfl rfl ?_
  refine r_iconst (q := 1149) (v := 1) C dL_law_1148 rfl (by decide) ?_
  refine r_iadd (q := 1150) C dL_law_1149 rfl ?_
  refine r_sld (q := 1151) hX C dL_law_1150 rfl ?_
  refine r_callVI (q := 1154) (As := [.int (xs (i + ((1 : Int32))).toNatClampNeg)]) wm_L_146 yvX12_length (c_X12_length Δ hM (xs (i + ((1 : Int32))).toNatClampNeg) s2) ⟨rfl, by decide⟩ C (nm_12 hM) (by decide) rfl (Nat.le_of_ble_eq_true rfl) dL_law_1151 rfl (fun x3 s4 => ?_)
  refine r_icmp_eq (q := 1157) (tgt := 1481) C dL_law_1154 (by decide) rfl ?_ ?_
  · exact hE s4
  · exact r_none

noncomputable def fl_30 (xs : Nat → Int32) (L : Nat) (i : Int32) (st : fSt) : Option (Unit × fSt) :=
  fIx (i + ((1 : Int32))) L <|
  fBd (f_X11_can (xs (i + ((1 : Int32))).toNatClampNeg) st) fun x1 s2 =>
  fIx (i + ((1 : Int32))) L <|
  fBd (f_X12_can (xs (i + ((1 : Int32))).toNatClampNeg) s2) fun x3 s4 =>
  if x1 = x3 then
    (fE s4)
  else
    (none)
set_option maxHeartbeats 4000000 in
set_option maxRecDepth 100000 in
theorem tl_30 {Qv : Unit → fSt → State → Prop} {b L : Nat} {xs : Nat → Int32} (Δ : fDl) (Γ : fGm) (hN : fNx Δ) (hM : fNm Δ) (C : fC Δ Γ cL_law RL 4 (some .boolean) 21) (hX : lX b L xs Γ) (i : Int32) (hE : ∀ s, fW Δ Γ 4 Qv 1481 [(0, .ref b), (1, .ref (fad Δ 11 0 0)), (2, .ref (fad Δ 12 0 0)), (3, .int i)] [] s (fE s)) (st : fSt) : fW Δ Γ 4 Qv 1159 [(0, .ref b), (1, .ref (fad Δ 11 0 0)), (2, .ref (fad Δ 12 0 0)), (3, .int i)] [] st (fl_30 xs L i st) := by
  unfold fl_30
  refine r_aload_n (q := 1160) (i := 1) (z := 1) C dL_law_1159 rfl rfl rfl ?_
  refine r_aload_n (q := 1161) (i := 0) (z := 0) C dL_law_1160 rfl rfl rfl ?_
  refine r_iload_n (q := 1162) (i := 3) (z := 3) C dL_law_1161 rfl rfl rfl ?_
  refine r_iconst (q := 1163) (v := 1) C dL_law_1162 rfl (by decide) ?_
  refine r_iadd (q := 1164) C dL_law_1163 rfl ?_
  refine r_sld (q := 1165) hX C dL_law_1164 rfl ?_
  refine r_callVI (q := 1168) (As := [.int (xs (i + ((1 : Int32))).toNatClampNeg)]) wm_L_147 yvX11_can (c_X11_can Δ hN (xs (i + ((1 : Int32))).toNatClampNeg) st) ⟨rfl, by decide⟩ C (nk_11_0 hN) (by decide) rfl (Nat.le_of_ble_eq_true rfl) dL_law_1165 rfl (fun x1 s2 => ?_)
  refine r_aload_n (q := 1169) (i := 2) (z := 2) C dL_law_1168 rfl rfl rfl ?_
  refine r_aload_n (q := 1170) (i := 0) (z := 0) C dL_law_1169 rfl rfl rfl ?_
  refine r_iload_n (q := 1171) (i := 3) (z := 3) C dL_law_1170 rfl rfl rfl ?_
  refine r_iconst (q := 1172) (v := 1) C dL_law_1171 rfl (by decide) ?_
  refine r_iadd (q := 1173) C dL_law_1172 rfl ?_
  refine r_sld (q := 1174) hX C dL_law_1173 rfl ?_
  refine r_callVI (q := 1177) (As := [.int (xs (i + ((1 : Int32))).toNatClampNeg)]) wm_L_150 yvX12_can (c_X12_can Δ hM (xs (i + ((1 : Int32))).toNatClampNeg) s2) ⟨rfl, by decide⟩ C (nm_12 hM) (by decide) rfl (Nat.le_of_ble_eq_true rfl) dL_law_1174 rfl (fun x3 s4 => ?_)
  refine r_icmp_eq (q := 1180) (tgt := 1481) C dL_law_1177 (by decide) rfl ?_ ?_
  · exact hE s4
  · exact r_none

noncomputable def fl_31 (xs : Nat → Int32) (L : Nat) (i : Int32) (st : fSt) : Option (Unit × fSt) :=
  fIx (i + ((1 : Int32))) L <|
  fBd (f_X11_by (xs (i + ((1 : Int32))).toNatClampNeg) st) fun x1 s2 =>
  fIx (i + ((1 : Int32))) L <|
  fBd (f_X12_by (xs (i + ((1 : Int32))).toNatClampNeg) s2) fun x3 s4 =>
  if x1 = x3 then
    (fE s4)
  else
    (none)
set_option maxHeartbeats 4000000 in
set_option maxRecDepth 100000 in
theorem tl_31 {Qv : Unit → fSt → State → Prop} {b L : Nat} {xs : Nat → Int32} (Δ : fDl) (Γ : fGm) (hN : fNx Δ) (hM : fNm Δ) (C : fC Δ Γ cL_law RL 4 (some .boolean) 21) (hX : lX b L xs Γ) (i : Int32) (hE : ∀ s, fW Δ Γ 4 Qv 1481 [(0, .ref b), (1, .ref (fad Δ 11 0 0)), (2, .ref (fad Δ 12 0 0)), (3, .int i)] [] s (fE s)) (st : fSt) : fW Δ Γ 4 Qv 1182 [(0, .ref b), (1, .ref (fad Δ 11 0 0)), (2, .ref (fad Δ 12 0 0)), (3, .int i)] [] st (fl_31 xs L i st) := by
  unfold fl_31
  refine r_aload_n (q := 1183) (i := 1) (z := 1) C dL_law_1182 rfl rfl rfl ?_
  refine r_aload_n (q := 1184) (i := 0) (z := 0) C dL_law_1183 rfl rfl rfl ?_
  refine r_iload_n (q := 1185) (i := 3) (z := 3) C dL_law_1184 rfl rfl rfl ?_
  refine r_iconst (q := 1186) (v := 1) C dL_law_1185 rfl (by decide) ?_
  refine r_iadd (q := 1187) C dL_law_1186 rfl ?_
  refine r_sld (q := 1188) hX C dL_law_1187 rfl ?_
  refine r_callVI (q := 1191) (As := [.int (xs (i + ((1 : Int32))).toNatClampNeg)]) wm_L_151 yvX11_by (c_X11_by Δ hN (xs (i + ((1 : Int32))).toNatClampNeg) st) ⟨rfl, by decide⟩ C (nk_11_0 hN) (by decide) rfl (Nat.le_of_ble_eq_true rfl) dL_law_1188 rfl (fun x1 s2 => ?_)
  refine r_aload_n (q := 1192) (i := 2) (z := 2) C dL_law_1191 rfl rfl rfl ?_
  refine r_aload_n (q := 1193) (i := 0) (z := 0) C dL_law_1192 rfl rfl rfl ?_
  refine r_iload_n (q := 1194) (i := 3) (z := 3) C dL_law_1193 rfl rfl rfl ?_
  refine r_iconst (q := 1195) (v := 1) C dL_law_1194 rfl (by decide) ?_
  refine r_iadd (q := 1196) C dL_law_1195 rfl ?_
  refine r_sld (q := 1197) hX C dL_law_1196 rfl ?_
  refine r_callVI (q := 1200) (As := [.int (xs (i + ((1 : Int32))).toNatClampNeg)]) wm_L_154 yvX12_by (c_X12_by Δ hM (xs (i + ((1 : Int32))).toNatClampNeg) s2) ⟨rfl, by decide⟩ C (nm_12 hM) (by decide) rfl (Nat.le_of_ble_eq_true rfl) dL_law_1197 rfl (fun x3 s4 => ?_)
  refine r_icmp_eq (q := 1203) (tgt := 1481) C dL_law_1200 (by decide) rfl ?_ ?_
  · exact hE s4
  · exact r_none

noncomputable def fl_32 (xs : Nat → Int32) (L : Nat) (i : Int32) (st : fSt) : Option (Unit × fSt) :=
  fBd (f_X11_fewest  st) fun x1 s2 =>
  fBd (f_X12_fewest  s2) fun x3 s4 =>
  if x1 = x3 then
    (fE s4)
  else
    (none)
set_option maxHeartbeats 4000000 in
set_option maxRecDepth 100000 in
theorem tl_32 {Qv : Unit → fSt → State → Prop} {b L : Nat} {xs : Nat → Int32} (Δ : fDl) (Γ : fGm) (hN : fNx Δ) (hM : fNm Δ) (C : fC Δ Γ cL_law RL 4 (some .boolean) 21) (hX : lX b L xs Γ) (i : Int32) (hE : ∀ s, fW Δ Γ 4 Qv 1481 [(0, .ref b), (1, .ref (fad Δ 11 0 0)), (2, .ref (fad Δ 12 0 0)), (3, .int i)] [] s (fE s)) (st : fSt) : fW Δ Γ 4 Qv 1205 [(0, .ref b), (1, .ref (fad Δ 11 0 0)), (2, .ref (fad Δ 12 0 0)), (3, .int i)] [] st (fl_32 xs L i st) := by
  unfold fl_32
  refine r_aload_n (q := 1206) (i := 1) (z := 1) C dL_law_1205 rfl rfl rfl ?_
  refine r_callVI (q := 1209) (As := []) wm_L_155 yvX11_fewest (c_X11_fewest Δ hN st) ⟨rfl, by decide⟩ C (nk_11_0 hN) (by decide) rfl (Nat.le_of_ble_eq_true rfl) dL_law_1206 rfl (fun x1 s2 => ?_)
  refine r_aload_n (q := 1210) (i := 2) (z := 2) C dL_law_1209 rfl rfl rfl ?_
  refine r_callVI (q := 1213) (As := []) wm_L_158 yvX12_fewest (c_X12_fewest Δ hM s2) ⟨rfl, by decide⟩ C (nm_12 hM) (by decide) rfl (Nat.le_of_ble_eq_true rfl) dL_law_1210 rfl (fun x3 s4 => ?_)
  refine r_icmp_eq (q := 1216) (tgt := 1481) C dL_law_1213 (by decide) rfl ?_ ?_
  · exact hE s4
  · exact r_none

noncomputable def fl_33 (xs : Nat → Int32) (L : Nat) (i : Int32) (st : fSt) : Option (Unit × fSt) :=
  fIx (i + ((1 : Int32))) L <|
  fBd (f_X11_steer (xs (i + ((1 : Int32))).toNatClampNeg) st) fun x1 s2 =>
  fIx (i + ((1 : Int32))) L <|
  fBd (f_X12_steer (xs (i + ((1 : Int32))).toNatClampNeg) s2) fun x3 s4 =>
  if x1 = x3 then
    (fE s4)
  else
    (none)
set_option maxHeartbeats 4000000 in
set_option maxRecDepth 100000 in
theorem tl_33 {Qv : Unit → fSt → State → Prop} {b L : Nat} {xs : Nat → Int32} (Δ : fDl) (Γ : fGm) (hN : fNx Δ) (hM : fNm Δ) (C : fC Δ Γ cL_law RL 4 (some .boolean) 21) (hX : lX b L xs Γ) (i : Int32) (hE : ∀ s, fW Δ Γ 4 Qv 1481 [(0, .ref b), (1, .ref (fad Δ 11 0 0)), (2, .ref (fad Δ 12 0 0)), (3, .int i)] [] s (fE s)) (st : fSt) : fW Δ Γ 4 Qv 1218 [(0, .ref b), (1, .ref (fad Δ 11 0 0)), (2, .ref (fad Δ 12 0 0)), (3, .int i)] [] st (fl_33 xs L i st) := by
  unfold fl_33
  refine r_aload_n (q := 1219) (i := 1) (z := 1) C dL_law_1218 rfl rfl rfl ?_
  refine r_aload_n (q := 1220) (i := 0) (z := 0) C dL_law_1219 rfl rfl rfl ?_
  refine r_iload_n (q := 1221) (i := 3) (z := 3) C dL_law_1220 rfl rfl rfl ?_
  refine r_iconst (q := 1222) (v := 1) C dL_law_1221 rfl (by decide) ?_
  refine r_iadd (q := 1223) C dL_law_1222 rfl ?_
  refine r_sld (q := 1224) hX C dL_law_1223 rfl ?_
  refine r_callVI (q := 1227) (As := [.int (xs (i + ((1 : Int32))).toNatClampNeg)]) wm_L_159 yvX11_steer (c_X11_steer Δ hN (xs (i + ((1 : Int32))).toNatClampNeg) st) ⟨rfl, by decide⟩ C (nk_11_0 hN) (by decide) rfl (Nat.le_of_ble_eq_true rfl) dL_law_1224 rfl (fun x1 s2 => ?_)
  refine r_aload_n (q := 1228) (i := 2) (z := 2) C dL_law_1227 rfl rfl rfl ?_
  refine r_aload_n (q := 1229) (i := 0) (z := 0) C dL_law_1228 rfl rfl rfl ?_
  refine r_iload_n (q := 1230) (i := 3) (z := 3) C dL_law_1229 rfl rfl rfl ?_
  refine r_iconst (q := 1231) (v := 1) C dL_law_1230 rfl (by decide) ?_
  refine r_iadd (q := 1232) C dL_law_1231 rfl ?_
  refine r_sld (q := 1233) hX C dL_law_1232 rfl ?_
  refine r_callVI (q := 1236) (As := [.int (xs (i + ((1 : Int32))).toNatClampNeg)]) wm_L_162 yvX12_steer (c_X12_steer Δ hM (xs (i + ((1 : Int32))).toNatClampNeg) s2) ⟨rfl, by decide⟩ C (nm_12 hM) (by decide) rfl (Nat.le_of_ble_eq_true rfl) dL_law_1233 rfl (fun x3 s4 => ?_)
  refine r_icmp_eq (q := 1239) (tgt := 1481) C dL_law_1236 (by decide) rfl ?_ ?_
  · exact hE s4
  · exact r_none

noncomputable def fl_34 (xs : Nat → Int32) (L : Nat) (i : Int32) (st : fSt) : Option (Unit × fSt) :=
  fIx (i + ((1 : Int32))) L <|
  fBd (f_X11_steerAt (xs (i + ((1 : Int32))).toNatClampNeg) st) fun x1 s2 =>
  fIx (i + ((1 : Int32))) L <|
  fBd (f_X12_steerAt (xs (i + ((1 : Int32))).toNatClampNeg) s2) fun x3 s4 =>
  if x1 = x3 then
    (fE s4)
  else
    (none)
set_option maxHeartbeats 4000000 in
set_option maxRecDepth 100000 in
theorem tl_34 {Qv : Unit → fSt → State → Prop} {b L : Nat} {xs : Nat → Int32} (Δ : fDl) (Γ : fGm) (hN : fNx Δ) (hM : fNm Δ) (C : fC Δ Γ cL_law RL 4 (some .boolean) 21) (hX : lX b L xs Γ) (i : Int32) (hE : ∀ s, fW Δ Γ 4 Qv 1481 [(0, .ref b), (1, .ref (fad Δ 11 0 0)), (2, .ref (fad Δ 12 0 0)), (3, .int i)] [] s (fE s)) (st : fSt) : fW Δ Γ 4 Qv 1241 [(0, .ref b), (1, .ref (fad Δ 11 0 0)), (2, .ref (fad Δ 12 0 0)), (3, .int i)] [] st (fl_34 xs L i st) := by
  unfold fl_34
  refine r_aload_n (q := 1242) (i := 1) (z := 1) C dL_law_1241 rfl rfl rfl ?_
  refine r_aload_n (q := 1243) (i := 0) (z := 0) C dL_law_1242 rfl rfl rfl ?_
  refine r_iload_n (q := 1244) (i := 3) (z := 3) C dL_law_1243 rfl rfl rfl ?_
  refine r_iconst (q := 1245) (v := 1) C dL_law_1244 rfl (by decide) ?_
  refine r_iadd (q := 1246) C dL_law_1245 rfl ?_
  refine r_sld (q := 1247) hX C dL_law_1246 rfl ?_
  refine r_callVI (q := 1250) (As := [.int (xs (i + ((1 : Int32))).toNatClampNeg)]) wm_L_163 yvX11_steerAt (c_X11_steerAt Δ hN (xs (i + ((1 : Int32))).toNatClampNeg) st) ⟨rfl, by decide⟩ C (nk_11_0 hN) (by decide) rfl (Nat.le_of_ble_eq_true rfl) dL_law_1247 rfl (fun x1 s2 => ?_)
  refine r_aload_n (q := 1251) (i := 2) (z := 2) C dL_law_1250 rfl rfl rfl ?_
  refine r_aload_n (q := 1252) (i := 0) (z := 0) C dL_law_1251 rfl rfl rfl ?_
  refine r_iload_n (q := 1253) (i := 3) (z := 3) C dL_law_1252 rfl rfl rfl ?_
  refine r_iconst (q := 1254) (v := 1) C dL_law_1253 rfl (by decide) ?_
  refine r_iadd (q := 1255) C dL_law_1254 rfl ?_
  refine r_sld (q := 1256) hX C dL_law_1255 rfl ?_
  refine r_callVI (q := 1259) (As := [.int (xs (i + ((1 : Int32))).toNatClampNeg)]) wm_L_166 yvX12_steerAt (c_X12_steerAt Δ hM (xs (i + ((1 : Int32))).toNatClampNeg) s2) ⟨rfl, by decide⟩ C (nm_12 hM) (by decide) rfl (Nat.le_of_ble_eq_true rfl) dL_law_1256 rfl (fun x3 s4 => ?_)
  refine r_icmp_eq (q := 1262) (tgt := 1481) C dL_law_1259 (by decide) rfl ?_ ?_
  · exact hE s4
  · exact r_none

noncomputable def fl_35 (xs : Nat → Int32) (L : Nat) (i : Int32) (st : fSt) : Option (Unit × fSt) :=
  fIx (i + ((1 : Int32))) L <|
  fBd (f_X11_death (xs (i + ((1 : Int32))).toNatClampNeg) st) fun x1 s2 =>
  fIx (i + ((1 : Int32))) L <|
  fBd (f_X12_death (xs (i + ((1 : Int32))).toNatClampNeg) s2) fun x3 s4 =>
  if x1 = x3 then
    (fE s4)
  else
    (none)
set_option maxHeartbeats 4000000 in
set_option maxRecDepth 100000 in
theorem tl_35 {Qv : Unit → fSt → State → Prop} {b L : Nat} {xs : Nat → Int32} (Δ : fDl) (Γ : fGm) (hN : fNx Δ) (hM : fNm Δ) (C : fC Δ Γ cL_law RL 4 (some .boolean) 21) (hX : lX b L xs Γ) (i : Int32) (hE : ∀ s, fW Δ Γ 4 Qv 1481 [(0, .ref b), (1, .ref (fad Δ 11 0 0)), (2, .ref (fad Δ 12 0 0)), (3, .int i)] [] s (fE s)) (st : fSt) : fW Δ Γ 4 Qv 1264 [(0, .ref b), (1, .ref (fad Δ 11 0 0)), (2, .ref (fad Δ 12 0 0)), (3, .int i)] [] st (fl_35 xs L i st) := by
  unfold fl_35
  refine r_aload_n (q := 1265) (i := 1) (z := 1) C dL_law_1264 rfl rfl rfl ?_
  refine r_aload_n (q := 1266) (i := 0) (z := 0) C dL_law_1265 rfl rfl rfl ?_
  refine r_iload_n (q := 1267) (i := 3) (z := 3) C dL_law_1266 rfl rfl rfl ?_
  refine r_iconst (q := 1268) (v := 1) C dL_law_1267 rfl (by decide) ?_
  refine r_iadd (q := 1269) C dL_law_1268 rfl ?_
  refine r_sld (q := 1270) hX C dL_law_1269 rfl ?_
  refine r_callVI (q := 1273) (As := [.int (xs (i + ((1 : Int32))).toNatClampNeg)]) wm_L_167 yvX11_death (c_X11_death Δ hN (xs (i + ((1 : Int32))).toNatClampNeg) st) ⟨rfl, by decide⟩ C (nk_11_0 hN) (by decide) rfl (Nat.le_of_ble_eq_true rfl) dL_law_1270 rfl (fun x1 s2 => ?_)
  refine r_aload_n (q := 1274) (i := 2) (z := 2) C dL_law_1273 rfl rfl rfl ?_
  refine r_aload_n (q := 1275) (i := 0) (z := 0) C dL_law_1274 rfl rfl rfl ?_
  refine r_iload_n (q := 1276) (i := 3) (z := 3) C dL_law_1275 rfl rfl rfl ?_
  refine r_iconst (q := 1277) (v := 1) C dL_law_1276 rfl (by decide) ?_
  refine r_iadd (q := 1278) C dL_law_1277 rfl ?_
  refine r_sld (q := 1279) hX C dL_law_1278 rfl ?_
  refine r_callVI (q := 1282) (As := [.int (xs (i + ((1 : Int32))).toNatClampNeg)]) wm_L_170 yvX12_death (c_X12_death Δ hM (xs (i + ((1 : Int32))).toNatClampNeg) s2) ⟨rfl, by decide⟩ C (nm_12 hM) (by decide) rfl (Nat.le_of_ble_eq_true rfl) dL_law_1279 rfl (fun x3 s4 => ?_)
  refine r_icmp_eq (q := 1285) (tgt := 1481) C dL_law_1282 (by decide) rfl ?_ ?_
  · exact hE s4
  · exact r_none

noncomputable def fl_36 (xs : Nat → Int32) (L : Nat) (i : Int32) (st : fSt) : Option (Unit × fSt) :=
  fIx (i + ((1 : Int32))) L <|
  fBd (f_X11_cast (xs (i + ((1 : Int32))).toNatClampNeg) st) fun x1 s2 =>
  fIx (i + ((1 : Int32))) L <|
  fBd (f_X12_cast (xs (i + ((1 : Int32))).toNatClampNeg) s2) fun x3 s4 =>
  if x1 = x3 then
    (fE s4)
  else
    (none)
set_option maxHeartbeats 4000000 in
set_option maxRecDepth 100000 in
theorem tl_36 {Qv : Unit → fSt → State → Prop} {b L : Nat} {xs : Nat → Int32} (Δ : fDl) (Γ : fGm) (hN : fNx Δ) (hM : fNm Δ) (C : fC Δ Γ cL_law RL 4 (some .boolean) 21) (hX : lX b L xs Γ) (i : Int32) (hE : ∀ s, fW Δ Γ 4 Qv 1481 [(0, .ref b), (1, .ref (fad Δ 11 0 0)), (2, .ref (fad Δ 12 0 0)), (3, .int i)] [] s (fE s)) (st : fSt) : fW Δ Γ 4 Qv 1287 [(0, .ref b), (1, .ref (fad Δ 11 0 0)), (2, .ref (fad Δ 12 0 0)), (3, .int i)] [] st (fl_36 xs L i st) := by
  unfold fl_36
  refine r_aload_n (q := 1288) (i := 1) (z := 1) C dL_law_1287 rfl rfl rfl ?_
  refine r_aload_n (q := 1289) (i := 0) (z := 0) C dL_law_1288 rfl rfl rfl ?_
  refine r_iload_n (q := 1290) (i := 3) (z := 3) C dL_law_1289 rfl rfl rfl ?_
  refine r_iconst (q := 1291) (v := 1) C dL_law_1290 rfl (by decide) ?_
  refine r_iadd (q := 1292) C dL_law_1291 rfl ?_
  refine r_sld (q := 1293) hX C dL_law_1292 rfl ?_
  refine r_callVI (q := 1296) (As := [.int (xs (i + ((1 : Int32))).toNatClampNeg)]) wm_L_171 yvX11_cast (c_X11_cast Δ hN (xs (i + ((1 : Int32))).toNatClampNeg) st) ⟨rfl, by decide⟩ C (nk_11_0 hN) (by decide) rfl (Nat.le_of_ble_eq_true rfl) dL_law_1293 rfl (fun x1 s2 => ?_)
  refine r_aload_n (q := 1297) (i := 2) (z := 2) C dL_law_1296 rfl rfl rfl ?_
  refine r_aload_n (q := 1298) (i := 0) (z := 0) C dL_law_1297 rfl rfl rfl ?_
  refine r_iload_n (q := 1299) (i := 3) (z := 3) C dL_law_1298 rfl rfl rfl ?_
  refine r_iconst (q := 1300) (v := 1) C dL_law_1299 rfl (by decide) ?_
  refine r_iadd (q := 1301) C dL_law_1300 rfl ?_
  refine r_sld (q := 1302) hX C dL_law_1301 rfl ?_
  refine r_callVI (q := 1305) (As := [.int (xs (i + ((1 : Int32))).toNatClampNeg)]) wm_L_174 yvX12_cast (c_X12_cast Δ hM (xs (i + ((1 : Int32))).toNatClampNeg) s2) ⟨rfl, by decide⟩ C (nm_12 hM) (by decide) rfl (Nat.le_of_ble_eq_true rfl) dL_law_1302 rfl (fun x3 s4 => ?_)
  refine r_icmp_eq (q := 1308) (tgt := 1481) C dL_law_1305 (by decide) rfl ?_ ?_
  · exact hE s4
  · exact r_none

noncomputable def fl_37 (xs : Nat → Int32) (L : Nat) (i : Int32) (st : fSt) : Option (Unit × fSt) :=
  fIx (i + ((1 : Int32))) L <|
  fBd (f_X11_castAt (xs (i + ((1 : Int32))).toNatClampNeg) st) fun x1 s2 =>
  fIx (i + ((1 : Int32))) L <|
  fBd (f_X12_castAt (xs (i + ((1 : Int32))).toNatClampNeg) s2) fun x3 s4 =>
  if x1 = x3 then
    (fE s4)
  else
    (none)
set_option maxHeartbeats 4000000 in
set_option maxRecDepth 100000 in
theorem tl_37 {Qv : Unit → fSt → State → Prop} {b L : Nat} {xs : Nat → Int32} (Δ : fDl) (Γ : fGm) (hN : fNx Δ) (hM : fNm Δ) (C : fC Δ Γ cL_law RL 4 (some .boolean) 21) (hX : lX b L xs Γ) (i : Int32) (hE : ∀ s, fW Δ Γ 4 Qv 1481 [(0, .ref b), (1, .ref (fad Δ 11 0 0)), (2, .ref (fad Δ 12 0 0)), (3, .int i)] [] s (fE s)) (st : fSt) : fW Δ Γ 4 Qv 1310 [(0, .ref b), (1, .ref (fad Δ 11 0 0)), (2, .ref (fad Δ 12 0 0)), (3, .int i)] [] st (fl_37 xs L i st) := by
  unfold fl_37
  refine r_aload_n (q := 1311) (i := 1) (z := 1) C dL_law_1310 rfl rfl rfl ?_
  refine r_aload_n (q := 1312) (i := 0) (z := 0) C dL_law_1311 rfl rfl rfl ?_
  refine r_iload_n (q := 1313) (i := 3) (z := 3) C dL_law_1312 rfl rfl rfl ?_
  refine r_iconst (q := 1314) (v := 1) C dL_law_1313 rfl (by decide) ?_
  refine r_iadd (q := 1315) C dL_law_1314 rfl ?_
  refine r_sld (q := 1316) hX C dL_law_1315 rfl ?_
  refine r_callVI (q := 1319) (As := [.int (xs (i + ((1 : Int32))).toNatClampNeg)]) wm_L_175 yvX11_castAt (c_X11_castAt Δ hN (xs (i + ((1 : Int32))).toNatClampNeg) st) ⟨rfl, by decide⟩ C (nk_11_0 hN) (by decide) rfl (Nat.le_of_ble_eq_true rfl) dL_law_1316 rfl (fun x1 s2 => ?_)
  refine r_aload_n (q := 1320) (i := 2) (z := 2) C dL_law_1319 rfl rfl rfl ?_
  refine r_aload_n (q := 1321) (i := 0) (z := 0) C dL_law_1320 rfl rfl rfl ?_
  refine r_iload_n (q := 1322) (i := 3) (z := 3) C dL_law_1321 rfl rfl rfl ?_
  refine r_iconst (q := 1323) (v := 1) C dL_law_1322 rfl (by decide) ?_
  refine r_iadd (q := 1324) C dL_law_1323 rfl ?_
  refine r_sld (q := 1325) hX C dL_law_1324 rfl ?_
  refine r_callVI (q := 1328) (As := [.int (xs (i + ((1 : Int32))).toNatClampNeg)]) wm_L_178 yvX12_castAt (c_X12_castAt Δ hM (xs (i + ((1 : Int32))).toNatClampNeg) s2) ⟨rfl, by decide⟩ C (nm_12 hM) (by decide) rfl (Nat.le_of_ble_eq_true rfl) dL_law_1325 rfl (fun x3 s4 => ?_)
  refine r_icmp_eq (q := 1331) (tgt := 1481) C dL_law_1328 (by decide) rfl ?_ ?_
  · exact hE s4
  · exact r_none

noncomputable def fl_38 (xs : Nat → Int32) (L : Nat) (i : Int32) (st : fSt) : Option (Unit × fSt) :=
  fIx (i + ((1 : Int32))) L <|
  fIx (i + ((2 : Int32))) L <|
  fBd (f_X11_breaths (xs (i + ((1 : Int32))).toNatClampNeg) (xs (i + ((2 : Int32))).toNatClampNeg) st) fun x1 s2 =>
  fIx (i + ((1 : Int32))) L <|
  fIx (i + ((2 : Int32))) L <|
  fBd (f_X12_breaths (xs (i + ((1 : Int32))).toNatClampNeg) (xs (i + ((2 : Int32))).toNatClampNeg) s2) fun x3 s4 =>
  if x1 = x3 then
    (fE s4)
  else
    (none)
set_option maxHeartbeats 4000000 in
set_option maxRecDepth 100000 in
theorem tl_38 {Qv : Unit → fSt → State → Prop} {b L : Nat} {xs : Nat → Int32} (Δ : fDl) (Γ : fGm) (hN : fNx Δ) (hM : fNm Δ) (C : fC Δ Γ cL_law RL 4 (some .boolean) 21) (hX : lX b L xs Γ) (i : Int32) (hE : ∀ s, fW Δ Γ 4 Qv 1481 [(0, .ref b), (1, .ref (fad Δ 11 0 0)), (2, .ref (fad Δ 12 0 0)), (3, .int i)] [] s (fE s)) (st : fSt) : fW Δ Γ 4 Qv 1333 [(0, .ref b), (1, .ref (fad Δ 11 0 0)), (2, .ref (fad Δ 12 0 0)), (3, .int i)] [] st (fl_38 xs L i st) := by
  unfold fl_38
  refine r_aload_n (q := 1334) (i := 1) (z := 1) C dL_law_1333 rfl rfl rfl ?_
  refine r_aload_n (q := 1335) (i := 0) (z := 0) C dL_law_1334 rfl rfl rfl ?_
  refine r_iload_n (q := 1336) (i := 3) (z := 3) C dL_law_1335 rfl rfl rfl ?_
  refine r_iconst (q := 1337) (v := 1) C dL_law_1336 rfl (by decide) ?_
  refine r_iadd (q := 1338) C dL_law_1337 rfl ?_
  refine r_sld (q := 1339) hX C dL_law_1338 rfl ?_
  refine r_aload_n (q := 1340) (i := 0) (z := 0) C dL_law_1339 rfl rfl rfl ?_
  refine r_iload_n (q := 1341) (i := 3) (z := 3) C dL_law_1340 rfl rfl rfl ?_
  refine r_iconst (q := 1342) (v := 2) C dL_law_1341 rfl (by decide) ?_
  refine r_iadd (q := 1343) C dL_law_1342 rfl ?_
  refine r_sld (q := 1344) hX C dL_law_1343 rfl ?_
  refine r_callVI (q := 1347) (As := [.int (xs (i + ((1 : Int32))).toNatClampNeg), .int (xs (i + ((2 : Int32))).toNatClampNeg)]) wm_L_179 yvX11_breaths (c_X11_breaths Δ hN (xs (i + ((1 : Int32))).toNatClampNeg) (xs (i + ((2 : Int32))).toNatClampNeg) st) ⟨rfl, by decide⟩ C (nk_11_0 hN) (by decide) rfl (Nat.le_of_ble_eq_true rfl) dL_law_1344 rfl (fun x1 s2 => ?_)
  refine r_aload_n (q := 1348) (i := 2) (z := 2) C dL_law_1347 rfl rfl rfl ?_
  refine r_aload_n (q := 1349) (i := 0) (z := 0) C dL_law_1348 rfl rfl rfl ?_
  refine r_iload_n (q := 1350) (i := 3) (z := 3) C dL_law_1349 rfl rfl rfl ?_
  refine r_iconst (q := 1351) (v := 1) C dL_law_1350 rfl (by decide) ?_
  refine r_iadd (q := 1352) C dL_law_1351 rfl ?_
  refine r_sld (q := 1353) hX C dL_law_1352 rfl ?_
  refine r_aload_n (q := 1354) (i := 0) (z := 0) C dL_law_1353 rfl rfl rfl ?_
  refine r_iload_n (q := 1355) (i := 3) (z := 3) C dL_law_1354 rfl rfl rfl ?_
  refine r_iconst (q := 1356) (v := 2) C dL_law_1355 rfl (by decide) ?_
  refine r_iadd (q := 1357) C dL_law_1356 rfl ?_
  refine r_sld (q := 1358) hX C dL_law_1357 rfl ?_
  refine r_callVI (q := 1361) (As := [.int (xs (i + ((1 : Int32))).toNatClampNeg), .int (xs (i + ((2 : Int32))).toNatClampNeg)]) wm_L_182 yvX12_breaths (c_X12_breaths Δ hM (xs (i + ((1 : Int32))).toNatClampNeg) (xs (i + ((2 : Int32))).toNatClampNeg) s2) ⟨rfl, by decide⟩ C (nm_12 hM) (by decide) rfl (Nat.le_of_ble_eq_true rfl) dL_law_1358 rfl (fun x3 s4 => ?_)
  refine r_icmp_eq (q := 1364) (tgt := 1481) C dL_law_1361 (by decide) rfl ?_ ?_
  · exact hE s4
  · exact r_none

noncomputable def fl_39 (xs : Nat → Int32) (L : Nat) (i : Int32) (st : fSt) : Option (Unit × fSt) :=
  fIx (i + ((1 : Int32))) L <|
  fBd (f_X11_run (xs (i + ((1 : Int32))).toNatClampNeg) st) fun x1 s2 =>
  fIx (i + ((1 : Int32))) L <|
  fBd (f_X12_run (xs (i + ((1 : Int32))).toNatClampNeg) s2) fun x3 s4 =>
  if x1 = x3 then
    (fE s4)
  else
    (none)
set_option maxHeartbeats 4000000 in
set_option maxRecDepth 100000 in
theorem tl_39 {Qv : Unit → fSt → State → Prop} {b L : Nat} {xs : Nat → Int32} (Δ : fDl) (Γ : fGm) (hN : fNx Δ) (hM : fNm Δ) (C : fC Δ Γ cL_law RL 4 (some .boolean) 21) (hX : lX b L xs Γ) (i : Int32) (hE : ∀ s, fW Δ Γ 4 Qv 1481 [(0, .ref b), (1, .ref (fad Δ 11 0 0)), (2, .ref (fad Δ 12 0 0)), (3, .int i)] [] s (fE s)) (st : fSt) : fW Δ Γ 4 Qv 1366 [(0, .ref b), (1, .ref (fad Δ 11 0 0)), (2, .ref (fad Δ 12 0 0)), (3, .int i)] [] st (fl_39 xs L i st) := by
  unfold fl_39
  refine r_aload_n (q := 1367) (i := 1) (z := 1) C dL_law_1366 rfl rfl rfl ?_
  refine r_aload_n (q := 1368) (i := 0) (z := 0) C dL_law_1367 rfl rfl rfl ?_
  refine r_iload_n (q := 1369) (i := 3) (z := 3) C dL_law_1368 rfl rfl rfl ?_
  refine r_iconst (q := 1370) (v := 1) C dL_law_1369 rfl (by decide) ?_
  refine r_iadd (q := 1371) C dL_law_1370 rfl ?_
  refine r_sld (q := 1372) hX C dL_law_1371 rfl ?_
  refine r_callVI (q := 1375) (As := [.int (xs (i + ((1 : Int32))).toNatClampNeg)]) wm_L_183 yvX11_run (c_X11_run Δ hN (xs (i + ((1 : Int32))).toNatClampNeg) st) ⟨rfl, by decide⟩ C (nk_11_0 hN) (by decide) rfl (Nat.le_of_ble_eq_true rfl) dL_law_1372 rfl (fun x1 s2 => ?_)
  refine r_aload_n (q := 1376) (i := 2) (z := 2) C dL_law_1375 rfl rfl rfl ?_
  refine r_aload_n (q := 1377) (i := 0) (z := 0) C dL_law_1376 rfl rfl rfl ?_
  refine r_iload_n (q := 1378) (i := 3) (z := 3) C dL_law_1377 rfl rfl rfl ?_
  refine r_iconst (q := 1379) (v := 1) C dL_law_1378 rfl (by decide) ?_
  refine r_iadd (q := 1380) C dL_law_1379 rfl ?_
  refine r_sld (q := 1381) hX C dL_law_1380 rfl ?_
  refine r_callVI (q := 1384) (As := [.int (xs (i + ((1 : Int32))).toNatClampNeg)]) wm_L_186 yvX12_run (c_X12_run Δ hM (xs (i + ((1 : Int32))).toNatClampNeg) s2) ⟨rfl, by decide⟩ C (nm_12 hM) (by decide) rfl (Nat.le_of_ble_eq_true rfl) dL_law_1381 rfl (fun x3 s4 => ?_)
  refine r_icmp_eq (q := 1387) (tgt := 1481) C dL_law_1384 (by decide) rfl ?_ ?_
  · exact hE s4
  · exact r_none

noncomputable def fl_40 (xs : Nat → Int32) (L : Nat) (i : Int32) (st : fSt) : Option (Unit × fSt) :=
  fIx (i + ((1 : Int32))) L <|
  fBd (f_X11_ran (xs (i + ((1 : Int32))).toNatClampNeg) st) fun x1 s2 =>
  fIx (i + ((1 : Int32))) L <|
  fBd (f_X12_ran (xs (i + ((1 : Int32))).toNatClampNeg) s2) fun x3 s4 =>
  if x1 = x3 then
    (fE s4)
  else
    (none)
set_option maxHeartbeats 4000000 in
set_option maxRecDepth 100000 in
theorem tl_40 {Qv : Unit → fSt → State → Prop} {b L : Nat} {xs : Nat → Int32} (Δ : fDl) (Γ : fGm) (hN : fNx Δ) (hM : fNm Δ) (C : fC Δ Γ cL_law RL 4 (some .boolean) 21) (hX : lX b L xs Γ) (i : Int32) (hE : ∀ s, fW Δ Γ 4 Qv 1481 [(0, .ref b), (1, .ref (fad Δ 11 0 0)), (2, .ref (fad Δ 12 0 0)), (3, .int i)] [] s (fE s)) (st : fSt) : fW Δ Γ 4 Qv 1389 [(0, .ref b), (1, .ref (fad Δ 11 0 0)), (2, .ref (fad Δ 12 0 0)), (3, .int i)] [] st (fl_40 xs L i st) := by
  unfold fl_40
  refine r_aload_n (q := 1390) (i := 1) (z := 1) C dL_law_1389 rfl rfl rfl ?_
  refine r_aload_n (q := 1391) (i := 0) (z := 0) C dL_law_1390 rfl rfl rfl ?_
  refine r_iload_n (q := 1392) (i := 3) (z := 3) C dL_law_1391 rfl rfl rfl ?_
  refine r_iconst (q := 1393) (v := 1) C dL_law_1392 rfl (by decide) ?_
  refine r_iadd (q := 1394) C dL_law_1393 rfl ?_
  refine r_sld (q := 1395) hX C dL_law_1394 rfl ?_
  refine r_callVI (q := 1398) (As := [.int (xs (i + ((1 : Int32))).toNatClampNeg)]) wm_L_187 yvX11_ran (c_X11_ran Δ hN (xs (i + ((1 : Int32))).toNatClampNeg) st) ⟨rfl, by decide⟩ C (nk_11_0 hN) (by decide) rfl (Nat.le_of_ble_eq_true rfl) dL_law_1395 rfl (fun x1 s2 => ?_)
  refine r_aload_n (q := 1399) (i := 2) (z := 2) C dL_law_1398 rfl rfl rfl ?_
  refine r_aload_n (q := 1400) (i := 0) (z := 0) C dL_law_1399 rfl rfl rfl ?_
  refine r_iload_n (q := 1401) (i := 3) (z := 3) C dL_law_1400 rfl rfl rfl ?_
  refine r_iconst (q := 1402) (v := 1) C dL_law_1401 rfl (by decide) ?_
  refine r_iadd (q := 1403) C dL_law_1402 rfl ?_
  refine r_sld (q := 1404) hX C dL_law_1403 rfl ?_
  refine r_callVI (q := 1407) (As := [.int (xs (i + ((1 : Int32))).toNatClampNeg)]) wm_L_190 yvX12_ran (c_X12_ran Δ hM (xs (i + ((1 : Int32))).toNatClampNeg) s2) ⟨rfl, by decide⟩ C (nm_12 hM) (by decide) rfl (Nat.le_of_ble_eq_true rfl) dL_law_1404 rfl (fun x3 s4 => ?_)
  refine r_icmp_eq (q := 1410) (tgt := 1481) C dL_law_1407 (by decide) rfl ?_ ?_
  · exact hE s4
  · exact r_none

noncomputable def fl_41 (xs : Nat → Int32) (L : Nat) (i : Int32) (st : fSt) : Option (Unit × fSt) :=
  fIx (i + ((1 : Int32))) L <|
  fIx (i + ((2 : Int32))) L <|
  fIx (i + ((3 : Int32))) L <|
  fBd (f_X11_often (xs (i + ((1 : Int32))).toNatClampNeg) (xs (i + ((2 : Int32))).toNatClampNeg) (xs (i + ((3 : Int32))).toNatClampNeg) st) fun x1 s2 =>
  fIx (i + ((1 : Int32))) L <|
  fIx (i + ((2 : Int32))) L <|
  fIx (i + ((3 : Int32))) L <|
  fBd (f_X12_often (xs (i + ((1 : Int32))).toNatClampNeg) (xs (i + ((2 : Int32))).toNatClampNeg) (xs (i + ((3 : Int32))).toNatClampNeg) s2) fun x3 s4 =>
  if x1 = x3 then
    (fE s4)
  else
    (none)
set_option maxHeartbeats 4000000 in
set_option maxRecDepth 100000 in
theorem tl_41 {Qv : Unit → fSt → State → Prop} {b L : Nat} {xs : Nat → Int32} (Δ : fDl) (Γ : fGm) (hN : fNx Δ) (hM : fNm Δ) (C : fC Δ Γ cL_law RL 4 (some .boolean) 21) (hX : lX b L xs Γ) (i : Int32) (hE : ∀ s, fW Δ Γ 4 Qv 1481 [(0, .ref b), (1, .ref (fad Δ 11 0 0)), (2, .ref (fad Δ 12 0 0)), (3, .int i)] [] s (fE s)) (st : fSt) : fW Δ Γ 4 Qv 1412 [(0, .ref b), (1, .ref (fad Δ 11 0 0)), (2, .ref (fad Δ 12 0 0)), (3, .int i)] [] st (fl_41 xs L i st) := by
  unfold fl_41
  refine r_aload_n (q := 1413) (i := 1) (z := 1) C dL_law_1412 rfl rfl rfl ?_
  refine r_aload_n (q := 1414) (i := 0) (z := 0) C dL_law_1413 rfl rfl rfl ?_
  refine r_iload_n (q := 1415) (i := 3) (z := 3) C dL_law_1414 rfl rfl rfl ?_
  refine r_iconst (q := 1416) (v := 1) C dL_law_1415 rfl (by decide) ?_
  refine r_iadd (q := 1417) C dL_law_1416 rfl ?_
  refine r_sld (q := 1418) hX C dL_law_1417 rfl ?_
  refine r_aload_n (q := 1419) (i := 0) (z := 0) C dL_law_1418 rfl rfl rfl ?_
  refine r_iload_n (q := 1420) (i := 3) (z := 3) C dL_law_1419 rfl rfl rfl ?_
  refine r_iconst (q := 1421) (v := 2) C dL_law_1420 rfl (by decide) ?_
  refine r_iadd (q := 1422) C dL_law_1421 rfl ?_
  refine r_sld (q := 1423) hX C dL_law_1422 rfl ?_
  refine r_aload_n (q := 1424) (i := 0) (z := 0) C dL_law_1423 rfl rfl rfl ?_
  refine r_iload_n (q := 1425) (i := 3) (z := 3) C dL_law_1424 rfl rfl rfl ?_
  refine r_iconst (q := 1426) (v := 3) C dL_law_1425 rfl (by decide) ?_
  refine r_iadd (q := 1427) C dL_law_1426 rfl ?_
  refine r_sld (q := 1428) hX C dL_law_1427 rfl ?_
  refine r_callVI (q := 1431) (As := [.int (xs (i + ((1 : Int32))).toNatClampNeg), .int (xs (i + ((2 : Int32))).toNatClampNeg), .int (xs (i + ((3 : Int32))).toNatClampNeg)]) wm_L_191 yvX11_often (c_X11_often Δ hN (xs (i + ((1 : Int32))).toNatClampNeg) (xs (i + ((2 : Int32))).toNatClampNeg) (xs (i + ((3 : Int32))).toNatClampNeg) st) ⟨rfl, by decide⟩ C (nk_11_0 hN) (by decide) rfl (Nat.le_of_ble_eq_true rfl) dL_law_1428 rfl (fun x1 s2 => ?_)
  refine r_aload_n (q := 1432) (i := 2) (z := 2) C dL_law_1431 rfl rfl rfl ?_
  refine r_aload_n (q := 1433) (i := 0) (z := 0) C dL_law_1432 rfl rfl rfl ?_
  refine r_iload_n (q := 1434) (i := 3) (z := 3) C dL_law_1433 rfl rfl rfl ?_
  refine r_iconst (q := 1435) (v := 1) C dL_law_1434 rfl (by decide) ?_
  refine r_iadd (q := 1436) C dL_law_1435 rfl ?_
  refine r_sld (q := 1437) hX C dL_law_1436 rfl ?_
  refine r_aload_n (q := 1438) (i := 0) (z := 0) C dL_law_1437 rfl rfl rfl ?_
  refine r_iload_n (q := 1439) (i := 3) (z := 3) C dL_law_1438 rfl rfl rfl ?_
  refine r_iconst (q := 1440) (v := 2) C dL_law_1439 rfl (by decide) ?_
  refine r_iadd (q := 1441) C dL_law_1440 rfl ?_
  refine r_sld (q := 1442) hX C dL_law_1441 rfl ?_
  refine r_aload_n (q := 1443) (i := 0) (z := 0) C dL_law_1442 rfl rfl rfl ?_
  refine r_iload_n (q := 1444) (i := 3) (z := 3) C dL_law_1443 rfl rfl rfl ?_
  refine r_iconst (q := 1445) (v := 3) C dL_law_1444 rfl (by decide) ?_
  refine r_iadd (q := 1446) C dL_law_1445 rfl ?_
  refine r_sld (q := 1447) hX C dL_law_1446 rfl ?_
  refine r_callVI (q := 1450) (As := [.int (xs (i + ((1 : Int32))).toNatClampNeg), .int (xs (i + ((2 : Int32))).toNatClampNeg), .int (xs (i + ((3 : Int32))).toNatClampNeg)]) wm_L_194 yvX12_often (c_X12_often Δ hM (xs (i + ((1 : Int32))).toNatClampNeg) (xs (i + ((2 : Int32))).toNatClampNeg) (xs (i + ((3 : Int32))).toNatClampNeg) s2) ⟨rfl, by decide⟩ C (nm_12 hM) (by decide) rfl (Nat.le_of_ble_eq_true rfl) dL_law_1447 rfl (fun x3 s4 => ?_)
  refine r_icmp_eq (q := 1453) (tgt := 1481) C dL_law_1450 (by decide) rfl ?_ ?_
  · exact hE s4
  · exact r_none

noncomputable def fl_42 (xs : Nat → Int32) (L : Nat) (i : Int32) (st : fSt) : Option (Unit × fSt) :=
  fBd (f_X11_mark  st) fun x1 s2 =>
  fBd (f_X12_mark  s2) fun x3 s4 =>
  if x1 = x3 then
    (fE s4)
  else
    (none)
set_option maxHeartbeats 4000000 in
set_option maxRecDepth 100000 in
theorem tl_42 {Qv : Unit → fSt → State → Prop} {b L : Nat} {xs : Nat → Int32} (Δ : fDl) (Γ : fGm) (hN : fNx Δ) (hM : fNm Δ) (C : fC Δ Γ cL_law RL 4 (some .boolean) 21) (hX : lX b L xs Γ) (i : Int32) (hE : ∀ s, fW Δ Γ 4 Qv 1481 [(0, .ref b), (1, .ref (fad Δ 11 0 0)), (2, .ref (fad Δ 12 0 0)), (3, .int i)] [] s (fE s)) (st : fSt) : fW Δ Γ 4 Qv 1455 [(0, .ref b), (1, .ref (fad Δ 11 0 0)), (2, .ref (fad Δ 12 0 0)), (3, .int i)] [] st (fl_42 xs L i st) := by
  unfold fl_42
  refine r_aload_n (q := 1456) (i := 1) (z := 1) C dL_law_1455 rfl rfl rfl ?_
  refine r_callVI (q := 1459) (As := []) wm_L_195 yvX11_mark (c_X11_mark Δ hN st) ⟨rfl, by decide⟩ C (nk_11_0 hN) (by decide) rfl (Nat.le_of_ble_eq_true rfl) dL_law_1456 rfl (fun x1 s2 => ?_)
  refine r_aload_n (q := 1460) (i := 2) (z := 2) C dL_law_1459 rfl rfl rfl ?_
  refine r_callVI (q := 1463) (As := []) wm_L_198 yvX12_mark (c_X12_mark Δ hM s2) ⟨rfl, by decide⟩ C (nm_12 hM) (by decide) rfl (Nat.le_of_ble_eq_true rfl) dL_law_1460 rfl (fun x3 s4 => ?_)
  refine r_icmp_eq (q := 1466) (tgt := 1481) C dL_law_1463 (by decide) rfl ?_ ?_
  · exact hE s4
  · exact r_none

noncomputable def fl_43 (xs : Nat → Int32) (L : Nat) (i : Int32) (st : fSt) : Option (Unit × fSt) :=
  fBd (f_X11_back  st) fun x1 s2 =>
  fBd (f_X12_back  s2) fun x3 s4 =>
  if x1 = x3 then
    (fE s4)
  else
    (none)
set_option maxHeartbeats 4000000 in
set_option maxRecDepth 100000 in
theorem tl_43 {Qv : Unit → fSt → State → Prop} {b L : Nat} {xs : Nat → Int32} (Δ : fDl) (Γ : fGm) (hN : fNx Δ) (hM : fNm Δ) (C : fC Δ Γ cL_law RL 4 (some .boolean) 21) (hX : lX b L xs Γ) (i : Int32) (hE : ∀ s, fW Δ Γ 4 Qv 1481 [(0, .ref b), (1, .ref (fad Δ 11 0 0)), (2, .ref (fad Δ 12 0 0)), (3, .int i)] [] s (fE s)) (st : fSt) : fW Δ Γ 4 Qv 1468 [(0, .ref b), (1, .ref (fad Δ 11 0 0)), (2, .ref (fad Δ 12 0 0)), (3, .int i)] [] st (fl_43 xs L i st) := by
  unfold fl_43
  refine r_aload_n (q := 1469) (i := 1) (z := 1) C dL_law_1468 rfl rfl rfl ?_
  refine r_callVI (q := 1472) (As := []) wm_L_199 yvX11_back (c_X11_back Δ hN st) ⟨rfl, by decide⟩ C (nk_11_0 hN) (by decide) rfl (Nat.le_of_ble_eq_true rfl) dL_law_1469 rfl (fun x1 s2 => ?_)
  refine r_aload_n (q := 1473) (i := 2) (z := 2) C dL_law_1472 rfl rfl rfl ?_
  refine r_callVI (q := 1476) (As := []) wm_L_202 yvX12_back (c_X12_back Δ hM s2) ⟨rfl, by decide⟩ C (nm_12 hM) (by decide) rfl (Nat.le_of_ble_eq_true rfl) dL_law_1473 rfl (fun x3 s4 => ?_)
  refine r_icmp_eq (q := 1479) (tgt := 1481) C dL_law_1476 (by decide) rfl ?_ ?_
  · exact hE s4
  · exact r_none
