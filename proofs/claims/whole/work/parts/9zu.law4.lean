/-! cases of the loop, by program -/
def f_law_2326 (L : Nat) (xs : Nat → Int32) (k : MsSt → Int32 → Option (Int32 × MsSt)) (σ : MsSt) (l5 : Int32) : Option (Int32 × MsSt) :=
  (ms_xld L xs (l5 + 1)).bind fun v343 =>
  (ms_xld L xs (l5 + 2)).bind fun v344 =>
  (ms_xld L xs (l5 + 3)).bind fun v345 =>
  ms_b2 (f_L_stack σ v343 v344 v345) fun v346 s347 =>
  (ms_xld L xs (l5 + 1)).bind fun v348 =>
  (ms_xld L xs (l5 + 2)).bind fun v349 =>
  (ms_xld L xs (l5 + 3)).bind fun v350 =>
  ms_b2 (f_X12_stack s347 493 v348 v349 v350) fun v351 s352 =>
  (f_X12_thrown s352 493).bind fun v353 =>
  if v353 = v346 then
    if v346 = 0 then
      (ms_alj s352 517 0).bind fun v354 =>
      if (lg_cmp v354 v351.toInt64) = 0 then
        k s352 l5
      else
        some (0, s352)
    else
      k s352 l5
  else
    some (0, s352)
set_option maxRecDepth 100000 in
theorem t_law_2326 (G : MG) (hG : (g_l G).stackTraces = false) (d : Nat) (hd : 36 ≤ d) (mc ms L : Nat) (xs : Nat → Int32) (hL : L = g_L G) (hxs : xs = g_xs G) (cu su : Nat) (hcu : cu + 4 ≤ mc) (hsu : su + 24 ≤ ms) (k : MsSt → Int32 → Option (Int32 × MsSt)) (hk : ∀ (s : MsSt) (x : Int32), TrO G mL_law d mc ms (cu + 4) (su + 24) ms_wi 3017 [(0, .ref 700), (1, .ref 0), (2, .ref 493), (3, .ref 517), (4, .ref 518), (5, .int x)] [] s (k s x)) (σ : MsSt) (l5 : Int32) : TrO G mL_law d mc ms cu su ms_wi 2326 [(0, .ref 700), (1, .ref 0), (2, .ref 493), (3, .ref 517), (4, .ref 518), (5, .int l5)] [] σ (f_law_2326 L xs k σ l5) := by
  show TrO G mL_law d mc ms cu su ms_wi 2326 [(0, .ref 700), (1, .ref 0), (2, .ref 493), (3, .ref 517), (4, .ref 518), (5, .int l5)] [] σ ((ms_xld L xs (l5 + 1)).bind fun v343 => (ms_xld L xs (l5 + 2)).bind fun v344 => (ms_xld L xs (l5 + 3)).bind fun v345 => ms_b2 (f_L_stack σ v343 v344 v345) fun v346 s347 => (ms_xld L xs (l5 + 1)).bind fun v348 => (ms_xld L xs (l5 + 2)).bind fun v349 => (ms_xld L xs (l5 + 3)).bind fun v350 => ms_b2 (f_X12_stack s347 493 v348 v349 v350) fun v351 s352 => (f_X12_thrown s352 493).bind fun v353 => if v353 = v346 then if v346 = 0 then (ms_alj s352 517 0).bind fun v354 => if (lg_cmp v354 v351.toInt64) = 0 then k s352 l5 else some (0, s352) else k s352 l5 else some (0, s352))
  refine tr_aload_n (i := 1) dL_law_2326 rfl ?_
  refine tr_aload_n (i := 0) dL_law_2327 rfl ?_
  refine tr_iload (i := 5) dL_law_2328 rfl ?_
  refine tr_iconst (v := 1) dL_law_2330 (by decide +kernel) ?_
  refine tr_iadd dL_law_2331 ?_
  refine tr_xld hL hxs dL_law_2332 (fun v343 => ?_)
  refine tr_aload_n (i := 0) dL_law_2333 rfl ?_
  refine tr_iload (i := 5) dL_law_2334 rfl ?_
  refine tr_iconst (v := 2) dL_law_2336 (by decide +kernel) ?_
  refine tr_iadd dL_law_2337 ?_
  refine tr_xld hL hxs dL_law_2338 (fun v344 => ?_)
  refine tr_aload_n (i := 0) dL_law_2339 rfl ?_
  refine tr_iload (i := 5) dL_law_2340 rfl ?_
  refine tr_iconst (v := 3) dL_law_2342 (by decide +kernel) ?_
  refine tr_iadd dL_law_2343 ?_
  refine tr_xld hL hxs dL_law_2344 (fun v345 => ?_)
  refine tr_aload_n (i := 3) dL_law_2345 rfl ?_
  refine tr_d_wi (ms_cSW (rest := []) (al := [.ref 0, .int v343, .int v344, .int v345, .ref 517]) (sp_L_stack G hG (d - 1) (by omega) σ v343 v344 v345) kl_L_245 fs_L_stack dL_law_2346 (show _ = some 5 by decide +kernel) (by omega) (Nat.le_of_ble_eq_true rfl) (by omega) (by omega)) (fun v346 s347 => ?_)
  refine tr_istore (lv' := [(0, .ref 700), (1, .ref 0), (2, .ref 493), (3, .ref 517), (4, .ref 518), (5, .int l5), (6, .int v346)]) [1, 2, 3, 4, 5, 6, 0] dL_law_2349 (by decide) rfl ?_
  refine tr_aload_n (i := 2) dL_law_2351 rfl ?_
  refine tr_aload_n (i := 0) dL_law_2352 rfl ?_
  refine tr_iload (i := 5) dL_law_2353 rfl ?_
  refine tr_iconst (v := 1) dL_law_2355 (by decide +kernel) ?_
  refine tr_iadd dL_law_2356 ?_
  refine tr_xld hL hxs dL_law_2357 (fun v348 => ?_)
  refine tr_aload_n (i := 0) dL_law_2358 rfl ?_
  refine tr_iload (i := 5) dL_law_2359 rfl ?_
  refine tr_iconst (v := 2) dL_law_2361 (by decide +kernel) ?_
  refine tr_iadd dL_law_2362 ?_
  refine tr_xld hL hxs dL_law_2363 (fun v349 => ?_)
  refine tr_aload_n (i := 0) dL_law_2364 rfl ?_
  refine tr_iload (i := 5) dL_law_2365 rfl ?_
  refine tr_iconst (v := 3) dL_law_2367 (by decide +kernel) ?_
  refine tr_iadd dL_law_2368 ?_
  refine tr_xld hL hxs dL_law_2369 (fun v350 => ?_)
  refine tr_d_wi (ms_cV (rest := []) (al := [.int v348, .int v349, .int v350]) 12 (sp_X12_stack G hG (d - 1) (by omega) s347 493 v348 v349 v350 kd_493) kd_493 (by decide +kernel) kl_L_247 fv_X12_stack dL_law_2370 (show _ = some 3 by decide +kernel) (by omega) (Nat.le_of_ble_eq_true rfl) (by omega) (by omega)) (fun v351 s352 => ?_)
  refine tr_istore (lv' := [(0, .ref 700), (1, .ref 0), (2, .ref 493), (3, .ref 517), (4, .ref 518), (5, .int l5), (6, .int v346), (7, .int v351)]) [1, 2, 3, 4, 5, 6, 7, 0] dL_law_2373 (by decide) rfl ?_
  refine tr_aload_n (i := 2) dL_law_2375 rfl ?_
  refine tr_c_i (ms_cV (rest := []) (al := []) 12 (sp_X12_thrown G hG (d - 1) (by omega) s352 493 kd_493) kd_493 (by decide +kernel) kl_L_150 fv_X12_thrown dL_law_2376 (show _ = some 0 by decide +kernel) (by omega) (Nat.le_of_ble_eq_true rfl) (by omega) (by omega)) (fun v353 => ?_)
  refine tr_iload (i := 6) dL_law_2379 rfl ?_
  refine tr_iceq (o := none) (tgt := 2386) dL_law_2381 (by decide) ?_ ?_
  · refine tr_iload (i := 6) dL_law_2386 rfl ?_
    refine tr_ifne (o := none) (tgt := 2403) dL_law_2388 (by decide) ?_ ?_
    · refine tr_goto (tgt := 3017) dL_law_2403 (by decide) ?_
      refine tr_weak [0, 1, 2, 3, 4, 5] (lv' := [(0, .ref 700), (1, .ref 0), (2, .ref 493), (3, .ref 517), (4, .ref 518), (5, .int l5)]) rfl ?_
      exact tr_mono (by omega) (by omega) (hk s352 l5)
    · refine tr_aload_n (i := 3) dL_law_2391 rfl ?_
      refine tr_iconst (v := 0) dL_law_2392 (by decide +kernel) ?_
      refine tr_alj kd_517 dL_law_2393 (fun v354 => ?_)
      refine tr_iload (i := 7) dL_law_2394 rfl ?_
      refine tr_i2l dL_law_2396 ?_
      refine tr_lcmp dL_law_2397 ?_
      refine tr_ifeq (o := none) (tgt := 2403) dL_law_2398 (by decide) ?_ ?_
      · refine tr_goto (tgt := 3017) dL_law_2403 (by decide) ?_
        refine tr_weak [0, 1, 2, 3, 4, 5] (lv' := [(0, .ref 700), (1, .ref 0), (2, .ref 493), (3, .ref 517), (4, .ref 518), (5, .int l5)]) rfl ?_
        exact tr_mono (by omega) (by omega) (hk s352 l5)
      · refine tr_iconst (v := 0) dL_law_2401 (by decide +kernel) ?_
        exact tr_zret rfl (by decide +kernel) rfl (by omega) (by omega) dL_law_2402
  · refine tr_iconst (v := 0) dL_law_2384 (by decide +kernel) ?_
    exact tr_zret rfl (by decide +kernel) rfl (by omega) (by omega) dL_law_2385
def f_law_2406 (L : Nat) (xs : Nat → Int32) (k : MsSt → Int32 → Option (Int32 × MsSt)) (σ : MsSt) (l5 : Int32) : Option (Int32 × MsSt) :=
  (ms_xld L xs (l5 + 1)).bind fun v355 =>
  (ms_xld L xs (l5 + 2)).bind fun v356 =>
  (ms_xld L xs (l5 + 3)).bind fun v357 =>
  ms_b2 (f_L_strip σ v355 v356 v357) fun v358 s359 =>
  (ms_xld L xs (l5 + 1)).bind fun v360 =>
  (ms_xld L xs (l5 + 2)).bind fun v361 =>
  (ms_xld L xs (l5 + 3)).bind fun v362 =>
  ms_b2 (f_X12_strip s359 493 v360 v361 v362) fun v363 s364 =>
  (f_X12_thrown s364 493).bind fun v365 =>
  if v365 = v358 then
    if v358 = 0 then
      (ms_alj s364 517 0).bind fun v366 =>
      if (lg_cmp v366 v363.toInt64) = 0 then
        k s364 l5
      else
        some (0, s364)
    else
      k s364 l5
  else
    some (0, s364)
set_option maxRecDepth 100000 in
theorem t_law_2406 (G : MG) (hG : (g_l G).stackTraces = false) (d : Nat) (hd : 36 ≤ d) (mc ms L : Nat) (xs : Nat → Int32) (hL : L = g_L G) (hxs : xs = g_xs G) (cu su : Nat) (hcu : cu + 4 ≤ mc) (hsu : su + 24 ≤ ms) (k : MsSt → Int32 → Option (Int32 × MsSt)) (hk : ∀ (s : MsSt) (x : Int32), TrO G mL_law d mc ms (cu + 4) (su + 24) ms_wi 3017 [(0, .ref 700), (1, .ref 0), (2, .ref 493), (3, .ref 517), (4, .ref 518), (5, .int x)] [] s (k s x)) (σ : MsSt) (l5 : Int32) : TrO G mL_law d mc ms cu su ms_wi 2406 [(0, .ref 700), (1, .ref 0), (2, .ref 493), (3, .ref 517), (4, .ref 518), (5, .int l5)] [] σ (f_law_2406 L xs k σ l5) := by
  show TrO G mL_law d mc ms cu su ms_wi 2406 [(0, .ref 700), (1, .ref 0), (2, .ref 493), (3, .ref 517), (4, .ref 518), (5, .int l5)] [] σ ((ms_xld L xs (l5 + 1)).bind fun v355 => (ms_xld L xs (l5 + 2)).bind fun v356 => (ms_xld L xs (l5 + 3)).bind fun v357 => ms_b2 (f_L_strip σ v355 v356 v357) fun v358 s359 => (ms_xld L xs (l5 + 1)).bind fun v360 => (ms_xld L xs (l5 + 2)).bind fun v361 => (ms_xld L xs (l5 + 3)).bind fun v362 => ms_b2 (f_X12_strip s359 493 v360 v361 v362) fun v363 s364 => (f_X12_thrown s364 493).bind fun v365 => if v365 = v358 then if v358 = 0 then (ms_alj s364 517 0).bind fun v366 => if (lg_cmp v366 v363.toInt64) = 0 then k s364 l5 else some (0, s364) else k s364 l5 else some (0, s364))
  refine tr_aload_n (i := 1) dL_law_2406 rfl ?_
  refine tr_aload_n (i := 0) dL_law_2407 rfl ?_
  refine tr_iload (i := 5) dL_law_2408 rfl ?_
  refine tr_iconst (v := 1) dL_law_2410 (by decide +kernel) ?_
  refine tr_iadd dL_law_2411 ?_
  refine tr_xld hL hxs dL_law_2412 (fun v355 => ?_)
  refine tr_aload_n (i := 0) dL_law_2413 rfl ?_
  refine tr_iload (i := 5) dL_law_2414 rfl ?_
  refine tr_iconst (v := 2) dL_law_2416 (by decide +kernel) ?_
  refine tr_iadd dL_law_2417 ?_
  refine tr_xld hL hxs dL_law_2418 (fun v356 => ?_)
  refine tr_aload_n (i := 0) dL_law_2419 rfl ?_
  refine tr_iload (i := 5) dL_law_2420 rfl ?_
  refine tr_iconst (v := 3) dL_law_2422 (by decide +kernel) ?_
  refine tr_iadd dL_law_2423 ?_
  refine tr_xld hL hxs dL_law_2424 (fun v357 => ?_)
  refine tr_aload_n (i := 3) dL_law_2425 rfl ?_
  refine tr_d_wi (ms_cSW (rest := []) (al := [.ref 0, .int v355, .int v356, .int v357, .ref 517]) (sp_L_strip G hG (d - 1) (by omega) σ v355 v356 v357) kl_L_248 fs_L_strip dL_law_2426 (show _ = some 5 by decide +kernel) (by omega) (Nat.le_of_ble_eq_true rfl) (by omega) (by omega)) (fun v358 s359 => ?_)
  refine tr_istore (lv' := [(0, .ref 700), (1, .ref 0), (2, .ref 493), (3, .ref 517), (4, .ref 518), (5, .int l5), (6, .int v358)]) [1, 2, 3, 4, 5, 6, 0] dL_law_2429 (by decide) rfl ?_
  refine tr_aload_n (i := 2) dL_law_2431 rfl ?_
  refine tr_aload_n (i := 0) dL_law_2432 rfl ?_
  refine tr_iload (i := 5) dL_law_2433 rfl ?_
  refine tr_iconst (v := 1) dL_law_2435 (by decide +kernel) ?_
  refine tr_iadd dL_law_2436 ?_
  refine tr_xld hL hxs dL_law_2437 (fun v360 => ?_)
  refine tr_aload_n (i := 0) dL_law_2438 rfl ?_
  refine tr_iload (i := 5) dL_law_2439 rfl ?_
  refine tr_iconst (v := 2) dL_law_2441 (by decide +kernel) ?_
  refine tr_iadd dL_law_2442 ?_
  refine tr_xld hL hxs dL_law_2443 (fun v361 => ?_)
  refine tr_aload_n (i := 0) dL_law_2444 rfl ?_
  refine tr_iload (i := 5) dL_law_2445 rfl ?_
  refine tr_iconst (v := 3) dL_law_2447 (by decide +kernel) ?_
  refine tr_iadd dL_law_2448 ?_
  refine tr_xld hL hxs dL_law_2449 (fun v362 => ?_)
  refine tr_d_wi (ms_cV (rest := []) (al := [.int v360, .int v361, .int v362]) 12 (sp_X12_strip G hG (d - 1) (by omega) s359 493 v360 v361 v362 kd_493) kd_493 (by decide +kernel) kl_L_250 fv_X12_strip dL_law_2450 (show _ = some 3 by decide +kernel) (by omega) (Nat.le_of_ble_eq_true rfl) (by omega) (by omega)) (fun v363 s364 => ?_)
  refine tr_istore (lv' := [(0, .ref 700), (1, .ref 0), (2, .ref 493), (3, .ref 517), (4, .ref 518), (5, .int l5), (6, .int v358), (7, .int v363)]) [1, 2, 3, 4, 5, 6, 7, 0] dL_law_2453 (by decide) rfl ?_
  refine tr_aload_n (i := 2) dL_law_2455 rfl ?_
  refine tr_c_i (ms_cV (rest := []) (al := []) 12 (sp_X12_thrown G hG (d - 1) (by omega) s364 493 kd_493) kd_493 (by decide +kernel) kl_L_150 fv_X12_thrown dL_law_2456 (show _ = some 0 by decide +kernel) (by omega) (Nat.le_of_ble_eq_true rfl) (by omega) (by omega)) (fun v365 => ?_)
  refine tr_iload (i := 6) dL_law_2459 rfl ?_
  refine tr_iceq (o := none) (tgt := 2466) dL_law_2461 (by decide) ?_ ?_
  · refine tr_iload (i := 6) dL_law_2466 rfl ?_
    refine tr_ifne (o := none) (tgt := 2483) dL_law_2468 (by decide) ?_ ?_
    · refine tr_goto (tgt := 3017) dL_law_2483 (by decide) ?_
      refine tr_weak [0, 1, 2, 3, 4, 5] (lv' := [(0, .ref 700), (1, .ref 0), (2, .ref 493), (3, .ref 517), (4, .ref 518), (5, .int l5)]) rfl ?_
      exact tr_mono (by omega) (by omega) (hk s364 l5)
    · refine tr_aload_n (i := 3) dL_law_2471 rfl ?_
      refine tr_iconst (v := 0) dL_law_2472 (by decide +kernel) ?_
      refine tr_alj kd_517 dL_law_2473 (fun v366 => ?_)
      refine tr_iload (i := 7) dL_law_2474 rfl ?_
      refine tr_i2l dL_law_2476 ?_
      refine tr_lcmp dL_law_2477 ?_
      refine tr_ifeq (o := none) (tgt := 2483) dL_law_2478 (by decide) ?_ ?_
      · refine tr_goto (tgt := 3017) dL_law_2483 (by decide) ?_
        refine tr_weak [0, 1, 2, 3, 4, 5] (lv' := [(0, .ref 700), (1, .ref 0), (2, .ref 493), (3, .ref 517), (4, .ref 518), (5, .int l5)]) rfl ?_
        exact tr_mono (by omega) (by omega) (hk s364 l5)
      · refine tr_iconst (v := 0) dL_law_2481 (by decide +kernel) ?_
        exact tr_zret rfl (by decide +kernel) rfl (by omega) (by omega) dL_law_2482
  · refine tr_iconst (v := 0) dL_law_2464 (by decide +kernel) ?_
    exact tr_zret rfl (by decide +kernel) rfl (by omega) (by omega) dL_law_2465
def f_law_2486 (L : Nat) (xs : Nat → Int32) (k : MsSt → Int32 → Option (Int32 × MsSt)) (σ : MsSt) (l5 : Int32) : Option (Int32 × MsSt) :=
  (ms_xld L xs (l5 + 1)).bind fun v367 =>
  ms_b2 (f_L_decompose σ v367) fun v368 s369 =>
  (ms_xld L xs (l5 + 1)).bind fun v370 =>
  ms_b2 (f_X12_decompose s369 493 v370) fun v371 s372 =>
  (f_X12_thrown s372 493).bind fun v373 =>
  if v373 = v368 then
    if v368 = 0 then
      (ms_alj s372 517 0).bind fun v374 =>
      if (lg_cmp v374 v371.toInt64) = 0 then
        k s372 l5
      else
        some (0, s372)
    else
      k s372 l5
  else
    some (0, s372)
set_option maxRecDepth 100000 in
theorem t_law_2486 (G : MG) (hG : (g_l G).stackTraces = false) (d : Nat) (hd : 36 ≤ d) (mc ms L : Nat) (xs : Nat → Int32) (hL : L = g_L G) (hxs : xs = g_xs G) (cu su : Nat) (hcu : cu + 4 ≤ mc) (hsu : su + 24 ≤ ms) (k : MsSt → Int32 → Option (Int32 × MsSt)) (hk : ∀ (s : MsSt) (x : Int32), TrO G mL_law d mc ms (cu + 4) (su + 24) ms_wi 3017 [(0, .ref 700), (1, .ref 0), (2, .ref 493), (3, .ref 517), (4, .ref 518), (5, .int x)] [] s (k s x)) (σ : MsSt) (l5 : Int32) : TrO G mL_law d mc ms cu su ms_wi 2486 [(0, .ref 700), (1, .ref 0), (2, .ref 493), (3, .ref 517), (4, .ref 518), (5, .int l5)] [] σ (f_law_2486 L xs k σ l5) := by
  show TrO G mL_law d mc ms cu su ms_wi 2486 [(0, .ref 700), (1, .ref 0), (2, .ref 493), (3, .ref 517), (4, .ref 518), (5, .int l5)] [] σ ((ms_xld L xs (l5 + 1)).bind fun v367 => ms_b2 (f_L_decompose σ v367) fun v368 s369 => (ms_xld L xs (l5 + 1)).bind fun v370 => ms_b2 (f_X12_decompose s369 493 v370) fun v371 s372 => (f_X12_thrown s372 493).bind fun v373 => if v373 = v368 then if v368 = 0 then (ms_alj s372 517 0).bind fun v374 => if (lg_cmp v374 v371.toInt64) = 0 then k s372 l5 else some (0, s372) else k s372 l5 else some (0, s372))
  refine tr_aload_n (i := 1) dL_law_2486 rfl ?_
  refine tr_aload_n (i := 0) dL_law_2487 rfl ?_
  refine tr_iload (i := 5) dL_law_2488 rfl ?_
  refine tr_iconst (v := 1) dL_law_2490 (by decide +kernel) ?_
  refine tr_iadd dL_law_2491 ?_
  refine tr_xld hL hxs dL_law_2492 (fun v367 => ?_)
  refine tr_aload_n (i := 3) dL_law_2493 rfl ?_
  refine tr_d_wi (ms_cSW (rest := []) (al := [.ref 0, .int v367, .ref 517]) (sp_L_decompose G hG (d - 1) (by omega) σ v367) kl_L_251 fs_L_decompose dL_law_2494 (show _ = some 3 by decide +kernel) (by omega) (Nat.le_of_ble_eq_true rfl) (by omega) (by omega)) (fun v368 s369 => ?_)
  refine tr_istore (lv' := [(0, .ref 700), (1, .ref 0), (2, .ref 493), (3, .ref 517), (4, .ref 518), (5, .int l5), (6, .int v368)]) [1, 2, 3, 4, 5, 6, 0] dL_law_2497 (by decide) rfl ?_
  refine tr_aload_n (i := 2) dL_law_2499 rfl ?_
  refine tr_aload_n (i := 0) dL_law_2500 rfl ?_
  refine tr_iload (i := 5) dL_law_2501 rfl ?_
  refine tr_iconst (v := 1) dL_law_2503 (by decide +kernel) ?_
  refine tr_iadd dL_law_2504 ?_
  refine tr_xld hL hxs dL_law_2505 (fun v370 => ?_)
  refine tr_d_wi (ms_cV (rest := []) (al := [.int v370]) 12 (sp_X12_decompose G hG (d - 1) (by omega) s369 493 v370 kd_493) kd_493 (by decide +kernel) kl_L_253 fv_X12_decompose dL_law_2506 (show _ = some 1 by decide +kernel) (by omega) (Nat.le_of_ble_eq_true rfl) (by omega) (by omega)) (fun v371 s372 => ?_)
  refine tr_istore (lv' := [(0, .ref 700), (1, .ref 0), (2, .ref 493), (3, .ref 517), (4, .ref 518), (5, .int l5), (6, .int v368), (7, .int v371)]) [1, 2, 3, 4, 5, 6, 7, 0] dL_law_2509 (by decide) rfl ?_
  refine tr_aload_n (i := 2) dL_law_2511 rfl ?_
  refine tr_c_i (ms_cV (rest := []) (al := []) 12 (sp_X12_thrown G hG (d - 1) (by omega) s372 493 kd_493) kd_493 (by decide +kernel) kl_L_150 fv_X12_thrown dL_law_2512 (show _ = some 0 by decide +kernel) (by omega) (Nat.le_of_ble_eq_true rfl) (by omega) (by omega)) (fun v373 => ?_)
  refine tr_iload (i := 6) dL_law_2515 rfl ?_
  refine tr_iceq (o := none) (tgt := 2522) dL_law_2517 (by decide) ?_ ?_
  · refine tr_iload (i := 6) dL_law_2522 rfl ?_
    refine tr_ifne (o := none) (tgt := 2539) dL_law_2524 (by decide) ?_ ?_
    · refine tr_goto (tgt := 3017) dL_law_2539 (by decide) ?_
      refine tr_weak [0, 1, 2, 3, 4, 5] (lv' := [(0, .ref 700), (1, .ref 0), (2, .ref 493), (3, .ref 517), (4, .ref 518), (5, .int l5)]) rfl ?_
      exact tr_mono (by omega) (by omega) (hk s372 l5)
    · refine tr_aload_n (i := 3) dL_law_2527 rfl ?_
      refine tr_iconst (v := 0) dL_law_2528 (by decide +kernel) ?_
      refine tr_alj kd_517 dL_law_2529 (fun v374 => ?_)
      refine tr_iload (i := 7) dL_law_2530 rfl ?_
      refine tr_i2l dL_law_2532 ?_
      refine tr_lcmp dL_law_2533 ?_
      refine tr_ifeq (o := none) (tgt := 2539) dL_law_2534 (by decide) ?_ ?_
      · refine tr_goto (tgt := 3017) dL_law_2539 (by decide) ?_
        refine tr_weak [0, 1, 2, 3, 4, 5] (lv' := [(0, .ref 700), (1, .ref 0), (2, .ref 493), (3, .ref 517), (4, .ref 518), (5, .int l5)]) rfl ?_
        exact tr_mono (by omega) (by omega) (hk s372 l5)
      · refine tr_iconst (v := 0) dL_law_2537 (by decide +kernel) ?_
        exact tr_zret rfl (by decide +kernel) rfl (by omega) (by omega) dL_law_2538
  · refine tr_iconst (v := 0) dL_law_2520 (by decide +kernel) ?_
    exact tr_zret rfl (by decide +kernel) rfl (by omega) (by omega) dL_law_2521
def f_law_2542 (L : Nat) (xs : Nat → Int32) (k : MsSt → Int32 → Option (Int32 × MsSt)) (σ : MsSt) (l5 : Int32) : Option (Int32 × MsSt) :=
  (ms_xld L xs (l5 + 1)).bind fun v375 =>
  ms_b2 (f_L_compose σ v375) fun v376 s377 =>
  (ms_xld L xs (l5 + 1)).bind fun v378 =>
  ms_b2 (f_X12_compose s377 493 v378) fun v379 s380 =>
  (f_X12_thrown s380 493).bind fun v381 =>
  if v381 = v376 then
    if v376 = 0 then
      (ms_alj s380 517 0).bind fun v382 =>
      if (lg_cmp v382 v379.toInt64) = 0 then
        k s380 l5
      else
        some (0, s380)
    else
      k s380 l5
  else
    some (0, s380)
set_option maxRecDepth 100000 in
theorem t_law_2542 (G : MG) (hG : (g_l G).stackTraces = false) (d : Nat) (hd : 36 ≤ d) (mc ms L : Nat) (xs : Nat → Int32) (hL : L = g_L G) (hxs : xs = g_xs G) (cu su : Nat) (hcu : cu + 4 ≤ mc) (hsu : su + 24 ≤ ms) (k : MsSt → Int32 → Option (Int32 × MsSt)) (hk : ∀ (s : MsSt) (x : Int32), TrO G mL_law d mc ms (cu + 4) (su + 24) ms_wi 3017 [(0, .ref 700), (1, .ref 0), (2, .ref 493), (3, .ref 517), (4, .ref 518), (5, .int x)] [] s (k s x)) (σ : MsSt) (l5 : Int32) : TrO G mL_law d mc ms cu su ms_wi 2542 [(0, .ref 700), (1, .ref 0), (2, .ref 493), (3, .ref 517), (4, .ref 518), (5, .int l5)] [] σ (f_law_2542 L xs k σ l5) := by
  show TrO G mL_law d mc ms cu su ms_wi 2542 [(0, .ref 700), (1, .ref 0), (2, .ref 493), (3, .ref 517), (4, .ref 518), (5, .int l5)] [] σ ((ms_xld L xs (l5 + 1)).bind fun v375 => ms_b2 (f_L_compose σ v375) fun v376 s377 => (ms_xld L xs (l5 + 1)).bind fun v378 => ms_b2 (f_X12_compose s377 493 v378) fun v379 s380 => (f_X12_thrown s380 493).bind fun v381 => if v381 = v376 then if v376 = 0 then (ms_alj s380 517 0).bind fun v382 => if (lg_cmp v382 v379.toInt64) = 0 then k s380 l5 else some (0, s380) else k s380 l5 else some (0, s380))
  refine tr_aload_n (i := 1) dL_law_2542 rfl ?_
  refine tr_aload_n (i := 0) dL_law_2543 rfl ?_
  refine tr_iload (i := 5) dL_law_2544 rfl ?_
  refine tr_iconst (v := 1) dL_law_2546 (by decide +kernel) ?_
  refine tr_iadd dL_law_2547 ?_
  refine tr_xld hL hxs dL_law_2548 (fun v375 => ?_)
  refine tr_aload_n (i := 3) dL_law_2549 rfl ?_
  refine tr_d_wi (ms_cSW (rest := []) (al := [.ref 0, .int v375, .ref 517]) (sp_L_compose G hG (d - 1) (by omega) σ v375) kl_L_254 fs_L_compose dL_law_2550 (show _ = some 3 by decide +kernel) (by omega) (Nat.le_of_ble_eq_true rfl) (by omega) (by omega)) (fun v376 s377 => ?_)
  refine tr_istore (lv' := [(0, .ref 700), (1, .ref 0), (2, .ref 493), (3, .ref 517), (4, .ref 518), (5, .int l5), (6, .int v376)]) [1, 2, 3, 4, 5, 6, 0] dL_law_2553 (by decide) rfl ?_
  refine tr_aload_n (i := 2) dL_law_2555 rfl ?_
  refine tr_aload_n (i := 0) dL_law_2556 rfl ?_
  refine tr_iload (i := 5) dL_law_2557 rfl ?_
  refine tr_iconst (v := 1) dL_law_2559 (by decide +kernel) ?_
  refine tr_iadd dL_law_2560 ?_
  refine tr_xld hL hxs dL_law_2561 (fun v378 => ?_)
  refine tr_d_wi (ms_cV (rest := []) (al := [.int v378]) 12 (sp_X12_compose G hG (d - 1) (by omega) s377 493 v378 kd_493) kd_493 (by decide +kernel) kl_L_256 fv_X12_compose dL_law_2562 (show _ = some 1 by decide +kernel) (by omega) (Nat.le_of_ble_eq_true rfl) (by omega) (by omega)) (fun v379 s380 => ?_)
  refine tr_istore (lv' := [(0, .ref 700), (1, .ref 0), (2, .ref 493), (3, .ref 517), (4, .ref 518), (5, .int l5), (6, .int v376), (7, .int v379)]) [1, 2, 3, 4, 5, 6, 7, 0] dL_law_2565 (by decide) rfl ?_
  refine tr_aload_n (i := 2) dL_law_2567 rfl ?_
  refine tr_c_i (ms_cV (rest := []) (al := []) 12 (sp_X12_thrown G hG (d - 1) (by omega) s380 493 kd_493) kd_493 (by decide +kernel) kl_L_150 fv_X12_thrown dL_law_2568 (show _ = some 0 by decide +kernel) (by omega) (Nat.le_of_ble_eq_true rfl) (by omega) (by omega)) (fun v381 => ?_)
  refine tr_iload (i := 6) dL_law_2571 rfl ?_
  refine tr_iceq (o := none) (tgt := 2578) dL_law_2573 (by decide) ?_ ?_
  · refine tr_iload (i := 6) dL_law_2578 rfl ?_
    refine tr_ifne (o := none) (tgt := 2595) dL_law_2580 (by decide) ?_ ?_
    · refine tr_goto (tgt := 3017) dL_law_2595 (by decide) ?_
      refine tr_weak [0, 1, 2, 3, 4, 5] (lv' := [(0, .ref 700), (1, .ref 0), (2, .ref 493), (3, .ref 517), (4, .ref 518), (5, .int l5)]) rfl ?_
      exact tr_mono (by omega) (by omega) (hk s380 l5)
    · refine tr_aload_n (i := 3) dL_law_2583 rfl ?_
      refine tr_iconst (v := 0) dL_law_2584 (by decide +kernel) ?_
      refine tr_alj kd_517 dL_law_2585 (fun v382 => ?_)
      refine tr_iload (i := 7) dL_law_2586 rfl ?_
      refine tr_i2l dL_law_2588 ?_
      refine tr_lcmp dL_law_2589 ?_
      refine tr_ifeq (o := none) (tgt := 2595) dL_law_2590 (by decide) ?_ ?_
      · refine tr_goto (tgt := 3017) dL_law_2595 (by decide) ?_
        refine tr_weak [0, 1, 2, 3, 4, 5] (lv' := [(0, .ref 700), (1, .ref 0), (2, .ref 493), (3, .ref 517), (4, .ref 518), (5, .int l5)]) rfl ?_
        exact tr_mono (by omega) (by omega) (hk s380 l5)
      · refine tr_iconst (v := 0) dL_law_2593 (by decide +kernel) ?_
        exact tr_zret rfl (by decide +kernel) rfl (by omega) (by omega) dL_law_2594
  · refine tr_iconst (v := 0) dL_law_2576 (by decide +kernel) ?_
    exact tr_zret rfl (by decide +kernel) rfl (by omega) (by omega) dL_law_2577
def f_law_2598 (L : Nat) (xs : Nat → Int32) (k : MsSt → Int32 → Option (Int32 × MsSt)) (σ : MsSt) (l5 : Int32) : Option (Int32 × MsSt) :=
  (ms_xld L xs (l5 + 1)).bind fun v383 =>
  (ms_xld L xs (l5 + 2)).bind fun v384 =>
  ms_b2 (f_L_join σ v383 v384) fun v385 s386 =>
  (ms_xld L xs (l5 + 1)).bind fun v387 =>
  (ms_xld L xs (l5 + 2)).bind fun v388 =>
  ms_b2 (f_X12_join s386 493 v387 v388) fun v389 s390 =>
  (f_X12_thrown s390 493).bind fun v391 =>
  if v391 = v385 then
    if v385 = 0 then
      (ms_alj s390 517 0).bind fun v392 =>
      if (lg_cmp v392 v389.toInt64) = 0 then
        k s390 l5
      else
        some (0, s390)
    else
      k s390 l5
  else
    some (0, s390)
set_option maxRecDepth 100000 in
theorem t_law_2598 (G : MG) (hG : (g_l G).stackTraces = false) (d : Nat) (hd : 36 ≤ d) (mc ms L : Nat) (xs : Nat → Int32) (hL : L = g_L G) (hxs : xs = g_xs G) (cu su : Nat) (hcu : cu + 4 ≤ mc) (hsu : su + 24 ≤ ms) (k : MsSt → Int32 → Option (Int32 × MsSt)) (hk : ∀ (s : MsSt) (x : Int32), TrO G mL_law d mc ms (cu + 4) (su + 24) ms_wi 3017 [(0, .ref 700), (1, .ref 0), (2, .ref 493), (3, .ref 517), (4, .ref 518), (5, .int x)] [] s (k s x)) (σ : MsSt) (l5 : Int32) : TrO G mL_law d mc ms cu su ms_wi 2598 [(0, .ref 700), (1, .ref 0), (2, .ref 493), (3, .ref 517), (4, .ref 518), (5, .int l5)] [] σ (f_law_2598 L xs k σ l5) := by
  show TrO G mL_law d mc ms cu su ms_wi 2598 [(0, .ref 700), (1, .ref 0), (2, .ref 493), (3, .ref 517), (4, .ref 518), (5, .int l5)] [] σ ((ms_xld L xs (l5 + 1)).bind fun v383 => (ms_xld L xs (l5 + 2)).bind fun v384 => ms_b2 (f_L_join σ v383 v384) fun v385 s386 => (ms_xld L xs (l5 + 1)).bind fun v387 => (ms_xld L xs (l5 + 2)).bind fun v388 => ms_b2 (f_X12_join s386 493 v387 v388) fun v389 s390 => (f_X12_thrown s390 493).bind fun v391 => if v391 = v385 then if v385 = 0 then (ms_alj s390 517 0).bind fun v392 => if (lg_cmp v392 v389.toInt64) = 0 then k s390 l5 else some (0, s390) else k s390 l5 else some (0, s390))
  refine tr_aload_n (i := 1) dL_law_2598 rfl ?_
  refine tr_aload_n (i := 0) dL_law_2599 rfl ?_
  refine tr_iload (i := 5) dL_law_2600 rfl ?_
  refine tr_iconst (v := 1) dL_law_2602 (by decide +kernel) ?_
  refine tr_iadd dL_law_2603 ?_
  refine tr_xld hL hxs dL_law_2604 (fun v383 => ?_)
  refine tr_aload_n (i := 0) dL_law_2605 rfl ?_
  refine tr_iload (i := 5) dL_law_2606 rfl ?_
  refine tr_iconst (v := 2) dL_law_2608 (by decide +kernel) ?_
  refine tr_iadd dL_law_2609 ?_
  refine tr_xld hL hxs dL_law_2610 (fun v384 => ?_)
  refine tr_aload_n (i := 3) dL_law_2611 rfl ?_
  refine tr_d_wi (ms_cSW (rest := []) (al := [.ref 0, .int v383, .int v384, .ref 517]) (sp_L_join G hG (d - 1) (by omega) σ v383 v384) kl_L_257 fs_L_join dL_law_2612 (show _ = some 4 by decide +kernel) (by omega) (Nat.le_of_ble_eq_true rfl) (by omega) (by omega)) (fun v385 s386 => ?_)
  refine tr_istore (lv' := [(0, .ref 700), (1, .ref 0), (2, .ref 493), (3, .ref 517), (4, .ref 518), (5, .int l5), (6, .int v385)]) [1, 2, 3, 4, 5, 6, 0] dL_law_2615 (by decide) rfl ?_
  refine tr_aload_n (i := 2) dL_law_2617 rfl ?_
  refine tr_aload_n (i := 0) dL_law_2618 rfl ?_
  refine tr_iload (i := 5) dL_law_2619 rfl ?_
  refine tr_iconst (v := 1) dL_law_2621 (by decide +kernel) ?_
  refine tr_iadd dL_law_2622 ?_
  refine tr_xld hL hxs dL_law_2623 (fun v387 => ?_)
  refine tr_aload_n (i := 0) dL_law_2624 rfl ?_
  refine tr_iload (i := 5) dL_law_2625 rfl ?_
  refine tr_iconst (v := 2) dL_law_2627 (by decide +kernel) ?_
  refine tr_iadd dL_law_2628 ?_
  refine tr_xld hL hxs dL_law_2629 (fun v388 => ?_)
  refine tr_d_wi (ms_cV (rest := []) (al := [.int v387, .int v388]) 12 (sp_X12_join G hG (d - 1) (by omega) s386 493 v387 v388 kd_493) kd_493 (by decide +kernel) kl_L_259 fv_X12_join dL_law_2630 (show _ = some 2 by decide +kernel) (by omega) (Nat.le_of_ble_eq_true rfl) (by omega) (by omega)) (fun v389 s390 => ?_)
  refine tr_istore (lv' := [(0, .ref 700), (1, .ref 0), (2, .ref 493), (3, .ref 517), (4, .ref 518), (5, .int l5), (6, .int v385), (7, .int v389)]) [1, 2, 3, 4, 5, 6, 7, 0] dL_law_2633 (by decide) rfl ?_
  refine tr_aload_n (i := 2) dL_law_2635 rfl ?_
  refine tr_c_i (ms_cV (rest := []) (al := []) 12 (sp_X12_thrown G hG (d - 1) (by omega) s390 493 kd_493) kd_493 (by decide +kernel) kl_L_150 fv_X12_thrown dL_law_2636 (show _ = some 0 by decide +kernel) (by omega) (Nat.le_of_ble_eq_true rfl) (by omega) (by omega)) (fun v391 => ?_)
  refine tr_iload (i := 6) dL_law_2639 rfl ?_
  refine tr_iceq (o := none) (tgt := 2646) dL_law_2641 (by decide) ?_ ?_
  · refine tr_iload (i := 6) dL_law_2646 rfl ?_
    refine tr_ifne (o := none) (tgt := 2663) dL_law_2648 (by decide) ?_ ?_
    · refine tr_goto (tgt := 3017) dL_law_2663 (by decide) ?_
      refine tr_weak [0, 1, 2, 3, 4, 5] (lv' := [(0, .ref 700), (1, .ref 0), (2, .ref 493), (3, .ref 517), (4, .ref 518), (5, .int l5)]) rfl ?_
      exact tr_mono (by omega) (by omega) (hk s390 l5)
    · refine tr_aload_n (i := 3) dL_law_2651 rfl ?_
      refine tr_iconst (v := 0) dL_law_2652 (by decide +kernel) ?_
      refine tr_alj kd_517 dL_law_2653 (fun v392 => ?_)
      refine tr_iload (i := 7) dL_law_2654 rfl ?_
      refine tr_i2l dL_law_2656 ?_
      refine tr_lcmp dL_law_2657 ?_
      refine tr_ifeq (o := none) (tgt := 2663) dL_law_2658 (by decide) ?_ ?_
      · refine tr_goto (tgt := 3017) dL_law_2663 (by decide) ?_
        refine tr_weak [0, 1, 2, 3, 4, 5] (lv' := [(0, .ref 700), (1, .ref 0), (2, .ref 493), (3, .ref 517), (4, .ref 518), (5, .int l5)]) rfl ?_
        exact tr_mono (by omega) (by omega) (hk s390 l5)
      · refine tr_iconst (v := 0) dL_law_2661 (by decide +kernel) ?_
        exact tr_zret rfl (by decide +kernel) rfl (by omega) (by omega) dL_law_2662
  · refine tr_iconst (v := 0) dL_law_2644 (by decide +kernel) ?_
    exact tr_zret rfl (by decide +kernel) rfl (by omega) (by omega) dL_law_2645
def f_law_2666 (L : Nat) (xs : Nat → Int32) (k : MsSt → Int32 → Option (Int32 × MsSt)) (σ : MsSt) (l5 : Int32) : Option (Int32 × MsSt) :=
  (ms_xld L xs (l5 + 1)).bind fun v393 =>
  (ms_xld L xs (l5 + 2)).bind fun v394 =>
  ms_b2 (f_L_setClass σ v393 v394) fun v395 s396 =>
  (ms_xld L xs (l5 + 1)).bind fun v397 =>
  (ms_xld L xs (l5 + 2)).bind fun v398 =>
  ms_b2 (f_X12_setClass s396 493 v397 v398) fun v399 s400 =>
  (f_X12_thrown s400 493).bind fun v401 =>
  if v401 = v395 then
    if v395 = 0 then
      (ms_alj s400 517 0).bind fun v402 =>
      if (lg_cmp v402 v399.toInt64) = 0 then
        k s400 l5
      else
        some (0, s400)
    else
      k s400 l5
  else
    some (0, s400)
set_option maxRecDepth 100000 in
theorem t_law_2666 (G : MG) (hG : (g_l G).stackTraces = false) (d : Nat) (hd : 36 ≤ d) (mc ms L : Nat) (xs : Nat → Int32) (hL : L = g_L G) (hxs : xs = g_xs G) (cu su : Nat) (hcu : cu + 4 ≤ mc) (hsu : su + 24 ≤ ms) (k : MsSt → Int32 → Option (Int32 × MsSt)) (hk : ∀ (s : MsSt) (x : Int32), TrO G mL_law d mc ms (cu + 4) (su + 24) ms_wi 3017 [(0, .ref 700), (1, .ref 0), (2, .ref 493), (3, .ref 517), (4, .ref 518), (5, .int x)] [] s (k s x)) (σ : MsSt) (l5 : Int32) : TrO G mL_law d mc ms cu su ms_wi 2666 [(0, .ref 700), (1, .ref 0), (2, .ref 493), (3, .ref 517), (4, .ref 518), (5, .int l5)] [] σ (f_law_2666 L xs k σ l5) := by
  show TrO G mL_law d mc ms cu su ms_wi 2666 [(0, .ref 700), (1, .ref 0), (2, .ref 493), (3, .ref 517), (4, .ref 518), (5, .int l5)] [] σ ((ms_xld L xs (l5 + 1)).bind fun v393 => (ms_xld L xs (l5 + 2)).bind fun v394 => ms_b2 (f_L_setClass σ v393 v394) fun v395 s396 => (ms_xld L xs (l5 + 1)).bind fun v397 => (ms_xld L xs (l5 + 2)).bind fun v398 => ms_b2 (f_X12_setClass s396 493 v397 v398) fun v399 s400 => (f_X12_thrown s400 493).bind fun v401 => if v401 = v395 then if v395 = 0 then (ms_alj s400 517 0).bind fun v402 => if (lg_cmp v402 v399.toInt64) = 0 then k s400 l5 else some (0, s400) else k s400 l5 else some (0, s400))
  refine tr_aload_n (i := 1) dL_law_2666 rfl ?_
  refine tr_aload_n (i := 0) dL_law_2667 rfl ?_
  refine tr_iload (i := 5) dL_law_2668 rfl ?_
  refine tr_iconst (v := 1) dL_law_2670 (by decide +kernel) ?_
  refine tr_iadd dL_law_2671 ?_
  refine tr_xld hL hxs dL_law_2672 (fun v393 => ?_)
  refine tr_aload_n (i := 0) dL_law_2673 rfl ?_
  refine tr_iload (i := 5) dL_law_2674 rfl ?_
  refine tr_iconst (v := 2) dL_law_2676 (by decide +kernel) ?_
  refine tr_iadd dL_law_2677 ?_
  refine tr_xld hL hxs dL_law_2678 (fun v394 => ?_)
  refine tr_aload_n (i := 3) dL_law_2679 rfl ?_
  refine tr_d_wi (ms_cSW (rest := []) (al := [.ref 0, .int v393, .int v394, .ref 517]) (sp_L_setClass G hG (d - 1) (by omega) σ v393 v394) kl_L_260 fs_L_setClass dL_law_2680 (show _ = some 4 by decide +kernel) (by omega) (Nat.le_of_ble_eq_true rfl) (by omega) (by omega)) (fun v395 s396 => ?_)
  refine tr_istore (lv' := [(0, .ref 700), (1, .ref 0), (2, .ref 493), (3, .ref 517), (4, .ref 518), (5, .int l5), (6, .int v395)]) [1, 2, 3, 4, 5, 6, 0] dL_law_2683 (by decide) rfl ?_
  refine tr_aload_n (i := 2) dL_law_2685 rfl ?_
  refine tr_aload_n (i := 0) dL_law_2686 rfl ?_
  refine tr_iload (i := 5) dL_law_2687 rfl ?_
  refine tr_iconst (v := 1) dL_law_2689 (by decide +kernel) ?_
  refine tr_iadd dL_law_2690 ?_
  refine tr_xld hL hxs dL_law_2691 (fun v397 => ?_)
  refine tr_aload_n (i := 0) dL_law_2692 rfl ?_
  refine tr_iload (i := 5) dL_law_2693 rfl ?_
  refine tr_iconst (v := 2) dL_law_2695 (by decide +kernel) ?_
  refine tr_iadd dL_law_2696 ?_
  refine tr_xld hL hxs dL_law_2697 (fun v398 => ?_)
  refine tr_d_wi (ms_cV (rest := []) (al := [.int v397, .int v398]) 12 (sp_X12_setClass G hG (d - 1) (by omega) s396 493 v397 v398 kd_493) kd_493 (by decide +kernel) kl_L_262 fv_X12_setClass dL_law_2698 (show _ = some 2 by decide +kernel) (by omega) (Nat.le_of_ble_eq_true rfl) (by omega) (by omega)) (fun v399 s400 => ?_)
  refine tr_istore (lv' := [(0, .ref 700), (1, .ref 0), (2, .ref 493), (3, .ref 517), (4, .ref 518), (5, .int l5), (6, .int v395), (7, .int v399)]) [1, 2, 3, 4, 5, 6, 7, 0] dL_law_2701 (by decide) rfl ?_
  refine tr_aload_n (i := 2) dL_law_2703 rfl ?_
  refine tr_c_i (ms_cV (rest := []) (al := []) 12 (sp_X12_thrown G hG (d - 1) (by omega) s400 493 kd_493) kd_493 (by decide +kernel) kl_L_150 fv_X12_thrown dL_law_2704 (show _ = some 0 by decide +kernel) (by omega) (Nat.le_of_ble_eq_true rfl) (by omega) (by omega)) (fun v401 => ?_)
  refine tr_iload (i := 6) dL_law_2707 rfl ?_
  refine tr_iceq (o := none) (tgt := 2714) dL_law_2709 (by decide) ?_ ?_
  · refine tr_iload (i := 6) dL_law_2714 rfl ?_
    refine tr_ifne (o := none) (tgt := 2731) dL_law_2716 (by decide) ?_ ?_
    · refine tr_goto (tgt := 3017) dL_law_2731 (by decide) ?_
      refine tr_weak [0, 1, 2, 3, 4, 5] (lv' := [(0, .ref 700), (1, .ref 0), (2, .ref 493), (3, .ref 517), (4, .ref 518), (5, .int l5)]) rfl ?_
      exact tr_mono (by omega) (by omega) (hk s400 l5)
    · refine tr_aload_n (i := 3) dL_law_2719 rfl ?_
      refine tr_iconst (v := 0) dL_law_2720 (by decide +kernel) ?_
      refine tr_alj kd_517 dL_law_2721 (fun v402 => ?_)
      refine tr_iload (i := 7) dL_law_2722 rfl ?_
      refine tr_i2l dL_law_2724 ?_
      refine tr_lcmp dL_law_2725 ?_
      refine tr_ifeq (o := none) (tgt := 2731) dL_law_2726 (by decide) ?_ ?_
      · refine tr_goto (tgt := 3017) dL_law_2731 (by decide) ?_
        refine tr_weak [0, 1, 2, 3, 4, 5] (lv' := [(0, .ref 700), (1, .ref 0), (2, .ref 493), (3, .ref 517), (4, .ref 518), (5, .int l5)]) rfl ?_
        exact tr_mono (by omega) (by omega) (hk s400 l5)
      · refine tr_iconst (v := 0) dL_law_2729 (by decide +kernel) ?_
        exact tr_zret rfl (by decide +kernel) rfl (by omega) (by omega) dL_law_2730
  · refine tr_iconst (v := 0) dL_law_2712 (by decide +kernel) ?_
    exact tr_zret rfl (by decide +kernel) rfl (by omega) (by omega) dL_law_2713
def f_law_2734 (L : Nat) (xs : Nat → Int32) (k : MsSt → Int32 → Option (Int32 × MsSt)) (σ : MsSt) (l5 : Int32) : Option (Int32 × MsSt) :=
  (ms_xld L xs (l5 + 1)).bind fun v403 =>
  (ms_xld L xs (l5 + 2)).bind fun v404 =>
  if v404 = 0 then
    ms_b2 (f_L_setSpare σ v403 0) fun v405 s406 =>
    (ms_xld L xs (l5 + 1)).bind fun v407 =>
    (ms_xld L xs (l5 + 2)).bind fun v408 =>
    if v408 = 0 then
      ms_b2 (f_X12_setSpare s406 493 v407 0) fun v409 s410 =>
      (f_X12_thrown s410 493).bind fun v411 =>
      if v411 = v405 then
        if v405 = 0 then
          (ms_alj s410 517 0).bind fun v412 =>
          if (lg_cmp v412 v409.toInt64) = 0 then
            k s410 l5
          else
            some (0, s410)
        else
          k s410 l5
      else
        some (0, s410)
    else
      ms_b2 (f_X12_setSpare s406 493 v407 1) fun v413 s414 =>
      (f_X12_thrown s414 493).bind fun v415 =>
      if v415 = v405 then
        if v405 = 0 then
          (ms_alj s414 517 0).bind fun v416 =>
          if (lg_cmp v416 v413.toInt64) = 0 then
            k s414 l5
          else
            some (0, s414)
        else
          k s414 l5
      else
        some (0, s414)
  else
    ms_b2 (f_L_setSpare σ v403 1) fun v417 s418 =>
    (ms_xld L xs (l5 + 1)).bind fun v419 =>
    (ms_xld L xs (l5 + 2)).bind fun v420 =>
    if v420 = 0 then
      ms_b2 (f_X12_setSpare s418 493 v419 0) fun v421 s422 =>
      (f_X12_thrown s422 493).bind fun v423 =>
      if v423 = v417 then
        if v417 = 0 then
          (ms_alj s422 517 0).bind fun v424 =>
          if (lg_cmp v424 v421.toInt64) = 0 then
            k s422 l5
          else
            some (0, s422)
        else
          k s422 l5
      else
        some (0, s422)
    else
      ms_b2 (f_X12_setSpare s418 493 v419 1) fun v425 s426 =>
      (f_X12_thrown s426 493).bind fun v427 =>
      if v427 = v417 then
        if v417 = 0 then
          (ms_alj s426 517 0).bind fun v428 =>
          if (lg_cmp v428 v425.toInt64) = 0 then
            k s426 l5
          else
            some (0, s426)
        else
          k s426 l5
      else
        some (0, s426)
set_option maxRecDepth 100000 in
theorem t_law_2734 (G : MG) (hG : (g_l G).stackTraces = false) (d : Nat) (hd : 36 ≤ d) (mc ms L : Nat) (xs : Nat → Int32) (hL : L = g_L G) (hxs : xs = g_xs G) (cu su : Nat) (hcu : cu + 4 ≤ mc) (hsu : su + 24 ≤ ms) (k : MsSt → Int32 → Option (Int32 × MsSt)) (hk : ∀ (s : MsSt) (x : Int32), TrO G mL_law d mc ms (cu + 4) (su + 24) ms_wi 3017 [(0, .ref 700), (1, .ref 0), (2, .ref 493), (3, .ref 517), (4, .ref 518), (5, .int x)] [] s (k s x)) (σ : MsSt) (l5 : Int32) : TrO G mL_law d mc ms cu su ms_wi 2734 [(0, .ref 700), (1, .ref 0), (2, .ref 493), (3, .ref 517), (4, .ref 518), (5, .int l5)] [] σ (f_law_2734 L xs k σ l5) := by
  show TrO G mL_law d mc ms cu su ms_wi 2734 [(0, .ref 700), (1, .ref 0), (2, .ref 493), (3, .ref 517), (4, .ref 518), (5, .int l5)] [] σ ((ms_xld L xs (l5 + 1)).bind fun v403 => (ms_xld L xs (l5 + 2)).bind fun v404 => if v404 = 0 then ms_b2 (f_L_setSpare σ v403 0) fun v405 s406 => (ms_xld L xs (l5 + 1)).bind fun v407 => (ms_xld L xs (l5 + 2)).bind fun v408 => if v408 = 0 then ms_b2 (f_X12_setSpare s406 493 v407 0) fun v409 s410 => (f_X12_thrown s410 493).bind fun v411 => if v411 = v405 then if v405 = 0 then (ms_alj s410 517 0).bind fun v412 => if (lg_cmp v412 v409.toInt64) = 0 then k s410 l5 else some (0, s410) else k s410 l5 else some (0, s410) else ms_b2 (f_X12_setSpare s406 493 v407 1) fun v413 s414 => (f_X12_thrown s414 493).bind fun v415 => if v415 = v405 then if v405 = 0 then (ms_alj s414 517 0).bind fun v416 => if (lg_cmp v416 v413.toInt64) = 0 then k s414 l5 else some (0, s414) else k s414 l5 else some (0, s414) else ms_b2 (f_L_setSpare σ v403 1) fun v417 s418 => (ms_xld L xs (l5 + 1)).bind fun v419 => (ms_xld L xs (l5 + 2)).bind fun v420 => if v420 = 0 then ms_b2 (f_X12_setSpare s418 493 v419 0) fun v421 s422 => (f_X12_thrown s422 493).bind fun v423 => if v423 = v417 then if v417 = 0 then (ms_alj s422 517 0).bind fun v424 => if (lg_cmp v424 v421.toInt64) = 0 then k s422 l5 else some (0, s422) else k s422 l5 else some (0, s422) else ms_b2 (f_X12_setSpare s418 493 v419 1) fun v425 s426 => (f_X12_thrown s426 493).bind fun v427 => if v427 = v417 then if v417 = 0 then (ms_alj s426 517 0).bind fun v428 => if (lg_cmp v428 v425.toInt64) = 0 then k s426 l5 else some (0, s426) else k s426 l5 else some (0, s426))
  refine tr_aload_n (i := 1) dL_law_2734 rfl ?_
  refine tr_aload_n (i := 0) dL_law_2735 rfl ?_
  refine tr_iload (i := 5) dL_law_2736 rfl ?_
  refine tr_iconst (v := 1) dL_law_2738 (by decide +kernel) ?_
  refine tr_iadd dL_law_2739 ?_
  refine tr_xld hL hxs dL_law_2740 (fun v403 => ?_)
  refine tr_aload_n (i := 0) dL_law_2741 rfl ?_
  refine tr_iload (i := 5) dL_law_2742 rfl ?_
  refine tr_iconst (v := 2) dL_law_2744 (by decide +kernel) ?_
  refine tr_iadd dL_law_2745 ?_
  refine tr_xld hL hxs dL_law_2746 (fun v404 => ?_)
  refine tr_ifeq (o := none) (tgt := 2754) dL_law_2747 (by decide) ?_ ?_
  · refine tr_iconst (v := 0) dL_law_2754 (by decide +kernel) ?_
    refine tr_aload_n (i := 3) dL_law_2755 rfl ?_
    refine tr_d_wi (ms_cSW (rest := []) (al := [.ref 0, .int v403, .int 0, .ref 517]) (sp_L_setSpare G hG (d - 1) (by omega) σ v403 0) kl_L_263 fs_L_setSpare dL_law_2756 (show _ = some 4 by decide +kernel) (by omega) (Nat.le_of_ble_eq_true rfl) (by omega) (by omega)) (fun v405 s406 => ?_)
    refine tr_istore (lv' := [(0, .ref 700), (1, .ref 0), (2, .ref 493), (3, .ref 517), (4, .ref 518), (5, .int l5), (6, .int v405)]) [1, 2, 3, 4, 5, 6, 0] dL_law_2759 (by decide) rfl ?_
    refine tr_aload_n (i := 2) dL_law_2761 rfl ?_
    refine tr_aload_n (i := 0) dL_law_2762 rfl ?_
    refine tr_iload (i := 5) dL_law_2763 rfl ?_
    refine tr_iconst (v := 1) dL_law_2765 (by decide +kernel) ?_
    refine tr_iadd dL_law_2766 ?_
    refine tr_xld hL hxs dL_law_2767 (fun v407 => ?_)
    refine tr_aload_n (i := 0) dL_law_2768 rfl ?_
    refine tr_iload (i := 5) dL_law_2769 rfl ?_
    refine tr_iconst (v := 2) dL_law_2771 (by decide +kernel) ?_
    refine tr_iadd dL_law_2772 ?_
    refine tr_xld hL hxs dL_law_2773 (fun v408 => ?_)
    refine tr_ifeq (o := none) (tgt := 2781) dL_law_2774 (by decide) ?_ ?_
    · refine tr_iconst (v := 0) dL_law_2781 (by decide +kernel) ?_
      refine tr_d_wi (ms_cV (rest := []) (al := [.int v407, .int 0]) 12 (sp_X12_setSpare G hG (d - 1) (by omega) s406 493 v407 0 kd_493) kd_493 (by decide +kernel) kl_L_266 fv_X12_setSpare dL_law_2782 (show _ = some 2 by decide +kernel) (by omega) (Nat.le_of_ble_eq_true rfl) (by omega) (by omega)) (fun v409 s410 => ?_)
      refine tr_istore (lv' := [(0, .ref 700), (1, .ref 0), (2, .ref 493), (3, .ref 517), (4, .ref 518), (5, .int l5), (6, .int v405), (7, .int v409)]) [1, 2, 3, 4, 5, 6, 7, 0] dL_law_2785 (by decide) rfl ?_
      refine tr_aload_n (i := 2) dL_law_2787 rfl ?_
      refine tr_c_i (ms_cV (rest := []) (al := []) 12 (sp_X12_thrown G hG (d - 1) (by omega) s410 493 kd_493) kd_493 (by decide +kernel) kl_L_150 fv_X12_thrown dL_law_2788 (show _ = some 0 by decide +kernel) (by omega) (Nat.le_of_ble_eq_true rfl) (by omega) (by omega)) (fun v411 => ?_)
      refine tr_iload (i := 6) dL_law_2791 rfl ?_
      refine tr_iceq (o := none) (tgt := 2798) dL_law_2793 (by decide) ?_ ?_
      · refine tr_iload (i := 6) dL_law_2798 rfl ?_
        refine tr_ifne (o := none) (tgt := 2815) dL_law_2800 (by decide) ?_ ?_
        · refine tr_goto (tgt := 3017) dL_law_2815 (by decide) ?_
          refine tr_weak [0, 1, 2, 3, 4, 5] (lv' := [(0, .ref 700), (1, .ref 0), (2, .ref 493), (3, .ref 517), (4, .ref 518), (5, .int l5)]) rfl ?_
          exact tr_mono (by omega) (by omega) (hk s410 l5)
        · refine tr_aload_n (i := 3) dL_law_2803 rfl ?_
          refine tr_iconst (v := 0) dL_law_2804 (by decide +kernel) ?_
          refine tr_alj kd_517 dL_law_2805 (fun v412 => ?_)
          refine tr_iload (i := 7) dL_law_2806 rfl ?_
          refine tr_i2l dL_law_2808 ?_
          refine tr_lcmp dL_law_2809 ?_
          refine tr_ifeq (o := none) (tgt := 2815) dL_law_2810 (by decide) ?_ ?_
          · refine tr_goto (tgt := 3017) dL_law_2815 (by decide) ?_
            refine tr_weak [0, 1, 2, 3, 4, 5] (lv' := [(0, .ref 700), (1, .ref 0), (2, .ref 493), (3, .ref 517), (4, .ref 518), (5, .int l5)]) rfl ?_
            exact tr_mono (by omega) (by omega) (hk s410 l5)
          · refine tr_iconst (v := 0) dL_law_2813 (by decide +kernel) ?_
            exact tr_zret rfl (by decide +kernel) rfl (by omega) (by omega) dL_law_2814
      · refine tr_iconst (v := 0) dL_law_2796 (by decide +kernel) ?_
        exact tr_zret rfl (by decide +kernel) rfl (by omega) (by omega) dL_law_2797
    · refine tr_iconst (v := 1) dL_law_2777 (by decide +kernel) ?_
      refine tr_goto (tgt := 2782) dL_law_2778 (by decide) ?_
      refine tr_d_wi (ms_cV (rest := []) (al := [.int v407, .int 1]) 12 (sp_X12_setSpare G hG (d - 1) (by omega) s406 493 v407 1 kd_493) kd_493 (by decide +kernel) kl_L_266 fv_X12_setSpare dL_law_2782 (show _ = some 2 by decide +kernel) (by omega) (Nat.le_of_ble_eq_true rfl) (by omega) (by omega)) (fun v413 s414 => ?_)
      refine tr_istore (lv' := [(0, .ref 700), (1, .ref 0), (2, .ref 493), (3, .ref 517), (4, .ref 518), (5, .int l5), (6, .int v405), (7, .int v413)]) [1, 2, 3, 4, 5, 6, 7, 0] dL_law_2785 (by decide) rfl ?_
      refine tr_aload_n (i := 2) dL_law_2787 rfl ?_
      refine tr_c_i (ms_cV (rest := []) (al := []) 12 (sp_X12_thrown G hG (d - 1) (by omega) s414 493 kd_493) kd_493 (by decide +kernel) kl_L_150 fv_X12_thrown dL_law_2788 (show _ = some 0 by decide +kernel) (by omega) (Nat.le_of_ble_eq_true rfl) (by omega) (by omega)) (fun v415 => ?_)
      refine tr_iload (i := 6) dL_law_2791 rfl ?_
      refine tr_iceq (o := none) (tgt := 2798) dL_law_2793 (by decide) ?_ ?_
      · refine tr_iload (i := 6) dL_law_2798 rfl ?_
        refine tr_ifne (o := none) (tgt := 2815) dL_law_2800 (by decide) ?_ ?_
        · refine tr_goto (tgt := 3017) dL_law_2815 (by decide) ?_
          refine tr_weak [0, 1, 2, 3, 4, 5] (lv' := [(0, .ref 700), (1, .ref 0), (2, .ref 493), (3, .ref 517), (4, .ref 518), (5, .int l5)]) rfl ?_
          exact tr_mono (by omega) (by omega) (hk s414 l5)
        · refine tr_aload_n (i := 3) dL_law_2803 rfl ?_
          refine tr_iconst (v := 0) dL_law_2804 (by decide +kernel) ?_
          refine tr_alj kd_517 dL_law_2805 (fun v416 => ?_)
          refine tr_iload (i := 7) dL_law_2806 rfl ?_
          refine tr_i2l dL_law_2808 ?_
          refine tr_lcmp dL_law_2809 ?_
          refine tr_ifeq (o := none) (tgt := 2815) dL_law_2810 (by decide) ?_ ?_
          · refine tr_goto (tgt := 3017) dL_law_2815 (by decide) ?_
            refine tr_weak [0, 1, 2, 3, 4, 5] (lv' := [(0, .ref 700), (1, .ref 0), (2, .ref 493), (3, .ref 517), (4, .ref 518), (5, .int l5)]) rfl ?_
            exact tr_mono (by omega) (by omega) (hk s414 l5)
          · refine tr_iconst (v := 0) dL_law_2813 (by decide +kernel) ?_
            exact tr_zret rfl (by decide +kernel) rfl (by omega) (by omega) dL_law_2814
      · refine tr_iconst (v := 0) dL_law_2796 (by decide +kernel) ?_
        exact tr_zret rfl (by decide +kernel) rfl (by omega) (by omega) dL_law_2797
  · refine tr_iconst (v := 1) dL_law_2750 (by decide +kernel) ?_
    refine tr_goto (tgt := 2755) dL_law_2751 (by decide) ?_
    refine tr_aload_n (i := 3) dL_law_2755 rfl ?_
    refine tr_d_wi (ms_cSW (rest := []) (al := [.ref 0, .int v403, .int 1, .ref 517]) (sp_L_setSpare G hG (d - 1) (by omega) σ v403 1) kl_L_263 fs_L_setSpare dL_law_2756 (show _ = some 4 by decide +kernel) (by omega) (Nat.le_of_ble_eq_true rfl) (by omega) (by omega)) (fun v417 s418 => ?_)
    refine tr_istore (lv' := [(0, .ref 700), (1, .ref 0), (2, .ref 493), (3, .ref 517), (4, .ref 518), (5, .int l5), (6, .int v417)]) [1, 2, 3, 4, 5, 6, 0] dL_law_2759 (by decide) rfl ?_
    refine tr_aload_n (i := 2) dL_law_2761 rfl ?_
    refine tr_aload_n (i := 0) dL_law_2762 rfl ?_
    refine tr_iload (i := 5) dL_law_2763 rfl ?_
    refine tr_iconst (v := 1) dL_law_2765 (by decide +kernel) ?_
    refine tr_iadd dL_law_2766 ?_
    refine tr_xld hL hxs dL_law_2767 (fun v419 => ?_)
    refine tr_aload_n (i := 0) dL_law_2768 rfl ?_
    refine tr_iload (i := 5) dL_law_2769 rfl ?_
    refine tr_iconst (v := 2) dL_law_2771 (by decide +kernel) ?_
    refine tr_iadd dL_law_2772 ?_
    refine tr_xld hL hxs dL_law_2773 (fun v420 => ?_)
    refine tr_ifeq (o := none) (tgt := 2781) dL_law_2774 (by decide) ?_ ?_
    · refine tr_iconst (v := 0) dL_law_2781 (by decide +kernel) ?_
      refine tr_d_wi (ms_cV (rest := []) (al := [.int v419, .int 0]) 12 (sp_X12_setSpare G hG (d - 1) (by omega) s418 493 v419 0 kd_493) kd_493 (by decide +kernel) kl_L_266 fv_X12_setSpare dL_law_2782 (show _ = some 2 by decide +kernel) (by omega) (Nat.le_of_ble_eq_true rfl) (by omega) (by omega)) (fun v421 s422 => ?_)
      refine tr_istore (lv' := [(0, .ref 700), (1, .ref 0), (2, .ref 493), (3, .ref 517), (4, .ref 518), (5, .int l5), (6, .int v417), (7, .int v421)]) [1, 2, 3, 4, 5, 6, 7, 0] dL_law_2785 (by decide) rfl ?_
      refine tr_aload_n (i := 2) dL_law_2787 rfl ?_
      refine tr_c_i (ms_cV (rest := []) (al := []) 12 (sp_X12_thrown G hG (d - 1) (by omega) s422 493 kd_493) kd_493 (by decide +kernel) kl_L_150 fv_X12_thrown dL_law_2788 (show _ = some 0 by decide +kernel) (by omega) (Nat.le_of_ble_eq_true rfl) (by omega) (by omega)) (fun v423 => ?_)
      refine tr_iload (i := 6) dL_law_2791 rfl ?_
      refine tr_iceq (o := none) (tgt := 2798) dL_law_2793 (by decide) ?_ ?_
      · refine tr_iload (i := 6) dL_law_2798 rfl ?_
        refine tr_ifne (o := none) (tgt := 2815) dL_law_2800 (by decide) ?_ ?_
        · refine tr_goto (tgt := 3017) dL_law_2815 (by decide) ?_
          refine tr_weak [0, 1, 2, 3, 4, 5] (lv' := [(0, .ref 700), (1, .ref 0), (2, .ref 493), (3, .ref 517), (4, .ref 518), (5, .int l5)]) rfl ?_
          exact tr_mono (by omega) (by omega) (hk s422 l5)
        · refine tr_aload_n (i := 3) dL_law_2803 rfl ?_
          refine tr_iconst (v := 0) dL_law_2804 (by decide +kernel) ?_
          refine tr_alj kd_517 dL_law_2805 (fun v424 => ?_)
          refine tr_iload (i := 7) dL_law_2806 rfl ?_
          refine tr_i2l dL_law_2808 ?_
          refine tr_lcmp dL_law_2809 ?_
          refine tr_ifeq (o := none) (tgt := 2815) dL_law_2810 (by decide) ?_ ?_
          · refine tr_goto (tgt := 3017) dL_law_2815 (by decide) ?_
            refine tr_weak [0, 1, 2, 3, 4, 5] (lv' := [(0, .ref 700), (1, .ref 0), (2, .ref 493), (3, .ref 517), (4, .ref 518), (5, .int l5)]) rfl ?_
            exact tr_mono (by omega) (by omega) (hk s422 l5)
          · refine tr_iconst (v := 0) dL_law_2813 (by decide +kernel) ?_
            exact tr_zret rfl (by decide +kernel) rfl (by omega) (by omega) dL_law_2814
      · refine tr_iconst (v := 0) dL_law_2796 (by decide +kernel) ?_
        exact tr_zret rfl (by decide +kernel) rfl (by omega) (by omega) dL_law_2797
    · refine tr_iconst (v := 1) dL_law_2777 (by decide +kernel) ?_
      refine tr_goto (tgt := 2782) dL_law_2778 (by decide) ?_
      refine tr_d_wi (ms_cV (rest := []) (al := [.int v419, .int 1]) 12 (sp_X12_setSpare G hG (d - 1) (by omega) s418 493 v419 1 kd_493) kd_493 (by decide +kernel) kl_L_266 fv_X12_setSpare dL_law_2782 (show _ = some 2 by decide +kernel) (by omega) (Nat.le_of_ble_eq_true rfl) (by omega) (by omega)) (fun v425 s426 => ?_)
      refine tr_istore (lv' := [(0, .ref 700), (1, .ref 0), (2, .ref 493), (3, .ref 517), (4, .ref 518), (5, .int l5), (6, .int v417), (7, .int v425)]) [1, 2, 3, 4, 5, 6, 7, 0] dL_law_2785 (by decide) rfl ?_
      refine tr_aload_n (i := 2) dL_law_2787 rfl ?_
      refine tr_c_i (ms_cV (rest := []) (al := []) 12 (sp_X12_thrown G hG (d - 1) (by omega) s426 493 kd_493) kd_493 (by decide +kernel) kl_L_150 fv_X12_thrown dL_law_2788 (show _ = some 0 by decide +kernel) (by omega) (Nat.le_of_ble_eq_true rfl) (by omega) (by omega)) (fun v427 => ?_)
      refine tr_iload (i := 6) dL_law_2791 rfl ?_
      refine tr_iceq (o := none) (tgt := 2798) dL_law_2793 (by decide) ?_ ?_
      · refine tr_iload (i := 6) dL_law_2798 rfl ?_
        refine tr_ifne (o := none) (tgt := 2815) dL_law_2800 (by decide) ?_ ?_
        · refine tr_goto (tgt := 3017) dL_law_2815 (by decide) ?_
          refine tr_weak [0, 1, 2, 3, 4, 5] (lv' := [(0, .ref 700), (1, .ref 0), (2, .ref 493), (3, .ref 517), (4, .ref 518), (5, .int l5)]) rfl ?_
          exact tr_mono (by omega) (by omega) (hk s426 l5)
        · refine tr_aload_n (i := 3) dL_law_2803 rfl ?_
          refine tr_iconst (v := 0) dL_law_2804 (by decide +kernel) ?_
          refine tr_alj kd_517 dL_law_2805 (fun v428 => ?_)
          refine tr_iload (i := 7) dL_law_2806 rfl ?_
          refine tr_i2l dL_law_2808 ?_
          refine tr_lcmp dL_law_2809 ?_
          refine tr_ifeq (o := none) (tgt := 2815) dL_law_2810 (by decide) ?_ ?_
          · refine tr_goto (tgt := 3017) dL_law_2815 (by decide) ?_
            refine tr_weak [0, 1, 2, 3, 4, 5] (lv' := [(0, .ref 700), (1, .ref 0), (2, .ref 493), (3, .ref 517), (4, .ref 518), (5, .int l5)]) rfl ?_
            exact tr_mono (by omega) (by omega) (hk s426 l5)
          · refine tr_iconst (v := 0) dL_law_2813 (by decide +kernel) ?_
            exact tr_zret rfl (by decide +kernel) rfl (by omega) (by omega) dL_law_2814
      · refine tr_iconst (v := 0) dL_law_2796 (by decide +kernel) ?_
        exact tr_zret rfl (by decide +kernel) rfl (by omega) (by omega) dL_law_2797
def f_law_2818 (L : Nat) (xs : Nat → Int32) (k : MsSt → Int32 → Option (Int32 × MsSt)) (σ : MsSt) (l5 : Int32) : Option (Int32 × MsSt) :=
  (ms_xld L xs (l5 + 1)).bind fun v429 =>
  (ms_xld L xs (l5 + 2)).bind fun v430 =>
  ms_b2 (f_L_format σ v429 v430) fun v431 s432 =>
  (ms_xld L xs (l5 + 1)).bind fun v433 =>
  (ms_xld L xs (l5 + 2)).bind fun v434 =>
  ms_b2 (f_X12_format s432 493 v433 v434) fun v435 s436 =>
  (f_X12_thrown s436 493).bind fun v437 =>
  if v437 = v431 then
    if v431 = 0 then
      (ms_alj s436 517 0).bind fun v438 =>
      if (lg_cmp v438 v435.toInt64) = 0 then
        k s436 l5
      else
        some (0, s436)
    else
      k s436 l5
  else
    some (0, s436)
set_option maxRecDepth 100000 in
theorem t_law_2818 (G : MG) (hG : (g_l G).stackTraces = false) (d : Nat) (hd : 36 ≤ d) (mc ms L : Nat) (xs : Nat → Int32) (hL : L = g_L G) (hxs : xs = g_xs G) (cu su : Nat) (hcu : cu + 4 ≤ mc) (hsu : su + 24 ≤ ms) (k : MsSt → Int32 → Option (Int32 × MsSt)) (hk : ∀ (s : MsSt) (x : Int32), TrO G mL_law d mc ms (cu + 4) (su + 24) ms_wi 3017 [(0, .ref 700), (1, .ref 0), (2, .ref 493), (3, .ref 517), (4, .ref 518), (5, .int x)] [] s (k s x)) (σ : MsSt) (l5 : Int32) : TrO G mL_law d mc ms cu su ms_wi 2818 [(0, .ref 700), (1, .ref 0), (2, .ref 493), (3, .ref 517), (4, .ref 518), (5, .int l5)] [] σ (f_law_2818 L xs k σ l5) := by
  show TrO G mL_law d mc ms cu su ms_wi 2818 [(0, .ref 700), (1, .ref 0), (2, .ref 493), (3, .ref 517), (4, .ref 518), (5, .int l5)] [] σ ((ms_xld L xs (l5 + 1)).bind fun v429 => (ms_xld L xs (l5 + 2)).bind fun v430 => ms_b2 (f_L_format σ v429 v430) fun v431 s432 => (ms_xld L xs (l5 + 1)).bind fun v433 => (ms_xld L xs (l5 + 2)).bind fun v434 => ms_b2 (f_X12_format s432 493 v433 v434) fun v435 s436 => (f_X12_thrown s436 493).bind fun v437 => if v437 = v431 then if v431 = 0 then (ms_alj s436 517 0).bind fun v438 => if (lg_cmp v438 v435.toInt64) = 0 then k s436 l5 else some (0, s436) else k s436 l5 else some (0, s436))
  refine tr_aload_n (i := 1) dL_law_2818 rfl ?_
  refine tr_aload_n (i := 0) dL_law_2819 rfl ?_
  refine tr_iload (i := 5) dL_law_2820 rfl ?_
  refine tr_iconst (v := 1) dL_law_2822 (by decide +kernel) ?_
  refine tr_iadd dL_law_2823 ?_
  refine tr_xld hL hxs dL_law_2824 (fun v429 => ?_)
  refine tr_aload_n (i := 0) dL_law_2825 rfl ?_
  refine tr_iload (i := 5) dL_law_2826 rfl ?_
  refine tr_iconst (v := 2) dL_law_2828 (by decide +kernel) ?_
  refine tr_iadd dL_law_2829 ?_
  refine tr_xld hL hxs dL_law_2830 (fun v430 => ?_)
  refine tr_aload_n (i := 3) dL_law_2831 rfl ?_
  refine tr_d_wi (ms_cSW (rest := []) (al := [.ref 0, .int v429, .int v430, .ref 517]) (sp_L_format G hG (d - 1) (by omega) σ v429 v430) kl_L_267 fs_L_format dL_law_2832 (show _ = some 4 by decide +kernel) (by omega) (Nat.le_of_ble_eq_true rfl) (by omega) (by omega)) (fun v431 s432 => ?_)
  refine tr_istore (lv' := [(0, .ref 700), (1, .ref 0), (2, .ref 493), (3, .ref 517), (4, .ref 518), (5, .int l5), (6, .int v431)]) [1, 2, 3, 4, 5, 6, 0] dL_law_2835 (by decide) rfl ?_
  refine tr_aload_n (i := 2) dL_law_2837 rfl ?_
  refine tr_aload_n (i := 0) dL_law_2838 rfl ?_
  refine tr_iload (i := 5) dL_law_2839 rfl ?_
  refine tr_iconst (v := 1) dL_law_2841 (by decide +kernel) ?_
  refine tr_iadd dL_law_2842 ?_
  refine tr_xld hL hxs dL_law_2843 (fun v433 => ?_)
  refine tr_aload_n (i := 0) dL_law_2844 rfl ?_
  refine tr_iload (i := 5) dL_law_2845 rfl ?_
  refine tr_iconst (v := 2) dL_law_2847 (by decide +kernel) ?_
  refine tr_iadd dL_law_2848 ?_
  refine tr_xld hL hxs dL_law_2849 (fun v434 => ?_)
  refine tr_d_wi (ms_cV (rest := []) (al := [.int v433, .int v434]) 12 (sp_X12_format G hG (d - 1) (by omega) s432 493 v433 v434 kd_493) kd_493 (by decide +kernel) kl_L_269 fv_X12_format dL_law_2850 (show _ = some 2 by decide +kernel) (by omega) (Nat.le_of_ble_eq_true rfl) (by omega) (by omega)) (fun v435 s436 => ?_)
  refine tr_istore (lv' := [(0, .ref 700), (1, .ref 0), (2, .ref 493), (3, .ref 517), (4, .ref 518), (5, .int l5), (6, .int v431), (7, .int v435)]) [1, 2, 3, 4, 5, 6, 7, 0] dL_law_2853 (by decide) rfl ?_
  refine tr_aload_n (i := 2) dL_law_2855 rfl ?_
  refine tr_c_i (ms_cV (rest := []) (al := []) 12 (sp_X12_thrown G hG (d - 1) (by omega) s436 493 kd_493) kd_493 (by decide +kernel) kl_L_150 fv_X12_thrown dL_law_2856 (show _ = some 0 by decide +kernel) (by omega) (Nat.le_of_ble_eq_true rfl) (by omega) (by omega)) (fun v437 => ?_)
  refine tr_iload (i := 6) dL_law_2859 rfl ?_
  refine tr_iceq (o := none) (tgt := 2866) dL_law_2861 (by decide) ?_ ?_
  · refine tr_iload (i := 6) dL_law_2866 rfl ?_
    refine tr_ifne (o := none) (tgt := 2883) dL_law_2868 (by decide) ?_ ?_
    · refine tr_goto (tgt := 3017) dL_law_2883 (by decide) ?_
      refine tr_weak [0, 1, 2, 3, 4, 5] (lv' := [(0, .ref 700), (1, .ref 0), (2, .ref 493), (3, .ref 517), (4, .ref 518), (5, .int l5)]) rfl ?_
      exact tr_mono (by omega) (by omega) (hk s436 l5)
    · refine tr_aload_n (i := 3) dL_law_2871 rfl ?_
      refine tr_iconst (v := 0) dL_law_2872 (by decide +kernel) ?_
      refine tr_alj kd_517 dL_law_2873 (fun v438 => ?_)
      refine tr_iload (i := 7) dL_law_2874 rfl ?_
      refine tr_i2l dL_law_2876 ?_
      refine tr_lcmp dL_law_2877 ?_
      refine tr_ifeq (o := none) (tgt := 2883) dL_law_2878 (by decide) ?_ ?_
      · refine tr_goto (tgt := 3017) dL_law_2883 (by decide) ?_
        refine tr_weak [0, 1, 2, 3, 4, 5] (lv' := [(0, .ref 700), (1, .ref 0), (2, .ref 493), (3, .ref 517), (4, .ref 518), (5, .int l5)]) rfl ?_
        exact tr_mono (by omega) (by omega) (hk s436 l5)
      · refine tr_iconst (v := 0) dL_law_2881 (by decide +kernel) ?_
        exact tr_zret rfl (by decide +kernel) rfl (by omega) (by omega) dL_law_2882
  · refine tr_iconst (v := 0) dL_law_2864 (by decide +kernel) ?_
    exact tr_zret rfl (by decide +kernel) rfl (by omega) (by omega) dL_law_2865
def f_law_2886 (L : Nat) (xs : Nat → Int32) (k : MsSt → Int32 → Option (Int32 × MsSt)) (σ : MsSt) (l5 : Int32) : Option (Int32 × MsSt) :=
  (ms_xld L xs (l5 + 1)).bind fun v439 =>
  (f_X10_formattedByte σ 0 v439).bind fun v440 =>
  (ms_xld L xs (l5 + 1)).bind fun v441 =>
  ms_b2 (f_X12_formattedByte σ 493 v441) fun v442 s443 =>
  if v440 = v442 then
    k s443 l5
  else
    some (0, s443)
set_option maxRecDepth 100000 in
theorem t_law_2886 (G : MG) (hG : (g_l G).stackTraces = false) (d : Nat) (hd : 36 ≤ d) (mc ms L : Nat) (xs : Nat → Int32) (hL : L = g_L G) (hxs : xs = g_xs G) (cu su : Nat) (hcu : cu + 4 ≤ mc) (hsu : su + 24 ≤ ms) (k : MsSt → Int32 → Option (Int32 × MsSt)) (hk : ∀ (s : MsSt) (x : Int32), TrO G mL_law d mc ms (cu + 4) (su + 24) ms_wi 3017 [(0, .ref 700), (1, .ref 0), (2, .ref 493), (3, .ref 517), (4, .ref 518), (5, .int x)] [] s (k s x)) (σ : MsSt) (l5 : Int32) : TrO G mL_law d mc ms cu su ms_wi 2886 [(0, .ref 700), (1, .ref 0), (2, .ref 493), (3, .ref 517), (4, .ref 518), (5, .int l5)] [] σ (f_law_2886 L xs k σ l5) := by
  show TrO G mL_law d mc ms cu su ms_wi 2886 [(0, .ref 700), (1, .ref 0), (2, .ref 493), (3, .ref 517), (4, .ref 518), (5, .int l5)] [] σ ((ms_xld L xs (l5 + 1)).bind fun v439 => (f_X10_formattedByte σ 0 v439).bind fun v440 => (ms_xld L xs (l5 + 1)).bind fun v441 => ms_b2 (f_X12_formattedByte σ 493 v441) fun v442 s443 => if v440 = v442 then k s443 l5 else some (0, s443))
  refine tr_aload_n (i := 1) dL_law_2886 rfl ?_
  refine tr_aload_n (i := 0) dL_law_2887 rfl ?_
  refine tr_iload (i := 5) dL_law_2888 rfl ?_
  refine tr_iconst (v := 1) dL_law_2890 (by decide +kernel) ?_
  refine tr_iadd dL_law_2891 ?_
  refine tr_xld hL hxs dL_law_2892 (fun v439 => ?_)
  refine tr_c_i (ms_cV (rest := []) (al := [.int v439]) 10 (sp_X10_formattedByte G hG (d - 1) (by omega) σ 0 v439 kd_0) kd_0 (by decide +kernel) kl_L_270 fv_X10_formattedByte dL_law_2893 (show _ = some 1 by decide +kernel) (by omega) (Nat.le_of_ble_eq_true rfl) (by omega) (by omega)) (fun v440 => ?_)
  refine tr_aload_n (i := 2) dL_law_2896 rfl ?_
  refine tr_aload_n (i := 0) dL_law_2897 rfl ?_
  refine tr_iload (i := 5) dL_law_2898 rfl ?_
  refine tr_iconst (v := 1) dL_law_2900 (by decide +kernel) ?_
  refine tr_iadd dL_law_2901 ?_
  refine tr_xld hL hxs dL_law_2902 (fun v441 => ?_)
  refine tr_d_wi (ms_cV (rest := [.int v440]) (al := [.int v441]) 12 (sp_X12_formattedByte G hG (d - 1) (by omega) σ 493 v441 kd_493) kd_493 (by decide +kernel) kl_L_273 fv_X12_formattedByte dL_law_2903 (show _ = some 1 by decide +kernel) (by omega) (Nat.le_of_ble_eq_true rfl) (by omega) (by omega)) (fun v442 s443 => ?_)
  refine tr_iceq (o := none) (tgt := 3017) dL_law_2906 (by decide) ?_ ?_
  · exact tr_mono (by omega) (by omega) (hk s443 l5)
  · refine tr_iconst (v := 0) dL_law_2909 (by decide +kernel) ?_
    exact tr_zret rfl (by decide +kernel) rfl (by omega) (by omega) dL_law_2910
def f_law_2911 (L : Nat) (xs : Nat → Int32) (k : MsSt → Int32 → Option (Int32 × MsSt)) (σ : MsSt) (l5 : Int32) : Option (Int32 × MsSt) :=
  (f_X10_undoCount σ 0).bind fun v444 =>
  ms_b2 (f_X12_undoCount σ 493) fun v445 s446 =>
  if v444 = v445 then
    k s446 l5
  else
    some (0, s446)
set_option maxRecDepth 100000 in
theorem t_law_2911 (G : MG) (hG : (g_l G).stackTraces = false) (d : Nat) (hd : 36 ≤ d) (mc ms L : Nat) (xs : Nat → Int32) (hL : L = g_L G) (hxs : xs = g_xs G) (cu su : Nat) (hcu : cu + 4 ≤ mc) (hsu : su + 24 ≤ ms) (k : MsSt → Int32 → Option (Int32 × MsSt)) (hk : ∀ (s : MsSt) (x : Int32), TrO G mL_law d mc ms (cu + 4) (su + 24) ms_wi 3017 [(0, .ref 700), (1, .ref 0), (2, .ref 493), (3, .ref 517), (4, .ref 518), (5, .int x)] [] s (k s x)) (σ : MsSt) (l5 : Int32) : TrO G mL_law d mc ms cu su ms_wi 2911 [(0, .ref 700), (1, .ref 0), (2, .ref 493), (3, .ref 517), (4, .ref 518), (5, .int l5)] [] σ (f_law_2911 L xs k σ l5) := by
  show TrO G mL_law d mc ms cu su ms_wi 2911 [(0, .ref 700), (1, .ref 0), (2, .ref 493), (3, .ref 517), (4, .ref 518), (5, .int l5)] [] σ ((f_X10_undoCount σ 0).bind fun v444 => ms_b2 (f_X12_undoCount σ 493) fun v445 s446 => if v444 = v445 then k s446 l5 else some (0, s446))
  refine tr_aload_n (i := 1) dL_law_2911 rfl ?_
  refine tr_c_i (ms_cV (rest := []) (al := []) 10 (sp_X10_undoCount G hG (d - 1) (by omega) σ 0 kd_0) kd_0 (by decide +kernel) kl_L_274 fv_X10_undoCount dL_law_2912 (show _ = some 0 by decide +kernel) (by omega) (Nat.le_of_ble_eq_true rfl) (by omega) (by omega)) (fun v444 => ?_)
  refine tr_aload_n (i := 2) dL_law_2915 rfl ?_
  refine tr_d_wi (ms_cV (rest := [.int v444]) (al := []) 12 (sp_X12_undoCount G hG (d - 1) (by omega) σ 493 kd_493) kd_493 (by decide +kernel) kl_L_277 fv_X12_undoCount dL_law_2916 (show _ = some 0 by decide +kernel) (by omega) (Nat.le_of_ble_eq_true rfl) (by omega) (by omega)) (fun v445 s446 => ?_)
  refine tr_iceq (o := none) (tgt := 3017) dL_law_2919 (by decide) ?_ ?_
  · exact tr_mono (by omega) (by omega) (hk s446 l5)
  · refine tr_iconst (v := 0) dL_law_2922 (by decide +kernel) ?_
    exact tr_zret rfl (by decide +kernel) rfl (by omega) (by omega) dL_law_2923
def f_law_2924 (L : Nat) (xs : Nat → Int32) (k : MsSt → Int32 → Option (Int32 × MsSt)) (σ : MsSt) (l5 : Int32) : Option (Int32 × MsSt) :=
  ms_b2 (f_X10_undo σ 0) fun v447 s448 =>
  ms_b2 (f_X12_undo s448 493) fun v449 s450 =>
  if v447 = v449 then
    k s450 l5
  else
    some (0, s450)
set_option maxRecDepth 100000 in
theorem t_law_2924 (G : MG) (hG : (g_l G).stackTraces = false) (d : Nat) (hd : 36 ≤ d) (mc ms L : Nat) (xs : Nat → Int32) (hL : L = g_L G) (hxs : xs = g_xs G) (cu su : Nat) (hcu : cu + 4 ≤ mc) (hsu : su + 24 ≤ ms) (k : MsSt → Int32 → Option (Int32 × MsSt)) (hk : ∀ (s : MsSt) (x : Int32), TrO G mL_law d mc ms (cu + 4) (su + 24) ms_wi 3017 [(0, .ref 700), (1, .ref 0), (2, .ref 493), (3, .ref 517), (4, .ref 518), (5, .int x)] [] s (k s x)) (σ : MsSt) (l5 : Int32) : TrO G mL_law d mc ms cu su ms_wi 2924 [(0, .ref 700), (1, .ref 0), (2, .ref 493), (3, .ref 517), (4, .ref 518), (5, .int l5)] [] σ (f_law_2924 L xs k σ l5) := by
  show TrO G mL_law d mc ms cu su ms_wi 2924 [(0, .ref 700), (1, .ref 0), (2, .ref 493), (3, .ref 517), (4, .ref 518), (5, .int l5)] [] σ (ms_b2 (f_X10_undo σ 0) fun v447 s448 => ms_b2 (f_X12_undo s448 493) fun v449 s450 => if v447 = v449 then k s450 l5 else some (0, s450))
  refine tr_aload_n (i := 1) dL_law_2924 rfl ?_
  refine tr_d_wi (ms_cV (rest := []) (al := []) 10 (sp_X10_undo G hG (d - 1) (by omega) σ 0 kd_0) kd_0 (by decide +kernel) kl_L_278 fv_X10_undo dL_law_2925 (show _ = some 0 by decide +kernel) (by omega) (Nat.le_of_ble_eq_true rfl) (by omega) (by omega)) (fun v447 s448 => ?_)
  refine tr_aload_n (i := 2) dL_law_2928 rfl ?_
  refine tr_d_wi (ms_cV (rest := [.int v447]) (al := []) 12 (sp_X12_undo G hG (d - 1) (by omega) s448 493 kd_493) kd_493 (by decide +kernel) kl_L_281 fv_X12_undo dL_law_2929 (show _ = some 0 by decide +kernel) (by omega) (Nat.le_of_ble_eq_true rfl) (by omega) (by omega)) (fun v449 s450 => ?_)
  refine tr_iceq (o := none) (tgt := 3017) dL_law_2932 (by decide) ?_ ?_
  · exact tr_mono (by omega) (by omega) (hk s450 l5)
  · refine tr_iconst (v := 0) dL_law_2935 (by decide +kernel) ?_
    exact tr_zret rfl (by decide +kernel) rfl (by omega) (by omega) dL_law_2936
def f_law_2937 (L : Nat) (xs : Nat → Int32) (k : MsSt → Int32 → Option (Int32 × MsSt)) (σ : MsSt) (l5 : Int32) : Option (Int32 × MsSt) :=
  (f_X10_saveSnapshot σ 0).bind fun s451 =>
  (f_X12_saveSnapshot s451 493).bind fun s452 =>
  k s452 l5
set_option maxRecDepth 100000 in
theorem t_law_2937 (G : MG) (hG : (g_l G).stackTraces = false) (d : Nat) (hd : 36 ≤ d) (mc ms L : Nat) (xs : Nat → Int32) (hL : L = g_L G) (hxs : xs = g_xs G) (cu su : Nat) (hcu : cu + 4 ≤ mc) (hsu : su + 24 ≤ ms) (k : MsSt → Int32 → Option (Int32 × MsSt)) (hk : ∀ (s : MsSt) (x : Int32), TrO G mL_law d mc ms (cu + 4) (su + 24) ms_wi 3017 [(0, .ref 700), (1, .ref 0), (2, .ref 493), (3, .ref 517), (4, .ref 518), (5, .int x)] [] s (k s x)) (σ : MsSt) (l5 : Int32) : TrO G mL_law d mc ms cu su ms_wi 2937 [(0, .ref 700), (1, .ref 0), (2, .ref 493), (3, .ref 517), (4, .ref 518), (5, .int l5)] [] σ (f_law_2937 L xs k σ l5) := by
  show TrO G mL_law d mc ms cu su ms_wi 2937 [(0, .ref 700), (1, .ref 0), (2, .ref 493), (3, .ref 517), (4, .ref 518), (5, .int l5)] [] σ ((f_X10_saveSnapshot σ 0).bind fun s451 => (f_X12_saveSnapshot s451 493).bind fun s452 => k s452 l5)
  refine tr_aload_n (i := 1) dL_law_2937 rfl ?_
  refine tr_c_wv (ms_cV (rest := []) (al := []) 10 (sp_X10_saveSnapshot G hG (d - 1) (by omega) σ 0 kd_0) kd_0 (by decide +kernel) kl_L_282 fv_X10_saveSnapshot dL_law_2938 (show _ = some 0 by decide +kernel) (by omega) (Nat.le_of_ble_eq_true rfl) (by omega) (by omega)) (fun s451 => ?_)
  refine tr_aload_n (i := 2) dL_law_2941 rfl ?_
  refine tr_c_wv (ms_cV (rest := []) (al := []) 12 (sp_X12_saveSnapshot G hG (d - 1) (by omega) s451 493 kd_493) kd_493 (by decide +kernel) kl_L_285 fv_X12_saveSnapshot dL_law_2942 (show _ = some 0 by decide +kernel) (by omega) (Nat.le_of_ble_eq_true rfl) (by omega) (by omega)) (fun s452 => ?_)
  refine tr_goto (tgt := 3017) dL_law_2945 (by decide) ?_
  exact tr_mono (by omega) (by omega) (hk s452 l5)
def f_law_2948 (L : Nat) (xs : Nat → Int32) (k : MsSt → Int32 → Option (Int32 × MsSt)) (σ : MsSt) (l5 : Int32) : Option (Int32 × MsSt) :=
  ms_b2 (f_X10_restoreSnapshot σ 0) fun v453 s454 =>
  ms_b2 (f_X12_restoreSnapshot s454 493) fun v455 s456 =>
  if v453 = v455 then
    k s456 l5
  else
    some (0, s456)
set_option maxRecDepth 100000 in
theorem t_law_2948 (G : MG) (hG : (g_l G).stackTraces = false) (d : Nat) (hd : 36 ≤ d) (mc ms L : Nat) (xs : Nat → Int32) (hL : L = g_L G) (hxs : xs = g_xs G) (cu su : Nat) (hcu : cu + 4 ≤ mc) (hsu : su + 24 ≤ ms) (k : MsSt → Int32 → Option (Int32 × MsSt)) (hk : ∀ (s : MsSt) (x : Int32), TrO G mL_law d mc ms (cu + 4) (su + 24) ms_wi 3017 [(0, .ref 700), (1, .ref 0), (2, .ref 493), (3, .ref 517), (4, .ref 518), (5, .int x)] [] s (k s x)) (σ : MsSt) (l5 : Int32) : TrO G mL_law d mc ms cu su ms_wi 2948 [(0, .ref 700), (1, .ref 0), (2, .ref 493), (3, .ref 517), (4, .ref 518), (5, .int l5)] [] σ (f_law_2948 L xs k σ l5) := by
  show TrO G mL_law d mc ms cu su ms_wi 2948 [(0, .ref 700), (1, .ref 0), (2, .ref 493), (3, .ref 517), (4, .ref 518), (5, .int l5)] [] σ (ms_b2 (f_X10_restoreSnapshot σ 0) fun v453 s454 => ms_b2 (f_X12_restoreSnapshot s454 493) fun v455 s456 => if v453 = v455 then k s456 l5 else some (0, s456))
  refine tr_aload_n (i := 1) dL_law_2948 rfl ?_
  refine tr_d_wi (ms_cV (rest := []) (al := []) 10 (sp_X10_restoreSnapshot G hG (d - 1) (by omega) σ 0 kd_0) kd_0 (by decide +kernel) kl_L_286 fv_X10_restoreSnapshot dL_law_2949 (show _ = some 0 by decide +kernel) (by omega) (Nat.le_of_ble_eq_true rfl) (by omega) (by omega)) (fun v453 s454 => ?_)
  refine tr_aload_n (i := 2) dL_law_2952 rfl ?_
  refine tr_d_wi (ms_cV (rest := [.int v453]) (al := []) 12 (sp_X12_restoreSnapshot G hG (d - 1) (by omega) s454 493 kd_493) kd_493 (by decide +kernel) kl_L_290 fv_X12_restoreSnapshot dL_law_2953 (show _ = some 0 by decide +kernel) (by omega) (Nat.le_of_ble_eq_true rfl) (by omega) (by omega)) (fun v455 s456 => ?_)
  refine tr_iceq (o := none) (tgt := 3017) dL_law_2956 (by decide) ?_ ?_
  · exact tr_mono (by omega) (by omega) (hk s456 l5)
  · refine tr_iconst (v := 0) dL_law_2959 (by decide +kernel) ?_
    exact tr_zret rfl (by decide +kernel) rfl (by omega) (by omega) dL_law_2960
def f_law_2961 (L : Nat) (xs : Nat → Int32) (k : MsSt → Int32 → Option (Int32 × MsSt)) (σ : MsSt) (l5 : Int32) : Option (Int32 × MsSt) :=
  (ms_xld L xs (l5 + 1)).bind fun v457 =>
  ms_b2 (f_L_query σ v457) fun v458 s459 =>
  (ms_xld L xs (l5 + 1)).bind fun v460 =>
  ms_b2 (f_X12_query s459 493 v460) fun v461 s462 =>
  (f_X12_thrown s462 493).bind fun v463 =>
  if v463 = v458 then
    if v458 = 0 then
      (ms_alj s462 517 0).bind fun v464 =>
      if (lg_cmp v464 v461.toInt64) = 0 then
        k s462 l5
      else
        some (0, s462)
    else
      k s462 l5
  else
    some (0, s462)
set_option maxRecDepth 100000 in
theorem t_law_2961 (G : MG) (hG : (g_l G).stackTraces = false) (d : Nat) (hd : 36 ≤ d) (mc ms L : Nat) (xs : Nat → Int32) (hL : L = g_L G) (hxs : xs = g_xs G) (cu su : Nat) (hcu : cu + 4 ≤ mc) (hsu : su + 24 ≤ ms) (k : MsSt → Int32 → Option (Int32 × MsSt)) (hk : ∀ (s : MsSt) (x : Int32), TrO G mL_law d mc ms (cu + 4) (su + 24) ms_wi 3017 [(0, .ref 700), (1, .ref 0), (2, .ref 493), (3, .ref 517), (4, .ref 518), (5, .int x)] [] s (k s x)) (σ : MsSt) (l5 : Int32) : TrO G mL_law d mc ms cu su ms_wi 2961 [(0, .ref 700), (1, .ref 0), (2, .ref 493), (3, .ref 517), (4, .ref 518), (5, .int l5)] [] σ (f_law_2961 L xs k σ l5) := by
  show TrO G mL_law d mc ms cu su ms_wi 2961 [(0, .ref 700), (1, .ref 0), (2, .ref 493), (3, .ref 517), (4, .ref 518), (5, .int l5)] [] σ ((ms_xld L xs (l5 + 1)).bind fun v457 => ms_b2 (f_L_query σ v457) fun v458 s459 => (ms_xld L xs (l5 + 1)).bind fun v460 => ms_b2 (f_X12_query s459 493 v460) fun v461 s462 => (f_X12_thrown s462 493).bind fun v463 => if v463 = v458 then if v458 = 0 then (ms_alj s462 517 0).bind fun v464 => if (lg_cmp v464 v461.toInt64) = 0 then k s462 l5 else some (0, s462) else k s462 l5 else some (0, s462))
  refine tr_aload_n (i := 1) dL_law_2961 rfl ?_
  refine tr_aload_n (i := 0) dL_law_2962 rfl ?_
  refine tr_iload (i := 5) dL_law_2963 rfl ?_
  refine tr_iconst (v := 1) dL_law_2965 (by decide +kernel) ?_
  refine tr_iadd dL_law_2966 ?_
  refine tr_xld hL hxs dL_law_2967 (fun v457 => ?_)
  refine tr_aload_n (i := 3) dL_law_2968 rfl ?_
  refine tr_d_wi (ms_cSW (rest := []) (al := [.ref 0, .int v457, .ref 517]) (sp_L_query G hG (d - 1) (by omega) σ v457) kl_L_291 fs_L_query dL_law_2969 (show _ = some 3 by decide +kernel) (by omega) (Nat.le_of_ble_eq_true rfl) (by omega) (by omega)) (fun v458 s459 => ?_)
  refine tr_istore (lv' := [(0, .ref 700), (1, .ref 0), (2, .ref 493), (3, .ref 517), (4, .ref 518), (5, .int l5), (6, .int v458)]) [1, 2, 3, 4, 5, 6, 0] dL_law_2972 (by decide) rfl ?_
  refine tr_aload_n (i := 2) dL_law_2974 rfl ?_
  refine tr_aload_n (i := 0) dL_law_2975 rfl ?_
  refine tr_iload (i := 5) dL_law_2976 rfl ?_
  refine tr_iconst (v := 1) dL_law_2978 (by decide +kernel) ?_
  refine tr_iadd dL_law_2979 ?_
  refine tr_xld hL hxs dL_law_2980 (fun v460 => ?_)
  refine tr_d_wi (ms_cV (rest := []) (al := [.int v460]) 12 (sp_X12_query G hG (d - 1) (by omega) s459 493 v460 kd_493) kd_493 (by decide +kernel) kl_L_293 fv_X12_query dL_law_2981 (show _ = some 1 by decide +kernel) (by omega) (Nat.le_of_ble_eq_true rfl) (by omega) (by omega)) (fun v461 s462 => ?_)
  refine tr_istore (lv' := [(0, .ref 700), (1, .ref 0), (2, .ref 493), (3, .ref 517), (4, .ref 518), (5, .int l5), (6, .int v458), (7, .int v461)]) [1, 2, 3, 4, 5, 6, 7, 0] dL_law_2984 (by decide) rfl ?_
  refine tr_aload_n (i := 2) dL_law_2986 rfl ?_
  refine tr_c_i (ms_cV (rest := []) (al := []) 12 (sp_X12_thrown G hG (d - 1) (by omega) s462 493 kd_493) kd_493 (by decide +kernel) kl_L_150 fv_X12_thrown dL_law_2987 (show _ = some 0 by decide +kernel) (by omega) (Nat.le_of_ble_eq_true rfl) (by omega) (by omega)) (fun v463 => ?_)
  refine tr_iload (i := 6) dL_law_2990 rfl ?_
  refine tr_iceq (o := none) (tgt := 2997) dL_law_2992 (by decide) ?_ ?_
  · refine tr_iload (i := 6) dL_law_2997 rfl ?_
    refine tr_ifne (o := none) (tgt := 3014) dL_law_2999 (by decide) ?_ ?_
    · refine tr_goto (tgt := 3017) dL_law_3014 (by decide) ?_
      refine tr_weak [0, 1, 2, 3, 4, 5] (lv' := [(0, .ref 700), (1, .ref 0), (2, .ref 493), (3, .ref 517), (4, .ref 518), (5, .int l5)]) rfl ?_
      exact tr_mono (by omega) (by omega) (hk s462 l5)
    · refine tr_aload_n (i := 3) dL_law_3002 rfl ?_
      refine tr_iconst (v := 0) dL_law_3003 (by decide +kernel) ?_
      refine tr_alj kd_517 dL_law_3004 (fun v464 => ?_)
      refine tr_iload (i := 7) dL_law_3005 rfl ?_
      refine tr_i2l dL_law_3007 ?_
      refine tr_lcmp dL_law_3008 ?_
      refine tr_ifeq (o := none) (tgt := 3014) dL_law_3009 (by decide) ?_ ?_
      · refine tr_goto (tgt := 3017) dL_law_3014 (by decide) ?_
        refine tr_weak [0, 1, 2, 3, 4, 5] (lv' := [(0, .ref 700), (1, .ref 0), (2, .ref 493), (3, .ref 517), (4, .ref 518), (5, .int l5)]) rfl ?_
        exact tr_mono (by omega) (by omega) (hk s462 l5)
      · refine tr_iconst (v := 0) dL_law_3012 (by decide +kernel) ?_
        exact tr_zret rfl (by decide +kernel) rfl (by omega) (by omega) dL_law_3013
  · refine tr_iconst (v := 0) dL_law_2995 (by decide +kernel) ?_
    exact tr_zret rfl (by decide +kernel) rfl (by omega) (by omega) dL_law_2996
