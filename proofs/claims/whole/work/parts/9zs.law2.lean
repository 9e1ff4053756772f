/-! cases of the loop, by program -/
def f_law_236 (L : Nat) (xs : Nat → Int32) (k : MsSt → Int32 → Option (Int32 × MsSt)) (σ : MsSt) (l5 : Int32) : Option (Int32 × MsSt) :=
  (ms_xld L xs (l5 + 1)).bind fun v1 =>
  (ms_xld L xs (l5 + 2)).bind fun v2 =>
  (ms_xld L xs (l5 + 3)).bind fun v3 =>
  (ms_xld L xs (l5 + 4)).bind fun v4 =>
  (ms_xld L xs (l5 + 5)).bind fun v5 =>
  ms_b2 (f_X10_feed σ 0 v1 v2 v3 v4 v5) fun v6 s7 =>
  (ms_xld L xs (l5 + 1)).bind fun v8 =>
  (ms_xld L xs (l5 + 2)).bind fun v9 =>
  (ms_xld L xs (l5 + 3)).bind fun v10 =>
  (ms_xld L xs (l5 + 4)).bind fun v11 =>
  (ms_xld L xs (l5 + 5)).bind fun v12 =>
  ms_b2 (f_X12_feed s7 493 v8 v9 v10 v11 v12) fun v13 s14 =>
  if v6 = v13 then
    k s14 l5
  else
    some (0, s14)
set_option maxRecDepth 100000 in
theorem t_law_236 (G : MG) (hG : (g_l G).stackTraces = false) (d : Nat) (hd : 36 ≤ d) (mc ms L : Nat) (xs : Nat → Int32) (hL : L = g_L G) (hxs : xs = g_xs G) (cu su : Nat) (hcu : cu + 4 ≤ mc) (hsu : su + 24 ≤ ms) (k : MsSt → Int32 → Option (Int32 × MsSt)) (hk : ∀ (s : MsSt) (x : Int32), TrO G mL_law d mc ms (cu + 4) (su + 24) ms_wi 3017 [(0, .ref 700), (1, .ref 0), (2, .ref 493), (3, .ref 517), (4, .ref 518), (5, .int x)] [] s (k s x)) (σ : MsSt) (l5 : Int32) : TrO G mL_law d mc ms cu su ms_wi 236 [(0, .ref 700), (1, .ref 0), (2, .ref 493), (3, .ref 517), (4, .ref 518), (5, .int l5)] [] σ (f_law_236 L xs k σ l5) := by
  show TrO G mL_law d mc ms cu su ms_wi 236 [(0, .ref 700), (1, .ref 0), (2, .ref 493), (3, .ref 517), (4, .ref 518), (5, .int l5)] [] σ ((ms_xld L xs (l5 + 1)).bind fun v1 => (ms_xld L xs (l5 + 2)).bind fun v2 => (ms_xld L xs (l5 + 3)).bind fun v3 => (ms_xld L xs (l5 + 4)).bind fun v4 => (ms_xld L xs (l5 + 5)).bind fun v5 => ms_b2 (f_X10_feed σ 0 v1 v2 v3 v4 v5) fun v6 s7 => (ms_xld L xs (l5 + 1)).bind fun v8 => (ms_xld L xs (l5 + 2)).bind fun v9 => (ms_xld L xs (l5 + 3)).bind fun v10 => (ms_xld L xs (l5 + 4)).bind fun v11 => (ms_xld L xs (l5 + 5)).bind fun v12 => ms_b2 (f_X12_feed s7 493 v8 v9 v10 v11 v12) fun v13 s14 => if v6 = v13 then k s14 l5 else some (0, s14))
  refine tr_aload_n (i := 1) dL_law_236 rfl ?_
  refine tr_aload_n (i := 0) dL_law_237 rfl ?_
  refine tr_iload (i := 5) dL_law_238 rfl ?_
  refine tr_iconst (v := 1) dL_law_240 (by decide +kernel) ?_
  refine tr_iadd dL_law_241 ?_
  refine tr_xld hL hxs dL_law_242 (fun v1 => ?_)
  refine tr_aload_n (i := 0) dL_law_243 rfl ?_
  refine tr_iload (i := 5) dL_law_244 rfl ?_
  refine tr_iconst (v := 2) dL_law_246 (by decide +kernel) ?_
  refine tr_iadd dL_law_247 ?_
  refine tr_xld hL hxs dL_law_248 (fun v2 => ?_)
  refine tr_aload_n (i := 0) dL_law_249 rfl ?_
  refine tr_iload (i := 5) dL_law_250 rfl ?_
  refine tr_iconst (v := 3) dL_law_252 (by decide +kernel) ?_
  refine tr_iadd dL_law_253 ?_
  refine tr_xld hL hxs dL_law_254 (fun v3 => ?_)
  refine tr_aload_n (i := 0) dL_law_255 rfl ?_
  refine tr_iload (i := 5) dL_law_256 rfl ?_
  refine tr_iconst (v := 4) dL_law_258 (by decide +kernel) ?_
  refine tr_iadd dL_law_259 ?_
  refine tr_xld hL hxs dL_law_260 (fun v4 => ?_)
  refine tr_aload_n (i := 0) dL_law_261 rfl ?_
  refine tr_iload (i := 5) dL_law_262 rfl ?_
  refine tr_iconst (v := 5) dL_law_264 (by decide +kernel) ?_
  refine tr_iadd dL_law_265 ?_
  refine tr_xld hL hxs dL_law_266 (fun v5 => ?_)
  refine tr_d_wi (ms_cV (rest := []) (al := [.int v1, .int v2, .int v3, .int v4, .int v5]) 10 (sp_X10_feed G hG (d - 1) (by omega) σ 0 v1 v2 v3 v4 v5 kd_0) kd_0 (by decide +kernel) kl_L_139 fv_X10_feed dL_law_267 (show _ = some 5 by decide +kernel) (by omega) (Nat.le_of_ble_eq_true rfl) (by omega) (by omega)) (fun v6 s7 => ?_)
  refine tr_aload_n (i := 2) dL_law_270 rfl ?_
  refine tr_aload_n (i := 0) dL_law_271 rfl ?_
  refine tr_iload (i := 5) dL_law_272 rfl ?_
  refine tr_iconst (v := 1) dL_law_274 (by decide +kernel) ?_
  refine tr_iadd dL_law_275 ?_
  refine tr_xld hL hxs dL_law_276 (fun v8 => ?_)
  refine tr_aload_n (i := 0) dL_law_277 rfl ?_
  refine tr_iload (i := 5) dL_law_278 rfl ?_
  refine tr_iconst (v := 2) dL_law_280 (by decide +kernel) ?_
  refine tr_iadd dL_law_281 ?_
  refine tr_xld hL hxs dL_law_282 (fun v9 => ?_)
  refine tr_aload_n (i := 0) dL_law_283 rfl ?_
  refine tr_iload (i := 5) dL_law_284 rfl ?_
  refine tr_iconst (v := 3) dL_law_286 (by decide +kernel) ?_
  refine tr_iadd dL_law_287 ?_
  refine tr_xld hL hxs dL_law_288 (fun v10 => ?_)
  refine tr_aload_n (i := 0) dL_law_289 rfl ?_
  refine tr_iload (i := 5) dL_law_290 rfl ?_
  refine tr_iconst (v := 4) dL_law_292 (by decide +kernel) ?_
  refine tr_iadd dL_law_293 ?_
  refine tr_xld hL hxs dL_law_294 (fun v11 => ?_)
  refine tr_aload_n (i := 0) dL_law_295 rfl ?_
  refine tr_iload (i := 5) dL_law_296 rfl ?_
  refine tr_iconst (v := 5) dL_law_298 (by decide +kernel) ?_
  refine tr_iadd dL_law_299 ?_
  refine tr_xld hL hxs dL_law_300 (fun v12 => ?_)
  refine tr_d_wi (ms_cV (rest := [.int v6]) (al := [.int v8, .int v9, .int v10, .int v11, .int v12]) 12 (sp_X12_feed G hG (d - 1) (by omega) s7 493 v8 v9 v10 v11 v12 kd_493) kd_493 (by decide +kernel) kl_L_143 fv_X12_feed dL_law_301 (show _ = some 5 by decide +kernel) (by omega) (Nat.le_of_ble_eq_true rfl) (by omega) (by omega)) (fun v13 s14 => ?_)
  refine tr_iceq (o := none) (tgt := 3017) dL_law_304 (by decide) ?_ ?_
  · exact tr_mono (by omega) (by omega) (hk s14 l5)
  · refine tr_iconst (v := 0) dL_law_307 (by decide +kernel) ?_
    exact tr_zret rfl (by decide +kernel) rfl (by omega) (by omega) dL_law_308
def f_law_309 (L : Nat) (xs : Nat → Int32) (k : MsSt → Int32 → Option (Int32 × MsSt)) (σ : MsSt) (l5 : Int32) : Option (Int32 × MsSt) :=
  (ms_xld L xs (l5 + 1)).bind fun v15 =>
  ms_b2 (f_L_load σ v15) fun v16 s17 =>
  (ms_xld L xs (l5 + 1)).bind fun v18 =>
  ms_b2 (f_X12_load s17 493 v18) fun v19 s20 =>
  (f_X12_thrown s20 493).bind fun v21 =>
  if v21 = v16 then
    if v16 = 0 then
      (ms_alj s20 517 0).bind fun v22 =>
      if (lg_cmp v22 v19.toInt64) = 0 then
        k s20 l5
      else
        some (0, s20)
    else
      k s20 l5
  else
    some (0, s20)
set_option maxRecDepth 100000 in
theorem t_law_309 (G : MG) (hG : (g_l G).stackTraces = false) (d : Nat) (hd : 36 ≤ d) (mc ms L : Nat) (xs : Nat → Int32) (hL : L = g_L G) (hxs : xs = g_xs G) (cu su : Nat) (hcu : cu + 4 ≤ mc) (hsu : su + 24 ≤ ms) (k : MsSt → Int32 → Option (Int32 × MsSt)) (hk : ∀ (s : MsSt) (x : Int32), TrO G mL_law d mc ms (cu + 4) (su + 24) ms_wi 3017 [(0, .ref 700), (1, .ref 0), (2, .ref 493), (3, .ref 517), (4, .ref 518), (5, .int x)] [] s (k s x)) (σ : MsSt) (l5 : Int32) : TrO G mL_law d mc ms cu su ms_wi 309 [(0, .ref 700), (1, .ref 0), (2, .ref 493), (3, .ref 517), (4, .ref 518), (5, .int l5)] [] σ (f_law_309 L xs k σ l5) := by
  show TrO G mL_law d mc ms cu su ms_wi 309 [(0, .ref 700), (1, .ref 0), (2, .ref 493), (3, .ref 517), (4, .ref 518), (5, .int l5)] [] σ ((ms_xld L xs (l5 + 1)).bind fun v15 => ms_b2 (f_L_load σ v15) fun v16 s17 => (ms_xld L xs (l5 + 1)).bind fun v18 => ms_b2 (f_X12_load s17 493 v18) fun v19 s20 => (f_X12_thrown s20 493).bind fun v21 => if v21 = v16 then if v16 = 0 then (ms_alj s20 517 0).bind fun v22 => if (lg_cmp v22 v19.toInt64) = 0 then k s20 l5 else some (0, s20) else k s20 l5 else some (0, s20))
  refine tr_aload_n (i := 1) dL_law_309 rfl ?_
  refine tr_aload_n (i := 0) dL_law_310 rfl ?_
  refine tr_iload (i := 5) dL_law_311 rfl ?_
  refine tr_iconst (v := 1) dL_law_313 (by decide +kernel) ?_
  refine tr_iadd dL_law_314 ?_
  refine tr_xld hL hxs dL_law_315 (fun v15 => ?_)
  refine tr_aload_n (i := 3) dL_law_316 rfl ?_
  refine tr_d_wi (ms_cSW (rest := []) (al := [.ref 0, .int v15, .ref 517]) (sp_L_load G hG (d - 1) (by omega) σ v15) kl_L_144 fs_L_load dL_law_317 (show _ = some 3 by decide +kernel) (by omega) (Nat.le_of_ble_eq_true rfl) (by omega) (by omega)) (fun v16 s17 => ?_)
  refine tr_istore (lv' := [(0, .ref 700), (1, .ref 0), (2, .ref 493), (3, .ref 517), (4, .ref 518), (5, .int l5), (6, .int v16)]) [1, 2, 3, 4, 5, 6, 0] dL_law_320 (by decide) rfl ?_
  refine tr_aload_n (i := 2) dL_law_322 rfl ?_
  refine tr_aload_n (i := 0) dL_law_323 rfl ?_
  refine tr_iload (i := 5) dL_law_324 rfl ?_
  refine tr_iconst (v := 1) dL_law_326 (by decide +kernel) ?_
  refine tr_iadd dL_law_327 ?_
  refine tr_xld hL hxs dL_law_328 (fun v18 => ?_)
  refine tr_d_wi (ms_cV (rest := []) (al := [.int v18]) 12 (sp_X12_load G hG (d - 1) (by omega) s17 493 v18 kd_493) kd_493 (by decide +kernel) kl_L_149 fv_X12_load dL_law_329 (show _ = some 1 by decide +kernel) (by omega) (Nat.le_of_ble_eq_true rfl) (by omega) (by omega)) (fun v19 s20 => ?_)
  refine tr_istore (lv' := [(0, .ref 700), (1, .ref 0), (2, .ref 493), (3, .ref 517), (4, .ref 518), (5, .int l5), (6, .int v16), (7, .int v19)]) [1, 2, 3, 4, 5, 6, 7, 0] dL_law_332 (by decide) rfl ?_
  refine tr_aload_n (i := 2) dL_law_334 rfl ?_
  refine tr_c_i (ms_cV (rest := []) (al := []) 12 (sp_X12_thrown G hG (d - 1) (by omega) s20 493 kd_493) kd_493 (by decide +kernel) kl_L_150 fv_X12_thrown dL_law_335 (show _ = some 0 by decide +kernel) (by omega) (Nat.le_of_ble_eq_true rfl) (by omega) (by omega)) (fun v21 => ?_)
  refine tr_iload (i := 6) dL_law_338 rfl ?_
  refine tr_iceq (o := none) (tgt := 345) dL_law_340 (by decide) ?_ ?_
  · refine tr_iload (i := 6) dL_law_345 rfl ?_
    refine tr_ifne (o := none) (tgt := 362) dL_law_347 (by decide) ?_ ?_
    · refine tr_goto (tgt := 3017) dL_law_362 (by decide) ?_
      refine tr_weak [0, 1, 2, 3, 4, 5] (lv' := [(0, .ref 700), (1, .ref 0), (2, .ref 493), (3, .ref 517), (4, .ref 518), (5, .int l5)]) rfl ?_
      exact tr_mono (by omega) (by omega) (hk s20 l5)
    · refine tr_aload_n (i := 3) dL_law_350 rfl ?_
      refine tr_iconst (v := 0) dL_law_351 (by decide +kernel) ?_
      refine tr_alj kd_517 dL_law_352 (fun v22 => ?_)
      refine tr_iload (i := 7) dL_law_353 rfl ?_
      refine tr_i2l dL_law_355 ?_
      refine tr_lcmp dL_law_356 ?_
      refine tr_ifeq (o := none) (tgt := 362) dL_law_357 (by decide) ?_ ?_
      · refine tr_goto (tgt := 3017) dL_law_362 (by decide) ?_
        refine tr_weak [0, 1, 2, 3, 4, 5] (lv' := [(0, .ref 700), (1, .ref 0), (2, .ref 493), (3, .ref 517), (4, .ref 518), (5, .int l5)]) rfl ?_
        exact tr_mono (by omega) (by omega) (hk s20 l5)
      · refine tr_iconst (v := 0) dL_law_360 (by decide +kernel) ?_
        exact tr_zret rfl (by decide +kernel) rfl (by omega) (by omega) dL_law_361
  · refine tr_iconst (v := 0) dL_law_343 (by decide +kernel) ?_
    exact tr_zret rfl (by decide +kernel) rfl (by omega) (by omega) dL_law_344
def f_law_365 (L : Nat) (xs : Nat → Int32) (k : MsSt → Int32 → Option (Int32 × MsSt)) (σ : MsSt) (l5 : Int32) : Option (Int32 × MsSt) :=
  (f_X10_errorPosition σ 0).bind fun v23 =>
  ms_b2 (f_X12_errorPosition σ 493) fun v24 s25 =>
  if v23 = v24 then
    k s25 l5
  else
    some (0, s25)
set_option maxRecDepth 100000 in
theorem t_law_365 (G : MG) (hG : (g_l G).stackTraces = false) (d : Nat) (hd : 36 ≤ d) (mc ms L : Nat) (xs : Nat → Int32) (hL : L = g_L G) (hxs : xs = g_xs G) (cu su : Nat) (hcu : cu + 4 ≤ mc) (hsu : su + 24 ≤ ms) (k : MsSt → Int32 → Option (Int32 × MsSt)) (hk : ∀ (s : MsSt) (x : Int32), TrO G mL_law d mc ms (cu + 4) (su + 24) ms_wi 3017 [(0, .ref 700), (1, .ref 0), (2, .ref 493), (3, .ref 517), (4, .ref 518), (5, .int x)] [] s (k s x)) (σ : MsSt) (l5 : Int32) : TrO G mL_law d mc ms cu su ms_wi 365 [(0, .ref 700), (1, .ref 0), (2, .ref 493), (3, .ref 517), (4, .ref 518), (5, .int l5)] [] σ (f_law_365 L xs k σ l5) := by
  show TrO G mL_law d mc ms cu su ms_wi 365 [(0, .ref 700), (1, .ref 0), (2, .ref 493), (3, .ref 517), (4, .ref 518), (5, .int l5)] [] σ ((f_X10_errorPosition σ 0).bind fun v23 => ms_b2 (f_X12_errorPosition σ 493) fun v24 s25 => if v23 = v24 then k s25 l5 else some (0, s25))
  refine tr_aload_n (i := 1) dL_law_365 rfl ?_
  refine tr_c_i (ms_cV (rest := []) (al := []) 10 (sp_X10_errorPosition G hG (d - 1) (by omega) σ 0 kd_0) kd_0 (by decide +kernel) kl_L_154 fv_X10_errorPosition dL_law_366 (show _ = some 0 by decide +kernel) (by omega) (Nat.le_of_ble_eq_true rfl) (by omega) (by omega)) (fun v23 => ?_)
  refine tr_aload_n (i := 2) dL_law_369 rfl ?_
  refine tr_d_wi (ms_cV (rest := [.int v23]) (al := []) 12 (sp_X12_errorPosition G hG (d - 1) (by omega) σ 493 kd_493) kd_493 (by decide +kernel) kl_L_157 fv_X12_errorPosition dL_law_370 (show _ = some 0 by decide +kernel) (by omega) (Nat.le_of_ble_eq_true rfl) (by omega) (by omega)) (fun v24 s25 => ?_)
  refine tr_iceq (o := none) (tgt := 3017) dL_law_373 (by decide) ?_ ?_
  · exact tr_mono (by omega) (by omega) (hk s25 l5)
  · refine tr_iconst (v := 0) dL_law_376 (by decide +kernel) ?_
    exact tr_zret rfl (by decide +kernel) rfl (by omega) (by omega) dL_law_377
def f_law_378 (L : Nat) (xs : Nat → Int32) (k : MsSt → Int32 → Option (Int32 × MsSt)) (σ : MsSt) (l5 : Int32) : Option (Int32 × MsSt) :=
  (ms_xld L xs (l5 + 1)).bind fun v26 =>
  ms_b2 (f_L_size σ v26) fun v27 s28 =>
  (ms_xld L xs (l5 + 1)).bind fun v29 =>
  ms_b2 (f_X12_size s28 493 v29) fun v30 s31 =>
  (f_X12_thrown s31 493).bind fun v32 =>
  if v32 = v27 then
    if v27 = 0 then
      (ms_alj s31 517 0).bind fun v33 =>
      if (lg_cmp v33 v30.toInt64) = 0 then
        k s31 l5
      else
        some (0, s31)
    else
      k s31 l5
  else
    some (0, s31)
set_option maxRecDepth 100000 in
theorem t_law_378 (G : MG) (hG : (g_l G).stackTraces = false) (d : Nat) (hd : 36 ≤ d) (mc ms L : Nat) (xs : Nat → Int32) (hL : L = g_L G) (hxs : xs = g_xs G) (cu su : Nat) (hcu : cu + 4 ≤ mc) (hsu : su + 24 ≤ ms) (k : MsSt → Int32 → Option (Int32 × MsSt)) (hk : ∀ (s : MsSt) (x : Int32), TrO G mL_law d mc ms (cu + 4) (su + 24) ms_wi 3017 [(0, .ref 700), (1, .ref 0), (2, .ref 493), (3, .ref 517), (4, .ref 518), (5, .int x)] [] s (k s x)) (σ : MsSt) (l5 : Int32) : TrO G mL_law d mc ms cu su ms_wi 378 [(0, .ref 700), (1, .ref 0), (2, .ref 493), (3, .ref 517), (4, .ref 518), (5, .int l5)] [] σ (f_law_378 L xs k σ l5) := by
  show TrO G mL_law d mc ms cu su ms_wi 378 [(0, .ref 700), (1, .ref 0), (2, .ref 493), (3, .ref 517), (4, .ref 518), (5, .int l5)] [] σ ((ms_xld L xs (l5 + 1)).bind fun v26 => ms_b2 (f_L_size σ v26) fun v27 s28 => (ms_xld L xs (l5 + 1)).bind fun v29 => ms_b2 (f_X12_size s28 493 v29) fun v30 s31 => (f_X12_thrown s31 493).bind fun v32 => if v32 = v27 then if v27 = 0 then (ms_alj s31 517 0).bind fun v33 => if (lg_cmp v33 v30.toInt64) = 0 then k s31 l5 else some (0, s31) else k s31 l5 else some (0, s31))
  refine tr_aload_n (i := 1) dL_law_378 rfl ?_
  refine tr_aload_n (i := 0) dL_law_379 rfl ?_
  refine tr_iload (i := 5) dL_law_380 rfl ?_
  refine tr_iconst (v := 1) dL_law_382 (by decide +kernel) ?_
  refine tr_iadd dL_law_383 ?_
  refine tr_xld hL hxs dL_law_384 (fun v26 => ?_)
  refine tr_aload_n (i := 3) dL_law_385 rfl ?_
  refine tr_d_wi (ms_cSW (rest := []) (al := [.ref 0, .int v26, .ref 517]) (sp_L_size G hG (d - 1) (by omega) σ v26) kl_L_158 fs_L_size dL_law_386 (show _ = some 3 by decide +kernel) (by omega) (Nat.le_of_ble_eq_true rfl) (by omega) (by omega)) (fun v27 s28 => ?_)
  refine tr_istore (lv' := [(0, .ref 700), (1, .ref 0), (2, .ref 493), (3, .ref 517), (4, .ref 518), (5, .int l5), (6, .int v27)]) [1, 2, 3, 4, 5, 6, 0] dL_law_389 (by decide) rfl ?_
  refine tr_aload_n (i := 2) dL_law_391 rfl ?_
  refine tr_aload_n (i := 0) dL_law_392 rfl ?_
  refine tr_iload (i := 5) dL_law_393 rfl ?_
  refine tr_iconst (v := 1) dL_law_395 (by decide +kernel) ?_
  refine tr_iadd dL_law_396 ?_
  refine tr_xld hL hxs dL_law_397 (fun v29 => ?_)
  refine tr_d_wi (ms_cV (rest := []) (al := [.int v29]) 12 (sp_X12_size G hG (d - 1) (by omega) s28 493 v29 kd_493) kd_493 (by decide +kernel) kl_L_160 fv_X12_size dL_law_398 (show _ = some 1 by decide +kernel) (by omega) (Nat.le_of_ble_eq_true rfl) (by omega) (by omega)) (fun v30 s31 => ?_)
  refine tr_istore (lv' := [(0, .ref 700), (1, .ref 0), (2, .ref 493), (3, .ref 517), (4, .ref 518), (5, .int l5), (6, .int v27), (7, .int v30)]) [1, 2, 3, 4, 5, 6, 7, 0] dL_law_401 (by decide) rfl ?_
  refine tr_aload_n (i := 2) dL_law_403 rfl ?_
  refine tr_c_i (ms_cV (rest := []) (al := []) 12 (sp_X12_thrown G hG (d - 1) (by omega) s31 493 kd_493) kd_493 (by decide +kernel) kl_L_150 fv_X12_thrown dL_law_404 (show _ = some 0 by decide +kernel) (by omega) (Nat.le_of_ble_eq_true rfl) (by omega) (by omega)) (fun v32 => ?_)
  refine tr_iload (i := 6) dL_law_407 rfl ?_
  refine tr_iceq (o := none) (tgt := 414) dL_law_409 (by decide) ?_ ?_
  · refine tr_iload (i := 6) dL_law_414 rfl ?_
    refine tr_ifne (o := none) (tgt := 431) dL_law_416 (by decide) ?_ ?_
    · refine tr_goto (tgt := 3017) dL_law_431 (by decide) ?_
      refine tr_weak [0, 1, 2, 3, 4, 5] (lv' := [(0, .ref 700), (1, .ref 0), (2, .ref 493), (3, .ref 517), (4, .ref 518), (5, .int l5)]) rfl ?_
      exact tr_mono (by omega) (by omega) (hk s31 l5)
    · refine tr_aload_n (i := 3) dL_law_419 rfl ?_
      refine tr_iconst (v := 0) dL_law_420 (by decide +kernel) ?_
      refine tr_alj kd_517 dL_law_421 (fun v33 => ?_)
      refine tr_iload (i := 7) dL_law_422 rfl ?_
      refine tr_i2l dL_law_424 ?_
      refine tr_lcmp dL_law_425 ?_
      refine tr_ifeq (o := none) (tgt := 431) dL_law_426 (by decide) ?_ ?_
      · refine tr_goto (tgt := 3017) dL_law_431 (by decide) ?_
        refine tr_weak [0, 1, 2, 3, 4, 5] (lv' := [(0, .ref 700), (1, .ref 0), (2, .ref 493), (3, .ref 517), (4, .ref 518), (5, .int l5)]) rfl ?_
        exact tr_mono (by omega) (by omega) (hk s31 l5)
      · refine tr_iconst (v := 0) dL_law_429 (by decide +kernel) ?_
        exact tr_zret rfl (by decide +kernel) rfl (by omega) (by omega) dL_law_430
  · refine tr_iconst (v := 0) dL_law_412 (by decide +kernel) ?_
    exact tr_zret rfl (by decide +kernel) rfl (by omega) (by omega) dL_law_413
def f_law_434 (L : Nat) (xs : Nat → Int32) (k : MsSt → Int32 → Option (Int32 × MsSt)) (σ : MsSt) (l5 : Int32) : Option (Int32 × MsSt) :=
  (ms_xld L xs (l5 + 1)).bind fun v34 =>
  (ms_xld L xs (l5 + 2)).bind fun v35 =>
  ms_b2 (f_L_sign σ v34 v35) fun v36 s37 =>
  (ms_xld L xs (l5 + 1)).bind fun v38 =>
  (ms_xld L xs (l5 + 2)).bind fun v39 =>
  ms_b2 (f_X12_sign s37 493 v38 v39) fun v40 s41 =>
  (f_X12_thrown s41 493).bind fun v42 =>
  if v42 = v36 then
    if v36 = 0 then
      (ms_alj s41 517 0).bind fun v43 =>
      if (lg_cmp v43 v40.toInt64) = 0 then
        k s41 l5
      else
        some (0, s41)
    else
      k s41 l5
  else
    some (0, s41)
set_option maxRecDepth 100000 in
theorem t_law_434 (G : MG) (hG : (g_l G).stackTraces = false) (d : Nat) (hd : 36 ≤ d) (mc ms L : Nat) (xs : Nat → Int32) (hL : L = g_L G) (hxs : xs = g_xs G) (cu su : Nat) (hcu : cu + 4 ≤ mc) (hsu : su + 24 ≤ ms) (k : MsSt → Int32 → Option (Int32 × MsSt)) (hk : ∀ (s : MsSt) (x : Int32), TrO G mL_law d mc ms (cu + 4) (su + 24) ms_wi 3017 [(0, .ref 700), (1, .ref 0), (2, .ref 493), (3, .ref 517), (4, .ref 518), (5, .int x)] [] s (k s x)) (σ : MsSt) (l5 : Int32) : TrO G mL_law d mc ms cu su ms_wi 434 [(0, .ref 700), (1, .ref 0), (2, .ref 493), (3, .ref 517), (4, .ref 518), (5, .int l5)] [] σ (f_law_434 L xs k σ l5) := by
  show TrO G mL_law d mc ms cu su ms_wi 434 [(0, .ref 700), (1, .ref 0), (2, .ref 493), (3, .ref 517), (4, .ref 518), (5, .int l5)] [] σ ((ms_xld L xs (l5 + 1)).bind fun v34 => (ms_xld L xs (l5 + 2)).bind fun v35 => ms_b2 (f_L_sign σ v34 v35) fun v36 s37 => (ms_xld L xs (l5 + 1)).bind fun v38 => (ms_xld L xs (l5 + 2)).bind fun v39 => ms_b2 (f_X12_sign s37 493 v38 v39) fun v40 s41 => (f_X12_thrown s41 493).bind fun v42 => if v42 = v36 then if v36 = 0 then (ms_alj s41 517 0).bind fun v43 => if (lg_cmp v43 v40.toInt64) = 0 then k s41 l5 else some (0, s41) else k s41 l5 else some (0, s41))
  refine tr_aload_n (i := 1) dL_law_434 rfl ?_
  refine tr_aload_n (i := 0) dL_law_435 rfl ?_
  refine tr_iload (i := 5) dL_law_436 rfl ?_
  refine tr_iconst (v := 1) dL_law_438 (by decide +kernel) ?_
  refine tr_iadd dL_law_439 ?_
  refine tr_xld hL hxs dL_law_440 (fun v34 => ?_)
  refine tr_aload_n (i := 0) dL_law_441 rfl ?_
  refine tr_iload (i := 5) dL_law_442 rfl ?_
  refine tr_iconst (v := 2) dL_law_444 (by decide +kernel) ?_
  refine tr_iadd dL_law_445 ?_
  refine tr_xld hL hxs dL_law_446 (fun v35 => ?_)
  refine tr_aload_n (i := 3) dL_law_447 rfl ?_
  refine tr_d_wi (ms_cSW (rest := []) (al := [.ref 0, .int v34, .int v35, .ref 517]) (sp_L_sign G hG (d - 1) (by omega) σ v34 v35) kl_L_161 fs_L_sign dL_law_448 (show _ = some 4 by decide +kernel) (by omega) (Nat.le_of_ble_eq_true rfl) (by omega) (by omega)) (fun v36 s37 => ?_)
  refine tr_istore (lv' := [(0, .ref 700), (1, .ref 0), (2, .ref 493), (3, .ref 517), (4, .ref 518), (5, .int l5), (6, .int v36)]) [1, 2, 3, 4, 5, 6, 0] dL_law_451 (by decide) rfl ?_
  refine tr_aload_n (i := 2) dL_law_453 rfl ?_
  refine tr_aload_n (i := 0) dL_law_454 rfl ?_
  refine tr_iload (i := 5) dL_law_455 rfl ?_
  refine tr_iconst (v := 1) dL_law_457 (by decide +kernel) ?_
  refine tr_iadd dL_law_458 ?_
  refine tr_xld hL hxs dL_law_459 (fun v38 => ?_)
  refine tr_aload_n (i := 0) dL_law_460 rfl ?_
  refine tr_iload (i := 5) dL_law_461 rfl ?_
  refine tr_iconst (v := 2) dL_law_463 (by decide +kernel) ?_
  refine tr_iadd dL_law_464 ?_
  refine tr_xld hL hxs dL_law_465 (fun v39 => ?_)
  refine tr_d_wi (ms_cV (rest := []) (al := [.int v38, .int v39]) 12 (sp_X12_sign G hG (d - 1) (by omega) s37 493 v38 v39 kd_493) kd_493 (by decide +kernel) kl_L_164 fv_X12_sign dL_law_466 (show _ = some 2 by decide +kernel) (by omega) (Nat.le_of_ble_eq_true rfl) (by omega) (by omega)) (fun v40 s41 => ?_)
  refine tr_istore (lv' := [(0, .ref 700), (1, .ref 0), (2, .ref 493), (3, .ref 517), (4, .ref 518), (5, .int l5), (6, .int v36), (7, .int v40)]) [1, 2, 3, 4, 5, 6, 7, 0] dL_law_469 (by decide) rfl ?_
  refine tr_aload_n (i := 2) dL_law_471 rfl ?_
  refine tr_c_i (ms_cV (rest := []) (al := []) 12 (sp_X12_thrown G hG (d - 1) (by omega) s41 493 kd_493) kd_493 (by decide +kernel) kl_L_150 fv_X12_thrown dL_law_472 (show _ = some 0 by decide +kernel) (by omega) (Nat.le_of_ble_eq_true rfl) (by omega) (by omega)) (fun v42 => ?_)
  refine tr_iload (i := 6) dL_law_475 rfl ?_
  refine tr_iceq (o := none) (tgt := 482) dL_law_477 (by decide) ?_ ?_
  · refine tr_iload (i := 6) dL_law_482 rfl ?_
    refine tr_ifne (o := none) (tgt := 499) dL_law_484 (by decide) ?_ ?_
    · refine tr_goto (tgt := 3017) dL_law_499 (by decide) ?_
      refine tr_weak [0, 1, 2, 3, 4, 5] (lv' := [(0, .ref 700), (1, .ref 0), (2, .ref 493), (3, .ref 517), (4, .ref 518), (5, .int l5)]) rfl ?_
      exact tr_mono (by omega) (by omega) (hk s41 l5)
    · refine tr_aload_n (i := 3) dL_law_487 rfl ?_
      refine tr_iconst (v := 0) dL_law_488 (by decide +kernel) ?_
      refine tr_alj kd_517 dL_law_489 (fun v43 => ?_)
      refine tr_iload (i := 7) dL_law_490 rfl ?_
      refine tr_i2l dL_law_492 ?_
      refine tr_lcmp dL_law_493 ?_
      refine tr_ifeq (o := none) (tgt := 499) dL_law_494 (by decide) ?_ ?_
      · refine tr_goto (tgt := 3017) dL_law_499 (by decide) ?_
        refine tr_weak [0, 1, 2, 3, 4, 5] (lv' := [(0, .ref 700), (1, .ref 0), (2, .ref 493), (3, .ref 517), (4, .ref 518), (5, .int l5)]) rfl ?_
        exact tr_mono (by omega) (by omega) (hk s41 l5)
      · refine tr_iconst (v := 0) dL_law_497 (by decide +kernel) ?_
        exact tr_zret rfl (by decide +kernel) rfl (by omega) (by omega) dL_law_498
  · refine tr_iconst (v := 0) dL_law_480 (by decide +kernel) ?_
    exact tr_zret rfl (by decide +kernel) rfl (by omega) (by omega) dL_law_481
def f_law_502 (L : Nat) (xs : Nat → Int32) (k : MsSt → Int32 → Option (Int32 × MsSt)) (σ : MsSt) (l5 : Int32) : Option (Int32 × MsSt) :=
  (ms_xld L xs (l5 + 1)).bind fun v44 =>
  (ms_xld L xs (l5 + 2)).bind fun v45 =>
  ms_b2 (f_L_letter σ v44 v45) fun v46 s47 =>
  (ms_xld L xs (l5 + 1)).bind fun v48 =>
  (ms_xld L xs (l5 + 2)).bind fun v49 =>
  ms_b2 (f_X12_letter s47 493 v48 v49) fun v50 s51 =>
  (f_X12_thrown s51 493).bind fun v52 =>
  if v52 = v46 then
    if v46 = 0 then
      (ms_alj s51 517 0).bind fun v53 =>
      if (lg_cmp v53 v50.toInt64) = 0 then
        k s51 l5
      else
        some (0, s51)
    else
      k s51 l5
  else
    some (0, s51)
set_option maxRecDepth 100000 in
theorem t_law_502 (G : MG) (hG : (g_l G).stackTraces = false) (d : Nat) (hd : 36 ≤ d) (mc ms L : Nat) (xs : Nat → Int32) (hL : L = g_L G) (hxs : xs = g_xs G) (cu su : Nat) (hcu : cu + 4 ≤ mc) (hsu : su + 24 ≤ ms) (k : MsSt → Int32 → Option (Int32 × MsSt)) (hk : ∀ (s : MsSt) (x : Int32), TrO G mL_law d mc ms (cu + 4) (su + 24) ms_wi 3017 [(0, .ref 700), (1, .ref 0), (2, .ref 493), (3, .ref 517), (4, .ref 518), (5, .int x)] [] s (k s x)) (σ : MsSt) (l5 : Int32) : TrO G mL_law d mc ms cu su ms_wi 502 [(0, .ref 700), (1, .ref 0), (2, .ref 493), (3, .ref 517), (4, .ref 518), (5, .int l5)] [] σ (f_law_502 L xs k σ l5) := by
  show TrO G mL_law d mc ms cu su ms_wi 502 [(0, .ref 700), (1, .ref 0), (2, .ref 493), (3, .ref 517), (4, .ref 518), (5, .int l5)] [] σ ((ms_xld L xs (l5 + 1)).bind fun v44 => (ms_xld L xs (l5 + 2)).bind fun v45 => ms_b2 (f_L_letter σ v44 v45) fun v46 s47 => (ms_xld L xs (l5 + 1)).bind fun v48 => (ms_xld L xs (l5 + 2)).bind fun v49 => ms_b2 (f_X12_letter s47 493 v48 v49) fun v50 s51 => (f_X12_thrown s51 493).bind fun v52 => if v52 = v46 then if v46 = 0 then (ms_alj s51 517 0).bind fun v53 => if (lg_cmp v53 v50.toInt64) = 0 then k s51 l5 else some (0, s51) else k s51 l5 else some (0, s51))
  refine tr_aload_n (i := 1) dL_law_502 rfl ?_
  refine tr_aload_n (i := 0) dL_law_503 rfl ?_
  refine tr_iload (i := 5) dL_law_504 rfl ?_
  refine tr_iconst (v := 1) dL_law_506 (by decide +kernel) ?_
  refine tr_iadd dL_law_507 ?_
  refine tr_xld hL hxs dL_law_508 (fun v44 => ?_)
  refine tr_aload_n (i := 0) dL_law_509 rfl ?_
  refine tr_iload (i := 5) dL_law_510 rfl ?_
  refine tr_iconst (v := 2) dL_law_512 (by decide +kernel) ?_
  refine tr_iadd dL_law_513 ?_
  refine tr_xld hL hxs dL_law_514 (fun v45 => ?_)
  refine tr_aload_n (i := 3) dL_law_515 rfl ?_
  refine tr_d_wi (ms_cSW (rest := []) (al := [.ref 0, .int v44, .int v45, .ref 517]) (sp_L_letter G hG (d - 1) (by omega) σ v44 v45) kl_L_165 fs_L_letter dL_law_516 (show _ = some 4 by decide +kernel) (by omega) (Nat.le_of_ble_eq_true rfl) (by omega) (by omega)) (fun v46 s47 => ?_)
  refine tr_istore (lv' := [(0, .ref 700), (1, .ref 0), (2, .ref 493), (3, .ref 517), (4, .ref 518), (5, .int l5), (6, .int v46)]) [1, 2, 3, 4, 5, 6, 0] dL_law_519 (by decide) rfl ?_
  refine tr_aload_n (i := 2) dL_law_521 rfl ?_
  refine tr_aload_n (i := 0) dL_law_522 rfl ?_
  refine tr_iload (i := 5) dL_law_523 rfl ?_
  refine tr_iconst (v := 1) dL_law_525 (by decide +kernel) ?_
  refine tr_iadd dL_law_526 ?_
  refine tr_xld hL hxs dL_law_527 (fun v48 => ?_)
  refine tr_aload_n (i := 0) dL_law_528 rfl ?_
  refine tr_iload (i := 5) dL_law_529 rfl ?_
  refine tr_iconst (v := 2) dL_law_531 (by decide +kernel) ?_
  refine tr_iadd dL_law_532 ?_
  refine tr_xld hL hxs dL_law_533 (fun v49 => ?_)
  refine tr_d_wi (ms_cV (rest := []) (al := [.int v48, .int v49]) 12 (sp_X12_letter G hG (d - 1) (by omega) s47 493 v48 v49 kd_493) kd_493 (by decide +kernel) kl_L_167 fv_X12_letter dL_law_534 (show _ = some 2 by decide +kernel) (by omega) (Nat.le_of_ble_eq_true rfl) (by omega) (by omega)) (fun v50 s51 => ?_)
  refine tr_istore (lv' := [(0, .ref 700), (1, .ref 0), (2, .ref 493), (3, .ref 517), (4, .ref 518), (5, .int l5), (6, .int v46), (7, .int v50)]) [1, 2, 3, 4, 5, 6, 7, 0] dL_law_537 (by decide) rfl ?_
  refine tr_aload_n (i := 2) dL_law_539 rfl ?_
  refine tr_c_i (ms_cV (rest := []) (al := []) 12 (sp_X12_thrown G hG (d - 1) (by omega) s51 493 kd_493) kd_493 (by decide +kernel) kl_L_150 fv_X12_thrown dL_law_540 (show _ = some 0 by decide +kernel) (by omega) (Nat.le_of_ble_eq_true rfl) (by omega) (by omega)) (fun v52 => ?_)
  refine tr_iload (i := 6) dL_law_543 rfl ?_
  refine tr_iceq (o := none) (tgt := 550) dL_law_545 (by decide) ?_ ?_
  · refine tr_iload (i := 6) dL_law_550 rfl ?_
    refine tr_ifne (o := none) (tgt := 567) dL_law_552 (by decide) ?_ ?_
    · refine tr_goto (tgt := 3017) dL_law_567 (by decide) ?_
      refine tr_weak [0, 1, 2, 3, 4, 5] (lv' := [(0, .ref 700), (1, .ref 0), (2, .ref 493), (3, .ref 517), (4, .ref 518), (5, .int l5)]) rfl ?_
      exact tr_mono (by omega) (by omega) (hk s51 l5)
    · refine tr_aload_n (i := 3) dL_law_555 rfl ?_
      refine tr_iconst (v := 0) dL_law_556 (by decide +kernel) ?_
      refine tr_alj kd_517 dL_law_557 (fun v53 => ?_)
      refine tr_iload (i := 7) dL_law_558 rfl ?_
      refine tr_i2l dL_law_560 ?_
      refine tr_lcmp dL_law_561 ?_
      refine tr_ifeq (o := none) (tgt := 567) dL_law_562 (by decide) ?_ ?_
      · refine tr_goto (tgt := 3017) dL_law_567 (by decide) ?_
        refine tr_weak [0, 1, 2, 3, 4, 5] (lv' := [(0, .ref 700), (1, .ref 0), (2, .ref 493), (3, .ref 517), (4, .ref 518), (5, .int l5)]) rfl ?_
        exact tr_mono (by omega) (by omega) (hk s51 l5)
      · refine tr_iconst (v := 0) dL_law_565 (by decide +kernel) ?_
        exact tr_zret rfl (by decide +kernel) rfl (by omega) (by omega) dL_law_566
  · refine tr_iconst (v := 0) dL_law_548 (by decide +kernel) ?_
    exact tr_zret rfl (by decide +kernel) rfl (by omega) (by omega) dL_law_549
def f_law_570 (L : Nat) (xs : Nat → Int32) (k : MsSt → Int32 → Option (Int32 × MsSt)) (σ : MsSt) (l5 : Int32) : Option (Int32 × MsSt) :=
  (ms_xld L xs (l5 + 1)).bind fun v54 =>
  (ms_xld L xs (l5 + 2)).bind fun v55 =>
  ms_b2 (f_L_expanded σ v54 v55) fun v56 s57 =>
  (ms_xld L xs (l5 + 1)).bind fun v58 =>
  (ms_xld L xs (l5 + 2)).bind fun v59 =>
  ms_b2 (f_X12_expanded s57 493 v58 v59) fun v60 s61 =>
  (f_X12_thrown s61 493).bind fun v62 =>
  if v62 = v56 then
    if v56 = 0 then
      (ms_alj s61 517 0).bind fun v63 =>
      if (lg_cmp v63 v60.toInt64) = 0 then
        k s61 l5
      else
        some (0, s61)
    else
      k s61 l5
  else
    some (0, s61)
set_option maxRecDepth 100000 in
theorem t_law_570 (G : MG) (hG : (g_l G).stackTraces = false) (d : Nat) (hd : 36 ≤ d) (mc ms L : Nat) (xs : Nat → Int32) (hL : L = g_L G) (hxs : xs = g_xs G) (cu su : Nat) (hcu : cu + 4 ≤ mc) (hsu : su + 24 ≤ ms) (k : MsSt → Int32 → Option (Int32 × MsSt)) (hk : ∀ (s : MsSt) (x : Int32), TrO G mL_law d mc ms (cu + 4) (su + 24) ms_wi 3017 [(0, .ref 700), (1, .ref 0), (2, .ref 493), (3, .ref 517), (4, .ref 518), (5, .int x)] [] s (k s x)) (σ : MsSt) (l5 : Int32) : TrO G mL_law d mc ms cu su ms_wi 570 [(0, .ref 700), (1, .ref 0), (2, .ref 493), (3, .ref 517), (4, .ref 518), (5, .int l5)] [] σ (f_law_570 L xs k σ l5) := by
  show TrO G mL_law d mc ms cu su ms_wi 570 [(0, .ref 700), (1, .ref 0), (2, .ref 493), (3, .ref 517), (4, .ref 518), (5, .int l5)] [] σ ((ms_xld L xs (l5 + 1)).bind fun v54 => (ms_xld L xs (l5 + 2)).bind fun v55 => ms_b2 (f_L_expanded σ v54 v55) fun v56 s57 => (ms_xld L xs (l5 + 1)).bind fun v58 => (ms_xld L xs (l5 + 2)).bind fun v59 => ms_b2 (f_X12_expanded s57 493 v58 v59) fun v60 s61 => (f_X12_thrown s61 493).bind fun v62 => if v62 = v56 then if v56 = 0 then (ms_alj s61 517 0).bind fun v63 => if (lg_cmp v63 v60.toInt64) = 0 then k s61 l5 else some (0, s61) else k s61 l5 else some (0, s61))
  refine tr_aload_n (i := 1) dL_law_570 rfl ?_
  refine tr_aload_n (i := 0) dL_law_571 rfl ?_
  refine tr_iload (i := 5) dL_law_572 rfl ?_
  refine tr_iconst (v := 1) dL_law_574 (by decide +kernel) ?_
  refine tr_iadd dL_law_575 ?_
  refine tr_xld hL hxs dL_law_576 (fun v54 => ?_)
  refine tr_aload_n (i := 0) dL_law_577 rfl ?_
  refine tr_iload (i := 5) dL_law_578 rfl ?_
  refine tr_iconst (v := 2) dL_law_580 (by decide +kernel) ?_
  refine tr_iadd dL_law_581 ?_
  refine tr_xld hL hxs dL_law_582 (fun v55 => ?_)
  refine tr_aload_n (i := 3) dL_law_583 rfl ?_
  refine tr_d_wi (ms_cSW (rest := []) (al := [.ref 0, .int v54, .int v55, .ref 517]) (sp_L_expanded G hG (d - 1) (by omega) σ v54 v55) kl_L_168 fs_L_expanded dL_law_584 (show _ = some 4 by decide +kernel) (by omega) (Nat.le_of_ble_eq_true rfl) (by omega) (by omega)) (fun v56 s57 => ?_)
  refine tr_istore (lv' := [(0, .ref 700), (1, .ref 0), (2, .ref 493), (3, .ref 517), (4, .ref 518), (5, .int l5), (6, .int v56)]) [1, 2, 3, 4, 5, 6, 0] dL_law_587 (by decide) rfl ?_
  refine tr_aload_n (i := 2) dL_law_589 rfl ?_
  refine tr_aload_n (i := 0) dL_law_590 rfl ?_
  refine tr_iload (i := 5) dL_law_591 rfl ?_
  refine tr_iconst (v := 1) dL_law_593 (by decide +kernel) ?_
  refine tr_iadd dL_law_594 ?_
  refine tr_xld hL hxs dL_law_595 (fun v58 => ?_)
  refine tr_aload_n (i := 0) dL_law_596 rfl ?_
  refine tr_iload (i := 5) dL_law_597 rfl ?_
  refine tr_iconst (v := 2) dL_law_599 (by decide +kernel) ?_
  refine tr_iadd dL_law_600 ?_
  refine tr_xld hL hxs dL_law_601 (fun v59 => ?_)
  refine tr_d_wi (ms_cV (rest := []) (al := [.int v58, .int v59]) 12 (sp_X12_expanded G hG (d - 1) (by omega) s57 493 v58 v59 kd_493) kd_493 (by decide +kernel) kl_L_170 fv_X12_expanded dL_law_602 (show _ = some 2 by decide +kernel) (by omega) (Nat.le_of_ble_eq_true rfl) (by omega) (by omega)) (fun v60 s61 => ?_)
  refine tr_istore (lv' := [(0, .ref 700), (1, .ref 0), (2, .ref 493), (3, .ref 517), (4, .ref 518), (5, .int l5), (6, .int v56), (7, .int v60)]) [1, 2, 3, 4, 5, 6, 7, 0] dL_law_605 (by decide) rfl ?_
  refine tr_aload_n (i := 2) dL_law_607 rfl ?_
  refine tr_c_i (ms_cV (rest := []) (al := []) 12 (sp_X12_thrown G hG (d - 1) (by omega) s61 493 kd_493) kd_493 (by decide +kernel) kl_L_150 fv_X12_thrown dL_law_608 (show _ = some 0 by decide +kernel) (by omega) (Nat.le_of_ble_eq_true rfl) (by omega) (by omega)) (fun v62 => ?_)
  refine tr_iload (i := 6) dL_law_611 rfl ?_
  refine tr_iceq (o := none) (tgt := 618) dL_law_613 (by decide) ?_ ?_
  · refine tr_iload (i := 6) dL_law_618 rfl ?_
    refine tr_ifne (o := none) (tgt := 635) dL_law_620 (by decide) ?_ ?_
    · refine tr_goto (tgt := 3017) dL_law_635 (by decide) ?_
      refine tr_weak [0, 1, 2, 3, 4, 5] (lv' := [(0, .ref 700), (1, .ref 0), (2, .ref 493), (3, .ref 517), (4, .ref 518), (5, .int l5)]) rfl ?_
      exact tr_mono (by omega) (by omega) (hk s61 l5)
    · refine tr_aload_n (i := 3) dL_law_623 rfl ?_
      refine tr_iconst (v := 0) dL_law_624 (by decide +kernel) ?_
      refine tr_alj kd_517 dL_law_625 (fun v63 => ?_)
      refine tr_iload (i := 7) dL_law_626 rfl ?_
      refine tr_i2l dL_law_628 ?_
      refine tr_lcmp dL_law_629 ?_
      refine tr_ifeq (o := none) (tgt := 635) dL_law_630 (by decide) ?_ ?_
      · refine tr_goto (tgt := 3017) dL_law_635 (by decide) ?_
        refine tr_weak [0, 1, 2, 3, 4, 5] (lv' := [(0, .ref 700), (1, .ref 0), (2, .ref 493), (3, .ref 517), (4, .ref 518), (5, .int l5)]) rfl ?_
        exact tr_mono (by omega) (by omega) (hk s61 l5)
      · refine tr_iconst (v := 0) dL_law_633 (by decide +kernel) ?_
        exact tr_zret rfl (by decide +kernel) rfl (by omega) (by omega) dL_law_634
  · refine tr_iconst (v := 0) dL_law_616 (by decide +kernel) ?_
    exact tr_zret rfl (by decide +kernel) rfl (by omega) (by omega) dL_law_617
def f_law_638 (L : Nat) (xs : Nat → Int32) (k : MsSt → Int32 → Option (Int32 × MsSt)) (σ : MsSt) (l5 : Int32) : Option (Int32 × MsSt) :=
  (ms_xld L xs (l5 + 1)).bind fun v64 =>
  (ms_xld L xs (l5 + 2)).bind fun v65 =>
  ms_b2 (f_L_pairOf σ v64 v65) fun v66 s67 =>
  (ms_xld L xs (l5 + 1)).bind fun v68 =>
  (ms_xld L xs (l5 + 2)).bind fun v69 =>
  ms_b2 (f_X12_pairOf s67 493 v68 v69) fun v70 s71 =>
  (f_X12_thrown s71 493).bind fun v72 =>
  if v72 = v66 then
    if v66 = 0 then
      (ms_alj s71 517 0).bind fun v73 =>
      if (lg_cmp v73 v70.toInt64) = 0 then
        k s71 l5
      else
        some (0, s71)
    else
      k s71 l5
  else
    some (0, s71)
set_option maxRecDepth 100000 in
theorem t_law_638 (G : MG) (hG : (g_l G).stackTraces = false) (d : Nat) (hd : 36 ≤ d) (mc ms L : Nat) (xs : Nat → Int32) (hL : L = g_L G) (hxs : xs = g_xs G) (cu su : Nat) (hcu : cu + 4 ≤ mc) (hsu : su + 24 ≤ ms) (k : MsSt → Int32 → Option (Int32 × MsSt)) (hk : ∀ (s : MsSt) (x : Int32), TrO G mL_law d mc ms (cu + 4) (su + 24) ms_wi 3017 [(0, .ref 700), (1, .ref 0), (2, .ref 493), (3, .ref 517), (4, .ref 518), (5, .int x)] [] s (k s x)) (σ : MsSt) (l5 : Int32) : TrO G mL_law d mc ms cu su ms_wi 638 [(0, .ref 700), (1, .ref 0), (2, .ref 493), (3, .ref 517), (4, .ref 518), (5, .int l5)] [] σ (f_law_638 L xs k σ l5) := by
  show TrO G mL_law d mc ms cu su ms_wi 638 [(0, .ref 700), (1, .ref 0), (2, .ref 493), (3, .ref 517), (4, .ref 518), (5, .int l5)] [] σ ((ms_xld L xs (l5 + 1)).bind fun v64 => (ms_xld L xs (l5 + 2)).bind fun v65 => ms_b2 (f_L_pairOf σ v64 v65) fun v66 s67 => (ms_xld L xs (l5 + 1)).bind fun v68 => (ms_xld L xs (l5 + 2)).bind fun v69 => ms_b2 (f_X12_pairOf s67 493 v68 v69) fun v70 s71 => (f_X12_thrown s71 493).bind fun v72 => if v72 = v66 then if v66 = 0 then (ms_alj s71 517 0).bind fun v73 => if (lg_cmp v73 v70.toInt64) = 0 then k s71 l5 else some (0, s71) else k s71 l5 else some (0, s71))
  refine tr_aload_n (i := 1) dL_law_638 rfl ?_
  refine tr_aload_n (i := 0) dL_law_639 rfl ?_
  refine tr_iload (i := 5) dL_law_640 rfl ?_
  refine tr_iconst (v := 1) dL_law_642 (by decide +kernel) ?_
  refine tr_iadd dL_law_643 ?_
  refine tr_xld hL hxs dL_law_644 (fun v64 => ?_)
  refine tr_aload_n (i := 0) dL_law_645 rfl ?_
  refine tr_iload (i := 5) dL_law_646 rfl ?_
  refine tr_iconst (v := 2) dL_law_648 (by decide +kernel) ?_
  refine tr_iadd dL_law_649 ?_
  refine tr_xld hL hxs dL_law_650 (fun v65 => ?_)
  refine tr_aload_n (i := 3) dL_law_651 rfl ?_
  refine tr_d_wi (ms_cSW (rest := []) (al := [.ref 0, .int v64, .int v65, .ref 517]) (sp_L_pairOf G hG (d - 1) (by omega) σ v64 v65) kl_L_171 fs_L_pairOf dL_law_652 (show _ = some 4 by decide +kernel) (by omega) (Nat.le_of_ble_eq_true rfl) (by omega) (by omega)) (fun v66 s67 => ?_)
  refine tr_istore (lv' := [(0, .ref 700), (1, .ref 0), (2, .ref 493), (3, .ref 517), (4, .ref 518), (5, .int l5), (6, .int v66)]) [1, 2, 3, 4, 5, 6, 0] dL_law_655 (by decide) rfl ?_
  refine tr_aload_n (i := 2) dL_law_657 rfl ?_
  refine tr_aload_n (i := 0) dL_law_658 rfl ?_
  refine tr_iload (i := 5) dL_law_659 rfl ?_
  refine tr_iconst (v := 1) dL_law_661 (by decide +kernel) ?_
  refine tr_iadd dL_law_662 ?_
  refine tr_xld hL hxs dL_law_663 (fun v68 => ?_)
  refine tr_aload_n (i := 0) dL_law_664 rfl ?_
  refine tr_iload (i := 5) dL_law_665 rfl ?_
  refine tr_iconst (v := 2) dL_law_667 (by decide +kernel) ?_
  refine tr_iadd dL_law_668 ?_
  refine tr_xld hL hxs dL_law_669 (fun v69 => ?_)
  refine tr_d_wi (ms_cV (rest := []) (al := [.int v68, .int v69]) 12 (sp_X12_pairOf G hG (d - 1) (by omega) s67 493 v68 v69 kd_493) kd_493 (by decide +kernel) kl_L_173 fv_X12_pairOf dL_law_670 (show _ = some 2 by decide +kernel) (by omega) (Nat.le_of_ble_eq_true rfl) (by omega) (by omega)) (fun v70 s71 => ?_)
  refine tr_istore (lv' := [(0, .ref 700), (1, .ref 0), (2, .ref 493), (3, .ref 517), (4, .ref 518), (5, .int l5), (6, .int v66), (7, .int v70)]) [1, 2, 3, 4, 5, 6, 7, 0] dL_law_673 (by decide) rfl ?_
  refine tr_aload_n (i := 2) dL_law_675 rfl ?_
  refine tr_c_i (ms_cV (rest := []) (al := []) 12 (sp_X12_thrown G hG (d - 1) (by omega) s71 493 kd_493) kd_493 (by decide +kernel) kl_L_150 fv_X12_thrown dL_law_676 (show _ = some 0 by decide +kernel) (by omega) (Nat.le_of_ble_eq_true rfl) (by omega) (by omega)) (fun v72 => ?_)
  refine tr_iload (i := 6) dL_law_679 rfl ?_
  refine tr_iceq (o := none) (tgt := 686) dL_law_681 (by decide) ?_ ?_
  · refine tr_iload (i := 6) dL_law_686 rfl ?_
    refine tr_ifne (o := none) (tgt := 703) dL_law_688 (by decide) ?_ ?_
    · refine tr_goto (tgt := 3017) dL_law_703 (by decide) ?_
      refine tr_weak [0, 1, 2, 3, 4, 5] (lv' := [(0, .ref 700), (1, .ref 0), (2, .ref 493), (3, .ref 517), (4, .ref 518), (5, .int l5)]) rfl ?_
      exact tr_mono (by omega) (by omega) (hk s71 l5)
    · refine tr_aload_n (i := 3) dL_law_691 rfl ?_
      refine tr_iconst (v := 0) dL_law_692 (by decide +kernel) ?_
      refine tr_alj kd_517 dL_law_693 (fun v73 => ?_)
      refine tr_iload (i := 7) dL_law_694 rfl ?_
      refine tr_i2l dL_law_696 ?_
      refine tr_lcmp dL_law_697 ?_
      refine tr_ifeq (o := none) (tgt := 703) dL_law_698 (by decide) ?_ ?_
      · refine tr_goto (tgt := 3017) dL_law_703 (by decide) ?_
        refine tr_weak [0, 1, 2, 3, 4, 5] (lv' := [(0, .ref 700), (1, .ref 0), (2, .ref 493), (3, .ref 517), (4, .ref 518), (5, .int l5)]) rfl ?_
        exact tr_mono (by omega) (by omega) (hk s71 l5)
      · refine tr_iconst (v := 0) dL_law_701 (by decide +kernel) ?_
        exact tr_zret rfl (by decide +kernel) rfl (by omega) (by omega) dL_law_702
  · refine tr_iconst (v := 0) dL_law_684 (by decide +kernel) ?_
    exact tr_zret rfl (by decide +kernel) rfl (by omega) (by omega) dL_law_685
def f_law_706 (L : Nat) (xs : Nat → Int32) (k : MsSt → Int32 → Option (Int32 × MsSt)) (σ : MsSt) (l5 : Int32) : Option (Int32 × MsSt) :=
  (ms_xld L xs (l5 + 1)).bind fun v74 =>
  ms_b2 (f_L_used σ v74) fun v75 s76 =>
  (ms_xld L xs (l5 + 1)).bind fun v77 =>
  ms_b2 (f_X12_used s76 493 v77) fun v78 s79 =>
  (f_X12_thrown s79 493).bind fun v80 =>
  if v80 = v75 then
    if v75 = 0 then
      (ms_alj s79 517 0).bind fun v81 =>
      if (lg_cmp v81 v78.toInt64) = 0 then
        k s79 l5
      else
        some (0, s79)
    else
      k s79 l5
  else
    some (0, s79)
set_option maxRecDepth 100000 in
theorem t_law_706 (G : MG) (hG : (g_l G).stackTraces = false) (d : Nat) (hd : 36 ≤ d) (mc ms L : Nat) (xs : Nat → Int32) (hL : L = g_L G) (hxs : xs = g_xs G) (cu su : Nat) (hcu : cu + 4 ≤ mc) (hsu : su + 24 ≤ ms) (k : MsSt → Int32 → Option (Int32 × MsSt)) (hk : ∀ (s : MsSt) (x : Int32), TrO G mL_law d mc ms (cu + 4) (su + 24) ms_wi 3017 [(0, .ref 700), (1, .ref 0), (2, .ref 493), (3, .ref 517), (4, .ref 518), (5, .int x)] [] s (k s x)) (σ : MsSt) (l5 : Int32) : TrO G mL_law d mc ms cu su ms_wi 706 [(0, .ref 700), (1, .ref 0), (2, .ref 493), (3, .ref 517), (4, .ref 518), (5, .int l5)] [] σ (f_law_706 L xs k σ l5) := by
  show TrO G mL_law d mc ms cu su ms_wi 706 [(0, .ref 700), (1, .ref 0), (2, .ref 493), (3, .ref 517), (4, .ref 518), (5, .int l5)] [] σ ((ms_xld L xs (l5 + 1)).bind fun v74 => ms_b2 (f_L_used σ v74) fun v75 s76 => (ms_xld L xs (l5 + 1)).bind fun v77 => ms_b2 (f_X12_used s76 493 v77) fun v78 s79 => (f_X12_thrown s79 493).bind fun v80 => if v80 = v75 then if v75 = 0 then (ms_alj s79 517 0).bind fun v81 => if (lg_cmp v81 v78.toInt64) = 0 then k s79 l5 else some (0, s79) else k s79 l5 else some (0, s79))
  refine tr_aload_n (i := 1) dL_law_706 rfl ?_
  refine tr_aload_n (i := 0) dL_law_707 rfl ?_
  refine tr_iload (i := 5) dL_law_708 rfl ?_
  refine tr_iconst (v := 1) dL_law_710 (by decide +kernel) ?_
  refine tr_iadd dL_law_711 ?_
  refine tr_xld hL hxs dL_law_712 (fun v74 => ?_)
  refine tr_aload_n (i := 3) dL_law_713 rfl ?_
  refine tr_d_wi (ms_cSW (rest := []) (al := [.ref 0, .int v74, .ref 517]) (sp_L_used G hG (d - 1) (by omega) σ v74) kl_L_174 fs_L_used dL_law_714 (show _ = some 3 by decide +kernel) (by omega) (Nat.le_of_ble_eq_true rfl) (by omega) (by omega)) (fun v75 s76 => ?_)
  refine tr_istore (lv' := [(0, .ref 700), (1, .ref 0), (2, .ref 493), (3, .ref 517), (4, .ref 518), (5, .int l5), (6, .int v75)]) [1, 2, 3, 4, 5, 6, 0] dL_law_717 (by decide) rfl ?_
  refine tr_aload_n (i := 2) dL_law_719 rfl ?_
  refine tr_aload_n (i := 0) dL_law_720 rfl ?_
  refine tr_iload (i := 5) dL_law_721 rfl ?_
  refine tr_iconst (v := 1) dL_law_723 (by decide +kernel) ?_
  refine tr_iadd dL_law_724 ?_
  refine tr_xld hL hxs dL_law_725 (fun v77 => ?_)
  refine tr_d_wi (ms_cV (rest := []) (al := [.int v77]) 12 (sp_X12_used G hG (d - 1) (by omega) s76 493 v77 kd_493) kd_493 (by decide +kernel) kl_L_176 fv_X12_used dL_law_726 (show _ = some 1 by decide +kernel) (by omega) (Nat.le_of_ble_eq_true rfl) (by omega) (by omega)) (fun v78 s79 => ?_)
  refine tr_istore (lv' := [(0, .ref 700), (1, .ref 0), (2, .ref 493), (3, .ref 517), (4, .ref 518), (5, .int l5), (6, .int v75), (7, .int v78)]) [1, 2, 3, 4, 5, 6, 7, 0] dL_law_729 (by decide) rfl ?_
  refine tr_aload_n (i := 2) dL_law_731 rfl ?_
  refine tr_c_i (ms_cV (rest := []) (al := []) 12 (sp_X12_thrown G hG (d - 1) (by omega) s79 493 kd_493) kd_493 (by decide +kernel) kl_L_150 fv_X12_thrown dL_law_732 (show _ = some 0 by decide +kernel) (by omega) (Nat.le_of_ble_eq_true rfl) (by omega) (by omega)) (fun v80 => ?_)
  refine tr_iload (i := 6) dL_law_735 rfl ?_
  refine tr_iceq (o := none) (tgt := 742) dL_law_737 (by decide) ?_ ?_
  · refine tr_iload (i := 6) dL_law_742 rfl ?_
    refine tr_ifne (o := none) (tgt := 759) dL_law_744 (by decide) ?_ ?_
    · refine tr_goto (tgt := 3017) dL_law_759 (by decide) ?_
      refine tr_weak [0, 1, 2, 3, 4, 5] (lv' := [(0, .ref 700), (1, .ref 0), (2, .ref 493), (3, .ref 517), (4, .ref 518), (5, .int l5)]) rfl ?_
      exact tr_mono (by omega) (by omega) (hk s79 l5)
    · refine tr_aload_n (i := 3) dL_law_747 rfl ?_
      refine tr_iconst (v := 0) dL_law_748 (by decide +kernel) ?_
      refine tr_alj kd_517 dL_law_749 (fun v81 => ?_)
      refine tr_iload (i := 7) dL_law_750 rfl ?_
      refine tr_i2l dL_law_752 ?_
      refine tr_lcmp dL_law_753 ?_
      refine tr_ifeq (o := none) (tgt := 759) dL_law_754 (by decide) ?_ ?_
      · refine tr_goto (tgt := 3017) dL_law_759 (by decide) ?_
        refine tr_weak [0, 1, 2, 3, 4, 5] (lv' := [(0, .ref 700), (1, .ref 0), (2, .ref 493), (3, .ref 517), (4, .ref 518), (5, .int l5)]) rfl ?_
        exact tr_mono (by omega) (by omega) (hk s79 l5)
      · refine tr_iconst (v := 0) dL_law_757 (by decide +kernel) ?_
        exact tr_zret rfl (by decide +kernel) rfl (by omega) (by omega) dL_law_758
  · refine tr_iconst (v := 0) dL_law_740 (by decide +kernel) ?_
    exact tr_zret rfl (by decide +kernel) rfl (by omega) (by omega) dL_law_741
def f_law_762 (L : Nat) (xs : Nat → Int32) (k : MsSt → Int32 → Option (Int32 × MsSt)) (σ : MsSt) (l5 : Int32) : Option (Int32 × MsSt) :=
  (ms_xld L xs (l5 + 1)).bind fun v82 =>
  ms_b2 (f_L_recomposed σ v82) fun v83 s84 =>
  (ms_xld L xs (l5 + 1)).bind fun v85 =>
  ms_b2 (f_X12_recomposed s84 493 v85) fun v86 s87 =>
  (f_X12_thrown s87 493).bind fun v88 =>
  if v88 = v83 then
    if v83 = 0 then
      (ms_alj s87 517 0).bind fun v89 =>
      if (lg_cmp v89 v86.toInt64) = 0 then
        k s87 l5
      else
        some (0, s87)
    else
      k s87 l5
  else
    some (0, s87)
set_option maxRecDepth 100000 in
theorem t_law_762 (G : MG) (hG : (g_l G).stackTraces = false) (d : Nat) (hd : 36 ≤ d) (mc ms L : Nat) (xs : Nat → Int32) (hL : L = g_L G) (hxs : xs = g_xs G) (cu su : Nat) (hcu : cu + 4 ≤ mc) (hsu : su + 24 ≤ ms) (k : MsSt → Int32 → Option (Int32 × MsSt)) (hk : ∀ (s : MsSt) (x : Int32), TrO G mL_law d mc ms (cu + 4) (su + 24) ms_wi 3017 [(0, .ref 700), (1, .ref 0), (2, .ref 493), (3, .ref 517), (4, .ref 518), (5, .int x)] [] s (k s x)) (σ : MsSt) (l5 : Int32) : TrO G mL_law d mc ms cu su ms_wi 762 [(0, .ref 700), (1, .ref 0), (2, .ref 493), (3, .ref 517), (4, .ref 518), (5, .int l5)] [] σ (f_law_762 L xs k σ l5) := by
  show TrO G mL_law d mc ms cu su ms_wi 762 [(0, .ref 700), (1, .ref 0), (2, .ref 493), (3, .ref 517), (4, .ref 518), (5, .int l5)] [] σ ((ms_xld L xs (l5 + 1)).bind fun v82 => ms_b2 (f_L_recomposed σ v82) fun v83 s84 => (ms_xld L xs (l5 + 1)).bind fun v85 => ms_b2 (f_X12_recomposed s84 493 v85) fun v86 s87 => (f_X12_thrown s87 493).bind fun v88 => if v88 = v83 then if v83 = 0 then (ms_alj s87 517 0).bind fun v89 => if (lg_cmp v89 v86.toInt64) = 0 then k s87 l5 else some (0, s87) else k s87 l5 else some (0, s87))
  refine tr_aload_n (i := 1) dL_law_762 rfl ?_
  refine tr_aload_n (i := 0) dL_law_763 rfl ?_
  refine tr_iload (i := 5) dL_law_764 rfl ?_
  refine tr_iconst (v := 1) dL_law_766 (by decide +kernel) ?_
  refine tr_iadd dL_law_767 ?_
  refine tr_xld hL hxs dL_law_768 (fun v82 => ?_)
  refine tr_aload_n (i := 3) dL_law_769 rfl ?_
  refine tr_d_wi (ms_cSW (rest := []) (al := [.ref 0, .int v82, .ref 517]) (sp_L_recomposed G hG (d - 1) (by omega) σ v82) kl_L_177 fs_L_recomposed dL_law_770 (show _ = some 3 by decide +kernel) (by omega) (Nat.le_of_ble_eq_true rfl) (by omega) (by omega)) (fun v83 s84 => ?_)
  refine tr_istore (lv' := [(0, .ref 700), (1, .ref 0), (2, .ref 493), (3, .ref 517), (4, .ref 518), (5, .int l5), (6, .int v83)]) [1, 2, 3, 4, 5, 6, 0] dL_law_773 (by decide) rfl ?_
  refine tr_aload_n (i := 2) dL_law_775 rfl ?_
  refine tr_aload_n (i := 0) dL_law_776 rfl ?_
  refine tr_iload (i := 5) dL_law_777 rfl ?_
  refine tr_iconst (v := 1) dL_law_779 (by decide +kernel) ?_
  refine tr_iadd dL_law_780 ?_
  refine tr_xld hL hxs dL_law_781 (fun v85 => ?_)
  refine tr_d_wi (ms_cV (rest := []) (al := [.int v85]) 12 (sp_X12_recomposed G hG (d - 1) (by omega) s84 493 v85 kd_493) kd_493 (by decide +kernel) kl_L_179 fv_X12_recomposed dL_law_782 (show _ = some 1 by decide +kernel) (by omega) (Nat.le_of_ble_eq_true rfl) (by omega) (by omega)) (fun v86 s87 => ?_)
  refine tr_istore (lv' := [(0, .ref 700), (1, .ref 0), (2, .ref 493), (3, .ref 517), (4, .ref 518), (5, .int l5), (6, .int v83), (7, .int v86)]) [1, 2, 3, 4, 5, 6, 7, 0] dL_law_785 (by decide) rfl ?_
  refine tr_aload_n (i := 2) dL_law_787 rfl ?_
  refine tr_c_i (ms_cV (rest := []) (al := []) 12 (sp_X12_thrown G hG (d - 1) (by omega) s87 493 kd_493) kd_493 (by decide +kernel) kl_L_150 fv_X12_thrown dL_law_788 (show _ = some 0 by decide +kernel) (by omega) (Nat.le_of_ble_eq_true rfl) (by omega) (by omega)) (fun v88 => ?_)
  refine tr_iload (i := 6) dL_law_791 rfl ?_
  refine tr_iceq (o := none) (tgt := 798) dL_law_793 (by decide) ?_ ?_
  · refine tr_iload (i := 6) dL_law_798 rfl ?_
    refine tr_ifne (o := none) (tgt := 815) dL_law_800 (by decide) ?_ ?_
    · refine tr_goto (tgt := 3017) dL_law_815 (by decide) ?_
      refine tr_weak [0, 1, 2, 3, 4, 5] (lv' := [(0, .ref 700), (1, .ref 0), (2, .ref 493), (3, .ref 517), (4, .ref 518), (5, .int l5)]) rfl ?_
      exact tr_mono (by omega) (by omega) (hk s87 l5)
    · refine tr_aload_n (i := 3) dL_law_803 rfl ?_
      refine tr_iconst (v := 0) dL_law_804 (by decide +kernel) ?_
      refine tr_alj kd_517 dL_law_805 (fun v89 => ?_)
      refine tr_iload (i := 7) dL_law_806 rfl ?_
      refine tr_i2l dL_law_808 ?_
      refine tr_lcmp dL_law_809 ?_
      refine tr_ifeq (o := none) (tgt := 815) dL_law_810 (by decide) ?_ ?_
      · refine tr_goto (tgt := 3017) dL_law_815 (by decide) ?_
        refine tr_weak [0, 1, 2, 3, 4, 5] (lv' := [(0, .ref 700), (1, .ref 0), (2, .ref 493), (3, .ref 517), (4, .ref 518), (5, .int l5)]) rfl ?_
        exact tr_mono (by omega) (by omega) (hk s87 l5)
      · refine tr_iconst (v := 0) dL_law_813 (by decide +kernel) ?_
        exact tr_zret rfl (by decide +kernel) rfl (by omega) (by omega) dL_law_814
  · refine tr_iconst (v := 0) dL_law_796 (by decide +kernel) ?_
    exact tr_zret rfl (by decide +kernel) rfl (by omega) (by omega) dL_law_797
def f_law_818 (L : Nat) (xs : Nat → Int32) (k : MsSt → Int32 → Option (Int32 × MsSt)) (σ : MsSt) (l5 : Int32) : Option (Int32 × MsSt) :=
  (ms_xld L xs (l5 + 1)).bind fun v90 =>
  (ms_xld L xs (l5 + 2)).bind fun v91 =>
  ms_b2 (f_L_line σ v90 v91) fun v92 s93 =>
  (ms_xld L xs (l5 + 1)).bind fun v94 =>
  (ms_xld L xs (l5 + 2)).bind fun v95 =>
  ms_b2 (f_X12_line s93 493 v94 v95) fun v96 s97 =>
  (f_X12_thrown s97 493).bind fun v98 =>
  if v98 = v92 then
    if v92 = 0 then
      (ms_alj s97 517 0).bind fun v99 =>
      if (lg_cmp v99 v96.toInt64) = 0 then
        k s97 l5
      else
        some (0, s97)
    else
      k s97 l5
  else
    some (0, s97)
set_option maxRecDepth 100000 in
theorem t_law_818 (G : MG) (hG : (g_l G).stackTraces = false) (d : Nat) (hd : 36 ≤ d) (mc ms L : Nat) (xs : Nat → Int32) (hL : L = g_L G) (hxs : xs = g_xs G) (cu su : Nat) (hcu : cu + 4 ≤ mc) (hsu : su + 24 ≤ ms) (k : MsSt → Int32 → Option (Int32 × MsSt)) (hk : ∀ (s : MsSt) (x : Int32), TrO G mL_law d mc ms (cu + 4) (su + 24) ms_wi 3017 [(0, .ref 700), (1, .ref 0), (2, .ref 493), (3, .ref 517), (4, .ref 518), (5, .int x)] [] s (k s x)) (σ : MsSt) (l5 : Int32) : TrO G mL_law d mc ms cu su ms_wi 818 [(0, .ref 700), (1, .ref 0), (2, .ref 493), (3, .ref 517), (4, .ref 518), (5, .int l5)] [] σ (f_law_818 L xs k σ l5) := by
  show TrO G mL_law d mc ms cu su ms_wi 818 [(0, .ref 700), (1, .ref 0), (2, .ref 493), (3, .ref 517), (4, .ref 518), (5, .int l5)] [] σ ((ms_xld L xs (l5 + 1)).bind fun v90 => (ms_xld L xs (l5 + 2)).bind fun v91 => ms_b2 (f_L_line σ v90 v91) fun v92 s93 => (ms_xld L xs (l5 + 1)).bind fun v94 => (ms_xld L xs (l5 + 2)).bind fun v95 => ms_b2 (f_X12_line s93 493 v94 v95) fun v96 s97 => (f_X12_thrown s97 493).bind fun v98 => if v98 = v92 then if v92 = 0 then (ms_alj s97 517 0).bind fun v99 => if (lg_cmp v99 v96.toInt64) = 0 then k s97 l5 else some (0, s97) else k s97 l5 else some (0, s97))
  refine tr_aload_n (i := 1) dL_law_818 rfl ?_
  refine tr_aload_n (i := 0) dL_law_819 rfl ?_
  refine tr_iload (i := 5) dL_law_820 rfl ?_
  refine tr_iconst (v := 1) dL_law_822 (by decide +kernel) ?_
  refine tr_iadd dL_law_823 ?_
  refine tr_xld hL hxs dL_law_824 (fun v90 => ?_)
  refine tr_aload_n (i := 0) dL_law_825 rfl ?_
  refine tr_iload (i := 5) dL_law_826 rfl ?_
  refine tr_iconst (v := 2) dL_law_828 (by decide +kernel) ?_
  refine tr_iadd dL_law_829 ?_
  refine tr_xld hL hxs dL_law_830 (fun v91 => ?_)
  refine tr_aload_n (i := 3) dL_law_831 rfl ?_
  refine tr_d_wi (ms_cSW (rest := []) (al := [.ref 0, .int v90, .int v91, .ref 517]) (sp_L_line G hG (d - 1) (by omega) σ v90 v91) kl_L_180 fs_L_line dL_law_832 (show _ = some 4 by decide +kernel) (by omega) (Nat.le_of_ble_eq_true rfl) (by omega) (by omega)) (fun v92 s93 => ?_)
  refine tr_istore (lv' := [(0, .ref 700), (1, .ref 0), (2, .ref 493), (3, .ref 517), (4, .ref 518), (5, .int l5), (6, .int v92)]) [1, 2, 3, 4, 5, 6, 0] dL_law_835 (by decide) rfl ?_
  refine tr_aload_n (i := 2) dL_law_837 rfl ?_
  refine tr_aload_n (i := 0) dL_law_838 rfl ?_
  refine tr_iload (i := 5) dL_law_839 rfl ?_
  refine tr_iconst (v := 1) dL_law_841 (by decide +kernel) ?_
  refine tr_iadd dL_law_842 ?_
  refine tr_xld hL hxs dL_law_843 (fun v94 => ?_)
  refine tr_aload_n (i := 0) dL_law_844 rfl ?_
  refine tr_iload (i := 5) dL_law_845 rfl ?_
  refine tr_iconst (v := 2) dL_law_847 (by decide +kernel) ?_
  refine tr_iadd dL_law_848 ?_
  refine tr_xld hL hxs dL_law_849 (fun v95 => ?_)
  refine tr_d_wi (ms_cV (rest := []) (al := [.int v94, .int v95]) 12 (sp_X12_line G hG (d - 1) (by omega) s93 493 v94 v95 kd_493) kd_493 (by decide +kernel) kl_L_182 fv_X12_line dL_law_850 (show _ = some 2 by decide +kernel) (by omega) (Nat.le_of_ble_eq_true rfl) (by omega) (by omega)) (fun v96 s97 => ?_)
  refine tr_istore (lv' := [(0, .ref 700), (1, .ref 0), (2, .ref 493), (3, .ref 517), (4, .ref 518), (5, .int l5), (6, .int v92), (7, .int v96)]) [1, 2, 3, 4, 5, 6, 7, 0] dL_law_853 (by decide) rfl ?_
  refine tr_aload_n (i := 2) dL_law_855 rfl ?_
  refine tr_c_i (ms_cV (rest := []) (al := []) 12 (sp_X12_thrown G hG (d - 1) (by omega) s97 493 kd_493) kd_493 (by decide +kernel) kl_L_150 fv_X12_thrown dL_law_856 (show _ = some 0 by decide +kernel) (by omega) (Nat.le_of_ble_eq_true rfl) (by omega) (by omega)) (fun v98 => ?_)
  refine tr_iload (i := 6) dL_law_859 rfl ?_
  refine tr_iceq (o := none) (tgt := 866) dL_law_861 (by decide) ?_ ?_
  · refine tr_iload (i := 6) dL_law_866 rfl ?_
    refine tr_ifne (o := none) (tgt := 883) dL_law_868 (by decide) ?_ ?_
    · refine tr_goto (tgt := 3017) dL_law_883 (by decide) ?_
      refine tr_weak [0, 1, 2, 3, 4, 5] (lv' := [(0, .ref 700), (1, .ref 0), (2, .ref 493), (3, .ref 517), (4, .ref 518), (5, .int l5)]) rfl ?_
      exact tr_mono (by omega) (by omega) (hk s97 l5)
    · refine tr_aload_n (i := 3) dL_law_871 rfl ?_
      refine tr_iconst (v := 0) dL_law_872 (by decide +kernel) ?_
      refine tr_alj kd_517 dL_law_873 (fun v99 => ?_)
      refine tr_iload (i := 7) dL_law_874 rfl ?_
      refine tr_i2l dL_law_876 ?_
      refine tr_lcmp dL_law_877 ?_
      refine tr_ifeq (o := none) (tgt := 883) dL_law_878 (by decide) ?_ ?_
      · refine tr_goto (tgt := 3017) dL_law_883 (by decide) ?_
        refine tr_weak [0, 1, 2, 3, 4, 5] (lv' := [(0, .ref 700), (1, .ref 0), (2, .ref 493), (3, .ref 517), (4, .ref 518), (5, .int l5)]) rfl ?_
        exact tr_mono (by omega) (by omega) (hk s97 l5)
      · refine tr_iconst (v := 0) dL_law_881 (by decide +kernel) ?_
        exact tr_zret rfl (by decide +kernel) rfl (by omega) (by omega) dL_law_882
  · refine tr_iconst (v := 0) dL_law_864 (by decide +kernel) ?_
    exact tr_zret rfl (by decide +kernel) rfl (by omega) (by omega) dL_law_865
def f_law_886 (L : Nat) (xs : Nat → Int32) (k : MsSt → Int32 → Option (Int32 × MsSt)) (σ : MsSt) (l5 : Int32) : Option (Int32 × MsSt) :=
  (ms_xld L xs (l5 + 1)).bind fun v100 =>
  (ms_xld L xs (l5 + 2)).bind fun v101 =>
  (ms_xld L xs (l5 + 3)).bind fun v102 =>
  ms_b2 (f_L_at σ v100 v101 v102) fun v103 s104 =>
  (ms_xld L xs (l5 + 1)).bind fun v105 =>
  (ms_xld L xs (l5 + 2)).bind fun v106 =>
  (ms_xld L xs (l5 + 3)).bind fun v107 =>
  ms_b2 (f_X12_at s104 493 v105 v106 v107) fun v108 s109 =>
  (f_X12_thrown s109 493).bind fun v110 =>
  if v110 = v103 then
    if v103 = 0 then
      (ms_alj s109 517 0).bind fun v111 =>
      if (lg_cmp v111 v108.toInt64) = 0 then
        k s109 l5
      else
        some (0, s109)
    else
      k s109 l5
  else
    some (0, s109)
set_option maxRecDepth 100000 in
theorem t_law_886 (G : MG) (hG : (g_l G).stackTraces = false) (d : Nat) (hd : 36 ≤ d) (mc ms L : Nat) (xs : Nat → Int32) (hL : L = g_L G) (hxs : xs = g_xs G) (cu su : Nat) (hcu : cu + 4 ≤ mc) (hsu : su + 24 ≤ ms) (k : MsSt → Int32 → Option (Int32 × MsSt)) (hk : ∀ (s : MsSt) (x : Int32), TrO G mL_law d mc ms (cu + 4) (su + 24) ms_wi 3017 [(0, .ref 700), (1, .ref 0), (2, .ref 493), (3, .ref 517), (4, .ref 518), (5, .int x)] [] s (k s x)) (σ : MsSt) (l5 : Int32) : TrO G mL_law d mc ms cu su ms_wi 886 [(0, .ref 700), (1, .ref 0), (2, .ref 493), (3, .ref 517), (4, .ref 518), (5, .int l5)] [] σ (f_law_886 L xs k σ l5) := by
  show TrO G mL_law d mc ms cu su ms_wi 886 [(0, .ref 700), (1, .ref 0), (2, .ref 493), (3, .ref 517), (4, .ref 518), (5, .int l5)] [] σ ((ms_xld L xs (l5 + 1)).bind fun v100 => (ms_xld L xs (l5 + 2)).bind fun v101 => (ms_xld L xs (l5 + 3)).bind fun v102 => ms_b2 (f_L_at σ v100 v101 v102) fun v103 s104 => (ms_xld L xs (l5 + 1)).bind fun v105 => (ms_xld L xs (l5 + 2)).bind fun v106 => (ms_xld L xs (l5 + 3)).bind fun v107 => ms_b2 (f_X12_at s104 493 v105 v106 v107) fun v108 s109 => (f_X12_thrown s109 493).bind fun v110 => if v110 = v103 then if v103 = 0 then (ms_alj s109 517 0).bind fun v111 => if (lg_cmp v111 v108.toInt64) = 0 then k s109 l5 else some (0, s109) else k s109 l5 else some (0, s109))
  refine tr_aload_n (i := 1) dL_law_886 rfl ?_
  refine tr_aload_n (i := 0) dL_law_887 rfl ?_
  refine tr_iload (i := 5) dL_law_888 rfl ?_
  refine tr_iconst (v := 1) dL_law_890 (by decide +kernel) ?_
  refine tr_iadd dL_law_891 ?_
  refine tr_xld hL hxs dL_law_892 (fun v100 => ?_)
  refine tr_aload_n (i := 0) dL_law_893 rfl ?_
  refine tr_iload (i := 5) dL_law_894 rfl ?_
  refine tr_iconst (v := 2) dL_law_896 (by decide +kernel) ?_
  refine tr_iadd dL_law_897 ?_
  refine tr_xld hL hxs dL_law_898 (fun v101 => ?_)
  refine tr_aload_n (i := 0) dL_law_899 rfl ?_
  refine tr_iload (i := 5) dL_law_900 rfl ?_
  refine tr_iconst (v := 3) dL_law_902 (by decide +kernel) ?_
  refine tr_iadd dL_law_903 ?_
  refine tr_xld hL hxs dL_law_904 (fun v102 => ?_)
  refine tr_aload_n (i := 3) dL_law_905 rfl ?_
  refine tr_d_wi (ms_cSW (rest := []) (al := [.ref 0, .int v100, .int v101, .int v102, .ref 517]) (sp_L_at G hG (d - 1) (by omega) σ v100 v101 v102) kl_L_183 fs_L_at dL_law_906 (show _ = some 5 by decide +kernel) (by omega) (Nat.le_of_ble_eq_true rfl) (by omega) (by omega)) (fun v103 s104 => ?_)
  refine tr_istore (lv' := [(0, .ref 700), (1, .ref 0), (2, .ref 493), (3, .ref 517), (4, .ref 518), (5, .int l5), (6, .int v103)]) [1, 2, 3, 4, 5, 6, 0] dL_law_909 (by decide) rfl ?_
  refine tr_aload_n (i := 2) dL_law_911 rfl ?_
  refine tr_aload_n (i := 0) dL_law_912 rfl ?_
  refine tr_iload (i := 5) dL_law_913 rfl ?_
  refine tr_iconst (v := 1) dL_law_915 (by decide +kernel) ?_
  refine tr_iadd dL_law_916 ?_
  refine tr_xld hL hxs dL_law_917 (fun v105 => ?_)
  refine tr_aload_n (i := 0) dL_law_918 rfl ?_
  refine tr_iload (i := 5) dL_law_919 rfl ?_
  refine tr_iconst (v := 2) dL_law_921 (by decide +kernel) ?_
  refine tr_iadd dL_law_922 ?_
  refine tr_xld hL hxs dL_law_923 (fun v106 => ?_)
  refine tr_aload_n (i := 0) dL_law_924 rfl ?_
  refine tr_iload (i := 5) dL_law_925 rfl ?_
  refine tr_iconst (v := 3) dL_law_927 (by decide +kernel) ?_
  refine tr_iadd dL_law_928 ?_
  refine tr_xld hL hxs dL_law_929 (fun v107 => ?_)
  refine tr_d_wi (ms_cV (rest := []) (al := [.int v105, .int v106, .int v107]) 12 (sp_X12_at G hG (d - 1) (by omega) s104 493 v105 v106 v107 kd_493) kd_493 (by decide +kernel) kl_L_186 fv_X12_at dL_law_930 (show _ = some 3 by decide +kernel) (by omega) (Nat.le_of_ble_eq_true rfl) (by omega) (by omega)) (fun v108 s109 => ?_)
  refine tr_istore (lv' := [(0, .ref 700), (1, .ref 0), (2, .ref 493), (3, .ref 517), (4, .ref 518), (5, .int l5), (6, .int v103), (7, .int v108)]) [1, 2, 3, 4, 5, 6, 7, 0] dL_law_933 (by decide) rfl ?_
  refine tr_aload_n (i := 2) dL_law_935 rfl ?_
  refine tr_c_i (ms_cV (rest := []) (al := []) 12 (sp_X12_thrown G hG (d - 1) (by omega) s109 493 kd_493) kd_493 (by decide +kernel) kl_L_150 fv_X12_thrown dL_law_936 (show _ = some 0 by decide +kernel) (by omega) (Nat.le_of_ble_eq_true rfl) (by omega) (by omega)) (fun v110 => ?_)
  refine tr_iload (i := 6) dL_law_939 rfl ?_
  refine tr_iceq (o := none) (tgt := 946) dL_law_941 (by decide) ?_ ?_
  · refine tr_iload (i := 6) dL_law_946 rfl ?_
    refine tr_ifne (o := none) (tgt := 963) dL_law_948 (by decide) ?_ ?_
    · refine tr_goto (tgt := 3017) dL_law_963 (by decide) ?_
      refine tr_weak [0, 1, 2, 3, 4, 5] (lv' := [(0, .ref 700), (1, .ref 0), (2, .ref 493), (3, .ref 517), (4, .ref 518), (5, .int l5)]) rfl ?_
      exact tr_mono (by omega) (by omega) (hk s109 l5)
    · refine tr_aload_n (i := 3) dL_law_951 rfl ?_
      refine tr_iconst (v := 0) dL_law_952 (by decide +kernel) ?_
      refine tr_alj kd_517 dL_law_953 (fun v111 => ?_)
      refine tr_iload (i := 7) dL_law_954 rfl ?_
      refine tr_i2l dL_law_956 ?_
      refine tr_lcmp dL_law_957 ?_
      refine tr_ifeq (o := none) (tgt := 963) dL_law_958 (by decide) ?_ ?_
      · refine tr_goto (tgt := 3017) dL_law_963 (by decide) ?_
        refine tr_weak [0, 1, 2, 3, 4, 5] (lv' := [(0, .ref 700), (1, .ref 0), (2, .ref 493), (3, .ref 517), (4, .ref 518), (5, .int l5)]) rfl ?_
        exact tr_mono (by omega) (by omega) (hk s109 l5)
      · refine tr_iconst (v := 0) dL_law_961 (by decide +kernel) ?_
        exact tr_zret rfl (by decide +kernel) rfl (by omega) (by omega) dL_law_962
  · refine tr_iconst (v := 0) dL_law_944 (by decide +kernel) ?_
    exact tr_zret rfl (by decide +kernel) rfl (by omega) (by omega) dL_law_945
def f_law_966 (L : Nat) (xs : Nat → Int32) (k : MsSt → Int32 → Option (Int32 × MsSt)) (σ : MsSt) (l5 : Int32) : Option (Int32 × MsSt) :=
  (ms_xld L xs (l5 + 1)).bind fun v112 =>
  (ms_xld L xs (l5 + 2)).bind fun v113 =>
  ms_b2 (f_L_unlike σ v112 v113) fun v114 s115 =>
  (ms_xld L xs (l5 + 1)).bind fun v116 =>
  (ms_xld L xs (l5 + 2)).bind fun v117 =>
  ms_b2 (f_X12_unlike s115 493 v116 v117) fun v118 s119 =>
  (f_X12_thrown s119 493).bind fun v120 =>
  if v120 = v114 then
    if v114 = 0 then
      (ms_alj s119 517 0).bind fun v121 =>
      if (lg_cmp v121 v118.toInt64) = 0 then
        k s119 l5
      else
        some (0, s119)
    else
      k s119 l5
  else
    some (0, s119)
set_option maxRecDepth 100000 in
theorem t_law_966 (G : MG) (hG : (g_l G).stackTraces = false) (d : Nat) (hd : 36 ≤ d) (mc ms L : Nat) (xs : Nat → Int32) (hL : L = g_L G) (hxs : xs = g_xs G) (cu su : Nat) (hcu : cu + 4 ≤ mc) (hsu : su + 24 ≤ ms) (k : MsSt → Int32 → Option (Int32 × MsSt)) (hk : ∀ (s : MsSt) (x : Int32), TrO G mL_law d mc ms (cu + 4) (su + 24) ms_wi 3017 [(0, .ref 700), (1, .ref 0), (2, .ref 493), (3, .ref 517), (4, .ref 518), (5, .int x)] [] s (k s x)) (σ : MsSt) (l5 : Int32) : TrO G mL_law d mc ms cu su ms_wi 966 [(0, .ref 700), (1, .ref 0), (2, .ref 493), (3, .ref 517), (4, .ref 518), (5, .int l5)] [] σ (f_law_966 L xs k σ l5) := by
  show TrO G mL_law d mc ms cu su ms_wi 966 [(0, .ref 700), (1, .ref 0), (2, .ref 493), (3, .ref 517), (4, .ref 518), (5, .int l5)] [] σ ((ms_xld L xs (l5 + 1)).bind fun v112 => (ms_xld L xs (l5 + 2)).bind fun v113 => ms_b2 (f_L_unlike σ v112 v113) fun v114 s115 => (ms_xld L xs (l5 + 1)).bind fun v116 => (ms_xld L xs (l5 + 2)).bind fun v117 => ms_b2 (f_X12_unlike s115 493 v116 v117) fun v118 s119 => (f_X12_thrown s119 493).bind fun v120 => if v120 = v114 then if v114 = 0 then (ms_alj s119 517 0).bind fun v121 => if (lg_cmp v121 v118.toInt64) = 0 then k s119 l5 else some (0, s119) else k s119 l5 else some (0, s119))
  refine tr_aload_n (i := 1) dL_law_966 rfl ?_
  refine tr_aload_n (i := 0) dL_law_967 rfl ?_
  refine tr_iload (i := 5) dL_law_968 rfl ?_
  refine tr_iconst (v := 1) dL_law_970 (by decide +kernel) ?_
  refine tr_iadd dL_law_971 ?_
  refine tr_xld hL hxs dL_law_972 (fun v112 => ?_)
  refine tr_aload_n (i := 0) dL_law_973 rfl ?_
  refine tr_iload (i := 5) dL_law_974 rfl ?_
  refine tr_iconst (v := 2) dL_law_976 (by decide +kernel) ?_
  refine tr_iadd dL_law_977 ?_
  refine tr_xld hL hxs dL_law_978 (fun v113 => ?_)
  refine tr_aload_n (i := 3) dL_law_979 rfl ?_
  refine tr_d_wi (ms_cSW (rest := []) (al := [.ref 0, .int v112, .int v113, .ref 517]) (sp_L_unlike G hG (d - 1) (by omega) σ v112 v113) kl_L_187 fs_L_unlike dL_law_980 (show _ = some 4 by decide +kernel) (by omega) (Nat.le_of_ble_eq_true rfl) (by omega) (by omega)) (fun v114 s115 => ?_)
  refine tr_istore (lv' := [(0, .ref 700), (1, .ref 0), (2, .ref 493), (3, .ref 517), (4, .ref 518), (5, .int l5), (6, .int v114)]) [1, 2, 3, 4, 5, 6, 0] dL_law_983 (by decide) rfl ?_
  refine tr_aload_n (i := 2) dL_law_985 rfl ?_
  refine tr_aload_n (i := 0) dL_law_986 rfl ?_
  refine tr_iload (i := 5) dL_law_987 rfl ?_
  refine tr_iconst (v := 1) dL_law_989 (by decide +kernel) ?_
  refine tr_iadd dL_law_990 ?_
  refine tr_xld hL hxs dL_law_991 (fun v116 => ?_)
  refine tr_aload_n (i := 0) dL_law_992 rfl ?_
  refine tr_iload (i := 5) dL_law_993 rfl ?_
  refine tr_iconst (v := 2) dL_law_995 (by decide +kernel) ?_
  refine tr_iadd dL_law_996 ?_
  refine tr_xld hL hxs dL_law_997 (fun v117 => ?_)
  refine tr_d_wi (ms_cV (rest := []) (al := [.int v116, .int v117]) 12 (sp_X12_unlike G hG (d - 1) (by omega) s115 493 v116 v117 kd_493) kd_493 (by decide +kernel) kl_L_189 fv_X12_unlike dL_law_998 (show _ = some 2 by decide +kernel) (by omega) (Nat.le_of_ble_eq_true rfl) (by omega) (by omega)) (fun v118 s119 => ?_)
  refine tr_istore (lv' := [(0, .ref 700), (1, .ref 0), (2, .ref 493), (3, .ref 517), (4, .ref 518), (5, .int l5), (6, .int v114), (7, .int v118)]) [1, 2, 3, 4, 5, 6, 7, 0] dL_law_1001 (by decide) rfl ?_
  refine tr_aload_n (i := 2) dL_law_1003 rfl ?_
  refine tr_c_i (ms_cV (rest := []) (al := []) 12 (sp_X12_thrown G hG (d - 1) (by omega) s119 493 kd_493) kd_493 (by decide +kernel) kl_L_150 fv_X12_thrown dL_law_1004 (show _ = some 0 by decide +kernel) (by omega) (Nat.le_of_ble_eq_true rfl) (by omega) (by omega)) (fun v120 => ?_)
  refine tr_iload (i := 6) dL_law_1007 rfl ?_
  refine tr_iceq (o := none) (tgt := 1014) dL_law_1009 (by decide) ?_ ?_
  · refine tr_iload (i := 6) dL_law_1014 rfl ?_
    refine tr_ifne (o := none) (tgt := 1031) dL_law_1016 (by decide) ?_ ?_
    · refine tr_goto (tgt := 3017) dL_law_1031 (by decide) ?_
      refine tr_weak [0, 1, 2, 3, 4, 5] (lv' := [(0, .ref 700), (1, .ref 0), (2, .ref 493), (3, .ref 517), (4, .ref 518), (5, .int l5)]) rfl ?_
      exact tr_mono (by omega) (by omega) (hk s119 l5)
    · refine tr_aload_n (i := 3) dL_law_1019 rfl ?_
      refine tr_iconst (v := 0) dL_law_1020 (by decide +kernel) ?_
      refine tr_alj kd_517 dL_law_1021 (fun v121 => ?_)
      refine tr_iload (i := 7) dL_law_1022 rfl ?_
      refine tr_i2l dL_law_1024 ?_
      refine tr_lcmp dL_law_1025 ?_
      refine tr_ifeq (o := none) (tgt := 1031) dL_law_1026 (by decide) ?_ ?_
      · refine tr_goto (tgt := 3017) dL_law_1031 (by decide) ?_
        refine tr_weak [0, 1, 2, 3, 4, 5] (lv' := [(0, .ref 700), (1, .ref 0), (2, .ref 493), (3, .ref 517), (4, .ref 518), (5, .int l5)]) rfl ?_
        exact tr_mono (by omega) (by omega) (hk s119 l5)
      · refine tr_iconst (v := 0) dL_law_1029 (by decide +kernel) ?_
        exact tr_zret rfl (by decide +kernel) rfl (by omega) (by omega) dL_law_1030
  · refine tr_iconst (v := 0) dL_law_1012 (by decide +kernel) ?_
    exact tr_zret rfl (by decide +kernel) rfl (by omega) (by omega) dL_law_1013
def f_law_1034 (L : Nat) (xs : Nat → Int32) (k : MsSt → Int32 → Option (Int32 × MsSt)) (σ : MsSt) (l5 : Int32) : Option (Int32 × MsSt) :=
  (ms_xld L xs (l5 + 1)).bind fun v122 =>
  (ms_xld L xs (l5 + 2)).bind fun v123 =>
  ms_b2 (f_L_clusterOf σ v122 v123) fun v124 s125 =>
  (ms_xld L xs (l5 + 1)).bind fun v126 =>
  (ms_xld L xs (l5 + 2)).bind fun v127 =>
  ms_b2 (f_X12_clusterOf s125 493 v126 v127) fun v128 s129 =>
  (f_X12_thrown s129 493).bind fun v130 =>
  if v130 = v124 then
    if v124 = 0 then
      (ms_alj s129 517 0).bind fun v131 =>
      if (lg_cmp v131 v128.toInt64) = 0 then
        k s129 l5
      else
        some (0, s129)
    else
      k s129 l5
  else
    some (0, s129)
set_option maxRecDepth 100000 in
theorem t_law_1034 (G : MG) (hG : (g_l G).stackTraces = false) (d : Nat) (hd : 36 ≤ d) (mc ms L : Nat) (xs : Nat → Int32) (hL : L = g_L G) (hxs : xs = g_xs G) (cu su : Nat) (hcu : cu + 4 ≤ mc) (hsu : su + 24 ≤ ms) (k : MsSt → Int32 → Option (Int32 × MsSt)) (hk : ∀ (s : MsSt) (x : Int32), TrO G mL_law d mc ms (cu + 4) (su + 24) ms_wi 3017 [(0, .ref 700), (1, .ref 0), (2, .ref 493), (3, .ref 517), (4, .ref 518), (5, .int x)] [] s (k s x)) (σ : MsSt) (l5 : Int32) : TrO G mL_law d mc ms cu su ms_wi 1034 [(0, .ref 700), (1, .ref 0), (2, .ref 493), (3, .ref 517), (4, .ref 518), (5, .int l5)] [] σ (f_law_1034 L xs k σ l5) := by
  show TrO G mL_law d mc ms cu su ms_wi 1034 [(0, .ref 700), (1, .ref 0), (2, .ref 493), (3, .ref 517), (4, .ref 518), (5, .int l5)] [] σ ((ms_xld L xs (l5 + 1)).bind fun v122 => (ms_xld L xs (l5 + 2)).bind fun v123 => ms_b2 (f_L_clusterOf σ v122 v123) fun v124 s125 => (ms_xld L xs (l5 + 1)).bind fun v126 => (ms_xld L xs (l5 + 2)).bind fun v127 => ms_b2 (f_X12_clusterOf s125 493 v126 v127) fun v128 s129 => (f_X12_thrown s129 493).bind fun v130 => if v130 = v124 then if v124 = 0 then (ms_alj s129 517 0).bind fun v131 => if (lg_cmp v131 v128.toInt64) = 0 then k s129 l5 else some (0, s129) else k s129 l5 else some (0, s129))
  refine tr_aload_n (i := 1) dL_law_1034 rfl ?_
  refine tr_aload_n (i := 0) dL_law_1035 rfl ?_
  refine tr_iload (i := 5) dL_law_1036 rfl ?_
  refine tr_iconst (v := 1) dL_law_1038 (by decide +kernel) ?_
  refine tr_iadd dL_law_1039 ?_
  refine tr_xld hL hxs dL_law_1040 (fun v122 => ?_)
  refine tr_aload_n (i := 0) dL_law_1041 rfl ?_
  refine tr_iload (i := 5) dL_law_1042 rfl ?_
  refine tr_iconst (v := 2) dL_law_1044 (by decide +kernel) ?_
  refine tr_iadd dL_law_1045 ?_
  refine tr_xld hL hxs dL_law_1046 (fun v123 => ?_)
  refine tr_aload_n (i := 3) dL_law_1047 rfl ?_
  refine tr_d_wi (ms_cSW (rest := []) (al := [.ref 0, .int v122, .int v123, .ref 517]) (sp_L_clusterOf G hG (d - 1) (by omega) σ v122 v123) kl_L_190 fs_L_clusterOf dL_law_1048 (show _ = some 4 by decide +kernel) (by omega) (Nat.le_of_ble_eq_true rfl) (by omega) (by omega)) (fun v124 s125 => ?_)
  refine tr_istore (lv' := [(0, .ref 700), (1, .ref 0), (2, .ref 493), (3, .ref 517), (4, .ref 518), (5, .int l5), (6, .int v124)]) [1, 2, 3, 4, 5, 6, 0] dL_law_1051 (by decide) rfl ?_
  refine tr_aload_n (i := 2) dL_law_1053 rfl ?_
  refine tr_aload_n (i := 0) dL_law_1054 rfl ?_
  refine tr_iload (i := 5) dL_law_1055 rfl ?_
  refine tr_iconst (v := 1) dL_law_1057 (by decide +kernel) ?_
  refine tr_iadd dL_law_1058 ?_
  refine tr_xld hL hxs dL_law_1059 (fun v126 => ?_)
  refine tr_aload_n (i := 0) dL_law_1060 rfl ?_
  refine tr_iload (i := 5) dL_law_1061 rfl ?_
  refine tr_iconst (v := 2) dL_law_1063 (by decide +kernel) ?_
  refine tr_iadd dL_law_1064 ?_
  refine tr_xld hL hxs dL_law_1065 (fun v127 => ?_)
  refine tr_d_wi (ms_cV (rest := []) (al := [.int v126, .int v127]) 12 (sp_X12_clusterOf G hG (d - 1) (by omega) s125 493 v126 v127 kd_493) kd_493 (by decide +kernel) kl_L_192 fv_X12_clusterOf dL_law_1066 (show _ = some 2 by decide +kernel) (by omega) (Nat.le_of_ble_eq_true rfl) (by omega) (by omega)) (fun v128 s129 => ?_)
  refine tr_istore (lv' := [(0, .ref 700), (1, .ref 0), (2, .ref 493), (3, .ref 517), (4, .ref 518), (5, .int l5), (6, .int v124), (7, .int v128)]) [1, 2, 3, 4, 5, 6, 7, 0] dL_law_1069 (by decide) rfl ?_
  refine tr_aload_n (i := 2) dL_law_1071 rfl ?_
  refine tr_c_i (ms_cV (rest := []) (al := []) 12 (sp_X12_thrown G hG (d - 1) (by omega) s129 493 kd_493) kd_493 (by decide +kernel) kl_L_150 fv_X12_thrown dL_law_1072 (show _ = some 0 by decide +kernel) (by omega) (Nat.le_of_ble_eq_true rfl) (by omega) (by omega)) (fun v130 => ?_)
  refine tr_iload (i := 6) dL_law_1075 rfl ?_
  refine tr_iceq (o := none) (tgt := 1082) dL_law_1077 (by decide) ?_ ?_
  · refine tr_iload (i := 6) dL_law_1082 rfl ?_
    refine tr_ifne (o := none) (tgt := 1099) dL_law_1084 (by decide) ?_ ?_
    · refine tr_goto (tgt := 3017) dL_law_1099 (by decide) ?_
      refine tr_weak [0, 1, 2, 3, 4, 5] (lv' := [(0, .ref 700), (1, .ref 0), (2, .ref 493), (3, .ref 517), (4, .ref 518), (5, .int l5)]) rfl ?_
      exact tr_mono (by omega) (by omega) (hk s129 l5)
    · refine tr_aload_n (i := 3) dL_law_1087 rfl ?_
      refine tr_iconst (v := 0) dL_law_1088 (by decide +kernel) ?_
      refine tr_alj kd_517 dL_law_1089 (fun v131 => ?_)
      refine tr_iload (i := 7) dL_law_1090 rfl ?_
      refine tr_i2l dL_law_1092 ?_
      refine tr_lcmp dL_law_1093 ?_
      refine tr_ifeq (o := none) (tgt := 1099) dL_law_1094 (by decide) ?_ ?_
      · refine tr_goto (tgt := 3017) dL_law_1099 (by decide) ?_
        refine tr_weak [0, 1, 2, 3, 4, 5] (lv' := [(0, .ref 700), (1, .ref 0), (2, .ref 493), (3, .ref 517), (4, .ref 518), (5, .int l5)]) rfl ?_
        exact tr_mono (by omega) (by omega) (hk s129 l5)
      · refine tr_iconst (v := 0) dL_law_1097 (by decide +kernel) ?_
        exact tr_zret rfl (by decide +kernel) rfl (by omega) (by omega) dL_law_1098
  · refine tr_iconst (v := 0) dL_law_1080 (by decide +kernel) ?_
    exact tr_zret rfl (by decide +kernel) rfl (by omega) (by omega) dL_law_1081
def f_law_1102 (L : Nat) (xs : Nat → Int32) (k : MsSt → Int32 → Option (Int32 × MsSt)) (σ : MsSt) (l5 : Int32) : Option (Int32 × MsSt) :=
  (ms_xld L xs (l5 + 1)).bind fun v132 =>
  (ms_xld L xs (l5 + 2)).bind fun v133 =>
  (ms_xld L xs (l5 + 3)).bind fun v134 =>
  ms_b2 (f_L_cluster σ v132 v133 v134) fun v135 s136 =>
  (ms_xld L xs (l5 + 1)).bind fun v137 =>
  (ms_xld L xs (l5 + 2)).bind fun v138 =>
  (ms_xld L xs (l5 + 3)).bind fun v139 =>
  ms_b2 (f_X12_cluster s136 493 v137 v138 v139) fun v140 s141 =>
  (f_X12_thrown s141 493).bind fun v142 =>
  if v142 = v135 then
    if v135 = 0 then
      (ms_alj s141 517 0).bind fun v143 =>
      if (lg_cmp v143 v140.toInt64) = 0 then
        k s141 l5
      else
        some (0, s141)
    else
      k s141 l5
  else
    some (0, s141)
set_option maxRecDepth 100000 in
theorem t_law_1102 (G : MG) (hG : (g_l G).stackTraces = false) (d : Nat) (hd : 36 ≤ d) (mc ms L : Nat) (xs : Nat → Int32) (hL : L = g_L G) (hxs : xs = g_xs G) (cu su : Nat) (hcu : cu + 4 ≤ mc) (hsu : su + 24 ≤ ms) (k : MsSt → Int32 → Option (Int32 × MsSt)) (hk : ∀ (s : MsSt) (x : Int32), TrO G mL_law d mc ms (cu + 4) (su + 24) ms_wi 3017 [(0, .ref 700), (1, .ref 0), (2, .ref 493), (3, .ref 517), (4, .ref 518), (5, .int x)] [] s (k s x)) (σ : MsSt) (l5 : Int32) : TrO G mL_law d mc ms cu su ms_wi 1102 [(0, .ref 700), (1, .ref 0), (2, .ref 493), (3, .ref 517), (4, .ref 518), (5, .int l5)] [] σ (f_law_1102 L xs k σ l5) := by
  show TrO G mL_law d mc ms cu su ms_wi 1102 [(0, .ref 700), (1, .ref 0), (2, .ref 493), (3, .ref 517), (4, .ref 518), (5, .int l5)] [] σ ((ms_xld L xs (l5 + 1)).bind fun v132 => (ms_xld L xs (l5 + 2)).bind fun v133 => (ms_xld L xs (l5 + 3)).bind fun v134 => ms_b2 (f_L_cluster σ v132 v133 v134) fun v135 s136 => (ms_xld L xs (l5 + 1)).bind fun v137 => (ms_xld L xs (l5 + 2)).bind fun v138 => (ms_xld L xs (l5 + 3)).bind fun v139 => ms_b2 (f_X12_cluster s136 493 v137 v138 v139) fun v140 s141 => (f_X12_thrown s141 493).bind fun v142 => if v142 = v135 then if v135 = 0 then (ms_alj s141 517 0).bind fun v143 => if (lg_cmp v143 v140.toInt64) = 0 then k s141 l5 else some (0, s141) else k s141 l5 else some (0, s141))
  refine tr_aload_n (i := 1) dL_law_1102 rfl ?_
  refine tr_aload_n (i := 0) dL_law_1103 rfl ?_
  refine tr_iload (i := 5) dL_law_1104 rfl ?_
  refine tr_iconst (v := 1) dL_law_1106 (by decide +kernel) ?_
  refine tr_iadd dL_law_1107 ?_
  refine tr_xld hL hxs dL_law_1108 (fun v132 => ?_)
  refine tr_aload_n (i := 0) dL_law_1109 rfl ?_
  refine tr_iload (i := 5) dL_law_1110 rfl ?_
  refine tr_iconst (v := 2) dL_law_1112 (by decide +kernel) ?_
  refine tr_iadd dL_law_1113 ?_
  refine tr_xld hL hxs dL_law_1114 (fun v133 => ?_)
  refine tr_aload_n (i := 0) dL_law_1115 rfl ?_
  refine tr_iload (i := 5) dL_law_1116 rfl ?_
  refine tr_iconst (v := 3) dL_law_1118 (by decide +kernel) ?_
  refine tr_iadd dL_law_1119 ?_
  refine tr_xld hL hxs dL_law_1120 (fun v134 => ?_)
  refine tr_aload_n (i := 3) dL_law_1121 rfl ?_
  refine tr_d_wi (ms_cSW (rest := []) (al := [.ref 0, .int v132, .int v133, .int v134, .ref 517]) (sp_L_cluster G hG (d - 1) (by omega) σ v132 v133 v134) kl_L_193 fs_L_cluster dL_law_1122 (show _ = some 5 by decide +kernel) (by omega) (Nat.le_of_ble_eq_true rfl) (by omega) (by omega)) (fun v135 s136 => ?_)
  refine tr_istore (lv' := [(0, .ref 700), (1, .ref 0), (2, .ref 493), (3, .ref 517), (4, .ref 518), (5, .int l5), (6, .int v135)]) [1, 2, 3, 4, 5, 6, 0] dL_law_1125 (by decide) rfl ?_
  refine tr_aload_n (i := 2) dL_law_1127 rfl ?_
  refine tr_aload_n (i := 0) dL_law_1128 rfl ?_
  refine tr_iload (i := 5) dL_law_1129 rfl ?_
  refine tr_iconst (v := 1) dL_law_1131 (by decide +kernel) ?_
  refine tr_iadd dL_law_1132 ?_
  refine tr_xld hL hxs dL_law_1133 (fun v137 => ?_)
  refine tr_aload_n (i := 0) dL_law_1134 rfl ?_
  refine tr_iload (i := 5) dL_law_1135 rfl ?_
  refine tr_iconst (v := 2) dL_law_1137 (by decide +kernel) ?_
  refine tr_iadd dL_law_1138 ?_
  refine tr_xld hL hxs dL_law_1139 (fun v138 => ?_)
  refine tr_aload_n (i := 0) dL_law_1140 rfl ?_
  refine tr_iload (i := 5) dL_law_1141 rfl ?_
  refine tr_iconst (v := 3) dL_law_1143 (by decide +kernel) ?_
  refine tr_iadd dL_law_1144 ?_
  refine tr_xld hL hxs dL_law_1145 (fun v139 => ?_)
  refine tr_d_wi (ms_cV (rest := []) (al := [.int v137, .int v138, .int v139]) 12 (sp_X12_cluster G hG (d - 1) (by omega) s136 493 v137 v138 v139 kd_493) kd_493 (by decide +kernel) kl_L_195 fv_X12_cluster dL_law_1146 (show _ = some 3 by decide +kernel) (by omega) (Nat.le_of_ble_eq_true rfl) (by omega) (by omega)) (fun v140 s141 => ?_)
  refine tr_istore (lv' := [(0, .ref 700), (1, .ref 0), (2, .ref 493), (3, .ref 517), (4, .ref 518), (5, .int l5), (6, .int v135), (7, .int v140)]) [1, 2, 3, 4, 5, 6, 7, 0] dL_law_1149 (by decide) rfl ?_
  refine tr_aload_n (i := 2) dL_law_1151 rfl ?_
  refine tr_c_i (ms_cV (rest := []) (al := []) 12 (sp_X12_thrown G hG (d - 1) (by omega) s141 493 kd_493) kd_493 (by decide +kernel) kl_L_150 fv_X12_thrown dL_law_1152 (show _ = some 0 by decide +kernel) (by omega) (Nat.le_of_ble_eq_true rfl) (by omega) (by omega)) (fun v142 => ?_)
  refine tr_iload (i := 6) dL_law_1155 rfl ?_
  refine tr_iceq (o := none) (tgt := 1162) dL_law_1157 (by decide) ?_ ?_
  · refine tr_iload (i := 6) dL_law_1162 rfl ?_
    refine tr_ifne (o := none) (tgt := 1179) dL_law_1164 (by decide) ?_ ?_
    · refine tr_goto (tgt := 3017) dL_law_1179 (by decide) ?_
      refine tr_weak [0, 1, 2, 3, 4, 5] (lv' := [(0, .ref 700), (1, .ref 0), (2, .ref 493), (3, .ref 517), (4, .ref 518), (5, .int l5)]) rfl ?_
      exact tr_mono (by omega) (by omega) (hk s141 l5)
    · refine tr_aload_n (i := 3) dL_law_1167 rfl ?_
      refine tr_iconst (v := 0) dL_law_1168 (by decide +kernel) ?_
      refine tr_alj kd_517 dL_law_1169 (fun v143 => ?_)
      refine tr_iload (i := 7) dL_law_1170 rfl ?_
      refine tr_i2l dL_law_1172 ?_
      refine tr_lcmp dL_law_1173 ?_
      refine tr_ifeq (o := none) (tgt := 1179) dL_law_1174 (by decide) ?_ ?_
      · refine tr_goto (tgt := 3017) dL_law_1179 (by decide) ?_
        refine tr_weak [0, 1, 2, 3, 4, 5] (lv' := [(0, .ref 700), (1, .ref 0), (2, .ref 493), (3, .ref 517), (4, .ref 518), (5, .int l5)]) rfl ?_
        exact tr_mono (by omega) (by omega) (hk s141 l5)
      · refine tr_iconst (v := 0) dL_law_1177 (by decide +kernel) ?_
        exact tr_zret rfl (by decide +kernel) rfl (by omega) (by omega) dL_law_1178
  · refine tr_iconst (v := 0) dL_law_1160 (by decide +kernel) ?_
    exact tr_zret rfl (by decide +kernel) rfl (by omega) (by omega) dL_law_1161
