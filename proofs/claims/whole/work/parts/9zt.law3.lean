/-! cases of the loop, by program -/
def f_law_1182 (L : Nat) (xs : Nat → Int32) (k : MsSt → Int32 → Option (Int32 × MsSt)) (σ : MsSt) (l5 : Int32) : Option (Int32 × MsSt) :=
  (ms_xld L xs (l5 + 1)).bind fun v144 =>
  (ms_xld L xs (l5 + 2)).bind fun v145 =>
  (ms_xld L xs (l5 + 3)).bind fun v146 =>
  (ms_xld L xs (l5 + 4)).bind fun v147 =>
  ms_b2 (f_L_box σ v144 v145 v146 v147) fun v148 s149 =>
  (ms_xld L xs (l5 + 1)).bind fun v150 =>
  (ms_xld L xs (l5 + 2)).bind fun v151 =>
  (ms_xld L xs (l5 + 3)).bind fun v152 =>
  (ms_xld L xs (l5 + 4)).bind fun v153 =>
  ms_b2 (f_X12_box s149 493 v150 v151 v152 v153) fun v154 s155 =>
  (f_X12_thrown s155 493).bind fun v156 =>
  if v156 = v148 then
    if v148 = 0 then
      (ms_alj s155 517 0).bind fun v157 =>
      if (lg_cmp v157 v154.toInt64) = 0 then
        k s155 l5
      else
        some (0, s155)
    else
      k s155 l5
  else
    some (0, s155)
set_option maxRecDepth 100000 in
theorem t_law_1182 (G : MG) (hG : (g_l G).stackTraces = false) (d : Nat) (hd : 36 ≤ d) (mc ms L : Nat) (xs : Nat → Int32) (hL : L = g_L G) (hxs : xs = g_xs G) (cu su : Nat) (hcu : cu + 4 ≤ mc) (hsu : su + 24 ≤ ms) (k : MsSt → Int32 → Option (Int32 × MsSt)) (hk : ∀ (s : MsSt) (x : Int32), TrO G mL_law d mc ms (cu + 4) (su + 24) ms_wi 3017 [(0, .ref 700), (1, .ref 0), (2, .ref 493), (3, .ref 517), (4, .ref 518), (5, .int x)] [] s (k s x)) (σ : MsSt) (l5 : Int32) : TrO G mL_law d mc ms cu su ms_wi 1182 [(0, .ref 700), (1, .ref 0), (2, .ref 493), (3, .ref 517), (4, .ref 518), (5, .int l5)] [] σ (f_law_1182 L xs k σ l5) := by
  show TrO G mL_law d mc ms cu su ms_wi 1182 [(0, .ref 700), (1, .ref 0), (2, .ref 493), (3, .ref 517), (4, .ref 518), (5, .int l5)] [] σ ((ms_xld L xs (l5 + 1)).bind fun v144 => (ms_xld L xs (l5 + 2)).bind fun v145 => (ms_xld L xs (l5 + 3)).bind fun v146 => (ms_xld L xs (l5 + 4)).bind fun v147 => ms_b2 (f_L_box σ v144 v145 v146 v147) fun v148 s149 => (ms_xld L xs (l5 + 1)).bind fun v150 => (ms_xld L xs (l5 + 2)).bind fun v151 => (ms_xld L xs (l5 + 3)).bind fun v152 => (ms_xld L xs (l5 + 4)).bind fun v153 => ms_b2 (f_X12_box s149 493 v150 v151 v152 v153) fun v154 s155 => (f_X12_thrown s155 493).bind fun v156 => if v156 = v148 then if v148 = 0 then (ms_alj s155 517 0).bind fun v157 => if (lg_cmp v157 v154.toInt64) = 0 then k s155 l5 else some (0, s155) else k s155 l5 else some (0, s155))
  refine tr_aload_n (i := 1) dL_law_1182 rfl ?_
  refine tr_aload_n (i := 0) dL_law_1183 rfl ?_
  refine tr_iload (i := 5) dL_law_1184 rfl ?_
  refine tr_iconst (v := 1) dL_law_1186 (by decide +kernel) ?_
  refine tr_iadd dL_law_1187 ?_
  refine tr_xld hL hxs dL_law_1188 (fun v144 => ?_)
  refine tr_aload_n (i := 0) dL_law_1189 rfl ?_
  refine tr_iload (i := 5) dL_law_1190 rfl ?_
  refine tr_iconst (v := 2) dL_law_1192 (by decide +kernel) ?_
  refine tr_iadd dL_law_1193 ?_
  refine tr_xld hL hxs dL_law_1194 (fun v145 => ?_)
  refine tr_aload_n (i := 0) dL_law_1195 rfl ?_
  refine tr_iload (i := 5) dL_law_1196 rfl ?_
  refine tr_iconst (v := 3) dL_law_1198 (by decide +kernel) ?_
  refine tr_iadd dL_law_1199 ?_
  refine tr_xld hL hxs dL_law_1200 (fun v146 => ?_)
  refine tr_aload_n (i := 0) dL_law_1201 rfl ?_
  refine tr_iload (i := 5) dL_law_1202 rfl ?_
  refine tr_iconst (v := 4) dL_law_1204 (by decide +kernel) ?_
  refine tr_iadd dL_law_1205 ?_
  refine tr_xld hL hxs dL_law_1206 (fun v147 => ?_)
  refine tr_aload_n (i := 3) dL_law_1207 rfl ?_
  refine tr_d_wi (ms_cSW (rest := []) (al := [.ref 0, .int v144, .int v145, .int v146, .int v147, .ref 517]) (sp_L_box G hG (d - 1) (by omega) σ v144 v145 v146 v147) kl_L_196 fs_L_box dL_law_1208 (show _ = some 6 by decide +kernel) (by omega) (Nat.le_of_ble_eq_true rfl) (by omega) (by omega)) (fun v148 s149 => ?_)
  refine tr_istore (lv' := [(0, .ref 700), (1, .ref 0), (2, .ref 493), (3, .ref 517), (4, .ref 518), (5, .int l5), (6, .int v148)]) [1, 2, 3, 4, 5, 6, 0] dL_law_1211 (by decide) rfl ?_
  refine tr_aload_n (i := 2) dL_law_1213 rfl ?_
  refine tr_aload_n (i := 0) dL_law_1214 rfl ?_
  refine tr_iload (i := 5) dL_law_1215 rfl ?_
  refine tr_iconst (v := 1) dL_law_1217 (by decide +kernel) ?_
  refine tr_iadd dL_law_1218 ?_
  refine tr_xld hL hxs dL_law_1219 (fun v150 => ?_)
  refine tr_aload_n (i := 0) dL_law_1220 rfl ?_
  refine tr_iload (i := 5) dL_law_1221 rfl ?_
  refine tr_iconst (v := 2) dL_law_1223 (by decide +kernel) ?_
  refine tr_iadd dL_law_1224 ?_
  refine tr_xld hL hxs dL_law_1225 (fun v151 => ?_)
  refine tr_aload_n (i := 0) dL_law_1226 rfl ?_
  refine tr_iload (i := 5) dL_law_1227 rfl ?_
  refine tr_iconst (v := 3) dL_law_1229 (by decide +kernel) ?_
  refine tr_iadd dL_law_1230 ?_
  refine tr_xld hL hxs dL_law_1231 (fun v152 => ?_)
  refine tr_aload_n (i := 0) dL_law_1232 rfl ?_
  refine tr_iload (i := 5) dL_law_1233 rfl ?_
  refine tr_iconst (v := 4) dL_law_1235 (by decide +kernel) ?_
  refine tr_iadd dL_law_1236 ?_
  refine tr_xld hL hxs dL_law_1237 (fun v153 => ?_)
  refine tr_d_wi (ms_cV (rest := []) (al := [.int v150, .int v151, .int v152, .int v153]) 12 (sp_X12_box G hG (d - 1) (by omega) s149 493 v150 v151 v152 v153 kd_493) kd_493 (by decide +kernel) kl_L_199 fv_X12_box dL_law_1238 (show _ = some 4 by decide +kernel) (by omega) (Nat.le_of_ble_eq_true rfl) (by omega) (by omega)) (fun v154 s155 => ?_)
  refine tr_istore (lv' := [(0, .ref 700), (1, .ref 0), (2, .ref 493), (3, .ref 517), (4, .ref 518), (5, .int l5), (6, .int v148), (7, .int v154)]) [1, 2, 3, 4, 5, 6, 7, 0] dL_law_1241 (by decide) rfl ?_
  refine tr_aload_n (i := 2) dL_law_1243 rfl ?_
  refine tr_c_i (ms_cV (rest := []) (al := []) 12 (sp_X12_thrown G hG (d - 1) (by omega) s155 493 kd_493) kd_493 (by decide +kernel) kl_L_150 fv_X12_thrown dL_law_1244 (show _ = some 0 by decide +kernel) (by omega) (Nat.le_of_ble_eq_true rfl) (by omega) (by omega)) (fun v156 => ?_)
  refine tr_iload (i := 6) dL_law_1247 rfl ?_
  refine tr_iceq (o := none) (tgt := 1254) dL_law_1249 (by decide) ?_ ?_
  · refine tr_iload (i := 6) dL_law_1254 rfl ?_
    refine tr_ifne (o := none) (tgt := 1271) dL_law_1256 (by decide) ?_ ?_
    · refine tr_goto (tgt := 3017) dL_law_1271 (by decide) ?_
      refine tr_weak [0, 1, 2, 3, 4, 5] (lv' := [(0, .ref 700), (1, .ref 0), (2, .ref 493), (3, .ref 517), (4, .ref 518), (5, .int l5)]) rfl ?_
      exact tr_mono (by omega) (by omega) (hk s155 l5)
    · refine tr_aload_n (i := 3) dL_law_1259 rfl ?_
      refine tr_iconst (v := 0) dL_law_1260 (by decide +kernel) ?_
      refine tr_alj kd_517 dL_law_1261 (fun v157 => ?_)
      refine tr_iload (i := 7) dL_law_1262 rfl ?_
      refine tr_i2l dL_law_1264 ?_
      refine tr_lcmp dL_law_1265 ?_
      refine tr_ifeq (o := none) (tgt := 1271) dL_law_1266 (by decide) ?_ ?_
      · refine tr_goto (tgt := 3017) dL_law_1271 (by decide) ?_
        refine tr_weak [0, 1, 2, 3, 4, 5] (lv' := [(0, .ref 700), (1, .ref 0), (2, .ref 493), (3, .ref 517), (4, .ref 518), (5, .int l5)]) rfl ?_
        exact tr_mono (by omega) (by omega) (hk s155 l5)
      · refine tr_iconst (v := 0) dL_law_1269 (by decide +kernel) ?_
        exact tr_zret rfl (by decide +kernel) rfl (by omega) (by omega) dL_law_1270
  · refine tr_iconst (v := 0) dL_law_1252 (by decide +kernel) ?_
    exact tr_zret rfl (by decide +kernel) rfl (by omega) (by omega) dL_law_1253
def f_law_1274 (L : Nat) (xs : Nat → Int32) (k : MsSt → Int32 → Option (Int32 × MsSt)) (σ : MsSt) (l5 : Int32) : Option (Int32 × MsSt) :=
  (ms_xld L xs (l5 + 1)).bind fun v158 =>
  (ms_xld L xs (l5 + 2)).bind fun v159 =>
  ms_b2 (f_L_spellings σ v158 v159) fun v160 s161 =>
  (ms_xld L xs (l5 + 1)).bind fun v162 =>
  (ms_xld L xs (l5 + 2)).bind fun v163 =>
  ms_b2 (f_X12_spellings s161 493 v162 v163) fun v164 s165 =>
  (f_X12_thrown s165 493).bind fun v166 =>
  if v166 = v160 then
    if v160 = 0 then
      (ms_alj s165 517 0).bind fun v167 =>
      if (lg_cmp v167 v164) = 0 then
        k s165 l5
      else
        some (0, s165)
    else
      k s165 l5
  else
    some (0, s165)
set_option maxRecDepth 100000 in
theorem t_law_1274 (G : MG) (hG : (g_l G).stackTraces = false) (d : Nat) (hd : 36 ≤ d) (mc ms L : Nat) (xs : Nat → Int32) (hL : L = g_L G) (hxs : xs = g_xs G) (cu su : Nat) (hcu : cu + 4 ≤ mc) (hsu : su + 24 ≤ ms) (k : MsSt → Int32 → Option (Int32 × MsSt)) (hk : ∀ (s : MsSt) (x : Int32), TrO G mL_law d mc ms (cu + 4) (su + 24) ms_wi 3017 [(0, .ref 700), (1, .ref 0), (2, .ref 493), (3, .ref 517), (4, .ref 518), (5, .int x)] [] s (k s x)) (σ : MsSt) (l5 : Int32) : TrO G mL_law d mc ms cu su ms_wi 1274 [(0, .ref 700), (1, .ref 0), (2, .ref 493), (3, .ref 517), (4, .ref 518), (5, .int l5)] [] σ (f_law_1274 L xs k σ l5) := by
  show TrO G mL_law d mc ms cu su ms_wi 1274 [(0, .ref 700), (1, .ref 0), (2, .ref 493), (3, .ref 517), (4, .ref 518), (5, .int l5)] [] σ ((ms_xld L xs (l5 + 1)).bind fun v158 => (ms_xld L xs (l5 + 2)).bind fun v159 => ms_b2 (f_L_spellings σ v158 v159) fun v160 s161 => (ms_xld L xs (l5 + 1)).bind fun v162 => (ms_xld L xs (l5 + 2)).bind fun v163 => ms_b2 (f_X12_spellings s161 493 v162 v163) fun v164 s165 => (f_X12_thrown s165 493).bind fun v166 => if v166 = v160 then if v160 = 0 then (ms_alj s165 517 0).bind fun v167 => if (lg_cmp v167 v164) = 0 then k s165 l5 else some (0, s165) else k s165 l5 else some (0, s165))
  refine tr_aload_n (i := 1) dL_law_1274 rfl ?_
  refine tr_aload_n (i := 0) dL_law_1275 rfl ?_
  refine tr_iload (i := 5) dL_law_1276 rfl ?_
  refine tr_iconst (v := 1) dL_law_1278 (by decide +kernel) ?_
  refine tr_iadd dL_law_1279 ?_
  refine tr_xld hL hxs dL_law_1280 (fun v158 => ?_)
  refine tr_aload_n (i := 0) dL_law_1281 rfl ?_
  refine tr_iload (i := 5) dL_law_1282 rfl ?_
  refine tr_iconst (v := 2) dL_law_1284 (by decide +kernel) ?_
  refine tr_iadd dL_law_1285 ?_
  refine tr_xld hL hxs dL_law_1286 (fun v159 => ?_)
  refine tr_aload_n (i := 3) dL_law_1287 rfl ?_
  refine tr_d_wi (ms_cSW (rest := []) (al := [.ref 0, .int v158, .int v159, .ref 517]) (sp_L_spellings G hG (d - 1) (by omega) σ v158 v159) kl_L_200 fs_L_spellings dL_law_1288 (show _ = some 4 by decide +kernel) (by omega) (Nat.le_of_ble_eq_true rfl) (by omega) (by omega)) (fun v160 s161 => ?_)
  refine tr_istore (lv' := [(0, .ref 700), (1, .ref 0), (2, .ref 493), (3, .ref 517), (4, .ref 518), (5, .int l5), (6, .int v160)]) [1, 2, 3, 4, 5, 6, 0] dL_law_1291 (by decide) rfl ?_
  refine tr_aload_n (i := 2) dL_law_1293 rfl ?_
  refine tr_aload_n (i := 0) dL_law_1294 rfl ?_
  refine tr_iload (i := 5) dL_law_1295 rfl ?_
  refine tr_iconst (v := 1) dL_law_1297 (by decide +kernel) ?_
  refine tr_iadd dL_law_1298 ?_
  refine tr_xld hL hxs dL_law_1299 (fun v162 => ?_)
  refine tr_aload_n (i := 0) dL_law_1300 rfl ?_
  refine tr_iload (i := 5) dL_law_1301 rfl ?_
  refine tr_iconst (v := 2) dL_law_1303 (by decide +kernel) ?_
  refine tr_iadd dL_law_1304 ?_
  refine tr_xld hL hxs dL_law_1305 (fun v163 => ?_)
  refine tr_d_wj (ms_cV (rest := []) (al := [.int v162, .int v163]) 12 (sp_X12_spellings G hG (d - 1) (by omega) s161 493 v162 v163 kd_493) kd_493 (by decide +kernel) kl_L_202 fv_X12_spellings dL_law_1306 (show _ = some 2 by decide +kernel) (by omega) (Nat.le_of_ble_eq_true rfl) (by omega) (by omega)) (fun v164 s165 => ?_)
  refine tr_lstore (lv' := [(0, .ref 700), (1, .ref 0), (2, .ref 493), (3, .ref 517), (4, .ref 518), (5, .int l5), (6, .int v160), (7, .long v164)]) [1, 2, 3, 4, 5, 6, 7, 0] dL_law_1309 (by decide) rfl ?_
  refine tr_aload_n (i := 2) dL_law_1311 rfl ?_
  refine tr_c_i (ms_cV (rest := []) (al := []) 12 (sp_X12_thrown G hG (d - 1) (by omega) s165 493 kd_493) kd_493 (by decide +kernel) kl_L_150 fv_X12_thrown dL_law_1312 (show _ = some 0 by decide +kernel) (by omega) (Nat.le_of_ble_eq_true rfl) (by omega) (by omega)) (fun v166 => ?_)
  refine tr_iload (i := 6) dL_law_1315 rfl ?_
  refine tr_iceq (o := none) (tgt := 1322) dL_law_1317 (by decide) ?_ ?_
  · refine tr_iload (i := 6) dL_law_1322 rfl ?_
    refine tr_ifne (o := none) (tgt := 1338) dL_law_1324 (by decide) ?_ ?_
    · refine tr_goto (tgt := 3017) dL_law_1338 (by decide) ?_
      refine tr_weak [0, 1, 2, 3, 4, 5] (lv' := [(0, .ref 700), (1, .ref 0), (2, .ref 493), (3, .ref 517), (4, .ref 518), (5, .int l5)]) rfl ?_
      exact tr_mono (by omega) (by omega) (hk s165 l5)
    · refine tr_aload_n (i := 3) dL_law_1327 rfl ?_
      refine tr_iconst (v := 0) dL_law_1328 (by decide +kernel) ?_
      refine tr_alj kd_517 dL_law_1329 (fun v167 => ?_)
      refine tr_lload (i := 7) dL_law_1330 rfl ?_
      refine tr_lcmp dL_law_1332 ?_
      refine tr_ifeq (o := none) (tgt := 1338) dL_law_1333 (by decide) ?_ ?_
      · refine tr_goto (tgt := 3017) dL_law_1338 (by decide) ?_
        refine tr_weak [0, 1, 2, 3, 4, 5] (lv' := [(0, .ref 700), (1, .ref 0), (2, .ref 493), (3, .ref 517), (4, .ref 518), (5, .int l5)]) rfl ?_
        exact tr_mono (by omega) (by omega) (hk s165 l5)
      · refine tr_iconst (v := 0) dL_law_1336 (by decide +kernel) ?_
        exact tr_zret rfl (by decide +kernel) rfl (by omega) (by omega) dL_law_1337
  · refine tr_iconst (v := 0) dL_law_1320 (by decide +kernel) ?_
    exact tr_zret rfl (by decide +kernel) rfl (by omega) (by omega) dL_law_1321
def f_law_1341 (L : Nat) (xs : Nat → Int32) (k : MsSt → Int32 → Option (Int32 × MsSt)) (σ : MsSt) (l5 : Int32) : Option (Int32 × MsSt) :=
  (ms_xld L xs (l5 + 1)).bind fun v168 =>
  (ms_xld L xs (l5 + 2)).bind fun v169 =>
  ms_b2 (f_L_clashes σ v168 v169) fun v170 s171 =>
  (ms_xld L xs (l5 + 1)).bind fun v172 =>
  (ms_xld L xs (l5 + 2)).bind fun v173 =>
  ms_b2 (f_X12_clashes s171 493 v172 v173) fun v174 s175 =>
  (f_X12_thrown s175 493).bind fun v176 =>
  if v176 = v170 then
    if v170 = 0 then
      (ms_alj s175 517 0).bind fun v177 =>
      if v174 = 0 then
        if (lg_cmp v177 0) = 0 then
          k s175 l5
        else
          some (0, s175)
      else
        if (lg_cmp v177 1) = 0 then
          k s175 l5
        else
          some (0, s175)
    else
      k s175 l5
  else
    some (0, s175)
set_option maxRecDepth 100000 in
theorem t_law_1341 (G : MG) (hG : (g_l G).stackTraces = false) (d : Nat) (hd : 36 ≤ d) (mc ms L : Nat) (xs : Nat → Int32) (hL : L = g_L G) (hxs : xs = g_xs G) (cu su : Nat) (hcu : cu + 4 ≤ mc) (hsu : su + 24 ≤ ms) (k : MsSt → Int32 → Option (Int32 × MsSt)) (hk : ∀ (s : MsSt) (x : Int32), TrO G mL_law d mc ms (cu + 4) (su + 24) ms_wi 3017 [(0, .ref 700), (1, .ref 0), (2, .ref 493), (3, .ref 517), (4, .ref 518), (5, .int x)] [] s (k s x)) (σ : MsSt) (l5 : Int32) : TrO G mL_law d mc ms cu su ms_wi 1341 [(0, .ref 700), (1, .ref 0), (2, .ref 493), (3, .ref 517), (4, .ref 518), (5, .int l5)] [] σ (f_law_1341 L xs k σ l5) := by
  show TrO G mL_law d mc ms cu su ms_wi 1341 [(0, .ref 700), (1, .ref 0), (2, .ref 493), (3, .ref 517), (4, .ref 518), (5, .int l5)] [] σ ((ms_xld L xs (l5 + 1)).bind fun v168 => (ms_xld L xs (l5 + 2)).bind fun v169 => ms_b2 (f_L_clashes σ v168 v169) fun v170 s171 => (ms_xld L xs (l5 + 1)).bind fun v172 => (ms_xld L xs (l5 + 2)).bind fun v173 => ms_b2 (f_X12_clashes s171 493 v172 v173) fun v174 s175 => (f_X12_thrown s175 493).bind fun v176 => if v176 = v170 then if v170 = 0 then (ms_alj s175 517 0).bind fun v177 => if v174 = 0 then if (lg_cmp v177 0) = 0 then k s175 l5 else some (0, s175) else if (lg_cmp v177 1) = 0 then k s175 l5 else some (0, s175) else k s175 l5 else some (0, s175))
  refine tr_aload_n (i := 1) dL_law_1341 rfl ?_
  refine tr_aload_n (i := 0) dL_law_1342 rfl ?_
  refine tr_iload (i := 5) dL_law_1343 rfl ?_
  refine tr_iconst (v := 1) dL_law_1345 (by decide +kernel) ?_
  refine tr_iadd dL_law_1346 ?_
  refine tr_xld hL hxs dL_law_1347 (fun v168 => ?_)
  refine tr_aload_n (i := 0) dL_law_1348 rfl ?_
  refine tr_iload (i := 5) dL_law_1349 rfl ?_
  refine tr_iconst (v := 2) dL_law_1351 (by decide +kernel) ?_
  refine tr_iadd dL_law_1352 ?_
  refine tr_xld hL hxs dL_law_1353 (fun v169 => ?_)
  refine tr_aload_n (i := 3) dL_law_1354 rfl ?_
  refine tr_d_wi (ms_cSW (rest := []) (al := [.ref 0, .int v168, .int v169, .ref 517]) (sp_L_clashes G hG (d - 1) (by omega) σ v168 v169) kl_L_203 fs_L_clashes dL_law_1355 (show _ = some 4 by decide +kernel) (by omega) (Nat.le_of_ble_eq_true rfl) (by omega) (by omega)) (fun v170 s171 => ?_)
  refine tr_istore (lv' := [(0, .ref 700), (1, .ref 0), (2, .ref 493), (3, .ref 517), (4, .ref 518), (5, .int l5), (6, .int v170)]) [1, 2, 3, 4, 5, 6, 0] dL_law_1358 (by decide) rfl ?_
  refine tr_aload_n (i := 2) dL_law_1360 rfl ?_
  refine tr_aload_n (i := 0) dL_law_1361 rfl ?_
  refine tr_iload (i := 5) dL_law_1362 rfl ?_
  refine tr_iconst (v := 1) dL_law_1364 (by decide +kernel) ?_
  refine tr_iadd dL_law_1365 ?_
  refine tr_xld hL hxs dL_law_1366 (fun v172 => ?_)
  refine tr_aload_n (i := 0) dL_law_1367 rfl ?_
  refine tr_iload (i := 5) dL_law_1368 rfl ?_
  refine tr_iconst (v := 2) dL_law_1370 (by decide +kernel) ?_
  refine tr_iadd dL_law_1371 ?_
  refine tr_xld hL hxs dL_law_1372 (fun v173 => ?_)
  refine tr_d_wi (ms_cV (rest := []) (al := [.int v172, .int v173]) 12 (sp_X12_clashes G hG (d - 1) (by omega) s171 493 v172 v173 kd_493) kd_493 (by decide +kernel) kl_L_205 fv_X12_clashes dL_law_1373 (show _ = some 2 by decide +kernel) (by omega) (Nat.le_of_ble_eq_true rfl) (by omega) (by omega)) (fun v174 s175 => ?_)
  refine tr_istore (lv' := [(0, .ref 700), (1, .ref 0), (2, .ref 493), (3, .ref 517), (4, .ref 518), (5, .int l5), (6, .int v170), (7, .int v174)]) [1, 2, 3, 4, 5, 6, 7, 0] dL_law_1376 (by decide) rfl ?_
  refine tr_aload_n (i := 2) dL_law_1378 rfl ?_
  refine tr_c_i (ms_cV (rest := []) (al := []) 12 (sp_X12_thrown G hG (d - 1) (by omega) s175 493 kd_493) kd_493 (by decide +kernel) kl_L_150 fv_X12_thrown dL_law_1379 (show _ = some 0 by decide +kernel) (by omega) (Nat.le_of_ble_eq_true rfl) (by omega) (by omega)) (fun v176 => ?_)
  refine tr_iload (i := 6) dL_law_1382 rfl ?_
  refine tr_iceq (o := none) (tgt := 1389) dL_law_1384 (by decide) ?_ ?_
  · refine tr_iload (i := 6) dL_law_1389 rfl ?_
    refine tr_ifne (o := none) (tgt := 1413) dL_law_1391 (by decide) ?_ ?_
    · refine tr_goto (tgt := 3017) dL_law_1413 (by decide) ?_
      refine tr_weak [0, 1, 2, 3, 4, 5] (lv' := [(0, .ref 700), (1, .ref 0), (2, .ref 493), (3, .ref 517), (4, .ref 518), (5, .int l5)]) rfl ?_
      exact tr_mono (by omega) (by omega) (hk s175 l5)
    · refine tr_aload_n (i := 3) dL_law_1394 rfl ?_
      refine tr_iconst (v := 0) dL_law_1395 (by decide +kernel) ?_
      refine tr_alj kd_517 dL_law_1396 (fun v177 => ?_)
      refine tr_iload (i := 7) dL_law_1397 rfl ?_
      refine tr_ifeq (o := none) (tgt := 1406) dL_law_1399 (by decide) ?_ ?_
      · refine tr_lconst (v := 0) dL_law_1406 (by decide +kernel) ?_
        refine tr_lcmp dL_law_1407 ?_
        refine tr_ifeq (o := none) (tgt := 1413) dL_law_1408 (by decide) ?_ ?_
        · refine tr_goto (tgt := 3017) dL_law_1413 (by decide) ?_
          refine tr_weak [0, 1, 2, 3, 4, 5] (lv' := [(0, .ref 700), (1, .ref 0), (2, .ref 493), (3, .ref 517), (4, .ref 518), (5, .int l5)]) rfl ?_
          exact tr_mono (by omega) (by omega) (hk s175 l5)
        · refine tr_iconst (v := 0) dL_law_1411 (by decide +kernel) ?_
          exact tr_zret rfl (by decide +kernel) rfl (by omega) (by omega) dL_law_1412
      · refine tr_lconst (v := 1) dL_law_1402 (by decide +kernel) ?_
        refine tr_goto (tgt := 1407) dL_law_1403 (by decide) ?_
        refine tr_lcmp dL_law_1407 ?_
        refine tr_ifeq (o := none) (tgt := 1413) dL_law_1408 (by decide) ?_ ?_
        · refine tr_goto (tgt := 3017) dL_law_1413 (by decide) ?_
          refine tr_weak [0, 1, 2, 3, 4, 5] (lv' := [(0, .ref 700), (1, .ref 0), (2, .ref 493), (3, .ref 517), (4, .ref 518), (5, .int l5)]) rfl ?_
          exact tr_mono (by omega) (by omega) (hk s175 l5)
        · refine tr_iconst (v := 0) dL_law_1411 (by decide +kernel) ?_
          exact tr_zret rfl (by decide +kernel) rfl (by omega) (by omega) dL_law_1412
  · refine tr_iconst (v := 0) dL_law_1387 (by decide +kernel) ?_
    exact tr_zret rfl (by decide +kernel) rfl (by omega) (by omega) dL_law_1388
def f_law_1416 (L : Nat) (xs : Nat → Int32) (k : MsSt → Int32 → Option (Int32 × MsSt)) (σ : MsSt) (l5 : Int32) : Option (Int32 × MsSt) :=
  (ms_xld L xs (l5 + 1)).bind fun v178 =>
  ms_b2 (f_L_fullest σ v178) fun v179 s180 =>
  (ms_xld L xs (l5 + 1)).bind fun v181 =>
  ms_b2 (f_X12_fullest s180 493 v181) fun v182 s183 =>
  (f_X12_thrown s183 493).bind fun v184 =>
  if v184 = v179 then
    if v179 = 0 then
      (ms_alj s183 517 0).bind fun v185 =>
      if (lg_cmp v185 v182.toInt64) = 0 then
        k s183 l5
      else
        some (0, s183)
    else
      k s183 l5
  else
    some (0, s183)
set_option maxRecDepth 100000 in
theorem t_law_1416 (G : MG) (hG : (g_l G).stackTraces = false) (d : Nat) (hd : 36 ≤ d) (mc ms L : Nat) (xs : Nat → Int32) (hL : L = g_L G) (hxs : xs = g_xs G) (cu su : Nat) (hcu : cu + 4 ≤ mc) (hsu : su + 24 ≤ ms) (k : MsSt → Int32 → Option (Int32 × MsSt)) (hk : ∀ (s : MsSt) (x : Int32), TrO G mL_law d mc ms (cu + 4) (su + 24) ms_wi 3017 [(0, .ref 700), (1, .ref 0), (2, .ref 493), (3, .ref 517), (4, .ref 518), (5, .int x)] [] s (k s x)) (σ : MsSt) (l5 : Int32) : TrO G mL_law d mc ms cu su ms_wi 1416 [(0, .ref 700), (1, .ref 0), (2, .ref 493), (3, .ref 517), (4, .ref 518), (5, .int l5)] [] σ (f_law_1416 L xs k σ l5) := by
  show TrO G mL_law d mc ms cu su ms_wi 1416 [(0, .ref 700), (1, .ref 0), (2, .ref 493), (3, .ref 517), (4, .ref 518), (5, .int l5)] [] σ ((ms_xld L xs (l5 + 1)).bind fun v178 => ms_b2 (f_L_fullest σ v178) fun v179 s180 => (ms_xld L xs (l5 + 1)).bind fun v181 => ms_b2 (f_X12_fullest s180 493 v181) fun v182 s183 => (f_X12_thrown s183 493).bind fun v184 => if v184 = v179 then if v179 = 0 then (ms_alj s183 517 0).bind fun v185 => if (lg_cmp v185 v182.toInt64) = 0 then k s183 l5 else some (0, s183) else k s183 l5 else some (0, s183))
  refine tr_aload_n (i := 1) dL_law_1416 rfl ?_
  refine tr_aload_n (i := 0) dL_law_1417 rfl ?_
  refine tr_iload (i := 5) dL_law_1418 rfl ?_
  refine tr_iconst (v := 1) dL_law_1420 (by decide +kernel) ?_
  refine tr_iadd dL_law_1421 ?_
  refine tr_xld hL hxs dL_law_1422 (fun v178 => ?_)
  refine tr_aload_n (i := 3) dL_law_1423 rfl ?_
  refine tr_d_wi (ms_cSW (rest := []) (al := [.ref 0, .int v178, .ref 517]) (sp_L_fullest G hG (d - 1) (by omega) σ v178) kl_L_206 fs_L_fullest dL_law_1424 (show _ = some 3 by decide +kernel) (by omega) (Nat.le_of_ble_eq_true rfl) (by omega) (by omega)) (fun v179 s180 => ?_)
  refine tr_istore (lv' := [(0, .ref 700), (1, .ref 0), (2, .ref 493), (3, .ref 517), (4, .ref 518), (5, .int l5), (6, .int v179)]) [1, 2, 3, 4, 5, 6, 0] dL_law_1427 (by decide) rfl ?_
  refine tr_aload_n (i := 2) dL_law_1429 rfl ?_
  refine tr_aload_n (i := 0) dL_law_1430 rfl ?_
  refine tr_iload (i := 5) dL_law_1431 rfl ?_
  refine tr_iconst (v := 1) dL_law_1433 (by decide +kernel) ?_
  refine tr_iadd dL_law_1434 ?_
  refine tr_xld hL hxs dL_law_1435 (fun v181 => ?_)
  refine tr_d_wi (ms_cV (rest := []) (al := [.int v181]) 12 (sp_X12_fullest G hG (d - 1) (by omega) s180 493 v181 kd_493) kd_493 (by decide +kernel) kl_L_208 fv_X12_fullest dL_law_1436 (show _ = some 1 by decide +kernel) (by omega) (Nat.le_of_ble_eq_true rfl) (by omega) (by omega)) (fun v182 s183 => ?_)
  refine tr_istore (lv' := [(0, .ref 700), (1, .ref 0), (2, .ref 493), (3, .ref 517), (4, .ref 518), (5, .int l5), (6, .int v179), (7, .int v182)]) [1, 2, 3, 4, 5, 6, 7, 0] dL_law_1439 (by decide) rfl ?_
  refine tr_aload_n (i := 2) dL_law_1441 rfl ?_
  refine tr_c_i (ms_cV (rest := []) (al := []) 12 (sp_X12_thrown G hG (d - 1) (by omega) s183 493 kd_493) kd_493 (by decide +kernel) kl_L_150 fv_X12_thrown dL_law_1442 (show _ = some 0 by decide +kernel) (by omega) (Nat.le_of_ble_eq_true rfl) (by omega) (by omega)) (fun v184 => ?_)
  refine tr_iload (i := 6) dL_law_1445 rfl ?_
  refine tr_iceq (o := none) (tgt := 1452) dL_law_1447 (by decide) ?_ ?_
  · refine tr_iload (i := 6) dL_law_1452 rfl ?_
    refine tr_ifne (o := none) (tgt := 1469) dL_law_1454 (by decide) ?_ ?_
    · refine tr_goto (tgt := 3017) dL_law_1469 (by decide) ?_
      refine tr_weak [0, 1, 2, 3, 4, 5] (lv' := [(0, .ref 700), (1, .ref 0), (2, .ref 493), (3, .ref 517), (4, .ref 518), (5, .int l5)]) rfl ?_
      exact tr_mono (by omega) (by omega) (hk s183 l5)
    · refine tr_aload_n (i := 3) dL_law_1457 rfl ?_
      refine tr_iconst (v := 0) dL_law_1458 (by decide +kernel) ?_
      refine tr_alj kd_517 dL_law_1459 (fun v185 => ?_)
      refine tr_iload (i := 7) dL_law_1460 rfl ?_
      refine tr_i2l dL_law_1462 ?_
      refine tr_lcmp dL_law_1463 ?_
      refine tr_ifeq (o := none) (tgt := 1469) dL_law_1464 (by decide) ?_ ?_
      · refine tr_goto (tgt := 3017) dL_law_1469 (by decide) ?_
        refine tr_weak [0, 1, 2, 3, 4, 5] (lv' := [(0, .ref 700), (1, .ref 0), (2, .ref 493), (3, .ref 517), (4, .ref 518), (5, .int l5)]) rfl ?_
        exact tr_mono (by omega) (by omega) (hk s183 l5)
      · refine tr_iconst (v := 0) dL_law_1467 (by decide +kernel) ?_
        exact tr_zret rfl (by decide +kernel) rfl (by omega) (by omega) dL_law_1468
  · refine tr_iconst (v := 0) dL_law_1450 (by decide +kernel) ?_
    exact tr_zret rfl (by decide +kernel) rfl (by omega) (by omega) dL_law_1451
def f_law_1472 (L : Nat) (xs : Nat → Int32) (k : MsSt → Int32 → Option (Int32 × MsSt)) (σ : MsSt) (l5 : Int32) : Option (Int32 × MsSt) :=
  (ms_xld L xs (l5 + 1)).bind fun v186 =>
  (ms_xld L xs (l5 + 2)).bind fun v187 =>
  ms_b2 (f_L_compare σ v186 v187) fun v188 s189 =>
  (ms_xld L xs (l5 + 1)).bind fun v190 =>
  (ms_xld L xs (l5 + 2)).bind fun v191 =>
  ms_b2 (f_X12_compare s189 493 v190 v191) fun v192 s193 =>
  (f_X12_thrown s193 493).bind fun v194 =>
  if v194 = v188 then
    if v188 = 0 then
      (ms_alj s193 517 0).bind fun v195 =>
      if (lg_cmp v195 v192.toInt64) = 0 then
        k s193 l5
      else
        some (0, s193)
    else
      k s193 l5
  else
    some (0, s193)
set_option maxRecDepth 100000 in
theorem t_law_1472 (G : MG) (hG : (g_l G).stackTraces = false) (d : Nat) (hd : 36 ≤ d) (mc ms L : Nat) (xs : Nat → Int32) (hL : L = g_L G) (hxs : xs = g_xs G) (cu su : Nat) (hcu : cu + 4 ≤ mc) (hsu : su + 24 ≤ ms) (k : MsSt → Int32 → Option (Int32 × MsSt)) (hk : ∀ (s : MsSt) (x : Int32), TrO G mL_law d mc ms (cu + 4) (su + 24) ms_wi 3017 [(0, .ref 700), (1, .ref 0), (2, .ref 493), (3, .ref 517), (4, .ref 518), (5, .int x)] [] s (k s x)) (σ : MsSt) (l5 : Int32) : TrO G mL_law d mc ms cu su ms_wi 1472 [(0, .ref 700), (1, .ref 0), (2, .ref 493), (3, .ref 517), (4, .ref 518), (5, .int l5)] [] σ (f_law_1472 L xs k σ l5) := by
  show TrO G mL_law d mc ms cu su ms_wi 1472 [(0, .ref 700), (1, .ref 0), (2, .ref 493), (3, .ref 517), (4, .ref 518), (5, .int l5)] [] σ ((ms_xld L xs (l5 + 1)).bind fun v186 => (ms_xld L xs (l5 + 2)).bind fun v187 => ms_b2 (f_L_compare σ v186 v187) fun v188 s189 => (ms_xld L xs (l5 + 1)).bind fun v190 => (ms_xld L xs (l5 + 2)).bind fun v191 => ms_b2 (f_X12_compare s189 493 v190 v191) fun v192 s193 => (f_X12_thrown s193 493).bind fun v194 => if v194 = v188 then if v188 = 0 then (ms_alj s193 517 0).bind fun v195 => if (lg_cmp v195 v192.toInt64) = 0 then k s193 l5 else some (0, s193) else k s193 l5 else some (0, s193))
  refine tr_aload_n (i := 1) dL_law_1472 rfl ?_
  refine tr_aload_n (i := 0) dL_law_1473 rfl ?_
  refine tr_iload (i := 5) dL_law_1474 rfl ?_
  refine tr_iconst (v := 1) dL_law_1476 (by decide +kernel) ?_
  refine tr_iadd dL_law_1477 ?_
  refine tr_xld hL hxs dL_law_1478 (fun v186 => ?_)
  refine tr_aload_n (i := 0) dL_law_1479 rfl ?_
  refine tr_iload (i := 5) dL_law_1480 rfl ?_
  refine tr_iconst (v := 2) dL_law_1482 (by decide +kernel) ?_
  refine tr_iadd dL_law_1483 ?_
  refine tr_xld hL hxs dL_law_1484 (fun v187 => ?_)
  refine tr_aload_n (i := 3) dL_law_1485 rfl ?_
  refine tr_d_wi (ms_cSW (rest := []) (al := [.ref 0, .int v186, .int v187, .ref 517]) (sp_L_compare G hG (d - 1) (by omega) σ v186 v187) kl_L_209 fs_L_compare dL_law_1486 (show _ = some 4 by decide +kernel) (by omega) (Nat.le_of_ble_eq_true rfl) (by omega) (by omega)) (fun v188 s189 => ?_)
  refine tr_istore (lv' := [(0, .ref 700), (1, .ref 0), (2, .ref 493), (3, .ref 517), (4, .ref 518), (5, .int l5), (6, .int v188)]) [1, 2, 3, 4, 5, 6, 0] dL_law_1489 (by decide) rfl ?_
  refine tr_aload_n (i := 2) dL_law_1491 rfl ?_
  refine tr_aload_n (i := 0) dL_law_1492 rfl ?_
  refine tr_iload (i := 5) dL_law_1493 rfl ?_
  refine tr_iconst (v := 1) dL_law_1495 (by decide +kernel) ?_
  refine tr_iadd dL_law_1496 ?_
  refine tr_xld hL hxs dL_law_1497 (fun v190 => ?_)
  refine tr_aload_n (i := 0) dL_law_1498 rfl ?_
  refine tr_iload (i := 5) dL_law_1499 rfl ?_
  refine tr_iconst (v := 2) dL_law_1501 (by decide +kernel) ?_
  refine tr_iadd dL_law_1502 ?_
  refine tr_xld hL hxs dL_law_1503 (fun v191 => ?_)
  refine tr_d_wi (ms_cV (rest := []) (al := [.int v190, .int v191]) 12 (sp_X12_compare G hG (d - 1) (by omega) s189 493 v190 v191 kd_493) kd_493 (by decide +kernel) kl_L_211 fv_X12_compare dL_law_1504 (show _ = some 2 by decide +kernel) (by omega) (Nat.le_of_ble_eq_true rfl) (by omega) (by omega)) (fun v192 s193 => ?_)
  refine tr_istore (lv' := [(0, .ref 700), (1, .ref 0), (2, .ref 493), (3, .ref 517), (4, .ref 518), (5, .int l5), (6, .int v188), (7, .int v192)]) [1, 2, 3, 4, 5, 6, 7, 0] dL_law_1507 (by decide) rfl ?_
  refine tr_aload_n (i := 2) dL_law_1509 rfl ?_
  refine tr_c_i (ms_cV (rest := []) (al := []) 12 (sp_X12_thrown G hG (d - 1) (by omega) s193 493 kd_493) kd_493 (by decide +kernel) kl_L_150 fv_X12_thrown dL_law_1510 (show _ = some 0 by decide +kernel) (by omega) (Nat.le_of_ble_eq_true rfl) (by omega) (by omega)) (fun v194 => ?_)
  refine tr_iload (i := 6) dL_law_1513 rfl ?_
  refine tr_iceq (o := none) (tgt := 1520) dL_law_1515 (by decide) ?_ ?_
  · refine tr_iload (i := 6) dL_law_1520 rfl ?_
    refine tr_ifne (o := none) (tgt := 1537) dL_law_1522 (by decide) ?_ ?_
    · refine tr_goto (tgt := 3017) dL_law_1537 (by decide) ?_
      refine tr_weak [0, 1, 2, 3, 4, 5] (lv' := [(0, .ref 700), (1, .ref 0), (2, .ref 493), (3, .ref 517), (4, .ref 518), (5, .int l5)]) rfl ?_
      exact tr_mono (by omega) (by omega) (hk s193 l5)
    · refine tr_aload_n (i := 3) dL_law_1525 rfl ?_
      refine tr_iconst (v := 0) dL_law_1526 (by decide +kernel) ?_
      refine tr_alj kd_517 dL_law_1527 (fun v195 => ?_)
      refine tr_iload (i := 7) dL_law_1528 rfl ?_
      refine tr_i2l dL_law_1530 ?_
      refine tr_lcmp dL_law_1531 ?_
      refine tr_ifeq (o := none) (tgt := 1537) dL_law_1532 (by decide) ?_ ?_
      · refine tr_goto (tgt := 3017) dL_law_1537 (by decide) ?_
        refine tr_weak [0, 1, 2, 3, 4, 5] (lv' := [(0, .ref 700), (1, .ref 0), (2, .ref 493), (3, .ref 517), (4, .ref 518), (5, .int l5)]) rfl ?_
        exact tr_mono (by omega) (by omega) (hk s193 l5)
      · refine tr_iconst (v := 0) dL_law_1535 (by decide +kernel) ?_
        exact tr_zret rfl (by decide +kernel) rfl (by omega) (by omega) dL_law_1536
  · refine tr_iconst (v := 0) dL_law_1518 (by decide +kernel) ?_
    exact tr_zret rfl (by decide +kernel) rfl (by omega) (by omega) dL_law_1519
def f_law_1540 (L : Nat) (xs : Nat → Int32) (k : MsSt → Int32 → Option (Int32 × MsSt)) (σ : MsSt) (l5 : Int32) : Option (Int32 × MsSt) :=
  (ms_xld L xs (l5 + 1)).bind fun v196 =>
  (ms_xld L xs (l5 + 2)).bind fun v197 =>
  ms_b2 (f_L_areBare σ v196 v197) fun v198 s199 =>
  (ms_xld L xs (l5 + 1)).bind fun v200 =>
  (ms_xld L xs (l5 + 2)).bind fun v201 =>
  ms_b2 (f_X12_areBare s199 493 v200 v201) fun v202 s203 =>
  (f_X12_thrown s203 493).bind fun v204 =>
  if v204 = v198 then
    if v198 = 0 then
      (ms_alj s203 517 0).bind fun v205 =>
      if v202 = 0 then
        if (lg_cmp v205 0) = 0 then
          k s203 l5
        else
          some (0, s203)
      else
        if (lg_cmp v205 1) = 0 then
          k s203 l5
        else
          some (0, s203)
    else
      k s203 l5
  else
    some (0, s203)
set_option maxRecDepth 100000 in
theorem t_law_1540 (G : MG) (hG : (g_l G).stackTraces = false) (d : Nat) (hd : 36 ≤ d) (mc ms L : Nat) (xs : Nat → Int32) (hL : L = g_L G) (hxs : xs = g_xs G) (cu su : Nat) (hcu : cu + 4 ≤ mc) (hsu : su + 24 ≤ ms) (k : MsSt → Int32 → Option (Int32 × MsSt)) (hk : ∀ (s : MsSt) (x : Int32), TrO G mL_law d mc ms (cu + 4) (su + 24) ms_wi 3017 [(0, .ref 700), (1, .ref 0), (2, .ref 493), (3, .ref 517), (4, .ref 518), (5, .int x)] [] s (k s x)) (σ : MsSt) (l5 : Int32) : TrO G mL_law d mc ms cu su ms_wi 1540 [(0, .ref 700), (1, .ref 0), (2, .ref 493), (3, .ref 517), (4, .ref 518), (5, .int l5)] [] σ (f_law_1540 L xs k σ l5) := by
  show TrO G mL_law d mc ms cu su ms_wi 1540 [(0, .ref 700), (1, .ref 0), (2, .ref 493), (3, .ref 517), (4, .ref 518), (5, .int l5)] [] σ ((ms_xld L xs (l5 + 1)).bind fun v196 => (ms_xld L xs (l5 + 2)).bind fun v197 => ms_b2 (f_L_areBare σ v196 v197) fun v198 s199 => (ms_xld L xs (l5 + 1)).bind fun v200 => (ms_xld L xs (l5 + 2)).bind fun v201 => ms_b2 (f_X12_areBare s199 493 v200 v201) fun v202 s203 => (f_X12_thrown s203 493).bind fun v204 => if v204 = v198 then if v198 = 0 then (ms_alj s203 517 0).bind fun v205 => if v202 = 0 then if (lg_cmp v205 0) = 0 then k s203 l5 else some (0, s203) else if (lg_cmp v205 1) = 0 then k s203 l5 else some (0, s203) else k s203 l5 else some (0, s203))
  refine tr_aload_n (i := 1) dL_law_1540 rfl ?_
  refine tr_aload_n (i := 0) dL_law_1541 rfl ?_
  refine tr_iload (i := 5) dL_law_1542 rfl ?_
  refine tr_iconst (v := 1) dL_law_1544 (by decide +kernel) ?_
  refine tr_iadd dL_law_1545 ?_
  refine tr_xld hL hxs dL_law_1546 (fun v196 => ?_)
  refine tr_aload_n (i := 0) dL_law_1547 rfl ?_
  refine tr_iload (i := 5) dL_law_1548 rfl ?_
  refine tr_iconst (v := 2) dL_law_1550 (by decide +kernel) ?_
  refine tr_iadd dL_law_1551 ?_
  refine tr_xld hL hxs dL_law_1552 (fun v197 => ?_)
  refine tr_aload_n (i := 3) dL_law_1553 rfl ?_
  refine tr_d_wi (ms_cSW (rest := []) (al := [.ref 0, .int v196, .int v197, .ref 517]) (sp_L_areBare G hG (d - 1) (by omega) σ v196 v197) kl_L_212 fs_L_areBare dL_law_1554 (show _ = some 4 by decide +kernel) (by omega) (Nat.le_of_ble_eq_true rfl) (by omega) (by omega)) (fun v198 s199 => ?_)
  refine tr_istore (lv' := [(0, .ref 700), (1, .ref 0), (2, .ref 493), (3, .ref 517), (4, .ref 518), (5, .int l5), (6, .int v198)]) [1, 2, 3, 4, 5, 6, 0] dL_law_1557 (by decide) rfl ?_
  refine tr_aload_n (i := 2) dL_law_1559 rfl ?_
  refine tr_aload_n (i := 0) dL_law_1560 rfl ?_
  refine tr_iload (i := 5) dL_law_1561 rfl ?_
  refine tr_iconst (v := 1) dL_law_1563 (by decide +kernel) ?_
  refine tr_iadd dL_law_1564 ?_
  refine tr_xld hL hxs dL_law_1565 (fun v200 => ?_)
  refine tr_aload_n (i := 0) dL_law_1566 rfl ?_
  refine tr_iload (i := 5) dL_law_1567 rfl ?_
  refine tr_iconst (v := 2) dL_law_1569 (by decide +kernel) ?_
  refine tr_iadd dL_law_1570 ?_
  refine tr_xld hL hxs dL_law_1571 (fun v201 => ?_)
  refine tr_d_wi (ms_cV (rest := []) (al := [.int v200, .int v201]) 12 (sp_X12_areBare G hG (d - 1) (by omega) s199 493 v200 v201 kd_493) kd_493 (by decide +kernel) kl_L_214 fv_X12_areBare dL_law_1572 (show _ = some 2 by decide +kernel) (by omega) (Nat.le_of_ble_eq_true rfl) (by omega) (by omega)) (fun v202 s203 => ?_)
  refine tr_istore (lv' := [(0, .ref 700), (1, .ref 0), (2, .ref 493), (3, .ref 517), (4, .ref 518), (5, .int l5), (6, .int v198), (7, .int v202)]) [1, 2, 3, 4, 5, 6, 7, 0] dL_law_1575 (by decide) rfl ?_
  refine tr_aload_n (i := 2) dL_law_1577 rfl ?_
  refine tr_c_i (ms_cV (rest := []) (al := []) 12 (sp_X12_thrown G hG (d - 1) (by omega) s203 493 kd_493) kd_493 (by decide +kernel) kl_L_150 fv_X12_thrown dL_law_1578 (show _ = some 0 by decide +kernel) (by omega) (Nat.le_of_ble_eq_true rfl) (by omega) (by omega)) (fun v204 => ?_)
  refine tr_iload (i := 6) dL_law_1581 rfl ?_
  refine tr_iceq (o := none) (tgt := 1588) dL_law_1583 (by decide) ?_ ?_
  · refine tr_iload (i := 6) dL_law_1588 rfl ?_
    refine tr_ifne (o := none) (tgt := 1612) dL_law_1590 (by decide) ?_ ?_
    · refine tr_goto (tgt := 3017) dL_law_1612 (by decide) ?_
      refine tr_weak [0, 1, 2, 3, 4, 5] (lv' := [(0, .ref 700), (1, .ref 0), (2, .ref 493), (3, .ref 517), (4, .ref 518), (5, .int l5)]) rfl ?_
      exact tr_mono (by omega) (by omega) (hk s203 l5)
    · refine tr_aload_n (i := 3) dL_law_1593 rfl ?_
      refine tr_iconst (v := 0) dL_law_1594 (by decide +kernel) ?_
      refine tr_alj kd_517 dL_law_1595 (fun v205 => ?_)
      refine tr_iload (i := 7) dL_law_1596 rfl ?_
      refine tr_ifeq (o := none) (tgt := 1605) dL_law_1598 (by decide) ?_ ?_
      · refine tr_lconst (v := 0) dL_law_1605 (by decide +kernel) ?_
        refine tr_lcmp dL_law_1606 ?_
        refine tr_ifeq (o := none) (tgt := 1612) dL_law_1607 (by decide) ?_ ?_
        · refine tr_goto (tgt := 3017) dL_law_1612 (by decide) ?_
          refine tr_weak [0, 1, 2, 3, 4, 5] (lv' := [(0, .ref 700), (1, .ref 0), (2, .ref 493), (3, .ref 517), (4, .ref 518), (5, .int l5)]) rfl ?_
          exact tr_mono (by omega) (by omega) (hk s203 l5)
        · refine tr_iconst (v := 0) dL_law_1610 (by decide +kernel) ?_
          exact tr_zret rfl (by decide +kernel) rfl (by omega) (by omega) dL_law_1611
      · refine tr_lconst (v := 1) dL_law_1601 (by decide +kernel) ?_
        refine tr_goto (tgt := 1606) dL_law_1602 (by decide) ?_
        refine tr_lcmp dL_law_1606 ?_
        refine tr_ifeq (o := none) (tgt := 1612) dL_law_1607 (by decide) ?_ ?_
        · refine tr_goto (tgt := 3017) dL_law_1612 (by decide) ?_
          refine tr_weak [0, 1, 2, 3, 4, 5] (lv' := [(0, .ref 700), (1, .ref 0), (2, .ref 493), (3, .ref 517), (4, .ref 518), (5, .int l5)]) rfl ?_
          exact tr_mono (by omega) (by omega) (hk s203 l5)
        · refine tr_iconst (v := 0) dL_law_1610 (by decide +kernel) ?_
          exact tr_zret rfl (by decide +kernel) rfl (by omega) (by omega) dL_law_1611
  · refine tr_iconst (v := 0) dL_law_1586 (by decide +kernel) ?_
    exact tr_zret rfl (by decide +kernel) rfl (by omega) (by omega) dL_law_1587
def f_law_1615 (L : Nat) (xs : Nat → Int32) (k : MsSt → Int32 → Option (Int32 × MsSt)) (σ : MsSt) (l5 : Int32) : Option (Int32 × MsSt) :=
  (ms_xld L xs (l5 + 1)).bind fun v206 =>
  (ms_xld L xs (l5 + 2)).bind fun v207 =>
  (ms_xld L xs (l5 + 3)).bind fun v208 =>
  if v208 = 0 then
    ms_b2 (f_L_matches σ v206 v207 0) fun v209 s210 =>
    (ms_xld L xs (l5 + 1)).bind fun v211 =>
    (ms_xld L xs (l5 + 2)).bind fun v212 =>
    (ms_xld L xs (l5 + 3)).bind fun v213 =>
    if v213 = 0 then
      ms_b2 (f_X12_matches s210 493 v211 v212 0) fun v214 s215 =>
      (f_X12_thrown s215 493).bind fun v216 =>
      if v216 = v209 then
        if v209 = 0 then
          (ms_alj s215 517 0).bind fun v217 =>
          if (lg_cmp v217 v214.toInt64) = 0 then
            k s215 l5
          else
            some (0, s215)
        else
          k s215 l5
      else
        some (0, s215)
    else
      ms_b2 (f_X12_matches s210 493 v211 v212 1) fun v218 s219 =>
      (f_X12_thrown s219 493).bind fun v220 =>
      if v220 = v209 then
        if v209 = 0 then
          (ms_alj s219 517 0).bind fun v221 =>
          if (lg_cmp v221 v218.toInt64) = 0 then
            k s219 l5
          else
            some (0, s219)
        else
          k s219 l5
      else
        some (0, s219)
  else
    ms_b2 (f_L_matches σ v206 v207 1) fun v222 s223 =>
    (ms_xld L xs (l5 + 1)).bind fun v224 =>
    (ms_xld L xs (l5 + 2)).bind fun v225 =>
    (ms_xld L xs (l5 + 3)).bind fun v226 =>
    if v226 = 0 then
      ms_b2 (f_X12_matches s223 493 v224 v225 0) fun v227 s228 =>
      (f_X12_thrown s228 493).bind fun v229 =>
      if v229 = v222 then
        if v222 = 0 then
          (ms_alj s228 517 0).bind fun v230 =>
          if (lg_cmp v230 v227.toInt64) = 0 then
            k s228 l5
          else
            some (0, s228)
        else
          k s228 l5
      else
        some (0, s228)
    else
      ms_b2 (f_X12_matches s223 493 v224 v225 1) fun v231 s232 =>
      (f_X12_thrown s232 493).bind fun v233 =>
      if v233 = v222 then
        if v222 = 0 then
          (ms_alj s232 517 0).bind fun v234 =>
          if (lg_cmp v234 v231.toInt64) = 0 then
            k s232 l5
          else
            some (0, s232)
        else
          k s232 l5
      else
        some (0, s232)
set_option maxRecDepth 100000 in
theorem t_law_1615 (G : MG) (hG : (g_l G).stackTraces = false) (d : Nat) (hd : 36 ≤ d) (mc ms L : Nat) (xs : Nat → Int32) (hL : L = g_L G) (hxs : xs = g_xs G) (cu su : Nat) (hcu : cu + 4 ≤ mc) (hsu : su + 24 ≤ ms) (k : MsSt → Int32 → Option (Int32 × MsSt)) (hk : ∀ (s : MsSt) (x : Int32), TrO G mL_law d mc ms (cu + 4) (su + 24) ms_wi 3017 [(0, .ref 700), (1, .ref 0), (2, .ref 493), (3, .ref 517), (4, .ref 518), (5, .int x)] [] s (k s x)) (σ : MsSt) (l5 : Int32) : TrO G mL_law d mc ms cu su ms_wi 1615 [(0, .ref 700), (1, .ref 0), (2, .ref 493), (3, .ref 517), (4, .ref 518), (5, .int l5)] [] σ (f_law_1615 L xs k σ l5) := by
  show TrO G mL_law d mc ms cu su ms_wi 1615 [(0, .ref 700), (1, .ref 0), (2, .ref 493), (3, .ref 517), (4, .ref 518), (5, .int l5)] [] σ ((ms_xld L xs (l5 + 1)).bind fun v206 => (ms_xld L xs (l5 + 2)).bind fun v207 => (ms_xld L xs (l5 + 3)).bind fun v208 => if v208 = 0 then ms_b2 (f_L_matches σ v206 v207 0) fun v209 s210 => (ms_xld L xs (l5 + 1)).bind fun v211 => (ms_xld L xs (l5 + 2)).bind fun v212 => (ms_xld L xs (l5 + 3)).bind fun v213 => if v213 = 0 then ms_b2 (f_X12_matches s210 493 v211 v212 0) fun v214 s215 => (f_X12_thrown s215 493).bind fun v216 => if v216 = v209 then if v209 = 0 then (ms_alj s215 517 0).bind fun v217 => if (lg_cmp v217 v214.toInt64) = 0 then k s215 l5 else some (0, s215) else k s215 l5 else some (0, s215) else ms_b2 (f_X12_matches s210 493 v211 v212 1) fun v218 s219 => (f_X12_thrown s219 493).bind fun v220 => if v220 = v209 then if v209 = 0 then (ms_alj s219 517 0).bind fun v221 => if (lg_cmp v221 v218.toInt64) = 0 then k s219 l5 else some (0, s219) else k s219 l5 else some (0, s219) else ms_b2 (f_L_matches σ v206 v207 1) fun v222 s223 => (ms_xld L xs (l5 + 1)).bind fun v224 => (ms_xld L xs (l5 + 2)).bind fun v225 => (ms_xld L xs (l5 + 3)).bind fun v226 => if v226 = 0 then ms_b2 (f_X12_matches s223 493 v224 v225 0) fun v227 s228 => (f_X12_thrown s228 493).bind fun v229 => if v229 = v222 then if v222 = 0 then (ms_alj s228 517 0).bind fun v230 => if (lg_cmp v230 v227.toInt64) = 0 then k s228 l5 else some (0, s228) else k s228 l5 else some (0, s228) else ms_b2 (f_X12_matches s223 493 v224 v225 1) fun v231 s232 => (f_X12_thrown s232 493).bind fun v233 => if v233 = v222 then if v222 = 0 then (ms_alj s232 517 0).bind fun v234 => if (lg_cmp v234 v231.toInt64) = 0 then k s232 l5 else some (0, s232) else k s232 l5 else some (0, s232))
  refine tr_aload_n (i := 1) dL_law_1615 rfl ?_
  refine tr_aload_n (i := 0) dL_law_1616 rfl ?_
  refine tr_iload (i := 5) dL_law_1617 rfl ?_
  refine tr_iconst (v := 1) dL_law_1619 (by decide +kernel) ?_
  refine tr_iadd dL_law_1620 ?_
  refine tr_xld hL hxs dL_law_1621 (fun v206 => ?_)
  refine tr_aload_n (i := 0) dL_law_1622 rfl ?_
  refine tr_iload (i := 5) dL_law_1623 rfl ?_
  refine tr_iconst (v := 2) dL_law_1625 (by decide +kernel) ?_
  refine tr_iadd dL_law_1626 ?_
  refine tr_xld hL hxs dL_law_1627 (fun v207 => ?_)
  refine tr_aload_n (i := 0) dL_law_1628 rfl ?_
  refine tr_iload (i := 5) dL_law_1629 rfl ?_
  refine tr_iconst (v := 3) dL_law_1631 (by decide +kernel) ?_
  refine tr_iadd dL_law_1632 ?_
  refine tr_xld hL hxs dL_law_1633 (fun v208 => ?_)
  refine tr_ifeq (o := none) (tgt := 1641) dL_law_1634 (by decide) ?_ ?_
  · refine tr_iconst (v := 0) dL_law_1641 (by decide +kernel) ?_
    refine tr_aload_n (i := 3) dL_law_1642 rfl ?_
    refine tr_d_wi (ms_cSW (rest := []) (al := [.ref 0, .int v206, .int v207, .int 0, .ref 517]) (sp_L_matches G hG (d - 1) (by omega) σ v206 v207 0) kl_L_215 fs_L_matches dL_law_1643 (show _ = some 5 by decide +kernel) (by omega) (Nat.le_of_ble_eq_true rfl) (by omega) (by omega)) (fun v209 s210 => ?_)
    refine tr_istore (lv' := [(0, .ref 700), (1, .ref 0), (2, .ref 493), (3, .ref 517), (4, .ref 518), (5, .int l5), (6, .int v209)]) [1, 2, 3, 4, 5, 6, 0] dL_law_1646 (by decide) rfl ?_
    refine tr_aload_n (i := 2) dL_law_1648 rfl ?_
    refine tr_aload_n (i := 0) dL_law_1649 rfl ?_
    refine tr_iload (i := 5) dL_law_1650 rfl ?_
    refine tr_iconst (v := 1) dL_law_1652 (by decide +kernel) ?_
    refine tr_iadd dL_law_1653 ?_
    refine tr_xld hL hxs dL_law_1654 (fun v211 => ?_)
    refine tr_aload_n (i := 0) dL_law_1655 rfl ?_
    refine tr_iload (i := 5) dL_law_1656 rfl ?_
    refine tr_iconst (v := 2) dL_law_1658 (by decide +kernel) ?_
    refine tr_iadd dL_law_1659 ?_
    refine tr_xld hL hxs dL_law_1660 (fun v212 => ?_)
    refine tr_aload_n (i := 0) dL_law_1661 rfl ?_
    refine tr_iload (i := 5) dL_law_1662 rfl ?_
    refine tr_iconst (v := 3) dL_law_1664 (by decide +kernel) ?_
    refine tr_iadd dL_law_1665 ?_
    refine tr_xld hL hxs dL_law_1666 (fun v213 => ?_)
    refine tr_ifeq (o := none) (tgt := 1674) dL_law_1667 (by decide) ?_ ?_
    · refine tr_iconst (v := 0) dL_law_1674 (by decide +kernel) ?_
      refine tr_d_wi (ms_cV (rest := []) (al := [.int v211, .int v212, .int 0]) 12 (sp_X12_matches G hG (d - 1) (by omega) s210 493 v211 v212 0 kd_493) kd_493 (by decide +kernel) kl_L_218 fv_X12_matches dL_law_1675 (show _ = some 3 by decide +kernel) (by omega) (Nat.le_of_ble_eq_true rfl) (by omega) (by omega)) (fun v214 s215 => ?_)
      refine tr_istore (lv' := [(0, .ref 700), (1, .ref 0), (2, .ref 493), (3, .ref 517), (4, .ref 518), (5, .int l5), (6, .int v209), (7, .int v214)]) [1, 2, 3, 4, 5, 6, 7, 0] dL_law_1678 (by decide) rfl ?_
      refine tr_aload_n (i := 2) dL_law_1680 rfl ?_
      refine tr_c_i (ms_cV (rest := []) (al := []) 12 (sp_X12_thrown G hG (d - 1) (by omega) s215 493 kd_493) kd_493 (by decide +kernel) kl_L_150 fv_X12_thrown dL_law_1681 (show _ = some 0 by decide +kernel) (by omega) (Nat.le_of_ble_eq_true rfl) (by omega) (by omega)) (fun v216 => ?_)
      refine tr_iload (i := 6) dL_law_1684 rfl ?_
      refine tr_iceq (o := none) (tgt := 1691) dL_law_1686 (by decide) ?_ ?_
      · refine tr_iload (i := 6) dL_law_1691 rfl ?_
        refine tr_ifne (o := none) (tgt := 1708) dL_law_1693 (by decide) ?_ ?_
        · refine tr_goto (tgt := 3017) dL_law_1708 (by decide) ?_
          refine tr_weak [0, 1, 2, 3, 4, 5] (lv' := [(0, .ref 700), (1, .ref 0), (2, .ref 493), (3, .ref 517), (4, .ref 518), (5, .int l5)]) rfl ?_
          exact tr_mono (by omega) (by omega) (hk s215 l5)
        · refine tr_aload_n (i := 3) dL_law_1696 rfl ?_
          refine tr_iconst (v := 0) dL_law_1697 (by decide +kernel) ?_
          refine tr_alj kd_517 dL_law_1698 (fun v217 => ?_)
          refine tr_iload (i := 7) dL_law_1699 rfl ?_
          refine tr_i2l dL_law_1701 ?_
          refine tr_lcmp dL_law_1702 ?_
          refine tr_ifeq (o := none) (tgt := 1708) dL_law_1703 (by decide) ?_ ?_
          · refine tr_goto (tgt := 3017) dL_law_1708 (by decide) ?_
            refine tr_weak [0, 1, 2, 3, 4, 5] (lv' := [(0, .ref 700), (1, .ref 0), (2, .ref 493), (3, .ref 517), (4, .ref 518), (5, .int l5)]) rfl ?_
            exact tr_mono (by omega) (by omega) (hk s215 l5)
          · refine tr_iconst (v := 0) dL_law_1706 (by decide +kernel) ?_
            exact tr_zret rfl (by decide +kernel) rfl (by omega) (by omega) dL_law_1707
      · refine tr_iconst (v := 0) dL_law_1689 (by decide +kernel) ?_
        exact tr_zret rfl (by decide +kernel) rfl (by omega) (by omega) dL_law_1690
    · refine tr_iconst (v := 1) dL_law_1670 (by decide +kernel) ?_
      refine tr_goto (tgt := 1675) dL_law_1671 (by decide) ?_
      refine tr_d_wi (ms_cV (rest := []) (al := [.int v211, .int v212, .int 1]) 12 (sp_X12_matches G hG (d - 1) (by omega) s210 493 v211 v212 1 kd_493) kd_493 (by decide +kernel) kl_L_218 fv_X12_matches dL_law_1675 (show _ = some 3 by decide +kernel) (by omega) (Nat.le_of_ble_eq_true rfl) (by omega) (by omega)) (fun v218 s219 => ?_)
      refine tr_istore (lv' := [(0, .ref 700), (1, .ref 0), (2, .ref 493), (3, .ref 517), (4, .ref 518), (5, .int l5), (6, .int v209), (7, .int v218)]) [1, 2, 3, 4, 5, 6, 7, 0] dL_law_1678 (by decide) rfl ?_
      refine tr_aload_n (i := 2) dL_law_1680 rfl ?_
      refine tr_c_i (ms_cV (rest := []) (al := []) 12 (sp_X12_thrown G hG (d - 1) (by omega) s219 493 kd_493) kd_493 (by decide +kernel) kl_L_150 fv_X12_thrown dL_law_1681 (show _ = some 0 by decide +kernel) (by omega) (Nat.le_of_ble_eq_true rfl) (by omega) (by omega)) (fun v220 => ?_)
      refine tr_iload (i := 6) dL_law_1684 rfl ?_
      refine tr_iceq (o := none) (tgt := 1691) dL_law_1686 (by decide) ?_ ?_
      · refine tr_iload (i := 6) dL_law_1691 rfl ?_
        refine tr_ifne (o := none) (tgt := 1708) dL_law_1693 (by decide) ?_ ?_
        · refine tr_goto (tgt := 3017) dL_law_1708 (by decide) ?_
          refine tr_weak [0, 1, 2, 3, 4, 5] (lv' := [(0, .ref 700), (1, .ref 0), (2, .ref 493), (3, .ref 517), (4, .ref 518), (5, .int l5)]) rfl ?_
          exact tr_mono (by omega) (by omega) (hk s219 l5)
        · refine tr_aload_n (i := 3) dL_law_1696 rfl ?_
          refine tr_iconst (v := 0) dL_law_1697 (by decide +kernel) ?_
          refine tr_alj kd_517 dL_law_1698 (fun v221 => ?_)
          refine tr_iload (i := 7) dL_law_1699 rfl ?_
          refine tr_i2l dL_law_1701 ?_
          refine tr_lcmp dL_law_1702 ?_
          refine tr_ifeq (o := none) (tgt := 1708) dL_law_1703 (by decide) ?_ ?_
          · refine tr_goto (tgt := 3017) dL_law_1708 (by decide) ?_
            refine tr_weak [0, 1, 2, 3, 4, 5] (lv' := [(0, .ref 700), (1, .ref 0), (2, .ref 493), (3, .ref 517), (4, .ref 518), (5, .int l5)]) rfl ?_
            exact tr_mono (by omega) (by omega) (hk s219 l5)
          · refine tr_iconst (v := 0) dL_law_1706 (by decide +kernel) ?_
            exact tr_zret rfl (by decide +kernel) rfl (by omega) (by omega) dL_law_1707
      · refine tr_iconst (v := 0) dL_law_1689 (by decide +kernel) ?_
        exact tr_zret rfl (by decide +kernel) rfl (by omega) (by omega) dL_law_1690
  · refine tr_iconst (v := 1) dL_law_1637 (by decide +kernel) ?_
    refine tr_goto (tgt := 1642) dL_law_1638 (by decide) ?_
    refine tr_aload_n (i := 3) dL_law_1642 rfl ?_
    refine tr_d_wi (ms_cSW (rest := []) (al := [.ref 0, .int v206, .int v207, .int 1, .ref 517]) (sp_L_matches G hG (d - 1) (by omega) σ v206 v207 1) kl_L_215 fs_L_matches dL_law_1643 (show _ = some 5 by decide +kernel) (by omega) (Nat.le_of_ble_eq_true rfl) (by omega) (by omega)) (fun v222 s223 => ?_)
    refine tr_istore (lv' := [(0, .ref 700), (1, .ref 0), (2, .ref 493), (3, .ref 517), (4, .ref 518), (5, .int l5), (6, .int v222)]) [1, 2, 3, 4, 5, 6, 0] dL_law_1646 (by decide) rfl ?_
    refine tr_aload_n (i := 2) dL_law_1648 rfl ?_
    refine tr_aload_n (i := 0) dL_law_1649 rfl ?_
    refine tr_iload (i := 5) dL_law_1650 rfl ?_
    refine tr_iconst (v := 1) dL_law_1652 (by decide +kernel) ?_
    refine tr_iadd dL_law_1653 ?_
    refine tr_xld hL hxs dL_law_1654 (fun v224 => ?_)
    refine tr_aload_n (i := 0) dL_law_1655 rfl ?_
    refine tr_iload (i := 5) dL_law_1656 rfl ?_
    refine tr_iconst (v := 2) dL_law_1658 (by decide +kernel) ?_
    refine tr_iadd dL_law_1659 ?_
    refine tr_xld hL hxs dL_law_1660 (fun v225 => ?_)
    refine tr_aload_n (i := 0) dL_law_1661 rfl ?_
    refine tr_iload (i := 5) dL_law_1662 rfl ?_
    refine tr_iconst (v := 3) dL_law_1664 (by decide +kernel) ?_
    refine tr_iadd dL_law_1665 ?_
    refine tr_xld hL hxs dL_law_1666 (fun v226 => ?_)
    refine tr_ifeq (o := none) (tgt := 1674) dL_law_1667 (by decide) ?_ ?_
    · refine tr_iconst (v := 0) dL_law_1674 (by decide +kernel) ?_
      refine tr_d_wi (ms_cV (rest := []) (al := [.int v224, .int v225, .int 0]) 12 (sp_X12_matches G hG (d - 1) (by omega) s223 493 v224 v225 0 kd_493) kd_493 (by decide +kernel) kl_L_218 fv_X12_matches dL_law_1675 (show _ = some 3 by decide +kernel) (by omega) (Nat.le_of_ble_eq_true rfl) (by omega) (by omega)) (fun v227 s228 => ?_)
      refine tr_istore (lv' := [(0, .ref 700), (1, .ref 0), (2, .ref 493), (3, .ref 517), (4, .ref 518), (5, .int l5), (6, .int v222), (7, .int v227)]) [1, 2, 3, 4, 5, 6, 7, 0] dL_law_1678 (by decide) rfl ?_
      refine tr_aload_n (i := 2) dL_law_1680 rfl ?_
      refine tr_c_i (ms_cV (rest := []) (al := []) 12 (sp_X12_thrown G hG (d - 1) (by omega) s228 493 kd_493) kd_493 (by decide +kernel) kl_L_150 fv_X12_thrown dL_law_1681 (show _ = some 0 by decide +kernel) (by omega) (Nat.le_of_ble_eq_true rfl) (by omega) (by omega)) (fun v229 => ?_)
      refine tr_iload (i := 6) dL_law_1684 rfl ?_
      refine tr_iceq (o := none) (tgt := 1691) dL_law_1686 (by decide) ?_ ?_
      · refine tr_iload (i := 6) dL_law_1691 rfl ?_
        refine tr_ifne (o := none) (tgt := 1708) dL_law_1693 (by decide) ?_ ?_
        · refine tr_goto (tgt := 3017) dL_law_1708 (by decide) ?_
          refine tr_weak [0, 1, 2, 3, 4, 5] (lv' := [(0, .ref 700), (1, .ref 0), (2, .ref 493), (3, .ref 517), (4, .ref 518), (5, .int l5)]) rfl ?_
          exact tr_mono (by omega) (by omega) (hk s228 l5)
        · refine tr_aload_n (i := 3) dL_law_1696 rfl ?_
          refine tr_iconst (v := 0) dL_law_1697 (by decide +kernel) ?_
          refine tr_alj kd_517 dL_law_1698 (fun v230 => ?_)
          refine tr_iload (i := 7) dL_law_1699 rfl ?_
          refine tr_i2l dL_law_1701 ?_
          refine tr_lcmp dL_law_1702 ?_
          refine tr_ifeq (o := none) (tgt := 1708) dL_law_1703 (by decide) ?_ ?_
          · refine tr_goto (tgt := 3017) dL_law_1708 (by decide) ?_
            refine tr_weak [0, 1, 2, 3, 4, 5] (lv' := [(0, .ref 700), (1, .ref 0), (2, .ref 493), (3, .ref 517), (4, .ref 518), (5, .int l5)]) rfl ?_
            exact tr_mono (by omega) (by omega) (hk s228 l5)
          · refine tr_iconst (v := 0) dL_law_1706 (by decide +kernel) ?_
            exact tr_zret rfl (by decide +kernel) rfl (by omega) (by omega) dL_law_1707
      · refine tr_iconst (v := 0) dL_law_1689 (by decide +kernel) ?_
        exact tr_zret rfl (by decide +kernel) rfl (by omega) (by omega) dL_law_1690
    · refine tr_iconst (v := 1) dL_law_1670 (by decide +kernel) ?_
      refine tr_goto (tgt := 1675) dL_law_1671 (by decide) ?_
      refine tr_d_wi (ms_cV (rest := []) (al := [.int v224, .int v225, .int 1]) 12 (sp_X12_matches G hG (d - 1) (by omega) s223 493 v224 v225 1 kd_493) kd_493 (by decide +kernel) kl_L_218 fv_X12_matches dL_law_1675 (show _ = some 3 by decide +kernel) (by omega) (Nat.le_of_ble_eq_true rfl) (by omega) (by omega)) (fun v231 s232 => ?_)
      refine tr_istore (lv' := [(0, .ref 700), (1, .ref 0), (2, .ref 493), (3, .ref 517), (4, .ref 518), (5, .int l5), (6, .int v222), (7, .int v231)]) [1, 2, 3, 4, 5, 6, 7, 0] dL_law_1678 (by decide) rfl ?_
      refine tr_aload_n (i := 2) dL_law_1680 rfl ?_
      refine tr_c_i (ms_cV (rest := []) (al := []) 12 (sp_X12_thrown G hG (d - 1) (by omega) s232 493 kd_493) kd_493 (by decide +kernel) kl_L_150 fv_X12_thrown dL_law_1681 (show _ = some 0 by decide +kernel) (by omega) (Nat.le_of_ble_eq_true rfl) (by omega) (by omega)) (fun v233 => ?_)
      refine tr_iload (i := 6) dL_law_1684 rfl ?_
      refine tr_iceq (o := none) (tgt := 1691) dL_law_1686 (by decide) ?_ ?_
      · refine tr_iload (i := 6) dL_law_1691 rfl ?_
        refine tr_ifne (o := none) (tgt := 1708) dL_law_1693 (by decide) ?_ ?_
        · refine tr_goto (tgt := 3017) dL_law_1708 (by decide) ?_
          refine tr_weak [0, 1, 2, 3, 4, 5] (lv' := [(0, .ref 700), (1, .ref 0), (2, .ref 493), (3, .ref 517), (4, .ref 518), (5, .int l5)]) rfl ?_
          exact tr_mono (by omega) (by omega) (hk s232 l5)
        · refine tr_aload_n (i := 3) dL_law_1696 rfl ?_
          refine tr_iconst (v := 0) dL_law_1697 (by decide +kernel) ?_
          refine tr_alj kd_517 dL_law_1698 (fun v234 => ?_)
          refine tr_iload (i := 7) dL_law_1699 rfl ?_
          refine tr_i2l dL_law_1701 ?_
          refine tr_lcmp dL_law_1702 ?_
          refine tr_ifeq (o := none) (tgt := 1708) dL_law_1703 (by decide) ?_ ?_
          · refine tr_goto (tgt := 3017) dL_law_1708 (by decide) ?_
            refine tr_weak [0, 1, 2, 3, 4, 5] (lv' := [(0, .ref 700), (1, .ref 0), (2, .ref 493), (3, .ref 517), (4, .ref 518), (5, .int l5)]) rfl ?_
            exact tr_mono (by omega) (by omega) (hk s232 l5)
          · refine tr_iconst (v := 0) dL_law_1706 (by decide +kernel) ?_
            exact tr_zret rfl (by decide +kernel) rfl (by omega) (by omega) dL_law_1707
      · refine tr_iconst (v := 0) dL_law_1689 (by decide +kernel) ?_
        exact tr_zret rfl (by decide +kernel) rfl (by omega) (by omega) dL_law_1690
def f_law_1711 (L : Nat) (xs : Nat → Int32) (k : MsSt → Int32 → Option (Int32 × MsSt)) (σ : MsSt) (l5 : Int32) : Option (Int32 × MsSt) :=
  (ms_xld L xs (l5 + 1)).bind fun v235 =>
  (ms_xld L xs (l5 + 2)).bind fun v236 =>
  (ms_xld L xs (l5 + 3)).bind fun v237 =>
  if v237 = 0 then
    (ms_xld L xs (l5 + 4)).bind fun v238 =>
    ms_b2 (f_L_match σ v235 v236 0 v238) fun v239 s240 =>
    (ms_xld L xs (l5 + 1)).bind fun v241 =>
    (ms_xld L xs (l5 + 2)).bind fun v242 =>
    (ms_xld L xs (l5 + 3)).bind fun v243 =>
    if v243 = 0 then
      (ms_xld L xs (l5 + 4)).bind fun v244 =>
      ms_b2 (f_X12_match s240 493 v241 v242 0 v244) fun v245 s246 =>
      (f_X12_thrown s246 493).bind fun v247 =>
      if v247 = v239 then
        if v239 = 0 then
          (ms_alj s246 517 0).bind fun v248 =>
          if (lg_cmp v248 v245.toInt64) = 0 then
            k s246 l5
          else
            some (0, s246)
        else
          k s246 l5
      else
        some (0, s246)
    else
      (ms_xld L xs (l5 + 4)).bind fun v249 =>
      ms_b2 (f_X12_match s240 493 v241 v242 1 v249) fun v250 s251 =>
      (f_X12_thrown s251 493).bind fun v252 =>
      if v252 = v239 then
        if v239 = 0 then
          (ms_alj s251 517 0).bind fun v253 =>
          if (lg_cmp v253 v250.toInt64) = 0 then
            k s251 l5
          else
            some (0, s251)
        else
          k s251 l5
      else
        some (0, s251)
  else
    (ms_xld L xs (l5 + 4)).bind fun v254 =>
    ms_b2 (f_L_match σ v235 v236 1 v254) fun v255 s256 =>
    (ms_xld L xs (l5 + 1)).bind fun v257 =>
    (ms_xld L xs (l5 + 2)).bind fun v258 =>
    (ms_xld L xs (l5 + 3)).bind fun v259 =>
    if v259 = 0 then
      (ms_xld L xs (l5 + 4)).bind fun v260 =>
      ms_b2 (f_X12_match s256 493 v257 v258 0 v260) fun v261 s262 =>
      (f_X12_thrown s262 493).bind fun v263 =>
      if v263 = v255 then
        if v255 = 0 then
          (ms_alj s262 517 0).bind fun v264 =>
          if (lg_cmp v264 v261.toInt64) = 0 then
            k s262 l5
          else
            some (0, s262)
        else
          k s262 l5
      else
        some (0, s262)
    else
      (ms_xld L xs (l5 + 4)).bind fun v265 =>
      ms_b2 (f_X12_match s256 493 v257 v258 1 v265) fun v266 s267 =>
      (f_X12_thrown s267 493).bind fun v268 =>
      if v268 = v255 then
        if v255 = 0 then
          (ms_alj s267 517 0).bind fun v269 =>
          if (lg_cmp v269 v266.toInt64) = 0 then
            k s267 l5
          else
            some (0, s267)
        else
          k s267 l5
      else
        some (0, s267)
set_option maxRecDepth 100000 in
theorem t_law_1711 (G : MG) (hG : (g_l G).stackTraces = false) (d : Nat) (hd : 36 ≤ d) (mc ms L : Nat) (xs : Nat → Int32) (hL : L = g_L G) (hxs : xs = g_xs G) (cu su : Nat) (hcu : cu + 4 ≤ mc) (hsu : su + 24 ≤ ms) (k : MsSt → Int32 → Option (Int32 × MsSt)) (hk : ∀ (s : MsSt) (x : Int32), TrO G mL_law d mc ms (cu + 4) (su + 24) ms_wi 3017 [(0, .ref 700), (1, .ref 0), (2, .ref 493), (3, .ref 517), (4, .ref 518), (5, .int x)] [] s (k s x)) (σ : MsSt) (l5 : Int32) : TrO G mL_law d mc ms cu su ms_wi 1711 [(0, .ref 700), (1, .ref 0), (2, .ref 493), (3, .ref 517), (4, .ref 518), (5, .int l5)] [] σ (f_law_1711 L xs k σ l5) := by
  show TrO G mL_law d mc ms cu su ms_wi 1711 [(0, .ref 700), (1, .ref 0), (2, .ref 493), (3, .ref 517), (4, .ref 518), (5, .int l5)] [] σ ((ms_xld L xs (l5 + 1)).bind fun v235 => (ms_xld L xs (l5 + 2)).bind fun v236 => (ms_xld L xs (l5 + 3)).bind fun v237 => if v237 = 0 then (ms_xld L xs (l5 + 4)).bind fun v238 => ms_b2 (f_L_match σ v235 v236 0 v238) fun v239 s240 => (ms_xld L xs (l5 + 1)).bind fun v241 => (ms_xld L xs (l5 + 2)).bind fun v242 => (ms_xld L xs (l5 + 3)).bind fun v243 => if v243 = 0 then (ms_xld L xs (l5 + 4)).bind fun v244 => ms_b2 (f_X12_match s240 493 v241 v242 0 v244) fun v245 s246 => (f_X12_thrown s246 493).bind fun v247 => if v247 = v239 then if v239 = 0 then (ms_alj s246 517 0).bind fun v248 => if (lg_cmp v248 v245.toInt64) = 0 then k s246 l5 else some (0, s246) else k s246 l5 else some (0, s246) else (ms_xld L xs (l5 + 4)).bind fun v249 => ms_b2 (f_X12_match s240 493 v241 v242 1 v249) fun v250 s251 => (f_X12_thrown s251 493).bind fun v252 => if v252 = v239 then if v239 = 0 then (ms_alj s251 517 0).bind fun v253 => if (lg_cmp v253 v250.toInt64) = 0 then k s251 l5 else some (0, s251) else k s251 l5 else some (0, s251) else (ms_xld L xs (l5 + 4)).bind fun v254 => ms_b2 (f_L_match σ v235 v236 1 v254) fun v255 s256 => (ms_xld L xs (l5 + 1)).bind fun v257 => (ms_xld L xs (l5 + 2)).bind fun v258 => (ms_xld L xs (l5 + 3)).bind fun v259 => if v259 = 0 then (ms_xld L xs (l5 + 4)).bind fun v260 => ms_b2 (f_X12_match s256 493 v257 v258 0 v260) fun v261 s262 => (f_X12_thrown s262 493).bind fun v263 => if v263 = v255 then if v255 = 0 then (ms_alj s262 517 0).bind fun v264 => if (lg_cmp v264 v261.toInt64) = 0 then k s262 l5 else some (0, s262) else k s262 l5 else some (0, s262) else (ms_xld L xs (l5 + 4)).bind fun v265 => ms_b2 (f_X12_match s256 493 v257 v258 1 v265) fun v266 s267 => (f_X12_thrown s267 493).bind fun v268 => if v268 = v255 then if v255 = 0 then (ms_alj s267 517 0).bind fun v269 => if (lg_cmp v269 v266.toInt64) = 0 then k s267 l5 else some (0, s267) else k s267 l5 else some (0, s267))
  refine tr_aload_n (i := 1) dL_law_1711 rfl ?_
  refine tr_aload_n (i := 0) dL_law_1712 rfl ?_
  refine tr_iload (i := 5) dL_law_1713 rfl ?_
  refine tr_iconst (v := 1) dL_law_1715 (by decide +kernel) ?_
  refine tr_iadd dL_law_1716 ?_
  refine tr_xld hL hxs dL_law_1717 (fun v235 => ?_)
  refine tr_aload_n (i := 0) dL_law_1718 rfl ?_
  refine tr_iload (i := 5) dL_law_1719 rfl ?_
  refine tr_iconst (v := 2) dL_law_1721 (by decide +kernel) ?_
  refine tr_iadd dL_law_1722 ?_
  refine tr_xld hL hxs dL_law_1723 (fun v236 => ?_)
  refine tr_aload_n (i := 0) dL_law_1724 rfl ?_
  refine tr_iload (i := 5) dL_law_1725 rfl ?_
  refine tr_iconst (v := 3) dL_law_1727 (by decide +kernel) ?_
  refine tr_iadd dL_law_1728 ?_
  refine tr_xld hL hxs dL_law_1729 (fun v237 => ?_)
  refine tr_ifeq (o := none) (tgt := 1737) dL_law_1730 (by decide) ?_ ?_
  · refine tr_iconst (v := 0) dL_law_1737 (by decide +kernel) ?_
    refine tr_aload_n (i := 0) dL_law_1738 rfl ?_
    refine tr_iload (i := 5) dL_law_1739 rfl ?_
    refine tr_iconst (v := 4) dL_law_1741 (by decide +kernel) ?_
    refine tr_iadd dL_law_1742 ?_
    refine tr_xld hL hxs dL_law_1743 (fun v238 => ?_)
    refine tr_aload_n (i := 3) dL_law_1744 rfl ?_
    refine tr_d_wi (ms_cSW (rest := []) (al := [.ref 0, .int v235, .int v236, .int 0, .int v238, .ref 517]) (sp_L_match G hG (d - 1) (by omega) σ v235 v236 0 v238) kl_L_219 fs_L_match dL_law_1745 (show _ = some 6 by decide +kernel) (by omega) (Nat.le_of_ble_eq_true rfl) (by omega) (by omega)) (fun v239 s240 => ?_)
    refine tr_istore (lv' := [(0, .ref 700), (1, .ref 0), (2, .ref 493), (3, .ref 517), (4, .ref 518), (5, .int l5), (6, .int v239)]) [1, 2, 3, 4, 5, 6, 0] dL_law_1748 (by decide) rfl ?_
    refine tr_aload_n (i := 2) dL_law_1750 rfl ?_
    refine tr_aload_n (i := 0) dL_law_1751 rfl ?_
    refine tr_iload (i := 5) dL_law_1752 rfl ?_
    refine tr_iconst (v := 1) dL_law_1754 (by decide +kernel) ?_
    refine tr_iadd dL_law_1755 ?_
    refine tr_xld hL hxs dL_law_1756 (fun v241 => ?_)
    refine tr_aload_n (i := 0) dL_law_1757 rfl ?_
    refine tr_iload (i := 5) dL_law_1758 rfl ?_
    refine tr_iconst (v := 2) dL_law_1760 (by decide +kernel) ?_
    refine tr_iadd dL_law_1761 ?_
    refine tr_xld hL hxs dL_law_1762 (fun v242 => ?_)
    refine tr_aload_n (i := 0) dL_law_1763 rfl ?_
    refine tr_iload (i := 5) dL_law_1764 rfl ?_
    refine tr_iconst (v := 3) dL_law_1766 (by decide +kernel) ?_
    refine tr_iadd dL_law_1767 ?_
    refine tr_xld hL hxs dL_law_1768 (fun v243 => ?_)
    refine tr_ifeq (o := none) (tgt := 1776) dL_law_1769 (by decide) ?_ ?_
    · refine tr_iconst (v := 0) dL_law_1776 (by decide +kernel) ?_
      refine tr_aload_n (i := 0) dL_law_1777 rfl ?_
      refine tr_iload (i := 5) dL_law_1778 rfl ?_
      refine tr_iconst (v := 4) dL_law_1780 (by decide +kernel) ?_
      refine tr_iadd dL_law_1781 ?_
      refine tr_xld hL hxs dL_law_1782 (fun v244 => ?_)
      refine tr_d_wi (ms_cV (rest := []) (al := [.int v241, .int v242, .int 0, .int v244]) 12 (sp_X12_match G hG (d - 1) (by omega) s240 493 v241 v242 0 v244 kd_493) kd_493 (by decide +kernel) kl_L_222 fv_X12_match dL_law_1783 (show _ = some 4 by decide +kernel) (by omega) (Nat.le_of_ble_eq_true rfl) (by omega) (by omega)) (fun v245 s246 => ?_)
      refine tr_istore (lv' := [(0, .ref 700), (1, .ref 0), (2, .ref 493), (3, .ref 517), (4, .ref 518), (5, .int l5), (6, .int v239), (7, .int v245)]) [1, 2, 3, 4, 5, 6, 7, 0] dL_law_1786 (by decide) rfl ?_
      refine tr_aload_n (i := 2) dL_law_1788 rfl ?_
      refine tr_c_i (ms_cV (rest := []) (al := []) 12 (sp_X12_thrown G hG (d - 1) (by omega) s246 493 kd_493) kd_493 (by decide +kernel) kl_L_150 fv_X12_thrown dL_law_1789 (show _ = some 0 by decide +kernel) (by omega) (Nat.le_of_ble_eq_true rfl) (by omega) (by omega)) (fun v247 => ?_)
      refine tr_iload (i := 6) dL_law_1792 rfl ?_
      refine tr_iceq (o := none) (tgt := 1799) dL_law_1794 (by decide) ?_ ?_
      · refine tr_iload (i := 6) dL_law_1799 rfl ?_
        refine tr_ifne (o := none) (tgt := 1816) dL_law_1801 (by decide) ?_ ?_
        · refine tr_goto (tgt := 3017) dL_law_1816 (by decide) ?_
          refine tr_weak [0, 1, 2, 3, 4, 5] (lv' := [(0, .ref 700), (1, .ref 0), (2, .ref 493), (3, .ref 517), (4, .ref 518), (5, .int l5)]) rfl ?_
          exact tr_mono (by omega) (by omega) (hk s246 l5)
        · refine tr_aload_n (i := 3) dL_law_1804 rfl ?_
          refine tr_iconst (v := 0) dL_law_1805 (by decide +kernel) ?_
          refine tr_alj kd_517 dL_law_1806 (fun v248 => ?_)
          refine tr_iload (i := 7) dL_law_1807 rfl ?_
          refine tr_i2l dL_law_1809 ?_
          refine tr_lcmp dL_law_1810 ?_
          refine tr_ifeq (o := none) (tgt := 1816) dL_law_1811 (by decide) ?_ ?_
          · refine tr_goto (tgt := 3017) dL_law_1816 (by decide) ?_
            refine tr_weak [0, 1, 2, 3, 4, 5] (lv' := [(0, .ref 700), (1, .ref 0), (2, .ref 493), (3, .ref 517), (4, .ref 518), (5, .int l5)]) rfl ?_
            exact tr_mono (by omega) (by omega) (hk s246 l5)
          · refine tr_iconst (v := 0) dL_law_1814 (by decide +kernel) ?_
            exact tr_zret rfl (by decide +kernel) rfl (by omega) (by omega) dL_law_1815
      · refine tr_iconst (v := 0) dL_law_1797 (by decide +kernel) ?_
        exact tr_zret rfl (by decide +kernel) rfl (by omega) (by omega) dL_law_1798
    · refine tr_iconst (v := 1) dL_law_1772 (by decide +kernel) ?_
      refine tr_goto (tgt := 1777) dL_law_1773 (by decide) ?_
      refine tr_aload_n (i := 0) dL_law_1777 rfl ?_
      refine tr_iload (i := 5) dL_law_1778 rfl ?_
      refine tr_iconst (v := 4) dL_law_1780 (by decide +kernel) ?_
      refine tr_iadd dL_law_1781 ?_
      refine tr_xld hL hxs dL_law_1782 (fun v249 => ?_)
      refine tr_d_wi (ms_cV (rest := []) (al := [.int v241, .int v242, .int 1, .int v249]) 12 (sp_X12_match G hG (d - 1) (by omega) s240 493 v241 v242 1 v249 kd_493) kd_493 (by decide +kernel) kl_L_222 fv_X12_match dL_law_1783 (show _ = some 4 by decide +kernel) (by omega) (Nat.le_of_ble_eq_true rfl) (by omega) (by omega)) (fun v250 s251 => ?_)
      refine tr_istore (lv' := [(0, .ref 700), (1, .ref 0), (2, .ref 493), (3, .ref 517), (4, .ref 518), (5, .int l5), (6, .int v239), (7, .int v250)]) [1, 2, 3, 4, 5, 6, 7, 0] dL_law_1786 (by decide) rfl ?_
      refine tr_aload_n (i := 2) dL_law_1788 rfl ?_
      refine tr_c_i (ms_cV (rest := []) (al := []) 12 (sp_X12_thrown G hG (d - 1) (by omega) s251 493 kd_493) kd_493 (by decide +kernel) kl_L_150 fv_X12_thrown dL_law_1789 (show _ = some 0 by decide +kernel) (by omega) (Nat.le_of_ble_eq_true rfl) (by omega) (by omega)) (fun v252 => ?_)
      refine tr_iload (i := 6) dL_law_1792 rfl ?_
      refine tr_iceq (o := none) (tgt := 1799) dL_law_1794 (by decide) ?_ ?_
      · refine tr_iload (i := 6) dL_law_1799 rfl ?_
        refine tr_ifne (o := none) (tgt := 1816) dL_law_1801 (by decide) ?_ ?_
        · refine tr_goto (tgt := 3017) dL_law_1816 (by decide) ?_
          refine tr_weak [0, 1, 2, 3, 4, 5] (lv' := [(0, .ref 700), (1, .ref 0), (2, .ref 493), (3, .ref 517), (4, .ref 518), (5, .int l5)]) rfl ?_
          exact tr_mono (by omega) (by omega) (hk s251 l5)
        · refine tr_aload_n (i := 3) dL_law_1804 rfl ?_
          refine tr_iconst (v := 0) dL_law_1805 (by decide +kernel) ?_
          refine tr_alj kd_517 dL_law_1806 (fun v253 => ?_)
          refine tr_iload (i := 7) dL_law_1807 rfl ?_
          refine tr_i2l dL_law_1809 ?_
          refine tr_lcmp dL_law_1810 ?_
          refine tr_ifeq (o := none) (tgt := 1816) dL_law_1811 (by decide) ?_ ?_
          · refine tr_goto (tgt := 3017) dL_law_1816 (by decide) ?_
            refine tr_weak [0, 1, 2, 3, 4, 5] (lv' := [(0, .ref 700), (1, .ref 0), (2, .ref 493), (3, .ref 517), (4, .ref 518), (5, .int l5)]) rfl ?_
            exact tr_mono (by omega) (by omega) (hk s251 l5)
          · refine tr_iconst (v := 0) dL_law_1814 (by decide +kernel) ?_
            exact tr_zret rfl (by decide +kernel) rfl (by omega) (by omega) dL_law_1815
      · refine tr_iconst (v := 0) dL_law_1797 (by decide +kernel) ?_
        exact tr_zret rfl (by decide +kernel) rfl (by omega) (by omega) dL_law_1798
  · refine tr_iconst (v := 1) dL_law_1733 (by decide +kernel) ?_
    refine tr_goto (tgt := 1738) dL_law_1734 (by decide) ?_
    refine tr_aload_n (i := 0) dL_law_1738 rfl ?_
    refine tr_iload (i := 5) dL_law_1739 rfl ?_
    refine tr_iconst (v := 4) dL_law_1741 (by decide +kernel) ?_
    refine tr_iadd dL_law_1742 ?_
    refine tr_xld hL hxs dL_law_1743 (fun v254 => ?_)
    refine tr_aload_n (i := 3) dL_law_1744 rfl ?_
    refine tr_d_wi (ms_cSW (rest := []) (al := [.ref 0, .int v235, .int v236, .int 1, .int v254, .ref 517]) (sp_L_match G hG (d - 1) (by omega) σ v235 v236 1 v254) kl_L_219 fs_L_match dL_law_1745 (show _ = some 6 by decide +kernel) (by omega) (Nat.le_of_ble_eq_true rfl) (by omega) (by omega)) (fun v255 s256 => ?_)
    refine tr_istore (lv' := [(0, .ref 700), (1, .ref 0), (2, .ref 493), (3, .ref 517), (4, .ref 518), (5, .int l5), (6, .int v255)]) [1, 2, 3, 4, 5, 6, 0] dL_law_1748 (by decide) rfl ?_
    refine tr_aload_n (i := 2) dL_law_1750 rfl ?_
    refine tr_aload_n (i := 0) dL_law_1751 rfl ?_
    refine tr_iload (i := 5) dL_law_1752 rfl ?_
    refine tr_iconst (v := 1) dL_law_1754 (by decide +kernel) ?_
    refine tr_iadd dL_law_1755 ?_
    refine tr_xld hL hxs dL_law_1756 (fun v257 => ?_)
    refine tr_aload_n (i := 0) dL_law_1757 rfl ?_
    refine tr_iload (i := 5) dL_law_1758 rfl ?_
    refine tr_iconst (v := 2) dL_law_1760 (by decide +kernel) ?_
    refine tr_iadd dL_law_1761 ?_
    refine tr_xld hL hxs dL_law_1762 (fun v258 => ?_)
    refine tr_aload_n (i := 0) dL_law_1763 rfl ?_
    refine tr_iload (i := 5) dL_law_1764 rfl ?_
    refine tr_iconst (v := 3) dL_law_1766 (by decide +kernel) ?_
    refine tr_iadd dL_law_1767 ?_
    refine tr_xld hL hxs dL_law_1768 (fun v259 => ?_)
    refine tr_ifeq (o := none) (tgt := 1776) dL_law_1769 (by decide) ?_ ?_
    · refine tr_iconst (v := 0) dL_law_1776 (by decide +kernel) ?_
      refine tr_aload_n (i := 0) dL_law_1777 rfl ?_
      refine tr_iload (i := 5) dL_law_1778 rfl ?_
      refine tr_iconst (v := 4) dL_law_1780 (by decide +kernel) ?_
      refine tr_iadd dL_law_1781 ?_
      refine tr_xld hL hxs dL_law_1782 (fun v260 => ?_)
      refine tr_d_wi (ms_cV (rest := []) (al := [.int v257, .int v258, .int 0, .int v260]) 12 (sp_X12_match G hG (d - 1) (by omega) s256 493 v257 v258 0 v260 kd_493) kd_493 (by decide +kernel) kl_L_222 fv_X12_match dL_law_1783 (show _ = some 4 by decide +kernel) (by omega) (Nat.le_of_ble_eq_true rfl) (by omega) (by omega)) (fun v261 s262 => ?_)
      refine tr_istore (lv' := [(0, .ref 700), (1, .ref 0), (2, .ref 493), (3, .ref 517), (4, .ref 518), (5, .int l5), (6, .int v255), (7, .int v261)]) [1, 2, 3, 4, 5, 6, 7, 0] dL_law_1786 (by decide) rfl ?_
      refine tr_aload_n (i := 2) dL_law_1788 rfl ?_
      refine tr_c_i (ms_cV (rest := []) (al := []) 12 (sp_X12_thrown G hG (d - 1) (by omega) s262 493 kd_493) kd_493 (by decide +kernel) kl_L_150 fv_X12_thrown dL_law_1789 (show _ = some 0 by decide +kernel) (by omega) (Nat.le_of_ble_eq_true rfl) (by omega) (by omega)) (fun v263 => ?_)
      refine tr_iload (i := 6) dL_law_1792 rfl ?_
      refine tr_iceq (o := none) (tgt := 1799) dL_law_1794 (by decide) ?_ ?_
      · refine tr_iload (i := 6) dL_law_1799 rfl ?_
        refine tr_ifne (o := none) (tgt := 1816) dL_law_1801 (by decide) ?_ ?_
        · refine tr_goto (tgt := 3017) dL_law_1816 (by decide) ?_
          refine tr_weak [0, 1, 2, 3, 4, 5] (lv' := [(0, .ref 700), (1, .ref 0), (2, .ref 493), (3, .ref 517), (4, .ref 518), (5, .int l5)]) rfl ?_
          exact tr_mono (by omega) (by omega) (hk s262 l5)
        · refine tr_aload_n (i := 3) dL_law_1804 rfl ?_
          refine tr_iconst (v := 0) dL_law_1805 (by decide +kernel) ?_
          refine tr_alj kd_517 dL_law_1806 (fun v264 => ?_)
          refine tr_iload (i := 7) dL_law_1807 rfl ?_
          refine tr_i2l dL_law_1809 ?_
          refine tr_lcmp dL_law_1810 ?_
          refine tr_ifeq (o := none) (tgt := 1816) dL_law_1811 (by decide) ?_ ?_
          · refine tr_goto (tgt := 3017) dL_law_1816 (by decide) ?_
            refine tr_weak [0, 1, 2, 3, 4, 5] (lv' := [(0, .ref 700), (1, .ref 0), (2, .ref 493), (3, .ref 517), (4, .ref 518), (5, .int l5)]) rfl ?_
            exact tr_mono (by omega) (by omega) (hk s262 l5)
          · refine tr_iconst (v := 0) dL_law_1814 (by decide +kernel) ?_
            exact tr_zret rfl (by decide +kernel) rfl (by omega) (by omega) dL_law_1815
      · refine tr_iconst (v := 0) dL_law_1797 (by decide +kernel) ?_
        exact tr_zret rfl (by decide +kernel) rfl (by omega) (by omega) dL_law_1798
    · refine tr_iconst (v := 1) dL_law_1772 (by decide +kernel) ?_
      refine tr_goto (tgt := 1777) dL_law_1773 (by decide) ?_
      refine tr_aload_n (i := 0) dL_law_1777 rfl ?_
      refine tr_iload (i := 5) dL_law_1778 rfl ?_
      refine tr_iconst (v := 4) dL_law_1780 (by decide +kernel) ?_
      refine tr_iadd dL_law_1781 ?_
      refine tr_xld hL hxs dL_law_1782 (fun v265 => ?_)
      refine tr_d_wi (ms_cV (rest := []) (al := [.int v257, .int v258, .int 1, .int v265]) 12 (sp_X12_match G hG (d - 1) (by omega) s256 493 v257 v258 1 v265 kd_493) kd_493 (by decide +kernel) kl_L_222 fv_X12_match dL_law_1783 (show _ = some 4 by decide +kernel) (by omega) (Nat.le_of_ble_eq_true rfl) (by omega) (by omega)) (fun v266 s267 => ?_)
      refine tr_istore (lv' := [(0, .ref 700), (1, .ref 0), (2, .ref 493), (3, .ref 517), (4, .ref 518), (5, .int l5), (6, .int v255), (7, .int v266)]) [1, 2, 3, 4, 5, 6, 7, 0] dL_law_1786 (by decide) rfl ?_
      refine tr_aload_n (i := 2) dL_law_1788 rfl ?_
      refine tr_c_i (ms_cV (rest := []) (al := []) 12 (sp_X12_thrown G hG (d - 1) (by omega) s267 493 kd_493) kd_493 (by decide +kernel) kl_L_150 fv_X12_thrown dL_law_1789 (show _ = some 0 by decide +kernel) (by omega) (Nat.le_of_ble_eq_true rfl) (by omega) (by omega)) (fun v268 => ?_)
      refine tr_iload (i := 6) dL_law_1792 rfl ?_
      refine tr_iceq (o := none) (tgt := 1799) dL_law_1794 (by decide) ?_ ?_
      · refine tr_iload (i := 6) dL_law_1799 rfl ?_
        refine tr_ifne (o := none) (tgt := 1816) dL_law_1801 (by decide) ?_ ?_
        · refine tr_goto (tgt := 3017) dL_law_1816 (by decide) ?_
          refine tr_weak [0, 1, 2, 3, 4, 5] (lv' := [(0, .ref 700), (1, .ref 0), (2, .ref 493), (3, .ref 517), (4, .ref 518), (5, .int l5)]) rfl ?_
          exact tr_mono (by omega) (by omega) (hk s267 l5)
        · refine tr_aload_n (i := 3) dL_law_1804 rfl ?_
          refine tr_iconst (v := 0) dL_law_1805 (by decide +kernel) ?_
          refine tr_alj kd_517 dL_law_1806 (fun v269 => ?_)
          refine tr_iload (i := 7) dL_law_1807 rfl ?_
          refine tr_i2l dL_law_1809 ?_
          refine tr_lcmp dL_law_1810 ?_
          refine tr_ifeq (o := none) (tgt := 1816) dL_law_1811 (by decide) ?_ ?_
          · refine tr_goto (tgt := 3017) dL_law_1816 (by decide) ?_
            refine tr_weak [0, 1, 2, 3, 4, 5] (lv' := [(0, .ref 700), (1, .ref 0), (2, .ref 493), (3, .ref 517), (4, .ref 518), (5, .int l5)]) rfl ?_
            exact tr_mono (by omega) (by omega) (hk s267 l5)
          · refine tr_iconst (v := 0) dL_law_1814 (by decide +kernel) ?_
            exact tr_zret rfl (by decide +kernel) rfl (by omega) (by omega) dL_law_1815
      · refine tr_iconst (v := 0) dL_law_1797 (by decide +kernel) ?_
        exact tr_zret rfl (by decide +kernel) rfl (by omega) (by omega) dL_law_1798
def f_law_1819 (L : Nat) (xs : Nat → Int32) (k : MsSt → Int32 → Option (Int32 × MsSt)) (σ : MsSt) (l5 : Int32) : Option (Int32 × MsSt) :=
  (ms_xld L xs (l5 + 1)).bind fun v270 =>
  (ms_xld L xs (l5 + 2)).bind fun v271 =>
  ms_b2 (f_L_saved σ v270 v271) fun v272 s273 =>
  (ms_xld L xs (l5 + 1)).bind fun v274 =>
  (ms_xld L xs (l5 + 2)).bind fun v275 =>
  ms_b2 (f_X12_saved s273 493 v274 v275) fun v276 s277 =>
  (f_X12_thrown s277 493).bind fun v278 =>
  if v278 = v272 then
    if v272 = 0 then
      (ms_alj s277 517 0).bind fun v279 =>
      if (lg_cmp v279 v276.toInt64) = 0 then
        k s277 l5
      else
        some (0, s277)
    else
      k s277 l5
  else
    some (0, s277)
set_option maxRecDepth 100000 in
theorem t_law_1819 (G : MG) (hG : (g_l G).stackTraces = false) (d : Nat) (hd : 36 ≤ d) (mc ms L : Nat) (xs : Nat → Int32) (hL : L = g_L G) (hxs : xs = g_xs G) (cu su : Nat) (hcu : cu + 4 ≤ mc) (hsu : su + 24 ≤ ms) (k : MsSt → Int32 → Option (Int32 × MsSt)) (hk : ∀ (s : MsSt) (x : Int32), TrO G mL_law d mc ms (cu + 4) (su + 24) ms_wi 3017 [(0, .ref 700), (1, .ref 0), (2, .ref 493), (3, .ref 517), (4, .ref 518), (5, .int x)] [] s (k s x)) (σ : MsSt) (l5 : Int32) : TrO G mL_law d mc ms cu su ms_wi 1819 [(0, .ref 700), (1, .ref 0), (2, .ref 493), (3, .ref 517), (4, .ref 518), (5, .int l5)] [] σ (f_law_1819 L xs k σ l5) := by
  show TrO G mL_law d mc ms cu su ms_wi 1819 [(0, .ref 700), (1, .ref 0), (2, .ref 493), (3, .ref 517), (4, .ref 518), (5, .int l5)] [] σ ((ms_xld L xs (l5 + 1)).bind fun v270 => (ms_xld L xs (l5 + 2)).bind fun v271 => ms_b2 (f_L_saved σ v270 v271) fun v272 s273 => (ms_xld L xs (l5 + 1)).bind fun v274 => (ms_xld L xs (l5 + 2)).bind fun v275 => ms_b2 (f_X12_saved s273 493 v274 v275) fun v276 s277 => (f_X12_thrown s277 493).bind fun v278 => if v278 = v272 then if v272 = 0 then (ms_alj s277 517 0).bind fun v279 => if (lg_cmp v279 v276.toInt64) = 0 then k s277 l5 else some (0, s277) else k s277 l5 else some (0, s277))
  refine tr_aload_n (i := 1) dL_law_1819 rfl ?_
  refine tr_aload_n (i := 0) dL_law_1820 rfl ?_
  refine tr_iload (i := 5) dL_law_1821 rfl ?_
  refine tr_iconst (v := 1) dL_law_1823 (by decide +kernel) ?_
  refine tr_iadd dL_law_1824 ?_
  refine tr_xld hL hxs dL_law_1825 (fun v270 => ?_)
  refine tr_aload_n (i := 0) dL_law_1826 rfl ?_
  refine tr_iload (i := 5) dL_law_1827 rfl ?_
  refine tr_iconst (v := 2) dL_law_1829 (by decide +kernel) ?_
  refine tr_iadd dL_law_1830 ?_
  refine tr_xld hL hxs dL_law_1831 (fun v271 => ?_)
  refine tr_aload_n (i := 3) dL_law_1832 rfl ?_
  refine tr_d_wi (ms_cSW (rest := []) (al := [.ref 0, .int v270, .int v271, .ref 517]) (sp_L_saved G hG (d - 1) (by omega) σ v270 v271) kl_L_223 fs_L_saved dL_law_1833 (show _ = some 4 by decide +kernel) (by omega) (Nat.le_of_ble_eq_true rfl) (by omega) (by omega)) (fun v272 s273 => ?_)
  refine tr_istore (lv' := [(0, .ref 700), (1, .ref 0), (2, .ref 493), (3, .ref 517), (4, .ref 518), (5, .int l5), (6, .int v272)]) [1, 2, 3, 4, 5, 6, 0] dL_law_1836 (by decide) rfl ?_
  refine tr_aload_n (i := 2) dL_law_1838 rfl ?_
  refine tr_aload_n (i := 0) dL_law_1839 rfl ?_
  refine tr_iload (i := 5) dL_law_1840 rfl ?_
  refine tr_iconst (v := 1) dL_law_1842 (by decide +kernel) ?_
  refine tr_iadd dL_law_1843 ?_
  refine tr_xld hL hxs dL_law_1844 (fun v274 => ?_)
  refine tr_aload_n (i := 0) dL_law_1845 rfl ?_
  refine tr_iload (i := 5) dL_law_1846 rfl ?_
  refine tr_iconst (v := 2) dL_law_1848 (by decide +kernel) ?_
  refine tr_iadd dL_law_1849 ?_
  refine tr_xld hL hxs dL_law_1850 (fun v275 => ?_)
  refine tr_d_wi (ms_cV (rest := []) (al := [.int v274, .int v275]) 12 (sp_X12_saved G hG (d - 1) (by omega) s273 493 v274 v275 kd_493) kd_493 (by decide +kernel) kl_L_225 fv_X12_saved dL_law_1851 (show _ = some 2 by decide +kernel) (by omega) (Nat.le_of_ble_eq_true rfl) (by omega) (by omega)) (fun v276 s277 => ?_)
  refine tr_istore (lv' := [(0, .ref 700), (1, .ref 0), (2, .ref 493), (3, .ref 517), (4, .ref 518), (5, .int l5), (6, .int v272), (7, .int v276)]) [1, 2, 3, 4, 5, 6, 7, 0] dL_law_1854 (by decide) rfl ?_
  refine tr_aload_n (i := 2) dL_law_1856 rfl ?_
  refine tr_c_i (ms_cV (rest := []) (al := []) 12 (sp_X12_thrown G hG (d - 1) (by omega) s277 493 kd_493) kd_493 (by decide +kernel) kl_L_150 fv_X12_thrown dL_law_1857 (show _ = some 0 by decide +kernel) (by omega) (Nat.le_of_ble_eq_true rfl) (by omega) (by omega)) (fun v278 => ?_)
  refine tr_iload (i := 6) dL_law_1860 rfl ?_
  refine tr_iceq (o := none) (tgt := 1867) dL_law_1862 (by decide) ?_ ?_
  · refine tr_iload (i := 6) dL_law_1867 rfl ?_
    refine tr_ifne (o := none) (tgt := 1884) dL_law_1869 (by decide) ?_ ?_
    · refine tr_goto (tgt := 3017) dL_law_1884 (by decide) ?_
      refine tr_weak [0, 1, 2, 3, 4, 5] (lv' := [(0, .ref 700), (1, .ref 0), (2, .ref 493), (3, .ref 517), (4, .ref 518), (5, .int l5)]) rfl ?_
      exact tr_mono (by omega) (by omega) (hk s277 l5)
    · refine tr_aload_n (i := 3) dL_law_1872 rfl ?_
      refine tr_iconst (v := 0) dL_law_1873 (by decide +kernel) ?_
      refine tr_alj kd_517 dL_law_1874 (fun v279 => ?_)
      refine tr_iload (i := 7) dL_law_1875 rfl ?_
      refine tr_i2l dL_law_1877 ?_
      refine tr_lcmp dL_law_1878 ?_
      refine tr_ifeq (o := none) (tgt := 1884) dL_law_1879 (by decide) ?_ ?_
      · refine tr_goto (tgt := 3017) dL_law_1884 (by decide) ?_
        refine tr_weak [0, 1, 2, 3, 4, 5] (lv' := [(0, .ref 700), (1, .ref 0), (2, .ref 493), (3, .ref 517), (4, .ref 518), (5, .int l5)]) rfl ?_
        exact tr_mono (by omega) (by omega) (hk s277 l5)
      · refine tr_iconst (v := 0) dL_law_1882 (by decide +kernel) ?_
        exact tr_zret rfl (by decide +kernel) rfl (by omega) (by omega) dL_law_1883
  · refine tr_iconst (v := 0) dL_law_1865 (by decide +kernel) ?_
    exact tr_zret rfl (by decide +kernel) rfl (by omega) (by omega) dL_law_1866
def f_law_1887 (L : Nat) (xs : Nat → Int32) (k : MsSt → Int32 → Option (Int32 × MsSt)) (σ : MsSt) (l5 : Int32) : Option (Int32 × MsSt) :=
  (ms_xld L xs (l5 + 1)).bind fun v280 =>
  (ms_xld L xs (l5 + 2)).bind fun v281 =>
  ms_b2 (f_L_bestClass σ v280 v281) fun v282 s283 =>
  (ms_xld L xs (l5 + 1)).bind fun v284 =>
  (ms_xld L xs (l5 + 2)).bind fun v285 =>
  ms_b2 (f_X12_bestClass s283 493 v284 v285) fun v286 s287 =>
  (f_X12_thrown s287 493).bind fun v288 =>
  if v288 = v282 then
    if v282 = 0 then
      (ms_alj s287 517 0).bind fun v289 =>
      if (lg_cmp v289 v286.toInt64) = 0 then
        k s287 l5
      else
        some (0, s287)
    else
      k s287 l5
  else
    some (0, s287)
set_option maxRecDepth 100000 in
theorem t_law_1887 (G : MG) (hG : (g_l G).stackTraces = false) (d : Nat) (hd : 36 ≤ d) (mc ms L : Nat) (xs : Nat → Int32) (hL : L = g_L G) (hxs : xs = g_xs G) (cu su : Nat) (hcu : cu + 4 ≤ mc) (hsu : su + 24 ≤ ms) (k : MsSt → Int32 → Option (Int32 × MsSt)) (hk : ∀ (s : MsSt) (x : Int32), TrO G mL_law d mc ms (cu + 4) (su + 24) ms_wi 3017 [(0, .ref 700), (1, .ref 0), (2, .ref 493), (3, .ref 517), (4, .ref 518), (5, .int x)] [] s (k s x)) (σ : MsSt) (l5 : Int32) : TrO G mL_law d mc ms cu su ms_wi 1887 [(0, .ref 700), (1, .ref 0), (2, .ref 493), (3, .ref 517), (4, .ref 518), (5, .int l5)] [] σ (f_law_1887 L xs k σ l5) := by
  show TrO G mL_law d mc ms cu su ms_wi 1887 [(0, .ref 700), (1, .ref 0), (2, .ref 493), (3, .ref 517), (4, .ref 518), (5, .int l5)] [] σ ((ms_xld L xs (l5 + 1)).bind fun v280 => (ms_xld L xs (l5 + 2)).bind fun v281 => ms_b2 (f_L_bestClass σ v280 v281) fun v282 s283 => (ms_xld L xs (l5 + 1)).bind fun v284 => (ms_xld L xs (l5 + 2)).bind fun v285 => ms_b2 (f_X12_bestClass s283 493 v284 v285) fun v286 s287 => (f_X12_thrown s287 493).bind fun v288 => if v288 = v282 then if v282 = 0 then (ms_alj s287 517 0).bind fun v289 => if (lg_cmp v289 v286.toInt64) = 0 then k s287 l5 else some (0, s287) else k s287 l5 else some (0, s287))
  refine tr_aload_n (i := 1) dL_law_1887 rfl ?_
  refine tr_aload_n (i := 0) dL_law_1888 rfl ?_
  refine tr_iload (i := 5) dL_law_1889 rfl ?_
  refine tr_iconst (v := 1) dL_law_1891 (by decide +kernel) ?_
  refine tr_iadd dL_law_1892 ?_
  refine tr_xld hL hxs dL_law_1893 (fun v280 => ?_)
  refine tr_aload_n (i := 0) dL_law_1894 rfl ?_
  refine tr_iload (i := 5) dL_law_1895 rfl ?_
  refine tr_iconst (v := 2) dL_law_1897 (by decide +kernel) ?_
  refine tr_iadd dL_law_1898 ?_
  refine tr_xld hL hxs dL_law_1899 (fun v281 => ?_)
  refine tr_aload_n (i := 3) dL_law_1900 rfl ?_
  refine tr_d_wi (ms_cSW (rest := []) (al := [.ref 0, .int v280, .int v281, .ref 517]) (sp_L_bestClass G hG (d - 1) (by omega) σ v280 v281) kl_L_226 fs_L_bestClass dL_law_1901 (show _ = some 4 by decide +kernel) (by omega) (Nat.le_of_ble_eq_true rfl) (by omega) (by omega)) (fun v282 s283 => ?_)
  refine tr_istore (lv' := [(0, .ref 700), (1, .ref 0), (2, .ref 493), (3, .ref 517), (4, .ref 518), (5, .int l5), (6, .int v282)]) [1, 2, 3, 4, 5, 6, 0] dL_law_1904 (by decide) rfl ?_
  refine tr_aload_n (i := 2) dL_law_1906 rfl ?_
  refine tr_aload_n (i := 0) dL_law_1907 rfl ?_
  refine tr_iload (i := 5) dL_law_1908 rfl ?_
  refine tr_iconst (v := 1) dL_law_1910 (by decide +kernel) ?_
  refine tr_iadd dL_law_1911 ?_
  refine tr_xld hL hxs dL_law_1912 (fun v284 => ?_)
  refine tr_aload_n (i := 0) dL_law_1913 rfl ?_
  refine tr_iload (i := 5) dL_law_1914 rfl ?_
  refine tr_iconst (v := 2) dL_law_1916 (by decide +kernel) ?_
  refine tr_iadd dL_law_1917 ?_
  refine tr_xld hL hxs dL_law_1918 (fun v285 => ?_)
  refine tr_d_wi (ms_cV (rest := []) (al := [.int v284, .int v285]) 12 (sp_X12_bestClass G hG (d - 1) (by omega) s283 493 v284 v285 kd_493) kd_493 (by decide +kernel) kl_L_228 fv_X12_bestClass dL_law_1919 (show _ = some 2 by decide +kernel) (by omega) (Nat.le_of_ble_eq_true rfl) (by omega) (by omega)) (fun v286 s287 => ?_)
  refine tr_istore (lv' := [(0, .ref 700), (1, .ref 0), (2, .ref 493), (3, .ref 517), (4, .ref 518), (5, .int l5), (6, .int v282), (7, .int v286)]) [1, 2, 3, 4, 5, 6, 7, 0] dL_law_1922 (by decide) rfl ?_
  refine tr_aload_n (i := 2) dL_law_1924 rfl ?_
  refine tr_c_i (ms_cV (rest := []) (al := []) 12 (sp_X12_thrown G hG (d - 1) (by omega) s287 493 kd_493) kd_493 (by decide +kernel) kl_L_150 fv_X12_thrown dL_law_1925 (show _ = some 0 by decide +kernel) (by omega) (Nat.le_of_ble_eq_true rfl) (by omega) (by omega)) (fun v288 => ?_)
  refine tr_iload (i := 6) dL_law_1928 rfl ?_
  refine tr_iceq (o := none) (tgt := 1935) dL_law_1930 (by decide) ?_ ?_
  · refine tr_iload (i := 6) dL_law_1935 rfl ?_
    refine tr_ifne (o := none) (tgt := 1952) dL_law_1937 (by decide) ?_ ?_
    · refine tr_goto (tgt := 3017) dL_law_1952 (by decide) ?_
      refine tr_weak [0, 1, 2, 3, 4, 5] (lv' := [(0, .ref 700), (1, .ref 0), (2, .ref 493), (3, .ref 517), (4, .ref 518), (5, .int l5)]) rfl ?_
      exact tr_mono (by omega) (by omega) (hk s287 l5)
    · refine tr_aload_n (i := 3) dL_law_1940 rfl ?_
      refine tr_iconst (v := 0) dL_law_1941 (by decide +kernel) ?_
      refine tr_alj kd_517 dL_law_1942 (fun v289 => ?_)
      refine tr_iload (i := 7) dL_law_1943 rfl ?_
      refine tr_i2l dL_law_1945 ?_
      refine tr_lcmp dL_law_1946 ?_
      refine tr_ifeq (o := none) (tgt := 1952) dL_law_1947 (by decide) ?_ ?_
      · refine tr_goto (tgt := 3017) dL_law_1952 (by decide) ?_
        refine tr_weak [0, 1, 2, 3, 4, 5] (lv' := [(0, .ref 700), (1, .ref 0), (2, .ref 493), (3, .ref 517), (4, .ref 518), (5, .int l5)]) rfl ?_
        exact tr_mono (by omega) (by omega) (hk s287 l5)
      · refine tr_iconst (v := 0) dL_law_1950 (by decide +kernel) ?_
        exact tr_zret rfl (by decide +kernel) rfl (by omega) (by omega) dL_law_1951
  · refine tr_iconst (v := 0) dL_law_1933 (by decide +kernel) ?_
    exact tr_zret rfl (by decide +kernel) rfl (by omega) (by omega) dL_law_1934
def f_law_1955 (L : Nat) (xs : Nat → Int32) (k : MsSt → Int32 → Option (Int32 × MsSt)) (σ : MsSt) (l5 : Int32) : Option (Int32 × MsSt) :=
  (ms_xld L xs (l5 + 1)).bind fun v290 =>
  ms_b2 (f_L_meanMarks σ v290) fun v291 s292 =>
  (ms_xld L xs (l5 + 1)).bind fun v293 =>
  ms_b2 (f_X12_meanMarks s292 493 v293) fun v294 s295 =>
  (f_X12_thrown s295 493).bind fun v296 =>
  if v296 = v291 then
    if v291 = 0 then
      (ms_aldd s295 518 0).bind fun v297 =>
      if (Op.cmpValue (FP.dcmp v297 v294) .l) = 0 then
        k s295 l5
      else
        (ms_aldd s295 518 0).bind fun v298 =>
        (ms_aldd s295 518 0).bind fun v299 =>
        if (Op.cmpValue (FP.dcmp v298 v299) .l) = 0 then
          some (0, s295)
        else
          if (Op.cmpValue (FP.dcmp v294 v294) .l) = 0 then
            some (0, s295)
          else
            k s295 l5
    else
      k s295 l5
  else
    some (0, s295)
set_option maxRecDepth 100000 in
theorem t_law_1955 (G : MG) (hG : (g_l G).stackTraces = false) (d : Nat) (hd : 36 ≤ d) (mc ms L : Nat) (xs : Nat → Int32) (hL : L = g_L G) (hxs : xs = g_xs G) (cu su : Nat) (hcu : cu + 4 ≤ mc) (hsu : su + 24 ≤ ms) (k : MsSt → Int32 → Option (Int32 × MsSt)) (hk : ∀ (s : MsSt) (x : Int32), TrO G mL_law d mc ms (cu + 4) (su + 24) ms_wi 3017 [(0, .ref 700), (1, .ref 0), (2, .ref 493), (3, .ref 517), (4, .ref 518), (5, .int x)] [] s (k s x)) (σ : MsSt) (l5 : Int32) : TrO G mL_law d mc ms cu su ms_wi 1955 [(0, .ref 700), (1, .ref 0), (2, .ref 493), (3, .ref 517), (4, .ref 518), (5, .int l5)] [] σ (f_law_1955 L xs k σ l5) := by
  show TrO G mL_law d mc ms cu su ms_wi 1955 [(0, .ref 700), (1, .ref 0), (2, .ref 493), (3, .ref 517), (4, .ref 518), (5, .int l5)] [] σ ((ms_xld L xs (l5 + 1)).bind fun v290 => ms_b2 (f_L_meanMarks σ v290) fun v291 s292 => (ms_xld L xs (l5 + 1)).bind fun v293 => ms_b2 (f_X12_meanMarks s292 493 v293) fun v294 s295 => (f_X12_thrown s295 493).bind fun v296 => if v296 = v291 then if v291 = 0 then (ms_aldd s295 518 0).bind fun v297 => if (Op.cmpValue (FP.dcmp v297 v294) .l) = 0 then k s295 l5 else (ms_aldd s295 518 0).bind fun v298 => (ms_aldd s295 518 0).bind fun v299 => if (Op.cmpValue (FP.dcmp v298 v299) .l) = 0 then some (0, s295) else if (Op.cmpValue (FP.dcmp v294 v294) .l) = 0 then some (0, s295) else k s295 l5 else k s295 l5 else some (0, s295))
  refine tr_aload_n (i := 1) dL_law_1955 rfl ?_
  refine tr_aload_n (i := 0) dL_law_1956 rfl ?_
  refine tr_iload (i := 5) dL_law_1957 rfl ?_
  refine tr_iconst (v := 1) dL_law_1959 (by decide +kernel) ?_
  refine tr_iadd dL_law_1960 ?_
  refine tr_xld hL hxs dL_law_1961 (fun v290 => ?_)
  refine tr_aload (i := 4) dL_law_1962 rfl ?_
  refine tr_d_wi (ms_cSW (rest := []) (al := [.ref 0, .int v290, .ref 518]) (sp_L_meanMarks G hG (d - 1) (by omega) σ v290) kl_L_229 fs_L_meanMarks dL_law_1964 (show _ = some 3 by decide +kernel) (by omega) (Nat.le_of_ble_eq_true rfl) (by omega) (by omega)) (fun v291 s292 => ?_)
  refine tr_istore (lv' := [(0, .ref 700), (1, .ref 0), (2, .ref 493), (3, .ref 517), (4, .ref 518), (5, .int l5), (6, .int v291)]) [1, 2, 3, 4, 5, 6, 0] dL_law_1967 (by decide) rfl ?_
  refine tr_aload_n (i := 2) dL_law_1969 rfl ?_
  refine tr_aload_n (i := 0) dL_law_1970 rfl ?_
  refine tr_iload (i := 5) dL_law_1971 rfl ?_
  refine tr_iconst (v := 1) dL_law_1973 (by decide +kernel) ?_
  refine tr_iadd dL_law_1974 ?_
  refine tr_xld hL hxs dL_law_1975 (fun v293 => ?_)
  refine tr_d_wx (ms_cV (rest := []) (al := [.int v293]) 12 (sp_X12_meanMarks G hG (d - 1) (by omega) s292 493 v293 kd_493) kd_493 (by decide +kernel) kl_L_232 fv_X12_meanMarks dL_law_1976 (show _ = some 1 by decide +kernel) (by omega) (Nat.le_of_ble_eq_true rfl) (by omega) (by omega)) (fun v294 s295 => ?_)
  refine tr_dstore (lv' := [(0, .ref 700), (1, .ref 0), (2, .ref 493), (3, .ref 517), (4, .ref 518), (5, .int l5), (6, .int v291), (7, .double v294)]) [1, 2, 3, 4, 5, 6, 7, 0] dL_law_1979 (by decide) rfl ?_
  refine tr_aload_n (i := 2) dL_law_1981 rfl ?_
  refine tr_c_i (ms_cV (rest := []) (al := []) 12 (sp_X12_thrown G hG (d - 1) (by omega) s295 493 kd_493) kd_493 (by decide +kernel) kl_L_150 fv_X12_thrown dL_law_1982 (show _ = some 0 by decide +kernel) (by omega) (Nat.le_of_ble_eq_true rfl) (by omega) (by omega)) (fun v296 => ?_)
  refine tr_iload (i := 6) dL_law_1985 rfl ?_
  refine tr_iceq (o := none) (tgt := 1992) dL_law_1987 (by decide) ?_ ?_
  · refine tr_iload (i := 6) dL_law_1992 rfl ?_
    refine tr_ifne (o := none) (tgt := 2029) dL_law_1994 (by decide) ?_ ?_
    · refine tr_goto (tgt := 3017) dL_law_2029 (by decide) ?_
      refine tr_weak [0, 1, 2, 3, 4, 5] (lv' := [(0, .ref 700), (1, .ref 0), (2, .ref 493), (3, .ref 517), (4, .ref 518), (5, .int l5)]) rfl ?_
      exact tr_mono (by omega) (by omega) (hk s295 l5)
    · refine tr_aload (i := 4) dL_law_1997 rfl ?_
      refine tr_iconst (v := 0) dL_law_1999 (by decide +kernel) ?_
      refine tr_aldd kd_518 dL_law_2000 (fun v297 => ?_)
      refine tr_dload (i := 7) dL_law_2001 rfl ?_
      refine tr_dcmp dL_law_2003 ?_
      refine tr_ifeq (o := none) (tgt := 2029) dL_law_2004 (by decide) ?_ ?_
      · refine tr_goto (tgt := 3017) dL_law_2029 (by decide) ?_
        refine tr_weak [0, 1, 2, 3, 4, 5] (lv' := [(0, .ref 700), (1, .ref 0), (2, .ref 493), (3, .ref 517), (4, .ref 518), (5, .int l5)]) rfl ?_
        exact tr_mono (by omega) (by omega) (hk s295 l5)
      · refine tr_aload (i := 4) dL_law_2007 rfl ?_
        refine tr_iconst (v := 0) dL_law_2009 (by decide +kernel) ?_
        refine tr_aldd kd_518 dL_law_2010 (fun v298 => ?_)
        refine tr_aload (i := 4) dL_law_2011 rfl ?_
        refine tr_iconst (v := 0) dL_law_2013 (by decide +kernel) ?_
        refine tr_aldd kd_518 dL_law_2014 (fun v299 => ?_)
        refine tr_dcmp dL_law_2015 ?_
        refine tr_ifeq (o := none) (tgt := 2027) dL_law_2016 (by decide) ?_ ?_
        · refine tr_iconst (v := 0) dL_law_2027 (by decide +kernel) ?_
          exact tr_zret rfl (by decide +kernel) rfl (by omega) (by omega) dL_law_2028
        · refine tr_dload (i := 7) dL_law_2019 rfl ?_
          refine tr_dload (i := 7) dL_law_2021 rfl ?_
          refine tr_dcmp dL_law_2023 ?_
          refine tr_ifne (o := none) (tgt := 2029) dL_law_2024 (by decide) ?_ ?_
          · refine tr_goto (tgt := 3017) dL_law_2029 (by decide) ?_
            refine tr_weak [0, 1, 2, 3, 4, 5] (lv' := [(0, .ref 700), (1, .ref 0), (2, .ref 493), (3, .ref 517), (4, .ref 518), (5, .int l5)]) rfl ?_
            exact tr_mono (by omega) (by omega) (hk s295 l5)
          · refine tr_iconst (v := 0) dL_law_2027 (by decide +kernel) ?_
            exact tr_zret rfl (by decide +kernel) rfl (by omega) (by omega) dL_law_2028
  · refine tr_iconst (v := 0) dL_law_1990 (by decide +kernel) ?_
    exact tr_zret rfl (by decide +kernel) rfl (by omega) (by omega) dL_law_1991
def f_law_2032 (L : Nat) (xs : Nat → Int32) (k : MsSt → Int32 → Option (Int32 × MsSt)) (σ : MsSt) (l5 : Int32) : Option (Int32 × MsSt) :=
  (ms_xld L xs (l5 + 1)).bind fun v300 =>
  ms_b2 (f_L_shortness σ v300) fun v301 s302 =>
  (ms_xld L xs (l5 + 1)).bind fun v303 =>
  ms_b2 (f_X12_shortness s302 493 v303) fun v304 s305 =>
  (f_X12_thrown s305 493).bind fun v306 =>
  if v306 = v301 then
    if v301 = 0 then
      (ms_aldd s305 518 0).bind fun v307 =>
      (ms_f2d v304).bind fun v308 =>
      if (Op.cmpValue (FP.dcmp v307 v308) .l) = 0 then
        k s305 l5
      else
        (ms_aldd s305 518 0).bind fun v309 =>
        (ms_aldd s305 518 0).bind fun v310 =>
        if (Op.cmpValue (FP.dcmp v309 v310) .l) = 0 then
          some (0, s305)
        else
          if (Op.cmpValue (FP.fcmp v304 v304) .l) = 0 then
            some (0, s305)
          else
            k s305 l5
    else
      k s305 l5
  else
    some (0, s305)
set_option maxRecDepth 100000 in
theorem t_law_2032 (G : MG) (hG : (g_l G).stackTraces = false) (d : Nat) (hd : 36 ≤ d) (mc ms L : Nat) (xs : Nat → Int32) (hL : L = g_L G) (hxs : xs = g_xs G) (cu su : Nat) (hcu : cu + 4 ≤ mc) (hsu : su + 24 ≤ ms) (k : MsSt → Int32 → Option (Int32 × MsSt)) (hk : ∀ (s : MsSt) (x : Int32), TrO G mL_law d mc ms (cu + 4) (su + 24) ms_wi 3017 [(0, .ref 700), (1, .ref 0), (2, .ref 493), (3, .ref 517), (4, .ref 518), (5, .int x)] [] s (k s x)) (σ : MsSt) (l5 : Int32) : TrO G mL_law d mc ms cu su ms_wi 2032 [(0, .ref 700), (1, .ref 0), (2, .ref 493), (3, .ref 517), (4, .ref 518), (5, .int l5)] [] σ (f_law_2032 L xs k σ l5) := by
  show TrO G mL_law d mc ms cu su ms_wi 2032 [(0, .ref 700), (1, .ref 0), (2, .ref 493), (3, .ref 517), (4, .ref 518), (5, .int l5)] [] σ ((ms_xld L xs (l5 + 1)).bind fun v300 => ms_b2 (f_L_shortness σ v300) fun v301 s302 => (ms_xld L xs (l5 + 1)).bind fun v303 => ms_b2 (f_X12_shortness s302 493 v303) fun v304 s305 => (f_X12_thrown s305 493).bind fun v306 => if v306 = v301 then if v301 = 0 then (ms_aldd s305 518 0).bind fun v307 => (ms_f2d v304).bind fun v308 => if (Op.cmpValue (FP.dcmp v307 v308) .l) = 0 then k s305 l5 else (ms_aldd s305 518 0).bind fun v309 => (ms_aldd s305 518 0).bind fun v310 => if (Op.cmpValue (FP.dcmp v309 v310) .l) = 0 then some (0, s305) else if (Op.cmpValue (FP.fcmp v304 v304) .l) = 0 then some (0, s305) else k s305 l5 else k s305 l5 else some (0, s305))
  refine tr_aload_n (i := 1) dL_law_2032 rfl ?_
  refine tr_aload_n (i := 0) dL_law_2033 rfl ?_
  refine tr_iload (i := 5) dL_law_2034 rfl ?_
  refine tr_iconst (v := 1) dL_law_2036 (by decide +kernel) ?_
  refine tr_iadd dL_law_2037 ?_
  refine tr_xld hL hxs dL_law_2038 (fun v300 => ?_)
  refine tr_aload (i := 4) dL_law_2039 rfl ?_
  refine tr_d_wi (ms_cSW (rest := []) (al := [.ref 0, .int v300, .ref 518]) (sp_L_shortness G hG (d - 1) (by omega) σ v300) kl_L_233 fs_L_shortness dL_law_2041 (show _ = some 3 by decide +kernel) (by omega) (Nat.le_of_ble_eq_true rfl) (by omega) (by omega)) (fun v301 s302 => ?_)
  refine tr_istore (lv' := [(0, .ref 700), (1, .ref 0), (2, .ref 493), (3, .ref 517), (4, .ref 518), (5, .int l5), (6, .int v301)]) [1, 2, 3, 4, 5, 6, 0] dL_law_2044 (by decide) rfl ?_
  refine tr_aload_n (i := 2) dL_law_2046 rfl ?_
  refine tr_aload_n (i := 0) dL_law_2047 rfl ?_
  refine tr_iload (i := 5) dL_law_2048 rfl ?_
  refine tr_iconst (v := 1) dL_law_2050 (by decide +kernel) ?_
  refine tr_iadd dL_law_2051 ?_
  refine tr_xld hL hxs dL_law_2052 (fun v303 => ?_)
  refine tr_d_wf (ms_cV (rest := []) (al := [.int v303]) 12 (sp_X12_shortness G hG (d - 1) (by omega) s302 493 v303 kd_493) kd_493 (by decide +kernel) kl_L_235 fv_X12_shortness dL_law_2053 (show _ = some 1 by decide +kernel) (by omega) (Nat.le_of_ble_eq_true rfl) (by omega) (by omega)) (fun v304 s305 => ?_)
  refine tr_fstore (lv' := [(0, .ref 700), (1, .ref 0), (2, .ref 493), (3, .ref 517), (4, .ref 518), (5, .int l5), (6, .int v301), (7, .float v304)]) [1, 2, 3, 4, 5, 6, 7, 0] dL_law_2056 (by decide) rfl ?_
  refine tr_aload_n (i := 2) dL_law_2058 rfl ?_
  refine tr_c_i (ms_cV (rest := []) (al := []) 12 (sp_X12_thrown G hG (d - 1) (by omega) s305 493 kd_493) kd_493 (by decide +kernel) kl_L_150 fv_X12_thrown dL_law_2059 (show _ = some 0 by decide +kernel) (by omega) (Nat.le_of_ble_eq_true rfl) (by omega) (by omega)) (fun v306 => ?_)
  refine tr_iload (i := 6) dL_law_2062 rfl ?_
  refine tr_iceq (o := none) (tgt := 2069) dL_law_2064 (by decide) ?_ ?_
  · refine tr_iload (i := 6) dL_law_2069 rfl ?_
    refine tr_ifne (o := none) (tgt := 2107) dL_law_2071 (by decide) ?_ ?_
    · refine tr_goto (tgt := 3017) dL_law_2107 (by decide) ?_
      refine tr_weak [0, 1, 2, 3, 4, 5] (lv' := [(0, .ref 700), (1, .ref 0), (2, .ref 493), (3, .ref 517), (4, .ref 518), (5, .int l5)]) rfl ?_
      exact tr_mono (by omega) (by omega) (hk s305 l5)
    · refine tr_aload (i := 4) dL_law_2074 rfl ?_
      refine tr_iconst (v := 0) dL_law_2076 (by decide +kernel) ?_
      refine tr_aldd kd_518 dL_law_2077 (fun v307 => ?_)
      refine tr_fload (i := 7) dL_law_2078 rfl ?_
      refine tr_f2d (o := none) dL_law_2080 (fun v308 => ?_)
      refine tr_dcmp dL_law_2081 ?_
      refine tr_ifeq (o := none) (tgt := 2107) dL_law_2082 (by decide) ?_ ?_
      · refine tr_goto (tgt := 3017) dL_law_2107 (by decide) ?_
        refine tr_weak [0, 1, 2, 3, 4, 5] (lv' := [(0, .ref 700), (1, .ref 0), (2, .ref 493), (3, .ref 517), (4, .ref 518), (5, .int l5)]) rfl ?_
        exact tr_mono (by omega) (by omega) (hk s305 l5)
      · refine tr_aload (i := 4) dL_law_2085 rfl ?_
        refine tr_iconst (v := 0) dL_law_2087 (by decide +kernel) ?_
        refine tr_aldd kd_518 dL_law_2088 (fun v309 => ?_)
        refine tr_aload (i := 4) dL_law_2089 rfl ?_
        refine tr_iconst (v := 0) dL_law_2091 (by decide +kernel) ?_
        refine tr_aldd kd_518 dL_law_2092 (fun v310 => ?_)
        refine tr_dcmp dL_law_2093 ?_
        refine tr_ifeq (o := none) (tgt := 2105) dL_law_2094 (by decide) ?_ ?_
        · refine tr_iconst (v := 0) dL_law_2105 (by decide +kernel) ?_
          exact tr_zret rfl (by decide +kernel) rfl (by omega) (by omega) dL_law_2106
        · refine tr_fload (i := 7) dL_law_2097 rfl ?_
          refine tr_fload (i := 7) dL_law_2099 rfl ?_
          refine tr_fcmp dL_law_2101 ?_
          refine tr_ifne (o := none) (tgt := 2107) dL_law_2102 (by decide) ?_ ?_
          · refine tr_goto (tgt := 3017) dL_law_2107 (by decide) ?_
            refine tr_weak [0, 1, 2, 3, 4, 5] (lv' := [(0, .ref 700), (1, .ref 0), (2, .ref 493), (3, .ref 517), (4, .ref 518), (5, .int l5)]) rfl ?_
            exact tr_mono (by omega) (by omega) (hk s305 l5)
          · refine tr_iconst (v := 0) dL_law_2105 (by decide +kernel) ?_
            exact tr_zret rfl (by decide +kernel) rfl (by omega) (by omega) dL_law_2106
  · refine tr_iconst (v := 0) dL_law_2067 (by decide +kernel) ?_
    exact tr_zret rfl (by decide +kernel) rfl (by omega) (by omega) dL_law_2068
def f_law_2110 (L : Nat) (xs : Nat → Int32) (k : MsSt → Int32 → Option (Int32 × MsSt)) (σ : MsSt) (l5 : Int32) : Option (Int32 × MsSt) :=
  (ms_xld L xs (l5 + 1)).bind fun v311 =>
  ms_b2 (f_L_hand σ v311) fun v312 s313 =>
  (ms_xld L xs (l5 + 1)).bind fun v314 =>
  ms_b2 (f_X12_hand s313 493 v314) fun v315 s316 =>
  (f_X12_thrown s316 493).bind fun v317 =>
  if v317 = v312 then
    if v312 = 0 then
      (ms_alj s316 517 0).bind fun v318 =>
      if (lg_cmp v318 v315.toInt64) = 0 then
        k s316 l5
      else
        some (0, s316)
    else
      k s316 l5
  else
    some (0, s316)
set_option maxRecDepth 100000 in
theorem t_law_2110 (G : MG) (hG : (g_l G).stackTraces = false) (d : Nat) (hd : 36 ≤ d) (mc ms L : Nat) (xs : Nat → Int32) (hL : L = g_L G) (hxs : xs = g_xs G) (cu su : Nat) (hcu : cu + 4 ≤ mc) (hsu : su + 24 ≤ ms) (k : MsSt → Int32 → Option (Int32 × MsSt)) (hk : ∀ (s : MsSt) (x : Int32), TrO G mL_law d mc ms (cu + 4) (su + 24) ms_wi 3017 [(0, .ref 700), (1, .ref 0), (2, .ref 493), (3, .ref 517), (4, .ref 518), (5, .int x)] [] s (k s x)) (σ : MsSt) (l5 : Int32) : TrO G mL_law d mc ms cu su ms_wi 2110 [(0, .ref 700), (1, .ref 0), (2, .ref 493), (3, .ref 517), (4, .ref 518), (5, .int l5)] [] σ (f_law_2110 L xs k σ l5) := by
  show TrO G mL_law d mc ms cu su ms_wi 2110 [(0, .ref 700), (1, .ref 0), (2, .ref 493), (3, .ref 517), (4, .ref 518), (5, .int l5)] [] σ ((ms_xld L xs (l5 + 1)).bind fun v311 => ms_b2 (f_L_hand σ v311) fun v312 s313 => (ms_xld L xs (l5 + 1)).bind fun v314 => ms_b2 (f_X12_hand s313 493 v314) fun v315 s316 => (f_X12_thrown s316 493).bind fun v317 => if v317 = v312 then if v312 = 0 then (ms_alj s316 517 0).bind fun v318 => if (lg_cmp v318 v315.toInt64) = 0 then k s316 l5 else some (0, s316) else k s316 l5 else some (0, s316))
  refine tr_aload_n (i := 1) dL_law_2110 rfl ?_
  refine tr_aload_n (i := 0) dL_law_2111 rfl ?_
  refine tr_iload (i := 5) dL_law_2112 rfl ?_
  refine tr_iconst (v := 1) dL_law_2114 (by decide +kernel) ?_
  refine tr_iadd dL_law_2115 ?_
  refine tr_xld hL hxs dL_law_2116 (fun v311 => ?_)
  refine tr_aload_n (i := 3) dL_law_2117 rfl ?_
  refine tr_d_wi (ms_cSW (rest := []) (al := [.ref 0, .int v311, .ref 517]) (sp_L_hand G hG (d - 1) (by omega) σ v311) kl_L_236 fs_L_hand dL_law_2118 (show _ = some 3 by decide +kernel) (by omega) (Nat.le_of_ble_eq_true rfl) (by omega) (by omega)) (fun v312 s313 => ?_)
  refine tr_istore (lv' := [(0, .ref 700), (1, .ref 0), (2, .ref 493), (3, .ref 517), (4, .ref 518), (5, .int l5), (6, .int v312)]) [1, 2, 3, 4, 5, 6, 0] dL_law_2121 (by decide) rfl ?_
  refine tr_aload_n (i := 2) dL_law_2123 rfl ?_
  refine tr_aload_n (i := 0) dL_law_2124 rfl ?_
  refine tr_iload (i := 5) dL_law_2125 rfl ?_
  refine tr_iconst (v := 1) dL_law_2127 (by decide +kernel) ?_
  refine tr_iadd dL_law_2128 ?_
  refine tr_xld hL hxs dL_law_2129 (fun v314 => ?_)
  refine tr_d_wi (ms_cV (rest := []) (al := [.int v314]) 12 (sp_X12_hand G hG (d - 1) (by omega) s313 493 v314 kd_493) kd_493 (by decide +kernel) kl_L_238 fv_X12_hand dL_law_2130 (show _ = some 1 by decide +kernel) (by omega) (Nat.le_of_ble_eq_true rfl) (by omega) (by omega)) (fun v315 s316 => ?_)
  refine tr_istore (lv' := [(0, .ref 700), (1, .ref 0), (2, .ref 493), (3, .ref 517), (4, .ref 518), (5, .int l5), (6, .int v312), (7, .int v315)]) [1, 2, 3, 4, 5, 6, 7, 0] dL_law_2133 (by decide) rfl ?_
  refine tr_aload_n (i := 2) dL_law_2135 rfl ?_
  refine tr_c_i (ms_cV (rest := []) (al := []) 12 (sp_X12_thrown G hG (d - 1) (by omega) s316 493 kd_493) kd_493 (by decide +kernel) kl_L_150 fv_X12_thrown dL_law_2136 (show _ = some 0 by decide +kernel) (by omega) (Nat.le_of_ble_eq_true rfl) (by omega) (by omega)) (fun v317 => ?_)
  refine tr_iload (i := 6) dL_law_2139 rfl ?_
  refine tr_iceq (o := none) (tgt := 2146) dL_law_2141 (by decide) ?_ ?_
  · refine tr_iload (i := 6) dL_law_2146 rfl ?_
    refine tr_ifne (o := none) (tgt := 2163) dL_law_2148 (by decide) ?_ ?_
    · refine tr_goto (tgt := 3017) dL_law_2163 (by decide) ?_
      refine tr_weak [0, 1, 2, 3, 4, 5] (lv' := [(0, .ref 700), (1, .ref 0), (2, .ref 493), (3, .ref 517), (4, .ref 518), (5, .int l5)]) rfl ?_
      exact tr_mono (by omega) (by omega) (hk s316 l5)
    · refine tr_aload_n (i := 3) dL_law_2151 rfl ?_
      refine tr_iconst (v := 0) dL_law_2152 (by decide +kernel) ?_
      refine tr_alj kd_517 dL_law_2153 (fun v318 => ?_)
      refine tr_iload (i := 7) dL_law_2154 rfl ?_
      refine tr_i2l dL_law_2156 ?_
      refine tr_lcmp dL_law_2157 ?_
      refine tr_ifeq (o := none) (tgt := 2163) dL_law_2158 (by decide) ?_ ?_
      · refine tr_goto (tgt := 3017) dL_law_2163 (by decide) ?_
        refine tr_weak [0, 1, 2, 3, 4, 5] (lv' := [(0, .ref 700), (1, .ref 0), (2, .ref 493), (3, .ref 517), (4, .ref 518), (5, .int l5)]) rfl ?_
        exact tr_mono (by omega) (by omega) (hk s316 l5)
      · refine tr_iconst (v := 0) dL_law_2161 (by decide +kernel) ?_
        exact tr_zret rfl (by decide +kernel) rfl (by omega) (by omega) dL_law_2162
  · refine tr_iconst (v := 0) dL_law_2144 (by decide +kernel) ?_
    exact tr_zret rfl (by decide +kernel) rfl (by omega) (by omega) dL_law_2145
def f_law_2166 (L : Nat) (xs : Nat → Int32) (k : MsSt → Int32 → Option (Int32 × MsSt)) (σ : MsSt) (l5 : Int32) : Option (Int32 × MsSt) :=
  (ms_xld L xs (l5 + 1)).bind fun v319 =>
  (ms_xld L xs (l5 + 2)).bind fun v320 =>
  (ms_xld L xs (l5 + 3)).bind fun v321 =>
  ms_b2 (f_L_type σ v319 v320 v321) fun v322 s323 =>
  (ms_xld L xs (l5 + 1)).bind fun v324 =>
  (ms_xld L xs (l5 + 2)).bind fun v325 =>
  (ms_xld L xs (l5 + 3)).bind fun v326 =>
  ms_b2 (f_X12_type s323 493 v324 v325 v326) fun v327 s328 =>
  (f_X12_thrown s328 493).bind fun v329 =>
  if v329 = v322 then
    if v322 = 0 then
      (ms_alj s328 517 0).bind fun v330 =>
      if (lg_cmp v330 v327.toInt64) = 0 then
        k s328 l5
      else
        some (0, s328)
    else
      k s328 l5
  else
    some (0, s328)
set_option maxRecDepth 100000 in
theorem t_law_2166 (G : MG) (hG : (g_l G).stackTraces = false) (d : Nat) (hd : 36 ≤ d) (mc ms L : Nat) (xs : Nat → Int32) (hL : L = g_L G) (hxs : xs = g_xs G) (cu su : Nat) (hcu : cu + 4 ≤ mc) (hsu : su + 24 ≤ ms) (k : MsSt → Int32 → Option (Int32 × MsSt)) (hk : ∀ (s : MsSt) (x : Int32), TrO G mL_law d mc ms (cu + 4) (su + 24) ms_wi 3017 [(0, .ref 700), (1, .ref 0), (2, .ref 493), (3, .ref 517), (4, .ref 518), (5, .int x)] [] s (k s x)) (σ : MsSt) (l5 : Int32) : TrO G mL_law d mc ms cu su ms_wi 2166 [(0, .ref 700), (1, .ref 0), (2, .ref 493), (3, .ref 517), (4, .ref 518), (5, .int l5)] [] σ (f_law_2166 L xs k σ l5) := by
  show TrO G mL_law d mc ms cu su ms_wi 2166 [(0, .ref 700), (1, .ref 0), (2, .ref 493), (3, .ref 517), (4, .ref 518), (5, .int l5)] [] σ ((ms_xld L xs (l5 + 1)).bind fun v319 => (ms_xld L xs (l5 + 2)).bind fun v320 => (ms_xld L xs (l5 + 3)).bind fun v321 => ms_b2 (f_L_type σ v319 v320 v321) fun v322 s323 => (ms_xld L xs (l5 + 1)).bind fun v324 => (ms_xld L xs (l5 + 2)).bind fun v325 => (ms_xld L xs (l5 + 3)).bind fun v326 => ms_b2 (f_X12_type s323 493 v324 v325 v326) fun v327 s328 => (f_X12_thrown s328 493).bind fun v329 => if v329 = v322 then if v322 = 0 then (ms_alj s328 517 0).bind fun v330 => if (lg_cmp v330 v327.toInt64) = 0 then k s328 l5 else some (0, s328) else k s328 l5 else some (0, s328))
  refine tr_aload_n (i := 1) dL_law_2166 rfl ?_
  refine tr_aload_n (i := 0) dL_law_2167 rfl ?_
  refine tr_iload (i := 5) dL_law_2168 rfl ?_
  refine tr_iconst (v := 1) dL_law_2170 (by decide +kernel) ?_
  refine tr_iadd dL_law_2171 ?_
  refine tr_xld hL hxs dL_law_2172 (fun v319 => ?_)
  refine tr_aload_n (i := 0) dL_law_2173 rfl ?_
  refine tr_iload (i := 5) dL_law_2174 rfl ?_
  refine tr_iconst (v := 2) dL_law_2176 (by decide +kernel) ?_
  refine tr_iadd dL_law_2177 ?_
  refine tr_xld hL hxs dL_law_2178 (fun v320 => ?_)
  refine tr_aload_n (i := 0) dL_law_2179 rfl ?_
  refine tr_iload (i := 5) dL_law_2180 rfl ?_
  refine tr_iconst (v := 3) dL_law_2182 (by decide +kernel) ?_
  refine tr_iadd dL_law_2183 ?_
  refine tr_xld hL hxs dL_law_2184 (fun v321 => ?_)
  refine tr_aload_n (i := 3) dL_law_2185 rfl ?_
  refine tr_d_wi (ms_cSW (rest := []) (al := [.ref 0, .int v319, .int v320, .int v321, .ref 517]) (sp_L_type G hG (d - 1) (by omega) σ v319 v320 v321) kl_L_239 fs_L_type dL_law_2186 (show _ = some 5 by decide +kernel) (by omega) (Nat.le_of_ble_eq_true rfl) (by omega) (by omega)) (fun v322 s323 => ?_)
  refine tr_istore (lv' := [(0, .ref 700), (1, .ref 0), (2, .ref 493), (3, .ref 517), (4, .ref 518), (5, .int l5), (6, .int v322)]) [1, 2, 3, 4, 5, 6, 0] dL_law_2189 (by decide) rfl ?_
  refine tr_aload_n (i := 2) dL_law_2191 rfl ?_
  refine tr_aload_n (i := 0) dL_law_2192 rfl ?_
  refine tr_iload (i := 5) dL_law_2193 rfl ?_
  refine tr_iconst (v := 1) dL_law_2195 (by decide +kernel) ?_
  refine tr_iadd dL_law_2196 ?_
  refine tr_xld hL hxs dL_law_2197 (fun v324 => ?_)
  refine tr_aload_n (i := 0) dL_law_2198 rfl ?_
  refine tr_iload (i := 5) dL_law_2199 rfl ?_
  refine tr_iconst (v := 2) dL_law_2201 (by decide +kernel) ?_
  refine tr_iadd dL_law_2202 ?_
  refine tr_xld hL hxs dL_law_2203 (fun v325 => ?_)
  refine tr_aload_n (i := 0) dL_law_2204 rfl ?_
  refine tr_iload (i := 5) dL_law_2205 rfl ?_
  refine tr_iconst (v := 3) dL_law_2207 (by decide +kernel) ?_
  refine tr_iadd dL_law_2208 ?_
  refine tr_xld hL hxs dL_law_2209 (fun v326 => ?_)
  refine tr_d_wi (ms_cV (rest := []) (al := [.int v324, .int v325, .int v326]) 12 (sp_X12_type G hG (d - 1) (by omega) s323 493 v324 v325 v326 kd_493) kd_493 (by decide +kernel) kl_L_241 fv_X12_type dL_law_2210 (show _ = some 3 by decide +kernel) (by omega) (Nat.le_of_ble_eq_true rfl) (by omega) (by omega)) (fun v327 s328 => ?_)
  refine tr_istore (lv' := [(0, .ref 700), (1, .ref 0), (2, .ref 493), (3, .ref 517), (4, .ref 518), (5, .int l5), (6, .int v322), (7, .int v327)]) [1, 2, 3, 4, 5, 6, 7, 0] dL_law_2213 (by decide) rfl ?_
  refine tr_aload_n (i := 2) dL_law_2215 rfl ?_
  refine tr_c_i (ms_cV (rest := []) (al := []) 12 (sp_X12_thrown G hG (d - 1) (by omega) s328 493 kd_493) kd_493 (by decide +kernel) kl_L_150 fv_X12_thrown dL_law_2216 (show _ = some 0 by decide +kernel) (by omega) (Nat.le_of_ble_eq_true rfl) (by omega) (by omega)) (fun v329 => ?_)
  refine tr_iload (i := 6) dL_law_2219 rfl ?_
  refine tr_iceq (o := none) (tgt := 2226) dL_law_2221 (by decide) ?_ ?_
  · refine tr_iload (i := 6) dL_law_2226 rfl ?_
    refine tr_ifne (o := none) (tgt := 2243) dL_law_2228 (by decide) ?_ ?_
    · refine tr_goto (tgt := 3017) dL_law_2243 (by decide) ?_
      refine tr_weak [0, 1, 2, 3, 4, 5] (lv' := [(0, .ref 700), (1, .ref 0), (2, .ref 493), (3, .ref 517), (4, .ref 518), (5, .int l5)]) rfl ?_
      exact tr_mono (by omega) (by omega) (hk s328 l5)
    · refine tr_aload_n (i := 3) dL_law_2231 rfl ?_
      refine tr_iconst (v := 0) dL_law_2232 (by decide +kernel) ?_
      refine tr_alj kd_517 dL_law_2233 (fun v330 => ?_)
      refine tr_iload (i := 7) dL_law_2234 rfl ?_
      refine tr_i2l dL_law_2236 ?_
      refine tr_lcmp dL_law_2237 ?_
      refine tr_ifeq (o := none) (tgt := 2243) dL_law_2238 (by decide) ?_ ?_
      · refine tr_goto (tgt := 3017) dL_law_2243 (by decide) ?_
        refine tr_weak [0, 1, 2, 3, 4, 5] (lv' := [(0, .ref 700), (1, .ref 0), (2, .ref 493), (3, .ref 517), (4, .ref 518), (5, .int l5)]) rfl ?_
        exact tr_mono (by omega) (by omega) (hk s328 l5)
      · refine tr_iconst (v := 0) dL_law_2241 (by decide +kernel) ?_
        exact tr_zret rfl (by decide +kernel) rfl (by omega) (by omega) dL_law_2242
  · refine tr_iconst (v := 0) dL_law_2224 (by decide +kernel) ?_
    exact tr_zret rfl (by decide +kernel) rfl (by omega) (by omega) dL_law_2225
def f_law_2246 (L : Nat) (xs : Nat → Int32) (k : MsSt → Int32 → Option (Int32 × MsSt)) (σ : MsSt) (l5 : Int32) : Option (Int32 × MsSt) :=
  (ms_xld L xs (l5 + 1)).bind fun v331 =>
  (ms_xld L xs (l5 + 2)).bind fun v332 =>
  (ms_xld L xs (l5 + 3)).bind fun v333 =>
  ms_b2 (f_L_erase σ v331 v332 v333) fun v334 s335 =>
  (ms_xld L xs (l5 + 1)).bind fun v336 =>
  (ms_xld L xs (l5 + 2)).bind fun v337 =>
  (ms_xld L xs (l5 + 3)).bind fun v338 =>
  ms_b2 (f_X12_erase s335 493 v336 v337 v338) fun v339 s340 =>
  (f_X12_thrown s340 493).bind fun v341 =>
  if v341 = v334 then
    if v334 = 0 then
      (ms_alj s340 517 0).bind fun v342 =>
      if (lg_cmp v342 v339.toInt64) = 0 then
        k s340 l5
      else
        some (0, s340)
    else
      k s340 l5
  else
    some (0, s340)
set_option maxRecDepth 100000 in
theorem t_law_2246 (G : MG) (hG : (g_l G).stackTraces = false) (d : Nat) (hd : 36 ≤ d) (mc ms L : Nat) (xs : Nat → Int32) (hL : L = g_L G) (hxs : xs = g_xs G) (cu su : Nat) (hcu : cu + 4 ≤ mc) (hsu : su + 24 ≤ ms) (k : MsSt → Int32 → Option (Int32 × MsSt)) (hk : ∀ (s : MsSt) (x : Int32), TrO G mL_law d mc ms (cu + 4) (su + 24) ms_wi 3017 [(0, .ref 700), (1, .ref 0), (2, .ref 493), (3, .ref 517), (4, .ref 518), (5, .int x)] [] s (k s x)) (σ : MsSt) (l5 : Int32) : TrO G mL_law d mc ms cu su ms_wi 2246 [(0, .ref 700), (1, .ref 0), (2, .ref 493), (3, .ref 517), (4, .ref 518), (5, .int l5)] [] σ (f_law_2246 L xs k σ l5) := by
  show TrO G mL_law d mc ms cu su ms_wi 2246 [(0, .ref 700), (1, .ref 0), (2, .ref 493), (3, .ref 517), (4, .ref 518), (5, .int l5)] [] σ ((ms_xld L xs (l5 + 1)).bind fun v331 => (ms_xld L xs (l5 + 2)).bind fun v332 => (ms_xld L xs (l5 + 3)).bind fun v333 => ms_b2 (f_L_erase σ v331 v332 v333) fun v334 s335 => (ms_xld L xs (l5 + 1)).bind fun v336 => (ms_xld L xs (l5 + 2)).bind fun v337 => (ms_xld L xs (l5 + 3)).bind fun v338 => ms_b2 (f_X12_erase s335 493 v336 v337 v338) fun v339 s340 => (f_X12_thrown s340 493).bind fun v341 => if v341 = v334 then if v334 = 0 then (ms_alj s340 517 0).bind fun v342 => if (lg_cmp v342 v339.toInt64) = 0 then k s340 l5 else some (0, s340) else k s340 l5 else some (0, s340))
  refine tr_aload_n (i := 1) dL_law_2246 rfl ?_
  refine tr_aload_n (i := 0) dL_law_2247 rfl ?_
  refine tr_iload (i := 5) dL_law_2248 rfl ?_
  refine tr_iconst (v := 1) dL_law_2250 (by decide +kernel) ?_
  refine tr_iadd dL_law_2251 ?_
  refine tr_xld hL hxs dL_law_2252 (fun v331 => ?_)
  refine tr_aload_n (i := 0) dL_law_2253 rfl ?_
  refine tr_iload (i := 5) dL_law_2254 rfl ?_
  refine tr_iconst (v := 2) dL_law_2256 (by decide +kernel) ?_
  refine tr_iadd dL_law_2257 ?_
  refine tr_xld hL hxs dL_law_2258 (fun v332 => ?_)
  refine tr_aload_n (i := 0) dL_law_2259 rfl ?_
  refine tr_iload (i := 5) dL_law_2260 rfl ?_
  refine tr_iconst (v := 3) dL_law_2262 (by decide +kernel) ?_
  refine tr_iadd dL_law_2263 ?_
  refine tr_xld hL hxs dL_law_2264 (fun v333 => ?_)
  refine tr_aload_n (i := 3) dL_law_2265 rfl ?_
  refine tr_d_wi (ms_cSW (rest := []) (al := [.ref 0, .int v331, .int v332, .int v333, .ref 517]) (sp_L_erase G hG (d - 1) (by omega) σ v331 v332 v333) kl_L_242 fs_L_erase dL_law_2266 (show _ = some 5 by decide +kernel) (by omega) (Nat.le_of_ble_eq_true rfl) (by omega) (by omega)) (fun v334 s335 => ?_)
  refine tr_istore (lv' := [(0, .ref 700), (1, .ref 0), (2, .ref 493), (3, .ref 517), (4, .ref 518), (5, .int l5), (6, .int v334)]) [1, 2, 3, 4, 5, 6, 0] dL_law_2269 (by decide) rfl ?_
  refine tr_aload_n (i := 2) dL_law_2271 rfl ?_
  refine tr_aload_n (i := 0) dL_law_2272 rfl ?_
  refine tr_iload (i := 5) dL_law_2273 rfl ?_
  refine tr_iconst (v := 1) dL_law_2275 (by decide +kernel) ?_
  refine tr_iadd dL_law_2276 ?_
  refine tr_xld hL hxs dL_law_2277 (fun v336 => ?_)
  refine tr_aload_n (i := 0) dL_law_2278 rfl ?_
  refine tr_iload (i := 5) dL_law_2279 rfl ?_
  refine tr_iconst (v := 2) dL_law_2281 (by decide +kernel) ?_
  refine tr_iadd dL_law_2282 ?_
  refine tr_xld hL hxs dL_law_2283 (fun v337 => ?_)
  refine tr_aload_n (i := 0) dL_law_2284 rfl ?_
  refine tr_iload (i := 5) dL_law_2285 rfl ?_
  refine tr_iconst (v := 3) dL_law_2287 (by decide +kernel) ?_
  refine tr_iadd dL_law_2288 ?_
  refine tr_xld hL hxs dL_law_2289 (fun v338 => ?_)
  refine tr_d_wi (ms_cV (rest := []) (al := [.int v336, .int v337, .int v338]) 12 (sp_X12_erase G hG (d - 1) (by omega) s335 493 v336 v337 v338 kd_493) kd_493 (by decide +kernel) kl_L_244 fv_X12_erase dL_law_2290 (show _ = some 3 by decide +kernel) (by omega) (Nat.le_of_ble_eq_true rfl) (by omega) (by omega)) (fun v339 s340 => ?_)
  refine tr_istore (lv' := [(0, .ref 700), (1, .ref 0), (2, .ref 493), (3, .ref 517), (4, .ref 518), (5, .int l5), (6, .int v334), (7, .int v339)]) [1, 2, 3, 4, 5, 6, 7, 0] dL_law_2293 (by decide) rfl ?_
  refine tr_aload_n (i := 2) dL_law_2295 rfl ?_
  refine tr_c_i (ms_cV (rest := []) (al := []) 12 (sp_X12_thrown G hG (d - 1) (by omega) s340 493 kd_493) kd_493 (by decide +kernel) kl_L_150 fv_X12_thrown dL_law_2296 (show _ = some 0 by decide +kernel) (by omega) (Nat.le_of_ble_eq_true rfl) (by omega) (by omega)) (fun v341 => ?_)
  refine tr_iload (i := 6) dL_law_2299 rfl ?_
  refine tr_iceq (o := none) (tgt := 2306) dL_law_2301 (by decide) ?_ ?_
  · refine tr_iload (i := 6) dL_law_2306 rfl ?_
    refine tr_ifne (o := none) (tgt := 2323) dL_law_2308 (by decide) ?_ ?_
    · refine tr_goto (tgt := 3017) dL_law_2323 (by decide) ?_
      refine tr_weak [0, 1, 2, 3, 4, 5] (lv' := [(0, .ref 700), (1, .ref 0), (2, .ref 493), (3, .ref 517), (4, .ref 518), (5, .int l5)]) rfl ?_
      exact tr_mono (by omega) (by omega) (hk s340 l5)
    · refine tr_aload_n (i := 3) dL_law_2311 rfl ?_
      refine tr_iconst (v := 0) dL_law_2312 (by decide +kernel) ?_
      refine tr_alj kd_517 dL_law_2313 (fun v342 => ?_)
      refine tr_iload (i := 7) dL_law_2314 rfl ?_
      refine tr_i2l dL_law_2316 ?_
      refine tr_lcmp dL_law_2317 ?_
      refine tr_ifeq (o := none) (tgt := 2323) dL_law_2318 (by decide) ?_ ?_
      · refine tr_goto (tgt := 3017) dL_law_2323 (by decide) ?_
        refine tr_weak [0, 1, 2, 3, 4, 5] (lv' := [(0, .ref 700), (1, .ref 0), (2, .ref 493), (3, .ref 517), (4, .ref 518), (5, .int l5)]) rfl ?_
        exact tr_mono (by omega) (by omega) (hk s340 l5)
      · refine tr_iconst (v := 0) dL_law_2321 (by decide +kernel) ?_
        exact tr_zret rfl (by decide +kernel) rfl (by omega) (by omega) dL_law_2322
  · refine tr_iconst (v := 0) dL_law_2304 (by decide +kernel) ?_
    exact tr_zret rfl (by decide +kernel) rfl (by omega) (by omega) dL_law_2305
