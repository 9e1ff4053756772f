/-! the law's loop, by program (wip/whole/gen/law.py): the methods that it calls -/
abbrev mL_law : MM := (RL, cL_law, 9, some .boolean, yL_law, [])
theorem kl_L_139 : Cond.methodLink RL 139 yX10_feed ∈ lw_tbl := List.mem_of_getElem? (i := 586) (by decide +kernel)
theorem kl_L_143 : Cond.methodLink RL 143 yX12_feed ∈ lw_tbl := List.mem_of_getElem? (i := 2159) (by decide +kernel)
theorem kl_L_144 : Cond.methodLink RL 144 yL_load ∈ lw_tbl := List.mem_of_getElem? (i := 675) (by decide +kernel)
theorem kl_L_149 : Cond.methodLink RL 149 yX12_load ∈ lw_tbl := List.mem_of_getElem? (i := 2167) (by decide +kernel)
theorem kl_L_150 : Cond.methodLink RL 150 yX12_thrown ∈ lw_tbl := List.mem_of_getElem? (i := 1769) (by decide +kernel)
theorem kl_L_154 : Cond.methodLink RL 154 yX10_errorPosition ∈ lw_tbl := List.mem_of_getElem? (i := 598) (by decide +kernel)
theorem kl_L_157 : Cond.methodLink RL 157 yX12_errorPosition ∈ lw_tbl := List.mem_of_getElem? (i := 2163) (by decide +kernel)
theorem kl_L_158 : Cond.methodLink RL 158 yL_size ∈ lw_tbl := List.mem_of_getElem? (i := 979) (by decide +kernel)
theorem kl_L_160 : Cond.methodLink RL 160 yX12_size ∈ lw_tbl := List.mem_of_getElem? (i := 1773) (by decide +kernel)
theorem kl_L_161 : Cond.methodLink RL 161 yL_sign ∈ lw_tbl := List.mem_of_getElem? (i := 1014) (by decide +kernel)
theorem kl_L_164 : Cond.methodLink RL 164 yX12_sign ∈ lw_tbl := List.mem_of_getElem? (i := 1796) (by decide +kernel)
theorem kl_L_165 : Cond.methodLink RL 165 yL_letter ∈ lw_tbl := List.mem_of_getElem? (i := 1038) (by decide +kernel)
theorem kl_L_167 : Cond.methodLink RL 167 yX12_letter ∈ lw_tbl := List.mem_of_getElem? (i := 1822) (by decide +kernel)
theorem kl_L_168 : Cond.methodLink RL 168 yL_expanded ∈ lw_tbl := List.mem_of_getElem? (i := 1050) (by decide +kernel)
theorem kl_L_170 : Cond.methodLink RL 170 yX12_expanded ∈ lw_tbl := List.mem_of_getElem? (i := 1826) (by decide +kernel)
theorem kl_L_171 : Cond.methodLink RL 171 yL_pairOf ∈ lw_tbl := List.mem_of_getElem? (i := 1062) (by decide +kernel)
theorem kl_L_173 : Cond.methodLink RL 173 yX12_pairOf ∈ lw_tbl := List.mem_of_getElem? (i := 1834) (by decide +kernel)
theorem kl_L_174 : Cond.methodLink RL 174 yL_used ∈ lw_tbl := List.mem_of_getElem? (i := 1070) (by decide +kernel)
theorem kl_L_176 : Cond.methodLink RL 176 yX12_used ∈ lw_tbl := List.mem_of_getElem? (i := 1841) (by decide +kernel)
theorem kl_L_177 : Cond.methodLink RL 177 yL_recomposed ∈ lw_tbl := List.mem_of_getElem? (i := 1081) (by decide +kernel)
theorem kl_L_179 : Cond.methodLink RL 179 yX12_recomposed ∈ lw_tbl := List.mem_of_getElem? (i := 1845) (by decide +kernel)
theorem kl_L_180 : Cond.methodLink RL 180 yL_line ∈ lw_tbl := List.mem_of_getElem? (i := 1135) (by decide +kernel)
theorem kl_L_182 : Cond.methodLink RL 182 yX12_line ∈ lw_tbl := List.mem_of_getElem? (i := 1865) (by decide +kernel)
theorem kl_L_183 : Cond.methodLink RL 183 yL_at ∈ lw_tbl := List.mem_of_getElem? (i := 1227) (by decide +kernel)
theorem kl_L_186 : Cond.methodLink RL 186 yX12_at ∈ lw_tbl := List.mem_of_getElem? (i := 1935) (by decide +kernel)
theorem kl_L_187 : Cond.methodLink RL 187 yL_unlike ∈ lw_tbl := List.mem_of_getElem? (i := 1238) (by decide +kernel)
theorem kl_L_189 : Cond.methodLink RL 189 yX12_unlike ∈ lw_tbl := List.mem_of_getElem? (i := 1952) (by decide +kernel)
theorem kl_L_190 : Cond.methodLink RL 190 yL_clusterOf ∈ lw_tbl := List.mem_of_getElem? (i := 1249) (by decide +kernel)
theorem kl_L_192 : Cond.methodLink RL 192 yX12_clusterOf ∈ lw_tbl := List.mem_of_getElem? (i := 1956) (by decide +kernel)
theorem kl_L_193 : Cond.methodLink RL 193 yL_cluster ∈ lw_tbl := List.mem_of_getElem? (i := 1261) (by decide +kernel)
theorem kl_L_195 : Cond.methodLink RL 195 yX12_cluster ∈ lw_tbl := List.mem_of_getElem? (i := 1968) (by decide +kernel)
theorem kl_L_196 : Cond.methodLink RL 196 yL_box ∈ lw_tbl := List.mem_of_getElem? (i := 1276) (by decide +kernel)
theorem kl_L_199 : Cond.methodLink RL 199 yX12_box ∈ lw_tbl := List.mem_of_getElem? (i := 1984) (by decide +kernel)
theorem kl_L_200 : Cond.methodLink RL 200 yL_spellings ∈ lw_tbl := List.mem_of_getElem? (i := 1283) (by decide +kernel)
theorem kl_L_202 : Cond.methodLink RL 202 yX12_spellings ∈ lw_tbl := List.mem_of_getElem? (i := 1989) (by decide +kernel)
theorem kl_L_203 : Cond.methodLink RL 203 yL_clashes ∈ lw_tbl := List.mem_of_getElem? (i := 1295) (by decide +kernel)
theorem kl_L_205 : Cond.methodLink RL 205 yX12_clashes ∈ lw_tbl := List.mem_of_getElem? (i := 1994) (by decide +kernel)
theorem kl_L_206 : Cond.methodLink RL 206 yL_fullest ∈ lw_tbl := List.mem_of_getElem? (i := 1302) (by decide +kernel)
theorem kl_L_208 : Cond.methodLink RL 208 yX12_fullest ∈ lw_tbl := List.mem_of_getElem? (i := 1998) (by decide +kernel)
theorem kl_L_209 : Cond.methodLink RL 209 yL_compare ∈ lw_tbl := List.mem_of_getElem? (i := 1309) (by decide +kernel)
theorem kl_L_211 : Cond.methodLink RL 211 yX12_compare ∈ lw_tbl := List.mem_of_getElem? (i := 2002) (by decide +kernel)
theorem kl_L_212 : Cond.methodLink RL 212 yL_areBare ∈ lw_tbl := List.mem_of_getElem? (i := 1320) (by decide +kernel)
theorem kl_L_214 : Cond.methodLink RL 214 yX12_areBare ∈ lw_tbl := List.mem_of_getElem? (i := 2014) (by decide +kernel)
theorem kl_L_215 : Cond.methodLink RL 215 yL_matches ∈ lw_tbl := List.mem_of_getElem? (i := 1335) (by decide +kernel)
theorem kl_L_218 : Cond.methodLink RL 218 yX12_matches ∈ lw_tbl := List.mem_of_getElem? (i := 2022) (by decide +kernel)
theorem kl_L_219 : Cond.methodLink RL 219 yL_match ∈ lw_tbl := List.mem_of_getElem? (i := 1342) (by decide +kernel)
theorem kl_L_222 : Cond.methodLink RL 222 yX12_match ∈ lw_tbl := List.mem_of_getElem? (i := 2038) (by decide +kernel)
theorem kl_L_223 : Cond.methodLink RL 223 yL_saved ∈ lw_tbl := List.mem_of_getElem? (i := 1350) (by decide +kernel)
theorem kl_L_225 : Cond.methodLink RL 225 yX12_saved ∈ lw_tbl := List.mem_of_getElem? (i := 2042) (by decide +kernel)
theorem kl_L_226 : Cond.methodLink RL 226 yL_bestClass ∈ lw_tbl := List.mem_of_getElem? (i := 1358) (by decide +kernel)
theorem kl_L_228 : Cond.methodLink RL 228 yX12_bestClass ∈ lw_tbl := List.mem_of_getElem? (i := 2046) (by decide +kernel)
theorem kl_L_229 : Cond.methodLink RL 229 yL_meanMarks ∈ lw_tbl := List.mem_of_getElem? (i := 1370) (by decide +kernel)
theorem kl_L_232 : Cond.methodLink RL 232 yX12_meanMarks ∈ lw_tbl := List.mem_of_getElem? (i := 2054) (by decide +kernel)
theorem kl_L_233 : Cond.methodLink RL 233 yL_shortness ∈ lw_tbl := List.mem_of_getElem? (i := 1377) (by decide +kernel)
theorem kl_L_235 : Cond.methodLink RL 235 yX12_shortness ∈ lw_tbl := List.mem_of_getElem? (i := 2058) (by decide +kernel)
theorem kl_L_236 : Cond.methodLink RL 236 yL_hand ∈ lw_tbl := List.mem_of_getElem? (i := 1384) (by decide +kernel)
theorem kl_L_238 : Cond.methodLink RL 238 yX12_hand ∈ lw_tbl := List.mem_of_getElem? (i := 2062) (by decide +kernel)
theorem kl_L_239 : Cond.methodLink RL 239 yL_type ∈ lw_tbl := List.mem_of_getElem? (i := 1397) (by decide +kernel)
theorem kl_L_241 : Cond.methodLink RL 241 yX12_type ∈ lw_tbl := List.mem_of_getElem? (i := 2073) (by decide +kernel)
theorem kl_L_242 : Cond.methodLink RL 242 yL_erase ∈ lw_tbl := List.mem_of_getElem? (i := 1413) (by decide +kernel)
theorem kl_L_244 : Cond.methodLink RL 244 yX12_erase ∈ lw_tbl := List.mem_of_getElem? (i := 2077) (by decide +kernel)
theorem kl_L_245 : Cond.methodLink RL 245 yL_stack ∈ lw_tbl := List.mem_of_getElem? (i := 1424) (by decide +kernel)
theorem kl_L_247 : Cond.methodLink RL 247 yX12_stack ∈ lw_tbl := List.mem_of_getElem? (i := 2085) (by decide +kernel)
theorem kl_L_248 : Cond.methodLink RL 248 yL_strip ∈ lw_tbl := List.mem_of_getElem? (i := 1438) (by decide +kernel)
theorem kl_L_250 : Cond.methodLink RL 250 yX12_strip ∈ lw_tbl := List.mem_of_getElem? (i := 2093) (by decide +kernel)
theorem kl_L_251 : Cond.methodLink RL 251 yL_decompose ∈ lw_tbl := List.mem_of_getElem? (i := 1457) (by decide +kernel)
theorem kl_L_253 : Cond.methodLink RL 253 yX12_decompose ∈ lw_tbl := List.mem_of_getElem? (i := 2098) (by decide +kernel)
theorem kl_L_254 : Cond.methodLink RL 254 yL_compose ∈ lw_tbl := List.mem_of_getElem? (i := 1468) (by decide +kernel)
theorem kl_L_256 : Cond.methodLink RL 256 yX12_compose ∈ lw_tbl := List.mem_of_getElem? (i := 2106) (by decide +kernel)
theorem kl_L_257 : Cond.methodLink RL 257 yL_join ∈ lw_tbl := List.mem_of_getElem? (i := 1475) (by decide +kernel)
theorem kl_L_259 : Cond.methodLink RL 259 yX12_join ∈ lw_tbl := List.mem_of_getElem? (i := 2110) (by decide +kernel)
theorem kl_L_260 : Cond.methodLink RL 260 yL_setClass ∈ lw_tbl := List.mem_of_getElem? (i := 1483) (by decide +kernel)
theorem kl_L_262 : Cond.methodLink RL 262 yX12_setClass ∈ lw_tbl := List.mem_of_getElem? (i := 2114) (by decide +kernel)
theorem kl_L_263 : Cond.methodLink RL 263 yL_setSpare ∈ lw_tbl := List.mem_of_getElem? (i := 1490) (by decide +kernel)
theorem kl_L_266 : Cond.methodLink RL 266 yX12_setSpare ∈ lw_tbl := List.mem_of_getElem? (i := 2123) (by decide +kernel)
theorem kl_L_267 : Cond.methodLink RL 267 yL_format ∈ lw_tbl := List.mem_of_getElem? (i := 1497) (by decide +kernel)
theorem kl_L_269 : Cond.methodLink RL 269 yX12_format ∈ lw_tbl := List.mem_of_getElem? (i := 2127) (by decide +kernel)
theorem kl_L_270 : Cond.methodLink RL 270 yX10_formattedByte ∈ lw_tbl := List.mem_of_getElem? (i := 602) (by decide +kernel)
theorem kl_L_273 : Cond.methodLink RL 273 yX12_formattedByte ∈ lw_tbl := List.mem_of_getElem? (i := 2139) (by decide +kernel)
theorem kl_L_274 : Cond.methodLink RL 274 yX10_undoCount ∈ lw_tbl := List.mem_of_getElem? (i := 610) (by decide +kernel)
theorem kl_L_277 : Cond.methodLink RL 277 yX12_undoCount ∈ lw_tbl := List.mem_of_getElem? (i := 2143) (by decide +kernel)
theorem kl_L_278 : Cond.methodLink RL 278 yX10_undo ∈ lw_tbl := List.mem_of_getElem? (i := 614) (by decide +kernel)
theorem kl_L_281 : Cond.methodLink RL 281 yX12_undo ∈ lw_tbl := List.mem_of_getElem? (i := 2147) (by decide +kernel)
theorem kl_L_282 : Cond.methodLink RL 282 yX10_saveSnapshot ∈ lw_tbl := List.mem_of_getElem? (i := 656) (by decide +kernel)
theorem kl_L_285 : Cond.methodLink RL 285 yX12_saveSnapshot ∈ lw_tbl := List.mem_of_getElem? (i := 2151) (by decide +kernel)
theorem kl_L_286 : Cond.methodLink RL 286 yX10_restoreSnapshot ∈ lw_tbl := List.mem_of_getElem? (i := 666) (by decide +kernel)
theorem kl_L_290 : Cond.methodLink RL 290 yX12_restoreSnapshot ∈ lw_tbl := List.mem_of_getElem? (i := 2155) (by decide +kernel)
theorem kl_L_291 : Cond.methodLink RL 291 yL_query ∈ lw_tbl := List.mem_of_getElem? (i := 1508) (by decide +kernel)
theorem kl_L_293 : Cond.methodLink RL 293 yX12_query ∈ lw_tbl := List.mem_of_getElem? (i := 2303) (by decide +kernel)
theorem fv_X10_errorPosition : MsYV mX10_errorPosition := ⟨List.mem_of_getElem? (i := 599) (by decide +kernel), List.mem_of_getElem? (i := 600) (by decide +kernel), List.mem_of_getElem? (i := 139) (by decide +kernel), List.mem_of_getElem? (i := 601) (by decide +kernel), by decide +kernel, by decide +kernel, by decide⟩
theorem fv_X10_feed : MsYV mX10_feed := ⟨List.mem_of_getElem? (i := 587) (by decide +kernel), List.mem_of_getElem? (i := 588) (by decide +kernel), List.mem_of_getElem? (i := 139) (by decide +kernel), List.mem_of_getElem? (i := 589) (by decide +kernel), by decide +kernel, by decide +kernel, by decide⟩
theorem fv_X10_formattedByte : MsYV mX10_formattedByte := ⟨List.mem_of_getElem? (i := 603) (by decide +kernel), List.mem_of_getElem? (i := 604) (by decide +kernel), List.mem_of_getElem? (i := 139) (by decide +kernel), List.mem_of_getElem? (i := 605) (by decide +kernel), by decide +kernel, by decide +kernel, by decide⟩
theorem fv_X10_restoreSnapshot : MsYV mX10_restoreSnapshot := ⟨List.mem_of_getElem? (i := 667) (by decide +kernel), List.mem_of_getElem? (i := 668) (by decide +kernel), List.mem_of_getElem? (i := 139) (by decide +kernel), List.mem_of_getElem? (i := 669) (by decide +kernel), by decide +kernel, by decide +kernel, by decide⟩
theorem fv_X10_saveSnapshot : MsYV mX10_saveSnapshot := ⟨List.mem_of_getElem? (i := 657) (by decide +kernel), List.mem_of_getElem? (i := 658) (by decide +kernel), List.mem_of_getElem? (i := 139) (by decide +kernel), List.mem_of_getElem? (i := 659) (by decide +kernel), by decide +kernel, by decide +kernel, by decide⟩
theorem fv_X10_undo : MsYV mX10_undo := ⟨List.mem_of_getElem? (i := 615) (by decide +kernel), List.mem_of_getElem? (i := 616) (by decide +kernel), List.mem_of_getElem? (i := 139) (by decide +kernel), List.mem_of_getElem? (i := 617) (by decide +kernel), by decide +kernel, by decide +kernel, by decide⟩
theorem fv_X10_undoCount : MsYV mX10_undoCount := ⟨List.mem_of_getElem? (i := 611) (by decide +kernel), List.mem_of_getElem? (i := 612) (by decide +kernel), List.mem_of_getElem? (i := 139) (by decide +kernel), List.mem_of_getElem? (i := 613) (by decide +kernel), by decide +kernel, by decide +kernel, by decide⟩
theorem fv_X12_areBare : MsYV mX12_areBare := ⟨List.mem_of_getElem? (i := 2015) (by decide +kernel), List.mem_of_getElem? (i := 2016) (by decide +kernel), List.mem_of_getElem? (i := 151) (by decide +kernel), List.mem_of_getElem? (i := 2017) (by decide +kernel), by decide +kernel, by decide +kernel, by decide⟩
theorem fv_X12_at : MsYV mX12_at := ⟨List.mem_of_getElem? (i := 1936) (by decide +kernel), List.mem_of_getElem? (i := 1937) (by decide +kernel), List.mem_of_getElem? (i := 151) (by decide +kernel), List.mem_of_getElem? (i := 1938) (by decide +kernel), by decide +kernel, by decide +kernel, by decide⟩
theorem fv_X12_bestClass : MsYV mX12_bestClass := ⟨List.mem_of_getElem? (i := 2047) (by decide +kernel), List.mem_of_getElem? (i := 2048) (by decide +kernel), List.mem_of_getElem? (i := 151) (by decide +kernel), List.mem_of_getElem? (i := 2049) (by decide +kernel), by decide +kernel, by decide +kernel, by decide⟩
theorem fv_X12_box : MsYV mX12_box := ⟨List.mem_of_getElem? (i := 1985) (by decide +kernel), List.mem_of_getElem? (i := 1986) (by decide +kernel), List.mem_of_getElem? (i := 151) (by decide +kernel), List.mem_of_getElem? (i := 1987) (by decide +kernel), by decide +kernel, by decide +kernel, by decide⟩
theorem fv_X12_clashes : MsYV mX12_clashes := ⟨List.mem_of_getElem? (i := 1995) (by decide +kernel), List.mem_of_getElem? (i := 1996) (by decide +kernel), List.mem_of_getElem? (i := 151) (by decide +kernel), List.mem_of_getElem? (i := 1997) (by decide +kernel), by decide +kernel, by decide +kernel, by decide⟩
theorem fv_X12_cluster : MsYV mX12_cluster := ⟨List.mem_of_getElem? (i := 1969) (by decide +kernel), List.mem_of_getElem? (i := 1970) (by decide +kernel), List.mem_of_getElem? (i := 151) (by decide +kernel), List.mem_of_getElem? (i := 1971) (by decide +kernel), by decide +kernel, by decide +kernel, by decide⟩
theorem fv_X12_clusterOf : MsYV mX12_clusterOf := ⟨List.mem_of_getElem? (i := 1957) (by decide +kernel), List.mem_of_getElem? (i := 1958) (by decide +kernel), List.mem_of_getElem? (i := 151) (by decide +kernel), List.mem_of_getElem? (i := 1959) (by decide +kernel), by decide +kernel, by decide +kernel, by decide⟩
theorem fv_X12_compare : MsYV mX12_compare := ⟨List.mem_of_getElem? (i := 2003) (by decide +kernel), List.mem_of_getElem? (i := 2004) (by decide +kernel), List.mem_of_getElem? (i := 151) (by decide +kernel), List.mem_of_getElem? (i := 2005) (by decide +kernel), by decide +kernel, by decide +kernel, by decide⟩
theorem fv_X12_compose : MsYV mX12_compose := ⟨List.mem_of_getElem? (i := 2107) (by decide +kernel), List.mem_of_getElem? (i := 2108) (by decide +kernel), List.mem_of_getElem? (i := 151) (by decide +kernel), List.mem_of_getElem? (i := 2109) (by decide +kernel), by decide +kernel, by decide +kernel, by decide⟩
theorem fv_X12_decompose : MsYV mX12_decompose := ⟨List.mem_of_getElem? (i := 2099) (by decide +kernel), List.mem_of_getElem? (i := 2100) (by decide +kernel), List.mem_of_getElem? (i := 151) (by decide +kernel), List.mem_of_getElem? (i := 2101) (by decide +kernel), by decide +kernel, by decide +kernel, by decide⟩
theorem fv_X12_erase : MsYV mX12_erase := ⟨List.mem_of_getElem? (i := 2078) (by decide +kernel), List.mem_of_getElem? (i := 2079) (by decide +kernel), List.mem_of_getElem? (i := 151) (by decide +kernel), List.mem_of_getElem? (i := 2080) (by decide +kernel), by decide +kernel, by decide +kernel, by decide⟩
theorem fv_X12_errorPosition : MsYV mX12_errorPosition := ⟨List.mem_of_getElem? (i := 2164) (by decide +kernel), List.mem_of_getElem? (i := 2165) (by decide +kernel), List.mem_of_getElem? (i := 151) (by decide +kernel), List.mem_of_getElem? (i := 2166) (by decide +kernel), by decide +kernel, by decide +kernel, by decide⟩
theorem fv_X12_expanded : MsYV mX12_expanded := ⟨List.mem_of_getElem? (i := 1827) (by decide +kernel), List.mem_of_getElem? (i := 1828) (by decide +kernel), List.mem_of_getElem? (i := 151) (by decide +kernel), List.mem_of_getElem? (i := 1829) (by decide +kernel), by decide +kernel, by decide +kernel, by decide⟩
theorem fv_X12_feed : MsYV mX12_feed := ⟨List.mem_of_getElem? (i := 2160) (by decide +kernel), List.mem_of_getElem? (i := 2161) (by decide +kernel), List.mem_of_getElem? (i := 151) (by decide +kernel), List.mem_of_getElem? (i := 2162) (by decide +kernel), by decide +kernel, by decide +kernel, by decide⟩
theorem fv_X12_format : MsYV mX12_format := ⟨List.mem_of_getElem? (i := 2128) (by decide +kernel), List.mem_of_getElem? (i := 2129) (by decide +kernel), List.mem_of_getElem? (i := 151) (by decide +kernel), List.mem_of_getElem? (i := 2130) (by decide +kernel), by decide +kernel, by decide +kernel, by decide⟩
theorem fv_X12_formattedByte : MsYV mX12_formattedByte := ⟨List.mem_of_getElem? (i := 2140) (by decide +kernel), List.mem_of_getElem? (i := 2141) (by decide +kernel), List.mem_of_getElem? (i := 151) (by decide +kernel), List.mem_of_getElem? (i := 2142) (by decide +kernel), by decide +kernel, by decide +kernel, by decide⟩
theorem fv_X12_fullest : MsYV mX12_fullest := ⟨List.mem_of_getElem? (i := 1999) (by decide +kernel), List.mem_of_getElem? (i := 2000) (by decide +kernel), List.mem_of_getElem? (i := 151) (by decide +kernel), List.mem_of_getElem? (i := 2001) (by decide +kernel), by decide +kernel, by decide +kernel, by decide⟩
theorem fv_X12_hand : MsYV mX12_hand := ⟨List.mem_of_getElem? (i := 2063) (by decide +kernel), List.mem_of_getElem? (i := 2064) (by decide +kernel), List.mem_of_getElem? (i := 151) (by decide +kernel), List.mem_of_getElem? (i := 2065) (by decide +kernel), by decide +kernel, by decide +kernel, by decide⟩
theorem fv_X12_join : MsYV mX12_join := ⟨List.mem_of_getElem? (i := 2111) (by decide +kernel), List.mem_of_getElem? (i := 2112) (by decide +kernel), List.mem_of_getElem? (i := 151) (by decide +kernel), List.mem_of_getElem? (i := 2113) (by decide +kernel), by decide +kernel, by decide +kernel, by decide⟩
theorem fv_X12_letter : MsYV mX12_letter := ⟨List.mem_of_getElem? (i := 1823) (by decide +kernel), List.mem_of_getElem? (i := 1824) (by decide +kernel), List.mem_of_getElem? (i := 151) (by decide +kernel), List.mem_of_getElem? (i := 1825) (by decide +kernel), by decide +kernel, by decide +kernel, by decide⟩
theorem fv_X12_line : MsYV mX12_line := ⟨List.mem_of_getElem? (i := 1866) (by decide +kernel), List.mem_of_getElem? (i := 1867) (by decide +kernel), List.mem_of_getElem? (i := 151) (by decide +kernel), List.mem_of_getElem? (i := 1868) (by decide +kernel), by decide +kernel, by decide +kernel, by decide⟩
theorem fv_X12_load : MsYV mX12_load := ⟨List.mem_of_getElem? (i := 2168) (by decide +kernel), List.mem_of_getElem? (i := 2169) (by decide +kernel), List.mem_of_getElem? (i := 151) (by decide +kernel), List.mem_of_getElem? (i := 2170) (by decide +kernel), by decide +kernel, by decide +kernel, by decide⟩
theorem fv_X12_match : MsYV mX12_match := ⟨List.mem_of_getElem? (i := 2039) (by decide +kernel), List.mem_of_getElem? (i := 2040) (by decide +kernel), List.mem_of_getElem? (i := 151) (by decide +kernel), List.mem_of_getElem? (i := 2041) (by decide +kernel), by decide +kernel, by decide +kernel, by decide⟩
theorem fv_X12_matches : MsYV mX12_matches := ⟨List.mem_of_getElem? (i := 2023) (by decide +kernel), List.mem_of_getElem? (i := 2024) (by decide +kernel), List.mem_of_getElem? (i := 151) (by decide +kernel), List.mem_of_getElem? (i := 2025) (by decide +kernel), by decide +kernel, by decide +kernel, by decide⟩
theorem fv_X12_meanMarks : MsYV mX12_meanMarks := ⟨List.mem_of_getElem? (i := 2055) (by decide +kernel), List.mem_of_getElem? (i := 2056) (by decide +kernel), List.mem_of_getElem? (i := 151) (by decide +kernel), List.mem_of_getElem? (i := 2057) (by decide +kernel), by decide +kernel, by decide +kernel, by decide⟩
theorem fv_X12_pairOf : MsYV mX12_pairOf := ⟨List.mem_of_getElem? (i := 1835) (by decide +kernel), List.mem_of_getElem? (i := 1836) (by decide +kernel), List.mem_of_getElem? (i := 151) (by decide +kernel), List.mem_of_getElem? (i := 1837) (by decide +kernel), by decide +kernel, by decide +kernel, by decide⟩
theorem fv_X12_query : MsYV mX12_query := ⟨List.mem_of_getElem? (i := 2304) (by decide +kernel), List.mem_of_getElem? (i := 2305) (by decide +kernel), List.mem_of_getElem? (i := 151) (by decide +kernel), List.mem_of_getElem? (i := 2306) (by decide +kernel), by decide +kernel, by decide +kernel, by decide⟩
theorem fv_X12_recomposed : MsYV mX12_recomposed := ⟨List.mem_of_getElem? (i := 1846) (by decide +kernel), List.mem_of_getElem? (i := 1847) (by decide +kernel), List.mem_of_getElem? (i := 151) (by decide +kernel), List.mem_of_getElem? (i := 1848) (by decide +kernel), by decide +kernel, by decide +kernel, by decide⟩
theorem fv_X12_restoreSnapshot : MsYV mX12_restoreSnapshot := ⟨List.mem_of_getElem? (i := 2156) (by decide +kernel), List.mem_of_getElem? (i := 2157) (by decide +kernel), List.mem_of_getElem? (i := 151) (by decide +kernel), List.mem_of_getElem? (i := 2158) (by decide +kernel), by decide +kernel, by decide +kernel, by decide⟩
theorem fv_X12_saveSnapshot : MsYV mX12_saveSnapshot := ⟨List.mem_of_getElem? (i := 2152) (by decide +kernel), List.mem_of_getElem? (i := 2153) (by decide +kernel), List.mem_of_getElem? (i := 151) (by decide +kernel), List.mem_of_getElem? (i := 2154) (by decide +kernel), by decide +kernel, by decide +kernel, by decide⟩
theorem fv_X12_saved : MsYV mX12_saved := ⟨List.mem_of_getElem? (i := 2043) (by decide +kernel), List.mem_of_getElem? (i := 2044) (by decide +kernel), List.mem_of_getElem? (i := 151) (by decide +kernel), List.mem_of_getElem? (i := 2045) (by decide +kernel), by decide +kernel, by decide +kernel, by decide⟩
theorem fv_X12_setClass : MsYV mX12_setClass := ⟨List.mem_of_getElem? (i := 2115) (by decide +kernel), List.mem_of_getElem? (i := 2116) (by decide +kernel), List.mem_of_getElem? (i := 151) (by decide +kernel), List.mem_of_getElem? (i := 2117) (by decide +kernel), by decide +kernel, by decide +kernel, by decide⟩
theorem fv_X12_setSpare : MsYV mX12_setSpare := ⟨List.mem_of_getElem? (i := 2124) (by decide +kernel), List.mem_of_getElem? (i := 2125) (by decide +kernel), List.mem_of_getElem? (i := 151) (by decide +kernel), List.mem_of_getElem? (i := 2126) (by decide +kernel), by decide +kernel, by decide +kernel, by decide⟩
theorem fv_X12_shortness : MsYV mX12_shortness := ⟨List.mem_of_getElem? (i := 2059) (by decide +kernel), List.mem_of_getElem? (i := 2060) (by decide +kernel), List.mem_of_getElem? (i := 151) (by decide +kernel), List.mem_of_getElem? (i := 2061) (by decide +kernel), by decide +kernel, by decide +kernel, by decide⟩
theorem fv_X12_sign : MsYV mX12_sign := ⟨List.mem_of_getElem? (i := 1797) (by decide +kernel), List.mem_of_getElem? (i := 1798) (by decide +kernel), List.mem_of_getElem? (i := 151) (by decide +kernel), List.mem_of_getElem? (i := 1799) (by decide +kernel), by decide +kernel, by decide +kernel, by decide⟩
theorem fv_X12_size : MsYV mX12_size := ⟨List.mem_of_getElem? (i := 1774) (by decide +kernel), List.mem_of_getElem? (i := 1775) (by decide +kernel), List.mem_of_getElem? (i := 151) (by decide +kernel), List.mem_of_getElem? (i := 1776) (by decide +kernel), by decide +kernel, by decide +kernel, by decide⟩
theorem fv_X12_spellings : MsYV mX12_spellings := ⟨List.mem_of_getElem? (i := 1990) (by decide +kernel), List.mem_of_getElem? (i := 1991) (by decide +kernel), List.mem_of_getElem? (i := 151) (by decide +kernel), List.mem_of_getElem? (i := 1992) (by decide +kernel), by decide +kernel, by decide +kernel, by decide⟩
theorem fv_X12_stack : MsYV mX12_stack := ⟨List.mem_of_getElem? (i := 2086) (by decide +kernel), List.mem_of_getElem? (i := 2087) (by decide +kernel), List.mem_of_getElem? (i := 151) (by decide +kernel), List.mem_of_getElem? (i := 2088) (by decide +kernel), by decide +kernel, by decide +kernel, by decide⟩
theorem fv_X12_strip : MsYV mX12_strip := ⟨List.mem_of_getElem? (i := 2094) (by decide +kernel), List.mem_of_getElem? (i := 2095) (by decide +kernel), List.mem_of_getElem? (i := 151) (by decide +kernel), List.mem_of_getElem? (i := 2096) (by decide +kernel), by decide +kernel, by decide +kernel, by decide⟩
theorem fv_X12_thrown : MsYV mX12_thrown := ⟨List.mem_of_getElem? (i := 1770) (by decide +kernel), List.mem_of_getElem? (i := 1771) (by decide +kernel), List.mem_of_getElem? (i := 151) (by decide +kernel), List.mem_of_getElem? (i := 1772) (by decide +kernel), by decide +kernel, by decide +kernel, by decide⟩
theorem fv_X12_type : MsYV mX12_type := ⟨List.mem_of_getElem? (i := 2074) (by decide +kernel), List.mem_of_getElem? (i := 2075) (by decide +kernel), List.mem_of_getElem? (i := 151) (by decide +kernel), List.mem_of_getElem? (i := 2076) (by decide +kernel), by decide +kernel, by decide +kernel, by decide⟩
theorem fv_X12_undo : MsYV mX12_undo := ⟨List.mem_of_getElem? (i := 2148) (by decide +kernel), List.mem_of_getElem? (i := 2149) (by decide +kernel), List.mem_of_getElem? (i := 151) (by decide +kernel), List.mem_of_getElem? (i := 2150) (by decide +kernel), by decide +kernel, by decide +kernel, by decide⟩
theorem fv_X12_undoCount : MsYV mX12_undoCount := ⟨List.mem_of_getElem? (i := 2144) (by decide +kernel), List.mem_of_getElem? (i := 2145) (by decide +kernel), List.mem_of_getElem? (i := 151) (by decide +kernel), List.mem_of_getElem? (i := 2146) (by decide +kernel), by decide +kernel, by decide +kernel, by decide⟩
theorem fv_X12_unlike : MsYV mX12_unlike := ⟨List.mem_of_getElem? (i := 1953) (by decide +kernel), List.mem_of_getElem? (i := 1954) (by decide +kernel), List.mem_of_getElem? (i := 151) (by decide +kernel), List.mem_of_getElem? (i := 1955) (by decide +kernel), by decide +kernel, by decide +kernel, by decide⟩
theorem fv_X12_used : MsYV mX12_used := ⟨List.mem_of_getElem? (i := 1842) (by decide +kernel), List.mem_of_getElem? (i := 1843) (by decide +kernel), List.mem_of_getElem? (i := 151) (by decide +kernel), List.mem_of_getElem? (i := 1844) (by decide +kernel), by decide +kernel, by decide +kernel, by decide⟩
