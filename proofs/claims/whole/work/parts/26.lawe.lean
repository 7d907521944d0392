/-! THE LAW: links -/
section ZLE
theorem wl_15 : Cond.methodLink R_law 15 (zy 102) ∈ zUW := zUW_at (i := 152) (by decide +kernel) rfl
theorem wl_18 : Cond.methodLink R_law 18 (zy 167) ∈ zUW := zUW_at (i := 1416) (by decide +kernel) rfl
theorem wl_19 : Cond.methodLink R_law 19 (zy 103) ∈ zUW := zUW_at (i := 607) (by decide +kernel) rfl
theorem wl_23 : Cond.methodLink R_law 23 (zy 203) ∈ zUW := zUW_at (i := 1516) (by decide +kernel) rfl
theorem wl_24 : Cond.methodLink R_law 24 (zy 104) ∈ zUW := zUW_at (i := 623) (by decide +kernel) rfl
theorem wl_27 : Cond.methodLink R_law 27 (zy 204) ∈ zUW := zUW_at (i := 1520) (by decide +kernel) rfl
theorem wl_28 : Cond.methodLink R_law 28 (zy 105) ∈ zUW := zUW_at (i := 905) (by decide +kernel) rfl
theorem wl_32 : Cond.methodLink R_law 32 (zy 205) ∈ zUW := zUW_at (i := 1856) (by decide +kernel) rfl
theorem wl_33 : Cond.methodLink R_law 33 (zy 106) ∈ zUW := zUW_at (i := 909) (by decide +kernel) rfl
theorem wl_36 : Cond.methodLink R_law 36 (zy 206) ∈ zUW := zUW_at (i := 1860) (by decide +kernel) rfl
theorem wl_37 : Cond.methodLink R_law 37 (zy 107) ∈ zUW := zUW_at (i := 913) (by decide +kernel) rfl
theorem wl_41 : Cond.methodLink R_law 41 (zy 208) ∈ zUW := zUW_at (i := 1864) (by decide +kernel) rfl
theorem wl_42 : Cond.methodLink R_law 42 (zy 108) ∈ zUW := zUW_at (i := 926) (by decide +kernel) rfl
theorem wl_45 : Cond.methodLink R_law 45 (zy 210) ∈ zUW := zUW_at (i := 1877) (by decide +kernel) rfl
theorem wl_46 : Cond.methodLink R_law 46 (zy 109) ∈ zUW := zUW_at (i := 930) (by decide +kernel) rfl
theorem wl_49 : Cond.methodLink R_law 49 (zy 230) ∈ zUW := zUW_at (i := 1885) (by decide +kernel) rfl
theorem wl_50 : Cond.methodLink R_law 50 (zy 110) ∈ zUW := zUW_at (i := 1016) (by decide +kernel) rfl
theorem wl_53 : Cond.methodLink R_law 53 (zy 232) ∈ zUW := zUW_at (i := 1971) (by decide +kernel) rfl
theorem wl_54 : Cond.methodLink R_law 54 (zy 111) ∈ zUW := zUW_at (i := 1026) (by decide +kernel) rfl
theorem wl_57 : Cond.methodLink R_law 57 (zy 233) ∈ zUW := zUW_at (i := 1979) (by decide +kernel) rfl
theorem wl_58 : Cond.methodLink R_law 58 (zy 112) ∈ zUW := zUW_at (i := 1030) (by decide +kernel) rfl
theorem wl_61 : Cond.methodLink R_law 61 (zy 235) ∈ zUW := zUW_at (i := 1983) (by decide +kernel) rfl
theorem wl_62 : Cond.methodLink R_law 62 (zy 113) ∈ zUW := zUW_at (i := 1038) (by decide +kernel) rfl
theorem wl_66 : Cond.methodLink R_law 66 (zy 238) ∈ zUW := zUW_at (i := 1991) (by decide +kernel) rfl
theorem wl_67 : Cond.methodLink R_law 67 (zy 114) ∈ zUW := zUW_at (i := 1046) (by decide +kernel) rfl
theorem wl_70 : Cond.methodLink R_law 70 (zy 239) ∈ zUW := zUW_at (i := 1999) (by decide +kernel) rfl
theorem wl_71 : Cond.methodLink R_law 71 (zy 115) ∈ zUW := zUW_at (i := 1050) (by decide +kernel) rfl
theorem wl_74 : Cond.methodLink R_law 74 (zy 241) ∈ zUW := zUW_at (i := 2007) (by decide +kernel) rfl
theorem wl_75 : Cond.methodLink R_law 75 (zy 116) ∈ zUW := zUW_at (i := 1058) (by decide +kernel) rfl
theorem wl_78 : Cond.methodLink R_law 78 (zy 242) ∈ zUW := zUW_at (i := 2015) (by decide +kernel) rfl
theorem wl_79 : Cond.methodLink R_law 79 (zy 117) ∈ zUW := zUW_at (i := 1062) (by decide +kernel) rfl
theorem wl_82 : Cond.methodLink R_law 82 (zy 243) ∈ zUW := zUW_at (i := 2019) (by decide +kernel) rfl
theorem wl_83 : Cond.methodLink R_law 83 (zy 118) ∈ zUW := zUW_at (i := 1067) (by decide +kernel) rfl
theorem wl_86 : Cond.methodLink R_law 86 (zy 244) ∈ zUW := zUW_at (i := 2023) (by decide +kernel) rfl
theorem wl_87 : Cond.methodLink R_law 87 (zy 119) ∈ zUW := zUW_at (i := 1081) (by decide +kernel) rfl
theorem wl_90 : Cond.methodLink R_law 90 (zy 245) ∈ zUW := zUW_at (i := 2027) (by decide +kernel) rfl
theorem wl_91 : Cond.methodLink R_law 91 (zy 120) ∈ zUW := zUW_at (i := 1089) (by decide +kernel) rfl
theorem wl_94 : Cond.methodLink R_law 94 (zy 246) ∈ zUW := zUW_at (i := 2031) (by decide +kernel) rfl
theorem wl_95 : Cond.methodLink R_law 95 (zy 121) ∈ zUW := zUW_at (i := 1093) (by decide +kernel) rfl
theorem wl_98 : Cond.methodLink R_law 98 (zy 248) ∈ zUW := zUW_at (i := 2035) (by decide +kernel) rfl
theorem wl_99 : Cond.methodLink R_law 99 (zy 122) ∈ zUW := zUW_at (i := 1105) (by decide +kernel) rfl
theorem wl_102 : Cond.methodLink R_law 102 (zy 249) ∈ zUW := zUW_at (i := 2044) (by decide +kernel) rfl
theorem wl_103 : Cond.methodLink R_law 103 (zy 123) ∈ zUW := zUW_at (i := 1109) (by decide +kernel) rfl
theorem wl_107 : Cond.methodLink R_law 107 (zy 251) ∈ zUW := zUW_at (i := 2048) (by decide +kernel) rfl
theorem wl_108 : Cond.methodLink R_law 108 (zy 124) ∈ zUW := zUW_at (i := 1118) (by decide +kernel) rfl
theorem wl_111 : Cond.methodLink R_law 111 (zy 252) ∈ zUW := zUW_at (i := 2056) (by decide +kernel) rfl
theorem wl_112 : Cond.methodLink R_law 112 (zy 125) ∈ zUW := zUW_at (i := 1123) (by decide +kernel) rfl
theorem wl_115 : Cond.methodLink R_law 115 (zy 254) ∈ zUW := zUW_at (i := 2060) (by decide +kernel) rfl
theorem wl_116 : Cond.methodLink R_law 116 (zy 126) ∈ zUW := zUW_at (i := 1131) (by decide +kernel) rfl
theorem wl_120 : Cond.methodLink R_law 120 (zy 257) ∈ zUW := zUW_at (i := 2068) (by decide +kernel) rfl
theorem wl_121 : Cond.methodLink R_law 121 (zy 127) ∈ zUW := zUW_at (i := 1144) (by decide +kernel) rfl
theorem wl_124 : Cond.methodLink R_law 124 (zy 258) ∈ zUW := zUW_at (i := 2081) (by decide +kernel) rfl
theorem wl_125 : Cond.methodLink R_law 125 (zy 128) ∈ zUW := zUW_at (i := 1148) (by decide +kernel) rfl
theorem wl_129 : Cond.methodLink R_law 129 (zy 260) ∈ zUW := zUW_at (i := 2085) (by decide +kernel) rfl
theorem wl_130 : Cond.methodLink R_law 130 (zy 129) ∈ zUW := zUW_at (i := 1161) (by decide +kernel) rfl
theorem wl_133 : Cond.methodLink R_law 133 (zy 261) ∈ zUW := zUW_at (i := 2093) (by decide +kernel) rfl
theorem wl_134 : Cond.methodLink R_law 134 (zy 130) ∈ zUW := zUW_at (i := 1166) (by decide +kernel) rfl
theorem wl_137 : Cond.methodLink R_law 137 (zy 265) ∈ zUW := zUW_at (i := 2098) (by decide +kernel) rfl
theorem wl_138 : Cond.methodLink R_law 138 (zy 131) ∈ zUW := zUW_at (i := 1189) (by decide +kernel) rfl
theorem wl_141 : Cond.methodLink R_law 141 (zy 267) ∈ zUW := zUW_at (i := 2114) (by decide +kernel) rfl
theorem wl_142 : Cond.methodLink R_law 142 (zy 132) ∈ zUW := zUW_at (i := 1203) (by decide +kernel) rfl
theorem wl_145 : Cond.methodLink R_law 145 (zy 269) ∈ zUW := zUW_at (i := 2122) (by decide +kernel) rfl
theorem wl_146 : Cond.methodLink R_law 146 (zy 133) ∈ zUW := zUW_at (i := 1217) (by decide +kernel) rfl
theorem wl_149 : Cond.methodLink R_law 149 (zy 270) ∈ zUW := zUW_at (i := 2130) (by decide +kernel) rfl
theorem wl_150 : Cond.methodLink R_law 150 (zy 134) ∈ zUW := zUW_at (i := 1221) (by decide +kernel) rfl
theorem wl_153 : Cond.methodLink R_law 153 (zy 273) ∈ zUW := zUW_at (i := 2134) (by decide +kernel) rfl
theorem wl_154 : Cond.methodLink R_law 154 (zy 135) ∈ zUW := zUW_at (i := 1229) (by decide +kernel) rfl
theorem wl_157 : Cond.methodLink R_law 157 (zy 274) ∈ zUW := zUW_at (i := 2146) (by decide +kernel) rfl
theorem wl_158 : Cond.methodLink R_law 158 (zy 136) ∈ zUW := zUW_at (i := 1233) (by decide +kernel) rfl
theorem wl_161 : Cond.methodLink R_law 161 (zy 275) ∈ zUW := zUW_at (i := 2150) (by decide +kernel) rfl
theorem wl_162 : Cond.methodLink R_law 162 (zy 137) ∈ zUW := zUW_at (i := 1241) (by decide +kernel) rfl
theorem wl_165 : Cond.methodLink R_law 165 (zy 276) ∈ zUW := zUW_at (i := 2154) (by decide +kernel) rfl
theorem wl_166 : Cond.methodLink R_law 166 (zy 138) ∈ zUW := zUW_at (i := 1249) (by decide +kernel) rfl
theorem wl_169 : Cond.methodLink R_law 169 (zy 277) ∈ zUW := zUW_at (i := 2158) (by decide +kernel) rfl
theorem wl_170 : Cond.methodLink R_law 170 (zy 139) ∈ zUW := zUW_at (i := 1257) (by decide +kernel) rfl
theorem wl_173 : Cond.methodLink R_law 173 (zy 280) ∈ zUW := zUW_at (i := 2162) (by decide +kernel) rfl
theorem wl_174 : Cond.methodLink R_law 174 (zy 140) ∈ zUW := zUW_at (i := 1283) (by decide +kernel) rfl
theorem wl_177 : Cond.methodLink R_law 177 (zy 281) ∈ zUW := zUW_at (i := 2174) (by decide +kernel) rfl
theorem wl_178 : Cond.methodLink R_law 178 (zy 141) ∈ zUW := zUW_at (i := 1295) (by decide +kernel) rfl
theorem wl_181 : Cond.methodLink R_law 181 (zy 282) ∈ zUW := zUW_at (i := 2178) (by decide +kernel) rfl
theorem wl_182 : Cond.methodLink R_law 182 (zy 142) ∈ zUW := zUW_at (i := 1299) (by decide +kernel) rfl
theorem wl_186 : Cond.methodLink R_law 186 (zy 285) ∈ zUW := zUW_at (i := 2182) (by decide +kernel) rfl
theorem wl_187 : Cond.methodLink R_law 187 (zy 143) ∈ zUW := zUW_at (i := 1316) (by decide +kernel) rfl
theorem wl_190 : Cond.methodLink R_law 190 (zy 287) ∈ zUW := zUW_at (i := 2194) (by decide +kernel) rfl
theorem wl_191 : Cond.methodLink R_law 191 (zy 144) ∈ zUW := zUW_at (i := 1325) (by decide +kernel) rfl
theorem wl_194 : Cond.methodLink R_law 194 (zy 288) ∈ zUW := zUW_at (i := 2202) (by decide +kernel) rfl
theorem wl_200 : Cond.methodLink R_law 200 (zy 289) ∈ zUW := zUW_at (i := 2206) (by decide +kernel) rfl
theorem wl_201 : Cond.methodLink R_law 201 (zy 168) ∈ zUW := zUW_at (i := 1512) (by decide +kernel) rfl
theorem wl_204 : Cond.methodLink R_law 204 (zy 146) ∈ zUW := zUW_at (i := 1333) (by decide +kernel) rfl
theorem wl_207 : Cond.methodLink R_law 207 (zy 290) ∈ zUW := zUW_at (i := 2210) (by decide +kernel) rfl
theorem wl_208 : Cond.methodLink R_law 208 (zy 147) ∈ zUW := zUW_at (i := 1337) (by decide +kernel) rfl
theorem wl_211 : Cond.methodLink R_law 211 (zy 291) ∈ zUW := zUW_at (i := 2214) (by decide +kernel) rfl
theorem zints_ok {as : List Value} (h : as.all zisI = true) : ∀ v ∈ as, ∃ x, v = .int x := fun v hv => by
  have h1 := List.all_eq_true.mp h v hv
  cases v <;> first | exact ⟨_, rfl⟩ | cases h1
theorem zlg_self (w : Int64) : lg_cmp w w = 0 := by
  unfold lg_cmp
  rw [if_neg (by rw [gt_iff_lt, Int64.lt_iff_toInt_lt]; omega), if_pos rfl]
section ZLE2
variable {p : Program} {l : Launch} {e : Env} {s : State} {m : MethodId} {below : List Frame} {meth : Method} {c : Code} {Q : State → Prop} {D : va_G} {adV : Nat → Nat} {H : Heap} {locs : List Loc} {cells slots : Nat} {lsM : Array Slot} {b Ln i qC qM qO : Nat} {xs : Nat → Int32}
theorem zlaw_hi {pc : Nat} {x : Int32} {st : List Value} (hx : p.tables.exec = Jvm.exec) (hb : c.code = code) (d0 : decode code pc = .ok (.ifCond .eq 7, 3)) (d3 : decode code (pc + 3) = .ok (.iconst 1, 1)) (d4 : decode code (pc + 4) = .ok (.goto 4, 3)) (d7 : decode code (pc + 7) = .ok (.iconst 0, 1))
    (kk : W p l e room_1 s m #[Value.ref b] below meth c H locs cells slots Q (F0 m (pc + 8) lsM (.int (if x = 0 then 0 else 1) :: st))) : W p l e room_1 s m #[Value.ref b] below meth c H locs cells slots Q (F0 m pc lsM (.int x :: st)) := by
  refine lv_if_eq (tgt := pc + 7) hx hb d0 (by omega) (fun h => ?_) (fun h => ?_)
  · rw [if_pos h] at kk
    exact lv_iconst (v := 0) hx hb d7 (by decide) kk
  · rw [if_neg h] at kk
    refine lv_iconst (v := 1) hx hb d3 (by decide) ?_
    exact lv_goto (tgt := pc + 8) hx hb d4 (by omega) kk
theorem zcase_0 (X : zLX p s m c b Ln xs) (I : zLI D adV s H locs qC qM qO) (hl : lv_has lsM 7 [(0, .ref b), (1, .ref qC), (2, .ref qM), (3, .ref qO), (4, .int (nI i))]) (hi : i + 6 ≤ Ln) (hLn : Ln ≤ 3072) (hcells : cells + 30 ≤ 601024) (hslots : slots + 1000 ≤ 7293033)
    (kk : ∀ (H1 : Heap) (locs1 : List Loc), zLI D adV s H1 locs1 qC qM qO → W p l e room_1 s m #[Value.ref b] below meth c H1 locs1 (cells + 30) (slots + 1000) Q (F0 m 1618 lsM [])) :
    W p l e room_1 s m #[Value.ref b] below meth c H locs cells slots Q (F0 m 236 lsM []) := by
  have hS := zLI_S I
  obtain ⟨hx, hb, -⟩ := id X
  refine lv_aload_n hx hb dL_law_236 rfl (lv_at hl 1 rfl) ?_
  refine zlaw_arg (k := 1) X hS hl hi hLn (by decide) rfl dL_law_237 dL_law_238 dL_law_240 dL_law_241 dL_law_242 ?_
  refine zlaw_arg (k := 2) X hS hl hi hLn (by decide) rfl dL_law_243 dL_law_244 dL_law_246 dL_law_247 dL_law_248 ?_
  refine zlaw_arg (k := 3) X hS hl hi hLn (by decide) rfl dL_law_249 dL_law_250 dL_law_252 dL_law_253 dL_law_254 ?_
  refine zlaw_arg (k := 4) X hS hl hi hLn (by decide) rfl dL_law_255 dL_law_256 dL_law_258 dL_law_259 dL_law_260 ?_
  refine zlaw_arg (k := 5) X hS hl hi hLn (by decide) rfl dL_law_261 dL_law_262 dL_law_264 dL_law_265 dL_law_266 ?_
  refine zpair_I (tC := 103) (tM := 203) (pC := 267) (pM := 301) (as := [.int (xs (i + 1)), .int (xs (i + 2)), .int (xs (i + 3)), .int (xs (i + 4)), .int (xs (i + 5))]) X I zpi_103 (zints_ok rfl) (by decide +kernel : zlchk 103 5 = true) (by decide +kernel : zlchk 203 5 = true) (by decide +kernel) (by decide +kernel) wl_19 wl_23 hl.1 dL_law_267 dL_law_301 hcells hslots (fun H1 locs1 cells1 slots1 v hS k1 => ?_) (fun H1 locs1 w I1 => ?_)
  · refine lv_aload_n hx hb dL_law_270 rfl (lv_at hl 2 rfl) ?_
    refine zlaw_arg (k := 1) X hS hl hi hLn (by decide) rfl dL_law_271 dL_law_272 dL_law_274 dL_law_275 dL_law_276 ?_
    refine zlaw_arg (k := 2) X hS hl hi hLn (by decide) rfl dL_law_277 dL_law_278 dL_law_280 dL_law_281 dL_law_282 ?_
    refine zlaw_arg (k := 3) X hS hl hi hLn (by decide) rfl dL_law_283 dL_law_284 dL_law_286 dL_law_287 dL_law_288 ?_
    refine zlaw_arg (k := 4) X hS hl hi hLn (by decide) rfl dL_law_289 dL_law_290 dL_law_292 dL_law_293 dL_law_294 ?_
    refine zlaw_arg (k := 5) X hS hl hi hLn (by decide) rfl dL_law_295 dL_law_296 dL_law_298 dL_law_299 dL_law_300 ?_
    exact k1
  · exact lv_icmp_eq (tgt := 1618) hx hb dL_law_304 (by decide) (fun _ => kk H1 locs1 I1) (fun h => absurd rfl h)
theorem zcase_1 (X : zLX p s m c b Ln xs) (I : zLI D adV s H locs qC qM qO) (hl : lv_has lsM 7 [(0, .ref b), (1, .ref qC), (2, .ref qM), (3, .ref qO), (4, .int (nI i))]) (hi : i + 6 ≤ Ln) (hLn : Ln ≤ 3072) (hcells : cells + 30 ≤ 601024) (hslots : slots + 1000 ≤ 7293033)
    (kk : ∀ (H1 : Heap) (locs1 : List Loc), zLI D adV s H1 locs1 qC qM qO → W p l e room_1 s m #[Value.ref b] below meth c H1 locs1 (cells + 30) (slots + 1000) Q (F0 m 1618 lsM [])) :
    W p l e room_1 s m #[Value.ref b] below meth c H locs cells slots Q (F0 m 309 lsM []) := by
  have hS := zLI_S I
  obtain ⟨hx, hb, -⟩ := id X
  refine lv_aload_n hx hb dL_law_309 rfl (lv_at hl 1 rfl) ?_
  refine zlaw_arg (k := 1) X hS hl hi hLn (by decide) rfl dL_law_310 dL_law_311 dL_law_313 dL_law_314 dL_law_315 ?_
  refine zpair_I (tC := 104) (tM := 204) (pC := 316) (pM := 326) (as := [.int (xs (i + 1))]) X I zpi_104 (zints_ok rfl) (by decide +kernel : zlchk 104 1 = true) (by decide +kernel : zlchk 204 1 = true) (by decide +kernel) (by decide +kernel) wl_24 wl_27 hl.1 dL_law_316 dL_law_326 hcells hslots (fun H1 locs1 cells1 slots1 v hS k1 => ?_) (fun H1 locs1 w I1 => ?_)
  · refine lv_aload_n hx hb dL_law_319 rfl (lv_at hl 2 rfl) ?_
    refine zlaw_arg (k := 1) X hS hl hi hLn (by decide) rfl dL_law_320 dL_law_321 dL_law_323 dL_law_324 dL_law_325 ?_
    exact k1
  · exact lv_icmp_eq (tgt := 1618) hx hb dL_law_329 (by decide) (fun _ => kk H1 locs1 I1) (fun h => absurd rfl h)
theorem zcase_2 (X : zLX p s m c b Ln xs) (I : zLI D adV s H locs qC qM qO) (hl : lv_has lsM 7 [(0, .ref b), (1, .ref qC), (2, .ref qM), (3, .ref qO), (4, .int (nI i))]) (hi : i + 6 ≤ Ln) (hLn : Ln ≤ 3072) (hcells : cells + 30 ≤ 601024) (hslots : slots + 1000 ≤ 7293033)
    (kk : ∀ (H1 : Heap) (locs1 : List Loc), zLI D adV s H1 locs1 qC qM qO → W p l e room_1 s m #[Value.ref b] below meth c H1 locs1 (cells + 30) (slots + 1000) Q (F0 m 1618 lsM [])) :
    W p l e room_1 s m #[Value.ref b] below meth c H locs cells slots Q (F0 m 334 lsM []) := by
  have hS := zLI_S I
  obtain ⟨hx, hb, -⟩ := id X
  refine lv_aload_n hx hb dL_law_334 rfl (lv_at hl 1 rfl) ?_
  refine zpair_I (tC := 105) (tM := 205) (pC := 335) (pM := 339) (as := []) X I zpi_105 (zints_ok rfl) (by decide +kernel : zlchk 105 0 = true) (by decide +kernel : zlchk 205 0 = true) (by decide +kernel) (by decide +kernel) wl_28 wl_32 hl.1 dL_law_335 dL_law_339 hcells hslots (fun H1 locs1 cells1 slots1 v hS k1 => ?_) (fun H1 locs1 w I1 => ?_)
  · refine lv_aload_n hx hb dL_law_338 rfl (lv_at hl 2 rfl) ?_
    exact k1
  · exact lv_icmp_eq (tgt := 1618) hx hb dL_law_342 (by decide) (fun _ => kk H1 locs1 I1) (fun h => absurd rfl h)
theorem zcase_3 (X : zLX p s m c b Ln xs) (I : zLI D adV s H locs qC qM qO) (hl : lv_has lsM 7 [(0, .ref b), (1, .ref qC), (2, .ref qM), (3, .ref qO), (4, .int (nI i))]) (hi : i + 6 ≤ Ln) (hLn : Ln ≤ 3072) (hcells : cells + 30 ≤ 601024) (hslots : slots + 1000 ≤ 7293033)
    (kk : ∀ (H1 : Heap) (locs1 : List Loc), zLI D adV s H1 locs1 qC qM qO → W p l e room_1 s m #[Value.ref b] below meth c H1 locs1 (cells + 30) (slots + 1000) Q (F0 m 1618 lsM [])) :
    W p l e room_1 s m #[Value.ref b] below meth c H locs cells slots Q (F0 m 347 lsM []) := by
  have hS := zLI_S I
  obtain ⟨hx, hb, -⟩ := id X
  refine lv_aload_n hx hb dL_law_347 rfl (lv_at hl 1 rfl) ?_
  refine zpair_I (tC := 106) (tM := 206) (pC := 348) (pM := 352) (as := []) X I zpi_106 (zints_ok rfl) (by decide +kernel : zlchk 106 0 = true) (by decide +kernel : zlchk 206 0 = true) (by decide +kernel) (by decide +kernel) wl_33 wl_36 hl.1 dL_law_348 dL_law_352 hcells hslots (fun H1 locs1 cells1 slots1 v hS k1 => ?_) (fun H1 locs1 w I1 => ?_)
  · refine lv_aload_n hx hb dL_law_351 rfl (lv_at hl 2 rfl) ?_
    exact k1
  · exact lv_icmp_eq (tgt := 1618) hx hb dL_law_355 (by decide) (fun _ => kk H1 locs1 I1) (fun h => absurd rfl h)
theorem zcase_4 (X : zLX p s m c b Ln xs) (I : zLI D adV s H locs qC qM qO) (hl : lv_has lsM 7 [(0, .ref b), (1, .ref qC), (2, .ref qM), (3, .ref qO), (4, .int (nI i))]) (hi : i + 6 ≤ Ln) (hLn : Ln ≤ 3072) (hcells : cells + 30 ≤ 601024) (hslots : slots + 1000 ≤ 7293033)
    (kk : ∀ (H1 : Heap) (locs1 : List Loc), zLI D adV s H1 locs1 qC qM qO → W p l e room_1 s m #[Value.ref b] below meth c H1 locs1 (cells + 30) (slots + 1000) Q (F0 m 1618 lsM [])) :
    W p l e room_1 s m #[Value.ref b] below meth c H locs cells slots Q (F0 m 360 lsM []) := by
  have hS := zLI_S I
  obtain ⟨hx, hb, -⟩ := id X
  refine lv_aload_n hx hb dL_law_360 rfl (lv_at hl 1 rfl) ?_
  refine zlaw_arg (k := 1) X hS hl hi hLn (by decide) rfl dL_law_361 dL_law_362 dL_law_364 dL_law_365 dL_law_366 ?_
  refine zpair_I (tC := 107) (tM := 208) (pC := 367) (pM := 377) (as := [.int (xs (i + 1))]) X I zpi_107 (zints_ok rfl) (by decide +kernel : zlchk 107 1 = true) (by decide +kernel : zlchk 208 1 = true) (by decide +kernel) (by decide +kernel) wl_37 wl_41 hl.1 dL_law_367 dL_law_377 hcells hslots (fun H1 locs1 cells1 slots1 v hS k1 => ?_) (fun H1 locs1 w I1 => ?_)
  · refine lv_aload_n hx hb dL_law_370 rfl (lv_at hl 2 rfl) ?_
    refine zlaw_arg (k := 1) X hS hl hi hLn (by decide) rfl dL_law_371 dL_law_372 dL_law_374 dL_law_375 dL_law_376 ?_
    exact k1
  · exact lv_icmp_eq (tgt := 1618) hx hb dL_law_380 (by decide) (fun _ => kk H1 locs1 I1) (fun h => absurd rfl h)
theorem zcase_5 (X : zLX p s m c b Ln xs) (I : zLI D adV s H locs qC qM qO) (hl : lv_has lsM 7 [(0, .ref b), (1, .ref qC), (2, .ref qM), (3, .ref qO), (4, .int (nI i))]) (hi : i + 6 ≤ Ln) (hLn : Ln ≤ 3072) (hcells : cells + 30 ≤ 601024) (hslots : slots + 1000 ≤ 7293033)
    (kk : ∀ (H1 : Heap) (locs1 : List Loc), zLI D adV s H1 locs1 qC qM qO → W p l e room_1 s m #[Value.ref b] below meth c H1 locs1 (cells + 30) (slots + 1000) Q (F0 m 1618 lsM [])) :
    W p l e room_1 s m #[Value.ref b] below meth c H locs cells slots Q (F0 m 385 lsM []) := by
  have hS := zLI_S I
  obtain ⟨hx, hb, -⟩ := id X
  refine lv_aload_n hx hb dL_law_385 rfl (lv_at hl 1 rfl) ?_
  refine zlaw_arg (k := 1) X hS hl hi hLn (by decide) rfl dL_law_386 dL_law_387 dL_law_389 dL_law_390 dL_law_391 ?_
  refine zpair_I (tC := 108) (tM := 210) (pC := 392) (pM := 402) (as := [.int (xs (i + 1))]) X I zpi_108 (zints_ok rfl) (by decide +kernel : zlchk 108 1 = true) (by decide +kernel : zlchk 210 1 = true) (by decide +kernel) (by decide +kernel) wl_42 wl_45 hl.1 dL_law_392 dL_law_402 hcells hslots (fun H1 locs1 cells1 slots1 v hS k1 => ?_) (fun H1 locs1 w I1 => ?_)
  · refine lv_aload_n hx hb dL_law_395 rfl (lv_at hl 2 rfl) ?_
    refine zlaw_arg (k := 1) X hS hl hi hLn (by decide) rfl dL_law_396 dL_law_397 dL_law_399 dL_law_400 dL_law_401 ?_
    exact k1
  · exact lv_icmp_eq (tgt := 1618) hx hb dL_law_405 (by decide) (fun _ => kk H1 locs1 I1) (fun h => absurd rfl h)
theorem zcase_6 (X : zLX p s m c b Ln xs) (I : zLI D adV s H locs qC qM qO) (hl : lv_has lsM 7 [(0, .ref b), (1, .ref qC), (2, .ref qM), (3, .ref qO), (4, .int (nI i))]) (hi : i + 6 ≤ Ln) (hLn : Ln ≤ 3072) (hcells : cells + 30 ≤ 601024) (hslots : slots + 1000 ≤ 7293033)
    (kk : ∀ (H1 : Heap) (locs1 : List Loc), zLI D adV s H1 locs1 qC qM qO → W p l e room_1 s m #[Value.ref b] below meth c H1 locs1 (cells + 30) (slots + 1000) Q (F0 m 1618 lsM [])) :
    W p l e room_1 s m #[Value.ref b] below meth c H locs cells slots Q (F0 m 410 lsM []) := by
  have hS := zLI_S I
  obtain ⟨hx, hb, -⟩ := id X
  refine lv_aload_n hx hb dL_law_410 rfl (lv_at hl 1 rfl) ?_
  refine zpair_I (tC := 109) (tM := 230) (pC := 411) (pM := 415) (as := []) X I zpi_109 (zints_ok rfl) (by decide +kernel : zlchk 109 0 = true) (by decide +kernel : zlchk 230 0 = true) (by decide +kernel) (by decide +kernel) wl_46 wl_49 hl.1 dL_law_411 dL_law_415 hcells hslots (fun H1 locs1 cells1 slots1 v hS k1 => ?_) (fun H1 locs1 w I1 => ?_)
  · refine lv_aload_n hx hb dL_law_414 rfl (lv_at hl 2 rfl) ?_
    exact k1
  · exact lv_icmp_eq (tgt := 1618) hx hb dL_law_418 (by decide) (fun _ => kk H1 locs1 I1) (fun h => absurd rfl h)
theorem zcase_7 (X : zLX p s m c b Ln xs) (I : zLI D adV s H locs qC qM qO) (hl : lv_has lsM 7 [(0, .ref b), (1, .ref qC), (2, .ref qM), (3, .ref qO), (4, .int (nI i))]) (hi : i + 6 ≤ Ln) (hLn : Ln ≤ 3072) (hcells : cells + 30 ≤ 601024) (hslots : slots + 1000 ≤ 7293033)
    (kk : ∀ (H1 : Heap) (locs1 : List Loc), zLI D adV s H1 locs1 qC qM qO → W p l e room_1 s m #[Value.ref b] below meth c H1 locs1 (cells + 30) (slots + 1000) Q (F0 m 1618 lsM [])) :
    W p l e room_1 s m #[Value.ref b] below meth c H locs cells slots Q (F0 m 423 lsM []) := by
  have hS := zLI_S I
  obtain ⟨hx, hb, -⟩ := id X
  refine lv_aload_n hx hb dL_law_423 rfl (lv_at hl 1 rfl) ?_
  refine zpair_I (tC := 110) (tM := 232) (pC := 424) (pM := 428) (as := []) X I zpi_110 (zints_ok rfl) (by decide +kernel : zlchk 110 0 = true) (by decide +kernel : zlchk 232 0 = true) (by decide +kernel) (by decide +kernel) wl_50 wl_53 hl.1 dL_law_424 dL_law_428 hcells hslots (fun H1 locs1 cells1 slots1 v hS k1 => ?_) (fun H1 locs1 w I1 => ?_)
  · refine lv_aload_n hx hb dL_law_427 rfl (lv_at hl 2 rfl) ?_
    exact k1
  · exact lv_icmp_eq (tgt := 1618) hx hb dL_law_431 (by decide) (fun _ => kk H1 locs1 I1) (fun h => absurd rfl h)
theorem zcase_8 (X : zLX p s m c b Ln xs) (I : zLI D adV s H locs qC qM qO) (hl : lv_has lsM 7 [(0, .ref b), (1, .ref qC), (2, .ref qM), (3, .ref qO), (4, .int (nI i))]) (hi : i + 6 ≤ Ln) (hLn : Ln ≤ 3072) (hcells : cells + 30 ≤ 601024) (hslots : slots + 1000 ≤ 7293033)
    (kk : ∀ (H1 : Heap) (locs1 : List Loc), zLI D adV s H1 locs1 qC qM qO → W p l e room_1 s m #[Value.ref b] below meth c H1 locs1 (cells + 30) (slots + 1000) Q (F0 m 1618 lsM [])) :
    W p l e room_1 s m #[Value.ref b] below meth c H locs cells slots Q (F0 m 436 lsM []) := by
  have hS := zLI_S I
  obtain ⟨hx, hb, -⟩ := id X
  refine lv_aload_n hx hb dL_law_436 rfl (lv_at hl 1 rfl) ?_
  refine zpair_I (tC := 111) (tM := 233) (pC := 437) (pM := 441) (as := []) X I zpi_111 (zints_ok rfl) (by decide +kernel : zlchk 111 0 = true) (by decide +kernel : zlchk 233 0 = true) (by decide +kernel) (by decide +kernel) wl_54 wl_57 hl.1 dL_law_437 dL_law_441 hcells hslots (fun H1 locs1 cells1 slots1 v hS k1 => ?_) (fun H1 locs1 w I1 => ?_)
  · refine lv_aload_n hx hb dL_law_440 rfl (lv_at hl 2 rfl) ?_
    exact k1
  · exact lv_icmp_eq (tgt := 1618) hx hb dL_law_444 (by decide) (fun _ => kk H1 locs1 I1) (fun h => absurd rfl h)
theorem zcase_9 (X : zLX p s m c b Ln xs) (I : zLI D adV s H locs qC qM qO) (hl : lv_has lsM 7 [(0, .ref b), (1, .ref qC), (2, .ref qM), (3, .ref qO), (4, .int (nI i))]) (hi : i + 6 ≤ Ln) (hLn : Ln ≤ 3072) (hcells : cells + 30 ≤ 601024) (hslots : slots + 1000 ≤ 7293033)
    (kk : ∀ (H1 : Heap) (locs1 : List Loc), zLI D adV s H1 locs1 qC qM qO → W p l e room_1 s m #[Value.ref b] below meth c H1 locs1 (cells + 30) (slots + 1000) Q (F0 m 1618 lsM [])) :
    W p l e room_1 s m #[Value.ref b] below meth c H locs cells slots Q (F0 m 449 lsM []) := by
  have hS := zLI_S I
  obtain ⟨hx, hb, -⟩ := id X
  refine lv_aload_n hx hb dL_law_449 rfl (lv_at hl 1 rfl) ?_
  refine zpair_I (tC := 112) (tM := 235) (pC := 450) (pM := 454) (as := []) X I zpi_112 (zints_ok rfl) (by decide +kernel : zlchk 112 0 = true) (by decide +kernel : zlchk 235 0 = true) (by decide +kernel) (by decide +kernel) wl_58 wl_61 hl.1 dL_law_450 dL_law_454 hcells hslots (fun H1 locs1 cells1 slots1 v hS k1 => ?_) (fun H1 locs1 w I1 => ?_)
  · refine lv_aload_n hx hb dL_law_453 rfl (lv_at hl 2 rfl) ?_
    exact k1
  · exact lv_icmp_eq (tgt := 1618) hx hb dL_law_457 (by decide) (fun _ => kk H1 locs1 I1) (fun h => absurd rfl h)
theorem zcase_10 (X : zLX p s m c b Ln xs) (I : zLI D adV s H locs qC qM qO) (hl : lv_has lsM 7 [(0, .ref b), (1, .ref qC), (2, .ref qM), (3, .ref qO), (4, .int (nI i))]) (hi : i + 6 ≤ Ln) (hLn : Ln ≤ 3072) (hcells : cells + 30 ≤ 601024) (hslots : slots + 1000 ≤ 7293033)
    (kk : ∀ (H1 : Heap) (locs1 : List Loc), zLI D adV s H1 locs1 qC qM qO → W p l e room_1 s m #[Value.ref b] below meth c H1 locs1 (cells + 30) (slots + 1000) Q (F0 m 1618 lsM [])) :
    W p l e room_1 s m #[Value.ref b] below meth c H locs cells slots Q (F0 m 462 lsM []) := by
  have hS := zLI_S I
  obtain ⟨hx, hb, -⟩ := id X
  refine lv_aload_n hx hb dL_law_462 rfl (lv_at hl 1 rfl) ?_
  refine zlaw_arg (k := 1) X hS hl hi hLn (by decide) rfl dL_law_463 dL_law_464 dL_law_466 dL_law_467 dL_law_468 ?_
  refine zlaw_arg (k := 2) X hS hl hi hLn (by decide) rfl dL_law_469 dL_law_470 dL_law_472 dL_law_473 dL_law_474 ?_
  refine zpair_I (tC := 113) (tM := 238) (pC := 475) (pM := 491) (as := [.int (xs (i + 1)), .int (xs (i + 2))]) X I zpi_113 (zints_ok rfl) (by decide +kernel : zlchk 113 2 = true) (by decide +kernel : zlchk 238 2 = true) (by decide +kernel) (by decide +kernel) wl_62 wl_66 hl.1 dL_law_475 dL_law_491 hcells hslots (fun H1 locs1 cells1 slots1 v hS k1 => ?_) (fun H1 locs1 w I1 => ?_)
  · refine lv_aload_n hx hb dL_law_478 rfl (lv_at hl 2 rfl) ?_
    refine zlaw_arg (k := 1) X hS hl hi hLn (by decide) rfl dL_law_479 dL_law_480 dL_law_482 dL_law_483 dL_law_484 ?_
    refine zlaw_arg (k := 2) X hS hl hi hLn (by decide) rfl dL_law_485 dL_law_486 dL_law_488 dL_law_489 dL_law_490 ?_
    exact k1
  · exact lv_icmp_eq (tgt := 1618) hx hb dL_law_494 (by decide) (fun _ => kk H1 locs1 I1) (fun h => absurd rfl h)
theorem zcase_11 (X : zLX p s m c b Ln xs) (I : zLI D adV s H locs qC qM qO) (hl : lv_has lsM 7 [(0, .ref b), (1, .ref qC), (2, .ref qM), (3, .ref qO), (4, .int (nI i))]) (hi : i + 6 ≤ Ln) (hLn : Ln ≤ 3072) (hcells : cells + 30 ≤ 601024) (hslots : slots + 1000 ≤ 7293033)
    (kk : ∀ (H1 : Heap) (locs1 : List Loc), zLI D adV s H1 locs1 qC qM qO → W p l e room_1 s m #[Value.ref b] below meth c H1 locs1 (cells + 30) (slots + 1000) Q (F0 m 1618 lsM [])) :
    W p l e room_1 s m #[Value.ref b] below meth c H locs cells slots Q (F0 m 499 lsM []) := by
  have hS := zLI_S I
  obtain ⟨hx, hb, -⟩ := id X
  refine lv_aload_n hx hb dL_law_499 rfl (lv_at hl 1 rfl) ?_
  refine zlaw_arg (k := 1) X hS hl hi hLn (by decide) rfl dL_law_500 dL_law_501 dL_law_503 dL_law_504 dL_law_505 ?_
  refine zpair_I (tC := 114) (tM := 239) (pC := 506) (pM := 516) (as := [.int (xs (i + 1))]) X I zpi_114 (zints_ok rfl) (by decide +kernel : zlchk 114 1 = true) (by decide +kernel : zlchk 239 1 = true) (by decide +kernel) (by decide +kernel) wl_67 wl_70 hl.1 dL_law_506 dL_law_516 hcells hslots (fun H1 locs1 cells1 slots1 v hS k1 => ?_) (fun H1 locs1 w I1 => ?_)
  · refine lv_aload_n hx hb dL_law_509 rfl (lv_at hl 2 rfl) ?_
    refine zlaw_arg (k := 1) X hS hl hi hLn (by decide) rfl dL_law_510 dL_law_511 dL_law_513 dL_law_514 dL_law_515 ?_
    exact k1
  · exact lv_icmp_eq (tgt := 1618) hx hb dL_law_519 (by decide) (fun _ => kk H1 locs1 I1) (fun h => absurd rfl h)
theorem zcase_12 (X : zLX p s m c b Ln xs) (I : zLI D adV s H locs qC qM qO) (hl : lv_has lsM 7 [(0, .ref b), (1, .ref qC), (2, .ref qM), (3, .ref qO), (4, .int (nI i))]) (hi : i + 6 ≤ Ln) (hLn : Ln ≤ 3072) (hcells : cells + 30 ≤ 601024) (hslots : slots + 1000 ≤ 7293033)
    (kk : ∀ (H1 : Heap) (locs1 : List Loc), zLI D adV s H1 locs1 qC qM qO → W p l e room_1 s m #[Value.ref b] below meth c H1 locs1 (cells + 30) (slots + 1000) Q (F0 m 1618 lsM [])) :
    W p l e room_1 s m #[Value.ref b] below meth c H locs cells slots Q (F0 m 524 lsM []) := by
  have hS := zLI_S I
  obtain ⟨hx, hb, -⟩ := id X
  refine lv_aload_n hx hb dL_law_524 rfl (lv_at hl 1 rfl) ?_
  refine zlaw_arg (k := 1) X hS hl hi hLn (by decide) rfl dL_law_525 dL_law_526 dL_law_528 dL_law_529 dL_law_530 ?_
  refine zpair_I (tC := 115) (tM := 241) (pC := 531) (pM := 541) (as := [.int (xs (i + 1))]) X I zpi_115 (zints_ok rfl) (by decide +kernel : zlchk 115 1 = true) (by decide +kernel : zlchk 241 1 = true) (by decide +kernel) (by decide +kernel) wl_71 wl_74 hl.1 dL_law_531 dL_law_541 hcells hslots (fun H1 locs1 cells1 slots1 v hS k1 => ?_) (fun H1 locs1 w I1 => ?_)
  · refine lv_aload_n hx hb dL_law_534 rfl (lv_at hl 2 rfl) ?_
    refine zlaw_arg (k := 1) X hS hl hi hLn (by decide) rfl dL_law_535 dL_law_536 dL_law_538 dL_law_539 dL_law_540 ?_
    exact k1
  · exact lv_icmp_eq (tgt := 1618) hx hb dL_law_544 (by decide) (fun _ => kk H1 locs1 I1) (fun h => absurd rfl h)
theorem zcase_13 (X : zLX p s m c b Ln xs) (I : zLI D adV s H locs qC qM qO) (hl : lv_has lsM 7 [(0, .ref b), (1, .ref qC), (2, .ref qM), (3, .ref qO), (4, .int (nI i))]) (hi : i + 6 ≤ Ln) (hLn : Ln ≤ 3072) (hcells : cells + 30 ≤ 601024) (hslots : slots + 1000 ≤ 7293033)
    (kk : ∀ (H1 : Heap) (locs1 : List Loc), zLI D adV s H1 locs1 qC qM qO → W p l e room_1 s m #[Value.ref b] below meth c H1 locs1 (cells + 30) (slots + 1000) Q (F0 m 1618 lsM [])) :
    W p l e room_1 s m #[Value.ref b] below meth c H locs cells slots Q (F0 m 549 lsM []) := by
  have hS := zLI_S I
  obtain ⟨hx, hb, -⟩ := id X
  refine lv_aload_n hx hb dL_law_549 rfl (lv_at hl 1 rfl) ?_
  refine zlaw_arg (k := 1) X hS hl hi hLn (by decide) rfl dL_law_550 dL_law_551 dL_law_553 dL_law_554 dL_law_555 ?_
  refine zpair_I (tC := 116) (tM := 242) (pC := 556) (pM := 566) (as := [.int (xs (i + 1))]) X I zpi_116 (zints_ok rfl) (by decide +kernel : zlchk 116 1 = true) (by decide +kernel : zlchk 242 1 = true) (by decide +kernel) (by decide +kernel) wl_75 wl_78 hl.1 dL_law_556 dL_law_566 hcells hslots (fun H1 locs1 cells1 slots1 v hS k1 => ?_) (fun H1 locs1 w I1 => ?_)
  · refine lv_aload_n hx hb dL_law_559 rfl (lv_at hl 2 rfl) ?_
    refine zlaw_arg (k := 1) X hS hl hi hLn (by decide) rfl dL_law_560 dL_law_561 dL_law_563 dL_law_564 dL_law_565 ?_
    exact k1
  · exact lv_icmp_eq (tgt := 1618) hx hb dL_law_569 (by decide) (fun _ => kk H1 locs1 I1) (fun h => absurd rfl h)
theorem zcase_14 (X : zLX p s m c b Ln xs) (I : zLI D adV s H locs qC qM qO) (hl : lv_has lsM 7 [(0, .ref b), (1, .ref qC), (2, .ref qM), (3, .ref qO), (4, .int (nI i))]) (hi : i + 6 ≤ Ln) (hLn : Ln ≤ 3072) (hcells : cells + 30 ≤ 601024) (hslots : slots + 1000 ≤ 7293033)
    (kk : ∀ (H1 : Heap) (locs1 : List Loc), zLI D adV s H1 locs1 qC qM qO → W p l e room_1 s m #[Value.ref b] below meth c H1 locs1 (cells + 30) (slots + 1000) Q (F0 m 1618 lsM [])) :
    W p l e room_1 s m #[Value.ref b] below meth c H locs cells slots Q (F0 m 574 lsM []) := by
  have hS := zLI_S I
  obtain ⟨hx, hb, -⟩ := id X
  refine lv_aload_n hx hb dL_law_574 rfl (lv_at hl 1 rfl) ?_
  refine zlaw_arg (k := 1) X hS hl hi hLn (by decide) rfl dL_law_575 dL_law_576 dL_law_578 dL_law_579 dL_law_580 ?_
  refine zpair_I (tC := 117) (tM := 243) (pC := 581) (pM := 591) (as := [.int (xs (i + 1))]) X I zpi_117 (zints_ok rfl) (by decide +kernel : zlchk 117 1 = true) (by decide +kernel : zlchk 243 1 = true) (by decide +kernel) (by decide +kernel) wl_79 wl_82 hl.1 dL_law_581 dL_law_591 hcells hslots (fun H1 locs1 cells1 slots1 v hS k1 => ?_) (fun H1 locs1 w I1 => ?_)
  · refine lv_aload_n hx hb dL_law_584 rfl (lv_at hl 2 rfl) ?_
    refine zlaw_arg (k := 1) X hS hl hi hLn (by decide) rfl dL_law_585 dL_law_586 dL_law_588 dL_law_589 dL_law_590 ?_
    exact k1
  · exact lv_icmp_eq (tgt := 1618) hx hb dL_law_594 (by decide) (fun _ => kk H1 locs1 I1) (fun h => absurd rfl h)
theorem zcase_15 (X : zLX p s m c b Ln xs) (I : zLI D adV s H locs qC qM qO) (hl : lv_has lsM 7 [(0, .ref b), (1, .ref qC), (2, .ref qM), (3, .ref qO), (4, .int (nI i))]) (hi : i + 6 ≤ Ln) (hLn : Ln ≤ 3072) (hcells : cells + 30 ≤ 601024) (hslots : slots + 1000 ≤ 7293033)
    (kk : ∀ (H1 : Heap) (locs1 : List Loc), zLI D adV s H1 locs1 qC qM qO → W p l e room_1 s m #[Value.ref b] below meth c H1 locs1 (cells + 30) (slots + 1000) Q (F0 m 1618 lsM [])) :
    W p l e room_1 s m #[Value.ref b] below meth c H locs cells slots Q (F0 m 599 lsM []) := by
  have hS := zLI_S I
  obtain ⟨hx, hb, -⟩ := id X
  refine lv_aload_n hx hb dL_law_599 rfl (lv_at hl 1 rfl) ?_
  refine zpair_I (tC := 118) (tM := 244) (pC := 600) (pM := 604) (as := []) X I zpi_118 (zints_ok rfl) (by decide +kernel : zlchk 118 0 = true) (by decide +kernel : zlchk 244 0 = true) (by decide +kernel) (by decide +kernel) wl_83 wl_86 hl.1 dL_law_600 dL_law_604 hcells hslots (fun H1 locs1 cells1 slots1 v hS k1 => ?_) (fun H1 locs1 w I1 => ?_)
  · refine lv_aload_n hx hb dL_law_603 rfl (lv_at hl 2 rfl) ?_
    exact k1
  · exact lv_icmp_eq (tgt := 1618) hx hb dL_law_607 (by decide) (fun _ => kk H1 locs1 I1) (fun h => absurd rfl h)
theorem zcase_16 (X : zLX p s m c b Ln xs) (I : zLI D adV s H locs qC qM qO) (hl : lv_has lsM 7 [(0, .ref b), (1, .ref qC), (2, .ref qM), (3, .ref qO), (4, .int (nI i))]) (hi : i + 6 ≤ Ln) (hLn : Ln ≤ 3072) (hcells : cells + 30 ≤ 601024) (hslots : slots + 1000 ≤ 7293033)
    (kk : ∀ (H1 : Heap) (locs1 : List Loc), zLI D adV s H1 locs1 qC qM qO → W p l e room_1 s m #[Value.ref b] below meth c H1 locs1 (cells + 30) (slots + 1000) Q (F0 m 1618 lsM [])) :
    W p l e room_1 s m #[Value.ref b] below meth c H locs cells slots Q (F0 m 612 lsM []) := by
  have hS := zLI_S I
  obtain ⟨hx, hb, -⟩ := id X
  refine lv_aload_n hx hb dL_law_612 rfl (lv_at hl 1 rfl) ?_
  refine zpair_I (tC := 119) (tM := 245) (pC := 613) (pM := 617) (as := []) X I zpi_119 (zints_ok rfl) (by decide +kernel : zlchk 119 0 = true) (by decide +kernel : zlchk 245 0 = true) (by decide +kernel) (by decide +kernel) wl_87 wl_90 hl.1 dL_law_613 dL_law_617 hcells hslots (fun H1 locs1 cells1 slots1 v hS k1 => ?_) (fun H1 locs1 w I1 => ?_)
  · refine lv_aload_n hx hb dL_law_616 rfl (lv_at hl 2 rfl) ?_
    exact k1
  · exact lv_icmp_eq (tgt := 1618) hx hb dL_law_620 (by decide) (fun _ => kk H1 locs1 I1) (fun h => absurd rfl h)
theorem zcase_17 (X : zLX p s m c b Ln xs) (I : zLI D adV s H locs qC qM qO) (hl : lv_has lsM 7 [(0, .ref b), (1, .ref qC), (2, .ref qM), (3, .ref qO), (4, .int (nI i))]) (hi : i + 6 ≤ Ln) (hLn : Ln ≤ 3072) (hcells : cells + 30 ≤ 601024) (hslots : slots + 1000 ≤ 7293033)
    (kk : ∀ (H1 : Heap) (locs1 : List Loc), zLI D adV s H1 locs1 qC qM qO → W p l e room_1 s m #[Value.ref b] below meth c H1 locs1 (cells + 30) (slots + 1000) Q (F0 m 1618 lsM [])) :
    W p l e room_1 s m #[Value.ref b] below meth c H locs cells slots Q (F0 m 625 lsM []) := by
  have hS := zLI_S I
  obtain ⟨hx, hb, -⟩ := id X
  refine lv_aload_n hx hb dL_law_625 rfl (lv_at hl 1 rfl) ?_
  refine zlaw_arg (k := 1) X hS hl hi hLn (by decide) rfl dL_law_626 dL_law_627 dL_law_629 dL_law_630 dL_law_631 ?_
  refine zpair_I (tC := 120) (tM := 246) (pC := 632) (pM := 642) (as := [.int (xs (i + 1))]) X I zpi_120 (zints_ok rfl) (by decide +kernel : zlchk 120 1 = true) (by decide +kernel : zlchk 246 1 = true) (by decide +kernel) (by decide +kernel) wl_91 wl_94 hl.1 dL_law_632 dL_law_642 hcells hslots (fun H1 locs1 cells1 slots1 v hS k1 => ?_) (fun H1 locs1 w I1 => ?_)
  · refine lv_aload_n hx hb dL_law_635 rfl (lv_at hl 2 rfl) ?_
    refine zlaw_arg (k := 1) X hS hl hi hLn (by decide) rfl dL_law_636 dL_law_637 dL_law_639 dL_law_640 dL_law_641 ?_
    exact k1
  · exact lv_icmp_eq (tgt := 1618) hx hb dL_law_645 (by decide) (fun _ => kk H1 locs1 I1) (fun h => absurd rfl h)
theorem zcase_18 (X : zLX p s m c b Ln xs) (I : zLI D adV s H locs qC qM qO) (hl : lv_has lsM 7 [(0, .ref b), (1, .ref qC), (2, .ref qM), (3, .ref qO), (4, .int (nI i))]) (hi : i + 6 ≤ Ln) (hLn : Ln ≤ 3072) (hcells : cells + 30 ≤ 601024) (hslots : slots + 1000 ≤ 7293033)
    (kk : ∀ (H1 : Heap) (locs1 : List Loc), zLI D adV s H1 locs1 qC qM qO → W p l e room_1 s m #[Value.ref b] below meth c H1 locs1 (cells + 30) (slots + 1000) Q (F0 m 1618 lsM [])) :
    W p l e room_1 s m #[Value.ref b] below meth c H locs cells slots Q (F0 m 650 lsM []) := by
  have hS := zLI_S I
  obtain ⟨hx, hb, -⟩ := id X
  refine lv_aload_n hx hb dL_law_650 rfl (lv_at hl 1 rfl) ?_
  refine zlaw_arg (k := 1) X hS hl hi hLn (by decide) rfl dL_law_651 dL_law_652 dL_law_654 dL_law_655 dL_law_656 ?_
  refine zlaw_arg (k := 2) X hS hl hi hLn (by decide) rfl dL_law_657 dL_law_658 dL_law_660 dL_law_661 dL_law_662 ?_
  refine zpair_I (tC := 121) (tM := 248) (pC := 663) (pM := 679) (as := [.int (xs (i + 1)), .int (xs (i + 2))]) X I zpi_121 (zints_ok rfl) (by decide +kernel : zlchk 121 2 = true) (by decide +kernel : zlchk 248 2 = true) (by decide +kernel) (by decide +kernel) wl_95 wl_98 hl.1 dL_law_663 dL_law_679 hcells hslots (fun H1 locs1 cells1 slots1 v hS k1 => ?_) (fun H1 locs1 w I1 => ?_)
  · refine lv_aload_n hx hb dL_law_666 rfl (lv_at hl 2 rfl) ?_
    refine zlaw_arg (k := 1) X hS hl hi hLn (by decide) rfl dL_law_667 dL_law_668 dL_law_670 dL_law_671 dL_law_672 ?_
    refine zlaw_arg (k := 2) X hS hl hi hLn (by decide) rfl dL_law_673 dL_law_674 dL_law_676 dL_law_677 dL_law_678 ?_
    exact k1
  · exact lv_icmp_eq (tgt := 1618) hx hb dL_law_682 (by decide) (fun _ => kk H1 locs1 I1) (fun h => absurd rfl h)
theorem zcase_19 (X : zLX p s m c b Ln xs) (I : zLI D adV s H locs qC qM qO) (hl : lv_has lsM 7 [(0, .ref b), (1, .ref qC), (2, .ref qM), (3, .ref qO), (4, .int (nI i))]) (hi : i + 6 ≤ Ln) (hLn : Ln ≤ 3072) (hcells : cells + 30 ≤ 601024) (hslots : slots + 1000 ≤ 7293033)
    (kk : ∀ (H1 : Heap) (locs1 : List Loc), zLI D adV s H1 locs1 qC qM qO → W p l e room_1 s m #[Value.ref b] below meth c H1 locs1 (cells + 30) (slots + 1000) Q (F0 m 1618 lsM [])) :
    W p l e room_1 s m #[Value.ref b] below meth c H locs cells slots Q (F0 m 687 lsM []) := by
  have hS := zLI_S I
  obtain ⟨hx, hb, -⟩ := id X
  refine lv_aload_n hx hb dL_law_687 rfl (lv_at hl 1 rfl) ?_
  refine zlaw_arg (k := 1) X hS hl hi hLn (by decide) rfl dL_law_688 dL_law_689 dL_law_691 dL_law_692 dL_law_693 ?_
  refine zpair_I (tC := 122) (tM := 249) (pC := 694) (pM := 704) (as := [.int (xs (i + 1))]) X I zpi_122 (zints_ok rfl) (by decide +kernel : zlchk 122 1 = true) (by decide +kernel : zlchk 249 1 = true) (by decide +kernel) (by decide +kernel) wl_99 wl_102 hl.1 dL_law_694 dL_law_704 hcells hslots (fun H1 locs1 cells1 slots1 v hS k1 => ?_) (fun H1 locs1 w I1 => ?_)
  · refine lv_aload_n hx hb dL_law_697 rfl (lv_at hl 2 rfl) ?_
    refine zlaw_arg (k := 1) X hS hl hi hLn (by decide) rfl dL_law_698 dL_law_699 dL_law_701 dL_law_702 dL_law_703 ?_
    exact k1
  · exact lv_icmp_eq (tgt := 1618) hx hb dL_law_707 (by decide) (fun _ => kk H1 locs1 I1) (fun h => absurd rfl h)
theorem zcase_20 (X : zLX p s m c b Ln xs) (I : zLI D adV s H locs qC qM qO) (hl : lv_has lsM 7 [(0, .ref b), (1, .ref qC), (2, .ref qM), (3, .ref qO), (4, .int (nI i))]) (hi : i + 6 ≤ Ln) (hLn : Ln ≤ 3072) (hcells : cells + 30 ≤ 601024) (hslots : slots + 1000 ≤ 7293033)
    (kk : ∀ (H1 : Heap) (locs1 : List Loc), zLI D adV s H1 locs1 qC qM qO → W p l e room_1 s m #[Value.ref b] below meth c H1 locs1 (cells + 30) (slots + 1000) Q (F0 m 1618 lsM [])) :
    W p l e room_1 s m #[Value.ref b] below meth c H locs cells slots Q (F0 m 712 lsM []) := by
  have hS := zLI_S I
  obtain ⟨hx, hb, -⟩ := id X
  refine lv_aload_n hx hb dL_law_712 rfl (lv_at hl 1 rfl) ?_
  refine zlaw_arg (k := 1) X hS hl hi hLn (by decide) rfl dL_law_713 dL_law_714 dL_law_716 dL_law_717 dL_law_718 ?_
  refine zlaw_arg (k := 2) X hS hl hi hLn (by decide) rfl dL_law_719 dL_law_720 dL_law_722 dL_law_723 dL_law_724 ?_
  refine zlaw_arg (k := 3) X hS hl hi hLn (by decide) rfl dL_law_725 dL_law_726 dL_law_728 dL_law_729 dL_law_730 ?_
  refine zlaw_hi hx hb dL_law_731 dL_law_734 dL_law_735 dL_law_738 ?_
  refine zpair_I (tC := 123) (tM := 251) (pC := 739) (pM := 769) (as := [.int (xs (i + 1)), .int (xs (i + 2)), .int (if xs (i + 3) = 0 then 0 else 1)]) X I (zpi_123 (by split; exact .inl rfl; exact .inr rfl)) (zints_ok rfl) (by decide +kernel : zlchk 123 3 = true) (by decide +kernel : zlchk 251 3 = true) (by decide +kernel) (by decide +kernel) wl_103 wl_107 hl.1 dL_law_739 dL_law_769 hcells hslots (fun H1 locs1 cells1 slots1 v hS k1 => ?_) (fun H1 locs1 w I1 => ?_)
  · refine lv_aload_n hx hb dL_law_742 rfl (lv_at hl 2 rfl) ?_
    refine zlaw_arg (k := 1) X hS hl hi hLn (by decide) rfl dL_law_743 dL_law_744 dL_law_746 dL_law_747 dL_law_748 ?_
    refine zlaw_arg (k := 2) X hS hl hi hLn (by decide) rfl dL_law_749 dL_law_750 dL_law_752 dL_law_753 dL_law_754 ?_
    refine zlaw_arg (k := 3) X hS hl hi hLn (by decide) rfl dL_law_755 dL_law_756 dL_law_758 dL_law_759 dL_law_760 ?_
    refine zlaw_hi hx hb dL_law_761 dL_law_764 dL_law_765 dL_law_768 ?_
    exact k1
  · exact lv_icmp_eq (tgt := 1618) hx hb dL_law_772 (by decide) (fun _ => kk H1 locs1 I1) (fun h => absurd rfl h)
theorem zcase_21 (X : zLX p s m c b Ln xs) (I : zLI D adV s H locs qC qM qO) (hl : lv_has lsM 7 [(0, .ref b), (1, .ref qC), (2, .ref qM), (3, .ref qO), (4, .int (nI i))]) (hi : i + 6 ≤ Ln) (hLn : Ln ≤ 3072) (hcells : cells + 30 ≤ 601024) (hslots : slots + 1000 ≤ 7293033)
    (kk : ∀ (H1 : Heap) (locs1 : List Loc), zLI D adV s H1 locs1 qC qM qO → W p l e room_1 s m #[Value.ref b] below meth c H1 locs1 (cells + 30) (slots + 1000) Q (F0 m 1618 lsM [])) :
    W p l e room_1 s m #[Value.ref b] below meth c H locs cells slots Q (F0 m 777 lsM []) := by
  have hS := zLI_S I
  obtain ⟨hx, hb, -⟩ := id X
  refine lv_aload_n hx hb dL_law_777 rfl (lv_at hl 1 rfl) ?_
  refine zlaw_arg (k := 1) X hS hl hi hLn (by decide) rfl dL_law_778 dL_law_779 dL_law_781 dL_law_782 dL_law_783 ?_
  refine zlaw_arg (k := 2) X hS hl hi hLn (by decide) rfl dL_law_784 dL_law_785 dL_law_787 dL_law_788 dL_law_789 ?_
  refine zpair_I (tC := 124) (tM := 252) (pC := 790) (pM := 806) (as := [.int (xs (i + 1)), .int (xs (i + 2))]) X I zpi_124 (zints_ok rfl) (by decide +kernel : zlchk 124 2 = true) (by decide +kernel : zlchk 252 2 = true) (by decide +kernel) (by decide +kernel) wl_108 wl_111 hl.1 dL_law_790 dL_law_806 hcells hslots (fun H1 locs1 cells1 slots1 v hS k1 => ?_) (fun H1 locs1 w I1 => ?_)
  · refine lv_aload_n hx hb dL_law_793 rfl (lv_at hl 2 rfl) ?_
    refine zlaw_arg (k := 1) X hS hl hi hLn (by decide) rfl dL_law_794 dL_law_795 dL_law_797 dL_law_798 dL_law_799 ?_
    refine zlaw_arg (k := 2) X hS hl hi hLn (by decide) rfl dL_law_800 dL_law_801 dL_law_803 dL_law_804 dL_law_805 ?_
    exact k1
  · exact lv_icmp_eq (tgt := 1618) hx hb dL_law_809 (by decide) (fun _ => kk H1 locs1 I1) (fun h => absurd rfl h)
theorem zcase_22 (X : zLX p s m c b Ln xs) (I : zLI D adV s H locs qC qM qO) (hl : lv_has lsM 7 [(0, .ref b), (1, .ref qC), (2, .ref qM), (3, .ref qO), (4, .int (nI i))]) (hi : i + 6 ≤ Ln) (hLn : Ln ≤ 3072) (hcells : cells + 30 ≤ 601024) (hslots : slots + 1000 ≤ 7293033)
    (kk : ∀ (H1 : Heap) (locs1 : List Loc), zLI D adV s H1 locs1 qC qM qO → W p l e room_1 s m #[Value.ref b] below meth c H1 locs1 (cells + 30) (slots + 1000) Q (F0 m 1618 lsM [])) :
    W p l e room_1 s m #[Value.ref b] below meth c H locs cells slots Q (F0 m 814 lsM []) := by
  have hS := zLI_S I
  obtain ⟨hx, hb, -⟩ := id X
  refine lv_aload_n hx hb dL_law_814 rfl (lv_at hl 1 rfl) ?_
  refine zlaw_arg (k := 1) X hS hl hi hLn (by decide) rfl dL_law_815 dL_law_816 dL_law_818 dL_law_819 dL_law_820 ?_
  refine zlaw_arg (k := 2) X hS hl hi hLn (by decide) rfl dL_law_821 dL_law_822 dL_law_824 dL_law_825 dL_law_826 ?_
  refine zlaw_arg (k := 3) X hS hl hi hLn (by decide) rfl dL_law_827 dL_law_828 dL_law_830 dL_law_831 dL_law_832 ?_
  refine zlaw_hi hx hb dL_law_833 dL_law_836 dL_law_837 dL_law_840 ?_
  refine zpair_I (tC := 125) (tM := 254) (pC := 841) (pM := 871) (as := [.int (xs (i + 1)), .int (xs (i + 2)), .int (if xs (i + 3) = 0 then 0 else 1)]) X I (zpi_125 (by split; exact .inl rfl; exact .inr rfl)) (zints_ok rfl) (by decide +kernel : zlchk 125 3 = true) (by decide +kernel : zlchk 254 3 = true) (by decide +kernel) (by decide +kernel) wl_112 wl_115 hl.1 dL_law_841 dL_law_871 hcells hslots (fun H1 locs1 cells1 slots1 v hS k1 => ?_) (fun H1 locs1 w I1 => ?_)
  · refine lv_aload_n hx hb dL_law_844 rfl (lv_at hl 2 rfl) ?_
    refine zlaw_arg (k := 1) X hS hl hi hLn (by decide) rfl dL_law_845 dL_law_846 dL_law_848 dL_law_849 dL_law_850 ?_
    refine zlaw_arg (k := 2) X hS hl hi hLn (by decide) rfl dL_law_851 dL_law_852 dL_law_854 dL_law_855 dL_law_856 ?_
    refine zlaw_arg (k := 3) X hS hl hi hLn (by decide) rfl dL_law_857 dL_law_858 dL_law_860 dL_law_861 dL_law_862 ?_
    refine zlaw_hi hx hb dL_law_863 dL_law_866 dL_law_867 dL_law_870 ?_
    exact k1
  · exact lv_icmp_eq (tgt := 1618) hx hb dL_law_874 (by decide) (fun _ => kk H1 locs1 I1) (fun h => absurd rfl h)
theorem zcase_23 (X : zLX p s m c b Ln xs) (I : zLI D adV s H locs qC qM qO) (hl : lv_has lsM 7 [(0, .ref b), (1, .ref qC), (2, .ref qM), (3, .ref qO), (4, .int (nI i))]) (hi : i + 6 ≤ Ln) (hLn : Ln ≤ 3072) (hcells : cells + 30 ≤ 601024) (hslots : slots + 1000 ≤ 7293033)
    (kk : ∀ (H1 : Heap) (locs1 : List Loc), zLI D adV s H1 locs1 qC qM qO → W p l e room_1 s m #[Value.ref b] below meth c H1 locs1 (cells + 30) (slots + 1000) Q (F0 m 1618 lsM [])) :
    W p l e room_1 s m #[Value.ref b] below meth c H locs cells slots Q (F0 m 879 lsM []) := by
  have hS := zLI_S I
  obtain ⟨hx, hb, -⟩ := id X
  refine lv_aload_n hx hb dL_law_879 rfl (lv_at hl 1 rfl) ?_
  refine zlaw_arg (k := 1) X hS hl hi hLn (by decide) rfl dL_law_880 dL_law_881 dL_law_883 dL_law_884 dL_law_885 ?_
  refine zlaw_arg (k := 2) X hS hl hi hLn (by decide) rfl dL_law_886 dL_law_887 dL_law_889 dL_law_890 dL_law_891 ?_
  refine zlaw_arg (k := 3) X hS hl hi hLn (by decide) rfl dL_law_892 dL_law_893 dL_law_895 dL_law_896 dL_law_897 ?_
  refine zpair_I (tC := 126) (tM := 257) (pC := 898) (pM := 920) (as := [.int (xs (i + 1)), .int (xs (i + 2)), .int (xs (i + 3))]) X I zpi_126 (zints_ok rfl) (by decide +kernel : zlchk 126 3 = true) (by decide +kernel : zlchk 257 3 = true) (by decide +kernel) (by decide +kernel) wl_116 wl_120 hl.1 dL_law_898 dL_law_920 hcells hslots (fun H1 locs1 cells1 slots1 v hS k1 => ?_) (fun H1 locs1 w I1 => ?_)
  · refine lv_aload_n hx hb dL_law_901 rfl (lv_at hl 2 rfl) ?_
    refine zlaw_arg (k := 1) X hS hl hi hLn (by decide) rfl dL_law_902 dL_law_903 dL_law_905 dL_law_906 dL_law_907 ?_
    refine zlaw_arg (k := 2) X hS hl hi hLn (by decide) rfl dL_law_908 dL_law_909 dL_law_911 dL_law_912 dL_law_913 ?_
    refine zlaw_arg (k := 3) X hS hl hi hLn (by decide) rfl dL_law_914 dL_law_915 dL_law_917 dL_law_918 dL_law_919 ?_
    exact k1
  · exact lv_icmp_eq (tgt := 1618) hx hb dL_law_923 (by decide) (fun _ => kk H1 locs1 I1) (fun h => absurd rfl h)
theorem zcase_24 (X : zLX p s m c b Ln xs) (I : zLI D adV s H locs qC qM qO) (hl : lv_has lsM 7 [(0, .ref b), (1, .ref qC), (2, .ref qM), (3, .ref qO), (4, .int (nI i))]) (hi : i + 6 ≤ Ln) (hLn : Ln ≤ 3072) (hcells : cells + 30 ≤ 601024) (hslots : slots + 1000 ≤ 7293033)
    (kk : ∀ (H1 : Heap) (locs1 : List Loc), zLI D adV s H1 locs1 qC qM qO → W p l e room_1 s m #[Value.ref b] below meth c H1 locs1 (cells + 30) (slots + 1000) Q (F0 m 1618 lsM [])) :
    W p l e room_1 s m #[Value.ref b] below meth c H locs cells slots Q (F0 m 928 lsM []) := by
  have hS := zLI_S I
  obtain ⟨hx, hb, -⟩ := id X
  refine lv_aload_n hx hb dL_law_928 rfl (lv_at hl 1 rfl) ?_
  refine zlaw_arg (k := 1) X hS hl hi hLn (by decide) rfl dL_law_929 dL_law_930 dL_law_932 dL_law_933 dL_law_934 ?_
  refine zlaw_arg (k := 2) X hS hl hi hLn (by decide) rfl dL_law_935 dL_law_936 dL_law_938 dL_law_939 dL_law_940 ?_
  refine zlaw_arg (k := 3) X hS hl hi hLn (by decide) rfl dL_law_941 dL_law_942 dL_law_944 dL_law_945 dL_law_946 ?_
  refine zpair_I (tC := 127) (tM := 258) (pC := 947) (pM := 969) (as := [.int (xs (i + 1)), .int (xs (i + 2)), .int (xs (i + 3))]) X I zpi_127 (zints_ok rfl) (by decide +kernel : zlchk 127 3 = true) (by decide +kernel : zlchk 258 3 = true) (by decide +kernel) (by decide +kernel) wl_121 wl_124 hl.1 dL_law_947 dL_law_969 hcells hslots (fun H1 locs1 cells1 slots1 v hS k1 => ?_) (fun H1 locs1 w I1 => ?_)
  · refine lv_aload_n hx hb dL_law_950 rfl (lv_at hl 2 rfl) ?_
    refine zlaw_arg (k := 1) X hS hl hi hLn (by decide) rfl dL_law_951 dL_law_952 dL_law_954 dL_law_955 dL_law_956 ?_
    refine zlaw_arg (k := 2) X hS hl hi hLn (by decide) rfl dL_law_957 dL_law_958 dL_law_960 dL_law_961 dL_law_962 ?_
    refine zlaw_arg (k := 3) X hS hl hi hLn (by decide) rfl dL_law_963 dL_law_964 dL_law_966 dL_law_967 dL_law_968 ?_
    exact k1
  · exact lv_icmp_eq (tgt := 1618) hx hb dL_law_972 (by decide) (fun _ => kk H1 locs1 I1) (fun h => absurd rfl h)
theorem zcase_25 (X : zLX p s m c b Ln xs) (I : zLI D adV s H locs qC qM qO) (hl : lv_has lsM 7 [(0, .ref b), (1, .ref qC), (2, .ref qM), (3, .ref qO), (4, .int (nI i))]) (hi : i + 6 ≤ Ln) (hLn : Ln ≤ 3072) (hcells : cells + 30 ≤ 601024) (hslots : slots + 1000 ≤ 7293033)
    (kk : ∀ (H1 : Heap) (locs1 : List Loc), zLI D adV s H1 locs1 qC qM qO → W p l e room_1 s m #[Value.ref b] below meth c H1 locs1 (cells + 30) (slots + 1000) Q (F0 m 1618 lsM [])) :
    W p l e room_1 s m #[Value.ref b] below meth c H locs cells slots Q (F0 m 977 lsM []) := by
  have hS := zLI_S I
  obtain ⟨hx, hb, -⟩ := id X
  refine lv_aload_n hx hb dL_law_977 rfl (lv_at hl 1 rfl) ?_
  refine zlaw_arg (k := 1) X hS hl hi hLn (by decide) rfl dL_law_978 dL_law_979 dL_law_981 dL_law_982 dL_law_983 ?_
  refine zlaw_arg (k := 2) X hS hl hi hLn (by decide) rfl dL_law_984 dL_law_985 dL_law_987 dL_law_988 dL_law_989 ?_
  refine zlaw_arg (k := 3) X hS hl hi hLn (by decide) rfl dL_law_990 dL_law_991 dL_law_993 dL_law_994 dL_law_995 ?_
  refine zpair_L (tC := 128) (tM := 260) (pC := 996) (pM := 1018) (as := [.int (xs (i + 1)), .int (xs (i + 2)), .int (xs (i + 3))]) X I zpi_128 (zints_ok rfl) (by decide +kernel : zlchk 128 3 = true) (by decide +kernel : zlchk 260 3 = true) (by decide +kernel) (by decide +kernel) wl_125 wl_129 hl.1 dL_law_996 dL_law_1018 hcells hslots (fun H1 locs1 cells1 slots1 v hS k1 => ?_) (fun H1 locs1 w I1 => ?_)
  · refine lv_aload_n hx hb dL_law_999 rfl (lv_at hl 2 rfl) ?_
    refine zlaw_arg (k := 1) X hS hl hi hLn (by decide) rfl dL_law_1000 dL_law_1001 dL_law_1003 dL_law_1004 dL_law_1005 ?_
    refine zlaw_arg (k := 2) X hS hl hi hLn (by decide) rfl dL_law_1006 dL_law_1007 dL_law_1009 dL_law_1010 dL_law_1011 ?_
    refine zlaw_arg (k := 3) X hS hl hi hLn (by decide) rfl dL_law_1012 dL_law_1013 dL_law_1015 dL_law_1016 dL_law_1017 ?_
    exact k1
  · refine W.lcmp hx hb dL_law_1021 ?_
    exact lv_if_eq (tgt := 1618) hx hb dL_law_1022 (by decide) (fun _ => kk H1 locs1 I1) (fun h => absurd (zlg_self w) h)
theorem zcase_26 (X : zLX p s m c b Ln xs) (I : zLI D adV s H locs qC qM qO) (hl : lv_has lsM 7 [(0, .ref b), (1, .ref qC), (2, .ref qM), (3, .ref qO), (4, .int (nI i))]) (hi : i + 6 ≤ Ln) (hLn : Ln ≤ 3072) (hcells : cells + 30 ≤ 601024) (hslots : slots + 1000 ≤ 7293033)
    (kk : ∀ (H1 : Heap) (locs1 : List Loc), zLI D adV s H1 locs1 qC qM qO → W p l e room_1 s m #[Value.ref b] below meth c H1 locs1 (cells + 30) (slots + 1000) Q (F0 m 1618 lsM [])) :
    W p l e room_1 s m #[Value.ref b] below meth c H locs cells slots Q (F0 m 1027 lsM []) := by
  have hS := zLI_S I
  obtain ⟨hx, hb, -⟩ := id X
  refine lv_aload_n hx hb dL_law_1027 rfl (lv_at hl 1 rfl) ?_
  refine zlaw_arg (k := 1) X hS hl hi hLn (by decide) rfl dL_law_1028 dL_law_1029 dL_law_1031 dL_law_1032 dL_law_1033 ?_
  refine zlaw_arg (k := 2) X hS hl hi hLn (by decide) rfl dL_law_1034 dL_law_1035 dL_law_1037 dL_law_1038 dL_law_1039 ?_
  refine zlaw_arg (k := 3) X hS hl hi hLn (by decide) rfl dL_law_1040 dL_law_1041 dL_law_1043 dL_law_1044 dL_law_1045 ?_
  refine zpair_I (tC := 129) (tM := 261) (pC := 1046) (pM := 1068) (as := [.int (xs (i + 1)), .int (xs (i + 2)), .int (xs (i + 3))]) X I zpi_129 (zints_ok rfl) (by decide +kernel : zlchk 129 3 = true) (by decide +kernel : zlchk 261 3 = true) (by decide +kernel) (by decide +kernel) wl_130 wl_133 hl.1 dL_law_1046 dL_law_1068 hcells hslots (fun H1 locs1 cells1 slots1 v hS k1 => ?_) (fun H1 locs1 w I1 => ?_)
  · refine lv_aload_n hx hb dL_law_1049 rfl (lv_at hl 2 rfl) ?_
    refine zlaw_arg (k := 1) X hS hl hi hLn (by decide) rfl dL_law_1050 dL_law_1051 dL_law_1053 dL_law_1054 dL_law_1055 ?_
    refine zlaw_arg (k := 2) X hS hl hi hLn (by decide) rfl dL_law_1056 dL_law_1057 dL_law_1059 dL_law_1060 dL_law_1061 ?_
    refine zlaw_arg (k := 3) X hS hl hi hLn (by decide) rfl dL_law_1062 dL_law_1063 dL_law_1065 dL_law_1066 dL_law_1067 ?_
    exact k1
  · exact lv_icmp_eq (tgt := 1618) hx hb dL_law_1071 (by decide) (fun _ => kk H1 locs1 I1) (fun h => absurd rfl h)
theorem zcase_27 (X : zLX p s m c b Ln xs) (I : zLI D adV s H locs qC qM qO) (hl : lv_has lsM 7 [(0, .ref b), (1, .ref qC), (2, .ref qM), (3, .ref qO), (4, .int (nI i))]) (hi : i + 6 ≤ Ln) (hLn : Ln ≤ 3072) (hcells : cells + 30 ≤ 601024) (hslots : slots + 1000 ≤ 7293033)
    (kk : ∀ (H1 : Heap) (locs1 : List Loc), zLI D adV s H1 locs1 qC qM qO → W p l e room_1 s m #[Value.ref b] below meth c H1 locs1 (cells + 30) (slots + 1000) Q (F0 m 1618 lsM [])) :
    W p l e room_1 s m #[Value.ref b] below meth c H locs cells slots Q (F0 m 1076 lsM []) := by
  have hS := zLI_S I
  obtain ⟨hx, hb, -⟩ := id X
  refine lv_aload_n hx hb dL_law_1076 rfl (lv_at hl 1 rfl) ?_
  refine zlaw_arg (k := 1) X hS hl hi hLn (by decide) rfl dL_law_1077 dL_law_1078 dL_law_1080 dL_law_1081 dL_law_1082 ?_
  refine zpair_I (tC := 130) (tM := 265) (pC := 1083) (pM := 1093) (as := [.int (xs (i + 1))]) X I zpi_130 (zints_ok rfl) (by decide +kernel : zlchk 130 1 = true) (by decide +kernel : zlchk 265 1 = true) (by decide +kernel) (by decide +kernel) wl_134 wl_137 hl.1 dL_law_1083 dL_law_1093 hcells hslots (fun H1 locs1 cells1 slots1 v hS k1 => ?_) (fun H1 locs1 w I1 => ?_)
  · refine lv_aload_n hx hb dL_law_1086 rfl (lv_at hl 2 rfl) ?_
    refine zlaw_arg (k := 1) X hS hl hi hLn (by decide) rfl dL_law_1087 dL_law_1088 dL_law_1090 dL_law_1091 dL_law_1092 ?_
    exact k1
  · exact lv_icmp_eq (tgt := 1618) hx hb dL_law_1096 (by decide) (fun _ => kk H1 locs1 I1) (fun h => absurd rfl h)
theorem zcase_28 (X : zLX p s m c b Ln xs) (I : zLI D adV s H locs qC qM qO) (hl : lv_has lsM 7 [(0, .ref b), (1, .ref qC), (2, .ref qM), (3, .ref qO), (4, .int (nI i))]) (hi : i + 6 ≤ Ln) (hLn : Ln ≤ 3072) (hcells : cells + 30 ≤ 601024) (hslots : slots + 1000 ≤ 7293033)
    (kk : ∀ (H1 : Heap) (locs1 : List Loc), zLI D adV s H1 locs1 qC qM qO → W p l e room_1 s m #[Value.ref b] below meth c H1 locs1 (cells + 30) (slots + 1000) Q (F0 m 1618 lsM [])) :
    W p l e room_1 s m #[Value.ref b] below meth c H locs cells slots Q (F0 m 1101 lsM []) := by
  have hS := zLI_S I
  obtain ⟨hx, hb, -⟩ := id X
  refine lv_aload_n hx hb dL_law_1101 rfl (lv_at hl 1 rfl) ?_
  refine zlaw_arg (k := 1) X hS hl hi hLn (by decide) rfl dL_law_1102 dL_law_1103 dL_law_1105 dL_law_1106 dL_law_1107 ?_
  refine zlaw_arg (k := 2) X hS hl hi hLn (by decide) rfl dL_law_1108 dL_law_1109 dL_law_1111 dL_law_1112 dL_law_1113 ?_
  refine zpair_I (tC := 131) (tM := 267) (pC := 1114) (pM := 1130) (as := [.int (xs (i + 1)), .int (xs (i + 2))]) X I zpi_131 (zints_ok rfl) (by decide +kernel : zlchk 131 2 = true) (by decide +kernel : zlchk 267 2 = true) (by decide +kernel) (by decide +kernel) wl_138 wl_141 hl.1 dL_law_1114 dL_law_1130 hcells hslots (fun H1 locs1 cells1 slots1 v hS k1 => ?_) (fun H1 locs1 w I1 => ?_)
  · refine lv_aload_n hx hb dL_law_1117 rfl (lv_at hl 2 rfl) ?_
    refine zlaw_arg (k := 1) X hS hl hi hLn (by decide) rfl dL_law_1118 dL_law_1119 dL_law_1121 dL_law_1122 dL_law_1123 ?_
    refine zlaw_arg (k := 2) X hS hl hi hLn (by decide) rfl dL_law_1124 dL_law_1125 dL_law_1127 dL_law_1128 dL_law_1129 ?_
    exact k1
  · exact lv_icmp_eq (tgt := 1618) hx hb dL_law_1133 (by decide) (fun _ => kk H1 locs1 I1) (fun h => absurd rfl h)
theorem zcase_29 (X : zLX p s m c b Ln xs) (I : zLI D adV s H locs qC qM qO) (hl : lv_has lsM 7 [(0, .ref b), (1, .ref qC), (2, .ref qM), (3, .ref qO), (4, .int (nI i))]) (hi : i + 6 ≤ Ln) (hLn : Ln ≤ 3072) (hcells : cells + 30 ≤ 601024) (hslots : slots + 1000 ≤ 7293033)
    (kk : ∀ (H1 : Heap) (locs1 : List Loc), zLI D adV s H1 locs1 qC qM qO → W p l e room_1 s m #[Value.ref b] below meth c H1 locs1 (cells + 30) (slots + 1000) Q (F0 m 1618 lsM [])) :
    W p l e room_1 s m #[Value.ref b] below meth c H locs cells slots Q (F0 m 1138 lsM []) := by
  have hS := zLI_S I
  obtain ⟨hx, hb, -⟩ := id X
  refine lv_aload_n hx hb dL_law_1138 rfl (lv_at hl 1 rfl) ?_
  refine zlaw_arg (k := 1) X hS hl hi hLn (by decide) rfl dL_law_1139 dL_law_1140 dL_law_1142 dL_law_1143 dL_law_1144 ?_
  refine zlaw_arg (k := 2) X hS hl hi hLn (by decide) rfl dL_law_1145 dL_law_1146 dL_law_1148 dL_law_1149 dL_law_1150 ?_
  refine zpair_I (tC := 132) (tM := 269) (pC := 1151) (pM := 1167) (as := [.int (xs (i + 1)), .int (xs (i + 2))]) X I zpi_132 (zints_ok rfl) (by decide +kernel : zlchk 132 2 = true) (by decide +kernel : zlchk 269 2 = true) (by decide +kernel) (by decide +kernel) wl_142 wl_145 hl.1 dL_law_1151 dL_law_1167 hcells hslots (fun H1 locs1 cells1 slots1 v hS k1 => ?_) (fun H1 locs1 w I1 => ?_)
  · refine lv_aload_n hx hb dL_law_1154 rfl (lv_at hl 2 rfl) ?_
    refine zlaw_arg (k := 1) X hS hl hi hLn (by decide) rfl dL_law_1155 dL_law_1156 dL_law_1158 dL_law_1159 dL_law_1160 ?_
    refine zlaw_arg (k := 2) X hS hl hi hLn (by decide) rfl dL_law_1161 dL_law_1162 dL_law_1164 dL_law_1165 dL_law_1166 ?_
    exact k1
  · exact lv_icmp_eq (tgt := 1618) hx hb dL_law_1170 (by decide) (fun _ => kk H1 locs1 I1) (fun h => absurd rfl h)
theorem zcase_30 (X : zLX p s m c b Ln xs) (I : zLI D adV s H locs qC qM qO) (hl : lv_has lsM 7 [(0, .ref b), (1, .ref qC), (2, .ref qM), (3, .ref qO), (4, .int (nI i))]) (hi : i + 6 ≤ Ln) (hLn : Ln ≤ 3072) (hcells : cells + 30 ≤ 601024) (hslots : slots + 1000 ≤ 7293033)
    (kk : ∀ (H1 : Heap) (locs1 : List Loc), zLI D adV s H1 locs1 qC qM qO → W p l e room_1 s m #[Value.ref b] below meth c H1 locs1 (cells + 30) (slots + 1000) Q (F0 m 1618 lsM [])) :
    W p l e room_1 s m #[Value.ref b] below meth c H locs cells slots Q (F0 m 1175 lsM []) := by
  have hS := zLI_S I
  obtain ⟨hx, hb, -⟩ := id X
  refine lv_aload_n hx hb dL_law_1175 rfl (lv_at hl 1 rfl) ?_
  refine zlaw_arg (k := 1) X hS hl hi hLn (by decide) rfl dL_law_1176 dL_law_1177 dL_law_1179 dL_law_1180 dL_law_1181 ?_
  refine zlaw_arg (k := 2) X hS hl hi hLn (by decide) rfl dL_law_1182 dL_law_1183 dL_law_1185 dL_law_1186 dL_law_1187 ?_
  refine zpair_I (tC := 133) (tM := 270) (pC := 1188) (pM := 1204) (as := [.int (xs (i + 1)), .int (xs (i + 2))]) X I zpi_133 (zints_ok rfl) (by decide +kernel : zlchk 133 2 = true) (by decide +kernel : zlchk 270 2 = true) (by decide +kernel) (by decide +kernel) wl_146 wl_149 hl.1 dL_law_1188 dL_law_1204 hcells hslots (fun H1 locs1 cells1 slots1 v hS k1 => ?_) (fun H1 locs1 w I1 => ?_)
  · refine lv_aload_n hx hb dL_law_1191 rfl (lv_at hl 2 rfl) ?_
    refine zlaw_arg (k := 1) X hS hl hi hLn (by decide) rfl dL_law_1192 dL_law_1193 dL_law_1195 dL_law_1196 dL_law_1197 ?_
    refine zlaw_arg (k := 2) X hS hl hi hLn (by decide) rfl dL_law_1198 dL_law_1199 dL_law_1201 dL_law_1202 dL_law_1203 ?_
    exact k1
  · exact lv_icmp_eq (tgt := 1618) hx hb dL_law_1207 (by decide) (fun _ => kk H1 locs1 I1) (fun h => absurd rfl h)
theorem zcase_31 (X : zLX p s m c b Ln xs) (I : zLI D adV s H locs qC qM qO) (hl : lv_has lsM 7 [(0, .ref b), (1, .ref qC), (2, .ref qM), (3, .ref qO), (4, .int (nI i))]) (hi : i + 6 ≤ Ln) (hLn : Ln ≤ 3072) (hcells : cells + 30 ≤ 601024) (hslots : slots + 1000 ≤ 7293033)
    (kk : ∀ (H1 : Heap) (locs1 : List Loc), zLI D adV s H1 locs1 qC qM qO → W p l e room_1 s m #[Value.ref b] below meth c H1 locs1 (cells + 30) (slots + 1000) Q (F0 m 1618 lsM [])) :
    W p l e room_1 s m #[Value.ref b] below meth c H locs cells slots Q (F0 m 1212 lsM []) := by
  have hS := zLI_S I
  obtain ⟨hx, hb, -⟩ := id X
  refine lv_aload_n hx hb dL_law_1212 rfl (lv_at hl 1 rfl) ?_
  refine zlaw_arg (k := 1) X hS hl hi hLn (by decide) rfl dL_law_1213 dL_law_1214 dL_law_1216 dL_law_1217 dL_law_1218 ?_
  refine zlaw_arg (k := 2) X hS hl hi hLn (by decide) rfl dL_law_1219 dL_law_1220 dL_law_1222 dL_law_1223 dL_law_1224 ?_
  refine zpair_I (tC := 134) (tM := 273) (pC := 1225) (pM := 1241) (as := [.int (xs (i + 1)), .int (xs (i + 2))]) X I zpi_134 (zints_ok rfl) (by decide +kernel : zlchk 134 2 = true) (by decide +kernel : zlchk 273 2 = true) (by decide +kernel) (by decide +kernel) wl_150 wl_153 hl.1 dL_law_1225 dL_law_1241 hcells hslots (fun H1 locs1 cells1 slots1 v hS k1 => ?_) (fun H1 locs1 w I1 => ?_)
  · refine lv_aload_n hx hb dL_law_1228 rfl (lv_at hl 2 rfl) ?_
    refine zlaw_arg (k := 1) X hS hl hi hLn (by decide) rfl dL_law_1229 dL_law_1230 dL_law_1232 dL_law_1233 dL_law_1234 ?_
    refine zlaw_arg (k := 2) X hS hl hi hLn (by decide) rfl dL_law_1235 dL_law_1236 dL_law_1238 dL_law_1239 dL_law_1240 ?_
    exact k1
  · exact lv_icmp_eq (tgt := 1618) hx hb dL_law_1244 (by decide) (fun _ => kk H1 locs1 I1) (fun h => absurd rfl h)
theorem zcase_32 (X : zLX p s m c b Ln xs) (I : zLI D adV s H locs qC qM qO) (hl : lv_has lsM 7 [(0, .ref b), (1, .ref qC), (2, .ref qM), (3, .ref qO), (4, .int (nI i))]) (hi : i + 6 ≤ Ln) (hLn : Ln ≤ 3072) (hcells : cells + 30 ≤ 601024) (hslots : slots + 1000 ≤ 7293033)
    (kk : ∀ (H1 : Heap) (locs1 : List Loc), zLI D adV s H1 locs1 qC qM qO → W p l e room_1 s m #[Value.ref b] below meth c H1 locs1 (cells + 30) (slots + 1000) Q (F0 m 1618 lsM [])) :
    W p l e room_1 s m #[Value.ref b] below meth c H locs cells slots Q (F0 m 1249 lsM []) := by
  have hS := zLI_S I
  obtain ⟨hx, hb, -⟩ := id X
  refine lv_aload_n hx hb dL_law_1249 rfl (lv_at hl 1 rfl) ?_
  refine zlaw_arg (k := 1) X hS hl hi hLn (by decide) rfl dL_law_1250 dL_law_1251 dL_law_1253 dL_law_1254 dL_law_1255 ?_
  refine zlaw_arg (k := 2) X hS hl hi hLn (by decide) rfl dL_law_1256 dL_law_1257 dL_law_1259 dL_law_1260 dL_law_1261 ?_
  refine zpair_I (tC := 135) (tM := 274) (pC := 1262) (pM := 1278) (as := [.int (xs (i + 1)), .int (xs (i + 2))]) X I zpi_135 (zints_ok rfl) (by decide +kernel : zlchk 135 2 = true) (by decide +kernel : zlchk 274 2 = true) (by decide +kernel) (by decide +kernel) wl_154 wl_157 hl.1 dL_law_1262 dL_law_1278 hcells hslots (fun H1 locs1 cells1 slots1 v hS k1 => ?_) (fun H1 locs1 w I1 => ?_)
  · refine lv_aload_n hx hb dL_law_1265 rfl (lv_at hl 2 rfl) ?_
    refine zlaw_arg (k := 1) X hS hl hi hLn (by decide) rfl dL_law_1266 dL_law_1267 dL_law_1269 dL_law_1270 dL_law_1271 ?_
    refine zlaw_arg (k := 2) X hS hl hi hLn (by decide) rfl dL_law_1272 dL_law_1273 dL_law_1275 dL_law_1276 dL_law_1277 ?_
    exact k1
  · exact lv_icmp_eq (tgt := 1618) hx hb dL_law_1281 (by decide) (fun _ => kk H1 locs1 I1) (fun h => absurd rfl h)
theorem zcase_33 (X : zLX p s m c b Ln xs) (I : zLI D adV s H locs qC qM qO) (hl : lv_has lsM 7 [(0, .ref b), (1, .ref qC), (2, .ref qM), (3, .ref qO), (4, .int (nI i))]) (hi : i + 6 ≤ Ln) (hLn : Ln ≤ 3072) (hcells : cells + 30 ≤ 601024) (hslots : slots + 1000 ≤ 7293033)
    (kk : ∀ (H1 : Heap) (locs1 : List Loc), zLI D adV s H1 locs1 qC qM qO → W p l e room_1 s m #[Value.ref b] below meth c H1 locs1 (cells + 30) (slots + 1000) Q (F0 m 1618 lsM [])) :
    W p l e room_1 s m #[Value.ref b] below meth c H locs cells slots Q (F0 m 1286 lsM []) := by
  have hS := zLI_S I
  obtain ⟨hx, hb, -⟩ := id X
  refine lv_aload_n hx hb dL_law_1286 rfl (lv_at hl 1 rfl) ?_
  refine zlaw_arg (k := 1) X hS hl hi hLn (by decide) rfl dL_law_1287 dL_law_1288 dL_law_1290 dL_law_1291 dL_law_1292 ?_
  refine zlaw_arg (k := 2) X hS hl hi hLn (by decide) rfl dL_law_1293 dL_law_1294 dL_law_1296 dL_law_1297 dL_law_1298 ?_
  refine zpair_I (tC := 136) (tM := 275) (pC := 1299) (pM := 1315) (as := [.int (xs (i + 1)), .int (xs (i + 2))]) X I zpi_136 (zints_ok rfl) (by decide +kernel : zlchk 136 2 = true) (by decide +kernel : zlchk 275 2 = true) (by decide +kernel) (by decide +kernel) wl_158 wl_161 hl.1 dL_law_1299 dL_law_1315 hcells hslots (fun H1 locs1 cells1 slots1 v hS k1 => ?_) (fun H1 locs1 w I1 => ?_)
  · refine lv_aload_n hx hb dL_law_1302 rfl (lv_at hl 2 rfl) ?_
    refine zlaw_arg (k := 1) X hS hl hi hLn (by decide) rfl dL_law_1303 dL_law_1304 dL_law_1306 dL_law_1307 dL_law_1308 ?_
    refine zlaw_arg (k := 2) X hS hl hi hLn (by decide) rfl dL_law_1309 dL_law_1310 dL_law_1312 dL_law_1313 dL_law_1314 ?_
    exact k1
  · exact lv_icmp_eq (tgt := 1618) hx hb dL_law_1318 (by decide) (fun _ => kk H1 locs1 I1) (fun h => absurd rfl h)
theorem zcase_34 (X : zLX p s m c b Ln xs) (I : zLI D adV s H locs qC qM qO) (hl : lv_has lsM 7 [(0, .ref b), (1, .ref qC), (2, .ref qM), (3, .ref qO), (4, .int (nI i))]) (hi : i + 6 ≤ Ln) (hLn : Ln ≤ 3072) (hcells : cells + 30 ≤ 601024) (hslots : slots + 1000 ≤ 7293033)
    (kk : ∀ (H1 : Heap) (locs1 : List Loc), zLI D adV s H1 locs1 qC qM qO → W p l e room_1 s m #[Value.ref b] below meth c H1 locs1 (cells + 30) (slots + 1000) Q (F0 m 1618 lsM [])) :
    W p l e room_1 s m #[Value.ref b] below meth c H locs cells slots Q (F0 m 1323 lsM []) := by
  have hS := zLI_S I
  obtain ⟨hx, hb, -⟩ := id X
  refine lv_aload_n hx hb dL_law_1323 rfl (lv_at hl 1 rfl) ?_
  refine zlaw_arg (k := 1) X hS hl hi hLn (by decide) rfl dL_law_1324 dL_law_1325 dL_law_1327 dL_law_1328 dL_law_1329 ?_
  refine zlaw_arg (k := 2) X hS hl hi hLn (by decide) rfl dL_law_1330 dL_law_1331 dL_law_1333 dL_law_1334 dL_law_1335 ?_
  refine zpair_I (tC := 137) (tM := 276) (pC := 1336) (pM := 1352) (as := [.int (xs (i + 1)), .int (xs (i + 2))]) X I zpi_137 (zints_ok rfl) (by decide +kernel : zlchk 137 2 = true) (by decide +kernel : zlchk 276 2 = true) (by decide +kernel) (by decide +kernel) wl_162 wl_165 hl.1 dL_law_1336 dL_law_1352 hcells hslots (fun H1 locs1 cells1 slots1 v hS k1 => ?_) (fun H1 locs1 w I1 => ?_)
  · refine lv_aload_n hx hb dL_law_1339 rfl (lv_at hl 2 rfl) ?_
    refine zlaw_arg (k := 1) X hS hl hi hLn (by decide) rfl dL_law_1340 dL_law_1341 dL_law_1343 dL_law_1344 dL_law_1345 ?_
    refine zlaw_arg (k := 2) X hS hl hi hLn (by decide) rfl dL_law_1346 dL_law_1347 dL_law_1349 dL_law_1350 dL_law_1351 ?_
    exact k1
  · exact lv_icmp_eq (tgt := 1618) hx hb dL_law_1355 (by decide) (fun _ => kk H1 locs1 I1) (fun h => absurd rfl h)
theorem zcase_35 (X : zLX p s m c b Ln xs) (I : zLI D adV s H locs qC qM qO) (hl : lv_has lsM 7 [(0, .ref b), (1, .ref qC), (2, .ref qM), (3, .ref qO), (4, .int (nI i))]) (hi : i + 6 ≤ Ln) (hLn : Ln ≤ 3072) (hcells : cells + 30 ≤ 601024) (hslots : slots + 1000 ≤ 7293033)
    (kk : ∀ (H1 : Heap) (locs1 : List Loc), zLI D adV s H1 locs1 qC qM qO → W p l e room_1 s m #[Value.ref b] below meth c H1 locs1 (cells + 30) (slots + 1000) Q (F0 m 1618 lsM [])) :
    W p l e room_1 s m #[Value.ref b] below meth c H locs cells slots Q (F0 m 1360 lsM []) := by
  have hS := zLI_S I
  obtain ⟨hx, hb, -⟩ := id X
  refine lv_aload_n hx hb dL_law_1360 rfl (lv_at hl 1 rfl) ?_
  refine zlaw_arg (k := 1) X hS hl hi hLn (by decide) rfl dL_law_1361 dL_law_1362 dL_law_1364 dL_law_1365 dL_law_1366 ?_
  refine zpair_I (tC := 138) (tM := 277) (pC := 1367) (pM := 1377) (as := [.int (xs (i + 1))]) X I zpi_138 (zints_ok rfl) (by decide +kernel : zlchk 138 1 = true) (by decide +kernel : zlchk 277 1 = true) (by decide +kernel) (by decide +kernel) wl_166 wl_169 hl.1 dL_law_1367 dL_law_1377 hcells hslots (fun H1 locs1 cells1 slots1 v hS k1 => ?_) (fun H1 locs1 w I1 => ?_)
  · refine lv_aload_n hx hb dL_law_1370 rfl (lv_at hl 2 rfl) ?_
    refine zlaw_arg (k := 1) X hS hl hi hLn (by decide) rfl dL_law_1371 dL_law_1372 dL_law_1374 dL_law_1375 dL_law_1376 ?_
    exact k1
  · exact lv_icmp_eq (tgt := 1618) hx hb dL_law_1380 (by decide) (fun _ => kk H1 locs1 I1) (fun h => absurd rfl h)
theorem zcase_36 (X : zLX p s m c b Ln xs) (I : zLI D adV s H locs qC qM qO) (hl : lv_has lsM 7 [(0, .ref b), (1, .ref qC), (2, .ref qM), (3, .ref qO), (4, .int (nI i))]) (hi : i + 6 ≤ Ln) (hLn : Ln ≤ 3072) (hcells : cells + 30 ≤ 601024) (hslots : slots + 1000 ≤ 7293033)
    (kk : ∀ (H1 : Heap) (locs1 : List Loc), zLI D adV s H1 locs1 qC qM qO → W p l e room_1 s m #[Value.ref b] below meth c H1 locs1 (cells + 30) (slots + 1000) Q (F0 m 1618 lsM [])) :
    W p l e room_1 s m #[Value.ref b] below meth c H locs cells slots Q (F0 m 1385 lsM []) := by
  have hS := zLI_S I
  obtain ⟨hx, hb, -⟩ := id X
  refine lv_aload_n hx hb dL_law_1385 rfl (lv_at hl 1 rfl) ?_
  refine zlaw_arg (k := 1) X hS hl hi hLn (by decide) rfl dL_law_1386 dL_law_1387 dL_law_1389 dL_law_1390 dL_law_1391 ?_
  refine zpair_I (tC := 139) (tM := 280) (pC := 1392) (pM := 1402) (as := [.int (xs (i + 1))]) X I zpi_139 (zints_ok rfl) (by decide +kernel : zlchk 139 1 = true) (by decide +kernel : zlchk 280 1 = true) (by decide +kernel) (by decide +kernel) wl_170 wl_173 hl.1 dL_law_1392 dL_law_1402 hcells hslots (fun H1 locs1 cells1 slots1 v hS k1 => ?_) (fun H1 locs1 w I1 => ?_)
  · refine lv_aload_n hx hb dL_law_1395 rfl (lv_at hl 2 rfl) ?_
    refine zlaw_arg (k := 1) X hS hl hi hLn (by decide) rfl dL_law_1396 dL_law_1397 dL_law_1399 dL_law_1400 dL_law_1401 ?_
    exact k1
  · exact lv_icmp_eq (tgt := 1618) hx hb dL_law_1405 (by decide) (fun _ => kk H1 locs1 I1) (fun h => absurd rfl h)
theorem zcase_37 (X : zLX p s m c b Ln xs) (I : zLI D adV s H locs qC qM qO) (hl : lv_has lsM 7 [(0, .ref b), (1, .ref qC), (2, .ref qM), (3, .ref qO), (4, .int (nI i))]) (hi : i + 6 ≤ Ln) (hLn : Ln ≤ 3072) (hcells : cells + 30 ≤ 601024) (hslots : slots + 1000 ≤ 7293033)
    (kk : ∀ (H1 : Heap) (locs1 : List Loc), zLI D adV s H1 locs1 qC qM qO → W p l e room_1 s m #[Value.ref b] below meth c H1 locs1 (cells + 30) (slots + 1000) Q (F0 m 1618 lsM [])) :
    W p l e room_1 s m #[Value.ref b] below meth c H locs cells slots Q (F0 m 1410 lsM []) := by
  have hS := zLI_S I
  obtain ⟨hx, hb, -⟩ := id X
  refine lv_aload_n hx hb dL_law_1410 rfl (lv_at hl 1 rfl) ?_
  refine zlaw_arg (k := 1) X hS hl hi hLn (by decide) rfl dL_law_1411 dL_law_1412 dL_law_1414 dL_law_1415 dL_law_1416 ?_
  refine zlaw_arg (k := 2) X hS hl hi hLn (by decide) rfl dL_law_1417 dL_law_1418 dL_law_1420 dL_law_1421 dL_law_1422 ?_
  refine zpair_I (tC := 140) (tM := 281) (pC := 1423) (pM := 1439) (as := [.int (xs (i + 1)), .int (xs (i + 2))]) X I zpi_140 (zints_ok rfl) (by decide +kernel : zlchk 140 2 = true) (by decide +kernel : zlchk 281 2 = true) (by decide +kernel) (by decide +kernel) wl_174 wl_177 hl.1 dL_law_1423 dL_law_1439 hcells hslots (fun H1 locs1 cells1 slots1 v hS k1 => ?_) (fun H1 locs1 w I1 => ?_)
  · refine lv_aload_n hx hb dL_law_1426 rfl (lv_at hl 2 rfl) ?_
    refine zlaw_arg (k := 1) X hS hl hi hLn (by decide) rfl dL_law_1427 dL_law_1428 dL_law_1430 dL_law_1431 dL_law_1432 ?_
    refine zlaw_arg (k := 2) X hS hl hi hLn (by decide) rfl dL_law_1433 dL_law_1434 dL_law_1436 dL_law_1437 dL_law_1438 ?_
    exact k1
  · exact lv_icmp_eq (tgt := 1618) hx hb dL_law_1442 (by decide) (fun _ => kk H1 locs1 I1) (fun h => absurd rfl h)
theorem zcase_38 (X : zLX p s m c b Ln xs) (I : zLI D adV s H locs qC qM qO) (hl : lv_has lsM 7 [(0, .ref b), (1, .ref qC), (2, .ref qM), (3, .ref qO), (4, .int (nI i))]) (hi : i + 6 ≤ Ln) (hLn : Ln ≤ 3072) (hcells : cells + 30 ≤ 601024) (hslots : slots + 1000 ≤ 7293033)
    (kk : ∀ (H1 : Heap) (locs1 : List Loc), zLI D adV s H1 locs1 qC qM qO → W p l e room_1 s m #[Value.ref b] below meth c H1 locs1 (cells + 30) (slots + 1000) Q (F0 m 1618 lsM [])) :
    W p l e room_1 s m #[Value.ref b] below meth c H locs cells slots Q (F0 m 1447 lsM []) := by
  have hS := zLI_S I
  obtain ⟨hx, hb, -⟩ := id X
  refine lv_aload_n hx hb dL_law_1447 rfl (lv_at hl 1 rfl) ?_
  refine zlaw_arg (k := 1) X hS hl hi hLn (by decide) rfl dL_law_1448 dL_law_1449 dL_law_1451 dL_law_1452 dL_law_1453 ?_
  refine zpair_I (tC := 141) (tM := 282) (pC := 1454) (pM := 1464) (as := [.int (xs (i + 1))]) X I zpi_141 (zints_ok rfl) (by decide +kernel : zlchk 141 1 = true) (by decide +kernel : zlchk 282 1 = true) (by decide +kernel) (by decide +kernel) wl_178 wl_181 hl.1 dL_law_1454 dL_law_1464 hcells hslots (fun H1 locs1 cells1 slots1 v hS k1 => ?_) (fun H1 locs1 w I1 => ?_)
  · refine lv_aload_n hx hb dL_law_1457 rfl (lv_at hl 2 rfl) ?_
    refine zlaw_arg (k := 1) X hS hl hi hLn (by decide) rfl dL_law_1458 dL_law_1459 dL_law_1461 dL_law_1462 dL_law_1463 ?_
    exact k1
  · exact lv_icmp_eq (tgt := 1618) hx hb dL_law_1467 (by decide) (fun _ => kk H1 locs1 I1) (fun h => absurd rfl h)
theorem zcase_39 (X : zLX p s m c b Ln xs) (I : zLI D adV s H locs qC qM qO) (hl : lv_has lsM 7 [(0, .ref b), (1, .ref qC), (2, .ref qM), (3, .ref qO), (4, .int (nI i))]) (hi : i + 6 ≤ Ln) (hLn : Ln ≤ 3072) (hcells : cells + 30 ≤ 601024) (hslots : slots + 1000 ≤ 7293033)
    (kk : ∀ (H1 : Heap) (locs1 : List Loc), zLI D adV s H1 locs1 qC qM qO → W p l e room_1 s m #[Value.ref b] below meth c H1 locs1 (cells + 30) (slots + 1000) Q (F0 m 1618 lsM [])) :
    W p l e room_1 s m #[Value.ref b] below meth c H locs cells slots Q (F0 m 1472 lsM []) := by
  have hS := zLI_S I
  obtain ⟨hx, hb, -⟩ := id X
  refine lv_aload_n hx hb dL_law_1472 rfl (lv_at hl 1 rfl) ?_
  refine zlaw_arg (k := 1) X hS hl hi hLn (by decide) rfl dL_law_1473 dL_law_1474 dL_law_1476 dL_law_1477 dL_law_1478 ?_
  refine zpair_L (tC := 142) (tM := 285) (pC := 1479) (pM := 1489) (as := [.int (xs (i + 1))]) X I zpi_142 (zints_ok rfl) (by decide +kernel : zlchk 142 1 = true) (by decide +kernel : zlchk 285 1 = true) (by decide +kernel) (by decide +kernel) wl_182 wl_186 hl.1 dL_law_1479 dL_law_1489 hcells hslots (fun H1 locs1 cells1 slots1 v hS k1 => ?_) (fun H1 locs1 w I1 => ?_)
  · refine lv_aload_n hx hb dL_law_1482 rfl (lv_at hl 2 rfl) ?_
    refine zlaw_arg (k := 1) X hS hl hi hLn (by decide) rfl dL_law_1483 dL_law_1484 dL_law_1486 dL_law_1487 dL_law_1488 ?_
    exact k1
  · refine W.lcmp hx hb dL_law_1492 ?_
    exact lv_if_eq (tgt := 1618) hx hb dL_law_1493 (by decide) (fun _ => kk H1 locs1 I1) (fun h => absurd (zlg_self w) h)
theorem zcase_40 (X : zLX p s m c b Ln xs) (I : zLI D adV s H locs qC qM qO) (hl : lv_has lsM 7 [(0, .ref b), (1, .ref qC), (2, .ref qM), (3, .ref qO), (4, .int (nI i))]) (hi : i + 6 ≤ Ln) (hLn : Ln ≤ 3072) (hcells : cells + 30 ≤ 601024) (hslots : slots + 1000 ≤ 7293033)
    (kk : ∀ (H1 : Heap) (locs1 : List Loc), zLI D adV s H1 locs1 qC qM qO → W p l e room_1 s m #[Value.ref b] below meth c H1 locs1 (cells + 30) (slots + 1000) Q (F0 m 1618 lsM [])) :
    W p l e room_1 s m #[Value.ref b] below meth c H locs cells slots Q (F0 m 1498 lsM []) := by
  have hS := zLI_S I
  obtain ⟨hx, hb, -⟩ := id X
  refine lv_aload_n hx hb dL_law_1498 rfl (lv_at hl 1 rfl) ?_
  refine zpair_I (tC := 143) (tM := 287) (pC := 1499) (pM := 1503) (as := []) X I zpi_143 (zints_ok rfl) (by decide +kernel : zlchk 143 0 = true) (by decide +kernel : zlchk 287 0 = true) (by decide +kernel) (by decide +kernel) wl_187 wl_190 hl.1 dL_law_1499 dL_law_1503 hcells hslots (fun H1 locs1 cells1 slots1 v hS k1 => ?_) (fun H1 locs1 w I1 => ?_)
  · refine lv_aload_n hx hb dL_law_1502 rfl (lv_at hl 2 rfl) ?_
    exact k1
  · exact lv_icmp_eq (tgt := 1618) hx hb dL_law_1506 (by decide) (fun _ => kk H1 locs1 I1) (fun h => absurd rfl h)
theorem zcase_41 (X : zLX p s m c b Ln xs) (I : zLI D adV s H locs qC qM qO) (hl : lv_has lsM 7 [(0, .ref b), (1, .ref qC), (2, .ref qM), (3, .ref qO), (4, .int (nI i))]) (hi : i + 6 ≤ Ln) (hLn : Ln ≤ 3072) (hcells : cells + 30 ≤ 601024) (hslots : slots + 1000 ≤ 7293033)
    (kk : ∀ (H1 : Heap) (locs1 : List Loc), zLI D adV s H1 locs1 qC qM qO → W p l e room_1 s m #[Value.ref b] below meth c H1 locs1 (cells + 30) (slots + 1000) Q (F0 m 1618 lsM [])) :
    W p l e room_1 s m #[Value.ref b] below meth c H locs cells slots Q (F0 m 1511 lsM []) := by
  have hS := zLI_S I
  obtain ⟨hx, hb, -⟩ := id X
  refine lv_aload_n hx hb dL_law_1511 rfl (lv_at hl 1 rfl) ?_
  refine zpair_I (tC := 144) (tM := 288) (pC := 1512) (pM := 1516) (as := []) X I zpi_144 (zints_ok rfl) (by decide +kernel : zlchk 144 0 = true) (by decide +kernel : zlchk 288 0 = true) (by decide +kernel) (by decide +kernel) wl_191 wl_194 hl.1 dL_law_1512 dL_law_1516 hcells hslots (fun H1 locs1 cells1 slots1 v hS k1 => ?_) (fun H1 locs1 w I1 => ?_)
  · refine lv_aload_n hx hb dL_law_1515 rfl (lv_at hl 2 rfl) ?_
    exact k1
  · exact lv_icmp_eq (tgt := 1618) hx hb dL_law_1519 (by decide) (fun _ => kk H1 locs1 I1) (fun h => absurd rfl h)
theorem zcase_43 (X : zLX p s m c b Ln xs) (I : zLI D adV s H locs qC qM qO) (hl : lv_has lsM 7 [(0, .ref b), (1, .ref qC), (2, .ref qM), (3, .ref qO), (4, .int (nI i))]) (hi : i + 6 ≤ Ln) (hLn : Ln ≤ 3072) (hcells : cells + 30 ≤ 601024) (hslots : slots + 1000 ≤ 7293033)
    (kk : ∀ (H1 : Heap) (locs1 : List Loc), zLI D adV s H1 locs1 qC qM qO → W p l e room_1 s m #[Value.ref b] below meth c H1 locs1 (cells + 30) (slots + 1000) Q (F0 m 1618 lsM [])) :
    W p l e room_1 s m #[Value.ref b] below meth c H locs cells slots Q (F0 m 1580 lsM []) := by
  have hS := zLI_S I
  obtain ⟨hx, hb, -⟩ := id X
  refine lv_aload_n hx hb dL_law_1580 rfl (lv_at hl 1 rfl) ?_
  refine zlaw_arg (k := 1) X hS hl hi hLn (by decide) rfl dL_law_1581 dL_law_1582 dL_law_1584 dL_law_1585 dL_law_1586 ?_
  refine zpair_I (tC := 146) (tM := 290) (pC := 1587) (pM := 1597) (as := [.int (xs (i + 1))]) X I zpi_146 (zints_ok rfl) (by decide +kernel : zlchk 146 1 = true) (by decide +kernel : zlchk 290 1 = true) (by decide +kernel) (by decide +kernel) wl_204 wl_207 hl.1 dL_law_1587 dL_law_1597 hcells hslots (fun H1 locs1 cells1 slots1 v hS k1 => ?_) (fun H1 locs1 w I1 => ?_)
  · refine lv_aload_n hx hb dL_law_1590 rfl (lv_at hl 2 rfl) ?_
    refine zlaw_arg (k := 1) X hS hl hi hLn (by decide) rfl dL_law_1591 dL_law_1592 dL_law_1594 dL_law_1595 dL_law_1596 ?_
    exact k1
  · exact lv_icmp_eq (tgt := 1618) hx hb dL_law_1600 (by decide) (fun _ => kk H1 locs1 I1) (fun h => absurd rfl h)
theorem zcase_44 (X : zLX p s m c b Ln xs) (I : zLI D adV s H locs qC qM qO) (hl : lv_has lsM 7 [(0, .ref b), (1, .ref qC), (2, .ref qM), (3, .ref qO), (4, .int (nI i))]) (hi : i + 6 ≤ Ln) (hLn : Ln ≤ 3072) (hcells : cells + 30 ≤ 601024) (hslots : slots + 1000 ≤ 7293033)
    (kk : ∀ (H1 : Heap) (locs1 : List Loc), zLI D adV s H1 locs1 qC qM qO → W p l e room_1 s m #[Value.ref b] below meth c H1 locs1 (cells + 30) (slots + 1000) Q (F0 m 1618 lsM [])) :
    W p l e room_1 s m #[Value.ref b] below meth c H locs cells slots Q (F0 m 1605 lsM []) := by
  have hS := zLI_S I
  obtain ⟨hx, hb, -⟩ := id X
  refine lv_aload_n hx hb dL_law_1605 rfl (lv_at hl 1 rfl) ?_
  refine zpair_I (tC := 147) (tM := 291) (pC := 1606) (pM := 1610) (as := []) X I zpi_147 (zints_ok rfl) (by decide +kernel : zlchk 147 0 = true) (by decide +kernel : zlchk 291 0 = true) (by decide +kernel) (by decide +kernel) wl_208 wl_211 hl.1 dL_law_1606 dL_law_1610 hcells hslots (fun H1 locs1 cells1 slots1 v hS k1 => ?_) (fun H1 locs1 w I1 => ?_)
  · refine lv_aload_n hx hb dL_law_1609 rfl (lv_at hl 2 rfl) ?_
    exact k1
  · exact lv_icmp_eq (tgt := 1618) hx hb dL_law_1613 (by decide) (fun _ => kk H1 locs1 I1) (fun h => absurd rfl h)
end ZLE2
end ZLE
