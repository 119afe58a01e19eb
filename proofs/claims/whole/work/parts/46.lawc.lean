/-! the law: its calls, one by one -/
section LAWC
variable {p : Program} {l : Launch} {e : Env} {s : State} {m : MethodId} {below : List Frame} {meth : Method} {c : Code} {b L : Nat} {xs : Nat → Int32} {D : va_G} {cy : Nat → ClassId} {sa sv : Nat} {a1 a2 : Nat → Nat} {n i : Nat}
set_option maxRecDepth 20000 in
theorem lc_letter (C : lw_C p s m meth c b L xs D cy sa sv) (hi : i + 5 ≤ L) (hn : n < 100000) (nx : LK p l e s m below meth c D cy sa sv a1 a2 b (n + 1) i 823) : LK p l e s m below meth c D cy sa sv a1 a2 b n i 144 := by
  intro wc wm H locs ls J
  obtain ⟨hR, hW, S, hl⟩ := J
  obtain ⟨fC, hoC⟩ := hR.cls
  obtain ⟨fM, hoM⟩ := hR.mod
  obtain ⟨rv, Q, eC, eM, hN⟩ := op_letter (xs (i + 1)) hR
  obtain ⟨v, rfl⟩ := hN.i
  refine lv_aload_n C.1.1 C.1.2.1 dL_law_144 rfl (lv_at hl 1 rfl) ?_
  refine lw_arg 1 C S hl hi (by omega) (by decide) dL_law_145 dL_law_146 dL_law_147 dL_law_148 dL_law_149 ?_
  refine lw_call [.int (xs (i + 1))] C hW S hl.1 eC dL_law_150 wl_L_13 wi_X4_letter we_X4_letter ok_X4_letter cf4 hoC rfl (by simp [ev_e, Value.category]) rfl rfl (by decide) rfl rfl (fun w1 H1 locs1 q1 hW1 S1 => ?_)
  refine lv_aload_n C.1.1 C.1.2.1 dL_law_153 rfl (lv_at hl 2 rfl) ?_
  refine lw_arg 1 C S1 hl hi (by omega) (by decide) dL_law_154 dL_law_155 dL_law_156 dL_law_157 dL_law_158 ?_
  refine lw_call [.int (xs (i + 1))] C hW1.swap S1 hl.1 (eM w1 q1) dL_law_159 wl_L_17 wi_X5_letter we_X5_letter ok_X5_letter cf5 hoM rfl (by simp [ev_e, Value.category]) rfl rfl (by simp [Value.category]) rfl rfl (fun w2 H2 locs2 q2 hW2 S2 => ?_)
  exact lv_icmp_eq (tgt := 823) C.1.1 C.1.2.1 dL_law_162 (by decide) (fun _ => nx w1 w2 H2 locs2 ls ⟨q2, hW2.swap, S2, hl⟩) (fun h => absurd rfl h)
set_option maxRecDepth 20000 in
theorem lc_blank (C : lw_C p s m meth c b L xs D cy sa sv) (hi : i + 5 ≤ L) (hn : n < 100000) (nx : LK p l e s m below meth c D cy sa sv a1 a2 b (n + 1) i 823) : LK p l e s m below meth c D cy sa sv a1 a2 b n i 167 := by
  intro wc wm H locs ls J
  obtain ⟨hR, hW, S, hl⟩ := J
  obtain ⟨fC, hoC⟩ := hR.cls
  obtain ⟨fM, hoM⟩ := hR.mod
  obtain ⟨rv, Q, eC, eM, hN⟩ := op_blank hR
  obtain ⟨v, rfl⟩ := hN.i
  refine lv_aload_n C.1.1 C.1.2.1 dL_law_167 rfl (lv_at hl 1 rfl) ?_
  refine lw_call [] C hW S hl.1 eC dL_law_168 wl_L_18 wi_X4_blank we_X4_blank ok_X4_blank cf4 hoC rfl (by simp [ev_e, Value.category]) rfl rfl (by decide) rfl rfl (fun w1 H1 locs1 q1 hW1 S1 => ?_)
  refine lv_aload_n C.1.1 C.1.2.1 dL_law_171 rfl (lv_at hl 2 rfl) ?_
  refine lw_call [] C hW1.swap S1 hl.1 (eM w1 q1) dL_law_172 wl_L_22 wi_X5_blank we_X5_blank ok_X5_blank cf5 hoM rfl (by simp [ev_e, Value.category]) rfl rfl (by simp [Value.category]) rfl rfl (fun w2 H2 locs2 q2 hW2 S2 => ?_)
  exact lv_icmp_eq (tgt := 823) C.1.1 C.1.2.1 dL_law_175 (by decide) (fun _ => nx w1 w2 H2 locs2 ls ⟨q2, hW2.swap, S2, hl⟩) (fun h => absurd rfl h)
set_option maxRecDepth 20000 in
theorem lc_fault (C : lw_C p s m meth c b L xs D cy sa sv) (hi : i + 5 ≤ L) (hn : n < 100000) (nx : LK p l e s m below meth c D cy sa sv a1 a2 b (n + 1) i 823) : LK p l e s m below meth c D cy sa sv a1 a2 b n i 180 := by
  intro wc wm H locs ls J
  obtain ⟨hR, hW, S, hl⟩ := J
  obtain ⟨fC, hoC⟩ := hR.cls
  obtain ⟨fM, hoM⟩ := hR.mod
  obtain ⟨rv, Q, eC, eM, hN⟩ := op_fault hR
  obtain ⟨v, rfl⟩ := hN.i
  refine lv_aload_n C.1.1 C.1.2.1 dL_law_180 rfl (lv_at hl 1 rfl) ?_
  refine lw_call [] C hW S hl.1 eC dL_law_181 wl_L_23 wi_X4_fault we_X4_fault ok_X4_fault cf4 hoC rfl (by simp [ev_e, Value.category]) rfl rfl (by decide) rfl rfl (fun w1 H1 locs1 q1 hW1 S1 => ?_)
  refine lv_aload_n C.1.1 C.1.2.1 dL_law_184 rfl (lv_at hl 2 rfl) ?_
  refine lw_call [] C hW1.swap S1 hl.1 (eM w1 q1) dL_law_185 wl_L_26 wi_X5_fault we_X5_fault ok_X5_fault cf5 hoM rfl (by simp [ev_e, Value.category]) rfl rfl (by simp [Value.category]) rfl rfl (fun w2 H2 locs2 q2 hW2 S2 => ?_)
  exact lv_icmp_eq (tgt := 823) C.1.1 C.1.2.1 dL_law_188 (by decide) (fun _ => nx w1 w2 H2 locs2 ls ⟨q2, hW2.swap, S2, hl⟩) (fun h => absurd rfl h)
set_option maxRecDepth 20000 in
theorem lc_table (C : lw_C p s m meth c b L xs D cy sa sv) (hi : i + 5 ≤ L) (hn : n < 100000) (nx : LK p l e s m below meth c D cy sa sv a1 a2 b (n + 1) i 823) : LK p l e s m below meth c D cy sa sv a1 a2 b n i 193 := by
  intro wc wm H locs ls J
  obtain ⟨hR, hW, S, hl⟩ := J
  obtain ⟨fC, hoC⟩ := hR.cls
  obtain ⟨fM, hoM⟩ := hR.mod
  obtain ⟨rv, Q, eC, eM, hN⟩ := op_table hn hR
  obtain ⟨v, rfl⟩ := hN.i
  refine lv_aload_n C.1.1 C.1.2.1 dL_law_193 rfl (lv_at hl 1 rfl) ?_
  refine lw_call [] C hW S hl.1 eC dL_law_194 wl_L_27 wi_X4_table we_X4_table ok_X4_table cf4 hoC rfl (by simp [ev_e, Value.category]) rfl rfl (by decide) rfl rfl (fun w1 H1 locs1 q1 hW1 S1 => ?_)
  refine lv_aload_n C.1.1 C.1.2.1 dL_law_197 rfl (lv_at hl 2 rfl) ?_
  refine lw_call [] C hW1.swap S1 hl.1 (eM w1 q1) dL_law_198 wl_L_30 wi_X5_table we_X5_table ok_X5_table cf5 hoM rfl (by simp [ev_e, Value.category]) rfl rfl (by simp [Value.category]) rfl rfl (fun w2 H2 locs2 q2 hW2 S2 => ?_)
  exact lv_icmp_eq (tgt := 823) C.1.1 C.1.2.1 dL_law_201 (by decide) (fun _ => nx w1 w2 H2 locs2 ls ⟨q2, hW2.swap, S2, hl⟩) (fun h => absurd rfl h)
set_option maxRecDepth 20000 in
theorem lc_weight (C : lw_C p s m meth c b L xs D cy sa sv) (hi : i + 5 ≤ L) (hn : n < 100000) (nx : LK p l e s m below meth c D cy sa sv a1 a2 b (n + 1) i 823) : LK p l e s m below meth c D cy sa sv a1 a2 b n i 206 := by
  intro wc wm H locs ls J
  obtain ⟨hR, hW, S, hl⟩ := J
  obtain ⟨fC, hoC⟩ := hR.cls
  obtain ⟨fM, hoM⟩ := hR.mod
  obtain ⟨rv, Q, eC, eM, hN⟩ := op_weight (xs (i + 1)) (xs (i + 2)) hR
  obtain ⟨v, rfl⟩ := hN.i
  refine lv_aload_n C.1.1 C.1.2.1 dL_law_206 rfl (lv_at hl 1 rfl) ?_
  refine lw_arg 1 C S hl hi (by omega) (by decide) dL_law_207 dL_law_208 dL_law_209 dL_law_210 dL_law_211 ?_
  refine lw_arg 2 C S hl hi (by omega) (by decide) dL_law_212 dL_law_213 dL_law_214 dL_law_215 dL_law_216 ?_
  refine lw_call [.int (xs (i + 1)), .int (xs (i + 2))] C hW S hl.1 eC dL_law_217 wl_L_31 wi_X4_weight we_X4_weight ok_X4_weight cf4 hoC rfl (by simp [ev_e, Value.category]) rfl rfl (by decide) rfl rfl (fun w1 H1 locs1 q1 hW1 S1 => ?_)
  refine lv_aload_n C.1.1 C.1.2.1 dL_law_220 rfl (lv_at hl 2 rfl) ?_
  refine lw_arg 1 C S1 hl hi (by omega) (by decide) dL_law_221 dL_law_222 dL_law_223 dL_law_224 dL_law_225 ?_
  refine lw_arg 2 C S1 hl hi (by omega) (by decide) dL_law_226 dL_law_227 dL_law_228 dL_law_229 dL_law_230 ?_
  refine lw_call [.int (xs (i + 1)), .int (xs (i + 2))] C hW1.swap S1 hl.1 (eM w1 q1) dL_law_231 wl_L_35 wi_X5_weight we_X5_weight ok_X5_weight cf5 hoM rfl (by simp [ev_e, Value.category]) rfl rfl (by simp [Value.category]) rfl rfl (fun w2 H2 locs2 q2 hW2 S2 => ?_)
  exact lv_icmp_eq (tgt := 823) C.1.1 C.1.2.1 dL_law_234 (by decide) (fun _ => nx w1 w2 H2 locs2 ls ⟨q2, hW2.swap, S2, hl⟩) (fun h => absurd rfl h)
set_option maxRecDepth 20000 in
theorem lc_as (C : lw_C p s m meth c b L xs D cy sa sv) (hi : i + 5 ≤ L) (hn : n < 100000) (nx : LK p l e s m below meth c D cy sa sv a1 a2 b (n + 1) i 823) : LK p l e s m below meth c D cy sa sv a1 a2 b n i 239 := by
  intro wc wm H locs ls J
  obtain ⟨hR, hW, S, hl⟩ := J
  obtain ⟨fC, hoC⟩ := hR.cls
  obtain ⟨fM, hoM⟩ := hR.mod
  obtain ⟨rv, Q, eC, eM, hN⟩ := op_as (xs (i + 1)) (xs (i + 2)) hR
  obtain ⟨v, rfl⟩ := hN.i
  refine lv_aload_n C.1.1 C.1.2.1 dL_law_239 rfl (lv_at hl 1 rfl) ?_
  refine lw_arg 1 C S hl hi (by omega) (by decide) dL_law_240 dL_law_241 dL_law_242 dL_law_243 dL_law_244 ?_
  refine lw_arg 2 C S hl hi (by omega) (by decide) dL_law_245 dL_law_246 dL_law_247 dL_law_248 dL_law_249 ?_
  refine lw_call [.int (xs (i + 1)), .int (xs (i + 2))] C hW S hl.1 eC dL_law_250 wl_L_36 wi_X4_as we_X4_as ok_X4_as cf4 hoC rfl (by simp [ev_e, Value.category]) rfl rfl (by decide) rfl rfl (fun w1 H1 locs1 q1 hW1 S1 => ?_)
  refine lv_aload_n C.1.1 C.1.2.1 dL_law_253 rfl (lv_at hl 2 rfl) ?_
  refine lw_arg 1 C S1 hl hi (by omega) (by decide) dL_law_254 dL_law_255 dL_law_256 dL_law_257 dL_law_258 ?_
  refine lw_arg 2 C S1 hl hi (by omega) (by decide) dL_law_259 dL_law_260 dL_law_261 dL_law_262 dL_law_263 ?_
  refine lw_call [.int (xs (i + 1)), .int (xs (i + 2))] C hW1.swap S1 hl.1 (eM w1 q1) dL_law_264 wl_L_39 wi_X5_as we_X5_as ok_X5_as cf5 hoM rfl (by simp [ev_e, Value.category]) rfl rfl (by simp [Value.category]) rfl rfl (fun w2 H2 locs2 q2 hW2 S2 => ?_)
  exact lv_icmp_eq (tgt := 823) C.1.1 C.1.2.1 dL_law_267 (by decide) (fun _ => nx w1 w2 H2 locs2 ls ⟨q2, hW2.swap, S2, hl⟩) (fun h => absurd rfl h)
set_option maxRecDepth 20000 in
theorem lc_village (C : lw_C p s m meth c b L xs D cy sa sv) (hi : i + 5 ≤ L) (hn : n < 100000) (nx : LK p l e s m below meth c D cy sa sv a1 a2 b (n + 1) i 823) : LK p l e s m below meth c D cy sa sv a1 a2 b n i 272 := by
  intro wc wm H locs ls J
  obtain ⟨hR, hW, S, hl⟩ := J
  obtain ⟨fC, hoC⟩ := hR.cls
  obtain ⟨fM, hoM⟩ := hR.mod
  obtain ⟨rv, Q, eC, eM, hN⟩ := op_village (xs (i + 1)) (xs (i + 2)) hR
  obtain ⟨v, rfl⟩ := hN.i
  refine lv_aload_n C.1.1 C.1.2.1 dL_law_272 rfl (lv_at hl 1 rfl) ?_
  refine lw_arg 1 C S hl hi (by omega) (by decide) dL_law_273 dL_law_274 dL_law_275 dL_law_276 dL_law_277 ?_
  refine lw_arg 2 C S hl hi (by omega) (by decide) dL_law_278 dL_law_279 dL_law_280 dL_law_281 dL_law_282 ?_
  refine lw_call [.int (xs (i + 1)), .int (xs (i + 2))] C hW S hl.1 eC dL_law_283 wl_L_40 wi_X4_village we_X4_village ok_X4_village cf4 hoC rfl (by simp [ev_e, Value.category]) rfl rfl (by decide) rfl rfl (fun w1 H1 locs1 q1 hW1 S1 => ?_)
  refine lv_aload_n C.1.1 C.1.2.1 dL_law_286 rfl (lv_at hl 2 rfl) ?_
  refine lw_arg 1 C S1 hl hi (by omega) (by decide) dL_law_287 dL_law_288 dL_law_289 dL_law_290 dL_law_291 ?_
  refine lw_arg 2 C S1 hl hi (by omega) (by decide) dL_law_292 dL_law_293 dL_law_294 dL_law_295 dL_law_296 ?_
  refine lw_call [.int (xs (i + 1)), .int (xs (i + 2))] C hW1.swap S1 hl.1 (eM w1 q1) dL_law_297 wl_L_43 wi_X5_village we_X5_village ok_X5_village cf5 hoM rfl (by simp [ev_e, Value.category]) rfl rfl (by simp [Value.category]) rfl rfl (fun w2 H2 locs2 q2 hW2 S2 => ?_)
  exact lv_icmp_eq (tgt := 823) C.1.1 C.1.2.1 dL_law_300 (by decide) (fun _ => nx w1 w2 H2 locs2 ls ⟨q2, hW2.swap, S2, hl⟩) (fun h => absurd rfl h)
set_option maxRecDepth 20000 in
theorem lc_lifts (C : lw_C p s m meth c b L xs D cy sa sv) (hi : i + 5 ≤ L) (hn : n < 100000) (nx : LK p l e s m below meth c D cy sa sv a1 a2 b (n + 1) i 823) : LK p l e s m below meth c D cy sa sv a1 a2 b n i 305 := by
  intro wc wm H locs ls J
  obtain ⟨hR, hW, S, hl⟩ := J
  obtain ⟨fC, hoC⟩ := hR.cls
  obtain ⟨fM, hoM⟩ := hR.mod
  obtain ⟨rv, Q, eC, eM, hN⟩ := op_lifts (xs (i + 1)) (xs (i + 2)) (xs (i + 3)) hR
  obtain ⟨v, rfl⟩ := hN.i
  refine lv_aload_n C.1.1 C.1.2.1 dL_law_305 rfl (lv_at hl 1 rfl) ?_
  refine lw_arg 1 C S hl hi (by omega) (by decide) dL_law_306 dL_law_307 dL_law_308 dL_law_309 dL_law_310 ?_
  refine lw_arg 2 C S hl hi (by omega) (by decide) dL_law_311 dL_law_312 dL_law_313 dL_law_314 dL_law_315 ?_
  refine lw_arg 3 C S hl hi (by omega) (by decide) dL_law_316 dL_law_317 dL_law_318 dL_law_319 dL_law_320 ?_
  refine lw_call [.int (xs (i + 1)), .int (xs (i + 2)), .int (xs (i + 3))] C hW S hl.1 eC dL_law_321 wl_L_44 wi_X4_lifts we_X4_lifts ok_X4_lifts cf4 hoC rfl (by simp [ev_e, Value.category]) rfl rfl (by decide) rfl rfl (fun w1 H1 locs1 q1 hW1 S1 => ?_)
  refine lv_aload_n C.1.1 C.1.2.1 dL_law_324 rfl (lv_at hl 2 rfl) ?_
  refine lw_arg 1 C S1 hl hi (by omega) (by decide) dL_law_325 dL_law_326 dL_law_327 dL_law_328 dL_law_329 ?_
  refine lw_arg 2 C S1 hl hi (by omega) (by decide) dL_law_330 dL_law_331 dL_law_332 dL_law_333 dL_law_334 ?_
  refine lw_arg 3 C S1 hl hi (by omega) (by decide) dL_law_335 dL_law_336 dL_law_337 dL_law_338 dL_law_339 ?_
  refine lw_call [.int (xs (i + 1)), .int (xs (i + 2)), .int (xs (i + 3))] C hW1.swap S1 hl.1 (eM w1 q1) dL_law_340 wl_L_48 wi_X5_lifts we_X5_lifts ok_X5_lifts cf5 hoM rfl (by simp [ev_e, Value.category]) rfl rfl (by simp [Value.category]) rfl rfl (fun w2 H2 locs2 q2 hW2 S2 => ?_)
  exact lv_icmp_eq (tgt := 823) C.1.1 C.1.2.1 dL_law_343 (by decide) (fun _ => nx w1 w2 H2 locs2 ls ⟨q2, hW2.swap, S2, hl⟩) (fun h => absurd rfl h)
set_option maxRecDepth 20000 in
theorem lc_blow (C : lw_C p s m meth c b L xs D cy sa sv) (hi : i + 5 ≤ L) (hn : n < 100000) (nx : LK p l e s m below meth c D cy sa sv a1 a2 b (n + 1) i 823) : LK p l e s m below meth c D cy sa sv a1 a2 b n i 348 := by
  intro wc wm H locs ls J
  obtain ⟨hR, hW, S, hl⟩ := J
  obtain ⟨fC, hoC⟩ := hR.cls
  obtain ⟨fM, hoM⟩ := hR.mod
  obtain ⟨rv, Q, eC, eM, hN⟩ := op_blow (xs (i + 1)) (xs (i + 2)) hR
  obtain ⟨v, rfl⟩ := hN.i
  refine lv_aload_n C.1.1 C.1.2.1 dL_law_348 rfl (lv_at hl 1 rfl) ?_
  refine lw_arg 1 C S hl hi (by omega) (by decide) dL_law_349 dL_law_350 dL_law_351 dL_law_352 dL_law_353 ?_
  refine lw_arg 2 C S hl hi (by omega) (by decide) dL_law_354 dL_law_355 dL_law_356 dL_law_357 dL_law_358 ?_
  refine lw_call [.int (xs (i + 1)), .int (xs (i + 2))] C hW S hl.1 eC dL_law_359 wl_L_49 wi_X4_blow we_X4_blow ok_X4_blow cf4 hoC rfl (by simp [ev_e, Value.category]) rfl rfl (by decide) rfl rfl (fun w1 H1 locs1 q1 hW1 S1 => ?_)
  refine lv_aload_n C.1.1 C.1.2.1 dL_law_362 rfl (lv_at hl 2 rfl) ?_
  refine lw_arg 1 C S1 hl hi (by omega) (by decide) dL_law_363 dL_law_364 dL_law_365 dL_law_366 dL_law_367 ?_
  refine lw_arg 2 C S1 hl hi (by omega) (by decide) dL_law_368 dL_law_369 dL_law_370 dL_law_371 dL_law_372 ?_
  refine lw_call [.int (xs (i + 1)), .int (xs (i + 2))] C hW1.swap S1 hl.1 (eM w1 q1) dL_law_373 wl_L_52 wi_X5_blow we_X5_blow ok_X5_blow cf5 hoM rfl (by simp [ev_e, Value.category]) rfl rfl (by simp [Value.category]) rfl rfl (fun w2 H2 locs2 q2 hW2 S2 => ?_)
  exact lv_icmp_eq (tgt := 823) C.1.1 C.1.2.1 dL_law_376 (by decide) (fun _ => nx w1 w2 H2 locs2 ls ⟨q2, hW2.swap, S2, hl⟩) (fun h => absurd rfl h)
set_option maxRecDepth 20000 in
theorem lc_put (C : lw_C p s m meth c b L xs D cy sa sv) (hi : i + 5 ≤ L) (hn : n < 100000) (nx : LK p l e s m below meth c D cy sa sv a1 a2 b (n + 1) i 823) : LK p l e s m below meth c D cy sa sv a1 a2 b n i 381 := by
  intro wc wm H locs ls J
  obtain ⟨hR, hW, S, hl⟩ := J
  obtain ⟨fC, hoC⟩ := hR.cls
  obtain ⟨fM, hoM⟩ := hR.mod
  obtain ⟨rv, Q, eC, eM, hN⟩ := op_put (xs (i + 1)) (xs (i + 2)) (xs (i + 3)) hR
  obtain ⟨v, rfl⟩ := hN.i
  refine lv_aload_n C.1.1 C.1.2.1 dL_law_381 rfl (lv_at hl 1 rfl) ?_
  refine lw_arg 1 C S hl hi (by omega) (by decide) dL_law_382 dL_law_383 dL_law_384 dL_law_385 dL_law_386 ?_
  refine lw_arg 2 C S hl hi (by omega) (by decide) dL_law_387 dL_law_388 dL_law_389 dL_law_390 dL_law_391 ?_
  refine lw_arg 3 C S hl hi (by omega) (by decide) dL_law_392 dL_law_393 dL_law_394 dL_law_395 dL_law_396 ?_
  refine lw_call [.int (xs (i + 1)), .int (xs (i + 2)), .int (xs (i + 3))] C hW S hl.1 eC dL_law_397 wl_L_53 wi_X4_put we_X4_put ok_X4_put cf4 hoC rfl (by simp [ev_e, Value.category]) rfl rfl (by decide) rfl rfl (fun w1 H1 locs1 q1 hW1 S1 => ?_)
  refine lv_aload_n C.1.1 C.1.2.1 dL_law_400 rfl (lv_at hl 2 rfl) ?_
  refine lw_arg 1 C S1 hl hi (by omega) (by decide) dL_law_401 dL_law_402 dL_law_403 dL_law_404 dL_law_405 ?_
  refine lw_arg 2 C S1 hl hi (by omega) (by decide) dL_law_406 dL_law_407 dL_law_408 dL_law_409 dL_law_410 ?_
  refine lw_arg 3 C S1 hl hi (by omega) (by decide) dL_law_411 dL_law_412 dL_law_413 dL_law_414 dL_law_415 ?_
  refine lw_call [.int (xs (i + 1)), .int (xs (i + 2)), .int (xs (i + 3))] C hW1.swap S1 hl.1 (eM w1 q1) dL_law_416 wl_L_56 wi_X5_put we_X5_put ok_X5_put cf5 hoM rfl (by simp [ev_e, Value.category]) rfl rfl (by simp [Value.category]) rfl rfl (fun w2 H2 locs2 q2 hW2 S2 => ?_)
  exact lv_icmp_eq (tgt := 823) C.1.1 C.1.2.1 dL_law_419 (by decide) (fun _ => nx w1 w2 H2 locs2 ls ⟨q2, hW2.swap, S2, hl⟩) (fun h => absurd rfl h)
set_option maxRecDepth 20000 in
theorem lc_lift (C : lw_C p s m meth c b L xs D cy sa sv) (hi : i + 5 ≤ L) (hn : n < 100000) (nx : LK p l e s m below meth c D cy sa sv a1 a2 b (n + 1) i 823) : LK p l e s m below meth c D cy sa sv a1 a2 b n i 424 := by
  intro wc wm H locs ls J
  obtain ⟨hR, hW, S, hl⟩ := J
  obtain ⟨fC, hoC⟩ := hR.cls
  obtain ⟨fM, hoM⟩ := hR.mod
  obtain ⟨rv, Q, eC, eM, hN⟩ := op_lift (xs (i + 1)) hR
  obtain ⟨v, rfl⟩ := hN.i
  refine lv_aload_n C.1.1 C.1.2.1 dL_law_424 rfl (lv_at hl 1 rfl) ?_
  refine lw_arg 1 C S hl hi (by omega) (by decide) dL_law_425 dL_law_426 dL_law_427 dL_law_428 dL_law_429 ?_
  refine lw_call [.int (xs (i + 1))] C hW S hl.1 eC dL_law_430 wl_L_57 wi_X4_lift we_X4_lift ok_X4_lift cf4 hoC rfl (by simp [ev_e, Value.category]) rfl rfl (by decide) rfl rfl (fun w1 H1 locs1 q1 hW1 S1 => ?_)
  refine lv_aload_n C.1.1 C.1.2.1 dL_law_433 rfl (lv_at hl 2 rfl) ?_
  refine lw_arg 1 C S1 hl hi (by omega) (by decide) dL_law_434 dL_law_435 dL_law_436 dL_law_437 dL_law_438 ?_
  refine lw_call [.int (xs (i + 1))] C hW1.swap S1 hl.1 (eM w1 q1) dL_law_439 wl_L_60 wi_X5_lift we_X5_lift ok_X5_lift cf5 hoM rfl (by simp [ev_e, Value.category]) rfl rfl (by simp [Value.category]) rfl rfl (fun w2 H2 locs2 q2 hW2 S2 => ?_)
  exact lv_icmp_eq (tgt := 823) C.1.1 C.1.2.1 dL_law_442 (by decide) (fun _ => nx w1 w2 H2 locs2 ls ⟨q2, hW2.swap, S2, hl⟩) (fun h => absurd rfl h)
set_option maxRecDepth 20000 in
theorem lc_cut (C : lw_C p s m meth c b L xs D cy sa sv) (hi : i + 5 ≤ L) (hn : n < 100000) (nx : LK p l e s m below meth c D cy sa sv a1 a2 b (n + 1) i 823) : LK p l e s m below meth c D cy sa sv a1 a2 b n i 447 := by
  intro wc wm H locs ls J
  obtain ⟨hR, hW, S, hl⟩ := J
  obtain ⟨fC, hoC⟩ := hR.cls
  obtain ⟨fM, hoM⟩ := hR.mod
  obtain ⟨rv, Q, eC, eM, hN⟩ := op_cut (xs (i + 1)) (xs (i + 2)) hR
  obtain ⟨v, rfl⟩ := hN.i
  refine lv_aload_n C.1.1 C.1.2.1 dL_law_447 rfl (lv_at hl 1 rfl) ?_
  refine lw_arg 1 C S hl hi (by omega) (by decide) dL_law_448 dL_law_449 dL_law_450 dL_law_451 dL_law_452 ?_
  refine lw_arg 2 C S hl hi (by omega) (by decide) dL_law_453 dL_law_454 dL_law_455 dL_law_456 dL_law_457 ?_
  refine lw_call [.int (xs (i + 1)), .int (xs (i + 2))] C hW S hl.1 eC dL_law_458 wl_L_61 wi_X4_cut we_X4_cut ok_X4_cut cf4 hoC rfl (by simp [ev_e, Value.category]) rfl rfl (by decide) rfl rfl (fun w1 H1 locs1 q1 hW1 S1 => ?_)
  refine lv_aload_n C.1.1 C.1.2.1 dL_law_461 rfl (lv_at hl 2 rfl) ?_
  refine lw_arg 1 C S1 hl hi (by omega) (by decide) dL_law_462 dL_law_463 dL_law_464 dL_law_465 dL_law_466 ?_
  refine lw_arg 2 C S1 hl hi (by omega) (by decide) dL_law_467 dL_law_468 dL_law_469 dL_law_470 dL_law_471 ?_
  refine lw_call [.int (xs (i + 1)), .int (xs (i + 2))] C hW1.swap S1 hl.1 (eM w1 q1) dL_law_472 wl_L_64 wi_X5_cut we_X5_cut ok_X5_cut cf5 hoM rfl (by simp [ev_e, Value.category]) rfl rfl (by simp [Value.category]) rfl rfl (fun w2 H2 locs2 q2 hW2 S2 => ?_)
  exact lv_icmp_eq (tgt := 823) C.1.1 C.1.2.1 dL_law_475 (by decide) (fun _ => nx w1 w2 H2 locs2 ls ⟨q2, hW2.swap, S2, hl⟩) (fun h => absurd rfl h)
set_option maxRecDepth 20000 in
theorem lc_build (C : lw_C p s m meth c b L xs D cy sa sv) (hi : i + 5 ≤ L) (hn : n < 100000) (nx : LK p l e s m below meth c D cy sa sv a1 a2 b (n + 1) i 823) : LK p l e s m below meth c D cy sa sv a1 a2 b n i 480 := by
  intro wc wm H locs ls J
  obtain ⟨hR, hW, S, hl⟩ := J
  obtain ⟨fC, hoC⟩ := hR.cls
  obtain ⟨fM, hoM⟩ := hR.mod
  obtain ⟨rv, Q, eC, eM, hN⟩ := op_build (xs (i + 1)) (xs (i + 2)) hR
  obtain ⟨v, rfl⟩ := hN.i
  refine lv_aload_n C.1.1 C.1.2.1 dL_law_480 rfl (lv_at hl 1 rfl) ?_
  refine lw_arg 1 C S hl hi (by omega) (by decide) dL_law_481 dL_law_482 dL_law_483 dL_law_484 dL_law_485 ?_
  refine lw_arg 2 C S hl hi (by omega) (by decide) dL_law_486 dL_law_487 dL_law_488 dL_law_489 dL_law_490 ?_
  refine lw_call [.int (xs (i + 1)), .int (xs (i + 2))] C hW S hl.1 eC dL_law_491 wl_L_65 wi_X4_build we_X4_build ok_X4_build cf4 hoC rfl (by simp [ev_e, Value.category]) rfl rfl (by decide) rfl rfl (fun w1 H1 locs1 q1 hW1 S1 => ?_)
  refine lv_aload_n C.1.1 C.1.2.1 dL_law_494 rfl (lv_at hl 2 rfl) ?_
  refine lw_arg 1 C S1 hl hi (by omega) (by decide) dL_law_495 dL_law_496 dL_law_497 dL_law_498 dL_law_499 ?_
  refine lw_arg 2 C S1 hl hi (by omega) (by decide) dL_law_500 dL_law_501 dL_law_502 dL_law_503 dL_law_504 ?_
  refine lw_call [.int (xs (i + 1)), .int (xs (i + 2))] C hW1.swap S1 hl.1 (eM w1 q1) dL_law_505 wl_L_68 wi_X5_build we_X5_build ok_X5_build cf5 hoM rfl (by simp [ev_e, Value.category]) rfl rfl (by simp [Value.category]) rfl rfl (fun w2 H2 locs2 q2 hW2 S2 => ?_)
  exact lv_icmp_eq (tgt := 823) C.1.1 C.1.2.1 dL_law_508 (by decide) (fun _ => nx w1 w2 H2 locs2 ls ⟨q2, hW2.swap, S2, hl⟩) (fun h => absurd rfl h)
set_option maxRecDepth 20000 in
theorem lc_where (C : lw_C p s m meth c b L xs D cy sa sv) (hi : i + 5 ≤ L) (hn : n < 100000) (nx : LK p l e s m below meth c D cy sa sv a1 a2 b (n + 1) i 823) : LK p l e s m below meth c D cy sa sv a1 a2 b n i 513 := by
  intro wc wm H locs ls J
  obtain ⟨hR, hW, S, hl⟩ := J
  obtain ⟨fC, hoC⟩ := hR.cls
  obtain ⟨fM, hoM⟩ := hR.mod
  obtain ⟨rv, Q, eC, eM, hN⟩ := op_where (xs (i + 1)) (xs (i + 2)) (xs (i + 3)) hR
  obtain ⟨v, rfl⟩ := hN.i
  refine lv_aload_n C.1.1 C.1.2.1 dL_law_513 rfl (lv_at hl 1 rfl) ?_
  refine lw_arg 1 C S hl hi (by omega) (by decide) dL_law_514 dL_law_515 dL_law_516 dL_law_517 dL_law_518 ?_
  refine lw_arg 2 C S hl hi (by omega) (by decide) dL_law_519 dL_law_520 dL_law_521 dL_law_522 dL_law_523 ?_
  refine lw_arg 3 C S hl hi (by omega) (by decide) dL_law_524 dL_law_525 dL_law_526 dL_law_527 dL_law_528 ?_
  refine lw_call [.int (xs (i + 1)), .int (xs (i + 2)), .int (xs (i + 3))] C hW S hl.1 eC dL_law_529 wl_L_69 wi_X4_where we_X4_where ok_X4_where cf4 hoC rfl (by simp [ev_e, Value.category]) rfl rfl (by decide) rfl rfl (fun w1 H1 locs1 q1 hW1 S1 => ?_)
  refine lv_aload_n C.1.1 C.1.2.1 dL_law_532 rfl (lv_at hl 2 rfl) ?_
  refine lw_arg 1 C S1 hl hi (by omega) (by decide) dL_law_533 dL_law_534 dL_law_535 dL_law_536 dL_law_537 ?_
  refine lw_arg 2 C S1 hl hi (by omega) (by decide) dL_law_538 dL_law_539 dL_law_540 dL_law_541 dL_law_542 ?_
  refine lw_arg 3 C S1 hl hi (by omega) (by decide) dL_law_543 dL_law_544 dL_law_545 dL_law_546 dL_law_547 ?_
  refine lw_call [.int (xs (i + 1)), .int (xs (i + 2)), .int (xs (i + 3))] C hW1.swap S1 hl.1 (eM w1 q1) dL_law_548 wl_L_72 wi_X5_where we_X5_where ok_X5_where cf5 hoM rfl (by simp [ev_e, Value.category]) rfl rfl (by simp [Value.category]) rfl rfl (fun w2 H2 locs2 q2 hW2 S2 => ?_)
  exact lv_icmp_eq (tgt := 823) C.1.1 C.1.2.1 dL_law_551 (by decide) (fun _ => nx w1 w2 H2 locs2 ls ⟨q2, hW2.swap, S2, hl⟩) (fun h => absurd rfl h)
set_option maxRecDepth 20000 in
theorem lc_pack (C : lw_C p s m meth c b L xs D cy sa sv) (hi : i + 5 ≤ L) (hn : n < 100000) (nx : LK p l e s m below meth c D cy sa sv a1 a2 b (n + 1) i 823) : LK p l e s m below meth c D cy sa sv a1 a2 b n i 556 := by
  intro wc wm H locs ls J
  obtain ⟨hR, hW, S, hl⟩ := J
  obtain ⟨fC, hoC⟩ := hR.cls
  obtain ⟨fM, hoM⟩ := hR.mod
  obtain ⟨rv, Q, eC, eM, hN⟩ := op_pack (xs (i + 1)) (xs (i + 2)) hR
  obtain ⟨v, rfl⟩ := hN.i
  refine lv_aload_n C.1.1 C.1.2.1 dL_law_556 rfl (lv_at hl 1 rfl) ?_
  refine lw_arg 1 C S hl hi (by omega) (by decide) dL_law_557 dL_law_558 dL_law_559 dL_law_560 dL_law_561 ?_
  refine lw_arg 2 C S hl hi (by omega) (by decide) dL_law_562 dL_law_563 dL_law_564 dL_law_565 dL_law_566 ?_
  refine lw_call [.int (xs (i + 1)), .int (xs (i + 2))] C hW S hl.1 eC dL_law_567 wl_L_73 wi_X4_pack we_X4_pack ok_X4_pack cf4 hoC rfl (by simp [ev_e, Value.category]) rfl rfl (by decide) rfl rfl (fun w1 H1 locs1 q1 hW1 S1 => ?_)
  refine lv_aload_n C.1.1 C.1.2.1 dL_law_570 rfl (lv_at hl 2 rfl) ?_
  refine lw_arg 1 C S1 hl hi (by omega) (by decide) dL_law_571 dL_law_572 dL_law_573 dL_law_574 dL_law_575 ?_
  refine lw_arg 2 C S1 hl hi (by omega) (by decide) dL_law_576 dL_law_577 dL_law_578 dL_law_579 dL_law_580 ?_
  refine lw_call [.int (xs (i + 1)), .int (xs (i + 2))] C hW1.swap S1 hl.1 (eM w1 q1) dL_law_581 wl_L_76 wi_X5_pack we_X5_pack ok_X5_pack cf5 hoM rfl (by simp [ev_e, Value.category]) rfl rfl (by simp [Value.category]) rfl rfl (fun w2 H2 locs2 q2 hW2 S2 => ?_)
  exact lv_icmp_eq (tgt := 823) C.1.1 C.1.2.1 dL_law_584 (by decide) (fun _ => nx w1 w2 H2 locs2 ls ⟨q2, hW2.swap, S2, hl⟩) (fun h => absurd rfl h)
set_option maxRecDepth 20000 in
theorem lc_mend (C : lw_C p s m meth c b L xs D cy sa sv) (hi : i + 5 ≤ L) (hn : n < 100000) (nx : LK p l e s m below meth c D cy sa sv a1 a2 b (n + 1) i 823) : LK p l e s m below meth c D cy sa sv a1 a2 b n i 589 := by
  intro wc wm H locs ls J
  obtain ⟨hR, hW, S, hl⟩ := J
  obtain ⟨fC, hoC⟩ := hR.cls
  obtain ⟨fM, hoM⟩ := hR.mod
  obtain ⟨rv, Q, eC, eM, hN⟩ := op_mend hR
  obtain ⟨v, rfl⟩ := hN.i
  refine lv_aload_n C.1.1 C.1.2.1 dL_law_589 rfl (lv_at hl 1 rfl) ?_
  refine lw_call [] C hW S hl.1 eC dL_law_590 wl_L_77 wi_X4_mend we_X4_mend ok_X4_mend cf4 hoC rfl (by simp [ev_e, Value.category]) rfl rfl (by decide) rfl rfl (fun w1 H1 locs1 q1 hW1 S1 => ?_)
  refine lv_aload_n C.1.1 C.1.2.1 dL_law_593 rfl (lv_at hl 2 rfl) ?_
  refine lw_call [] C hW1.swap S1 hl.1 (eM w1 q1) dL_law_594 wl_L_80 wi_X5_mend we_X5_mend ok_X5_mend cf5 hoM rfl (by simp [ev_e, Value.category]) rfl rfl (by simp [Value.category]) rfl rfl (fun w2 H2 locs2 q2 hW2 S2 => ?_)
  exact lv_icmp_eq (tgt := 823) C.1.1 C.1.2.1 dL_law_597 (by decide) (fun _ => nx w1 w2 H2 locs2 ls ⟨q2, hW2.swap, S2, hl⟩) (fun h => absurd rfl h)
set_option maxRecDepth 20000 in
theorem lc_odds (C : lw_C p s m meth c b L xs D cy sa sv) (hi : i + 5 ≤ L) (hn : n < 100000) (nx : LK p l e s m below meth c D cy sa sv a1 a2 b (n + 1) i 823) : LK p l e s m below meth c D cy sa sv a1 a2 b n i 602 := by
  intro wc wm H locs ls J
  obtain ⟨hR, hW, S, hl⟩ := J
  obtain ⟨fC, hoC⟩ := hR.cls
  obtain ⟨fM, hoM⟩ := hR.mod
  obtain ⟨rv, Q, eC, eM, hN⟩ := op_odds (xs (i + 1)) (xs (i + 2)) hR
  obtain ⟨v, rfl⟩ := hN.i
  refine lv_aload_n C.1.1 C.1.2.1 dL_law_602 rfl (lv_at hl 1 rfl) ?_
  refine lw_arg 1 C S hl hi (by omega) (by decide) dL_law_603 dL_law_604 dL_law_605 dL_law_606 dL_law_607 ?_
  refine lw_arg 2 C S hl hi (by omega) (by decide) dL_law_608 dL_law_609 dL_law_610 dL_law_611 dL_law_612 ?_
  refine lw_call [.int (xs (i + 1)), .int (xs (i + 2))] C hW S hl.1 eC dL_law_613 wl_L_81 wi_X4_odds we_X4_odds ok_X4_odds cf4 hoC rfl (by simp [ev_e, Value.category]) rfl rfl (by decide) rfl rfl (fun w1 H1 locs1 q1 hW1 S1 => ?_)
  refine lv_aload_n C.1.1 C.1.2.1 dL_law_616 rfl (lv_at hl 2 rfl) ?_
  refine lw_arg 1 C S1 hl hi (by omega) (by decide) dL_law_617 dL_law_618 dL_law_619 dL_law_620 dL_law_621 ?_
  refine lw_arg 2 C S1 hl hi (by omega) (by decide) dL_law_622 dL_law_623 dL_law_624 dL_law_625 dL_law_626 ?_
  refine lw_call [.int (xs (i + 1)), .int (xs (i + 2))] C hW1.swap S1 hl.1 (eM w1 q1) dL_law_627 wl_L_84 wi_X5_odds we_X5_odds ok_X5_odds cf5 hoM rfl (by simp [ev_e, Value.category]) rfl rfl (by simp [Value.category]) rfl rfl (fun w2 H2 locs2 q2 hW2 S2 => ?_)
  exact lv_icmp_eq (tgt := 823) C.1.1 C.1.2.1 dL_law_630 (by decide) (fun _ => nx w1 w2 H2 locs2 ls ⟨q2, hW2.swap, S2, hl⟩) (fun h => absurd rfl h)
set_option maxRecDepth 20000 in
theorem lc_see (C : lw_C p s m meth c b L xs D cy sa sv) (hi : i + 5 ≤ L) (hn : n < 100000) (nx : LK p l e s m below meth c D cy sa sv a1 a2 b (n + 1) i 823) : LK p l e s m below meth c D cy sa sv a1 a2 b n i 635 := by
  intro wc wm H locs ls J
  obtain ⟨hR, hW, S, hl⟩ := J
  obtain ⟨fC, hoC⟩ := hR.cls
  obtain ⟨fM, hoM⟩ := hR.mod
  obtain ⟨rv, Q, eC, eM, hN⟩ := op_see (xs (i + 1)) (xs (i + 2)) (xs (i + 3)) (if xs (i + 4) = 0 then 0 else 1) (by split <;> simp) hR
  obtain ⟨v, rfl⟩ := hN.i
  refine lv_aload_n C.1.1 C.1.2.1 dL_law_635 rfl (lv_at hl 1 rfl) ?_
  refine lw_arg 1 C S hl hi (by omega) (by decide) dL_law_636 dL_law_637 dL_law_638 dL_law_639 dL_law_640 ?_
  refine lw_arg 2 C S hl hi (by omega) (by decide) dL_law_641 dL_law_642 dL_law_643 dL_law_644 dL_law_645 ?_
  refine lw_arg 3 C S hl hi (by omega) (by decide) dL_law_646 dL_law_647 dL_law_648 dL_law_649 dL_law_650 ?_
  refine lw_arg 4 C S hl hi (by omega) (by decide) dL_law_651 dL_law_652 dL_law_653 dL_law_654 dL_law_655 ?_
  refine lw_bool C dL_law_656 dL_law_659 dL_law_660 dL_law_663 ?_
  refine lw_call [.int (xs (i + 1)), .int (xs (i + 2)), .int (xs (i + 3)), .int (if xs (i + 4) = 0 then 0 else 1)] C hW S hl.1 eC dL_law_664 wl_L_85 wi_X4_see we_X4_see ok_X4_see cf4 hoC rfl (by simp [ev_e, Value.category]) rfl rfl (by decide) rfl rfl (fun w1 H1 locs1 q1 hW1 S1 => ?_)
  refine lv_aload_n C.1.1 C.1.2.1 dL_law_667 rfl (lv_at hl 2 rfl) ?_
  refine lw_arg 1 C S1 hl hi (by omega) (by decide) dL_law_668 dL_law_669 dL_law_670 dL_law_671 dL_law_672 ?_
  refine lw_arg 2 C S1 hl hi (by omega) (by decide) dL_law_673 dL_law_674 dL_law_675 dL_law_676 dL_law_677 ?_
  refine lw_arg 3 C S1 hl hi (by omega) (by decide) dL_law_678 dL_law_679 dL_law_680 dL_law_681 dL_law_682 ?_
  refine lw_arg 4 C S1 hl hi (by omega) (by decide) dL_law_683 dL_law_684 dL_law_685 dL_law_686 dL_law_687 ?_
  refine lw_bool C dL_law_688 dL_law_691 dL_law_692 dL_law_695 ?_
  refine lw_call [.int (xs (i + 1)), .int (xs (i + 2)), .int (xs (i + 3)), .int (if xs (i + 4) = 0 then 0 else 1)] C hW1.swap S1 hl.1 (eM w1 q1) dL_law_696 wl_L_89 wi_X5_see we_X5_see ok_X5_see cf5 hoM rfl (by simp [ev_e, Value.category]) rfl rfl (by simp [Value.category]) rfl rfl (fun w2 H2 locs2 q2 hW2 S2 => ?_)
  exact lv_icmp_eq (tgt := 823) C.1.1 C.1.2.1 dL_law_699 (by decide) (fun _ => nx w1 w2 H2 locs2 ls ⟨q2, hW2.swap, S2, hl⟩) (fun h => absurd rfl h)
set_option maxRecDepth 20000 in
theorem lc_forget (C : lw_C p s m meth c b L xs D cy sa sv) (hi : i + 5 ≤ L) (hn : n < 100000) (nx : LK p l e s m below meth c D cy sa sv a1 a2 b (n + 1) i 823) : LK p l e s m below meth c D cy sa sv a1 a2 b n i 704 := by
  intro wc wm H locs ls J
  obtain ⟨hR, hW, S, hl⟩ := J
  obtain ⟨fC, hoC⟩ := hR.cls
  obtain ⟨fM, hoM⟩ := hR.mod
  obtain ⟨rv, Q, eC, eM, hN⟩ := op_forget hR
  obtain ⟨v, rfl⟩ := hN.i
  refine lv_aload_n C.1.1 C.1.2.1 dL_law_704 rfl (lv_at hl 1 rfl) ?_
  refine lw_call [] C hW S hl.1 eC dL_law_705 wl_L_90 wi_X4_forget we_X4_forget ok_X4_forget cf4 hoC rfl (by simp [ev_e, Value.category]) rfl rfl (by decide) rfl rfl (fun w1 H1 locs1 q1 hW1 S1 => ?_)
  refine lv_aload_n C.1.1 C.1.2.1 dL_law_708 rfl (lv_at hl 2 rfl) ?_
  refine lw_call [] C hW1.swap S1 hl.1 (eM w1 q1) dL_law_709 wl_L_93 wi_X5_forget we_X5_forget ok_X5_forget cf5 hoM rfl (by simp [ev_e, Value.category]) rfl rfl (by simp [Value.category]) rfl rfl (fun w2 H2 locs2 q2 hW2 S2 => ?_)
  exact lv_icmp_eq (tgt := 823) C.1.1 C.1.2.1 dL_law_712 (by decide) (fun _ => nx w1 w2 H2 locs2 ls ⟨q2, hW2.swap, S2, hl⟩) (fun h => absurd rfl h)
set_option maxRecDepth 20000 in
theorem lc_decades (C : lw_C p s m meth c b L xs D cy sa sv) (hi : i + 5 ≤ L) (hn : n < 100000) (nx : LK p l e s m below meth c D cy sa sv a1 a2 b (n + 1) i 823) : LK p l e s m below meth c D cy sa sv a1 a2 b n i 717 := by
  intro wc wm H locs ls J
  obtain ⟨hR, hW, S, hl⟩ := J
  obtain ⟨fC, hoC⟩ := hR.cls
  obtain ⟨fM, hoM⟩ := hR.mod
  obtain ⟨rv, Q, eC, eM, hN⟩ := op_decades (xs (i + 1)) (xs (i + 2)) (xs (i + 3)) hR
  obtain ⟨v, rfl⟩ := hN.i
  refine lv_aload_n C.1.1 C.1.2.1 dL_law_717 rfl (lv_at hl 1 rfl) ?_
  refine lw_arg 1 C S hl hi (by omega) (by decide) dL_law_718 dL_law_719 dL_law_720 dL_law_721 dL_law_722 ?_
  refine lw_arg 2 C S hl hi (by omega) (by decide) dL_law_723 dL_law_724 dL_law_725 dL_law_726 dL_law_727 ?_
  refine lw_arg 3 C S hl hi (by omega) (by decide) dL_law_728 dL_law_729 dL_law_730 dL_law_731 dL_law_732 ?_
  refine lw_call [.int (xs (i + 1)), .int (xs (i + 2)), .int (xs (i + 3))] C hW S hl.1 eC dL_law_733 wl_L_94 wi_X4_decades we_X4_decades ok_X4_decades cf4 hoC rfl (by simp [ev_e, Value.category]) rfl rfl (by decide) rfl rfl (fun w1 H1 locs1 q1 hW1 S1 => ?_)
  refine lv_aload_n C.1.1 C.1.2.1 dL_law_736 rfl (lv_at hl 2 rfl) ?_
  refine lw_arg 1 C S1 hl hi (by omega) (by decide) dL_law_737 dL_law_738 dL_law_739 dL_law_740 dL_law_741 ?_
  refine lw_arg 2 C S1 hl hi (by omega) (by decide) dL_law_742 dL_law_743 dL_law_744 dL_law_745 dL_law_746 ?_
  refine lw_arg 3 C S1 hl hi (by omega) (by decide) dL_law_747 dL_law_748 dL_law_749 dL_law_750 dL_law_751 ?_
  refine lw_call [.int (xs (i + 1)), .int (xs (i + 2)), .int (xs (i + 3))] C hW1.swap S1 hl.1 (eM w1 q1) dL_law_752 wl_L_97 wi_X5_decades we_X5_decades ok_X5_decades cf5 hoM rfl (by simp [ev_e, Value.category]) rfl rfl (by simp [Value.category]) rfl rfl (fun w2 H2 locs2 q2 hW2 S2 => ?_)
  exact lv_icmp_eq (tgt := 823) C.1.1 C.1.2.1 dL_law_755 (by decide) (fun _ => nx w1 w2 H2 locs2 ls ⟨q2, hW2.swap, S2, hl⟩) (fun h => absurd rfl h)
set_option maxRecDepth 20000 in
theorem lc_image (C : lw_C p s m meth c b L xs D cy sa sv) (hi : i + 5 ≤ L) (hn : n < 100000) (nx : LK p l e s m below meth c D cy sa sv a1 a2 b (n + 1) i 823) : LK p l e s m below meth c D cy sa sv a1 a2 b n i 760 := by
  intro wc wm H locs ls J
  obtain ⟨hR, hW, S, hl⟩ := J
  obtain ⟨fC, hoC⟩ := hR.cls
  obtain ⟨fM, hoM⟩ := hR.mod
  obtain ⟨rv, Q, eC, eM, hN⟩ := op_image hR
  obtain ⟨v, rfl⟩ := hN.i
  refine lv_aload_n C.1.1 C.1.2.1 dL_law_760 rfl (lv_at hl 1 rfl) ?_
  refine lw_call [] C hW S hl.1 eC dL_law_761 wl_L_98 wi_X4_image we_X4_image ok_X4_image cf4 hoC rfl (by simp [ev_e, Value.category]) rfl rfl (by decide) rfl rfl (fun w1 H1 locs1 q1 hW1 S1 => ?_)
  refine lv_aload_n C.1.1 C.1.2.1 dL_law_764 rfl (lv_at hl 2 rfl) ?_
  refine lw_call [] C hW1.swap S1 hl.1 (eM w1 q1) dL_law_765 wl_L_101 wi_X5_image we_X5_image ok_X5_image cf5 hoM rfl (by simp [ev_e, Value.category]) rfl rfl (by simp [Value.category]) rfl rfl (fun w2 H2 locs2 q2 hW2 S2 => ?_)
  exact lv_icmp_eq (tgt := 823) C.1.1 C.1.2.1 dL_law_768 (by decide) (fun _ => nx w1 w2 H2 locs2 ls ⟨q2, hW2.swap, S2, hl⟩) (fun h => absurd rfl h)
set_option maxRecDepth 20000 in
theorem lc_restore (C : lw_C p s m meth c b L xs D cy sa sv) (hi : i + 5 ≤ L) (hn : n < 100000) (nx : LK p l e s m below meth c D cy sa sv a1 a2 b (n + 1) i 823) : LK p l e s m below meth c D cy sa sv a1 a2 b n i 773 := by
  intro wc wm H locs ls J
  obtain ⟨hR, hW, S, hl⟩ := J
  obtain ⟨fC, hoC⟩ := hR.cls
  obtain ⟨fM, hoM⟩ := hR.mod
  obtain ⟨rv, Q, eC, eM, hN⟩ := op_restore hn hR
  obtain ⟨v, rfl⟩ := hN.i
  refine lv_aload_n C.1.1 C.1.2.1 dL_law_773 rfl (lv_at hl 1 rfl) ?_
  refine lw_call [] C hW S hl.1 eC dL_law_774 wl_L_102 wi_X4_restore we_X4_restore ok_X4_restore cf4 hoC rfl (by simp [ev_e, Value.category]) rfl rfl (by decide) rfl rfl (fun w1 H1 locs1 q1 hW1 S1 => ?_)
  refine lv_aload_n C.1.1 C.1.2.1 dL_law_777 rfl (lv_at hl 2 rfl) ?_
  refine lw_call [] C hW1.swap S1 hl.1 (eM w1 q1) dL_law_778 wl_L_105 wi_X5_restore we_X5_restore ok_X5_restore cf5 hoM rfl (by simp [ev_e, Value.category]) rfl rfl (by simp [Value.category]) rfl rfl (fun w2 H2 locs2 q2 hW2 S2 => ?_)
  exact lv_icmp_eq (tgt := 823) C.1.1 C.1.2.1 dL_law_781 (by decide) (fun _ => nx w1 w2 H2 locs2 ls ⟨q2, hW2.swap, S2, hl⟩) (fun h => absurd rfl h)
set_option maxRecDepth 20000 in
theorem lc_count (C : lw_C p s m meth c b L xs D cy sa sv) (hi : i + 5 ≤ L) (hn : n < 100000) (nx : LK p l e s m below meth c D cy sa sv a1 a2 b (n + 1) i 823) : LK p l e s m below meth c D cy sa sv a1 a2 b n i 786 := by
  intro wc wm H locs ls J
  obtain ⟨hR, hW, S, hl⟩ := J
  obtain ⟨fC, hoC⟩ := hR.cls
  obtain ⟨fM, hoM⟩ := hR.mod
  obtain ⟨rv, Q, eC, eM, hN⟩ := op_count (xs (i + 1)) hR
  obtain ⟨v, rfl⟩ := hN.i
  refine lv_aload_n C.1.1 C.1.2.1 dL_law_786 rfl (lv_at hl 1 rfl) ?_
  refine lw_arg 1 C S hl hi (by omega) (by decide) dL_law_787 dL_law_788 dL_law_789 dL_law_790 dL_law_791 ?_
  refine lw_call [.int (xs (i + 1))] C hW S hl.1 eC dL_law_792 wl_L_106 wi_X4_count we_X4_count ok_X4_count cf4 hoC rfl (by simp [ev_e, Value.category]) rfl rfl (by decide) rfl rfl (fun w1 H1 locs1 q1 hW1 S1 => ?_)
  refine lv_aload_n C.1.1 C.1.2.1 dL_law_795 rfl (lv_at hl 2 rfl) ?_
  refine lw_arg 1 C S1 hl hi (by omega) (by decide) dL_law_796 dL_law_797 dL_law_798 dL_law_799 dL_law_800 ?_
  refine lw_call [.int (xs (i + 1))] C hW1.swap S1 hl.1 (eM w1 q1) dL_law_801 wl_L_109 wi_X5_count we_X5_count ok_X5_count cf5 hoM rfl (by simp [ev_e, Value.category]) rfl rfl (by simp [Value.category]) rfl rfl (fun w2 H2 locs2 q2 hW2 S2 => ?_)
  exact lv_icmp_eq (tgt := 823) C.1.1 C.1.2.1 dL_law_804 (by decide) (fun _ => nx w1 w2 H2 locs2 ls ⟨q2, hW2.swap, S2, hl⟩) (fun h => absurd rfl h)
theorem lw_cmp (v : Int64) : lg_cmp v v = 0 := by simp [lg_cmp]
set_option maxRecDepth 20000 in
theorem lc_digest (C : lw_C p s m meth c b L xs D cy sa sv) (hi : i + 5 ≤ L) (hn : n < 100000) (nx : LK p l e s m below meth c D cy sa sv a1 a2 b (n + 1) i 823) : LK p l e s m below meth c D cy sa sv a1 a2 b n i 809 := by
  intro wc wm H locs ls J
  obtain ⟨hR, hW, S, hl⟩ := J
  obtain ⟨fC, hoC⟩ := hR.cls
  obtain ⟨fM, hoM⟩ := hR.mod
  obtain ⟨rv, Q, eC, eM, hN⟩ := op_digest hR
  obtain ⟨v, rfl⟩ := hN.l
  refine lv_aload_n C.1.1 C.1.2.1 dL_law_809 rfl (lv_at hl 1 rfl) ?_
  refine lw_call [] C hW S hl.1 eC dL_law_810 wl_L_110 wi_X4_digest we_X4_digest ok_X4_digest cf4 hoC rfl (by simp [ev_e, Value.category]) rfl rfl (by decide) rfl rfl (fun w1 H1 locs1 q1 hW1 S1 => ?_)
  refine lv_aload_n C.1.1 C.1.2.1 dL_law_813 rfl (lv_at hl 2 rfl) ?_
  refine lw_call [] C hW1.swap S1 hl.1 (eM w1 q1) dL_law_814 wl_L_114 wi_X5_digest we_X5_digest ok_X5_digest cf5 hoM rfl (by simp [ev_e, Value.category]) rfl rfl (by simp [Value.category]) rfl rfl (fun w2 H2 locs2 q2 hW2 S2 => ?_)
  refine W.lcmp C.1.1 C.1.2.1 dL_law_817 ?_
  exact lv_if_eq (tgt := 823) C.1.1 C.1.2.1 dL_law_818 (by decide) (fun _ => nx w1 w2 H2 locs2 ls ⟨q2, hW2.swap, S2, hl⟩) (fun h => absurd (lw_cmp v) h)
end LAWC
